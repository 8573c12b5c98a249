set_option maxHeartbeats 4000000 in
set_option maxRecDepth 100000 in
theorem c_X11_addCoil (E : cE) (tt : Nat × Nat × Nat) {X : List Nat} (B : Nat → Nat) (F : tF) (G : tG) (P : tP) {k nc : Nat} (h0 : 0 ∈ X) (h52 : 52 ∈ X) (hk : k ∈ X) (hK : kd k = 0) (hp : P 0 4 = some 52) (hn : F 0 10 = nI nc) (hn16 : nc < 16)  : CT E tt yX11_addCoil cX11_addCoil 2 (some .int) 0 0 0 [.ref (B (0)), .ref (B (k))] (wl E X B F G P) (fun r w => r = some (.int (nI nc)) ∧ w = wl E X B (uF F 0 10 (nI (nc + 1))) G (uP P 52 nc (some k))) := by
  refine CT.mk (by decide +kernel) (Nat.le_of_ble_eq_true rfl) ?_
  intro l p e s m below meth c A ls C hr hlk hnm hw hl
  have hx := C.1
  have hb := C.2.1
  have hts := C.2.2.2.2
  have hown : s.vm.findClass RX11 = some m.cls := C.2.2.2.1
  have hl : lv_has ls 2 [(0, .ref (B (0))), (1, .ref (B (k)))] := hl
  refine lv_aload_n hx hb dX11_addCoil_0 rfl (lv_at hl 0 rfl) ?_
  refine g_i 10 C hw h0 rfl fl_X11_166 rfl dX11_addCoil_1 ?_
  refine tp_i (y := nI nc) (hn) ?_
  refine lv_if_lt (tgt := 19) hx hb dX11_addCoil_4 (by decide) (fun c_4 => ?_) (fun c_4 => ?_)
  · exact absurd c_4 (nI_pos (by omega))
  · refine lv_aload_n hx hb dX11_addCoil_7 rfl (lv_at hl 0 rfl) ?_
    refine g_i 10 C hw h0 rfl fl_X11_166 rfl dX11_addCoil_8 ?_
    refine tp_i (y := nI nc) (hn) ?_
    refine lv_aload_n hx hb dX11_addCoil_11 rfl (lv_at hl 0 rfl) ?_
    refine g_r 4 (k2 := 52) C hw h0 rfl fl_X11_36 rfl hp dX11_addCoil_12 ?_
    refine a_n (v := 16) C hw h52 (by decide) (by decide) rfl dX11_addCoil_15 ?_
    refine lv_icmp_lt (tgt := 22) hx hb dX11_addCoil_16 (by decide) (fun c_16 => ?_) (fun c_16 => ?_)
    · refine lv_aload_n hx hb dX11_addCoil_22 rfl (lv_at hl 0 rfl) ?_
      refine g_r 4 (k2 := 52) C hw h0 rfl fl_X11_36 rfl hp dX11_addCoil_23 ?_
      refine lv_aload_n hx hb dX11_addCoil_26 rfl (lv_at hl 0 rfl) ?_
      refine g_i 10 C hw h0 rfl fl_X11_166 rfl dX11_addCoil_27 ?_
      refine tp_i (y := nI nc) (hn) ?_
      refine lv_aload_n hx hb dX11_addCoil_30 rfl (lv_at hl 1 rfl) ?_
      refine t_q nc (r := 16) (ci2 := 0) (q2 := (RX0, TX0, 7)) C hw h52 rfl (by decide) hk hK (by decide) rfl rfl rfl (show _ < 16 by omega) dX11_addCoil_31 (fun H locs hw => ?_)
      refine lv_aload_n hx hb dX11_addCoil_32 rfl (lv_at hl 0 rfl) ?_
      refine lv_dup hx hb dX11_addCoil_33 rfl ?_
      refine g_i 10 C hw h0 rfl fl_X11_166 rfl dX11_addCoil_34 ?_
      refine tp_i (y := nI nc) (hn) ?_
      refine lv_dup_x1 hx hb dX11_addCoil_37 rfl rfl ?_
      refine lv_iconst (v := 1) hx hb dX11_addCoil_38 (by decide) ?_
      refine lv_iadd hx hb dX11_addCoil_39 ?_
      refine tp_i (y := nI (nc + 1)) (nI_1 _) ?_
      refine p_i 10 C hw h0 rfl fl_X11_166 fc_11 fn_11_10 (fun h9 => by cases h9) rfl rfl rfl dX11_addCoil_40 (fun H locs hw => ?_)
      exact r_i C hr hlk hw ⟨rfl, rfl⟩ dX11_addCoil_43
    · exact absurd (nI_lt (b := 16) hn16 (by decide)) c_16

set_option maxHeartbeats 4000000 in
set_option maxRecDepth 100000 in
theorem c_X11_coil (E : cE) (tt : Nat × Nat × Nat) {X : List Nat} (B : Nat → Nat) (F : tF) (G : tG) {P : tP} {nh : Nat → Nat} {nc no : Nat} {mt om : Nat → Nat} (hR : RC X P nh nc no mt om) (hRX : RX_ X P nh nc no) (hnc : F 0 10 = nI nc) (m0 s0 f0 b0 : Int32) (hb0 : zok b0)  : CT E tt yX11_coil cX11_coil 7 (some .int) 2 1 7 [.ref (B (0)), .int (m0), .int (s0), .int (f0), .int (b0)] (wl E X B F G P) (fun r w => r = some (.int (sp_coil nc m0 s0 f0)) ∧ ((ok_new nc m0 s0 f0 ∧ ∃ i1 : Nat, i1 < 4 ∧ m0 = nI i1 ∧ ∃ B1 : Nat → Nat, (∀ z, z ≠ 53 + nc → B1 z = B z) ∧ w = wl E (X ++ [53 + nc]) B1 (uF (uF (uF (zF F (53 + nc)) (53 + nc) 1 s0) (53 + nc) 6 b0) 0 10 (nI (nc + 1))) (uG (uG (zG G (53 + nc)) (53 + nc) 3 (all_coil s0 f0)) 0 13 (G 0 13 + all_coil s0 f0)) (uP (uP (zP P (53 + nc)) (53 + nc) 0 (some (3 + i1))) 52 nc (some (53 + nc)))) ∨ (¬ ok_new nc m0 s0 f0 ∧ w = wl E X B F G P))) := by
  refine CT.mk (by decide +kernel) (Nat.le_of_ble_eq_true rfl) ?_
  intro l p e s m below meth c A ls C hr hlk hnm hw hl
  have hx := C.1
  have hb := C.2.1
  have hts := C.2.2.2.2
  have hown : s.vm.findClass RX11 = some m.cls := C.2.2.2.1
  have hl : lv_has ls 7 [(0, .ref (B (0))), (1, .int (m0)), (2, .int (s0)), (3, .int (f0)), (4, .int (b0))] := hl
  have hn16 := hR.nc16
  refine lv_aload_n hx hb dX11_coil_0 rfl (lv_at hl 0 rfl) ?_
  refine lv_iload_n hx hb dX11_coil_1 rfl (lv_at hl 1 rfl) ?_
  refine kV C hw (c_X11_metalAt E tt B F G hR (m0)) vy_X11_metalAt ml_X11_85 (rcv hw (hR.f rfl) rfl (by decide) (q2 := (RX11, TX11, 19)) rfl) rfl hl.1 (rest := []) rfl dX11_coil_2 (Nat.le_of_ble_eq_true rfl) ⟨by decide, by decide⟩ ⟨Nat.le_of_ble_eq_true rfl, Nat.le_of_ble_eq_true rfl⟩ (fun v_2 ws_2 H locs hp_2 hq_2 => ?_)
  clear hw
  rcases hp_2 with ⟨i1, hl_i1, rfl, rfl, rfl⟩ | ⟨h_2, rfl, rfl⟩
  · have hw := hq_2
    refine W.eq (g2 := F0 m 5 ls [.ref (B (3 + i1))]) rfl ?_
    have hz_i1 := i4_cl (i := i1) (by omega)
    refine lv_astore (lv' := [(5, .ref (B (3 + i1))), (0, .ref (B (0))), (1, .int (nI i1)), (2, .int (s0)), (3, .int (f0)), (4, .int (b0))]) hx hb dX11_coil_5 hl (by decide) rfl (fun ls hl => ?_)
    refine lv_aload hx hb dX11_coil_7 (lv_at hl 0 rfl) ?_
    refine lv_ifnonnull (tgt := 15) hx hb dX11_coil_9 (by decide) ?_
    have hrg : 0 ≤ nI i1 ∧ nI i1 ≤ 3 := i_rng (i := i1) (n := 3) (by omega) (by decide)
    refine lv_iload_n hx hb dX11_coil_15 rfl (lv_at hl 3 rfl) ?_
    refine kS C hw (c_X11_isSize E tt _ (s0)) vy_X11_isSize ml_X11_136 rfl hl.1 (rest := []) rfl dX11_coil_16 (Nat.le_of_ble_eq_true rfl) ⟨by decide, by decide⟩ ⟨Nat.le_of_ble_eq_true rfl, Nat.le_of_ble_eq_true rfl⟩ (fun v_16 ws_16 H locs hp_16 hq_16 => ?_)
    clear hw
    rcases hp_16 with ⟨h_16, rfl, rfl⟩ | ⟨h_16, rfl, rfl⟩
    · have hw := hq_16
      refine W.eq (g2 := F0 m 19 ls [.int (1)]) rfl ?_
      refine lv_if_eq (tgt := 33) hx hb dX11_coil_19 (by decide) (fun h9 => False.elim (by revert h9; decide)) (fun _ => ?_)
      refine lv_iload_n hx hb dX11_coil_22 rfl (lv_at hl 4 rfl) ?_
      refine lv_iconst (v := 1) hx hb dX11_coil_23 (by decide) ?_
      refine lv_sipush (v := 1000) hx hb dX11_coil_24 (by decide) ?_
      refine kS C hw (c_X11_isWithin E tt _ (f0) (1) (1000)) vy_X11_isWithin ml_X11_89 rfl hl.1 (rest := []) rfl dX11_coil_27 (Nat.le_of_ble_eq_true rfl) ⟨by decide, by decide⟩ ⟨Nat.le_of_ble_eq_true rfl, Nat.le_of_ble_eq_true rfl⟩ (fun v_27 ws_27 H locs hp_27 hq_27 => ?_)
      clear hw
      rcases hp_27 with ⟨h_27, rfl, rfl⟩ | ⟨h_27, rfl, rfl⟩
      · have hw := hq_27
        refine W.eq (g2 := F0 m 30 ls [.int (1)]) rfl ?_
        refine lv_if_ne (tgt := 36) hx hb dX11_coil_30 (by decide) (fun _ => ?_) (fun h9 => False.elim (by revert h9; decide))
        refine lv_aload_n hx hb dX11_coil_36 rfl (lv_at hl 1 rfl) ?_
        refine g_i 10 C hw (hR.f rfl) rfl fl_X11_166 rfl dX11_coil_37 ?_
        refine tp_i (y := nI nc) (hnc) ?_
        refine lv_aload_n hx hb dX11_coil_40 rfl (lv_at hl 1 rfl) ?_
        refine g_r 4 (k2 := 52) C hw (hR.f rfl) rfl fl_X11_36 rfl (hR.p0 4 (by decide)) dX11_coil_41 ?_
        refine a_n (v := 16) C hw (hR.f rfl) (by decide) (by decide) rfl dX11_coil_44 ?_
        refine lv_icmp_lt (tgt := 51) hx hb dX11_coil_45 (by decide) (fun c_45 => ?_) (fun c_45 => ?_)
        · have hlt : nc < 16 := (nI_ltI (b := 16) (by omega) (by decide)).mp c_45
          have hn3 : ¬ nc = 16 := by omega
          refine al_o (53 + nc) (ci := 0) (C0 := RX0) (T0 := TX0) (N0 := 7) (ty0 := tyX0) C hw (hRX.2.1 nc (Nat.le_refl _) (by omega)).1 (hRX.2.1 nc (Nat.le_refl _) (by omega)).2 (kd_coil (by omega)) (by decide) rfl tyX0_ok ux_0 df_0 cl_X11_34 it_X0 in_X0 (Nat.le_of_ble_eq_true rfl) (Nat.le_of_ble_eq_true rfl) dX11_coil_51 (fun B H hB_51 hw => ?_)
          have hl : lv_has ls 7 [(5, .ref (B (3 + i1))), (0, .ref (B (0))), (1, .int (nI i1)), (2, .int (s0)), (3, .int (f0)), (4, .int (b0))] := by rw [hB_51 (3 + i1) (by omega), hB_51 (0) (by omega)]; exact hl
          refine W.eq (g2 := F0 m 54 ls [.ref (B (53 + nc))]) rfl ?_
          refine lv_dup hx hb dX11_coil_54 rfl ?_
          refine lv_aload hx hb dX11_coil_55 (lv_at hl 0 rfl) ?_
          refine lv_iload_n hx hb dX11_coil_57 rfl (lv_at hl 3 rfl) ?_
          refine lv_iload_n hx hb dX11_coil_58 rfl (lv_at hl 3 rfl) ?_
          refine lv_i2l hx hb dX11_coil_59 rfl ?_
          refine lv_iload_n hx hb dX11_coil_60 rfl (lv_at hl 3 rfl) ?_
          refine lv_i2l hx hb dX11_coil_61 rfl ?_
          refine lv_lmul hx hb dX11_coil_62 ?_
          refine lv_iload_n hx hb dX11_coil_63 rfl (lv_at hl 4 rfl) ?_
          refine lv_i2l hx hb dX11_coil_64 rfl ?_
          refine lv_lmul hx hb dX11_coil_65 ?_
          refine tp_l (y := all_coil s0 f0) (rfl) ?_
          refine lv_iload hx hb dX11_coil_66 (lv_at hl 5 rfl) ?_
          refine kI C hw (c_X0_init E tt B (zF F (53 + nc)) (zG G (53 + nc)) (zP P (53 + nc)) (k := 53 + nc) mem_k (kd_coil (by omega)) (k2 := 3 + i1) (s0) (all_coil s0 f0) (b0) hb0) vy_X0_init ml_X11_169 rfl hl.1 (rest := [.ref (B (53 + nc))]) rfl dX11_coil_68 (Nat.le_of_ble_eq_true rfl) ⟨by decide, by decide⟩ ⟨Nat.le_of_ble_eq_true rfl, Nat.le_of_ble_eq_true rfl⟩ (fun v_68 ws_68 H locs hp_68 hq_68 => ?_)
          clear hw
          obtain ⟨rfl, rfl⟩ := hp_68
          have hw := hq_68
          refine W.eq (g2 := F0 m 71 ls [.ref (B (53 + nc))]) rfl ?_
          refine lv_astore (lv' := [(6, .ref (B (53 + nc))), (5, .ref (B (3 + i1))), (0, .ref (B (0))), (1, .int (nI i1)), (2, .int (s0)), (3, .int (f0)), (4, .int (b0))]) hx hb dX11_coil_71 hl (by decide) rfl (fun ls hl => ?_)
          refine lv_aload_n hx hb dX11_coil_73 rfl (lv_at hl 2 rfl) ?_
          refine lv_dup hx hb dX11_coil_74 rfl ?_
          refine g_l 13 C hw (mem_l (hR.f rfl)) rfl fl_X11_172 rfl dX11_coil_75 ?_
          refine tp_l (y := G 0 13) ((uG_n _ _ (Or.inl (by omega))).trans ((congrFun (zG_n _ (by omega)) _).trans (rfl))) ?_
          refine lv_aload hx hb dX11_coil_78 (lv_at hl 0 rfl) ?_
          refine g_l 3 C hw mem_k (kd_coil (by omega)) fl_X11_176 rfl dX11_coil_80 ?_
          refine tp_l (y := all_coil s0 f0) (uG_s _ _ _ _) ?_
          refine lv_ladd hx hb dX11_coil_83 ?_
          refine p_l 13 C hw (mem_l (hR.f rfl)) rfl fl_X11_172 fc_11 fn_11_13 (fun h9 => by cases h9) rfl rfl rfl dX11_coil_84 (fun H locs hw => ?_)
          refine lv_aload_n hx hb dX11_coil_87 rfl (lv_at hl 2 rfl) ?_
          refine lv_aload hx hb dX11_coil_88 (lv_at hl 0 rfl) ?_
          refine kV C hw (c_X11_addCoil E tt B (uF (uF (zF F (53 + nc)) (53 + nc) 1 s0) (53 + nc) 6 b0) (uG (uG (zG G (53 + nc)) (53 + nc) 3 (all_coil s0 f0)) 0 13 ((G 0 13 + all_coil s0 f0))) (uP (zP P (53 + nc)) (53 + nc) 0 (some (3 + i1))) (k := 53 + nc) (nc := nc) (mem_l (hR.f rfl)) (mem_l (hR.f rfl)) mem_k (kd_coil (by omega)) ((uP_n _ _ (Or.inl (by omega))).trans ((congrFun (zP_n P (by omega)) 4).trans (hR.p0 4 (by decide)))) ((uF_n _ _ (Or.inl (by omega))).trans ((uF_n _ _ (Or.inl (by omega))).trans ((congrFun (zF_n F (by omega)) 10).trans hnc))) (by omega)) vy_X11_addCoil ml_X11_179 (rcv hw (mem_l (hR.f rfl)) rfl (by decide) (q2 := (RX11, TX11, 19)) rfl) rfl hl.1 (rest := []) rfl dX11_coil_90 (Nat.le_of_ble_eq_true rfl) ⟨by decide, by decide⟩ ⟨Nat.le_of_ble_eq_true rfl, Nat.le_of_ble_eq_true rfl⟩ (fun v_90 ws_90 H locs hp_90 hq_90 => ?_)
          clear hw
          obtain ⟨rfl, rfl⟩ := hp_90
          have hw := hq_90
          refine W.eq (g2 := F0 m 93 ls [.int (nI nc)]) rfl ?_
          exact r_i C hr hlk hw ⟨(by simp [sp_coil, hrg, h_16, h_27, hn3]), Or.inl ⟨⟨hrg, ⟨h_16, h_27⟩, hn3⟩, i1, hl_i1, rfl, _, hB_51, rfl⟩⟩ dX11_coil_93
        · have hn3 : nc = 16 := by rcases Nat.lt_or_ge nc 16 with h9 | h9; exact absurd (nI_lt (b := 16) h9 (by decide)) c_45; omega
          refine lv_bipush (v := -8) hx hb dX11_coil_48 (by decide) ?_
          refine W.widen (k := 1) (n := 7) (by omega) (by omega) ?_
          exact r_i C hr hlk hw ⟨(by simp [sp_coil, hrg, h_16, h_27, hn3]), Or.inr ⟨fun h9 => h9.2.2 hn3, rfl⟩⟩ dX11_coil_50
      · have hw := hq_27
        refine W.eq (g2 := F0 m 30 ls [.int (0)]) rfl ?_
        refine lv_if_ne (tgt := 36) hx hb dX11_coil_30 (by decide) (fun h9 => False.elim (by revert h9; decide)) (fun _ => ?_)
        refine lv_bipush (v := -3) hx hb dX11_coil_33 (by decide) ?_
        refine W.widen (k := 1) (n := 7) (by omega) (by omega) ?_
        exact r_i C hr hlk hw ⟨(by simp [sp_coil, hrg, h_16, h_27]), Or.inr ⟨fun h9 => h_27 h9.2.1.2, rfl⟩⟩ dX11_coil_35
    · have hw := hq_16
      refine W.eq (g2 := F0 m 19 ls [.int (0)]) rfl ?_
      refine lv_if_eq (tgt := 33) hx hb dX11_coil_19 (by decide) (fun _ => ?_) (fun h9 => False.elim (by revert h9; decide))
      refine lv_bipush (v := -3) hx hb dX11_coil_33 (by decide) ?_
      refine W.widen (k := 1) (n := 7) (by omega) (by omega) ?_
      exact r_i C hr hlk hw ⟨(by simp [sp_coil, hrg, h_16]), Or.inr ⟨fun h9 => h_16 h9.2.1.1, rfl⟩⟩ dX11_coil_35
  · have hw := hq_2
    refine W.eq (g2 := F0 m 5 ls [.null]) rfl ?_
    refine lv_astoreN (lv' := [(5, .null), (0, .ref (B (0))), (1, .int (m0)), (2, .int (s0)), (3, .int (f0)), (4, .int (b0))]) hx hb dX11_coil_5 hl (by decide) rfl (fun ls hl => ?_)
    refine lv_aloadN hx hb dX11_coil_7 (lv_at hl 0 rfl) ?_
    refine lv_ifnonnullN hx hb dX11_coil_9 ?_
    have hrg : ¬ (0 ≤ m0 ∧ m0 ≤ 3) := fun h9 => by obtain ⟨i, hi, e⟩ := n_of (n := 3) h9.1 h9.2 (by decide); exact h_2 i (by omega) e
    refine lv_bipush (v := -2) hx hb dX11_coil_12 (by decide) ?_
    refine W.widen (k := 1) (n := 7) (by omega) (by omega) ?_
    exact r_i C hr hlk hw ⟨(by simp [sp_coil, hrg]), Or.inr ⟨fun h9 => hrg h9.1, rfl⟩⟩ dX11_coil_14

set_option maxHeartbeats 4000000 in
set_option maxRecDepth 100000 in
theorem c_X11_part (E : cE) (tt : Nat × Nat × Nat) {X : List Nat} (B : Nat → Nat) (F : tF) (G : tG) {P : tP} {nh : Nat → Nat} {nc no : Nat} {mt om : Nat → Nat} (hR : RC X P nh nc no mt om) (hCK : CK F G nc) (hRX : RX_ X P nh nc no) (hnc : F 0 10 = nI nc) (hbad : ∀ c, c < nc → zok (F (53 + c) 6)) (c0 f0 : Int32)  : CT E tt yX11_part cX11_part 7 (some .int) 4 1 7 [.ref (B (0)), .int (c0), .int (f0)] (wl E X B F G P) (fun r w => r = some (.int (sp_part (vF F) (vG G) nc c0 f0)) ∧ ((ok_part (vF F) (vG G) nc c0 f0 ∧ ∃ c1 : Nat, c1 < nc ∧ c0 = nI c1 ∧ ∃ B1 : Nat → Nat, (∀ z, z ≠ 53 + nc → B1 z = B z) ∧ w = wl E (X ++ [53 + nc]) B1 (uF (uF (uF (uF (uF (uF (zF F (53 + nc)) (53 + nc) 1 (F (53 + c1) 1)) (53 + nc) 6 (F (53 + c1) 6)) (53 + nc) 2 (F (53 + c1) 2)) (53 + nc) 4 (F (53 + c1) 4)) (53 + nc) 5 (F (53 + c1) 5)) 0 10 (nI (nc + 1))) (uG (uG (zG G (53 + nc)) (53 + nc) 3 (G (53 + c1) 3 - stay (vF F) c1 f0)) (53 + c1) 3 (stay (vF F) c1 f0)) (uP (uP (zP P (53 + nc)) (53 + nc) 0 (some (3 + mt c1))) 52 nc (some (53 + nc)))) ∨ (¬ ok_part (vF F) (vG G) nc c0 f0 ∧ w = wl E X B F G P))) := by
  refine CT.mk (by decide +kernel) (Nat.le_of_ble_eq_true rfl) ?_
  intro l p e s m below meth c A ls C hr hlk hnm hw hl
  have hx := C.1
  have hb := C.2.1
  have hts := C.2.2.2.2
  have hown : s.vm.findClass RX11 = some m.cls := C.2.2.2.1
  have hl : lv_has ls 7 [(0, .ref (B (0))), (1, .int (c0)), (2, .int (f0))] := hl
  have hn16 := hR.nc16
  refine lv_aload_n hx hb dX11_part_0 rfl (lv_at hl 0 rfl) ?_
  refine lv_iload_n hx hb dX11_part_1 rfl (lv_at hl 1 rfl) ?_
  refine kV C hw (c_X11_coilAt E tt B F G hR hCK (c0)) vy_X11_coilAt ml_X11_183 (rcv hw (hR.f rfl) rfl (by decide) (q2 := (RX11, TX11, 19)) rfl) rfl hl.1 (rest := []) rfl dX11_part_2 (Nat.le_of_ble_eq_true rfl) ⟨by decide, by decide⟩ ⟨Nat.le_of_ble_eq_true rfl, Nat.le_of_ble_eq_true rfl⟩ (fun v_2 ws_2 H locs hp_2 hq_2 => ?_)
  clear hw
  rcases hp_2 with ⟨c1, hl_c1, rfl, ok_2, rfl, rfl⟩ | ⟨h_2, rfl, rfl⟩
  · have hw := hq_2
    refine W.eq (g2 := F0 m 5 ls [.ref (B (53 + c1))]) rfl ?_
    have hn16 := hR.nc16
    have hz_c1 := i4_cl (i := c1) (by omega)
    have v1_c1 := vF_at (lc_c1 (c := c1) (by omega)) F
    have v2_c1 := vF_at (lc_c2 (c := c1) (by omega)) F
    have v3_c1 := vG_at (lc_c3 (c := c1) (by omega)) G
    have v4_c1 := vF_at (lc_c4 (c := c1) (by omega)) F
    have v5_c1 := vF_at (lc_c5 (c := c1) (by omega)) F
    have v6_c1 := vF_at (lc_c6 (c := c1) (by omega)) F
    refine lv_astore_n (lv' := [(3, .ref (B (53 + c1))), (0, .ref (B (0))), (1, .int (nI c1)), (2, .int (f0))]) hx hb dX11_part_5 rfl hl (by decide) rfl (fun ls hl => ?_)
    refine lv_aload_n hx hb dX11_part_6 rfl (lv_at hl 0 rfl) ?_
    refine lv_ifnonnull (tgt := 13) hx hb dX11_part_7 (by decide) ?_
    have hfe : w_feet (vF F) (vG G) c1 = w_ft (G (53 + c1) 3) (F (53 + c1) 1) := by rw [w_feet_e, v3_c1, v1_c1]
    refine lv_iload_n hx hb dX11_part_13 rfl (lv_at hl 3 rfl) ?_
    refine lv_iconst (v := 1) hx hb dX11_part_14 (by decide) ?_
    refine lv_aload_n hx hb dX11_part_15 rfl (lv_at hl 0 rfl) ?_
    refine kV C hw (c_X0_feet E tt B F G P (hR.xc (by omega)) (kd_coil (by omega))  ((hCK c1 hl_c1).1)) vy_X0_feet ml_X11_200 (rcv hw (hR.xc (by omega)) (kd_coil (by omega)) (by decide) (q2 := (RX0, TX0, 7)) rfl) rfl hl.1 (rest := [.int (1), .int (f0)]) rfl dX11_part_16 (Nat.le_of_ble_eq_true rfl) ⟨by decide, by decide⟩ ⟨Nat.le_of_ble_eq_true rfl, Nat.le_of_ble_eq_true rfl⟩ (fun v_16 ws_16 H locs hp_16 hq_16 => ?_)
    clear hw
    obtain ⟨rfl, rfl⟩ := hp_16
    have hw := hq_16
    refine W.eq (g2 := F0 m 19 ls [.int (w_ft (G (53 + c1) 3) (F (53 + c1) 1)), .int (1), .int (f0)]) rfl ?_
    refine lv_iconst (v := 1) hx hb dX11_part_19 (by decide) ?_
    refine lv_isub hx hb dX11_part_20 ?_
    refine kS C hw (c_X11_isWithin E tt _ (f0) (1) ((w_ft (G (53 + c1) 3) (F (53 + c1) 1) - 1))) vy_X11_isWithin ml_X11_89 rfl hl.1 (rest := []) rfl dX11_part_21 (Nat.le_of_ble_eq_true rfl) ⟨by decide, by decide⟩ ⟨Nat.le_of_ble_eq_true rfl, Nat.le_of_ble_eq_true rfl⟩ (fun v_21 ws_21 H locs hp_21 hq_21 => ?_)
    clear hw
    rcases hp_21 with ⟨h_21, rfl, rfl⟩ | ⟨h_21, rfl, rfl⟩
    · have hw := hq_21
      refine W.eq (g2 := F0 m 24 ls [.int (1)]) rfl ?_
      refine lv_if_ne (tgt := 30) hx hb dX11_part_24 (by decide) (fun _ => ?_) (fun h9 => False.elim (by revert h9; decide))
      refine lv_aload_n hx hb dX11_part_30 rfl (lv_at hl 1 rfl) ?_
      refine g_i 10 C hw (hR.f rfl) rfl fl_X11_166 rfl dX11_part_31 ?_
      refine tp_i (y := nI nc) (hnc) ?_
      refine lv_aload_n hx hb dX11_part_34 rfl (lv_at hl 1 rfl) ?_
      refine g_r 4 (k2 := 52) C hw (hR.f rfl) rfl fl_X11_36 rfl (hR.p0 4 (by decide)) dX11_part_35 ?_
      refine a_n (v := 16) C hw (hR.f rfl) (by decide) (by decide) rfl dX11_part_38 ?_
      refine lv_icmp_lt (tgt := 45) hx hb dX11_part_39 (by decide) (fun c_39 => ?_) (fun c_39 => ?_)
      · have hlt : nc < 16 := (nI_ltI (b := 16) (by omega) (by decide)).mp c_39
        have hn3 : ¬ nc = 16 := by omega
        refine lv_aload_n hx hb dX11_part_45 rfl (lv_at hl 0 rfl) ?_
        refine lv_iload_n hx hb dX11_part_46 rfl (lv_at hl 3 rfl) ?_
        refine kV C hw (c_X0_stuffOf E tt B F G P (hR.xc (by omega)) (kd_coil (by omega)) (f0)) vy_X0_stuffOf ml_X11_267 (rcv hw (hR.xc (by omega)) (kd_coil (by omega)) (by decide) (q2 := (RX0, TX0, 7)) rfl) rfl hl.1 (rest := []) rfl dX11_part_47 (Nat.le_of_ble_eq_true rfl) ⟨by decide, by decide⟩ ⟨Nat.le_of_ble_eq_true rfl, Nat.le_of_ble_eq_true rfl⟩ (fun v_47 ws_47 H locs hp_47 hq_47 => ?_)
        clear hw
        obtain ⟨rfl, rfl⟩ := hp_47
        have hw := hq_47
        refine W.eq (g2 := F0 m 50 ls [.long ((F (53 + c1) 1).toInt64 * (F (53 + c1) 1).toInt64 * (f0 : Int32).toInt64)]) rfl ?_
        refine tp_l (y := stay (vF F) c1 f0) (by rw [stay, v1_c1]) ?_
        refine lv_lstore (lv' := [(4, .long (stay (vF F) c1 f0)), (3, .ref (B (53 + c1))), (0, .ref (B (0))), (1, .int (nI c1)), (2, .int (f0))]) hx hb dX11_part_50 hl (by decide) rfl (fun ls hl => ?_)
        refine al_o (53 + nc) (ci := 0) (C0 := RX0) (T0 := TX0) (N0 := 7) (ty0 := tyX0) C hw (hRX.2.1 nc (Nat.le_refl _) (by omega)).1 (hRX.2.1 nc (Nat.le_refl _) (by omega)).2 (kd_coil (by omega)) (by decide) rfl tyX0_ok ux_0 df_0 cl_X11_34 it_X0 in_X0 (Nat.le_of_ble_eq_true rfl) (Nat.le_of_ble_eq_true rfl) dX11_part_52 (fun B H hB_52 hw => ?_)
        have hl : lv_has ls 7 [(4, .long (stay (vF F) c1 f0)), (3, .ref (B (53 + c1))), (0, .ref (B (0))), (1, .int (nI c1)), (2, .int (f0))] := by rw [hB_52 (53 + c1) (by omega), hB_52 (0) (by omega)]; exact hl
        refine W.eq (g2 := F0 m 55 ls [.ref (B (53 + nc))]) rfl ?_
        refine lv_dup hx hb dX11_part_55 rfl ?_
        refine lv_aload_n hx hb dX11_part_56 rfl (lv_at hl 1 rfl) ?_
        refine g_r 0 (k2 := 3 + mt c1) C hw (mem_l (hR.xc (by omega))) (kd_coil (by omega)) fl_X11_187 rfl ((congrFun (zP_n P (by omega)) _).trans (hR.cm (by omega))) dX11_part_57 ?_
        refine lv_aload_n hx hb dX11_part_60 rfl (lv_at hl 1 rfl) ?_
        refine g_i 1 C hw (mem_l (hR.xc (by omega))) (kd_coil (by omega)) fl_X11_194 rfl dX11_part_61 ?_
        refine tp_i (y := F (53 + c1) 1) ((congrFun (zF_n _ (by omega)) _).trans (rfl)) ?_
        refine lv_aload_n hx hb dX11_part_64 rfl (lv_at hl 1 rfl) ?_
        refine g_l 3 C hw (mem_l (hR.xc (by omega))) (kd_coil (by omega)) fl_X11_176 rfl dX11_part_65 ?_
        refine tp_l (y := G (53 + c1) 3) ((congrFun (zG_n _ (by omega)) _).trans (rfl)) ?_
        refine lv_lload hx hb dX11_part_68 (lv_at hl 0 rfl) ?_
        refine lv_lsub hx hb dX11_part_70 ?_
        refine lv_aload_n hx hb dX11_part_71 rfl (lv_at hl 1 rfl) ?_
        refine g_i 6 C hw (mem_l (hR.xc (by omega))) (kd_coil (by omega)) fl_X11_209 rfl dX11_part_72 ?_
        refine tp_i (y := F (53 + c1) 6) ((congrFun (zF_n _ (by omega)) _).trans (rfl)) ?_
        refine kI C hw (c_X0_init E tt B (zF F (53 + nc)) (zG G (53 + nc)) (zP P (53 + nc)) (k := 53 + nc) mem_k (kd_coil (by omega)) (k2 := 3 + mt c1) (F (53 + c1) 1) (G (53 + c1) 3 - stay (vF F) c1 f0) (F (53 + c1) 6) (hbad c1 hl_c1)) vy_X0_init ml_X11_169 rfl hl.1 (rest := [.ref (B (53 + nc))]) rfl dX11_part_75 (Nat.le_of_ble_eq_true rfl) ⟨by decide, by decide⟩ ⟨Nat.le_of_ble_eq_true rfl, Nat.le_of_ble_eq_true rfl⟩ (fun v_75 ws_75 H locs hp_75 hq_75 => ?_)
        clear hw
        obtain ⟨rfl, rfl⟩ := hp_75
        have hw := hq_75
        refine W.eq (g2 := F0 m 78 ls [.ref (B (53 + nc))]) rfl ?_
        refine lv_astore (lv' := [(6, .ref (B (53 + nc))), (4, .long (stay (vF F) c1 f0)), (3, .ref (B (53 + c1))), (0, .ref (B (0))), (1, .int (nI c1)), (2, .int (f0))]) hx hb dX11_part_78 hl (by decide) rfl (fun ls hl => ?_)
        refine lv_aload hx hb dX11_part_80 (lv_at hl 0 rfl) ?_
        refine lv_aload_n hx hb dX11_part_82 rfl (lv_at hl 2 rfl) ?_
        refine g_i 2 C hw (mem_l (hR.xc (by omega))) (kd_coil (by omega)) fl_X11_197 rfl dX11_part_83 ?_
        refine tp_i (y := F (53 + c1) 2) ((uF_n _ _ (Or.inl (by omega))).trans ((uF_n _ _ (Or.inl (by omega))).trans ((congrFun (zF_n _ (by omega)) _).trans (rfl)))) ?_
        refine p_i 2 C hw mem_k (kd_coil (by omega)) fl_X11_197 fc_0 fn_0_2 (fun h9 => by cases h9) rfl rfl rfl dX11_part_86 (fun H locs hw => ?_)
        refine lv_aload hx hb dX11_part_89 (lv_at hl 0 rfl) ?_
        refine lv_aload_n hx hb dX11_part_91 rfl (lv_at hl 2 rfl) ?_
        refine g_i 4 C hw (mem_l (hR.xc (by omega))) (kd_coil (by omega)) fl_X11_203 rfl dX11_part_92 ?_
        refine tp_i (y := F (53 + c1) 4) ((uF_n _ _ (Or.inl (by omega))).trans ((uF_n _ _ (Or.inl (by omega))).trans ((uF_n _ _ (Or.inl (by omega))).trans ((congrFun (zF_n _ (by omega)) _).trans (rfl))))) ?_
        refine p_i 4 C hw mem_k (kd_coil (by omega)) fl_X11_203 fc_0 fn_0_4 (fun h9 => by cases h9) rfl rfl rfl dX11_part_95 (fun H locs hw => ?_)
        refine lv_aload hx hb dX11_part_98 (lv_at hl 0 rfl) ?_
        refine lv_aload_n hx hb dX11_part_100 rfl (lv_at hl 2 rfl) ?_
        refine g_i 5 C hw (mem_l (hR.xc (by omega))) (kd_coil (by omega)) fl_X11_206 rfl dX11_part_101 ?_
        refine tp_i (y := F (53 + c1) 5) ((uF_n _ _ (Or.inl (by omega))).trans ((uF_n _ _ (Or.inl (by omega))).trans ((uF_n _ _ (Or.inl (by omega))).trans ((uF_n _ _ (Or.inl (by omega))).trans ((congrFun (zF_n _ (by omega)) _).trans (rfl)))))) ?_
        refine p_i 5 C hw mem_k (kd_coil (by omega)) fl_X11_206 fc_0 fn_0_5 (fun h9 => by cases h9) rfl rfl rfl dX11_part_104 (fun H locs hw => ?_)
        refine lv_aload_n hx hb dX11_part_107 rfl (lv_at hl 2 rfl) ?_
        refine lv_lload hx hb dX11_part_108 (lv_at hl 1 rfl) ?_
        refine p_l 3 C hw (mem_l (hR.xc (by omega))) (kd_coil (by omega)) fl_X11_176 fc_0 fn_0_3 (fun h9 => by cases h9) rfl rfl rfl dX11_part_110 (fun H locs hw => ?_)
        refine lv_aload_n hx hb dX11_part_113 rfl (lv_at hl 3 rfl) ?_
        refine lv_aload hx hb dX11_part_114 (lv_at hl 0 rfl) ?_
        refine kV C hw (c_X11_addCoil E tt B (uF (uF (uF (uF (uF (zF F (53 + nc)) (53 + nc) 1 (F (53 + c1) 1)) (53 + nc) 6 (F (53 + c1) 6)) (53 + nc) 2 (F (53 + c1) 2)) (53 + nc) 4 (F (53 + c1) 4)) (53 + nc) 5 (F (53 + c1) 5)) (uG (uG (zG G (53 + nc)) (53 + nc) 3 (G (53 + c1) 3 - stay (vF F) c1 f0)) (53 + c1) 3 (stay (vF F) c1 f0)) (uP (zP P (53 + nc)) (53 + nc) 0 (some (3 + mt c1))) (k := 53 + nc) (nc := nc) (mem_l (hR.f rfl)) (mem_l (hR.f rfl)) mem_k (kd_coil (by omega)) ((uP_n _ _ (Or.inl (by omega))).trans ((congrFun (zP_n P (by omega)) 4).trans (hR.p0 4 (by decide)))) ((uF_n _ _ (Or.inl (by omega))).trans ((uF_n _ _ (Or.inl (by omega))).trans ((uF_n _ _ (Or.inl (by omega))).trans ((uF_n _ _ (Or.inl (by omega))).trans ((uF_n _ _ (Or.inl (by omega))).trans ((congrFun (zF_n F (by omega)) 10).trans hnc)))))) (by omega)) vy_X11_addCoil ml_X11_179 (rcv hw (mem_l (hR.f rfl)) rfl (by decide) (q2 := (RX11, TX11, 19)) rfl) rfl hl.1 (rest := []) rfl dX11_part_116 (Nat.le_of_ble_eq_true rfl) ⟨by decide, by decide⟩ ⟨Nat.le_of_ble_eq_true rfl, Nat.le_of_ble_eq_true rfl⟩ (fun v_116 ws_116 H locs hp_116 hq_116 => ?_)
        clear hw
        obtain ⟨rfl, rfl⟩ := hp_116
        have hw := hq_116
        refine W.eq (g2 := F0 m 119 ls [.int (nI nc)]) rfl ?_
        exact r_i C hr hlk hw ⟨(by rw [sp_part, if_pos ok_2, hz_c1, hfe, if_pos h_21, if_neg hn3]), Or.inl ⟨⟨ok_2, (by rw [hz_c1, hfe]; exact h_21), hn3⟩, c1, hl_c1, rfl, _, hB_52, rfl⟩⟩ dX11_part_119
      · have hn3 : nc = 16 := by rcases Nat.lt_or_ge nc 16 with h9 | h9; exact absurd (nI_lt (b := 16) h9 (by decide)) c_39; omega
        refine lv_bipush (v := -8) hx hb dX11_part_42 (by decide) ?_
        refine W.widen (k := 1) (n := 7) (by omega) (by omega) ?_
        exact r_i C hr hlk hw ⟨(by rw [sp_part, if_pos ok_2, hz_c1, hfe, if_pos h_21, if_pos hn3]), Or.inr ⟨fun h9 => h9.2.2 hn3, rfl⟩⟩ dX11_part_44
    · have hw := hq_21
      refine W.eq (g2 := F0 m 24 ls [.int (0)]) rfl ?_
      refine lv_if_ne (tgt := 30) hx hb dX11_part_24 (by decide) (fun h9 => False.elim (by revert h9; decide)) (fun _ => ?_)
      refine lv_bipush (v := -3) hx hb dX11_part_27 (by decide) ?_
      refine W.widen (k := 1) (n := 7) (by omega) (by omega) ?_
      exact r_i C hr hlk hw ⟨(by rw [sp_part, if_pos ok_2, hz_c1, hfe, if_neg h_21]), Or.inr ⟨fun h9 => h_21 (by have := h9.2.1; rw [hz_c1, hfe] at this; exact this), rfl⟩⟩ dX11_part_29
  · have hw := hq_2
    refine W.eq (g2 := F0 m 5 ls [.null]) rfl ?_
    refine lv_astore_nN (lv' := [(3, .null), (0, .ref (B (0))), (1, .int (c0)), (2, .int (f0))]) hx hb dX11_part_5 rfl hl (by decide) rfl (fun ls hl => ?_)
    refine lv_aload_nN hx hb dX11_part_6 rfl (lv_at hl 0 rfl) ?_
    refine lv_ifnonnullN hx hb dX11_part_7 ?_
    refine lv_bipush (v := -2) hx hb dX11_part_10 (by decide) ?_
    refine W.widen (k := 1) (n := 7) (by omega) (by omega) ?_
    exact r_i C hr hlk hw ⟨(by simp [sp_part, h_2]), Or.inr ⟨fun h9 => h_2 h9.1, rfl⟩⟩ dX11_part_12

set_option maxHeartbeats 4000000 in
set_option maxRecDepth 100000 in
theorem c_X11_isRange (E : cE) (tt : Nat × Nat × Nat) (ws : va_W) (lo hi : Int32)  : CT E tt yX11_isRange cX11_isRange 2 (some .boolean) 2 0 0 [.int (lo), .int (hi)] ws (fun r w => (((20 ≤ lo ∧ lo ≤ 1000) ∧ (20 ≤ hi ∧ hi ≤ 1000) ∧ ¬ hi < lo) ∧ r = some (.int 1) ∧ w = ws) ∨ (¬ ((20 ≤ lo ∧ lo ≤ 1000) ∧ (20 ≤ hi ∧ hi ≤ 1000) ∧ ¬ hi < lo) ∧ r = some (.int 0) ∧ w = ws)) := by
  refine CT.mk (by decide +kernel) (Nat.le_of_ble_eq_true rfl) ?_
  intro l p e s m below meth c A ls C hr hlk hnm hw hl
  have hx := C.1
  have hb := C.2.1
  have hts := C.2.2.2.2
  have hown : s.vm.findClass RX11 = some m.cls := C.2.2.2.1
  have hl : lv_has ls 2 [(0, .int (lo)), (1, .int (hi))] := hl
  refine lv_iload_n hx hb dX11_isRange_0 rfl (lv_at hl 0 rfl) ?_
  refine kS C hw (c_X11_isSize E tt _ (lo)) vy_X11_isSize ml_X11_136 rfl hl.1 (rest := []) rfl dX11_isRange_1 (Nat.le_of_ble_eq_true rfl) ⟨by decide, by decide⟩ ⟨Nat.le_of_ble_eq_true rfl, Nat.le_of_ble_eq_true rfl⟩ (fun v_1 ws_1 H locs hp_1 hq_1 => ?_)
  clear hw
  rcases hp_1 with ⟨h_1, rfl, rfl⟩ | ⟨h_1, rfl, rfl⟩
  · have hw := hq_1
    refine W.eq (g2 := F0 m 4 ls [.int (1)]) rfl ?_
    refine lv_if_eq (tgt := 23) hx hb dX11_isRange_4 (by decide) (fun h9 => False.elim (by revert h9; decide)) (fun _ => ?_)
    refine lv_iload_n hx hb dX11_isRange_7 rfl (lv_at hl 1 rfl) ?_
    refine kS C hw (c_X11_isSize E tt _ (hi)) vy_X11_isSize ml_X11_136 rfl hl.1 (rest := []) rfl dX11_isRange_8 (Nat.le_of_ble_eq_true rfl) ⟨by decide, by decide⟩ ⟨Nat.le_of_ble_eq_true rfl, Nat.le_of_ble_eq_true rfl⟩ (fun v_8 ws_8 H locs hp_8 hq_8 => ?_)
    clear hw
    rcases hp_8 with ⟨h_8, rfl, rfl⟩ | ⟨h_8, rfl, rfl⟩
    · have hw := hq_8
      refine W.eq (g2 := F0 m 11 ls [.int (1)]) rfl ?_
      refine lv_if_eq (tgt := 23) hx hb dX11_isRange_11 (by decide) (fun h9 => False.elim (by revert h9; decide)) (fun _ => ?_)
      refine lv_iload_n hx hb dX11_isRange_14 rfl (lv_at hl 0 rfl) ?_
      refine lv_iload_n hx hb dX11_isRange_15 rfl (lv_at hl 1 rfl) ?_
      refine lv_icmp_gt (tgt := 23) hx hb dX11_isRange_16 (by decide) (fun c_16 => ?_) (fun c_16 => ?_)
      · refine lv_iconst (v := 0) hx hb dX11_isRange_23 (by decide) ?_
        exact r_z C hr hlk hw rfl (Or.inr ⟨fun h9 => h9.2.2 c_16, rfl, rfl⟩) dX11_isRange_24
      · refine lv_iconst (v := 1) hx hb dX11_isRange_19 (by decide) ?_
        refine lv_goto (tgt := 24) hx hb dX11_isRange_20 (by decide) ?_
        exact r_z C hr hlk hw rfl (Or.inl ⟨⟨h_1, h_8, c_16⟩, rfl, rfl⟩) dX11_isRange_24
    · have hw := hq_8
      refine W.eq (g2 := F0 m 11 ls [.int (0)]) rfl ?_
      refine lv_if_eq (tgt := 23) hx hb dX11_isRange_11 (by decide) (fun _ => ?_) (fun h9 => False.elim (by revert h9; decide))
      refine lv_iconst (v := 0) hx hb dX11_isRange_23 (by decide) ?_
      exact r_z C hr hlk hw rfl (Or.inr ⟨fun h9 => h_8 h9.2.1, rfl, rfl⟩) dX11_isRange_24
  · have hw := hq_1
    refine W.eq (g2 := F0 m 4 ls [.int (0)]) rfl ?_
    refine lv_if_eq (tgt := 23) hx hb dX11_isRange_4 (by decide) (fun _ => ?_) (fun h9 => False.elim (by revert h9; decide))
    refine lv_iconst (v := 0) hx hb dX11_isRange_23 (by decide) ?_
    exact r_z C hr hlk hw rfl (Or.inr ⟨fun h9 => h_1 h9.1, rfl, rfl⟩) dX11_isRange_24

set_option maxHeartbeats 4000000 in
set_option maxRecDepth 100000 in
theorem c_X11_order (E : cE) (tt : Nat × Nat × Nat) {X : List Nat} (B : Nat → Nat) (F : tF) (G : tG) {P : tP} {nh : Nat → Nat} {nc no : Nat} {mt om : Nat → Nat} (hR : RC X P nh nc no mt om) (hRX : RX_ X P nh nc no) (hno : F 0 11 = nI no) (m0 lo hi f0 : Int32)  : CT E tt yX11_order cX11_order 6 (some .int) 3 1 5 [.ref (B (0)), .int (m0), .int (lo), .int (hi), .int (f0)] (wl E X B F G P) (fun r w => r = some (.int (sp_order no m0 lo hi f0)) ∧ ((ok_ord no m0 lo hi f0 ∧ ∃ i1 : Nat, i1 < 4 ∧ m0 = nI i1 ∧ ∃ B1 : Nat → Nat, (∀ z, z ≠ 70 + no → B1 z = B z) ∧ w = wl E (X ++ [70 + no]) B1 (uF (uF (uF (uF (zF F (70 + no)) (70 + no) 1 lo) (70 + no) 2 hi) (70 + no) 3 f0) 0 11 (nI (no + 1))) (zG G (70 + no)) (uP (uP (zP P (70 + no)) (70 + no) 0 (some (3 + i1))) 69 no (some (70 + no)))) ∨ (¬ ok_ord no m0 lo hi f0 ∧ w = wl E X B F G P))) := by
  refine CT.mk (by decide +kernel) (Nat.le_of_ble_eq_true rfl) ?_
  intro l p e s m below meth c A ls C hr hlk hnm hw hl
  have hx := C.1
  have hb := C.2.1
  have hts := C.2.2.2.2
  have hown : s.vm.findClass RX11 = some m.cls := C.2.2.2.1
  have hl : lv_has ls 6 [(0, .ref (B (0))), (1, .int (m0)), (2, .int (lo)), (3, .int (hi)), (4, .int (f0))] := hl
  have ho6 := hR.no6
  refine lv_aload_n hx hb dX11_order_0 rfl (lv_at hl 0 rfl) ?_
  refine lv_iload_n hx hb dX11_order_1 rfl (lv_at hl 1 rfl) ?_
  refine kV C hw (c_X11_metalAt E tt B F G hR (m0)) vy_X11_metalAt ml_X11_85 (rcv hw (hR.f rfl) rfl (by decide) (q2 := (RX11, TX11, 19)) rfl) rfl hl.1 (rest := []) rfl dX11_order_2 (Nat.le_of_ble_eq_true rfl) ⟨by decide, by decide⟩ ⟨Nat.le_of_ble_eq_true rfl, Nat.le_of_ble_eq_true rfl⟩ (fun v_2 ws_2 H locs hp_2 hq_2 => ?_)
  clear hw
  rcases hp_2 with ⟨i1, hl_i1, rfl, rfl, rfl⟩ | ⟨h_2, rfl, rfl⟩
  · have hw := hq_2
    refine W.eq (g2 := F0 m 5 ls [.ref (B (3 + i1))]) rfl ?_
    have hz_i1 := i4_cl (i := i1) (by omega)
    refine lv_astore (lv' := [(5, .ref (B (3 + i1))), (0, .ref (B (0))), (1, .int (nI i1)), (2, .int (lo)), (3, .int (hi)), (4, .int (f0))]) hx hb dX11_order_5 hl (by decide) rfl (fun ls hl => ?_)
    refine lv_aload hx hb dX11_order_7 (lv_at hl 0 rfl) ?_
    refine lv_ifnonnull (tgt := 15) hx hb dX11_order_9 (by decide) ?_
    have hrg : 0 ≤ nI i1 ∧ nI i1 ≤ 3 := i_rng (i := i1) (n := 3) (by omega) (by decide)
    refine lv_iload_n hx hb dX11_order_15 rfl (lv_at hl 3 rfl) ?_
    refine lv_iload_n hx hb dX11_order_16 rfl (lv_at hl 4 rfl) ?_
    refine kS C hw (c_X11_isRange E tt _ (lo) (hi)) vy_X11_isRange ml_X11_295 rfl hl.1 (rest := []) rfl dX11_order_17 (Nat.le_of_ble_eq_true rfl) ⟨by decide, by decide⟩ ⟨Nat.le_of_ble_eq_true rfl, Nat.le_of_ble_eq_true rfl⟩ (fun v_17 ws_17 H locs hp_17 hq_17 => ?_)
    clear hw
    rcases hp_17 with ⟨h_17, rfl, rfl⟩ | ⟨h_17, rfl, rfl⟩
    · have hw := hq_17
      refine W.eq (g2 := F0 m 20 ls [.int (1)]) rfl ?_
      refine lv_if_eq (tgt := 35) hx hb dX11_order_20 (by decide) (fun h9 => False.elim (by revert h9; decide)) (fun _ => ?_)
      refine lv_iload hx hb dX11_order_23 (lv_at hl 5 rfl) ?_
      refine lv_iconst (v := 1) hx hb dX11_order_25 (by decide) ?_
      refine lv_sipush (v := 10000) hx hb dX11_order_26 (by decide) ?_
      refine kS C hw (c_X11_isWithin E tt _ (f0) (1) (10000)) vy_X11_isWithin ml_X11_89 rfl hl.1 (rest := []) rfl dX11_order_29 (Nat.le_of_ble_eq_true rfl) ⟨by decide, by decide⟩ ⟨Nat.le_of_ble_eq_true rfl, Nat.le_of_ble_eq_true rfl⟩ (fun v_29 ws_29 H locs hp_29 hq_29 => ?_)
      clear hw
      rcases hp_29 with ⟨h_29, rfl, rfl⟩ | ⟨h_29, rfl, rfl⟩
      · have hw := hq_29
        refine W.eq (g2 := F0 m 32 ls [.int (1)]) rfl ?_
        refine lv_if_ne (tgt := 38) hx hb dX11_order_32 (by decide) (fun _ => ?_) (fun h9 => False.elim (by revert h9; decide))
        refine lv_aload_n hx hb dX11_order_38 rfl (lv_at hl 1 rfl) ?_
        refine g_i 11 C hw (hR.f rfl) rfl fl_X11_298 rfl dX11_order_39 ?_
        refine tp_i (y := nI no) (hno) ?_
        refine lv_if_lt (tgt := 57) hx hb dX11_order_42 (by decide) (fun c_42 => ?_) (fun c_42 => ?_)
        · exact absurd c_42 (nI_pos (by omega))
        · refine lv_aload_n hx hb dX11_order_45 rfl (lv_at hl 1 rfl) ?_
          refine g_i 11 C hw (hR.f rfl) rfl fl_X11_298 rfl dX11_order_46 ?_
          refine tp_i (y := nI no) (hno) ?_
          refine lv_aload_n hx hb dX11_order_49 rfl (lv_at hl 1 rfl) ?_
          refine g_r 5 (k2 := 69) C hw (hR.f rfl) rfl fl_X11_42 rfl (hR.p0 5 (by decide)) dX11_order_50 ?_
          refine a_n (v := 6) C hw (hR.f rfl) (by decide) (by decide) rfl dX11_order_53 ?_
          refine lv_icmp_lt (tgt := 60) hx hb dX11_order_54 (by decide) (fun c_54 => ?_) (fun c_54 => ?_)
          · have hlt : no < 6 := (nI_ltI (b := 6) (by omega) (by decide)).mp c_54
            have hn3 : ¬ no = 6 := by omega
            refine lv_aload_n hx hb dX11_order_60 rfl (lv_at hl 1 rfl) ?_
            refine g_r 5 (k2 := 69) C hw (hR.f rfl) rfl fl_X11_42 rfl (hR.p0 5 (by decide)) dX11_order_61 ?_
            refine lv_aload_n hx hb dX11_order_64 rfl (lv_at hl 1 rfl) ?_
            refine g_i 11 C hw (hR.f rfl) rfl fl_X11_298 rfl dX11_order_65 ?_
            refine tp_i (y := nI no) (hno) ?_
            refine al_o (70 + no) (ci := 6) (C0 := RX6) (T0 := TX6) (N0 := 5) (ty0 := tyX6) C hw (hRX.2.2 no (Nat.le_refl _) (by omega)).1 (hRX.2.2 no (Nat.le_refl _) (by omega)).2 (kd_order (by omega)) (by decide) rfl tyX6_ok ux_6 df_6 cl_X11_40 it_X6 in_X6 (Nat.le_of_ble_eq_true rfl) (Nat.le_of_ble_eq_true rfl) dX11_order_68 (fun B H hB_68 hw => ?_)
            have hl : lv_has ls 6 [(5, .ref (B (3 + i1))), (0, .ref (B (0))), (1, .int (nI i1)), (2, .int (lo)), (3, .int (hi)), (4, .int (f0))] := by rw [hB_68 (3 + i1) (by omega), hB_68 (0) (by omega)]; exact hl
            refine W.eq (g2 := F0 m 71 ls [.ref (B (70 + no)), .int (nI no), .ref (B (69))]) (by rw [hB_68 (69) (by omega)]) ?_
            refine lv_dup hx hb dX11_order_71 rfl ?_
            refine lv_aload hx hb dX11_order_72 (lv_at hl 0 rfl) ?_
            refine lv_iload_n hx hb dX11_order_74 rfl (lv_at hl 3 rfl) ?_
            refine lv_iload_n hx hb dX11_order_75 rfl (lv_at hl 4 rfl) ?_
            refine lv_iload hx hb dX11_order_76 (lv_at hl 5 rfl) ?_
            refine kI C hw (c_X6_init E tt B (zF F (70 + no)) (zG G (70 + no)) (zP P (70 + no)) (k := 70 + no) mem_k (kd_order (by omega)) (k2 := 3 + i1) (lo) (hi) (f0)) vy_X6_init ml_X11_301 rfl hl.1 (rest := [.ref (B (70 + no)), .int (nI no), .ref (B (69))]) rfl dX11_order_78 (Nat.le_of_ble_eq_true rfl) ⟨by decide, by decide⟩ ⟨Nat.le_of_ble_eq_true rfl, Nat.le_of_ble_eq_true rfl⟩ (fun v_78 ws_78 H locs hp_78 hq_78 => ?_)
            clear hw
            obtain ⟨rfl, rfl⟩ := hp_78
            have hw := hq_78
            refine W.eq (g2 := F0 m 81 ls [.ref (B (70 + no)), .int (nI no), .ref (B (69))]) rfl ?_
            refine t_q no (r := 19) (ci2 := 6) (q2 := (RX6, TX6, 5)) C hw (mem_l (hR.f rfl)) rfl (by decide) mem_k (kd_order (by omega)) (by decide) rfl rfl rfl (show _ < 6 by omega) dX11_order_81 (fun H locs hw => ?_)
            refine lv_aload_n hx hb dX11_order_82 rfl (lv_at hl 1 rfl) ?_
            refine lv_dup hx hb dX11_order_83 rfl ?_
            refine g_i 11 C hw (mem_l (hR.f rfl)) rfl fl_X11_298 rfl dX11_order_84 ?_
            refine tp_i (y := F 0 11) ((uF_n _ _ (Or.inl (by omega))).trans ((uF_n _ _ (Or.inl (by omega))).trans ((uF_n _ _ (Or.inl (by omega))).trans ((congrFun (zF_n _ (by omega)) _).trans (rfl))))) ?_
            refine tp_i (y := nI no) (hno) ?_
            refine lv_dup_x1 hx hb dX11_order_87 rfl rfl ?_
            refine lv_iconst (v := 1) hx hb dX11_order_88 (by decide) ?_
            refine lv_iadd hx hb dX11_order_89 ?_
            refine tp_i (y := nI (no + 1)) (nI_1 _) ?_
            refine p_i 11 C hw (mem_l (hR.f rfl)) rfl fl_X11_298 fc_11 fn_11_11 (fun h9 => by cases h9) rfl rfl rfl dX11_order_90 (fun H locs hw => ?_)
            exact r_i C hr hlk hw ⟨(by rw [sp_order, if_pos hrg, if_pos ⟨h_17.1, h_17.2.1, h_17.2.2, h_29⟩, if_neg hn3]), Or.inl ⟨⟨hrg, ⟨h_17.1, h_17.2.1, h_17.2.2, h_29⟩, hn3⟩, i1, hl_i1, rfl, _, hB_68, rfl⟩⟩ dX11_order_93
          · have hn3 : no = 6 := by rcases Nat.lt_or_ge no 6 with h9 | h9; exact absurd (nI_lt (b := 6) h9 (by decide)) c_54; omega
            refine lv_bipush (v := -8) hx hb dX11_order_57 (by decide) ?_
            refine W.widen (k := 1) (n := 5) (by omega) (by omega) ?_
            exact r_i C hr hlk hw ⟨(by rw [sp_order, if_pos hrg, if_pos ⟨h_17.1, h_17.2.1, h_17.2.2, h_29⟩, if_pos hn3]), Or.inr ⟨fun h9 => h9.2.2 hn3, rfl⟩⟩ dX11_order_59
      · have hw := hq_29
        refine W.eq (g2 := F0 m 32 ls [.int (0)]) rfl ?_
        refine lv_if_ne (tgt := 38) hx hb dX11_order_32 (by decide) (fun h9 => False.elim (by revert h9; decide)) (fun _ => ?_)
        refine lv_bipush (v := -3) hx hb dX11_order_35 (by decide) ?_
        refine W.widen (k := 1) (n := 5) (by omega) (by omega) ?_
        exact r_i C hr hlk hw ⟨(by rw [sp_order, if_pos hrg, if_neg (fun h9 => h_29 h9.2.2.2)]), Or.inr ⟨fun h9 => h_29 h9.2.1.2.2.2, rfl⟩⟩ dX11_order_37
    · have hw := hq_17
      refine W.eq (g2 := F0 m 20 ls [.int (0)]) rfl ?_
      refine lv_if_eq (tgt := 35) hx hb dX11_order_20 (by decide) (fun _ => ?_) (fun h9 => False.elim (by revert h9; decide))
      refine lv_bipush (v := -3) hx hb dX11_order_35 (by decide) ?_
      refine W.widen (k := 1) (n := 5) (by omega) (by omega) ?_
      exact r_i C hr hlk hw ⟨(by rw [sp_order, if_pos hrg, if_neg (fun h9 => h_17 ⟨h9.1, h9.2.1, h9.2.2.1⟩)]), Or.inr ⟨fun h9 => h_17 ⟨h9.2.1.1, h9.2.1.2.1, h9.2.1.2.2.1⟩, rfl⟩⟩ dX11_order_37
  · have hw := hq_2
    refine W.eq (g2 := F0 m 5 ls [.null]) rfl ?_
    refine lv_astoreN (lv' := [(5, .null), (0, .ref (B (0))), (1, .int (m0)), (2, .int (lo)), (3, .int (hi)), (4, .int (f0))]) hx hb dX11_order_5 hl (by decide) rfl (fun ls hl => ?_)
    refine lv_aloadN hx hb dX11_order_7 (lv_at hl 0 rfl) ?_
    refine lv_ifnonnullN hx hb dX11_order_9 ?_
    have hrg : ¬ (0 ≤ m0 ∧ m0 ≤ 3) := fun h9 => by obtain ⟨i, hi, e⟩ := n_of (n := 3) h9.1 h9.2 (by decide); exact h_2 i (by omega) e
    refine lv_bipush (v := -2) hx hb dX11_order_12 (by decide) ?_
    refine W.widen (k := 1) (n := 5) (by omega) (by omega) ?_
    exact r_i C hr hlk hw ⟨(by simp [sp_order, hrg]), Or.inr ⟨fun h9 => hrg h9.1, rfl⟩⟩ dX11_order_14
