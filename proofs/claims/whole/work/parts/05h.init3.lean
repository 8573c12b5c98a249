/-! the class's constructor -/
theorem df_10 : ∀ j, j < 6 → defaultValue (tyX10 j) = vp_V ((ftc 10).map dv) j := by
  intro j hj
  rcases (show j = 0 ∨ j = 1 ∨ j = 2 ∨ j = 3 ∨ j = 4 ∨ j = 5 by omega) with h | h | h | h | h | h <;> subst h <;> rfl
theorem df_4 : ∀ j, j < 6 → defaultValue (tyX4 j) = vp_V ((ftc 4).map dv) j := by
  intro j hj
  rcases (show j = 0 ∨ j = 1 ∨ j = 2 ∨ j = 3 ∨ j = 4 ∨ j = 5 by omega) with h | h | h | h | h | h <;> subst h <;> rfl
theorem df_8 : ∀ j, j < 4 → defaultValue (tyX8 j) = vp_V ((ftc 8).map dv) j := by
  intro j hj
  rcases (show j = 0 ∨ j = 1 ∨ j = 2 ∨ j = 3 by omega) with h | h | h | h <;> subst h <;> rfl
theorem df_7 : ∀ j, j < 2 → defaultValue (tyX7 j) = vp_V ((ftc 7).map dv) j := by
  intro j hj
  rcases (show j = 0 ∨ j = 1 by omega) with h | h <;> subst h <;> rfl
theorem df_5 : ∀ j, j < 3 → defaultValue (tyX5 j) = vp_V ((ftc 5).map dv) j := by
  intro j hj
  rcases (show j = 0 ∨ j = 1 ∨ j = 2 by omega) with h | h | h <;> subst h <;> rfl
theorem df_2 : ∀ j, j < 5 → defaultValue (tyX2 j) = vp_V ((ftc 2).map dv) j := by
  intro j hj
  rcases (show j = 0 ∨ j = 1 ∨ j = 2 ∨ j = 3 ∨ j = 4 by omega) with h | h | h | h | h <;> subst h <;> rfl
theorem df_9 : ∀ j, j < 9 → defaultValue (tyX9 j) = vp_V ((ftc 9).map dv) j := by
  intro j hj
  rcases (show j = 0 ∨ j = 1 ∨ j = 2 ∨ j = 3 ∨ j = 4 ∨ j = 5 ∨ j = 6 ∨ j = 7 ∨ j = 8 by omega) with h | h | h | h | h | h | h | h | h <;> subst h <;> rfl
theorem df_1 : ∀ j, j < 6 → defaultValue (tyX1 j) = vp_V ((ftc 1).map dv) j := by
  intro j hj
  rcases (show j = 0 ∨ j = 1 ∨ j = 2 ∨ j = 3 ∨ j = 4 ∨ j = 5 by omega) with h | h | h | h | h | h <;> subst h <;> rfl
def iX (X : List Nat) : List Nat := (((((((((((((((((((((((((((((((((X ++ [1]) ++ [2]) ++ [7]) ++ [11]) ++ [52]) ++ [69]) ++ [76]) ++ [77]) ++ [78]) ++ [79]) ++ [80]) ++ [81]) ++ [82]) ++ [83]) ++ [84]) ++ [85]) ++ [86]) ++ [87]) ++ [3]) ++ [4]) ++ [5]) ++ [6]) ++ [8]) ++ [9]) ++ [10]) ++ [12]) ++ [16]) ++ [13]) ++ [17]) ++ [14]) ++ [18]) ++ [15]) ++ [19])
def iF (F : tF) : tF := zF (zF (zF (zF (zF (zF (zF (zF (uF (uF (zF (uF (uF (zF (uF (uF (zF (uF (uF (uF (uF (uF (uF (zF (uF (uF (uF (uF (uF (uF (zF (uF (uF (uF (uF (uF (uF (zF (uF (uF (uF (uF (uF (uF (zF (uF (zF (zF (zF (zF (zF (zF (zF (zF (zF (zF (zF (zF (zF (zF (zF (zF (zF (uF (uF (uF (uF (uF (uF (zF F (1)) 1 0 20) 1 1 80) 1 2 10) 1 3 60) 1 4 2) 1 5 5) (2)) (7)) (11)) (52)) (69)) (76)) (77)) (78)) (79)) (80)) (81)) (82)) (83)) (84)) (85)) (86)) (87)) 83 5 24137568) (3)) 3 1 100) 3 2 100) 3 3 60) 3 4 10) 3 5 5) 3 0 0) (4)) 4 1 100) 4 2 100) 4 3 60) 4 4 10) 4 5 5) 4 0 1) (5)) 5 1 100) 5 2 100) 5 3 60) 5 4 10) 5 5 5) 5 0 2) (6)) 6 1 100) 6 2 100) 6 3 60) 6 4 10) 6 5 5) 6 0 3) (8)) 8 2 10) 8 0 1) (9)) 9 2 10) 9 0 0) (10)) 10 2 10) 10 0 0) (12)) (16)) (13)) (17)) (14)) (18)) (15)) (19)
def iG (G : tG) : tG := zG (zG (zG (zG (zG (zG (zG (zG (zG (zG (zG (zG (zG (zG (zG (zG (zG (zG (zG (zG (zG (zG (zG (zG (zG (zG (zG (zG (zG (zG (zG (zG (zG G (1)) (2)) (7)) (11)) (52)) (69)) (76)) (77)) (78)) (79)) (80)) (81)) (82)) (83)) (84)) (85)) (86)) (87)) (3)) (4)) (5)) (6)) (8)) (9)) (10)) (12)) (16)) (13)) (17)) (14)) (18)) (15)) (19)
def iP (P : tP) : tP := uP (uP (zP (zP (uP (uP (zP (zP (uP (uP (zP (zP (uP (uP (zP (zP (uP (zP (uP (zP (uP (zP (uP (zP (uP (zP (uP (zP (uP (zP (uP (uP (zP (uP (zP (uP (zP (uP (zP (zP (uP (uP (uP (zP (uP (zP (zP (uP (uP (zP (uP (uP (zP (uP (zP (zP (uP (zP (uP (zP (uP (zP (uP (zP (uP (zP (uP (zP P (1)) 0 0 (some 1)) (2)) 0 1 (some 2)) (7)) 0 2 (some 7)) (11)) 0 3 (some 11)) (52)) 0 4 (some 52)) (69)) 0 5 (some 69)) (76)) 77) 76 0 (some 77)) 78) 76 1 (some 78)) 0 6 (some 76)) (79)) 79 0 (some 1)) 0 7 (some 79)) (80)) 81) 80 1 (some 81)) 82) 80 2 (some 82)) 80 0 (some 79)) 0 8 (some 80)) (83)) 84) 83 0 (some 84)) 85) 83 1 (some 85)) 86) 83 2 (some 86)) 87) 83 3 (some 87)) 0 9 (some 83)) (3)) 2 0 (some 3)) (4)) 2 1 (some 4)) (5)) 2 2 (some 5)) (6)) 2 3 (some 6)) (8)) 7 0 (some 8)) (9)) 7 1 (some 9)) (10)) 7 2 (some 10)) (12)) 16) 12 0 (some 16)) 11 0 (some 12)) (13)) 17) 13 0 (some 17)) 11 1 (some 13)) (14)) 18) 14 0 (some 18)) 11 2 (some 14)) (15)) 19) 15 0 (some 19)) 11 3 (some 15)
set_option maxHeartbeats 40000000 in
set_option maxRecDepth 100000 in
theorem c_X11_init (E : cE) (tt : Nat × Nat × Nat) {X : List Nat} (B : Nat → Nat) (F : tF) (G : tG) (P : tP) (hcl : closed X P) (h0 : 0 ∈ X) (hX : ∀ k, 1 ≤ k ∧ k ≤ 87 → k ∉ X)  : CT E tt yX11_init cX11_init 2 none 2 33 1336 [.ref (B (0))] (wl E X B F G P) (fun r w => r = none ∧ ∃ B1 : Nat → Nat, B1 0 = B 0 ∧ w = wl E (iX X) B1 (iF F) (iG G) (iP P)) := by
  refine CT.mk (by decide +kernel) (Nat.le_of_ble_eq_true rfl) ?_
  intro l p e s m below meth c A ls C hr hlk hnm hw hl
  have hx := C.1
  have hb := C.2.1
  have hts := C.2.2.2.2
  have hown : s.vm.findClass RX11 = some m.cls := C.2.2.2.1
  have hl : lv_has ls 2 [(0, .ref (B (0)))] := hl
  obtain ⟨b0, he0⟩ : ∃ b, B 0 = b := ⟨_, rfl⟩
  have hb0 := he0
  refine lv_aload_n hx hb dX11_init_0 rfl (lv_at hl 0 rfl) ?_
  refine W.objInit hx hb hown (hts _ ml_X11_1) (hts _ ob_i) (hts _ ob_c) rfl (by rw [C.2.2.1]; exact hl.1) rfl dX11_init_1 (Nat.le_of_ble_eq_true rfl) (Nat.le_of_ble_eq_true rfl) ?_
  refine W.eq (g2 := F0 m 4 ls []) rfl ?_
  refine lv_aload_n hx hb dX11_init_4 rfl (lv_at hl 0 rfl) ?_
  refine al_o (1) (ci := 10) (C0 := RX10) (T0 := TX10) (N0 := 6) (ty0 := tyX10) C hw (hX 1 (by decide)) (noref_c hcl (hX 1 (by decide))) rfl (by decide) rfl tyX10_ok ux_10 df_10 cl_X11_7 it_X10 in_X10 (Nat.le_of_ble_eq_true rfl) (Nat.le_of_ble_eq_true rfl) dX11_init_5 (fun B H hB_5 hw => ?_)
  have hl : lv_has ls 2 [(0, .ref (B (0)))] := by rw [hB_5 (0) (by omega)]; exact hl
  refine W.eq (g2 := F0 m 8 ls [.ref (B (1)), .ref (B (0))]) (by rw [hB_5 (0) (by omega)]) ?_
  have hcl := closed_z (k := 1) hcl
  have hb0 : B 0 = b0 := (hB_5 0 (by decide)).trans hb0
  refine lv_dup hx hb dX11_init_8 rfl ?_
  refine kIN C hw (c_X10_init E tt B (zF F (1)) (zG G (1)) (zP P (1)) hcl mem_k) vy_X10_init ml_X11_9 rfl hl.1 (rest := [.ref (B (1)), .ref (B (0))]) rfl dX11_init_9 (Nat.le_of_ble_eq_true rfl) ⟨by decide, by decide⟩ ⟨Nat.le_of_ble_eq_true rfl, Nat.le_of_ble_eq_true rfl⟩ (fun v_9 ws_9 H locs hp_9 hq_9 => ?_)
  clear hw
  obtain ⟨rfl, rfl⟩ := hp_9
  have hw := hq_9
  refine W.eq (g2 := F0 m 12 ls [.ref (B (1)), .ref (B (0))]) rfl ?_
  refine p_r 0 C hw (mem_l h0) rfl fl_X11_10 fc_11 fn_11_0 (fun _ => ⟨hnm, (RX11, TX11, 19), rfl, rfl⟩) rfl (fun _ => rfl) (fun _ => rfl) dX11_init_12 (fun H locs hw => ?_)
  have hcl := closed_u (a := 0) (b := 0) hcl mem_k
  refine lv_aload_n hx hb dX11_init_15 rfl (lv_at hl 0 rfl) ?_
  refine lv_iconst (v := 4) hx hb dX11_init_16 (by decide) ?_
  refine al_q (2) (r := 18) C hw (notin_a (hX 2 (by decide)) (by decide)) (noref_c hcl (notin_a (hX 2 (by decide)) (by decide))) rfl (by decide) rfl cl_X11_16 (by decide +kernel) (by decide) rfl (by decide) (Nat.le_of_ble_eq_true rfl) (Nat.le_of_ble_eq_true rfl) dX11_init_17 (fun B H hB_17 hw => ?_)
  have hl : lv_has ls 2 [(0, .ref (B (0)))] := by rw [hB_17 (0) (by decide)]; exact hl
  refine W.eq (g2 := F0 m 20 ls [.ref (B (2)), .ref (B (0))]) (by rw [hB_17 (0) (by decide)]) ?_
  have hcl := closed_z (k := 2) hcl
  have hb0 : B 0 = b0 := (hB_17 0 (by decide)).trans hb0
  refine p_r 1 C hw (mem_l (mem_l h0)) rfl fl_X11_18 fc_11 fn_11_1 (fun _ => ⟨hnm, (RX11, TX11, 19), rfl, rfl⟩) rfl (fun _ => rfl) (fun _ => rfl) dX11_init_20 (fun H locs hw => ?_)
  have hcl := closed_u (a := 0) (b := 1) hcl mem_k
  refine lv_aload_n hx hb dX11_init_23 rfl (lv_at hl 0 rfl) ?_
  refine lv_iconst (v := 3) hx hb dX11_init_24 (by decide) ?_
  refine al_q (7) (r := 21) C hw (notin_a (notin_a (hX 7 (by decide)) (by decide)) (by decide)) (noref_c hcl (notin_a (notin_a (hX 7 (by decide)) (by decide)) (by decide))) rfl (by decide) rfl cl_X11_22 (by decide +kernel) (by decide) rfl (by decide) (Nat.le_of_ble_eq_true rfl) (Nat.le_of_ble_eq_true rfl) dX11_init_25 (fun B H hB_25 hw => ?_)
  have hl : lv_has ls 2 [(0, .ref (B (0)))] := by rw [hB_25 (0) (by decide)]; exact hl
  refine W.eq (g2 := F0 m 28 ls [.ref (B (7)), .ref (B (0))]) (by rw [hB_25 (0) (by decide)]) ?_
  have hcl := closed_z (k := 7) hcl
  have hb0 : B 0 = b0 := (hB_25 0 (by decide)).trans hb0
  refine p_r 2 C hw (mem_l (mem_l (mem_l h0))) rfl fl_X11_24 fc_11 fn_11_2 (fun _ => ⟨hnm, (RX11, TX11, 19), rfl, rfl⟩) rfl (fun _ => rfl) (fun _ => rfl) dX11_init_28 (fun H locs hw => ?_)
  have hcl := closed_u (a := 0) (b := 2) hcl mem_k
  refine lv_aload_n hx hb dX11_init_31 rfl (lv_at hl 0 rfl) ?_
  refine lv_iconst (v := 4) hx hb dX11_init_32 (by decide) ?_
  refine al_q (11) (r := 20) C hw (notin_a (notin_a (notin_a (hX 11 (by decide)) (by decide)) (by decide)) (by decide)) (noref_c hcl (notin_a (notin_a (notin_a (hX 11 (by decide)) (by decide)) (by decide)) (by decide))) rfl (by decide) rfl cl_X11_28 (by decide +kernel) (by decide) rfl (by decide) (Nat.le_of_ble_eq_true rfl) (Nat.le_of_ble_eq_true rfl) dX11_init_33 (fun B H hB_33 hw => ?_)
  have hl : lv_has ls 2 [(0, .ref (B (0)))] := by rw [hB_33 (0) (by decide)]; exact hl
  refine W.eq (g2 := F0 m 36 ls [.ref (B (11)), .ref (B (0))]) (by rw [hB_33 (0) (by decide)]) ?_
  have hcl := closed_z (k := 11) hcl
  have hb0 : B 0 = b0 := (hB_33 0 (by decide)).trans hb0
  refine p_r 3 C hw (mem_l (mem_l (mem_l (mem_l h0)))) rfl fl_X11_30 fc_11 fn_11_3 (fun _ => ⟨hnm, (RX11, TX11, 19), rfl, rfl⟩) rfl (fun _ => rfl) (fun _ => rfl) dX11_init_36 (fun H locs hw => ?_)
  have hcl := closed_u (a := 0) (b := 3) hcl mem_k
  refine lv_aload_n hx hb dX11_init_39 rfl (lv_at hl 0 rfl) ?_
  refine lv_bipush (v := 16) hx hb dX11_init_40 (by decide) ?_
  refine al_q (52) (r := 16) C hw (notin_a (notin_a (notin_a (notin_a (hX 52 (by decide)) (by decide)) (by decide)) (by decide)) (by decide)) (noref_c hcl (notin_a (notin_a (notin_a (notin_a (hX 52 (by decide)) (by decide)) (by decide)) (by decide)) (by decide))) rfl (by decide) rfl cl_X11_34 (by decide +kernel) (by decide) rfl (by decide) (Nat.le_of_ble_eq_true rfl) (Nat.le_of_ble_eq_true rfl) dX11_init_42 (fun B H hB_42 hw => ?_)
  have hl : lv_has ls 2 [(0, .ref (B (0)))] := by rw [hB_42 (0) (by decide)]; exact hl
  refine W.eq (g2 := F0 m 45 ls [.ref (B (52)), .ref (B (0))]) (by rw [hB_42 (0) (by decide)]) ?_
  have hcl := closed_z (k := 52) hcl
  have hb0 : B 0 = b0 := (hB_42 0 (by decide)).trans hb0
  refine p_r 4 C hw (mem_l (mem_l (mem_l (mem_l (mem_l h0))))) rfl fl_X11_36 fc_11 fn_11_4 (fun _ => ⟨hnm, (RX11, TX11, 19), rfl, rfl⟩) rfl (fun _ => rfl) (fun _ => rfl) dX11_init_45 (fun H locs hw => ?_)
  have hcl := closed_u (a := 0) (b := 4) hcl mem_k
  refine lv_aload_n hx hb dX11_init_48 rfl (lv_at hl 0 rfl) ?_
  refine lv_bipush (v := 6) hx hb dX11_init_49 (by decide) ?_
  refine al_q (69) (r := 19) C hw (notin_a (notin_a (notin_a (notin_a (notin_a (hX 69 (by decide)) (by decide)) (by decide)) (by decide)) (by decide)) (by decide)) (noref_c hcl (notin_a (notin_a (notin_a (notin_a (notin_a (hX 69 (by decide)) (by decide)) (by decide)) (by decide)) (by decide)) (by decide))) rfl (by decide) rfl cl_X11_40 (by decide +kernel) (by decide) rfl (by decide) (Nat.le_of_ble_eq_true rfl) (Nat.le_of_ble_eq_true rfl) dX11_init_51 (fun B H hB_51 hw => ?_)
  have hl : lv_has ls 2 [(0, .ref (B (0)))] := by rw [hB_51 (0) (by decide)]; exact hl
  refine W.eq (g2 := F0 m 54 ls [.ref (B (69)), .ref (B (0))]) (by rw [hB_51 (0) (by decide)]) ?_
  have hcl := closed_z (k := 69) hcl
  have hb0 : B 0 = b0 := (hB_51 0 (by decide)).trans hb0
  refine p_r 5 C hw (mem_l (mem_l (mem_l (mem_l (mem_l (mem_l h0)))))) rfl fl_X11_42 fc_11 fn_11_5 (fun _ => ⟨hnm, (RX11, TX11, 19), rfl, rfl⟩) rfl (fun _ => rfl) (fun _ => rfl) dX11_init_54 (fun H locs hw => ?_)
  have hcl := closed_u (a := 0) (b := 5) hcl mem_k
  have hm_0_1 : 0 ∈ ((((((X ++ [1]) ++ [2]) ++ [7]) ++ [11]) ++ [52]) ++ [69]) := (mem_l (mem_l (mem_l (mem_l (mem_l (mem_l h0))))))
  have hm_1_1 : 1 ∈ ((((((X ++ [1]) ++ [2]) ++ [7]) ++ [11]) ++ [52]) ++ [69]) := (mem_l (mem_l (mem_l (mem_l (mem_l mem_k)))))
  have hm_2_1 : 2 ∈ ((((((X ++ [1]) ++ [2]) ++ [7]) ++ [11]) ++ [52]) ++ [69]) := (mem_l (mem_l (mem_l (mem_l mem_k))))
  have hm_7_1 : 7 ∈ ((((((X ++ [1]) ++ [2]) ++ [7]) ++ [11]) ++ [52]) ++ [69]) := (mem_l (mem_l (mem_l mem_k)))
  have hm_11_1 : 11 ∈ ((((((X ++ [1]) ++ [2]) ++ [7]) ++ [11]) ++ [52]) ++ [69]) := (mem_l (mem_l mem_k))
  have hp_0_0_1 : (uP (zP (uP (zP (uP (zP (uP (zP (uP (zP (uP (zP P (1)) 0 0 (some 1)) (2)) 0 1 (some 2)) (7)) 0 2 (some 7)) (11)) 0 3 (some 11)) (52)) 0 4 (some 52)) (69)) 0 5 (some 69)) 0 0 = some 1 := ((uP_n _ _ (Or.inr (by decide))).trans ((congrFun (zP_n _ (by decide)) _).trans ((uP_n _ _ (Or.inr (by decide))).trans ((congrFun (zP_n _ (by decide)) _).trans ((uP_n _ _ (Or.inr (by decide))).trans ((congrFun (zP_n _ (by decide)) _).trans ((uP_n _ _ (Or.inr (by decide))).trans ((congrFun (zP_n _ (by decide)) _).trans ((uP_n _ _ (Or.inr (by decide))).trans ((congrFun (zP_n _ (by decide)) _).trans (uP_s _ _ _ _)))))))))))
  have hp_0_1_1 : (uP (zP (uP (zP (uP (zP (uP (zP (uP (zP (uP (zP P (1)) 0 0 (some 1)) (2)) 0 1 (some 2)) (7)) 0 2 (some 7)) (11)) 0 3 (some 11)) (52)) 0 4 (some 52)) (69)) 0 5 (some 69)) 0 1 = some 2 := ((uP_n _ _ (Or.inr (by decide))).trans ((congrFun (zP_n _ (by decide)) _).trans ((uP_n _ _ (Or.inr (by decide))).trans ((congrFun (zP_n _ (by decide)) _).trans ((uP_n _ _ (Or.inr (by decide))).trans ((congrFun (zP_n _ (by decide)) _).trans ((uP_n _ _ (Or.inr (by decide))).trans ((congrFun (zP_n _ (by decide)) _).trans (uP_s _ _ _ _)))))))))
  have hp_0_2_1 : (uP (zP (uP (zP (uP (zP (uP (zP (uP (zP (uP (zP P (1)) 0 0 (some 1)) (2)) 0 1 (some 2)) (7)) 0 2 (some 7)) (11)) 0 3 (some 11)) (52)) 0 4 (some 52)) (69)) 0 5 (some 69)) 0 2 = some 7 := ((uP_n _ _ (Or.inr (by decide))).trans ((congrFun (zP_n _ (by decide)) _).trans ((uP_n _ _ (Or.inr (by decide))).trans ((congrFun (zP_n _ (by decide)) _).trans ((uP_n _ _ (Or.inr (by decide))).trans ((congrFun (zP_n _ (by decide)) _).trans (uP_s _ _ _ _)))))))
  have hp_0_3_1 : (uP (zP (uP (zP (uP (zP (uP (zP (uP (zP (uP (zP P (1)) 0 0 (some 1)) (2)) 0 1 (some 2)) (7)) 0 2 (some 7)) (11)) 0 3 (some 11)) (52)) 0 4 (some 52)) (69)) 0 5 (some 69)) 0 3 = some 11 := ((uP_n _ _ (Or.inr (by decide))).trans ((congrFun (zP_n _ (by decide)) _).trans ((uP_n _ _ (Or.inr (by decide))).trans ((congrFun (zP_n _ (by decide)) _).trans (uP_s _ _ _ _)))))
  have hn_76_1 : 76 ∉ ((((((X ++ [1]) ++ [2]) ++ [7]) ++ [11]) ++ [52]) ++ [69]) := (notin_a (notin_a (notin_a (notin_a (notin_a (notin_a (hX 76 (by decide)) (by decide)) (by decide)) (by decide)) (by decide)) (by decide)) (by decide))
  have hn_77_1 : 77 ∉ ((((((X ++ [1]) ++ [2]) ++ [7]) ++ [11]) ++ [52]) ++ [69]) := (notin_a (notin_a (notin_a (notin_a (notin_a (notin_a (hX 77 (by decide)) (by decide)) (by decide)) (by decide)) (by decide)) (by decide)) (by decide))
  have hn_78_1 : 78 ∉ ((((((X ++ [1]) ++ [2]) ++ [7]) ++ [11]) ++ [52]) ++ [69]) := (notin_a (notin_a (notin_a (notin_a (notin_a (notin_a (hX 78 (by decide)) (by decide)) (by decide)) (by decide)) (by decide)) (by decide)) (by decide))
  have hn_79_1 : 79 ∉ ((((((X ++ [1]) ++ [2]) ++ [7]) ++ [11]) ++ [52]) ++ [69]) := (notin_a (notin_a (notin_a (notin_a (notin_a (notin_a (hX 79 (by decide)) (by decide)) (by decide)) (by decide)) (by decide)) (by decide)) (by decide))
  have hn_80_1 : 80 ∉ ((((((X ++ [1]) ++ [2]) ++ [7]) ++ [11]) ++ [52]) ++ [69]) := (notin_a (notin_a (notin_a (notin_a (notin_a (notin_a (hX 80 (by decide)) (by decide)) (by decide)) (by decide)) (by decide)) (by decide)) (by decide))
  have hn_81_1 : 81 ∉ ((((((X ++ [1]) ++ [2]) ++ [7]) ++ [11]) ++ [52]) ++ [69]) := (notin_a (notin_a (notin_a (notin_a (notin_a (notin_a (hX 81 (by decide)) (by decide)) (by decide)) (by decide)) (by decide)) (by decide)) (by decide))
  have hn_82_1 : 82 ∉ ((((((X ++ [1]) ++ [2]) ++ [7]) ++ [11]) ++ [52]) ++ [69]) := (notin_a (notin_a (notin_a (notin_a (notin_a (notin_a (hX 82 (by decide)) (by decide)) (by decide)) (by decide)) (by decide)) (by decide)) (by decide))
  have hn_83_1 : 83 ∉ ((((((X ++ [1]) ++ [2]) ++ [7]) ++ [11]) ++ [52]) ++ [69]) := (notin_a (notin_a (notin_a (notin_a (notin_a (notin_a (hX 83 (by decide)) (by decide)) (by decide)) (by decide)) (by decide)) (by decide)) (by decide))
  have hn_84_1 : 84 ∉ ((((((X ++ [1]) ++ [2]) ++ [7]) ++ [11]) ++ [52]) ++ [69]) := (notin_a (notin_a (notin_a (notin_a (notin_a (notin_a (hX 84 (by decide)) (by decide)) (by decide)) (by decide)) (by decide)) (by decide)) (by decide))
  have hn_85_1 : 85 ∉ ((((((X ++ [1]) ++ [2]) ++ [7]) ++ [11]) ++ [52]) ++ [69]) := (notin_a (notin_a (notin_a (notin_a (notin_a (notin_a (hX 85 (by decide)) (by decide)) (by decide)) (by decide)) (by decide)) (by decide)) (by decide))
  have hn_86_1 : 86 ∉ ((((((X ++ [1]) ++ [2]) ++ [7]) ++ [11]) ++ [52]) ++ [69]) := (notin_a (notin_a (notin_a (notin_a (notin_a (notin_a (hX 86 (by decide)) (by decide)) (by decide)) (by decide)) (by decide)) (by decide)) (by decide))
  have hn_87_1 : 87 ∉ ((((((X ++ [1]) ++ [2]) ++ [7]) ++ [11]) ++ [52]) ++ [69]) := (notin_a (notin_a (notin_a (notin_a (notin_a (notin_a (hX 87 (by decide)) (by decide)) (by decide)) (by decide)) (by decide)) (by decide)) (by decide))
  have hn_3_1 : 3 ∉ ((((((X ++ [1]) ++ [2]) ++ [7]) ++ [11]) ++ [52]) ++ [69]) := (notin_a (notin_a (notin_a (notin_a (notin_a (notin_a (hX 3 (by decide)) (by decide)) (by decide)) (by decide)) (by decide)) (by decide)) (by decide))
  have hn_4_1 : 4 ∉ ((((((X ++ [1]) ++ [2]) ++ [7]) ++ [11]) ++ [52]) ++ [69]) := (notin_a (notin_a (notin_a (notin_a (notin_a (notin_a (hX 4 (by decide)) (by decide)) (by decide)) (by decide)) (by decide)) (by decide)) (by decide))
  have hn_5_1 : 5 ∉ ((((((X ++ [1]) ++ [2]) ++ [7]) ++ [11]) ++ [52]) ++ [69]) := (notin_a (notin_a (notin_a (notin_a (notin_a (notin_a (hX 5 (by decide)) (by decide)) (by decide)) (by decide)) (by decide)) (by decide)) (by decide))
  have hn_6_1 : 6 ∉ ((((((X ++ [1]) ++ [2]) ++ [7]) ++ [11]) ++ [52]) ++ [69]) := (notin_a (notin_a (notin_a (notin_a (notin_a (notin_a (hX 6 (by decide)) (by decide)) (by decide)) (by decide)) (by decide)) (by decide)) (by decide))
  have hn_8_1 : 8 ∉ ((((((X ++ [1]) ++ [2]) ++ [7]) ++ [11]) ++ [52]) ++ [69]) := (notin_a (notin_a (notin_a (notin_a (notin_a (notin_a (hX 8 (by decide)) (by decide)) (by decide)) (by decide)) (by decide)) (by decide)) (by decide))
  have hn_9_1 : 9 ∉ ((((((X ++ [1]) ++ [2]) ++ [7]) ++ [11]) ++ [52]) ++ [69]) := (notin_a (notin_a (notin_a (notin_a (notin_a (notin_a (hX 9 (by decide)) (by decide)) (by decide)) (by decide)) (by decide)) (by decide)) (by decide))
  have hn_10_1 : 10 ∉ ((((((X ++ [1]) ++ [2]) ++ [7]) ++ [11]) ++ [52]) ++ [69]) := (notin_a (notin_a (notin_a (notin_a (notin_a (notin_a (hX 10 (by decide)) (by decide)) (by decide)) (by decide)) (by decide)) (by decide)) (by decide))
  have hn_12_1 : 12 ∉ ((((((X ++ [1]) ++ [2]) ++ [7]) ++ [11]) ++ [52]) ++ [69]) := (notin_a (notin_a (notin_a (notin_a (notin_a (notin_a (hX 12 (by decide)) (by decide)) (by decide)) (by decide)) (by decide)) (by decide)) (by decide))
  have hn_13_1 : 13 ∉ ((((((X ++ [1]) ++ [2]) ++ [7]) ++ [11]) ++ [52]) ++ [69]) := (notin_a (notin_a (notin_a (notin_a (notin_a (notin_a (hX 13 (by decide)) (by decide)) (by decide)) (by decide)) (by decide)) (by decide)) (by decide))
  have hn_14_1 : 14 ∉ ((((((X ++ [1]) ++ [2]) ++ [7]) ++ [11]) ++ [52]) ++ [69]) := (notin_a (notin_a (notin_a (notin_a (notin_a (notin_a (hX 14 (by decide)) (by decide)) (by decide)) (by decide)) (by decide)) (by decide)) (by decide))
  have hn_15_1 : 15 ∉ ((((((X ++ [1]) ++ [2]) ++ [7]) ++ [11]) ++ [52]) ++ [69]) := (notin_a (notin_a (notin_a (notin_a (notin_a (notin_a (hX 15 (by decide)) (by decide)) (by decide)) (by decide)) (by decide)) (by decide)) (by decide))
  have hn_16_1 : 16 ∉ ((((((X ++ [1]) ++ [2]) ++ [7]) ++ [11]) ++ [52]) ++ [69]) := (notin_a (notin_a (notin_a (notin_a (notin_a (notin_a (hX 16 (by decide)) (by decide)) (by decide)) (by decide)) (by decide)) (by decide)) (by decide))
  have hn_17_1 : 17 ∉ ((((((X ++ [1]) ++ [2]) ++ [7]) ++ [11]) ++ [52]) ++ [69]) := (notin_a (notin_a (notin_a (notin_a (notin_a (notin_a (hX 17 (by decide)) (by decide)) (by decide)) (by decide)) (by decide)) (by decide)) (by decide))
  have hn_18_1 : 18 ∉ ((((((X ++ [1]) ++ [2]) ++ [7]) ++ [11]) ++ [52]) ++ [69]) := (notin_a (notin_a (notin_a (notin_a (notin_a (notin_a (hX 18 (by decide)) (by decide)) (by decide)) (by decide)) (by decide)) (by decide)) (by decide))
  have hn_19_1 : 19 ∉ ((((((X ++ [1]) ++ [2]) ++ [7]) ++ [11]) ++ [52]) ++ [69]) := (notin_a (notin_a (notin_a (notin_a (notin_a (notin_a (hX 19 (by decide)) (by decide)) (by decide)) (by decide)) (by decide)) (by decide)) (by decide))
  generalize hFe1 : zF (zF (zF (zF (zF (uF (uF (uF (uF (uF (uF (zF F (1)) 1 0 20) 1 1 80) 1 2 10) 1 3 60) 1 4 2) 1 5 5) (2)) (7)) (11)) (52)) (69) = F1 at hw
  generalize hGe1 : zG (zG (zG (zG (zG (zG G (1)) (2)) (7)) (11)) (52)) (69) = G1 at hw
  generalize hPe1 : uP (zP (uP (zP (uP (zP (uP (zP (uP (zP (uP (zP P (1)) 0 0 (some 1)) (2)) 0 1 (some 2)) (7)) 0 2 (some 7)) (11)) 0 3 (some 11)) (52)) 0 4 (some 52)) (69)) 0 5 (some 69) = P1 at hw hcl hp_0_0_1 hp_0_1_1 hp_0_2_1 hp_0_3_1
  generalize hXe1 : ((((((X ++ [1]) ++ [2]) ++ [7]) ++ [11]) ++ [52]) ++ [69]) = X1 at hw hcl hm_0_1 hm_1_1 hm_2_1 hm_7_1 hm_11_1 hn_76_1 hn_77_1 hn_78_1 hn_79_1 hn_80_1 hn_81_1 hn_82_1 hn_83_1 hn_84_1 hn_85_1 hn_86_1 hn_87_1 hn_3_1 hn_4_1 hn_5_1 hn_6_1 hn_8_1 hn_9_1 hn_10_1 hn_12_1 hn_13_1 hn_14_1 hn_15_1 hn_16_1 hn_17_1 hn_18_1 hn_19_1
  refine lv_aload_n hx hb dX11_init_57 rfl (lv_at hl 0 rfl) ?_
  refine al_o (76) (ci := 5) (C0 := RX5) (T0 := TX5) (N0 := 3) (ty0 := tyX5) C hw hn_76_1 (noref_c hcl hn_76_1) rfl (by decide) rfl tyX5_ok ux_5 df_5 cl_X11_46 it_X5 in_X5 (Nat.le_of_ble_eq_true rfl) (Nat.le_of_ble_eq_true rfl) dX11_init_58 (fun B H hB_58 hw => ?_)
  have hl : lv_has ls 2 [(0, .ref (B (0)))] := by rw [hB_58 (0) (by omega)]; exact hl
  refine W.eq (g2 := F0 m 61 ls [.ref (B (76)), .ref (B (0))]) (by rw [hB_58 (0) (by omega)]) ?_
  have hcl := closed_z (k := 76) hcl
  have hb0 : B 0 = b0 := (hB_58 0 (by decide)).trans hb0
  refine lv_dup hx hb dX11_init_61 rfl ?_
  refine kIN C hw (c_X5_init E tt B (zF F1 (76)) (zG G1 (76)) (zP P1 (76)) hcl mem_k (fun k hk => by rcases (show k = 77 ∨ k = 78 by omega) with h9 | h9 <;> subst h9; exact (notin_a hn_77_1 (by decide)); exact (notin_a hn_78_1 (by decide)))) vy_X5_init ml_X11_48 rfl hl.1 (rest := [.ref (B (76)), .ref (B (0))]) rfl dX11_init_62 (Nat.le_of_ble_eq_true rfl) ⟨by decide, by decide⟩ ⟨Nat.le_of_ble_eq_true rfl, Nat.le_of_ble_eq_true rfl⟩ (fun v_62 ws_62 H locs hp_62 hq_62 => ?_)
  clear hw
  obtain ⟨rfl, B, hB_62, hcl, rfl⟩ := hp_62
  have hw := hq_62
  have hl : lv_has ls 2 [(0, .ref (B (0)))] := by rw [hB_62 (0) (by decide) (by decide)]; exact hl
  refine W.eq (g2 := F0 m 65 ls [.ref (B (76)), .ref (B (0))]) (by rw [hB_62 (76) (by decide) (by decide), hB_62 (0) (by decide) (by decide)]; rfl) ?_
  have hb0 : B 0 = b0 := (hB_62 0 (by decide) (by decide)).trans hb0
  refine p_r 6 C hw (mem_l (mem_l (mem_l hm_0_1))) rfl fl_X11_49 fc_11 fn_11_6 (fun _ => ⟨hnm, (RX11, TX11, 19), rfl, rfl⟩) rfl (fun _ => rfl) (fun _ => rfl) dX11_init_65 (fun H locs hw => ?_)
  have hcl := closed_u (a := 0) (b := 6) hcl (mem_l (mem_l mem_k))
  refine lv_aload_n hx hb dX11_init_68 rfl (lv_at hl 0 rfl) ?_
  refine al_o (79) (ci := 2) (C0 := RX2) (T0 := TX2) (N0 := 5) (ty0 := tyX2) C hw (notin_a (notin_a (notin_a hn_79_1 (by decide)) (by decide)) (by decide)) (noref_c hcl (notin_a (notin_a (notin_a hn_79_1 (by decide)) (by decide)) (by decide))) rfl (by decide) rfl tyX2_ok ux_2 df_2 cl_X11_53 it_X2 in_X2 (Nat.le_of_ble_eq_true rfl) (Nat.le_of_ble_eq_true rfl) dX11_init_69 (fun B H hB_69 hw => ?_)
  have hl : lv_has ls 2 [(0, .ref (B (0)))] := by rw [hB_69 (0) (by omega)]; exact hl
  refine W.eq (g2 := F0 m 72 ls [.ref (B (79)), .ref (B (0))]) (by rw [hB_69 (0) (by omega)]) ?_
  have hcl := closed_z (k := 79) hcl
  have hb0 : B 0 = b0 := (hB_69 0 (by decide)).trans hb0
  refine lv_dup hx hb dX11_init_72 rfl ?_
  refine lv_aload_n hx hb dX11_init_73 rfl (lv_at hl 0 rfl) ?_
  refine g_r 0 (k2 := 1) C hw (mem_l (mem_l (mem_l (mem_l hm_0_1)))) rfl fl_X11_10 rfl ((congrFun (zP_n _ (by decide)) _).trans ((uP_n _ _ (Or.inr (by decide))).trans ((uP_n _ _ (Or.inl (by decide))).trans ((congrFun (zP_n _ (by decide)) _).trans ((uP_n _ _ (Or.inl (by decide))).trans ((congrFun (zP_n _ (by decide)) _).trans ((congrFun (zP_n _ (by decide)) _).trans (hp_0_0_1)))))))) dX11_init_74 ?_
  refine kI C hw (c_X2_init E tt B (zF (zF (zF (zF F1 (76)) (77)) (78)) (79)) (zG (zG (zG (zG G1 (76)) (77)) (78)) (79)) (zP (uP (uP (zP (uP (zP (zP P1 (76)) 77) 76 0 (some 77)) 78) 76 1 (some 78)) 0 6 (some 76)) (79)) hcl mem_k (mem_l (mem_l (mem_l (mem_l hm_1_1))))) vy_X2_init ml_X11_55 rfl hl.1 (rest := [.ref (B (79)), .ref (B (0))]) rfl dX11_init_77 (Nat.le_of_ble_eq_true rfl) ⟨by decide, by decide⟩ ⟨Nat.le_of_ble_eq_true rfl, Nat.le_of_ble_eq_true rfl⟩ (fun v_77 ws_77 H locs hp_77 hq_77 => ?_)
  clear hw
  obtain ⟨rfl, rfl⟩ := hp_77
  have hw := hq_77
  refine W.eq (g2 := F0 m 80 ls [.ref (B (79)), .ref (B (0))]) rfl ?_
  have hcl := closed_u (a := 79) (b := 0) hcl (mem_l (mem_l (mem_l (mem_l hm_1_1))))
  refine p_r 7 C hw (mem_l (mem_l (mem_l (mem_l hm_0_1)))) rfl fl_X11_58 fc_11 fn_11_7 (fun _ => ⟨hnm, (RX11, TX11, 19), rfl, rfl⟩) rfl (fun _ => rfl) (fun _ => rfl) dX11_init_80 (fun H locs hw => ?_)
  have hcl := closed_u (a := 0) (b := 7) hcl mem_k
  refine lv_aload_n hx hb dX11_init_83 rfl (lv_at hl 0 rfl) ?_
  refine al_o (80) (ci := 9) (C0 := RX9) (T0 := TX9) (N0 := 9) (ty0 := tyX9) C hw (notin_a (notin_a (notin_a (notin_a hn_80_1 (by decide)) (by decide)) (by decide)) (by decide)) (noref_c hcl (notin_a (notin_a (notin_a (notin_a hn_80_1 (by decide)) (by decide)) (by decide)) (by decide))) rfl (by decide) rfl tyX9_ok ux_9 df_9 cl_X11_62 it_X9 in_X9 (Nat.le_of_ble_eq_true rfl) (Nat.le_of_ble_eq_true rfl) dX11_init_84 (fun B H hB_84 hw => ?_)
  have hl : lv_has ls 2 [(0, .ref (B (0)))] := by rw [hB_84 (0) (by omega)]; exact hl
  refine W.eq (g2 := F0 m 87 ls [.ref (B (80)), .ref (B (0))]) (by rw [hB_84 (0) (by omega)]) ?_
  have hcl := closed_z (k := 80) hcl
  have hb0 : B 0 = b0 := (hB_84 0 (by decide)).trans hb0
  refine lv_dup hx hb dX11_init_87 rfl ?_
  refine lv_aload_n hx hb dX11_init_88 rfl (lv_at hl 0 rfl) ?_
  refine g_r 7 (k2 := 79) C hw (mem_l (mem_l (mem_l (mem_l (mem_l hm_0_1))))) rfl fl_X11_58 rfl ((congrFun (zP_n _ (by decide)) _).trans (uP_s _ _ _ _)) dX11_init_89 ?_
  refine kI C hw (c_X9_init E tt B (zF (zF (zF (zF (zF F1 (76)) (77)) (78)) (79)) (80)) (zG (zG (zG (zG (zG G1 (76)) (77)) (78)) (79)) (80)) (zP (uP (uP (zP (uP (uP (zP (uP (zP (zP P1 (76)) 77) 76 0 (some 77)) 78) 76 1 (some 78)) 0 6 (some 76)) (79)) 79 0 (some 1)) 0 7 (some 79)) (80)) hcl mem_k (mem_l mem_k) (fun k hk => by rcases (show k = 81 ∨ k = 82 by omega) with h9 | h9 <;> subst h9; exact (notin_a (notin_a (notin_a (notin_a (notin_a hn_81_1 (by decide)) (by decide)) (by decide)) (by decide)) (by decide)); exact (notin_a (notin_a (notin_a (notin_a (notin_a hn_82_1 (by decide)) (by decide)) (by decide)) (by decide)) (by decide)))) vy_X9_init ml_X11_64 rfl hl.1 (rest := [.ref (B (80)), .ref (B (0))]) rfl dX11_init_92 (Nat.le_of_ble_eq_true rfl) ⟨by decide, by decide⟩ ⟨Nat.le_of_ble_eq_true rfl, Nat.le_of_ble_eq_true rfl⟩ (fun v_92 ws_92 H locs hp_92 hq_92 => ?_)
  clear hw
  obtain ⟨rfl, B, hB_92, hcl, rfl⟩ := hp_92
  have hw := hq_92
  have hl : lv_has ls 2 [(0, .ref (B (0)))] := by rw [hB_92 (0) (by decide) (by decide)]; exact hl
  refine W.eq (g2 := F0 m 95 ls [.ref (B (80)), .ref (B (0))]) (by rw [hB_92 (80) (by decide) (by decide), hB_92 (0) (by decide) (by decide)]; rfl) ?_
  have hb0 : B 0 = b0 := (hB_92 0 (by decide) (by decide)).trans hb0
  refine p_r 8 C hw (mem_l (mem_l (mem_l (mem_l (mem_l (mem_l (mem_l hm_0_1))))))) rfl fl_X11_67 fc_11 fn_11_8 (fun _ => ⟨hnm, (RX11, TX11, 19), rfl, rfl⟩) rfl (fun _ => rfl) (fun _ => rfl) dX11_init_95 (fun H locs hw => ?_)
  have hcl := closed_u (a := 0) (b := 8) hcl (mem_l (mem_l mem_k))
  refine lv_aload_n hx hb dX11_init_98 rfl (lv_at hl 0 rfl) ?_
  refine al_o (83) (ci := 1) (C0 := RX1) (T0 := TX1) (N0 := 6) (ty0 := tyX1) C hw (notin_a (notin_a (notin_a (notin_a (notin_a (notin_a (notin_a hn_83_1 (by decide)) (by decide)) (by decide)) (by decide)) (by decide)) (by decide)) (by decide)) (noref_c hcl (notin_a (notin_a (notin_a (notin_a (notin_a (notin_a (notin_a hn_83_1 (by decide)) (by decide)) (by decide)) (by decide)) (by decide)) (by decide)) (by decide))) rfl (by decide) rfl tyX1_ok ux_1 df_1 cl_X11_71 it_X1 in_X1 (Nat.le_of_ble_eq_true rfl) (Nat.le_of_ble_eq_true rfl) dX11_init_99 (fun B H hB_99 hw => ?_)
  have hl : lv_has ls 2 [(0, .ref (B (0)))] := by rw [hB_99 (0) (by omega)]; exact hl
  refine W.eq (g2 := F0 m 102 ls [.ref (B (83)), .ref (B (0))]) (by rw [hB_99 (0) (by omega)]) ?_
  have hcl := closed_z (k := 83) hcl
  have hb0 : B 0 = b0 := (hB_99 0 (by decide)).trans hb0
  refine lv_dup hx hb dX11_init_102 rfl ?_
  refine kIN C hw (c_X1_init E tt B (zF (zF (zF (zF (zF (zF (zF (zF F1 (76)) (77)) (78)) (79)) (80)) (81)) (82)) (83)) (zG (zG (zG (zG (zG (zG (zG (zG G1 (76)) (77)) (78)) (79)) (80)) (81)) (82)) (83)) (zP (uP (uP (uP (zP (uP (zP (zP (uP (uP (zP (uP (uP (zP (uP (zP (zP P1 (76)) 77) 76 0 (some 77)) 78) 76 1 (some 78)) 0 6 (some 76)) (79)) 79 0 (some 1)) 0 7 (some 79)) (80)) 81) 80 1 (some 81)) 82) 80 2 (some 82)) 80 0 (some 79)) 0 8 (some 80)) (83)) hcl mem_k (fun k hk => by rcases (show k = 84 ∨ k = 85 ∨ k = 86 ∨ k = 87 by omega) with h9 | h9 | h9 | h9 <;> subst h9; exact (notin_a (notin_a (notin_a (notin_a (notin_a (notin_a (notin_a (notin_a hn_84_1 (by decide)) (by decide)) (by decide)) (by decide)) (by decide)) (by decide)) (by decide)) (by decide)); exact (notin_a (notin_a (notin_a (notin_a (notin_a (notin_a (notin_a (notin_a hn_85_1 (by decide)) (by decide)) (by decide)) (by decide)) (by decide)) (by decide)) (by decide)) (by decide)); exact (notin_a (notin_a (notin_a (notin_a (notin_a (notin_a (notin_a (notin_a hn_86_1 (by decide)) (by decide)) (by decide)) (by decide)) (by decide)) (by decide)) (by decide)) (by decide)); exact (notin_a (notin_a (notin_a (notin_a (notin_a (notin_a (notin_a (notin_a hn_87_1 (by decide)) (by decide)) (by decide)) (by decide)) (by decide)) (by decide)) (by decide)) (by decide)))) vy_X1_init ml_X11_73 rfl hl.1 (rest := [.ref (B (83)), .ref (B (0))]) rfl dX11_init_103 (Nat.le_of_ble_eq_true rfl) ⟨by decide, by decide⟩ ⟨Nat.le_of_ble_eq_true rfl, Nat.le_of_ble_eq_true rfl⟩ (fun v_103 ws_103 H locs hp_103 hq_103 => ?_)
  clear hw
  obtain ⟨rfl, B, hB_103, hcl, rfl⟩ := hp_103
  have hw := hq_103
  have hl : lv_has ls 2 [(0, .ref (B (0)))] := by rw [hB_103 (0) (by decide) (by decide) (by decide) (by decide)]; exact hl
  refine W.eq (g2 := F0 m 106 ls [.ref (B (83)), .ref (B (0))]) (by rw [hB_103 (83) (by decide) (by decide) (by decide) (by decide), hB_103 (0) (by decide) (by decide) (by decide) (by decide)]; rfl) ?_
  have hb0 : B 0 = b0 := (hB_103 0 (by decide) (by decide) (by decide) (by decide)).trans hb0
  refine p_r 9 C hw (mem_l (mem_l (mem_l (mem_l (mem_l (mem_l (mem_l (mem_l (mem_l (mem_l (mem_l (mem_l hm_0_1)))))))))))) rfl fl_X11_74 fc_11 fn_11_9 (fun _ => ⟨hnm, (RX11, TX11, 19), rfl, rfl⟩) rfl (fun _ => rfl) (fun _ => rfl) dX11_init_106 (fun H locs hw => ?_)
  have hcl := closed_u (a := 0) (b := 9) hcl (mem_l (mem_l (mem_l (mem_l mem_k))))
  have hm_0_2 : 0 ∈ ((((((((((((X1 ++ [76]) ++ [77]) ++ [78]) ++ [79]) ++ [80]) ++ [81]) ++ [82]) ++ [83]) ++ [84]) ++ [85]) ++ [86]) ++ [87]) := (mem_l (mem_l (mem_l (mem_l (mem_l (mem_l (mem_l (mem_l (mem_l (mem_l (mem_l (mem_l hm_0_1))))))))))))
  have hm_2_2 : 2 ∈ ((((((((((((X1 ++ [76]) ++ [77]) ++ [78]) ++ [79]) ++ [80]) ++ [81]) ++ [82]) ++ [83]) ++ [84]) ++ [85]) ++ [86]) ++ [87]) := (mem_l (mem_l (mem_l (mem_l (mem_l (mem_l (mem_l (mem_l (mem_l (mem_l (mem_l (mem_l hm_2_1))))))))))))
  have hm_7_2 : 7 ∈ ((((((((((((X1 ++ [76]) ++ [77]) ++ [78]) ++ [79]) ++ [80]) ++ [81]) ++ [82]) ++ [83]) ++ [84]) ++ [85]) ++ [86]) ++ [87]) := (mem_l (mem_l (mem_l (mem_l (mem_l (mem_l (mem_l (mem_l (mem_l (mem_l (mem_l (mem_l hm_7_1))))))))))))
  have hm_11_2 : 11 ∈ ((((((((((((X1 ++ [76]) ++ [77]) ++ [78]) ++ [79]) ++ [80]) ++ [81]) ++ [82]) ++ [83]) ++ [84]) ++ [85]) ++ [86]) ++ [87]) := (mem_l (mem_l (mem_l (mem_l (mem_l (mem_l (mem_l (mem_l (mem_l (mem_l (mem_l (mem_l hm_11_1))))))))))))
  have hp_0_1_2 : (uP (uP (zP (uP (zP (uP (zP (uP (zP (zP (uP (uP (uP (zP (uP (zP (zP (uP (uP (zP (uP (uP (zP (uP (zP (zP P1 (76)) 77) 76 0 (some 77)) 78) 76 1 (some 78)) 0 6 (some 76)) (79)) 79 0 (some 1)) 0 7 (some 79)) (80)) 81) 80 1 (some 81)) 82) 80 2 (some 82)) 80 0 (some 79)) 0 8 (some 80)) (83)) 84) 83 0 (some 84)) 85) 83 1 (some 85)) 86) 83 2 (some 86)) 87) 83 3 (some 87)) 0 9 (some 83)) 0 1 = some 2 := ((uP_n _ _ (Or.inr (by decide))).trans ((uP_n _ _ (Or.inl (by decide))).trans ((congrFun (zP_n _ (by decide)) _).trans ((uP_n _ _ (Or.inl (by decide))).trans ((congrFun (zP_n _ (by decide)) _).trans ((uP_n _ _ (Or.inl (by decide))).trans ((congrFun (zP_n _ (by decide)) _).trans ((uP_n _ _ (Or.inl (by decide))).trans ((congrFun (zP_n _ (by decide)) _).trans ((congrFun (zP_n _ (by decide)) _).trans ((uP_n _ _ (Or.inr (by decide))).trans ((uP_n _ _ (Or.inl (by decide))).trans ((uP_n _ _ (Or.inl (by decide))).trans ((congrFun (zP_n _ (by decide)) _).trans ((uP_n _ _ (Or.inl (by decide))).trans ((congrFun (zP_n _ (by decide)) _).trans ((congrFun (zP_n _ (by decide)) _).trans ((uP_n _ _ (Or.inr (by decide))).trans ((uP_n _ _ (Or.inl (by decide))).trans ((congrFun (zP_n _ (by decide)) _).trans ((uP_n _ _ (Or.inr (by decide))).trans ((uP_n _ _ (Or.inl (by decide))).trans ((congrFun (zP_n _ (by decide)) _).trans ((uP_n _ _ (Or.inl (by decide))).trans ((congrFun (zP_n _ (by decide)) _).trans ((congrFun (zP_n _ (by decide)) _).trans (hp_0_1_1)))))))))))))))))))))))))))
  have hp_0_2_2 : (uP (uP (zP (uP (zP (uP (zP (uP (zP (zP (uP (uP (uP (zP (uP (zP (zP (uP (uP (zP (uP (uP (zP (uP (zP (zP P1 (76)) 77) 76 0 (some 77)) 78) 76 1 (some 78)) 0 6 (some 76)) (79)) 79 0 (some 1)) 0 7 (some 79)) (80)) 81) 80 1 (some 81)) 82) 80 2 (some 82)) 80 0 (some 79)) 0 8 (some 80)) (83)) 84) 83 0 (some 84)) 85) 83 1 (some 85)) 86) 83 2 (some 86)) 87) 83 3 (some 87)) 0 9 (some 83)) 0 2 = some 7 := ((uP_n _ _ (Or.inr (by decide))).trans ((uP_n _ _ (Or.inl (by decide))).trans ((congrFun (zP_n _ (by decide)) _).trans ((uP_n _ _ (Or.inl (by decide))).trans ((congrFun (zP_n _ (by decide)) _).trans ((uP_n _ _ (Or.inl (by decide))).trans ((congrFun (zP_n _ (by decide)) _).trans ((uP_n _ _ (Or.inl (by decide))).trans ((congrFun (zP_n _ (by decide)) _).trans ((congrFun (zP_n _ (by decide)) _).trans ((uP_n _ _ (Or.inr (by decide))).trans ((uP_n _ _ (Or.inl (by decide))).trans ((uP_n _ _ (Or.inl (by decide))).trans ((congrFun (zP_n _ (by decide)) _).trans ((uP_n _ _ (Or.inl (by decide))).trans ((congrFun (zP_n _ (by decide)) _).trans ((congrFun (zP_n _ (by decide)) _).trans ((uP_n _ _ (Or.inr (by decide))).trans ((uP_n _ _ (Or.inl (by decide))).trans ((congrFun (zP_n _ (by decide)) _).trans ((uP_n _ _ (Or.inr (by decide))).trans ((uP_n _ _ (Or.inl (by decide))).trans ((congrFun (zP_n _ (by decide)) _).trans ((uP_n _ _ (Or.inl (by decide))).trans ((congrFun (zP_n _ (by decide)) _).trans ((congrFun (zP_n _ (by decide)) _).trans (hp_0_2_1)))))))))))))))))))))))))))
  have hp_0_3_2 : (uP (uP (zP (uP (zP (uP (zP (uP (zP (zP (uP (uP (uP (zP (uP (zP (zP (uP (uP (zP (uP (uP (zP (uP (zP (zP P1 (76)) 77) 76 0 (some 77)) 78) 76 1 (some 78)) 0 6 (some 76)) (79)) 79 0 (some 1)) 0 7 (some 79)) (80)) 81) 80 1 (some 81)) 82) 80 2 (some 82)) 80 0 (some 79)) 0 8 (some 80)) (83)) 84) 83 0 (some 84)) 85) 83 1 (some 85)) 86) 83 2 (some 86)) 87) 83 3 (some 87)) 0 9 (some 83)) 0 3 = some 11 := ((uP_n _ _ (Or.inr (by decide))).trans ((uP_n _ _ (Or.inl (by decide))).trans ((congrFun (zP_n _ (by decide)) _).trans ((uP_n _ _ (Or.inl (by decide))).trans ((congrFun (zP_n _ (by decide)) _).trans ((uP_n _ _ (Or.inl (by decide))).trans ((congrFun (zP_n _ (by decide)) _).trans ((uP_n _ _ (Or.inl (by decide))).trans ((congrFun (zP_n _ (by decide)) _).trans ((congrFun (zP_n _ (by decide)) _).trans ((uP_n _ _ (Or.inr (by decide))).trans ((uP_n _ _ (Or.inl (by decide))).trans ((uP_n _ _ (Or.inl (by decide))).trans ((congrFun (zP_n _ (by decide)) _).trans ((uP_n _ _ (Or.inl (by decide))).trans ((congrFun (zP_n _ (by decide)) _).trans ((congrFun (zP_n _ (by decide)) _).trans ((uP_n _ _ (Or.inr (by decide))).trans ((uP_n _ _ (Or.inl (by decide))).trans ((congrFun (zP_n _ (by decide)) _).trans ((uP_n _ _ (Or.inr (by decide))).trans ((uP_n _ _ (Or.inl (by decide))).trans ((congrFun (zP_n _ (by decide)) _).trans ((uP_n _ _ (Or.inl (by decide))).trans ((congrFun (zP_n _ (by decide)) _).trans ((congrFun (zP_n _ (by decide)) _).trans (hp_0_3_1)))))))))))))))))))))))))))
  have hn_3_2 : 3 ∉ ((((((((((((X1 ++ [76]) ++ [77]) ++ [78]) ++ [79]) ++ [80]) ++ [81]) ++ [82]) ++ [83]) ++ [84]) ++ [85]) ++ [86]) ++ [87]) := (notin_a (notin_a (notin_a (notin_a (notin_a (notin_a (notin_a (notin_a (notin_a (notin_a (notin_a (notin_a hn_3_1 (by decide)) (by decide)) (by decide)) (by decide)) (by decide)) (by decide)) (by decide)) (by decide)) (by decide)) (by decide)) (by decide)) (by decide))
  have hn_4_2 : 4 ∉ ((((((((((((X1 ++ [76]) ++ [77]) ++ [78]) ++ [79]) ++ [80]) ++ [81]) ++ [82]) ++ [83]) ++ [84]) ++ [85]) ++ [86]) ++ [87]) := (notin_a (notin_a (notin_a (notin_a (notin_a (notin_a (notin_a (notin_a (notin_a (notin_a (notin_a (notin_a hn_4_1 (by decide)) (by decide)) (by decide)) (by decide)) (by decide)) (by decide)) (by decide)) (by decide)) (by decide)) (by decide)) (by decide)) (by decide))
  have hn_5_2 : 5 ∉ ((((((((((((X1 ++ [76]) ++ [77]) ++ [78]) ++ [79]) ++ [80]) ++ [81]) ++ [82]) ++ [83]) ++ [84]) ++ [85]) ++ [86]) ++ [87]) := (notin_a (notin_a (notin_a (notin_a (notin_a (notin_a (notin_a (notin_a (notin_a (notin_a (notin_a (notin_a hn_5_1 (by decide)) (by decide)) (by decide)) (by decide)) (by decide)) (by decide)) (by decide)) (by decide)) (by decide)) (by decide)) (by decide)) (by decide))
  have hn_6_2 : 6 ∉ ((((((((((((X1 ++ [76]) ++ [77]) ++ [78]) ++ [79]) ++ [80]) ++ [81]) ++ [82]) ++ [83]) ++ [84]) ++ [85]) ++ [86]) ++ [87]) := (notin_a (notin_a (notin_a (notin_a (notin_a (notin_a (notin_a (notin_a (notin_a (notin_a (notin_a (notin_a hn_6_1 (by decide)) (by decide)) (by decide)) (by decide)) (by decide)) (by decide)) (by decide)) (by decide)) (by decide)) (by decide)) (by decide)) (by decide))
  have hn_8_2 : 8 ∉ ((((((((((((X1 ++ [76]) ++ [77]) ++ [78]) ++ [79]) ++ [80]) ++ [81]) ++ [82]) ++ [83]) ++ [84]) ++ [85]) ++ [86]) ++ [87]) := (notin_a (notin_a (notin_a (notin_a (notin_a (notin_a (notin_a (notin_a (notin_a (notin_a (notin_a (notin_a hn_8_1 (by decide)) (by decide)) (by decide)) (by decide)) (by decide)) (by decide)) (by decide)) (by decide)) (by decide)) (by decide)) (by decide)) (by decide))
  have hn_9_2 : 9 ∉ ((((((((((((X1 ++ [76]) ++ [77]) ++ [78]) ++ [79]) ++ [80]) ++ [81]) ++ [82]) ++ [83]) ++ [84]) ++ [85]) ++ [86]) ++ [87]) := (notin_a (notin_a (notin_a (notin_a (notin_a (notin_a (notin_a (notin_a (notin_a (notin_a (notin_a (notin_a hn_9_1 (by decide)) (by decide)) (by decide)) (by decide)) (by decide)) (by decide)) (by decide)) (by decide)) (by decide)) (by decide)) (by decide)) (by decide))
  have hn_10_2 : 10 ∉ ((((((((((((X1 ++ [76]) ++ [77]) ++ [78]) ++ [79]) ++ [80]) ++ [81]) ++ [82]) ++ [83]) ++ [84]) ++ [85]) ++ [86]) ++ [87]) := (notin_a (notin_a (notin_a (notin_a (notin_a (notin_a (notin_a (notin_a (notin_a (notin_a (notin_a (notin_a hn_10_1 (by decide)) (by decide)) (by decide)) (by decide)) (by decide)) (by decide)) (by decide)) (by decide)) (by decide)) (by decide)) (by decide)) (by decide))
  have hn_12_2 : 12 ∉ ((((((((((((X1 ++ [76]) ++ [77]) ++ [78]) ++ [79]) ++ [80]) ++ [81]) ++ [82]) ++ [83]) ++ [84]) ++ [85]) ++ [86]) ++ [87]) := (notin_a (notin_a (notin_a (notin_a (notin_a (notin_a (notin_a (notin_a (notin_a (notin_a (notin_a (notin_a hn_12_1 (by decide)) (by decide)) (by decide)) (by decide)) (by decide)) (by decide)) (by decide)) (by decide)) (by decide)) (by decide)) (by decide)) (by decide))
  have hn_13_2 : 13 ∉ ((((((((((((X1 ++ [76]) ++ [77]) ++ [78]) ++ [79]) ++ [80]) ++ [81]) ++ [82]) ++ [83]) ++ [84]) ++ [85]) ++ [86]) ++ [87]) := (notin_a (notin_a (notin_a (notin_a (notin_a (notin_a (notin_a (notin_a (notin_a (notin_a (notin_a (notin_a hn_13_1 (by decide)) (by decide)) (by decide)) (by decide)) (by decide)) (by decide)) (by decide)) (by decide)) (by decide)) (by decide)) (by decide)) (by decide))
  have hn_14_2 : 14 ∉ ((((((((((((X1 ++ [76]) ++ [77]) ++ [78]) ++ [79]) ++ [80]) ++ [81]) ++ [82]) ++ [83]) ++ [84]) ++ [85]) ++ [86]) ++ [87]) := (notin_a (notin_a (notin_a (notin_a (notin_a (notin_a (notin_a (notin_a (notin_a (notin_a (notin_a (notin_a hn_14_1 (by decide)) (by decide)) (by decide)) (by decide)) (by decide)) (by decide)) (by decide)) (by decide)) (by decide)) (by decide)) (by decide)) (by decide))
  have hn_15_2 : 15 ∉ ((((((((((((X1 ++ [76]) ++ [77]) ++ [78]) ++ [79]) ++ [80]) ++ [81]) ++ [82]) ++ [83]) ++ [84]) ++ [85]) ++ [86]) ++ [87]) := (notin_a (notin_a (notin_a (notin_a (notin_a (notin_a (notin_a (notin_a (notin_a (notin_a (notin_a (notin_a hn_15_1 (by decide)) (by decide)) (by decide)) (by decide)) (by decide)) (by decide)) (by decide)) (by decide)) (by decide)) (by decide)) (by decide)) (by decide))
  have hn_16_2 : 16 ∉ ((((((((((((X1 ++ [76]) ++ [77]) ++ [78]) ++ [79]) ++ [80]) ++ [81]) ++ [82]) ++ [83]) ++ [84]) ++ [85]) ++ [86]) ++ [87]) := (notin_a (notin_a (notin_a (notin_a (notin_a (notin_a (notin_a (notin_a (notin_a (notin_a (notin_a (notin_a hn_16_1 (by decide)) (by decide)) (by decide)) (by decide)) (by decide)) (by decide)) (by decide)) (by decide)) (by decide)) (by decide)) (by decide)) (by decide))
  have hn_17_2 : 17 ∉ ((((((((((((X1 ++ [76]) ++ [77]) ++ [78]) ++ [79]) ++ [80]) ++ [81]) ++ [82]) ++ [83]) ++ [84]) ++ [85]) ++ [86]) ++ [87]) := (notin_a (notin_a (notin_a (notin_a (notin_a (notin_a (notin_a (notin_a (notin_a (notin_a (notin_a (notin_a hn_17_1 (by decide)) (by decide)) (by decide)) (by decide)) (by decide)) (by decide)) (by decide)) (by decide)) (by decide)) (by decide)) (by decide)) (by decide))
  have hn_18_2 : 18 ∉ ((((((((((((X1 ++ [76]) ++ [77]) ++ [78]) ++ [79]) ++ [80]) ++ [81]) ++ [82]) ++ [83]) ++ [84]) ++ [85]) ++ [86]) ++ [87]) := (notin_a (notin_a (notin_a (notin_a (notin_a (notin_a (notin_a (notin_a (notin_a (notin_a (notin_a (notin_a hn_18_1 (by decide)) (by decide)) (by decide)) (by decide)) (by decide)) (by decide)) (by decide)) (by decide)) (by decide)) (by decide)) (by decide)) (by decide))
  have hn_19_2 : 19 ∉ ((((((((((((X1 ++ [76]) ++ [77]) ++ [78]) ++ [79]) ++ [80]) ++ [81]) ++ [82]) ++ [83]) ++ [84]) ++ [85]) ++ [86]) ++ [87]) := (notin_a (notin_a (notin_a (notin_a (notin_a (notin_a (notin_a (notin_a (notin_a (notin_a (notin_a (notin_a hn_19_1 (by decide)) (by decide)) (by decide)) (by decide)) (by decide)) (by decide)) (by decide)) (by decide)) (by decide)) (by decide)) (by decide)) (by decide))
  generalize hFe2 : uF (zF (zF (zF (zF (zF (zF (zF (zF (zF (zF (zF (zF F1 (76)) (77)) (78)) (79)) (80)) (81)) (82)) (83)) (84)) (85)) (86)) (87)) 83 5 24137568 = F2 at hw
  generalize hGe2 : zG (zG (zG (zG (zG (zG (zG (zG (zG (zG (zG (zG G1 (76)) (77)) (78)) (79)) (80)) (81)) (82)) (83)) (84)) (85)) (86)) (87) = G2 at hw
  generalize hPe2 : uP (uP (zP (uP (zP (uP (zP (uP (zP (zP (uP (uP (uP (zP (uP (zP (zP (uP (uP (zP (uP (uP (zP (uP (zP (zP P1 (76)) 77) 76 0 (some 77)) 78) 76 1 (some 78)) 0 6 (some 76)) (79)) 79 0 (some 1)) 0 7 (some 79)) (80)) 81) 80 1 (some 81)) 82) 80 2 (some 82)) 80 0 (some 79)) 0 8 (some 80)) (83)) 84) 83 0 (some 84)) 85) 83 1 (some 85)) 86) 83 2 (some 86)) 87) 83 3 (some 87)) 0 9 (some 83) = P2 at hw hcl hp_0_1_2 hp_0_2_2 hp_0_3_2
  generalize hXe2 : ((((((((((((X1 ++ [76]) ++ [77]) ++ [78]) ++ [79]) ++ [80]) ++ [81]) ++ [82]) ++ [83]) ++ [84]) ++ [85]) ++ [86]) ++ [87]) = X2 at hw hcl hm_0_2 hm_2_2 hm_7_2 hm_11_2 hn_3_2 hn_4_2 hn_5_2 hn_6_2 hn_8_2 hn_9_2 hn_10_2 hn_12_2 hn_13_2 hn_14_2 hn_15_2 hn_16_2 hn_17_2 hn_18_2 hn_19_2
  refine lv_iconst (v := 0) hx hb dX11_init_109 (by decide) ?_
  refine lv_istore_n (lv' := [(1, .int (0)), (0, .ref (B (0)))]) hx hb dX11_init_110 rfl hl (by decide) rfl (fun ls hl => ?_)
  refine lv_iload_n hx hb dX11_init_111 rfl (lv_at hl 0 rfl) ?_
  refine lv_aload_n hx hb dX11_init_112 rfl (lv_at hl 1 rfl) ?_
  refine g_r 1 (k2 := 2) C hw hm_0_2 rfl fl_X11_18 rfl (hp_0_1_2) dX11_init_113 ?_
  refine a_n (v := 4) C hw hm_2_2 (by decide) (by decide) rfl dX11_init_116 ?_
  refine lv_icmp_ge (tgt := 140) hx hb dX11_init_117 (by decide) (fun h9 => False.elim (by revert h9; decide)) (fun _ => ?_)
  refine lv_aload_n hx hb dX11_init_120 rfl (lv_at hl 1 rfl) ?_
  refine g_r 1 (k2 := 2) C hw hm_0_2 rfl fl_X11_18 rfl (hp_0_1_2) dX11_init_121 ?_
  refine lv_iload_n hx hb dX11_init_124 rfl (lv_at hl 0 rfl) ?_
  refine al_o (3) (ci := 4) (C0 := RX4) (T0 := TX4) (N0 := 6) (ty0 := tyX4) C hw hn_3_2 (noref_c hcl hn_3_2) rfl (by decide) rfl tyX4_ok ux_4 df_4 cl_X11_16 it_X4 in_X4 (Nat.le_of_ble_eq_true rfl) (Nat.le_of_ble_eq_true rfl) dX11_init_125 (fun B H hB_125 hw => ?_)
  have hl : lv_has ls 2 [(1, .int (0)), (0, .ref (B (0)))] := by rw [hB_125 (0) (by omega)]; exact hl
  refine W.eq (g2 := F0 m 128 ls [.ref (B (3)), .int (0), .ref (B (2))]) (by rw [hB_125 (2) (by omega)]) ?_
  have hcl := closed_z (k := 3) hcl
  have hb0 : B 0 = b0 := (hB_125 0 (by decide)).trans hb0
  refine lv_dup hx hb dX11_init_128 rfl ?_
  refine lv_iload_n hx hb dX11_init_129 rfl (lv_at hl 0 rfl) ?_
  refine kI C hw (c_X4_init E tt B (zF F2 (3)) (zG G2 (3)) (zP P2 (3)) hcl (k := 3) mem_k rfl (0)) vy_X4_init ml_X11_78 rfl hl.1 (rest := [.ref (B (3)), .int (0), .ref (B (2))]) rfl dX11_init_130 (Nat.le_of_ble_eq_true rfl) ⟨by decide, by decide⟩ ⟨Nat.le_of_ble_eq_true rfl, Nat.le_of_ble_eq_true rfl⟩ (fun v_130 ws_130 H locs hp_130 hq_130 => ?_)
  clear hw
  obtain ⟨rfl, rfl⟩ := hp_130
  have hw := hq_130
  refine W.eq (g2 := F0 m 133 ls [.ref (B (3)), .int (0), .ref (B (2))]) rfl ?_
  refine t_q 0 (r := 18) (ci2 := 4) (q2 := (RX4, TX4, 6)) C hw (mem_l hm_2_2) rfl (by decide) mem_k rfl (by decide) rfl rfl rfl (show _ < 4 by omega) dX11_init_133 (fun H locs hw => ?_)
  have hcl := closed_u (a := 2) (b := 0) hcl mem_k
  refine lv_iinc (v := 1) (lv' := [(1, .int (1)), (0, .ref (B (0)))]) hx hb dX11_init_134 hl (k := 0) rfl (by decide) (by decide) rfl (fun ls hl => ?_)
  refine lv_goto (tgt := 111) hx hb dX11_init_137 (by decide) ?_
  refine lv_iload_n hx hb dX11_init_111 rfl (lv_at hl 0 rfl) ?_
  refine lv_aload_n hx hb dX11_init_112 rfl (lv_at hl 1 rfl) ?_
  refine g_r 1 (k2 := 2) C hw (mem_l hm_0_2) rfl fl_X11_18 rfl ((uP_n _ _ (Or.inl (by decide))).trans ((congrFun (zP_n _ (by decide)) _).trans (hp_0_1_2))) dX11_init_113 ?_
  refine a_n (v := 4) C hw (mem_l hm_2_2) (by decide) (by decide) rfl dX11_init_116 ?_
  refine lv_icmp_ge (tgt := 140) hx hb dX11_init_117 (by decide) (fun h9 => False.elim (by revert h9; decide)) (fun _ => ?_)
  refine lv_aload_n hx hb dX11_init_120 rfl (lv_at hl 1 rfl) ?_
  refine g_r 1 (k2 := 2) C hw (mem_l hm_0_2) rfl fl_X11_18 rfl ((uP_n _ _ (Or.inl (by decide))).trans ((congrFun (zP_n _ (by decide)) _).trans (hp_0_1_2))) dX11_init_121 ?_
  refine lv_iload_n hx hb dX11_init_124 rfl (lv_at hl 0 rfl) ?_
  refine al_o (4) (ci := 4) (C0 := RX4) (T0 := TX4) (N0 := 6) (ty0 := tyX4) C hw (notin_a hn_4_2 (by decide)) (noref_c hcl (notin_a hn_4_2 (by decide))) rfl (by decide) rfl tyX4_ok ux_4 df_4 cl_X11_16 it_X4 in_X4 (Nat.le_of_ble_eq_true rfl) (Nat.le_of_ble_eq_true rfl) dX11_init_125 (fun B H hB_125 hw => ?_)
  have hl : lv_has ls 2 [(1, .int (1)), (0, .ref (B (0)))] := by rw [hB_125 (0) (by omega)]; exact hl
  refine W.eq (g2 := F0 m 128 ls [.ref (B (4)), .int (1), .ref (B (2))]) (by rw [hB_125 (2) (by omega)]) ?_
  have hcl := closed_z (k := 4) hcl
  have hb0 : B 0 = b0 := (hB_125 0 (by decide)).trans hb0
  refine lv_dup hx hb dX11_init_128 rfl ?_
  refine lv_iload_n hx hb dX11_init_129 rfl (lv_at hl 0 rfl) ?_
  refine kI C hw (c_X4_init E tt B (zF (uF (uF (uF (uF (uF (uF (zF F2 (3)) 3 1 100) 3 2 100) 3 3 60) 3 4 10) 3 5 5) 3 0 0) (4)) (zG (zG G2 (3)) (4)) (zP (uP (zP P2 (3)) 2 0 (some 3)) (4)) hcl (k := 4) mem_k rfl (1)) vy_X4_init ml_X11_78 rfl hl.1 (rest := [.ref (B (4)), .int (1), .ref (B (2))]) rfl dX11_init_130 (Nat.le_of_ble_eq_true rfl) ⟨by decide, by decide⟩ ⟨Nat.le_of_ble_eq_true rfl, Nat.le_of_ble_eq_true rfl⟩ (fun v_130 ws_130 H locs hp_130 hq_130 => ?_)
  clear hw
  obtain ⟨rfl, rfl⟩ := hp_130
  have hw := hq_130
  refine W.eq (g2 := F0 m 133 ls [.ref (B (4)), .int (1), .ref (B (2))]) rfl ?_
  refine t_q 1 (r := 18) (ci2 := 4) (q2 := (RX4, TX4, 6)) C hw (mem_l (mem_l hm_2_2)) rfl (by decide) mem_k rfl (by decide) rfl rfl rfl (show _ < 4 by omega) dX11_init_133 (fun H locs hw => ?_)
  have hcl := closed_u (a := 2) (b := 1) hcl mem_k
  refine lv_iinc (v := 2) (lv' := [(1, .int (2)), (0, .ref (B (0)))]) hx hb dX11_init_134 hl (k := 0) rfl (by decide) (by decide) rfl (fun ls hl => ?_)
  refine lv_goto (tgt := 111) hx hb dX11_init_137 (by decide) ?_
  refine lv_iload_n hx hb dX11_init_111 rfl (lv_at hl 0 rfl) ?_
  refine lv_aload_n hx hb dX11_init_112 rfl (lv_at hl 1 rfl) ?_
  refine g_r 1 (k2 := 2) C hw (mem_l (mem_l hm_0_2)) rfl fl_X11_18 rfl ((uP_n _ _ (Or.inl (by decide))).trans ((congrFun (zP_n _ (by decide)) _).trans ((uP_n _ _ (Or.inl (by decide))).trans ((congrFun (zP_n _ (by decide)) _).trans (hp_0_1_2))))) dX11_init_113 ?_
  refine a_n (v := 4) C hw (mem_l (mem_l hm_2_2)) (by decide) (by decide) rfl dX11_init_116 ?_
  refine lv_icmp_ge (tgt := 140) hx hb dX11_init_117 (by decide) (fun h9 => False.elim (by revert h9; decide)) (fun _ => ?_)
  refine lv_aload_n hx hb dX11_init_120 rfl (lv_at hl 1 rfl) ?_
  refine g_r 1 (k2 := 2) C hw (mem_l (mem_l hm_0_2)) rfl fl_X11_18 rfl ((uP_n _ _ (Or.inl (by decide))).trans ((congrFun (zP_n _ (by decide)) _).trans ((uP_n _ _ (Or.inl (by decide))).trans ((congrFun (zP_n _ (by decide)) _).trans (hp_0_1_2))))) dX11_init_121 ?_
  refine lv_iload_n hx hb dX11_init_124 rfl (lv_at hl 0 rfl) ?_
  refine al_o (5) (ci := 4) (C0 := RX4) (T0 := TX4) (N0 := 6) (ty0 := tyX4) C hw (notin_a (notin_a hn_5_2 (by decide)) (by decide)) (noref_c hcl (notin_a (notin_a hn_5_2 (by decide)) (by decide))) rfl (by decide) rfl tyX4_ok ux_4 df_4 cl_X11_16 it_X4 in_X4 (Nat.le_of_ble_eq_true rfl) (Nat.le_of_ble_eq_true rfl) dX11_init_125 (fun B H hB_125 hw => ?_)
  have hl : lv_has ls 2 [(1, .int (2)), (0, .ref (B (0)))] := by rw [hB_125 (0) (by omega)]; exact hl
  refine W.eq (g2 := F0 m 128 ls [.ref (B (5)), .int (2), .ref (B (2))]) (by rw [hB_125 (2) (by omega)]) ?_
  have hcl := closed_z (k := 5) hcl
  have hb0 : B 0 = b0 := (hB_125 0 (by decide)).trans hb0
  refine lv_dup hx hb dX11_init_128 rfl ?_
  refine lv_iload_n hx hb dX11_init_129 rfl (lv_at hl 0 rfl) ?_
  refine kI C hw (c_X4_init E tt B (zF (uF (uF (uF (uF (uF (uF (zF (uF (uF (uF (uF (uF (uF (zF F2 (3)) 3 1 100) 3 2 100) 3 3 60) 3 4 10) 3 5 5) 3 0 0) (4)) 4 1 100) 4 2 100) 4 3 60) 4 4 10) 4 5 5) 4 0 1) (5)) (zG (zG (zG G2 (3)) (4)) (5)) (zP (uP (zP (uP (zP P2 (3)) 2 0 (some 3)) (4)) 2 1 (some 4)) (5)) hcl (k := 5) mem_k rfl (2)) vy_X4_init ml_X11_78 rfl hl.1 (rest := [.ref (B (5)), .int (2), .ref (B (2))]) rfl dX11_init_130 (Nat.le_of_ble_eq_true rfl) ⟨by decide, by decide⟩ ⟨Nat.le_of_ble_eq_true rfl, Nat.le_of_ble_eq_true rfl⟩ (fun v_130 ws_130 H locs hp_130 hq_130 => ?_)
  clear hw
  obtain ⟨rfl, rfl⟩ := hp_130
  have hw := hq_130
  refine W.eq (g2 := F0 m 133 ls [.ref (B (5)), .int (2), .ref (B (2))]) rfl ?_
  refine t_q 2 (r := 18) (ci2 := 4) (q2 := (RX4, TX4, 6)) C hw (mem_l (mem_l (mem_l hm_2_2))) rfl (by decide) mem_k rfl (by decide) rfl rfl rfl (show _ < 4 by omega) dX11_init_133 (fun H locs hw => ?_)
  have hcl := closed_u (a := 2) (b := 2) hcl mem_k
  refine lv_iinc (v := 3) (lv' := [(1, .int (3)), (0, .ref (B (0)))]) hx hb dX11_init_134 hl (k := 0) rfl (by decide) (by decide) rfl (fun ls hl => ?_)
  refine lv_goto (tgt := 111) hx hb dX11_init_137 (by decide) ?_
  refine lv_iload_n hx hb dX11_init_111 rfl (lv_at hl 0 rfl) ?_
  refine lv_aload_n hx hb dX11_init_112 rfl (lv_at hl 1 rfl) ?_
  refine g_r 1 (k2 := 2) C hw (mem_l (mem_l (mem_l hm_0_2))) rfl fl_X11_18 rfl ((uP_n _ _ (Or.inl (by decide))).trans ((congrFun (zP_n _ (by decide)) _).trans ((uP_n _ _ (Or.inl (by decide))).trans ((congrFun (zP_n _ (by decide)) _).trans ((uP_n _ _ (Or.inl (by decide))).trans ((congrFun (zP_n _ (by decide)) _).trans (hp_0_1_2))))))) dX11_init_113 ?_
  refine a_n (v := 4) C hw (mem_l (mem_l (mem_l hm_2_2))) (by decide) (by decide) rfl dX11_init_116 ?_
  refine lv_icmp_ge (tgt := 140) hx hb dX11_init_117 (by decide) (fun h9 => False.elim (by revert h9; decide)) (fun _ => ?_)
  refine lv_aload_n hx hb dX11_init_120 rfl (lv_at hl 1 rfl) ?_
  refine g_r 1 (k2 := 2) C hw (mem_l (mem_l (mem_l hm_0_2))) rfl fl_X11_18 rfl ((uP_n _ _ (Or.inl (by decide))).trans ((congrFun (zP_n _ (by decide)) _).trans ((uP_n _ _ (Or.inl (by decide))).trans ((congrFun (zP_n _ (by decide)) _).trans ((uP_n _ _ (Or.inl (by decide))).trans ((congrFun (zP_n _ (by decide)) _).trans (hp_0_1_2))))))) dX11_init_121 ?_
  refine lv_iload_n hx hb dX11_init_124 rfl (lv_at hl 0 rfl) ?_
  refine al_o (6) (ci := 4) (C0 := RX4) (T0 := TX4) (N0 := 6) (ty0 := tyX4) C hw (notin_a (notin_a (notin_a hn_6_2 (by decide)) (by decide)) (by decide)) (noref_c hcl (notin_a (notin_a (notin_a hn_6_2 (by decide)) (by decide)) (by decide))) rfl (by decide) rfl tyX4_ok ux_4 df_4 cl_X11_16 it_X4 in_X4 (Nat.le_of_ble_eq_true rfl) (Nat.le_of_ble_eq_true rfl) dX11_init_125 (fun B H hB_125 hw => ?_)
  have hl : lv_has ls 2 [(1, .int (3)), (0, .ref (B (0)))] := by rw [hB_125 (0) (by omega)]; exact hl
  refine W.eq (g2 := F0 m 128 ls [.ref (B (6)), .int (3), .ref (B (2))]) (by rw [hB_125 (2) (by omega)]) ?_
  have hcl := closed_z (k := 6) hcl
  have hb0 : B 0 = b0 := (hB_125 0 (by decide)).trans hb0
  refine lv_dup hx hb dX11_init_128 rfl ?_
  refine lv_iload_n hx hb dX11_init_129 rfl (lv_at hl 0 rfl) ?_
  refine kI C hw (c_X4_init E tt B (zF (uF (uF (uF (uF (uF (uF (zF (uF (uF (uF (uF (uF (uF (zF (uF (uF (uF (uF (uF (uF (zF F2 (3)) 3 1 100) 3 2 100) 3 3 60) 3 4 10) 3 5 5) 3 0 0) (4)) 4 1 100) 4 2 100) 4 3 60) 4 4 10) 4 5 5) 4 0 1) (5)) 5 1 100) 5 2 100) 5 3 60) 5 4 10) 5 5 5) 5 0 2) (6)) (zG (zG (zG (zG G2 (3)) (4)) (5)) (6)) (zP (uP (zP (uP (zP (uP (zP P2 (3)) 2 0 (some 3)) (4)) 2 1 (some 4)) (5)) 2 2 (some 5)) (6)) hcl (k := 6) mem_k rfl (3)) vy_X4_init ml_X11_78 rfl hl.1 (rest := [.ref (B (6)), .int (3), .ref (B (2))]) rfl dX11_init_130 (Nat.le_of_ble_eq_true rfl) ⟨by decide, by decide⟩ ⟨Nat.le_of_ble_eq_true rfl, Nat.le_of_ble_eq_true rfl⟩ (fun v_130 ws_130 H locs hp_130 hq_130 => ?_)
  clear hw
  obtain ⟨rfl, rfl⟩ := hp_130
  have hw := hq_130
  refine W.eq (g2 := F0 m 133 ls [.ref (B (6)), .int (3), .ref (B (2))]) rfl ?_
  refine t_q 3 (r := 18) (ci2 := 4) (q2 := (RX4, TX4, 6)) C hw (mem_l (mem_l (mem_l (mem_l hm_2_2)))) rfl (by decide) mem_k rfl (by decide) rfl rfl rfl (show _ < 4 by omega) dX11_init_133 (fun H locs hw => ?_)
  have hcl := closed_u (a := 2) (b := 3) hcl mem_k
  refine lv_iinc (v := 4) (lv' := [(1, .int (4)), (0, .ref (B (0)))]) hx hb dX11_init_134 hl (k := 0) rfl (by decide) (by decide) rfl (fun ls hl => ?_)
  refine lv_goto (tgt := 111) hx hb dX11_init_137 (by decide) ?_
  refine lv_iload_n hx hb dX11_init_111 rfl (lv_at hl 0 rfl) ?_
  refine lv_aload_n hx hb dX11_init_112 rfl (lv_at hl 1 rfl) ?_
  refine g_r 1 (k2 := 2) C hw (mem_l (mem_l (mem_l (mem_l hm_0_2)))) rfl fl_X11_18 rfl ((uP_n _ _ (Or.inl (by decide))).trans ((congrFun (zP_n _ (by decide)) _).trans ((uP_n _ _ (Or.inl (by decide))).trans ((congrFun (zP_n _ (by decide)) _).trans ((uP_n _ _ (Or.inl (by decide))).trans ((congrFun (zP_n _ (by decide)) _).trans ((uP_n _ _ (Or.inl (by decide))).trans ((congrFun (zP_n _ (by decide)) _).trans (hp_0_1_2))))))))) dX11_init_113 ?_
  refine a_n (v := 4) C hw (mem_l (mem_l (mem_l (mem_l hm_2_2)))) (by decide) (by decide) rfl dX11_init_116 ?_
  refine lv_icmp_ge (tgt := 140) hx hb dX11_init_117 (by decide) (fun _ => ?_) (fun h9 => False.elim (by revert h9; decide))
  have hm_0_3 : 0 ∈ ((((X2 ++ [3]) ++ [4]) ++ [5]) ++ [6]) := (mem_l (mem_l (mem_l (mem_l hm_0_2))))
  have hm_7_3 : 7 ∈ ((((X2 ++ [3]) ++ [4]) ++ [5]) ++ [6]) := (mem_l (mem_l (mem_l (mem_l hm_7_2))))
  have hm_11_3 : 11 ∈ ((((X2 ++ [3]) ++ [4]) ++ [5]) ++ [6]) := (mem_l (mem_l (mem_l (mem_l hm_11_2))))
  have hp_0_2_3 : (uP (zP (uP (zP (uP (zP (uP (zP P2 (3)) 2 0 (some 3)) (4)) 2 1 (some 4)) (5)) 2 2 (some 5)) (6)) 2 3 (some 6)) 0 2 = some 7 := ((uP_n _ _ (Or.inl (by decide))).trans ((congrFun (zP_n _ (by decide)) _).trans ((uP_n _ _ (Or.inl (by decide))).trans ((congrFun (zP_n _ (by decide)) _).trans ((uP_n _ _ (Or.inl (by decide))).trans ((congrFun (zP_n _ (by decide)) _).trans ((uP_n _ _ (Or.inl (by decide))).trans ((congrFun (zP_n _ (by decide)) _).trans (hp_0_2_2)))))))))
  have hp_0_3_3 : (uP (zP (uP (zP (uP (zP (uP (zP P2 (3)) 2 0 (some 3)) (4)) 2 1 (some 4)) (5)) 2 2 (some 5)) (6)) 2 3 (some 6)) 0 3 = some 11 := ((uP_n _ _ (Or.inl (by decide))).trans ((congrFun (zP_n _ (by decide)) _).trans ((uP_n _ _ (Or.inl (by decide))).trans ((congrFun (zP_n _ (by decide)) _).trans ((uP_n _ _ (Or.inl (by decide))).trans ((congrFun (zP_n _ (by decide)) _).trans ((uP_n _ _ (Or.inl (by decide))).trans ((congrFun (zP_n _ (by decide)) _).trans (hp_0_3_2)))))))))
  have hn_8_3 : 8 ∉ ((((X2 ++ [3]) ++ [4]) ++ [5]) ++ [6]) := (notin_a (notin_a (notin_a (notin_a hn_8_2 (by decide)) (by decide)) (by decide)) (by decide))
  have hn_9_3 : 9 ∉ ((((X2 ++ [3]) ++ [4]) ++ [5]) ++ [6]) := (notin_a (notin_a (notin_a (notin_a hn_9_2 (by decide)) (by decide)) (by decide)) (by decide))
  have hn_10_3 : 10 ∉ ((((X2 ++ [3]) ++ [4]) ++ [5]) ++ [6]) := (notin_a (notin_a (notin_a (notin_a hn_10_2 (by decide)) (by decide)) (by decide)) (by decide))
  have hn_12_3 : 12 ∉ ((((X2 ++ [3]) ++ [4]) ++ [5]) ++ [6]) := (notin_a (notin_a (notin_a (notin_a hn_12_2 (by decide)) (by decide)) (by decide)) (by decide))
  have hn_13_3 : 13 ∉ ((((X2 ++ [3]) ++ [4]) ++ [5]) ++ [6]) := (notin_a (notin_a (notin_a (notin_a hn_13_2 (by decide)) (by decide)) (by decide)) (by decide))
  have hn_14_3 : 14 ∉ ((((X2 ++ [3]) ++ [4]) ++ [5]) ++ [6]) := (notin_a (notin_a (notin_a (notin_a hn_14_2 (by decide)) (by decide)) (by decide)) (by decide))
  have hn_15_3 : 15 ∉ ((((X2 ++ [3]) ++ [4]) ++ [5]) ++ [6]) := (notin_a (notin_a (notin_a (notin_a hn_15_2 (by decide)) (by decide)) (by decide)) (by decide))
  have hn_16_3 : 16 ∉ ((((X2 ++ [3]) ++ [4]) ++ [5]) ++ [6]) := (notin_a (notin_a (notin_a (notin_a hn_16_2 (by decide)) (by decide)) (by decide)) (by decide))
  have hn_17_3 : 17 ∉ ((((X2 ++ [3]) ++ [4]) ++ [5]) ++ [6]) := (notin_a (notin_a (notin_a (notin_a hn_17_2 (by decide)) (by decide)) (by decide)) (by decide))
  have hn_18_3 : 18 ∉ ((((X2 ++ [3]) ++ [4]) ++ [5]) ++ [6]) := (notin_a (notin_a (notin_a (notin_a hn_18_2 (by decide)) (by decide)) (by decide)) (by decide))
  have hn_19_3 : 19 ∉ ((((X2 ++ [3]) ++ [4]) ++ [5]) ++ [6]) := (notin_a (notin_a (notin_a (notin_a hn_19_2 (by decide)) (by decide)) (by decide)) (by decide))
  generalize hFe3 : uF (uF (uF (uF (uF (uF (zF (uF (uF (uF (uF (uF (uF (zF (uF (uF (uF (uF (uF (uF (zF (uF (uF (uF (uF (uF (uF (zF F2 (3)) 3 1 100) 3 2 100) 3 3 60) 3 4 10) 3 5 5) 3 0 0) (4)) 4 1 100) 4 2 100) 4 3 60) 4 4 10) 4 5 5) 4 0 1) (5)) 5 1 100) 5 2 100) 5 3 60) 5 4 10) 5 5 5) 5 0 2) (6)) 6 1 100) 6 2 100) 6 3 60) 6 4 10) 6 5 5) 6 0 3 = F3 at hw
  generalize hGe3 : zG (zG (zG (zG G2 (3)) (4)) (5)) (6) = G3 at hw
  generalize hPe3 : uP (zP (uP (zP (uP (zP (uP (zP P2 (3)) 2 0 (some 3)) (4)) 2 1 (some 4)) (5)) 2 2 (some 5)) (6)) 2 3 (some 6) = P3 at hw hcl hp_0_2_3 hp_0_3_3
  generalize hXe3 : ((((X2 ++ [3]) ++ [4]) ++ [5]) ++ [6]) = X3 at hw hcl hm_0_3 hm_7_3 hm_11_3 hn_8_3 hn_9_3 hn_10_3 hn_12_3 hn_13_3 hn_14_3 hn_15_3 hn_16_3 hn_17_3 hn_18_3 hn_19_3
  refine lv_iconst (v := 0) hx hb dX11_init_140 (by decide) ?_
  refine lv_istore_n (lv' := [(1, .int (0)), (0, .ref (B (0)))]) hx hb dX11_init_141 rfl hl (by decide) rfl (fun ls hl => ?_)
  refine lv_iload_n hx hb dX11_init_142 rfl (lv_at hl 0 rfl) ?_
  refine lv_aload_n hx hb dX11_init_143 rfl (lv_at hl 1 rfl) ?_
  refine g_r 2 (k2 := 7) C hw hm_0_3 rfl fl_X11_24 rfl (hp_0_2_3) dX11_init_144 ?_
  refine a_n (v := 3) C hw hm_7_3 (by decide) (by decide) rfl dX11_init_147 ?_
  refine lv_icmp_ge (tgt := 179) hx hb dX11_init_148 (by decide) (fun h9 => False.elim (by revert h9; decide)) (fun _ => ?_)
  refine lv_aload_n hx hb dX11_init_151 rfl (lv_at hl 1 rfl) ?_
  refine g_r 2 (k2 := 7) C hw hm_0_3 rfl fl_X11_24 rfl (hp_0_2_3) dX11_init_152 ?_
  refine lv_iload_n hx hb dX11_init_155 rfl (lv_at hl 0 rfl) ?_
  refine al_o (8) (ci := 8) (C0 := RX8) (T0 := TX8) (N0 := 4) (ty0 := tyX8) C hw hn_8_3 (noref_c hcl hn_8_3) rfl (by decide) rfl tyX8_ok ux_8 df_8 cl_X11_22 it_X8 in_X8 (Nat.le_of_ble_eq_true rfl) (Nat.le_of_ble_eq_true rfl) dX11_init_156 (fun B H hB_156 hw => ?_)
  have hl : lv_has ls 2 [(1, .int (0)), (0, .ref (B (0)))] := by rw [hB_156 (0) (by omega)]; exact hl
  refine W.eq (g2 := F0 m 159 ls [.ref (B (8)), .int (0), .ref (B (7))]) (by rw [hB_156 (7) (by omega)]) ?_
  have hcl := closed_z (k := 8) hcl
  have hb0 : B 0 = b0 := (hB_156 0 (by decide)).trans hb0
  refine lv_dup hx hb dX11_init_159 rfl ?_
  refine lv_iload_n hx hb dX11_init_160 rfl (lv_at hl 0 rfl) ?_
  refine lv_if_ne (tgt := 168) hx hb dX11_init_161 (by decide) (fun h9 => False.elim (by revert h9; decide)) (fun _ => ?_)
  refine lv_iconst (v := 1) hx hb dX11_init_164 (by decide) ?_
  refine lv_goto (tgt := 169) hx hb dX11_init_165 (by decide) ?_
  refine kI C hw (c_X8_init E tt B (zF F3 (8)) (zG G3 (8)) (zP P3 (8)) hcl (k := 8) mem_k rfl (1) ⟨rfl, rfl⟩) vy_X8_init ml_X11_81 rfl hl.1 (rest := [.ref (B (8)), .int (0), .ref (B (7))]) rfl dX11_init_169 (Nat.le_of_ble_eq_true rfl) ⟨by decide, by decide⟩ ⟨Nat.le_of_ble_eq_true rfl, Nat.le_of_ble_eq_true rfl⟩ (fun v_169 ws_169 H locs hp_169 hq_169 => ?_)
  clear hw
  obtain ⟨rfl, rfl⟩ := hp_169
  have hw := hq_169
  refine W.eq (g2 := F0 m 172 ls [.ref (B (8)), .int (0), .ref (B (7))]) rfl ?_
  refine t_q 0 (r := 21) (ci2 := 8) (q2 := (RX8, TX8, 4)) C hw (mem_l hm_7_3) rfl (by decide) mem_k rfl (by decide) rfl rfl rfl (show _ < 3 by omega) dX11_init_172 (fun H locs hw => ?_)
  have hcl := closed_u (a := 7) (b := 0) hcl mem_k
  refine lv_iinc (v := 1) (lv' := [(1, .int (1)), (0, .ref (B (0)))]) hx hb dX11_init_173 hl (k := 0) rfl (by decide) (by decide) rfl (fun ls hl => ?_)
  refine lv_goto (tgt := 142) hx hb dX11_init_176 (by decide) ?_
  refine lv_iload_n hx hb dX11_init_142 rfl (lv_at hl 0 rfl) ?_
  refine lv_aload_n hx hb dX11_init_143 rfl (lv_at hl 1 rfl) ?_
  refine g_r 2 (k2 := 7) C hw (mem_l hm_0_3) rfl fl_X11_24 rfl ((uP_n _ _ (Or.inl (by decide))).trans ((congrFun (zP_n _ (by decide)) _).trans (hp_0_2_3))) dX11_init_144 ?_
  refine a_n (v := 3) C hw (mem_l hm_7_3) (by decide) (by decide) rfl dX11_init_147 ?_
  refine lv_icmp_ge (tgt := 179) hx hb dX11_init_148 (by decide) (fun h9 => False.elim (by revert h9; decide)) (fun _ => ?_)
  refine lv_aload_n hx hb dX11_init_151 rfl (lv_at hl 1 rfl) ?_
  refine g_r 2 (k2 := 7) C hw (mem_l hm_0_3) rfl fl_X11_24 rfl ((uP_n _ _ (Or.inl (by decide))).trans ((congrFun (zP_n _ (by decide)) _).trans (hp_0_2_3))) dX11_init_152 ?_
  refine lv_iload_n hx hb dX11_init_155 rfl (lv_at hl 0 rfl) ?_
  refine al_o (9) (ci := 8) (C0 := RX8) (T0 := TX8) (N0 := 4) (ty0 := tyX8) C hw (notin_a hn_9_3 (by decide)) (noref_c hcl (notin_a hn_9_3 (by decide))) rfl (by decide) rfl tyX8_ok ux_8 df_8 cl_X11_22 it_X8 in_X8 (Nat.le_of_ble_eq_true rfl) (Nat.le_of_ble_eq_true rfl) dX11_init_156 (fun B H hB_156 hw => ?_)
  have hl : lv_has ls 2 [(1, .int (1)), (0, .ref (B (0)))] := by rw [hB_156 (0) (by omega)]; exact hl
  refine W.eq (g2 := F0 m 159 ls [.ref (B (9)), .int (1), .ref (B (7))]) (by rw [hB_156 (7) (by omega)]) ?_
  have hcl := closed_z (k := 9) hcl
  have hb0 : B 0 = b0 := (hB_156 0 (by decide)).trans hb0
  refine lv_dup hx hb dX11_init_159 rfl ?_
  refine lv_iload_n hx hb dX11_init_160 rfl (lv_at hl 0 rfl) ?_
  refine lv_if_ne (tgt := 168) hx hb dX11_init_161 (by decide) (fun _ => ?_) (fun h9 => False.elim (by revert h9; decide))
  refine lv_iconst (v := 0) hx hb dX11_init_168 (by decide) ?_
  refine kI C hw (c_X8_init E tt B (zF (uF (uF (zF F3 (8)) 8 2 10) 8 0 1) (9)) (zG (zG G3 (8)) (9)) (zP (uP (zP P3 (8)) 7 0 (some 8)) (9)) hcl (k := 9) mem_k rfl (0) ⟨rfl, rfl⟩) vy_X8_init ml_X11_81 rfl hl.1 (rest := [.ref (B (9)), .int (1), .ref (B (7))]) rfl dX11_init_169 (Nat.le_of_ble_eq_true rfl) ⟨by decide, by decide⟩ ⟨Nat.le_of_ble_eq_true rfl, Nat.le_of_ble_eq_true rfl⟩ (fun v_169 ws_169 H locs hp_169 hq_169 => ?_)
  clear hw
  obtain ⟨rfl, rfl⟩ := hp_169
  have hw := hq_169
  refine W.eq (g2 := F0 m 172 ls [.ref (B (9)), .int (1), .ref (B (7))]) rfl ?_
  refine t_q 1 (r := 21) (ci2 := 8) (q2 := (RX8, TX8, 4)) C hw (mem_l (mem_l hm_7_3)) rfl (by decide) mem_k rfl (by decide) rfl rfl rfl (show _ < 3 by omega) dX11_init_172 (fun H locs hw => ?_)
  have hcl := closed_u (a := 7) (b := 1) hcl mem_k
  refine lv_iinc (v := 2) (lv' := [(1, .int (2)), (0, .ref (B (0)))]) hx hb dX11_init_173 hl (k := 0) rfl (by decide) (by decide) rfl (fun ls hl => ?_)
  refine lv_goto (tgt := 142) hx hb dX11_init_176 (by decide) ?_
  refine lv_iload_n hx hb dX11_init_142 rfl (lv_at hl 0 rfl) ?_
  refine lv_aload_n hx hb dX11_init_143 rfl (lv_at hl 1 rfl) ?_
  refine g_r 2 (k2 := 7) C hw (mem_l (mem_l hm_0_3)) rfl fl_X11_24 rfl ((uP_n _ _ (Or.inl (by decide))).trans ((congrFun (zP_n _ (by decide)) _).trans ((uP_n _ _ (Or.inl (by decide))).trans ((congrFun (zP_n _ (by decide)) _).trans (hp_0_2_3))))) dX11_init_144 ?_
  refine a_n (v := 3) C hw (mem_l (mem_l hm_7_3)) (by decide) (by decide) rfl dX11_init_147 ?_
  refine lv_icmp_ge (tgt := 179) hx hb dX11_init_148 (by decide) (fun h9 => False.elim (by revert h9; decide)) (fun _ => ?_)
  refine lv_aload_n hx hb dX11_init_151 rfl (lv_at hl 1 rfl) ?_
  refine g_r 2 (k2 := 7) C hw (mem_l (mem_l hm_0_3)) rfl fl_X11_24 rfl ((uP_n _ _ (Or.inl (by decide))).trans ((congrFun (zP_n _ (by decide)) _).trans ((uP_n _ _ (Or.inl (by decide))).trans ((congrFun (zP_n _ (by decide)) _).trans (hp_0_2_3))))) dX11_init_152 ?_
  refine lv_iload_n hx hb dX11_init_155 rfl (lv_at hl 0 rfl) ?_
  refine al_o (10) (ci := 8) (C0 := RX8) (T0 := TX8) (N0 := 4) (ty0 := tyX8) C hw (notin_a (notin_a hn_10_3 (by decide)) (by decide)) (noref_c hcl (notin_a (notin_a hn_10_3 (by decide)) (by decide))) rfl (by decide) rfl tyX8_ok ux_8 df_8 cl_X11_22 it_X8 in_X8 (Nat.le_of_ble_eq_true rfl) (Nat.le_of_ble_eq_true rfl) dX11_init_156 (fun B H hB_156 hw => ?_)
  have hl : lv_has ls 2 [(1, .int (2)), (0, .ref (B (0)))] := by rw [hB_156 (0) (by omega)]; exact hl
  refine W.eq (g2 := F0 m 159 ls [.ref (B (10)), .int (2), .ref (B (7))]) (by rw [hB_156 (7) (by omega)]) ?_
  have hcl := closed_z (k := 10) hcl
  have hb0 : B 0 = b0 := (hB_156 0 (by decide)).trans hb0
  refine lv_dup hx hb dX11_init_159 rfl ?_
  refine lv_iload_n hx hb dX11_init_160 rfl (lv_at hl 0 rfl) ?_
  refine lv_if_ne (tgt := 168) hx hb dX11_init_161 (by decide) (fun _ => ?_) (fun h9 => False.elim (by revert h9; decide))
  refine lv_iconst (v := 0) hx hb dX11_init_168 (by decide) ?_
  refine kI C hw (c_X8_init E tt B (zF (uF (uF (zF (uF (uF (zF F3 (8)) 8 2 10) 8 0 1) (9)) 9 2 10) 9 0 0) (10)) (zG (zG (zG G3 (8)) (9)) (10)) (zP (uP (zP (uP (zP P3 (8)) 7 0 (some 8)) (9)) 7 1 (some 9)) (10)) hcl (k := 10) mem_k rfl (0) ⟨rfl, rfl⟩) vy_X8_init ml_X11_81 rfl hl.1 (rest := [.ref (B (10)), .int (2), .ref (B (7))]) rfl dX11_init_169 (Nat.le_of_ble_eq_true rfl) ⟨by decide, by decide⟩ ⟨Nat.le_of_ble_eq_true rfl, Nat.le_of_ble_eq_true rfl⟩ (fun v_169 ws_169 H locs hp_169 hq_169 => ?_)
  clear hw
  obtain ⟨rfl, rfl⟩ := hp_169
  have hw := hq_169
  refine W.eq (g2 := F0 m 172 ls [.ref (B (10)), .int (2), .ref (B (7))]) rfl ?_
  refine t_q 2 (r := 21) (ci2 := 8) (q2 := (RX8, TX8, 4)) C hw (mem_l (mem_l (mem_l hm_7_3))) rfl (by decide) mem_k rfl (by decide) rfl rfl rfl (show _ < 3 by omega) dX11_init_172 (fun H locs hw => ?_)
  have hcl := closed_u (a := 7) (b := 2) hcl mem_k
  refine lv_iinc (v := 3) (lv' := [(1, .int (3)), (0, .ref (B (0)))]) hx hb dX11_init_173 hl (k := 0) rfl (by decide) (by decide) rfl (fun ls hl => ?_)
  refine lv_goto (tgt := 142) hx hb dX11_init_176 (by decide) ?_
  refine lv_iload_n hx hb dX11_init_142 rfl (lv_at hl 0 rfl) ?_
  refine lv_aload_n hx hb dX11_init_143 rfl (lv_at hl 1 rfl) ?_
  refine g_r 2 (k2 := 7) C hw (mem_l (mem_l (mem_l hm_0_3))) rfl fl_X11_24 rfl ((uP_n _ _ (Or.inl (by decide))).trans ((congrFun (zP_n _ (by decide)) _).trans ((uP_n _ _ (Or.inl (by decide))).trans ((congrFun (zP_n _ (by decide)) _).trans ((uP_n _ _ (Or.inl (by decide))).trans ((congrFun (zP_n _ (by decide)) _).trans (hp_0_2_3))))))) dX11_init_144 ?_
  refine a_n (v := 3) C hw (mem_l (mem_l (mem_l hm_7_3))) (by decide) (by decide) rfl dX11_init_147 ?_
  refine lv_icmp_ge (tgt := 179) hx hb dX11_init_148 (by decide) (fun _ => ?_) (fun h9 => False.elim (by revert h9; decide))
  have hm_0_4 : 0 ∈ (((X3 ++ [8]) ++ [9]) ++ [10]) := (mem_l (mem_l (mem_l hm_0_3)))
  have hm_11_4 : 11 ∈ (((X3 ++ [8]) ++ [9]) ++ [10]) := (mem_l (mem_l (mem_l hm_11_3)))
  have hp_0_3_4 : (uP (zP (uP (zP (uP (zP P3 (8)) 7 0 (some 8)) (9)) 7 1 (some 9)) (10)) 7 2 (some 10)) 0 3 = some 11 := ((uP_n _ _ (Or.inl (by decide))).trans ((congrFun (zP_n _ (by decide)) _).trans ((uP_n _ _ (Or.inl (by decide))).trans ((congrFun (zP_n _ (by decide)) _).trans ((uP_n _ _ (Or.inl (by decide))).trans ((congrFun (zP_n _ (by decide)) _).trans (hp_0_3_3)))))))
  have hn_12_4 : 12 ∉ (((X3 ++ [8]) ++ [9]) ++ [10]) := (notin_a (notin_a (notin_a hn_12_3 (by decide)) (by decide)) (by decide))
  have hn_13_4 : 13 ∉ (((X3 ++ [8]) ++ [9]) ++ [10]) := (notin_a (notin_a (notin_a hn_13_3 (by decide)) (by decide)) (by decide))
  have hn_14_4 : 14 ∉ (((X3 ++ [8]) ++ [9]) ++ [10]) := (notin_a (notin_a (notin_a hn_14_3 (by decide)) (by decide)) (by decide))
  have hn_15_4 : 15 ∉ (((X3 ++ [8]) ++ [9]) ++ [10]) := (notin_a (notin_a (notin_a hn_15_3 (by decide)) (by decide)) (by decide))
  have hn_16_4 : 16 ∉ (((X3 ++ [8]) ++ [9]) ++ [10]) := (notin_a (notin_a (notin_a hn_16_3 (by decide)) (by decide)) (by decide))
  have hn_17_4 : 17 ∉ (((X3 ++ [8]) ++ [9]) ++ [10]) := (notin_a (notin_a (notin_a hn_17_3 (by decide)) (by decide)) (by decide))
  have hn_18_4 : 18 ∉ (((X3 ++ [8]) ++ [9]) ++ [10]) := (notin_a (notin_a (notin_a hn_18_3 (by decide)) (by decide)) (by decide))
  have hn_19_4 : 19 ∉ (((X3 ++ [8]) ++ [9]) ++ [10]) := (notin_a (notin_a (notin_a hn_19_3 (by decide)) (by decide)) (by decide))
  generalize hFe4 : uF (uF (zF (uF (uF (zF (uF (uF (zF F3 (8)) 8 2 10) 8 0 1) (9)) 9 2 10) 9 0 0) (10)) 10 2 10) 10 0 0 = F4 at hw
  generalize hGe4 : zG (zG (zG G3 (8)) (9)) (10) = G4 at hw
  generalize hPe4 : uP (zP (uP (zP (uP (zP P3 (8)) 7 0 (some 8)) (9)) 7 1 (some 9)) (10)) 7 2 (some 10) = P4 at hw hcl hp_0_3_4
  generalize hXe4 : (((X3 ++ [8]) ++ [9]) ++ [10]) = X4 at hw hcl hm_0_4 hm_11_4 hn_12_4 hn_13_4 hn_14_4 hn_15_4 hn_16_4 hn_17_4 hn_18_4 hn_19_4
  refine lv_iconst (v := 0) hx hb dX11_init_179 (by decide) ?_
  refine lv_istore_n (lv' := [(1, .int (0)), (0, .ref (B (0)))]) hx hb dX11_init_180 rfl hl (by decide) rfl (fun ls hl => ?_)
  refine lv_iload_n hx hb dX11_init_181 rfl (lv_at hl 0 rfl) ?_
  refine lv_aload_n hx hb dX11_init_182 rfl (lv_at hl 1 rfl) ?_
  refine g_r 3 (k2 := 11) C hw hm_0_4 rfl fl_X11_30 rfl (hp_0_3_4) dX11_init_183 ?_
  refine a_n (v := 4) C hw hm_11_4 (by decide) (by decide) rfl dX11_init_186 ?_
  refine lv_icmp_ge (tgt := 209) hx hb dX11_init_187 (by decide) (fun h9 => False.elim (by revert h9; decide)) (fun _ => ?_)
  refine lv_aload_n hx hb dX11_init_190 rfl (lv_at hl 1 rfl) ?_
  refine g_r 3 (k2 := 11) C hw hm_0_4 rfl fl_X11_30 rfl (hp_0_3_4) dX11_init_191 ?_
  refine lv_iload_n hx hb dX11_init_194 rfl (lv_at hl 0 rfl) ?_
  refine al_o (12) (ci := 7) (C0 := RX7) (T0 := TX7) (N0 := 2) (ty0 := tyX7) C hw hn_12_4 (noref_c hcl hn_12_4) rfl (by decide) rfl tyX7_ok ux_7 df_7 cl_X11_28 it_X7 in_X7 (Nat.le_of_ble_eq_true rfl) (Nat.le_of_ble_eq_true rfl) dX11_init_195 (fun B H hB_195 hw => ?_)
  have hl : lv_has ls 2 [(1, .int (0)), (0, .ref (B (0)))] := by rw [hB_195 (0) (by omega)]; exact hl
  refine W.eq (g2 := F0 m 198 ls [.ref (B (12)), .int (0), .ref (B (11))]) (by rw [hB_195 (11) (by omega)]) ?_
  have hcl := closed_z (k := 12) hcl
  have hb0 : B 0 = b0 := (hB_195 0 (by decide)).trans hb0
  refine lv_dup hx hb dX11_init_198 rfl ?_
  refine kIN C hw (c_X7_init E tt B (zF F4 (12)) (zG G4 (12)) (zP P4 (12)) hcl (i := 0) (by decide) mem_k (notin_a hn_16_4 (by decide))) vy_X7_init ml_X11_84 rfl hl.1 (rest := [.ref (B (12)), .int (0), .ref (B (11))]) rfl dX11_init_199 (Nat.le_of_ble_eq_true rfl) ⟨by decide, by decide⟩ ⟨Nat.le_of_ble_eq_true rfl, Nat.le_of_ble_eq_true rfl⟩ (fun v_199 ws_199 H locs hp_199 hq_199 => ?_)
  clear hw
  obtain ⟨rfl, B, hB_199, hcl, rfl⟩ := hp_199
  have hw := hq_199
  have hl : lv_has ls 2 [(1, .int (0)), (0, .ref (B (0)))] := by rw [hB_199 (0) (by decide)]; exact hl
  refine W.eq (g2 := F0 m 202 ls [.ref (B (12)), .int (0), .ref (B (11))]) (by rw [hB_199 (12) (by decide), hB_199 (11) (by decide)]; rfl) ?_
  have hb0 : B 0 = b0 := (hB_199 0 (by decide)).trans hb0
  refine t_q 0 (r := 20) (ci2 := 7) (q2 := (RX7, TX7, 2)) C hw (mem_l (mem_l hm_11_4)) rfl (by decide) (mem_l mem_k) rfl (by decide) rfl rfl rfl (show _ < 4 by omega) dX11_init_202 (fun H locs hw => ?_)
  have hcl := closed_u (a := 11) (b := 0) hcl (mem_l mem_k)
  refine lv_iinc (v := 1) (lv' := [(1, .int (1)), (0, .ref (B (0)))]) hx hb dX11_init_203 hl (k := 0) rfl (by decide) (by decide) rfl (fun ls hl => ?_)
  refine lv_goto (tgt := 181) hx hb dX11_init_206 (by decide) ?_
  refine lv_iload_n hx hb dX11_init_181 rfl (lv_at hl 0 rfl) ?_
  refine lv_aload_n hx hb dX11_init_182 rfl (lv_at hl 1 rfl) ?_
  refine g_r 3 (k2 := 11) C hw (mem_l (mem_l hm_0_4)) rfl fl_X11_30 rfl ((uP_n _ _ (Or.inl (by decide))).trans ((uP_n _ _ (Or.inl (by decide))).trans ((congrFun (zP_n _ (by decide)) _).trans ((congrFun (zP_n _ (by decide)) _).trans (hp_0_3_4))))) dX11_init_183 ?_
  refine a_n (v := 4) C hw (mem_l (mem_l hm_11_4)) (by decide) (by decide) rfl dX11_init_186 ?_
  refine lv_icmp_ge (tgt := 209) hx hb dX11_init_187 (by decide) (fun h9 => False.elim (by revert h9; decide)) (fun _ => ?_)
  refine lv_aload_n hx hb dX11_init_190 rfl (lv_at hl 1 rfl) ?_
  refine g_r 3 (k2 := 11) C hw (mem_l (mem_l hm_0_4)) rfl fl_X11_30 rfl ((uP_n _ _ (Or.inl (by decide))).trans ((uP_n _ _ (Or.inl (by decide))).trans ((congrFun (zP_n _ (by decide)) _).trans ((congrFun (zP_n _ (by decide)) _).trans (hp_0_3_4))))) dX11_init_191 ?_
  refine lv_iload_n hx hb dX11_init_194 rfl (lv_at hl 0 rfl) ?_
  refine al_o (13) (ci := 7) (C0 := RX7) (T0 := TX7) (N0 := 2) (ty0 := tyX7) C hw (notin_a (notin_a hn_13_4 (by decide)) (by decide)) (noref_c hcl (notin_a (notin_a hn_13_4 (by decide)) (by decide))) rfl (by decide) rfl tyX7_ok ux_7 df_7 cl_X11_28 it_X7 in_X7 (Nat.le_of_ble_eq_true rfl) (Nat.le_of_ble_eq_true rfl) dX11_init_195 (fun B H hB_195 hw => ?_)
  have hl : lv_has ls 2 [(1, .int (1)), (0, .ref (B (0)))] := by rw [hB_195 (0) (by omega)]; exact hl
  refine W.eq (g2 := F0 m 198 ls [.ref (B (13)), .int (1), .ref (B (11))]) (by rw [hB_195 (11) (by omega)]) ?_
  have hcl := closed_z (k := 13) hcl
  have hb0 : B 0 = b0 := (hB_195 0 (by decide)).trans hb0
  refine lv_dup hx hb dX11_init_198 rfl ?_
  refine kIN C hw (c_X7_init E tt B (zF (zF (zF F4 (12)) (16)) (13)) (zG (zG (zG G4 (12)) (16)) (13)) (zP (uP (uP (zP (zP P4 (12)) 16) 12 0 (some 16)) 11 0 (some 12)) (13)) hcl (i := 1) (by decide) mem_k (notin_a (notin_a (notin_a hn_17_4 (by decide)) (by decide)) (by decide))) vy_X7_init ml_X11_84 rfl hl.1 (rest := [.ref (B (13)), .int (1), .ref (B (11))]) rfl dX11_init_199 (Nat.le_of_ble_eq_true rfl) ⟨by decide, by decide⟩ ⟨Nat.le_of_ble_eq_true rfl, Nat.le_of_ble_eq_true rfl⟩ (fun v_199 ws_199 H locs hp_199 hq_199 => ?_)
  clear hw
  obtain ⟨rfl, B, hB_199, hcl, rfl⟩ := hp_199
  have hw := hq_199
  have hl : lv_has ls 2 [(1, .int (1)), (0, .ref (B (0)))] := by rw [hB_199 (0) (by decide)]; exact hl
  refine W.eq (g2 := F0 m 202 ls [.ref (B (13)), .int (1), .ref (B (11))]) (by rw [hB_199 (13) (by decide), hB_199 (11) (by decide)]; rfl) ?_
  have hb0 : B 0 = b0 := (hB_199 0 (by decide)).trans hb0
  refine t_q 1 (r := 20) (ci2 := 7) (q2 := (RX7, TX7, 2)) C hw (mem_l (mem_l (mem_l (mem_l hm_11_4)))) rfl (by decide) (mem_l mem_k) rfl (by decide) rfl rfl rfl (show _ < 4 by omega) dX11_init_202 (fun H locs hw => ?_)
  have hcl := closed_u (a := 11) (b := 1) hcl (mem_l mem_k)
  refine lv_iinc (v := 2) (lv' := [(1, .int (2)), (0, .ref (B (0)))]) hx hb dX11_init_203 hl (k := 0) rfl (by decide) (by decide) rfl (fun ls hl => ?_)
  refine lv_goto (tgt := 181) hx hb dX11_init_206 (by decide) ?_
  refine lv_iload_n hx hb dX11_init_181 rfl (lv_at hl 0 rfl) ?_
  refine lv_aload_n hx hb dX11_init_182 rfl (lv_at hl 1 rfl) ?_
  refine g_r 3 (k2 := 11) C hw (mem_l (mem_l (mem_l (mem_l hm_0_4)))) rfl fl_X11_30 rfl ((uP_n _ _ (Or.inl (by decide))).trans ((uP_n _ _ (Or.inl (by decide))).trans ((congrFun (zP_n _ (by decide)) _).trans ((congrFun (zP_n _ (by decide)) _).trans ((uP_n _ _ (Or.inl (by decide))).trans ((uP_n _ _ (Or.inl (by decide))).trans ((congrFun (zP_n _ (by decide)) _).trans ((congrFun (zP_n _ (by decide)) _).trans (hp_0_3_4))))))))) dX11_init_183 ?_
  refine a_n (v := 4) C hw (mem_l (mem_l (mem_l (mem_l hm_11_4)))) (by decide) (by decide) rfl dX11_init_186 ?_
  refine lv_icmp_ge (tgt := 209) hx hb dX11_init_187 (by decide) (fun h9 => False.elim (by revert h9; decide)) (fun _ => ?_)
  refine lv_aload_n hx hb dX11_init_190 rfl (lv_at hl 1 rfl) ?_
  refine g_r 3 (k2 := 11) C hw (mem_l (mem_l (mem_l (mem_l hm_0_4)))) rfl fl_X11_30 rfl ((uP_n _ _ (Or.inl (by decide))).trans ((uP_n _ _ (Or.inl (by decide))).trans ((congrFun (zP_n _ (by decide)) _).trans ((congrFun (zP_n _ (by decide)) _).trans ((uP_n _ _ (Or.inl (by decide))).trans ((uP_n _ _ (Or.inl (by decide))).trans ((congrFun (zP_n _ (by decide)) _).trans ((congrFun (zP_n _ (by decide)) _).trans (hp_0_3_4))))))))) dX11_init_191 ?_
  refine lv_iload_n hx hb dX11_init_194 rfl (lv_at hl 0 rfl) ?_
  refine al_o (14) (ci := 7) (C0 := RX7) (T0 := TX7) (N0 := 2) (ty0 := tyX7) C hw (notin_a (notin_a (notin_a (notin_a hn_14_4 (by decide)) (by decide)) (by decide)) (by decide)) (noref_c hcl (notin_a (notin_a (notin_a (notin_a hn_14_4 (by decide)) (by decide)) (by decide)) (by decide))) rfl (by decide) rfl tyX7_ok ux_7 df_7 cl_X11_28 it_X7 in_X7 (Nat.le_of_ble_eq_true rfl) (Nat.le_of_ble_eq_true rfl) dX11_init_195 (fun B H hB_195 hw => ?_)
  have hl : lv_has ls 2 [(1, .int (2)), (0, .ref (B (0)))] := by rw [hB_195 (0) (by omega)]; exact hl
  refine W.eq (g2 := F0 m 198 ls [.ref (B (14)), .int (2), .ref (B (11))]) (by rw [hB_195 (11) (by omega)]) ?_
  have hcl := closed_z (k := 14) hcl
  have hb0 : B 0 = b0 := (hB_195 0 (by decide)).trans hb0
  refine lv_dup hx hb dX11_init_198 rfl ?_
  refine kIN C hw (c_X7_init E tt B (zF (zF (zF (zF (zF F4 (12)) (16)) (13)) (17)) (14)) (zG (zG (zG (zG (zG G4 (12)) (16)) (13)) (17)) (14)) (zP (uP (uP (zP (zP (uP (uP (zP (zP P4 (12)) 16) 12 0 (some 16)) 11 0 (some 12)) (13)) 17) 13 0 (some 17)) 11 1 (some 13)) (14)) hcl (i := 2) (by decide) mem_k (notin_a (notin_a (notin_a (notin_a (notin_a hn_18_4 (by decide)) (by decide)) (by decide)) (by decide)) (by decide))) vy_X7_init ml_X11_84 rfl hl.1 (rest := [.ref (B (14)), .int (2), .ref (B (11))]) rfl dX11_init_199 (Nat.le_of_ble_eq_true rfl) ⟨by decide, by decide⟩ ⟨Nat.le_of_ble_eq_true rfl, Nat.le_of_ble_eq_true rfl⟩ (fun v_199 ws_199 H locs hp_199 hq_199 => ?_)
  clear hw
  obtain ⟨rfl, B, hB_199, hcl, rfl⟩ := hp_199
  have hw := hq_199
  have hl : lv_has ls 2 [(1, .int (2)), (0, .ref (B (0)))] := by rw [hB_199 (0) (by decide)]; exact hl
  refine W.eq (g2 := F0 m 202 ls [.ref (B (14)), .int (2), .ref (B (11))]) (by rw [hB_199 (14) (by decide), hB_199 (11) (by decide)]; rfl) ?_
  have hb0 : B 0 = b0 := (hB_199 0 (by decide)).trans hb0
  refine t_q 2 (r := 20) (ci2 := 7) (q2 := (RX7, TX7, 2)) C hw (mem_l (mem_l (mem_l (mem_l (mem_l (mem_l hm_11_4)))))) rfl (by decide) (mem_l mem_k) rfl (by decide) rfl rfl rfl (show _ < 4 by omega) dX11_init_202 (fun H locs hw => ?_)
  have hcl := closed_u (a := 11) (b := 2) hcl (mem_l mem_k)
  refine lv_iinc (v := 3) (lv' := [(1, .int (3)), (0, .ref (B (0)))]) hx hb dX11_init_203 hl (k := 0) rfl (by decide) (by decide) rfl (fun ls hl => ?_)
  refine lv_goto (tgt := 181) hx hb dX11_init_206 (by decide) ?_
  refine lv_iload_n hx hb dX11_init_181 rfl (lv_at hl 0 rfl) ?_
  refine lv_aload_n hx hb dX11_init_182 rfl (lv_at hl 1 rfl) ?_
  refine g_r 3 (k2 := 11) C hw (mem_l (mem_l (mem_l (mem_l (mem_l (mem_l hm_0_4)))))) rfl fl_X11_30 rfl ((uP_n _ _ (Or.inl (by decide))).trans ((uP_n _ _ (Or.inl (by decide))).trans ((congrFun (zP_n _ (by decide)) _).trans ((congrFun (zP_n _ (by decide)) _).trans ((uP_n _ _ (Or.inl (by decide))).trans ((uP_n _ _ (Or.inl (by decide))).trans ((congrFun (zP_n _ (by decide)) _).trans ((congrFun (zP_n _ (by decide)) _).trans ((uP_n _ _ (Or.inl (by decide))).trans ((uP_n _ _ (Or.inl (by decide))).trans ((congrFun (zP_n _ (by decide)) _).trans ((congrFun (zP_n _ (by decide)) _).trans (hp_0_3_4))))))))))))) dX11_init_183 ?_
  refine a_n (v := 4) C hw (mem_l (mem_l (mem_l (mem_l (mem_l (mem_l hm_11_4)))))) (by decide) (by decide) rfl dX11_init_186 ?_
  refine lv_icmp_ge (tgt := 209) hx hb dX11_init_187 (by decide) (fun h9 => False.elim (by revert h9; decide)) (fun _ => ?_)
  refine lv_aload_n hx hb dX11_init_190 rfl (lv_at hl 1 rfl) ?_
  refine g_r 3 (k2 := 11) C hw (mem_l (mem_l (mem_l (mem_l (mem_l (mem_l hm_0_4)))))) rfl fl_X11_30 rfl ((uP_n _ _ (Or.inl (by decide))).trans ((uP_n _ _ (Or.inl (by decide))).trans ((congrFun (zP_n _ (by decide)) _).trans ((congrFun (zP_n _ (by decide)) _).trans ((uP_n _ _ (Or.inl (by decide))).trans ((uP_n _ _ (Or.inl (by decide))).trans ((congrFun (zP_n _ (by decide)) _).trans ((congrFun (zP_n _ (by decide)) _).trans ((uP_n _ _ (Or.inl (by decide))).trans ((uP_n _ _ (Or.inl (by decide))).trans ((congrFun (zP_n _ (by decide)) _).trans ((congrFun (zP_n _ (by decide)) _).trans (hp_0_3_4))))))))))))) dX11_init_191 ?_
  refine lv_iload_n hx hb dX11_init_194 rfl (lv_at hl 0 rfl) ?_
  refine al_o (15) (ci := 7) (C0 := RX7) (T0 := TX7) (N0 := 2) (ty0 := tyX7) C hw (notin_a (notin_a (notin_a (notin_a (notin_a (notin_a hn_15_4 (by decide)) (by decide)) (by decide)) (by decide)) (by decide)) (by decide)) (noref_c hcl (notin_a (notin_a (notin_a (notin_a (notin_a (notin_a hn_15_4 (by decide)) (by decide)) (by decide)) (by decide)) (by decide)) (by decide))) rfl (by decide) rfl tyX7_ok ux_7 df_7 cl_X11_28 it_X7 in_X7 (Nat.le_of_ble_eq_true rfl) (Nat.le_of_ble_eq_true rfl) dX11_init_195 (fun B H hB_195 hw => ?_)
  have hl : lv_has ls 2 [(1, .int (3)), (0, .ref (B (0)))] := by rw [hB_195 (0) (by omega)]; exact hl
  refine W.eq (g2 := F0 m 198 ls [.ref (B (15)), .int (3), .ref (B (11))]) (by rw [hB_195 (11) (by omega)]) ?_
  have hcl := closed_z (k := 15) hcl
  have hb0 : B 0 = b0 := (hB_195 0 (by decide)).trans hb0
  refine lv_dup hx hb dX11_init_198 rfl ?_
  refine kIN C hw (c_X7_init E tt B (zF (zF (zF (zF (zF (zF (zF F4 (12)) (16)) (13)) (17)) (14)) (18)) (15)) (zG (zG (zG (zG (zG (zG (zG G4 (12)) (16)) (13)) (17)) (14)) (18)) (15)) (zP (uP (uP (zP (zP (uP (uP (zP (zP (uP (uP (zP (zP P4 (12)) 16) 12 0 (some 16)) 11 0 (some 12)) (13)) 17) 13 0 (some 17)) 11 1 (some 13)) (14)) 18) 14 0 (some 18)) 11 2 (some 14)) (15)) hcl (i := 3) (by decide) mem_k (notin_a (notin_a (notin_a (notin_a (notin_a (notin_a (notin_a hn_19_4 (by decide)) (by decide)) (by decide)) (by decide)) (by decide)) (by decide)) (by decide))) vy_X7_init ml_X11_84 rfl hl.1 (rest := [.ref (B (15)), .int (3), .ref (B (11))]) rfl dX11_init_199 (Nat.le_of_ble_eq_true rfl) ⟨by decide, by decide⟩ ⟨Nat.le_of_ble_eq_true rfl, Nat.le_of_ble_eq_true rfl⟩ (fun v_199 ws_199 H locs hp_199 hq_199 => ?_)
  clear hw
  obtain ⟨rfl, B, hB_199, hcl, rfl⟩ := hp_199
  have hw := hq_199
  have hl : lv_has ls 2 [(1, .int (3)), (0, .ref (B (0)))] := by rw [hB_199 (0) (by decide)]; exact hl
  refine W.eq (g2 := F0 m 202 ls [.ref (B (15)), .int (3), .ref (B (11))]) (by rw [hB_199 (15) (by decide), hB_199 (11) (by decide)]; rfl) ?_
  have hb0 : B 0 = b0 := (hB_199 0 (by decide)).trans hb0
  refine t_q 3 (r := 20) (ci2 := 7) (q2 := (RX7, TX7, 2)) C hw (mem_l (mem_l (mem_l (mem_l (mem_l (mem_l (mem_l (mem_l hm_11_4)))))))) rfl (by decide) (mem_l mem_k) rfl (by decide) rfl rfl rfl (show _ < 4 by omega) dX11_init_202 (fun H locs hw => ?_)
  have hcl := closed_u (a := 11) (b := 3) hcl (mem_l mem_k)
  refine lv_iinc (v := 4) (lv' := [(1, .int (4)), (0, .ref (B (0)))]) hx hb dX11_init_203 hl (k := 0) rfl (by decide) (by decide) rfl (fun ls hl => ?_)
  refine lv_goto (tgt := 181) hx hb dX11_init_206 (by decide) ?_
  refine lv_iload_n hx hb dX11_init_181 rfl (lv_at hl 0 rfl) ?_
  refine lv_aload_n hx hb dX11_init_182 rfl (lv_at hl 1 rfl) ?_
  refine g_r 3 (k2 := 11) C hw (mem_l (mem_l (mem_l (mem_l (mem_l (mem_l (mem_l (mem_l hm_0_4)))))))) rfl fl_X11_30 rfl ((uP_n _ _ (Or.inl (by decide))).trans ((uP_n _ _ (Or.inl (by decide))).trans ((congrFun (zP_n _ (by decide)) _).trans ((congrFun (zP_n _ (by decide)) _).trans ((uP_n _ _ (Or.inl (by decide))).trans ((uP_n _ _ (Or.inl (by decide))).trans ((congrFun (zP_n _ (by decide)) _).trans ((congrFun (zP_n _ (by decide)) _).trans ((uP_n _ _ (Or.inl (by decide))).trans ((uP_n _ _ (Or.inl (by decide))).trans ((congrFun (zP_n _ (by decide)) _).trans ((congrFun (zP_n _ (by decide)) _).trans ((uP_n _ _ (Or.inl (by decide))).trans ((uP_n _ _ (Or.inl (by decide))).trans ((congrFun (zP_n _ (by decide)) _).trans ((congrFun (zP_n _ (by decide)) _).trans (hp_0_3_4))))))))))))))))) dX11_init_183 ?_
  refine a_n (v := 4) C hw (mem_l (mem_l (mem_l (mem_l (mem_l (mem_l (mem_l (mem_l hm_11_4)))))))) (by decide) (by decide) rfl dX11_init_186 ?_
  refine lv_icmp_ge (tgt := 209) hx hb dX11_init_187 (by decide) (fun _ => ?_) (fun h9 => False.elim (by revert h9; decide))
  exact r_v C hr hlk hw ⟨rfl, B, hb0.trans he0.symm, by subst hFe4; subst hGe4; subst hPe4; subst hXe4; subst hFe3; subst hGe3; subst hPe3; subst hXe3; subst hFe2; subst hGe2; subst hPe2; subst hXe2; subst hFe1; subst hGe1; subst hPe1; subst hXe1; rfl⟩ dX11_init_209
