theorem ch_min {n k : Nat} (hk : k ≤ n) : ch n (min k (n - k)) = ch n k := by
  rcases Nat.le_total k (n - k) with h | h
  · rw [show min k (n - k) = k by omega]
  · rw [show min k (n - k) = n - k by omega, ← ch_sym n k hk]
theorem abs_if {x0 : Int32} {x : Nat} (hx : x0 = nI x ∨ x0 = -nI x) (hl : x < 2 ^ 30) : (if 0 ≤ x0 then x0 else 0 - x0) = nI x := by
  by_cases h : 0 ≤ x0
  · rw [if_pos h]; exact abs_pos hx hl h
  · rw [if_neg h, Int32.zero_sub]; exact abs_neg hx hl h
def w_moreC (F : tF) (nn : Nat) (ca : Int32) : Bool := decide (20 * tsum (tlN F ca 0 nn + tlN F ca 1 nn) (tlN F ca 2 nn + tlN F ca 3 nn) (tlN F ca 0 nn + tlN F ca 2 nn) (tlN F ca 0 nn) (tlN F ca 1 nn + 1) ≤ lN (chI nn (nI (tlN F ca 0 nn + tlN F ca 2 nn))))
def sp_chanceC (F : tF) (nn : Nat) (ca : Int32) : Int32 := if 0 ≤ ca ∧ ca ≤ 2 then (if w_moreC F nn ca = true then 1 else 0) else -2
def w_fndC (F : tF) (nn : Nat) : Nat → Int32
  | 0 => -1
  | k + 1 => if w_moreC F nn (nI k) = true ∧ (w_fndC F nn k = -1 ∨ w_gr F nn (nI k) (w_fndC F nn k) = true) then nI k else w_fndC F nn k
def sp_byC (F : tF) (nn : Nat) (ca pt : Int32) : Int32 := if (0 ≤ ca ∧ ca ≤ 2) ∧ (0 ≤ pt ∧ pt ≤ 1) ∧ ¬ w_below F nn ca = 0 then (if pt = 0 then (w_quo (w_above F nn ca).toInt64 (nI (w_g F nn ca)).toInt64).toInt32 else (w_quo (nI (w_below F nn ca)).toInt64 (nI (w_g F nn ca)).toInt64).toInt32) else -2147483648
set_option maxHeartbeats 4000000 in
set_option maxRecDepth 100000 in
theorem c_X11_choices (E : cE) (tt : Nat × Nat × Nat) (ws : va_W) {n0 : Nat} (hn0 : n0 ≤ 60) (k0 : Int32)  : CT E tt yX11_choices cX11_choices 6 (some .long) 1 0 0 [.int (nI n0), .int (k0)] ws (fun r w => r = some (.long (lN (chI n0 k0))) ∧ w = ws) := by
  refine CT.mk (by decide +kernel) (Nat.le_of_ble_eq_true rfl) ?_
  intro l p e s m below meth c A ls C hr hlk hnm hw hl
  have hx := C.1
  have hb := C.2.1
  have hts := C.2.2.2.2
  have hown : s.vm.findClass RX11 = some m.cls := C.2.2.2.1
  have hl : lv_has ls 6 [(0, .int (nI n0)), (1, .int (k0))] := hl
  refine lv_iload_n hx hb dX11_choices_0 rfl (lv_at hl 1 rfl) ?_
  refine lv_if_lt (tgt := 9) hx hb dX11_choices_1 (by decide) (fun c_1 => ?_) (fun c_1 => ?_)
  · refine lv_lconst (v := 0) hx hb dX11_choices_9 (by decide) ?_
    exact r_l C hr hlk hw ⟨(by rw [chI, if_pos (Or.inl c_1), lN_0]), rfl⟩ dX11_choices_10
  · refine lv_iload_n hx hb dX11_choices_4 rfl (lv_at hl 1 rfl) ?_
    refine lv_iload_n hx hb dX11_choices_5 rfl (lv_at hl 0 rfl) ?_
    refine lv_icmp_le (tgt := 11) hx hb dX11_choices_6 (by decide) (fun c_6 => ?_) (fun c_6 => ?_)
    · obtain ⟨k, hk, rfl⟩ := n_of (n := n0) (Int32.not_lt.mp c_1) c_6 (by omega)
      refine lv_iload_n hx hb dX11_choices_11 rfl (lv_at hl 1 rfl) ?_
      refine lv_iload_n hx hb dX11_choices_12 rfl (lv_at hl 0 rfl) ?_
      refine lv_iload_n hx hb dX11_choices_13 rfl (lv_at hl 1 rfl) ?_
      refine lv_isub hx hb dX11_choices_14 ?_
      refine tp_i (y := nI (n0 - k)) (pk_sub (by omega)) ?_
      refine va_mmin hx hb (C.2.2.1.trans hl.1.symm) hown (hts _ ml_X11_405) (hts _ mh_min_s) (hts _ in_J9) (hts _ mh_min_c) (Nat.le_of_ble_eq_true rfl) (Nat.le_of_ble_eq_true rfl) (Nat.le_of_ble_eq_true rfl) (Nat.le_of_ble_eq_true rfl) dX11_choices_15 ?_
      refine tp_i (y := nI (min k (n0 - k))) (by by_cases h9 : n0 - k < k; rw [if_pos (nI_lt h9 (by omega)), show min k (n0 - k) = n0 - k by omega]; rw [if_neg (nI_nlt (by omega) (by omega)), show min k (n0 - k) = k by omega]) ?_
      refine lv_istore_n (lv' := [(2, .int (nI (min k (n0 - k)))), (0, .int (nI n0)), (1, .int (nI k))]) hx hb dX11_choices_18 rfl hl (by decide) rfl (fun ls hl => ?_)
      refine lv_lconst (v := lN (ch n0 0)) hx hb dX11_choices_19 (by rw [ch_0]; rfl) ?_
      refine lv_lstore_n (lv' := [(3, .long (lN (ch n0 0))), (2, .int (nI (min k (n0 - k)))), (0, .int (nI n0)), (1, .int (nI k))]) hx hb dX11_choices_20 rfl hl (by decide) rfl (fun ls hl => ?_)
      refine lv_iconst (v := 0) hx hb dX11_choices_21 (by decide) ?_
      refine lv_istore (lv' := [(5, .int (0)), (3, .long (lN (ch n0 0))), (2, .int (nI (min k (n0 - k)))), (0, .int (nI n0)), (1, .int (nI k))]) hx hb dX11_choices_22 hl (by decide) rfl (fun ls hl => ?_)
      have lo_a : ∀ (n : Nat) (i : Nat) (H : Heap) (locs : List Loc) (ls : Array Slot), n0 - i < n → (i ≤ min k (n0 - k)) → Wd E tt A s ws H locs → lv_has ls 6 [(0, .int (nI n0)), (1, .int (nI k)), (2, .int (nI (min k (n0 - k)))), (3, .long (lN (ch n0 i))), (5, .int (nI i))] → W p l e (rmO 1 0 0) s m ([.int (nI n0), .int ((nI k))] : List Value).toArray below meth c H locs 0 0 (MQ below (Fin0 E (fun r w => r = some (.long (lN (chI n0 (nI k)))) ∧ w = ws) A) ([.int (nI n0), .int ((nI k))] : List Value).toArray s 0 0 A) (F0 m 24 ls []) := by
        intro n
        induction n with
        | zero =>
          intro i H locs ls hi_2
          exact absurd hi_2 (Nat.not_lt_zero _)
        | succ n ih_a =>
          intro i H locs ls hj_a hi hw hl
          refine lv_iload hx hb dX11_choices_24 (lv_at hl 4 rfl) ?_
          refine lv_iload_n hx hb dX11_choices_26 rfl (lv_at hl 2 rfl) ?_
          refine lv_icmp_ge (tgt := 50) hx hb dX11_choices_27 (by decide) (fun c_27 => ?_) (fun c_27 => ?_)
          · have he : i = min k (n0 - k) := lp_eq (by omega) (by omega) c_27
            subst he
            refine lv_lload_n hx hb dX11_choices_50 rfl (lv_at hl 3 rfl) ?_
            exact r_l C hr hlk hw ⟨(by rw [chI, if_neg (by rintro (h9 | h9); exact nI_pos (by omega) h9; exact absurd c_6 (Int32.not_le.mpr h9)), i4_cl (by omega), ch_min hk]), rfl⟩ dX11_choices_51
          · have hlt : i < min k (n0 - k) := lp_lt (by omega) (by omega) c_27
            refine lv_lload_n hx hb dX11_choices_30 rfl (lv_at hl 3 rfl) ?_
            refine lv_iload_n hx hb dX11_choices_31 rfl (lv_at hl 0 rfl) ?_
            refine lv_iload hx hb dX11_choices_32 (lv_at hl 4 rfl) ?_
            refine lv_isub hx hb dX11_choices_34 ?_
            refine lv_i2l hx hb dX11_choices_35 rfl ?_
            refine lv_lmul hx hb dX11_choices_36 ?_
            refine lv_iload hx hb dX11_choices_37 (lv_at hl 4 rfl) ?_
            refine lv_iconst (v := 1) hx hb dX11_choices_39 (by decide) ?_
            refine lv_iadd hx hb dX11_choices_40 ?_
            refine lv_i2l hx hb dX11_choices_41 rfl ?_
            refine lv_ldiv hx hb dX11_choices_42 (by rw [nI_1, nI_l (by omega)]; exact fun h9 => absurd ((pk_lEQ (by omega) (by decide)).mp (h9.trans lN_0.symm)) (by omega)) ?_
            refine tp_l (y := lN (ch n0 (i + 1))) (ch_next hn0 (by omega)) ?_
            refine lv_lstore_n (lv' := [(3, .long (lN (ch n0 (i + 1)))), (0, .int (nI n0)), (1, .int (nI k)), (2, .int (nI (min k (n0 - k)))), (5, .int (nI i))]) hx hb dX11_choices_43 rfl hl (by decide) rfl (fun ls hl => ?_)
            refine lv_iinc (v := nI (i + 1)) (lv' := [(5, .int (nI (i + 1))), (3, .long (lN (ch n0 (i + 1)))), (0, .int (nI n0)), (1, .int (nI k)), (2, .int (nI (min k (n0 - k))))]) hx hb dX11_choices_44 hl (k := 4) rfl (nI_1 _) (by decide) rfl (fun ls hl => ?_)
            refine lv_goto (tgt := 24) hx hb dX11_choices_47 (by decide) ?_
            exact ih_a (i + 1) _ _ _ (by omega) (by omega) hw (lv_sub hl [2, 3, 4, 1, 0] rfl)
      exact lo_a _ 0 _ _ _ (Nat.lt_succ_self _) (by omega) hw (lv_sub hl [3, 4, 2, 1, 0] rfl)
    · rw [Int32.not_le] at c_6
      refine lv_lconst (v := 0) hx hb dX11_choices_9 (by decide) ?_
      exact r_l C hr hlk hw ⟨(by rw [chI, if_pos (Or.inr c_6), lN_0]), rfl⟩ dX11_choices_10

set_option maxHeartbeats 4000000 in
set_option maxRecDepth 100000 in
theorem c_X5_isMoreThanChance (E : cE) (tt : Nat × Nat × Nat) {X : List Nat} (B : Nat → Nat) (F : tF) (G : tG) {P : tP} {nh : Nat → Nat} {nc no : Nat} {mt om : Nat → Nat} (hR : RC X P nh nc no mt om) {nn : Nat} (hNK : NK F nn) (ca : Int32)  : CT E tt yX5_isMoreThanChance cX5_isMoreThanChance 8 (some .boolean) 2 0 0 [.ref (B (76)), .int (ca)] (wl E X B F G P) (fun r w => ((w_moreC F nn ca = true) ∧ r = some (.int 1) ∧ w = (wl E X B F G P)) ∨ (¬ (w_moreC F nn ca = true) ∧ r = some (.int 0) ∧ w = (wl E X B F G P))) := by
  refine CT.mk (by decide +kernel) (Nat.le_of_ble_eq_true rfl) ?_
  intro l p e s m below meth c A ls C hr hlk hnm hw hl
  have hx := C.1
  have hb := C.2.1
  have hts := C.2.2.2.2
  have hown : s.vm.findClass RX5 = some m.cls := C.2.2.2.1
  have hl : lv_has ls 8 [(0, .ref (B (76))), (1, .int (ca))] := hl
  have hn60 := hNK.2.2.1
  have hq0 := tlN_sum F ca nn
  refine lv_aload_n hx hb dX5_isMoreThanChance_0 rfl (lv_at hl 0 rfl) ?_
  refine lv_iload_n hx hb dX5_isMoreThanChance_1 rfl (lv_at hl 1 rfl) ?_
  refine lv_iconst (v := 0) hx hb dX5_isMoreThanChance_2 (by decide) ?_
  refine kV C hw (c_X5_share E tt B F G hR hNK (ca) (wh := 0) (by omega)) vy_X5_share ml_X5_22 (rcv hw (hR.f rfl) rfl (by decide) (q2 := (RX5, TX5, 3)) rfl) rfl hl.1 (rest := []) rfl dX5_isMoreThanChance_3 (Nat.le_of_ble_eq_true rfl) ⟨by decide, by decide⟩ ⟨Nat.le_of_ble_eq_true rfl, Nat.le_of_ble_eq_true rfl⟩ (fun v_3 ws_3 H locs hp_3 hq_3 => ?_)
  clear hw
  obtain ⟨rfl, rfl⟩ := hp_3
  have hw := hq_3
  refine W.eq (g2 := F0 m 6 ls [.int (nI (tlN F (ca) 0 nn))]) rfl ?_
  refine lv_aload_n hx hb dX5_isMoreThanChance_6 rfl (lv_at hl 0 rfl) ?_
  refine lv_iload_n hx hb dX5_isMoreThanChance_7 rfl (lv_at hl 1 rfl) ?_
  refine lv_iconst (v := 2) hx hb dX5_isMoreThanChance_8 (by decide) ?_
  refine kV C hw (c_X5_share E tt B F G hR hNK (ca) (wh := 2) (by omega)) vy_X5_share ml_X5_22 (rcv hw (hR.f rfl) rfl (by decide) (q2 := (RX5, TX5, 3)) rfl) rfl hl.1 (rest := [.int (nI (tlN F (ca) 0 nn))]) rfl dX5_isMoreThanChance_9 (Nat.le_of_ble_eq_true rfl) ⟨by decide, by decide⟩ ⟨Nat.le_of_ble_eq_true rfl, Nat.le_of_ble_eq_true rfl⟩ (fun v_9 ws_9 H locs hp_9 hq_9 => ?_)
  clear hw
  obtain ⟨rfl, rfl⟩ := hp_9
  have hw := hq_9
  refine W.eq (g2 := F0 m 12 ls [.int (nI (tlN F (ca) 2 nn)), .int (nI (tlN F (ca) 0 nn))]) rfl ?_
  refine lv_iadd hx hb dX5_isMoreThanChance_12 ?_
  refine tp_i (y := nI (tlN F ca 0 nn + tlN F ca 2 nn)) (nI_add _ _) ?_
  refine lv_istore_n (lv' := [(2, .int (nI (tlN F ca 0 nn + tlN F ca 2 nn))), (0, .ref (B (76))), (1, .int (ca))]) hx hb dX5_isMoreThanChance_13 rfl hl (by decide) rfl (fun ls hl => ?_)
  refine lv_aload_n hx hb dX5_isMoreThanChance_14 rfl (lv_at hl 1 rfl) ?_
  refine lv_iload_n hx hb dX5_isMoreThanChance_15 rfl (lv_at hl 2 rfl) ?_
  refine lv_iconst (v := 0) hx hb dX5_isMoreThanChance_16 (by decide) ?_
  refine kV C hw (c_X5_share E tt B F G hR hNK (ca) (wh := 0) (by omega)) vy_X5_share ml_X5_22 (rcv hw (hR.f rfl) rfl (by decide) (q2 := (RX5, TX5, 3)) rfl) rfl hl.1 (rest := []) rfl dX5_isMoreThanChance_17 (Nat.le_of_ble_eq_true rfl) ⟨by decide, by decide⟩ ⟨Nat.le_of_ble_eq_true rfl, Nat.le_of_ble_eq_true rfl⟩ (fun v_17 ws_17 H locs hp_17 hq_17 => ?_)
  clear hw
  obtain ⟨rfl, rfl⟩ := hp_17
  have hw := hq_17
  refine W.eq (g2 := F0 m 20 ls [.int (nI (tlN F (ca) 0 nn))]) rfl ?_
  refine lv_aload_n hx hb dX5_isMoreThanChance_20 rfl (lv_at hl 1 rfl) ?_
  refine lv_iload_n hx hb dX5_isMoreThanChance_21 rfl (lv_at hl 2 rfl) ?_
  refine lv_iconst (v := 1) hx hb dX5_isMoreThanChance_22 (by decide) ?_
  refine kV C hw (c_X5_share E tt B F G hR hNK (ca) (wh := 1) (by omega)) vy_X5_share ml_X5_22 (rcv hw (hR.f rfl) rfl (by decide) (q2 := (RX5, TX5, 3)) rfl) rfl hl.1 (rest := [.int (nI (tlN F (ca) 0 nn))]) rfl dX5_isMoreThanChance_23 (Nat.le_of_ble_eq_true rfl) ⟨by decide, by decide⟩ ⟨Nat.le_of_ble_eq_true rfl, Nat.le_of_ble_eq_true rfl⟩ (fun v_23 ws_23 H locs hp_23 hq_23 => ?_)
  clear hw
  obtain ⟨rfl, rfl⟩ := hp_23
  have hw := hq_23
  refine W.eq (g2 := F0 m 26 ls [.int (nI (tlN F (ca) 1 nn)), .int (nI (tlN F (ca) 0 nn))]) rfl ?_
  refine lv_iadd hx hb dX5_isMoreThanChance_26 ?_
  refine tp_i (y := nI (tlN F ca 0 nn + tlN F ca 1 nn)) (nI_add _ _) ?_
  refine lv_istore_n (lv' := [(3, .int (nI (tlN F ca 0 nn + tlN F ca 1 nn))), (2, .int (nI (tlN F ca 0 nn + tlN F ca 2 nn))), (0, .ref (B (76))), (1, .int (ca))]) hx hb dX5_isMoreThanChance_27 rfl hl (by decide) rfl (fun ls hl => ?_)
  refine lv_aload_n hx hb dX5_isMoreThanChance_28 rfl (lv_at hl 2 rfl) ?_
  refine g_i 2 C hw (hR.f rfl) rfl fl_X5_18 rfl dX5_isMoreThanChance_29 ?_
  refine tp_i (y := nI nn) (hNK.2.2.2) ?_
  refine lv_iload_n hx hb dX5_isMoreThanChance_32 rfl (lv_at hl 0 rfl) ?_
  refine lv_isub hx hb dX5_isMoreThanChance_33 ?_
  refine tp_i (y := nI (tlN F ca 2 nn + tlN F ca 3 nn)) (by rw [pk_sub (by omega), show nn - (tlN F ca 0 nn + tlN F ca 1 nn) = tlN F ca 2 nn + tlN F ca 3 nn by omega]) ?_
  refine lv_istore (lv' := [(4, .int (nI (tlN F ca 2 nn + tlN F ca 3 nn))), (3, .int (nI (tlN F ca 0 nn + tlN F ca 1 nn))), (2, .int (nI (tlN F ca 0 nn + tlN F ca 2 nn))), (0, .ref (B (76))), (1, .int (ca))]) hx hb dX5_isMoreThanChance_34 hl (by decide) rfl (fun ls hl => ?_)
  refine lv_lconst (v := 0) hx hb dX5_isMoreThanChance_36 (by decide) ?_
  refine lv_lstore (lv' := [(5, .long (0)), (4, .int (nI (tlN F ca 2 nn + tlN F ca 3 nn))), (3, .int (nI (tlN F ca 0 nn + tlN F ca 1 nn))), (2, .int (nI (tlN F ca 0 nn + tlN F ca 2 nn))), (0, .ref (B (76))), (1, .int (ca))]) hx hb dX5_isMoreThanChance_37 hl (by decide) rfl (fun ls hl => ?_)
  refine lv_aload_n hx hb dX5_isMoreThanChance_39 rfl (lv_at hl 4 rfl) ?_
  refine lv_iload_n hx hb dX5_isMoreThanChance_40 rfl (lv_at hl 5 rfl) ?_
  refine lv_iconst (v := 0) hx hb dX5_isMoreThanChance_41 (by decide) ?_
  refine kV C hw (c_X5_share E tt B F G hR hNK (ca) (wh := 0) (by omega)) vy_X5_share ml_X5_22 (rcv hw (hR.f rfl) rfl (by decide) (q2 := (RX5, TX5, 3)) rfl) rfl hl.1 (rest := []) rfl dX5_isMoreThanChance_42 (Nat.le_of_ble_eq_true rfl) ⟨by decide, by decide⟩ ⟨Nat.le_of_ble_eq_true rfl, Nat.le_of_ble_eq_true rfl⟩ (fun v_42 ws_42 H locs hp_42 hq_42 => ?_)
  clear hw
  obtain ⟨rfl, rfl⟩ := hp_42
  have hw := hq_42
  refine W.eq (g2 := F0 m 45 ls [.int (nI (tlN F (ca) 0 nn))]) rfl ?_
  refine lv_istore (lv' := [(7, .int (nI (tlN F (ca) 0 nn))), (5, .long (0)), (4, .int (nI (tlN F ca 2 nn + tlN F ca 3 nn))), (3, .int (nI (tlN F ca 0 nn + tlN F ca 1 nn))), (2, .int (nI (tlN F ca 0 nn + tlN F ca 2 nn))), (0, .ref (B (76))), (1, .int (ca))]) hx hb dX5_isMoreThanChance_45 hl (by decide) rfl (fun ls hl => ?_)
  have lo_a : ∀ (n : Nat) (j : Nat) (H : Heap) (locs : List Loc) (ls : Array Slot), tlN F ca 1 nn + 1 - j < n → (j ≤ tlN F ca 1 nn + 1) → Wd E tt A s (wl E X B F G P) H locs → lv_has ls 8 [(0, .ref (B (76))), (1, .int (ca)), (2, .int (nI (tlN F ca 0 nn + tlN F ca 2 nn))), (3, .int (nI (tlN F ca 0 nn + tlN F ca 1 nn))), (4, .int (nI (tlN F ca 2 nn + tlN F ca 3 nn))), (5, .long (tsum (tlN F ca 0 nn + tlN F ca 1 nn) (tlN F ca 2 nn + tlN F ca 3 nn) (tlN F ca 0 nn + tlN F ca 2 nn) (tlN F ca 0 nn) j)), (7, .int (nI (tlN F ca 0 nn + j)))] → W p l e (rmO 2 0 0) s m ([.ref (B (76)), .int (ca)] : List Value).toArray below meth c H locs 0 0 (MQ below (Fin0 E (fun r w => ((w_moreC F nn ca = true) ∧ r = some (.int 1) ∧ w = (wl E X B F G P)) ∨ (¬ (w_moreC F nn ca = true) ∧ r = some (.int 0) ∧ w = (wl E X B F G P))) A) ([.ref (B (76)), .int (ca)] : List Value).toArray s 0 0 A) (F0 m 47 ls []) := by
    intro n
    induction n with
    | zero =>
      intro j H locs ls hi_2
      exact absurd hi_2 (Nat.not_lt_zero _)
    | succ n ih_a =>
      intro j H locs ls hj_a hj hw hl
      refine lv_iload hx hb dX5_isMoreThanChance_47 (lv_at hl 6 rfl) ?_
      refine lv_iload_n hx hb dX5_isMoreThanChance_49 rfl (lv_at hl 3 rfl) ?_
      refine lv_icmp_gt (tgt := 80) hx hb dX5_isMoreThanChance_50 (by decide) (fun c_50 => ?_) (fun c_50 => ?_)
      · have hjb : j = tlN F ca 1 nn + 1 := by have := (nI_ltI (by omega) (by omega)).mp c_50; omega
        subst hjb
        refine lv_ldc2 (v := 20) hx hb hown (hts _ kc_X5_37) dX5_isMoreThanChance_80 ?_
        refine lv_lload hx hb dX5_isMoreThanChance_83 (lv_at hl 5 rfl) ?_
        refine lv_lmul hx hb dX5_isMoreThanChance_85 ?_
        refine lv_aload_n hx hb dX5_isMoreThanChance_86 rfl (lv_at hl 0 rfl) ?_
        refine g_i 2 C hw (hR.f rfl) rfl fl_X5_18 rfl dX5_isMoreThanChance_87 ?_
        refine tp_i (y := nI nn) (hNK.2.2.2) ?_
        refine lv_iload_n hx hb dX5_isMoreThanChance_90 rfl (lv_at hl 2 rfl) ?_
        refine kSN C hw (c_X11_choices E tt _ (n0 := nn) (by omega) (nI (tlN F ca 0 nn + tlN F ca 2 nn))) vy_X11_choices ml_X5_33 rfl hl.1 (rest := [.long ((20 * tsum (tlN F ca 0 nn + tlN F ca 1 nn) (tlN F ca 2 nn + tlN F ca 3 nn) (tlN F ca 0 nn + tlN F ca 2 nn) (tlN F ca 0 nn) (tlN F ca 1 nn + 1)))]) rfl dX5_isMoreThanChance_91 (Nat.le_of_ble_eq_true rfl) ⟨by decide, by decide⟩ ⟨Nat.le_of_ble_eq_true rfl, Nat.le_of_ble_eq_true rfl⟩ (fun v_91 ws_91 H locs hp_91 hq_91 => ?_)
        clear hw
        obtain ⟨rfl, rfl⟩ := hp_91
        have hw := hq_91
        refine W.eq (g2 := F0 m 94 ls [.long (lN (chI (nn) (nI (tlN F ca 0 nn + tlN F ca 2 nn)))), .long ((20 * tsum (tlN F ca 0 nn + tlN F ca 1 nn) (tlN F ca 2 nn + tlN F ca 3 nn) (tlN F ca 0 nn + tlN F ca 2 nn) (tlN F ca 0 nn) (tlN F ca 1 nn + 1)))]) rfl ?_
        refine W.lcmp hx hb dX5_isMoreThanChance_94 ?_
        refine lv_if_gt (tgt := 102) hx hb dX5_isMoreThanChance_95 (by decide) (fun c_95 => ?_) (fun c_95 => ?_)
        · simp only [gt_iff_lt, lg_gt] at c_95
          refine lv_iconst (v := 0) hx hb dX5_isMoreThanChance_102 (by decide) ?_
          exact r_z C hr hlk hw rfl (Or.inr ⟨fun h9 => absurd (of_decide_eq_true h9) (Int64.not_le.mpr c_95), rfl, rfl⟩) dX5_isMoreThanChance_103
        · simp only [gt_iff_lt, lg_gt] at c_95
          refine lv_iconst (v := 1) hx hb dX5_isMoreThanChance_98 (by decide) ?_
          refine lv_goto (tgt := 103) hx hb dX5_isMoreThanChance_99 (by decide) ?_
          exact r_z C hr hlk hw rfl (Or.inl ⟨decide_eq_true (Int64.not_lt.mp c_95), rfl, rfl⟩) dX5_isMoreThanChance_103
      · have hjb : j ≤ tlN F ca 1 nn := by rcases Nat.lt_or_ge (tlN F ca 1 nn) j with h9 | h9; exact absurd ((nI_ltI (by omega) (by omega)).mpr (by omega)) c_50; omega
        refine lv_lload hx hb dX5_isMoreThanChance_53 (lv_at hl 5 rfl) ?_
        refine lv_iload_n hx hb dX5_isMoreThanChance_55 rfl (lv_at hl 3 rfl) ?_
        refine lv_iload hx hb dX5_isMoreThanChance_56 (lv_at hl 6 rfl) ?_
        refine kSN C hw (c_X11_choices E tt _ (n0 := tlN F ca 0 nn + tlN F ca 1 nn) (by omega) (nI (tlN F ca 0 nn + j))) vy_X11_choices ml_X5_33 rfl hl.1 (rest := [.long (tsum (tlN F ca 0 nn + tlN F ca 1 nn) (tlN F ca 2 nn + tlN F ca 3 nn) (tlN F ca 0 nn + tlN F ca 2 nn) (tlN F ca 0 nn) j)]) rfl dX5_isMoreThanChance_58 (Nat.le_of_ble_eq_true rfl) ⟨by decide, by decide⟩ ⟨Nat.le_of_ble_eq_true rfl, Nat.le_of_ble_eq_true rfl⟩ (fun v_58 ws_58 H locs hp_58 hq_58 => ?_)
        clear hw
        obtain ⟨rfl, rfl⟩ := hp_58
        have hw := hq_58
        refine W.eq (g2 := F0 m 61 ls [.long (lN (chI (tlN F ca 0 nn + tlN F ca 1 nn) (nI (tlN F ca 0 nn + j)))), .long (tsum (tlN F ca 0 nn + tlN F ca 1 nn) (tlN F ca 2 nn + tlN F ca 3 nn) (tlN F ca 0 nn + tlN F ca 2 nn) (tlN F ca 0 nn) j)]) rfl ?_
        refine lv_iload hx hb dX5_isMoreThanChance_61 (lv_at hl 4 rfl) ?_
        refine lv_iload_n hx hb dX5_isMoreThanChance_63 rfl (lv_at hl 2 rfl) ?_
        refine lv_iload hx hb dX5_isMoreThanChance_64 (lv_at hl 6 rfl) ?_
        refine lv_isub hx hb dX5_isMoreThanChance_66 ?_
        refine kSN C hw (c_X11_choices E tt _ (n0 := tlN F ca 2 nn + tlN F ca 3 nn) (by omega) ((nI (tlN F ca 0 nn + tlN F ca 2 nn) - nI (tlN F ca 0 nn + j)))) vy_X11_choices ml_X5_33 rfl hl.1 (rest := [.long (lN (chI (tlN F ca 0 nn + tlN F ca 1 nn) (nI (tlN F ca 0 nn + j)))), .long (tsum (tlN F ca 0 nn + tlN F ca 1 nn) (tlN F ca 2 nn + tlN F ca 3 nn) (tlN F ca 0 nn + tlN F ca 2 nn) (tlN F ca 0 nn) j)]) rfl dX5_isMoreThanChance_67 (Nat.le_of_ble_eq_true rfl) ⟨by decide, by decide⟩ ⟨Nat.le_of_ble_eq_true rfl, Nat.le_of_ble_eq_true rfl⟩ (fun v_67 ws_67 H locs hp_67 hq_67 => ?_)
        clear hw
        obtain ⟨rfl, rfl⟩ := hp_67
        have hw := hq_67
        refine W.eq (g2 := F0 m 70 ls [.long (lN (chI (tlN F ca 2 nn + tlN F ca 3 nn) ((nI (tlN F ca 0 nn + tlN F ca 2 nn) - nI (tlN F ca 0 nn + j))))), .long (lN (chI (tlN F ca 0 nn + tlN F ca 1 nn) (nI (tlN F ca 0 nn + j)))), .long (tsum (tlN F ca 0 nn + tlN F ca 1 nn) (tlN F ca 2 nn + tlN F ca 3 nn) (tlN F ca 0 nn + tlN F ca 2 nn) (tlN F ca 0 nn) j)]) rfl ?_
        refine lv_lmul hx hb dX5_isMoreThanChance_70 ?_
        refine lv_ladd hx hb dX5_isMoreThanChance_71 ?_
        refine lv_lstore (lv' := [(5, .long ((tsum (tlN F ca 0 nn + tlN F ca 1 nn) (tlN F ca 2 nn + tlN F ca 3 nn) (tlN F ca 0 nn + tlN F ca 2 nn) (tlN F ca 0 nn) j + (lN (chI (tlN F ca 0 nn + tlN F ca 1 nn) (nI (tlN F ca 0 nn + j))) * lN (chI (tlN F ca 2 nn + tlN F ca 3 nn) ((nI (tlN F ca 0 nn + tlN F ca 2 nn) - nI (tlN F ca 0 nn + j)))))))), (0, .ref (B (76))), (1, .int (ca)), (2, .int (nI (tlN F ca 0 nn + tlN F ca 2 nn))), (3, .int (nI (tlN F ca 0 nn + tlN F ca 1 nn))), (4, .int (nI (tlN F ca 2 nn + tlN F ca 3 nn))), (7, .int (nI (tlN F ca 0 nn + j)))]) hx hb dX5_isMoreThanChance_72 hl (by decide) rfl (fun ls hl => ?_)
        refine lv_iinc (v := nI (tlN F ca 0 nn + j + 1)) (lv' := [(7, .int (nI (tlN F ca 0 nn + j + 1))), (5, .long ((tsum (tlN F ca 0 nn + tlN F ca 1 nn) (tlN F ca 2 nn + tlN F ca 3 nn) (tlN F ca 0 nn + tlN F ca 2 nn) (tlN F ca 0 nn) j + (lN (chI (tlN F ca 0 nn + tlN F ca 1 nn) (nI (tlN F ca 0 nn + j))) * lN (chI (tlN F ca 2 nn + tlN F ca 3 nn) ((nI (tlN F ca 0 nn + tlN F ca 2 nn) - nI (tlN F ca 0 nn + j)))))))), (0, .ref (B (76))), (1, .int (ca)), (2, .int (nI (tlN F ca 0 nn + tlN F ca 2 nn))), (3, .int (nI (tlN F ca 0 nn + tlN F ca 1 nn))), (4, .int (nI (tlN F ca 2 nn + tlN F ca 3 nn)))]) hx hb dX5_isMoreThanChance_74 hl (k := 6) rfl (nI_1 _) (by decide) rfl (fun ls hl => ?_)
        refine lv_goto (tgt := 47) hx hb dX5_isMoreThanChance_77 (by decide) ?_
        exact ih_a (j + 1) _ _ _ (by omega) (by omega) hw (lv_sub hl [2, 3, 4, 5, 6, 1, 0] rfl)
  exact lo_a _ 0 _ _ _ (Nat.lt_succ_self _) (Nat.zero_le _) hw (lv_sub hl [5, 6, 4, 3, 2, 1, 0] rfl)

set_option maxHeartbeats 4000000 in
set_option maxRecDepth 100000 in
theorem c_X11_tally (E : cE) (tt : Nat × Nat × Nat) {X : List Nat} (B : Nat → Nat) (F : tF) (G : tG) {P : tP} {nh : Nat → Nat} {nc no : Nat} {mt om : Nat → Nat} (hR : RC X P nh nc no mt om) {nn : Nat} (hNK : NK F nn) (ca w0 : Int32)  : CT E tt yX11_tally cX11_tally 3 (some .int) 2 0 0 [.ref (B (0)), .int (ca), .int (w0)] (wl E X B F G P) (fun r w => r = some (.int (sp_tally F nn ca w0)) ∧ w = (wl E X B F G P)) := by
  refine CT.mk (by decide +kernel) (Nat.le_of_ble_eq_true rfl) ?_
  intro l p e s m below meth c A ls C hr hlk hnm hw hl
  have hx := C.1
  have hb := C.2.1
  have hts := C.2.2.2.2
  have hown : s.vm.findClass RX11 = some m.cls := C.2.2.2.1
  have hl : lv_has ls 3 [(0, .ref (B (0))), (1, .int (ca)), (2, .int (w0))] := hl
  refine lv_iload_n hx hb dX11_tally_0 rfl (lv_at hl 1 rfl) ?_
  refine kS C hw (c_X11_isCause E tt _ (ca)) vy_X11_isCause ml_X11_334 rfl hl.1 (rest := []) rfl dX11_tally_1 (Nat.le_of_ble_eq_true rfl) ⟨by decide, by decide⟩ ⟨Nat.le_of_ble_eq_true rfl, Nat.le_of_ble_eq_true rfl⟩ (fun v_1 ws_1 H locs hp_1 hq_1 => ?_)
  clear hw
  rcases hp_1 with ⟨h_1, rfl, rfl⟩ | ⟨h_1, rfl, rfl⟩
  · have hw := hq_1
    refine W.eq (g2 := F0 m 4 ls [.int (1)]) rfl ?_
    refine lv_if_ne (tgt := 10) hx hb dX11_tally_4 (by decide) (fun _ => ?_) (fun h9 => False.elim (by revert h9; decide))
    refine lv_iload_n hx hb dX11_tally_10 rfl (lv_at hl 2 rfl) ?_
    refine lv_iconst (v := 0) hx hb dX11_tally_11 (by decide) ?_
    refine lv_iconst (v := 3) hx hb dX11_tally_12 (by decide) ?_
    refine kS C hw (c_X11_isWithin E tt _ (w0) (0) (3)) vy_X11_isWithin ml_X11_89 rfl hl.1 (rest := []) rfl dX11_tally_13 (Nat.le_of_ble_eq_true rfl) ⟨by decide, by decide⟩ ⟨Nat.le_of_ble_eq_true rfl, Nat.le_of_ble_eq_true rfl⟩ (fun v_13 ws_13 H locs hp_13 hq_13 => ?_)
    clear hw
    rcases hp_13 with ⟨h_13, rfl, rfl⟩ | ⟨h_13, rfl, rfl⟩
    · have hw := hq_13
      refine W.eq (g2 := F0 m 16 ls [.int (1)]) rfl ?_
      refine lv_if_eq (tgt := 31) hx hb dX11_tally_16 (by decide) (fun h9 => False.elim (by revert h9; decide)) (fun _ => ?_)
      obtain ⟨i0, hi0, rfl⟩ := n_of (n := 3) h_13.1 h_13.2 (by decide)
      have hz0 := i4_cl (i := i0) (by omega)
      refine lv_aload_n hx hb dX11_tally_19 rfl (lv_at hl 0 rfl) ?_
      refine g_r 6 (k2 := 76) C hw (hR.f rfl) rfl fl_X11_49 rfl (hR.p0 6 (by decide)) dX11_tally_20 ?_
      refine lv_iload_n hx hb dX11_tally_23 rfl (lv_at hl 1 rfl) ?_
      refine lv_iload_n hx hb dX11_tally_24 rfl (lv_at hl 2 rfl) ?_
      refine kV C hw (c_X5_share E tt B F G hR hNK (ca) (wh := i0) (by omega)) vy_X5_share ml_X11_337 (rcv hw (hR.f rfl) rfl (by decide) (q2 := (RX5, TX5, 3)) rfl) rfl hl.1 (rest := []) rfl dX11_tally_25 (Nat.le_of_ble_eq_true rfl) ⟨by decide, by decide⟩ ⟨Nat.le_of_ble_eq_true rfl, Nat.le_of_ble_eq_true rfl⟩ (fun v_25 ws_25 H locs hp_25 hq_25 => ?_)
      clear hw
      obtain ⟨rfl, rfl⟩ := hp_25
      have hw := hq_25
      refine W.eq (g2 := F0 m 28 ls [.int (nI (tlN F (ca) i0 nn))]) rfl ?_
      refine lv_goto (tgt := 33) hx hb dX11_tally_28 (by decide) ?_
      exact r_i C hr hlk hw ⟨(by simp [sp_tally, h_1, h_13, hz0]), rfl⟩ dX11_tally_33
    · have hw := hq_13
      refine W.eq (g2 := F0 m 16 ls [.int (0)]) rfl ?_
      refine lv_if_eq (tgt := 31) hx hb dX11_tally_16 (by decide) (fun _ => ?_) (fun h9 => False.elim (by revert h9; decide))
      refine lv_bipush (v := -3) hx hb dX11_tally_31 (by decide) ?_
      exact r_i C hr hlk hw ⟨(by simp [sp_tally, h_1, h_13]), rfl⟩ dX11_tally_33
  · have hw := hq_1
    refine W.eq (g2 := F0 m 4 ls [.int (0)]) rfl ?_
    refine lv_if_ne (tgt := 10) hx hb dX11_tally_4 (by decide) (fun h9 => False.elim (by revert h9; decide)) (fun _ => ?_)
    refine lv_bipush (v := -2) hx hb dX11_tally_7 (by decide) ?_
    exact r_i C hr hlk hw ⟨(by simp [sp_tally, h_1]), rfl⟩ dX11_tally_9

set_option maxHeartbeats 4000000 in
set_option maxRecDepth 100000 in
theorem c_X11_chance (E : cE) (tt : Nat × Nat × Nat) {X : List Nat} (B : Nat → Nat) (F : tF) (G : tG) {P : tP} {nh : Nat → Nat} {nc no : Nat} {mt om : Nat → Nat} (hR : RC X P nh nc no mt om) {nn : Nat} (hNK : NK F nn) (ca : Int32)  : CT E tt yX11_chance cX11_chance 2 (some .int) 3 0 0 [.ref (B (0)), .int (ca)] (wl E X B F G P) (fun r w => r = some (.int (sp_chanceC F nn ca)) ∧ w = (wl E X B F G P)) := by
  refine CT.mk (by decide +kernel) (Nat.le_of_ble_eq_true rfl) ?_
  intro l p e s m below meth c A ls C hr hlk hnm hw hl
  have hx := C.1
  have hb := C.2.1
  have hts := C.2.2.2.2
  have hown : s.vm.findClass RX11 = some m.cls := C.2.2.2.1
  have hl : lv_has ls 2 [(0, .ref (B (0))), (1, .int (ca))] := hl
  refine lv_iload_n hx hb dX11_chance_0 rfl (lv_at hl 1 rfl) ?_
  refine kS C hw (c_X11_isCause E tt _ (ca)) vy_X11_isCause ml_X11_334 rfl hl.1 (rest := []) rfl dX11_chance_1 (Nat.le_of_ble_eq_true rfl) ⟨by decide, by decide⟩ ⟨Nat.le_of_ble_eq_true rfl, Nat.le_of_ble_eq_true rfl⟩ (fun v_1 ws_1 H locs hp_1 hq_1 => ?_)
  clear hw
  rcases hp_1 with ⟨h_1, rfl, rfl⟩ | ⟨h_1, rfl, rfl⟩
  · have hw := hq_1
    refine W.eq (g2 := F0 m 4 ls [.int (1)]) rfl ?_
    refine lv_if_ne (tgt := 10) hx hb dX11_chance_4 (by decide) (fun _ => ?_) (fun h9 => False.elim (by revert h9; decide))
    refine lv_aload_n hx hb dX11_chance_10 rfl (lv_at hl 0 rfl) ?_
    refine g_r 6 (k2 := 76) C hw (hR.f rfl) rfl fl_X11_49 rfl (hR.p0 6 (by decide)) dX11_chance_11 ?_
    refine lv_iload_n hx hb dX11_chance_14 rfl (lv_at hl 1 rfl) ?_
    refine kV C hw (c_X5_isMoreThanChance E tt B F G hR hNK (ca)) vy_X5_isMoreThanChance ml_X11_357 (rcv hw (hR.f rfl) rfl (by decide) (q2 := (RX5, TX5, 3)) rfl) rfl hl.1 (rest := []) rfl dX11_chance_15 (Nat.le_of_ble_eq_true rfl) ⟨by decide, by decide⟩ ⟨Nat.le_of_ble_eq_true rfl, Nat.le_of_ble_eq_true rfl⟩ (fun v_15 ws_15 H locs hp_15 hq_15 => ?_)
    clear hw
    rcases hp_15 with ⟨h_15, rfl, rfl⟩ | ⟨h_15, rfl, rfl⟩
    · have hw := hq_15
      refine W.eq (g2 := F0 m 18 ls [.int (1)]) rfl ?_
      refine lv_if_eq (tgt := 25) hx hb dX11_chance_18 (by decide) (fun h9 => False.elim (by revert h9; decide)) (fun _ => ?_)
      refine lv_iconst (v := 1) hx hb dX11_chance_21 (by decide) ?_
      refine lv_goto (tgt := 26) hx hb dX11_chance_22 (by decide) ?_
      exact r_i C hr hlk hw ⟨(by simp [sp_chanceC, h_1, h_15]), rfl⟩ dX11_chance_26
    · have hw := hq_15
      refine W.eq (g2 := F0 m 18 ls [.int (0)]) rfl ?_
      refine lv_if_eq (tgt := 25) hx hb dX11_chance_18 (by decide) (fun _ => ?_) (fun h9 => False.elim (by revert h9; decide))
      refine lv_iconst (v := 0) hx hb dX11_chance_25 (by decide) ?_
      exact r_i C hr hlk hw ⟨(by simp [sp_chanceC, h_1, h_15]), rfl⟩ dX11_chance_26
  · have hw := hq_1
    refine W.eq (g2 := F0 m 4 ls [.int (0)]) rfl ?_
    refine lv_if_ne (tgt := 10) hx hb dX11_chance_4 (by decide) (fun h9 => False.elim (by revert h9; decide)) (fun _ => ?_)
    refine lv_bipush (v := -2) hx hb dX11_chance_7 (by decide) ?_
    exact r_i C hr hlk hw ⟨(by simp [sp_chanceC, h_1]), rfl⟩ dX11_chance_9

set_option maxHeartbeats 4000000 in
set_option maxRecDepth 100000 in
theorem c_X11_by (E : cE) (tt : Nat × Nat × Nat) {X : List Nat} (B : Nat → Nat) (F : tF) (G : tG) {P : tP} {nh : Nat → Nat} {nc no : Nat} {mt om : Nat → Nat} (hR : RC X P nh nc no mt om) {nn : Nat} (hNK : NK F nn) (ca pt : Int32)  : CT E tt yX11_by cX11_by 5 (some .int) 3 0 0 [.ref (B (0)), .int (ca), .int (pt)] (wl E X B F G P) (fun r w => r = some (.int (sp_byC F nn ca pt)) ∧ w = (wl E X B F G P)) := by
  refine CT.mk (by decide +kernel) (Nat.le_of_ble_eq_true rfl) ?_
  intro l p e s m below meth c A ls C hr hlk hnm hw hl
  have hx := C.1
  have hb := C.2.1
  have hts := C.2.2.2.2
  have hown : s.vm.findClass RX11 = some m.cls := C.2.2.2.1
  have hl : lv_has ls 5 [(0, .ref (B (0))), (1, .int (ca)), (2, .int (pt))] := hl
  refine lv_iload_n hx hb dX11_by_0 rfl (lv_at hl 1 rfl) ?_
  refine kS C hw (c_X11_isCause E tt _ (ca)) vy_X11_isCause ml_X11_334 rfl hl.1 (rest := []) rfl dX11_by_1 (Nat.le_of_ble_eq_true rfl) ⟨by decide, by decide⟩ ⟨Nat.le_of_ble_eq_true rfl, Nat.le_of_ble_eq_true rfl⟩ (fun v_1 ws_1 H locs hp_1 hq_1 => ?_)
  clear hw
  rcases hp_1 with ⟨h_1, rfl, rfl⟩ | ⟨h_1, rfl, rfl⟩
  · have hw := hq_1
    refine W.eq (g2 := F0 m 4 ls [.int (1)]) rfl ?_
    refine lv_if_eq (tgt := 16) hx hb dX11_by_4 (by decide) (fun h9 => False.elim (by revert h9; decide)) (fun _ => ?_)
    refine lv_iload_n hx hb dX11_by_7 rfl (lv_at hl 2 rfl) ?_
    refine lv_iconst (v := 0) hx hb dX11_by_8 (by decide) ?_
    refine lv_iconst (v := 1) hx hb dX11_by_9 (by decide) ?_
    refine kS C hw (c_X11_isWithin E tt _ (pt) (0) (1)) vy_X11_isWithin ml_X11_89 rfl hl.1 (rest := []) rfl dX11_by_10 (Nat.le_of_ble_eq_true rfl) ⟨by decide, by decide⟩ ⟨Nat.le_of_ble_eq_true rfl, Nat.le_of_ble_eq_true rfl⟩ (fun v_10 ws_10 H locs hp_10 hq_10 => ?_)
    clear hw
    rcases hp_10 with ⟨h_10, rfl, rfl⟩ | ⟨h_10, rfl, rfl⟩
    · have hw := hq_10
      refine W.eq (g2 := F0 m 13 ls [.int (1)]) rfl ?_
      refine lv_if_ne (tgt := 20) hx hb dX11_by_13 (by decide) (fun _ => ?_) (fun h9 => False.elim (by revert h9; decide))
      refine lv_aload_n hx hb dX11_by_20 rfl (lv_at hl 0 rfl) ?_
      refine g_r 6 (k2 := 76) C hw (hR.f rfl) rfl fl_X11_49 rfl (hR.p0 6 (by decide)) dX11_by_21 ?_
      refine lv_iload_n hx hb dX11_by_24 rfl (lv_at hl 1 rfl) ?_
      refine kV C hw (c_X5_below E tt B F G hR hNK (ca)) vy_X5_below ml_X11_341 (rcv hw (hR.f rfl) rfl (by decide) (q2 := (RX5, TX5, 3)) rfl) rfl hl.1 (rest := []) rfl dX11_by_25 (Nat.le_of_ble_eq_true rfl) ⟨by decide, by decide⟩ ⟨Nat.le_of_ble_eq_true rfl, Nat.le_of_ble_eq_true rfl⟩ (fun v_25 ws_25 H locs hp_25 hq_25 => ?_)
      clear hw
      obtain ⟨rfl, rfl⟩ := hp_25
      have hw := hq_25
      refine W.eq (g2 := F0 m 28 ls [.int (nI (w_below F nn (ca)))]) rfl ?_
      refine lv_istore_n (lv' := [(3, .int (nI (w_below F nn (ca)))), (0, .ref (B (0))), (1, .int (ca)), (2, .int (pt))]) hx hb dX11_by_28 rfl hl (by decide) rfl (fun ls hl => ?_)
      refine lv_iload_n hx hb dX11_by_29 rfl (lv_at hl 0 rfl) ?_
      refine lv_if_ne (tgt := 37) hx hb dX11_by_30 (by decide) (fun c_30 => ?_) (fun c_30 => ?_)
      · have hb0 : ¬ w_below F nn ca = 0 := fun h9 => c_30 (by rw [h9]; rfl)
        refine lv_aload_n hx hb dX11_by_37 rfl (lv_at hl 1 rfl) ?_
        refine g_r 6 (k2 := 76) C hw (hR.f rfl) rfl fl_X11_49 rfl (hR.p0 6 (by decide)) dX11_by_38 ?_
        refine lv_iload_n hx hb dX11_by_41 rfl (lv_at hl 2 rfl) ?_
        refine kV C hw (c_X5_above E tt B F G hR hNK (ca)) vy_X5_above ml_X11_344 (rcv hw (hR.f rfl) rfl (by decide) (q2 := (RX5, TX5, 3)) rfl) rfl hl.1 (rest := []) rfl dX11_by_42 (Nat.le_of_ble_eq_true rfl) ⟨by decide, by decide⟩ ⟨Nat.le_of_ble_eq_true rfl, Nat.le_of_ble_eq_true rfl⟩ (fun v_42 ws_42 H locs hp_42 hq_42 => ?_)
        clear hw
        obtain ⟨rfl, rfl⟩ := hp_42
        have hw := hq_42
        refine W.eq (g2 := F0 m 45 ls [.int (w_above F nn (ca))]) rfl ?_
        refine lv_istore (lv' := [(4, .int (w_above F nn (ca))), (3, .int (nI (w_below F nn (ca)))), (0, .ref (B (0))), (1, .int (ca)), (2, .int (pt))]) hx hb dX11_by_45 hl (by decide) rfl (fun ls hl => ?_)
        refine lv_iload_n hx hb dX11_by_47 rfl (lv_at hl 4 rfl) ?_
        refine lv_if_ne (tgt := 57) hx hb dX11_by_48 (by decide) (fun c_48 => ?_) (fun c_48 => ?_)
        · refine lv_iload_n hx hb dX11_by_57 rfl (lv_at hl 1 rfl) ?_
          refine lv_i2l hx hb dX11_by_58 rfl ?_
          refine lv_iload hx hb dX11_by_59 (lv_at hl 0 rfl) ?_
          refine va_mabs hx hb (C.2.2.1.trans hl.1.symm) hown (hts _ ml_X11_347) (hts _ mh_abs_s) (hts _ in_J9) (hts _ mh_abs_c) (Nat.le_of_ble_eq_true rfl) (Nat.le_of_ble_eq_true rfl) (Nat.le_of_ble_eq_true rfl) (Nat.le_of_ble_eq_true rfl) dX11_by_61 ?_
          refine tp_i (y := nI (w_abs F nn ca)) (abs_if (w_above_abs F nn ca) (w_abs_lt hNK.2.2.1 ca)) ?_
          refine lv_iload_n hx hb dX11_by_64 rfl (lv_at hl 1 rfl) ?_
          refine kS C hw (c_X11_commonDivisor E tt _ (x := w_abs F nn ca) (y := w_below F nn ca) (w_abs_lt hNK.2.2.1 ca) (w_below_lt hNK.2.2.1 ca)) vy_X11_commonDivisor ml_X11_350 rfl hl.1 (rest := [.long ((nI (w_below F nn (ca)) : Int32).toInt64)]) rfl dX11_by_65 (Nat.le_of_ble_eq_true rfl) ⟨by decide, by decide⟩ ⟨Nat.le_of_ble_eq_true rfl, Nat.le_of_ble_eq_true rfl⟩ (fun v_65 ws_65 H locs hp_65 hq_65 => ?_)
          clear hw
          obtain ⟨rfl, rfl⟩ := hp_65
          have hw := hq_65
          refine W.eq (g2 := F0 m 68 ls [.int (nI (w_g F nn ca)), .long ((nI (w_below F nn (ca)) : Int32).toInt64)]) rfl ?_
          refine lv_i2l hx hb dX11_by_68 rfl ?_
          refine kS C hw (c_X11_quotient E tt _ ((nI (w_below F nn (ca)) : Int32).toInt64) ((nI (w_g F nn ca) : Int32).toInt64)) vy_X11_quotient ml_X11_353 rfl hl.1 (rest := []) rfl dX11_by_69 (Nat.le_of_ble_eq_true rfl) ⟨by decide, by decide⟩ ⟨Nat.le_of_ble_eq_true rfl, Nat.le_of_ble_eq_true rfl⟩ (fun v_69 ws_69 H locs hp_69 hq_69 => ?_)
          clear hw
          obtain ⟨rfl, rfl⟩ := hp_69
          have hw := hq_69
          refine W.eq (g2 := F0 m 72 ls [.long (w_quo ((nI (w_below F nn (ca)) : Int32).toInt64) ((nI (w_g F nn ca) : Int32).toInt64))]) rfl ?_
          refine lv_l2i hx hb dX11_by_72 rfl ?_
          exact r_i C hr hlk hw ⟨(by simp [sp_byC, h_1, h_10, c_48, hb0]), rfl⟩ dX11_by_73
        · refine lv_iload hx hb dX11_by_51 (lv_at hl 0 rfl) ?_
          refine lv_i2l hx hb dX11_by_53 rfl ?_
          refine lv_goto (tgt := 59) hx hb dX11_by_54 (by decide) ?_
          refine lv_iload hx hb dX11_by_59 (lv_at hl 0 rfl) ?_
          refine va_mabs hx hb (C.2.2.1.trans hl.1.symm) hown (hts _ ml_X11_347) (hts _ mh_abs_s) (hts _ in_J9) (hts _ mh_abs_c) (Nat.le_of_ble_eq_true rfl) (Nat.le_of_ble_eq_true rfl) (Nat.le_of_ble_eq_true rfl) (Nat.le_of_ble_eq_true rfl) dX11_by_61 ?_
          refine tp_i (y := nI (w_abs F nn ca)) (abs_if (w_above_abs F nn ca) (w_abs_lt hNK.2.2.1 ca)) ?_
          refine lv_iload_n hx hb dX11_by_64 rfl (lv_at hl 1 rfl) ?_
          refine kS C hw (c_X11_commonDivisor E tt _ (x := w_abs F nn ca) (y := w_below F nn ca) (w_abs_lt hNK.2.2.1 ca) (w_below_lt hNK.2.2.1 ca)) vy_X11_commonDivisor ml_X11_350 rfl hl.1 (rest := [.long ((w_above F nn (ca) : Int32).toInt64)]) rfl dX11_by_65 (Nat.le_of_ble_eq_true rfl) ⟨by decide, by decide⟩ ⟨Nat.le_of_ble_eq_true rfl, Nat.le_of_ble_eq_true rfl⟩ (fun v_65 ws_65 H locs hp_65 hq_65 => ?_)
          clear hw
          obtain ⟨rfl, rfl⟩ := hp_65
          have hw := hq_65
          refine W.eq (g2 := F0 m 68 ls [.int (nI (w_g F nn ca)), .long ((w_above F nn (ca) : Int32).toInt64)]) rfl ?_
          refine lv_i2l hx hb dX11_by_68 rfl ?_
          refine kS C hw (c_X11_quotient E tt _ ((w_above F nn (ca) : Int32).toInt64) ((nI (w_g F nn ca) : Int32).toInt64)) vy_X11_quotient ml_X11_353 rfl hl.1 (rest := []) rfl dX11_by_69 (Nat.le_of_ble_eq_true rfl) ⟨by decide, by decide⟩ ⟨Nat.le_of_ble_eq_true rfl, Nat.le_of_ble_eq_true rfl⟩ (fun v_69 ws_69 H locs hp_69 hq_69 => ?_)
          clear hw
          obtain ⟨rfl, rfl⟩ := hp_69
          have hw := hq_69
          refine W.eq (g2 := F0 m 72 ls [.long (w_quo ((w_above F nn (ca) : Int32).toInt64) ((nI (w_g F nn ca) : Int32).toInt64))]) rfl ?_
          refine lv_l2i hx hb dX11_by_72 rfl ?_
          exact r_i C hr hlk hw ⟨(by simp [sp_byC, h_1, h_10, c_48, hb0]), rfl⟩ dX11_by_73
      · have hb0 : w_below F nn ca = 0 := (nI_eq (by have := w_below_lt hNK.2.2.1 (F := F) ca; omega) (by decide)).mp c_30
        refine lv_ldcw (v := -2147483648) hx hb hown (hts _ kc_X11_340) dX11_by_33 ?_
        exact r_i C hr hlk hw ⟨(by simp [sp_byC, h_1, h_10, hb0]), rfl⟩ dX11_by_36
    · have hw := hq_10
      refine W.eq (g2 := F0 m 13 ls [.int (0)]) rfl ?_
      refine lv_if_ne (tgt := 20) hx hb dX11_by_13 (by decide) (fun h9 => False.elim (by revert h9; decide)) (fun _ => ?_)
      refine lv_ldcw (v := -2147483648) hx hb hown (hts _ kc_X11_340) dX11_by_16 ?_
      exact r_i C hr hlk hw ⟨(by simp [sp_byC, h_1, h_10]), rfl⟩ dX11_by_19
  · have hw := hq_1
    refine W.eq (g2 := F0 m 4 ls [.int (0)]) rfl ?_
    refine lv_if_eq (tgt := 16) hx hb dX11_by_4 (by decide) (fun _ => ?_) (fun h9 => False.elim (by revert h9; decide))
    refine lv_ldcw (v := -2147483648) hx hb hown (hts _ kc_X11_340) dX11_by_16 ?_
    exact r_i C hr hlk hw ⟨(by simp [sp_byC, h_1]), rfl⟩ dX11_by_19

set_option maxHeartbeats 4000000 in
set_option maxRecDepth 100000 in
theorem c_X11_cause (E : cE) (tt : Nat × Nat × Nat) {X : List Nat} (B : Nat → Nat) (F : tF) (G : tG) {P : tP} {nh : Nat → Nat} {nc no : Nat} {mt om : Nat → Nat} (hR : RC X P nh nc no mt om) {nn : Nat} (hNK : NK F nn)  : CT E tt yX11_cause cX11_cause 3 (some .int) 3 0 0 [.ref (B (0))] (wl E X B F G P) (fun r w => r = some (.int (w_fndC F nn 3)) ∧ w = (wl E X B F G P)) := by
  refine CT.mk (by decide +kernel) (Nat.le_of_ble_eq_true rfl) ?_
  intro l p e s m below meth c A ls C hr hlk hnm hw hl
  have hx := C.1
  have hb := C.2.1
  have hts := C.2.2.2.2
  have hown : s.vm.findClass RX11 = some m.cls := C.2.2.2.1
  have hl : lv_has ls 3 [(0, .ref (B (0)))] := hl
  refine lv_iconst (v := -1) hx hb dX11_cause_0 (by decide) ?_
  refine lv_istore_n (lv' := [(1, .int (-1)), (0, .ref (B (0)))]) hx hb dX11_cause_1 rfl hl (by decide) rfl (fun ls hl => ?_)
  refine lv_iconst (v := 0) hx hb dX11_cause_2 (by decide) ?_
  refine lv_istore_n (lv' := [(2, .int (0)), (1, .int (-1)), (0, .ref (B (0)))]) hx hb dX11_cause_3 rfl hl (by decide) rfl (fun ls hl => ?_)
  have lo_a : ∀ (n k : Nat)  (H : Heap) (locs : List Loc) (ls : Array Slot), k ≤ 3 → 3 < k + n → Wd E tt A s (wl E X B F G P) H locs → lv_has ls 3 [(0, .ref (B (0))), (1, .int (w_fndC F nn k)), (2, .int (nI k))] → W p l e (rmO 3 0 0) s m ([.ref (B (0))] : List Value).toArray below meth c H locs 0 0 (MQ below (Fin0 E (fun r w => r = some (.int (w_fndC F nn 3)) ∧ w = (wl E X B F G P)) A) ([.ref (B (0))] : List Value).toArray s 0 0 A) (F0 m 4 ls []) := by
    intro n
    induction n with
    | zero =>
      intro k  H locs ls hi_1 hi_2
      exact absurd hi_2 (by omega)
    | succ n ih_a =>
      intro k  H locs ls hi_a hj_a  hw hl
      refine lv_iload_n hx hb dX11_cause_4 rfl (lv_at hl 2 rfl) ?_
      refine lv_iconst (v := 3) hx hb dX11_cause_5 (by decide) ?_
      refine lv_icmp_ge (tgt := 45) hx hb dX11_cause_6 (by decide) (fun c_6 => ?_) (fun c_6 => ?_)
      · have he : k = 3 := lp_eq (b := 3) (by decide) (by omega) c_6
        subst he
        refine lv_iload_n hx hb dX11_cause_45 rfl (lv_at hl 1 rfl) ?_
        exact r_i C hr hlk hw ⟨rfl, rfl⟩ dX11_cause_46
      · have hlt : k < 3 := lp_lt (b := 3) (by decide) (by omega) c_6
        refine lv_aload_n hx hb dX11_cause_9 rfl (lv_at hl 0 rfl) ?_
        refine g_r 6 (k2 := 76) C hw (hR.f rfl) rfl fl_X11_49 rfl (hR.p0 6 (by decide)) dX11_cause_10 ?_
        refine lv_iload_n hx hb dX11_cause_13 rfl (lv_at hl 2 rfl) ?_
        refine kV C hw (c_X5_isMoreThanChance E tt B F G hR hNK (nI k)) vy_X5_isMoreThanChance ml_X11_357 (rcv hw (hR.f rfl) rfl (by decide) (q2 := (RX5, TX5, 3)) rfl) rfl hl.1 (rest := []) rfl dX11_cause_14 (Nat.le_of_ble_eq_true rfl) ⟨by decide, by decide⟩ ⟨Nat.le_of_ble_eq_true rfl, Nat.le_of_ble_eq_true rfl⟩ (fun v_14 ws_14 H locs hp_14 hq_14 => ?_)
        clear hw
        rcases hp_14 with ⟨h_14, rfl, rfl⟩ | ⟨h_14, rfl, rfl⟩
        · have hw := hq_14
          refine W.eq (g2 := F0 m 17 ls [.int (1)]) rfl ?_
          refine lv_if_eq (tgt := 39) hx hb dX11_cause_17 (by decide) (fun h9 => False.elim (by revert h9; decide)) (fun _ => ?_)
          refine lv_iload_n hx hb dX11_cause_20 rfl (lv_at hl 1 rfl) ?_
          refine lv_iconst (v := -1) hx hb dX11_cause_21 (by decide) ?_
          refine lv_icmp_eq (tgt := 37) hx hb dX11_cause_22 (by decide) (fun c_22 => ?_) (fun c_22 => ?_)
          · refine lv_iload_n hx hb dX11_cause_37 rfl (lv_at hl 2 rfl) ?_
            refine lv_istore_n (lv' := [(1, .int (nI k)), (0, .ref (B (0))), (2, .int (nI k))]) hx hb dX11_cause_38 rfl hl (by decide) rfl (fun ls hl => ?_)
            have hfn : nI k = w_fndC F nn (k + 1) := by simp only [w_fndC]; simp [h_14, c_22]
            have hl : lv_has ls 3 [(1, .int (w_fndC F nn (k + 1))), (0, .ref (B (0))), (2, .int (nI k))] := by rw [← hfn]; exact hl
            refine lv_iinc (v := nI (k + 1)) (lv' := [(2, .int (nI (k + 1))), (1, .int (w_fndC F nn (k + 1))), (0, .ref (B (0)))]) hx hb dX11_cause_39 hl (k := 2) rfl (nI_1 _) (by decide) rfl (fun ls hl => ?_)
            refine lv_goto (tgt := 4) hx hb dX11_cause_42 (by decide) ?_
            exact ih_a (k + 1)  _ _ _ (by omega) (by omega)  hw (lv_sub hl [2, 1, 0] rfl)
          · refine lv_aload_n hx hb dX11_cause_25 rfl (lv_at hl 0 rfl) ?_
            refine g_r 6 (k2 := 76) C hw (hR.f rfl) rfl fl_X11_49 rfl (hR.p0 6 (by decide)) dX11_cause_26 ?_
            refine lv_iload_n hx hb dX11_cause_29 rfl (lv_at hl 2 rfl) ?_
            refine lv_iload_n hx hb dX11_cause_30 rfl (lv_at hl 1 rfl) ?_
            refine kV C hw (c_X5_isGreater E tt B F G hR hNK (nI k) (w_fndC F nn k)) vy_X5_isGreater ml_X11_360 (rcv hw (hR.f rfl) rfl (by decide) (q2 := (RX5, TX5, 3)) rfl) rfl hl.1 (rest := []) rfl dX11_cause_31 (Nat.le_of_ble_eq_true rfl) ⟨by decide, by decide⟩ ⟨Nat.le_of_ble_eq_true rfl, Nat.le_of_ble_eq_true rfl⟩ (fun v_31 ws_31 H locs hp_31 hq_31 => ?_)
            clear hw
            rcases hp_31 with ⟨h_31, rfl, rfl⟩ | ⟨h_31, rfl, rfl⟩
            · have hw := hq_31
              refine W.eq (g2 := F0 m 34 ls [.int (1)]) rfl ?_
              refine lv_if_eq (tgt := 39) hx hb dX11_cause_34 (by decide) (fun h9 => False.elim (by revert h9; decide)) (fun _ => ?_)
              refine lv_iload_n hx hb dX11_cause_37 rfl (lv_at hl 2 rfl) ?_
              refine lv_istore_n (lv' := [(1, .int (nI k)), (0, .ref (B (0))), (2, .int (nI k))]) hx hb dX11_cause_38 rfl hl (by decide) rfl (fun ls hl => ?_)
              have hfn : nI k = w_fndC F nn (k + 1) := by simp only [w_fndC]; simp [h_14, c_22, h_31]
              have hl : lv_has ls 3 [(1, .int (w_fndC F nn (k + 1))), (0, .ref (B (0))), (2, .int (nI k))] := by rw [← hfn]; exact hl
              refine lv_iinc (v := nI (k + 1)) (lv' := [(2, .int (nI (k + 1))), (1, .int (w_fndC F nn (k + 1))), (0, .ref (B (0)))]) hx hb dX11_cause_39 hl (k := 2) rfl (nI_1 _) (by decide) rfl (fun ls hl => ?_)
              refine lv_goto (tgt := 4) hx hb dX11_cause_42 (by decide) ?_
              exact ih_a (k + 1)  _ _ _ (by omega) (by omega)  hw (lv_sub hl [2, 1, 0] rfl)
            · have hw := hq_31
              refine W.eq (g2 := F0 m 34 ls [.int (0)]) rfl ?_
              refine lv_if_eq (tgt := 39) hx hb dX11_cause_34 (by decide) (fun _ => ?_) (fun h9 => False.elim (by revert h9; decide))
              have hfn : w_fndC F nn k = w_fndC F nn (k + 1) := by simp only [w_fndC]; simp [h_14, c_22, h_31]
              have hl : lv_has ls 3 [(0, .ref (B (0))), (1, .int (w_fndC F nn (k + 1))), (2, .int (nI k))] := by rw [← hfn]; exact hl
              refine lv_iinc (v := nI (k + 1)) (lv' := [(2, .int (nI (k + 1))), (0, .ref (B (0))), (1, .int (w_fndC F nn (k + 1)))]) hx hb dX11_cause_39 hl (k := 2) rfl (nI_1 _) (by decide) rfl (fun ls hl => ?_)
              refine lv_goto (tgt := 4) hx hb dX11_cause_42 (by decide) ?_
              exact ih_a (k + 1)  _ _ _ (by omega) (by omega)  hw (lv_sub hl [1, 2, 0] rfl)
        · have hw := hq_14
          refine W.eq (g2 := F0 m 17 ls [.int (0)]) rfl ?_
          refine lv_if_eq (tgt := 39) hx hb dX11_cause_17 (by decide) (fun _ => ?_) (fun h9 => False.elim (by revert h9; decide))
          have hfn : w_fndC F nn k = w_fndC F nn (k + 1) := by simp only [w_fndC]; simp [h_14]
          have hl : lv_has ls 3 [(0, .ref (B (0))), (1, .int (w_fndC F nn (k + 1))), (2, .int (nI k))] := by rw [← hfn]; exact hl
          refine lv_iinc (v := nI (k + 1)) (lv' := [(2, .int (nI (k + 1))), (0, .ref (B (0))), (1, .int (w_fndC F nn (k + 1)))]) hx hb dX11_cause_39 hl (k := 2) rfl (nI_1 _) (by decide) rfl (fun ls hl => ?_)
          refine lv_goto (tgt := 4) hx hb dX11_cause_42 (by decide) ?_
          exact ih_a (k + 1)  _ _ _ (by omega) (by omega)  hw (lv_sub hl [1, 2, 0] rfl)
  exact lo_a (3 + 1) 0  _ _ _ (by omega) (by omega)  hw (lv_sub hl [2, 1, 0] rfl)

set_option maxHeartbeats 4000000 in
set_option maxRecDepth 100000 in
theorem c_X5_add (E : cE) (tt : Nat × Nat × Nat) {X : List Nat} (B : Nat → Nat) (F : tF) (G : tG) {P : tP} {nh : Nat → Nat} {nc no : Nat} {mt om : Nat → Nat} (hR : RC X P nh nc no mt om) {nn : Nat} (hNK : NK F nn) {b : Nat} (hb8 : b < 8) (k0 : Int32)  : CT E tt yX5_add cX5_add 3 (some .int) 0 0 0 [.ref (B (76)), .int (nI b), .int (k0)] (wl E X B F G P) (fun r w => (nn = 60 ∧ r = some (.int (-8)) ∧ w = wl E X B F G P) ∨ (¬ nn = 60 ∧ r = some (.int (nI (nn + 1))) ∧ w = wl E X B (uF (if k0 = 0 then uF F 78 b (nI (cN F b true nn + 1)) else uF F 77 b (nI (cN F b false nn + 1))) 76 2 (nI (nn + 1))) G P)) := by
  refine CT.mk (by decide +kernel) (Nat.le_of_ble_eq_true rfl) ?_
  intro l p e s m below meth c A ls C hr hlk hnm hw hl
  have hx := C.1
  have hb := C.2.1
  have hts := C.2.2.2.2
  have hown : s.vm.findClass RX5 = some m.cls := C.2.2.2.1
  have hl : lv_has ls 3 [(0, .ref (B (76))), (1, .int (nI b)), (2, .int (k0))] := hl
  have hn60 := hNK.2.2.1
  refine lv_aload_n hx hb dX5_add_0 rfl (lv_at hl 0 rfl) ?_
  refine g_i 2 C hw (hR.f rfl) rfl fl_X5_18 rfl dX5_add_1 ?_
  refine tp_i (y := nI nn) (hNK.2.2.2) ?_
  refine lv_bipush (v := 60) hx hb dX5_add_4 (by decide) ?_
  refine lv_icmp_lt (tgt := 12) hx hb dX5_add_6 (by decide) (fun c_6 => ?_) (fun c_6 => ?_)
  · have hn3 : ¬ nn = 60 := fun h9 => by rw [h9] at c_6; exact absurd c_6 (by decide)
    refine lv_iload_n hx hb dX5_add_12 rfl (lv_at hl 1 rfl) ?_
    refine lv_if_lt (tgt := 22) hx hb dX5_add_13 (by decide) (fun c_13 => ?_) (fun c_13 => ?_)
    · exact absurd c_13 (nI_pos (by omega))
    · refine lv_iload_n hx hb dX5_add_16 rfl (lv_at hl 1 rfl) ?_
      refine lv_bipush (v := 8) hx hb dX5_add_17 (by decide) ?_
      refine lv_icmp_lt (tgt := 25) hx hb dX5_add_19 (by decide) (fun c_19 => ?_) (fun c_19 => ?_)
      · refine lv_iload_n hx hb dX5_add_25 rfl (lv_at hl 2 rfl) ?_
        refine lv_if_eq (tgt := 42) hx hb dX5_add_26 (by decide) (fun c_26 => ?_) (fun c_26 => ?_)
        · refine lv_aload_n hx hb dX5_add_42 rfl (lv_at hl 0 rfl) ?_
          refine g_r 1 (k2 := 78) C hw (hR.f rfl) rfl fl_X5_15 rfl hR.q76b dX5_add_43 ?_
          refine lv_iload_n hx hb dX5_add_46 rfl (lv_at hl 1 rfl) ?_
          refine lv_dup2_11 hx hb dX5_add_47 rfl rfl ?_
          refine n_i b C hw (hR.f rfl) rfl rfl (show _ < 8 by omega) dX5_add_48 ?_
          refine tp_i (y := nI (cN F b true nn)) ((hNK.1 b hb8).2) ?_
          refine lv_iconst (v := 1) hx hb dX5_add_49 (by decide) ?_
          refine lv_iadd hx hb dX5_add_50 ?_
          refine tp_i (y := nI (cN F b true nn + 1)) (nI_1 _) ?_
          refine t_i b C hw (hR.f rfl) rfl rfl (show _ < 8 by omega) dX5_add_51 (fun H locs hw => ?_)
          refine lv_aload_n hx hb dX5_add_52 rfl (lv_at hl 0 rfl) ?_
          refine lv_dup hx hb dX5_add_53 rfl ?_
          refine g_i 2 C hw (hR.f rfl) rfl fl_X5_18 rfl dX5_add_54 ?_
          refine tp_i (y := F 76 2) ((uF_n _ _ (Or.inl (by decide))).trans (rfl)) ?_
          refine tp_i (y := nI nn) (hNK.2.2.2) ?_
          refine lv_iconst (v := 1) hx hb dX5_add_57 (by decide) ?_
          refine lv_iadd hx hb dX5_add_58 ?_
          refine tp_i (y := nI (nn + 1)) (nI_1 _) ?_
          refine lv_dup_x1 hx hb dX5_add_59 rfl rfl ?_
          refine p_i 2 C hw (hR.f rfl) rfl fl_X5_18 fc_5 fn_5_2 (fun h9 => by cases h9) rfl rfl rfl dX5_add_60 (fun H locs hw => ?_)
          exact r_i C hr hlk hw (Or.inr ⟨hn3, rfl, by simp [c_26]⟩) dX5_add_63
        · refine lv_aload_n hx hb dX5_add_29 rfl (lv_at hl 0 rfl) ?_
          refine g_r 0 (k2 := 77) C hw (hR.f rfl) rfl fl_X5_11 rfl hR.q76 dX5_add_30 ?_
          refine lv_iload_n hx hb dX5_add_33 rfl (lv_at hl 1 rfl) ?_
          refine lv_dup2_11 hx hb dX5_add_34 rfl rfl ?_
          refine n_i b C hw (hR.f rfl) rfl rfl (show _ < 8 by omega) dX5_add_35 ?_
          refine tp_i (y := nI (cN F b false nn)) ((hNK.1 b hb8).1) ?_
          refine lv_iconst (v := 1) hx hb dX5_add_36 (by decide) ?_
          refine lv_iadd hx hb dX5_add_37 ?_
          refine tp_i (y := nI (cN F b false nn + 1)) (nI_1 _) ?_
          refine t_i b C hw (hR.f rfl) rfl rfl (show _ < 8 by omega) dX5_add_38 (fun H locs hw => ?_)
          refine lv_goto (tgt := 52) hx hb dX5_add_39 (by decide) ?_
          refine lv_aload_n hx hb dX5_add_52 rfl (lv_at hl 0 rfl) ?_
          refine lv_dup hx hb dX5_add_53 rfl ?_
          refine g_i 2 C hw (hR.f rfl) rfl fl_X5_18 rfl dX5_add_54 ?_
          refine tp_i (y := F 76 2) ((uF_n _ _ (Or.inl (by decide))).trans (rfl)) ?_
          refine tp_i (y := nI nn) (hNK.2.2.2) ?_
          refine lv_iconst (v := 1) hx hb dX5_add_57 (by decide) ?_
          refine lv_iadd hx hb dX5_add_58 ?_
          refine tp_i (y := nI (nn + 1)) (nI_1 _) ?_
          refine lv_dup_x1 hx hb dX5_add_59 rfl rfl ?_
          refine p_i 2 C hw (hR.f rfl) rfl fl_X5_18 fc_5 fn_5_2 (fun h9 => by cases h9) rfl rfl rfl dX5_add_60 (fun H locs hw => ?_)
          exact r_i C hr hlk hw (Or.inr ⟨hn3, rfl, by simp [c_26]⟩) dX5_add_63
      · exact absurd (nI_lt (b := 8) hb8 (by decide)) c_19
  · have hn3 : nn = 60 := by rcases Nat.lt_or_ge nn 60 with h9 | h9; exact absurd (nI_lt (b := 60) h9 (by decide)) c_6; omega
    refine lv_bipush (v := -8) hx hb dX5_add_9 (by decide) ?_
    exact r_i C hr hlk hw (Or.inl ⟨hn3, rfl, rfl⟩) dX5_add_11

set_option maxHeartbeats 4000000 in
set_option maxRecDepth 100000 in
theorem c_X11_note (E : cE) (tt : Nat × Nat × Nat) {X : List Nat} (B : Nat → Nat) (F : tF) (G : tG) {P : tP} {nh : Nat → Nat} {nc no : Nat} {mt om : Nat → Nat} (hR : RC X P nh nc no mt om) {nn : Nat} (hNK : NK F nn) (b0 k0 : Int32)  : CT E tt yX11_note cX11_note 3 (some .int) 1 0 0 [.ref (B (0)), .int (b0), .int (k0)] (wl E X B F G P) (fun r w => r = some (.int (sp_note nn b0)) ∧ ((ok_note nn b0 ∧ w = wl E X B (uF (if k0 = 0 then uF F 78 b0.toNatClampNeg (nI (cN F b0.toNatClampNeg true nn + 1)) else uF F 77 b0.toNatClampNeg (nI (cN F b0.toNatClampNeg false nn + 1))) 76 2 (nI (nn + 1))) G P) ∨ (¬ ok_note nn b0 ∧ w = wl E X B F G P))) := by
  refine CT.mk (by decide +kernel) (Nat.le_of_ble_eq_true rfl) ?_
  intro l p e s m below meth c A ls C hr hlk hnm hw hl
  have hx := C.1
  have hb := C.2.1
  have hts := C.2.2.2.2
  have hown : s.vm.findClass RX11 = some m.cls := C.2.2.2.1
  have hl : lv_has ls 3 [(0, .ref (B (0))), (1, .int (b0)), (2, .int (k0))] := hl
  refine lv_iload_n hx hb dX11_note_0 rfl (lv_at hl 1 rfl) ?_
  refine lv_iconst (v := 0) hx hb dX11_note_1 (by decide) ?_
  refine lv_bipush (v := 7) hx hb dX11_note_2 (by decide) ?_
  refine kS C hw (c_X11_isWithin E tt _ (b0) (0) (7)) vy_X11_isWithin ml_X11_89 rfl hl.1 (rest := []) rfl dX11_note_4 (Nat.le_of_ble_eq_true rfl) ⟨by decide, by decide⟩ ⟨Nat.le_of_ble_eq_true rfl, Nat.le_of_ble_eq_true rfl⟩ (fun v_4 ws_4 H locs hp_4 hq_4 => ?_)
  clear hw
  rcases hp_4 with ⟨h_4, rfl, rfl⟩ | ⟨h_4, rfl, rfl⟩
  · have hw := hq_4
    refine W.eq (g2 := F0 m 7 ls [.int (1)]) rfl ?_
    refine lv_if_ne (tgt := 13) hx hb dX11_note_7 (by decide) (fun _ => ?_) (fun h9 => False.elim (by revert h9; decide))
    obtain ⟨i0, hi0, rfl⟩ := n_of (n := 7) h_4.1 h_4.2 (by decide)
    have hz0 := i4_cl (i := i0) (by omega)
    refine lv_aload_n hx hb dX11_note_13 rfl (lv_at hl 0 rfl) ?_
    refine g_r 6 (k2 := 76) C hw (hR.f rfl) rfl fl_X11_49 rfl (hR.p0 6 (by decide)) dX11_note_14 ?_
    refine lv_iload_n hx hb dX11_note_17 rfl (lv_at hl 1 rfl) ?_
    refine lv_iload_n hx hb dX11_note_18 rfl (lv_at hl 2 rfl) ?_
    refine kV C hw (c_X5_add E tt B F G hR hNK (b := i0) (by omega) (k0)) vy_X5_add ml_X11_330 (rcv hw (hR.f rfl) rfl (by decide) (q2 := (RX5, TX5, 3)) rfl) rfl hl.1 (rest := []) rfl dX11_note_19 (Nat.le_of_ble_eq_true rfl) ⟨by decide, by decide⟩ ⟨Nat.le_of_ble_eq_true rfl, Nat.le_of_ble_eq_true rfl⟩ (fun v_19 ws_19 H locs hp_19 hq_19 => ?_)
    clear hw
    rcases hp_19 with ⟨h_19, rfl, rfl⟩ | ⟨h_19, rfl, rfl⟩
    · have hw := hq_19
      refine W.eq (g2 := F0 m 22 ls [.int (-8)]) rfl ?_
      exact r_i C hr hlk hw ⟨(by rw [sp_note, if_pos h_4, if_pos h_19]), Or.inr ⟨fun h9 => h9.2 h_19, rfl⟩⟩ dX11_note_22
    · have hw := hq_19
      refine W.eq (g2 := F0 m 22 ls [.int (nI (nn + 1))]) rfl ?_
      exact r_i C hr hlk hw ⟨(by rw [sp_note, if_pos h_4, if_neg h_19]), Or.inl ⟨⟨h_4, h_19⟩, by rw [hz0]⟩⟩ dX11_note_22
  · have hw := hq_4
    refine W.eq (g2 := F0 m 7 ls [.int (0)]) rfl ?_
    refine lv_if_ne (tgt := 13) hx hb dX11_note_7 (by decide) (fun h9 => False.elim (by revert h9; decide)) (fun _ => ?_)
    refine lv_bipush (v := -3) hx hb dX11_note_10 (by decide) ?_
    exact r_i C hr hlk hw ⟨(by simp [sp_note, h_4]), Or.inr ⟨fun h9 => h_4 h9.1, rfl⟩⟩ dX11_note_12
