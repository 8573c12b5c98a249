/-! cuttings of the class: coils of orders, sets measured -/
theorem pw_b (k : Nat) : 1 ≤ pw k ∧ pw k ≤ 24137569 := by
  unfold pw
  split <;> omega
theorem dig_all : ∀ j : Fin 6, digV j.val = nI (pw (j.val + 1)) := by decide
theorem dig_ok {j : Nat} (h : j < 6) : digV j = nI (pw (j + 1)) := dig_all ⟨j, h⟩
def cNr (r j : Nat) : Int32 := if r / pw (j + 1) % 17 = 16 then -1 else nI (r / pw (j + 1) % 17)
def cOf (r : Nat) (x : Int32) : Int32 := if 0 ≤ x ∧ x < 6 then cNr r x.toNatClampNeg else -1
theorem cOf_n {r j : Nat} (h : j < 6) : cOf r (nI j) = cNr r j := by
  rw [cOf, if_pos ⟨nI_pos' (by omega), nI_lt (b := 6) h (by decide)⟩, i4_cl (by omega)]
theorem quo_ok {r d : Nat} (hr : r < 2 ^ 31) (h0 : 1 ≤ d) (hd : d ≤ 24137569) : (w_quo (nI r).toInt64 (nI d).toInt64).toInt32 = nI (r / d) := by
  rw [nI_l hr, nI_l (by omega), w_quo, if_neg (by rw [show (0 : Int64) = lN 0 from rfl, pk_lEQ (by omega) (by decide)]; omega), pk_lDiv (by omega) (by omega) (by omega), lN_i]
/-- bits of small numbers -/
theorem bit_all : ∀ s : Fin 64, ∀ i : Fin 6, ((nI s.val >>> (nI i.val &&& 31)) &&& 1) = if s.val.testBit i.val = true then 1 else 0 := by decide +kernel
theorem bit_ok {s i : Nat} (hs : s < 64) (hi : i < 6) : ((nI s >>> (nI i &&& 31)) &&& 1) = if s.testBit i = true then 1 else 0 := bit_all ⟨s, hs⟩ ⟨i, hi⟩
theorem orb_all : ∀ i : Fin 6, ∀ s : Fin 64, s.val < 2 ^ i.val → (nI s.val ||| (1 <<< (nI i.val &&& 31))) = nI (s.val + 2 ^ i.val) := by decide +kernel
theorem enc_pre (f : Nat → Bool) : ∀ i, sumN (fun o => if f o = true then 2 ^ o else 0) i < 2 ^ i
  | 0 => by simp [sumN]
  | i + 1 => by
    have := enc_pre f i
    simp only [sumN, Nat.pow_succ]
    split <;> omega
theorem orb_ok {i s : Nat} (hi : i < 6) (h : s < 2 ^ i) : (nI s ||| (1 <<< (nI i &&& 31))) = nI (s + 2 ^ i) := by
  have h2 : 2 ^ i ≤ 2 ^ 5 := Nat.pow_le_pow_right (by decide) (by omega)
  exact orb_all ⟨i, hi⟩ ⟨s, by omega⟩ h
theorem and_all : ∀ s t : Fin 64, (nI s.val &&& nI t.val) = nI (s.val &&& t.val) ∧ (nI s.val ^^^ nI t.val) = nI (s.val ^^^ t.val) ∧ (s.val &&& t.val) < 64 ∧ (s.val ^^^ t.val) < 64 ∧ ((nI t.val &&& (nI s.val ^^^ -1)) = 0 ↔ (t.val &&& s.val) = t.val) := by decide +kernel
theorem and_sub {s t : Nat} (hs : s < 64) (ht : t < 64) : (s &&& t) = t ↔ ∀ o, o < 6 → t.testBit o = true → s.testBit o = true := by
  constructor
  · intro h o ho hb
    rw [← h, Nat.testBit_and] at hb
    simp only [Bool.and_eq_true] at hb
    exact hb.1
  · intro h
    refine set_eq (and_all ⟨s, hs⟩ ⟨t, ht⟩).2.2.1 ht (fun o ho => ?_)
    rw [Nat.testBit_and]
    by_cases hb : t.testBit o = true
    · rw [h o ho hb, hb]; rfl
    · simp only [Bool.not_eq_true] at hb
      rw [hb, Bool.and_false]
/-- which orders a coil is open to -/
def opC (F : tF) (G : tG) (mt om : Nat → Nat) (no c o : Nat) : Bool := decide (o < no ∧ F (70 + o) 4 = 0 ∧ (mt c = om o ∧ (F (70 + o) 1 ≤ F (53 + c) 1 ∧ F (53 + c) 1 ≤ F (70 + o) 2) ∧ F (70 + o) 3 ≤ w_ft (G (53 + c) 3) (F (53 + c) 1)))
def AGm (F F1 : tF) : Prop := ∀ k, k ≠ 84 → k ≠ 85 → F1 k = F k
theorem opS_0 {F : tF} {G : tG} {mt om : Nat → Nat} {no c i : Nat} (h : ¬ (i < no ∧ F (70 + i) 4 = 0 ∧ (mt c = om i ∧ (F (70 + i) 1 ≤ F (53 + c) 1 ∧ F (53 + c) 1 ≤ F (70 + i) 2) ∧ F (70 + i) 3 ≤ w_ft (G (53 + c) 3) (F (53 + c) 1)))) : sumN (fun o => if opC F G mt om no c o = true then 2 ^ o else 0) (i + 1) = sumN (fun o => if opC F G mt om no c o = true then 2 ^ o else 0) i := by
  simp only [sumN]
  rw [if_neg (show ¬ opC F G mt om no c i = true from fun h9 => h (of_decide_eq_true h9)), Nat.add_zero]
theorem opS_1 {F : tF} {G : tG} {mt om : Nat → Nat} {no c i : Nat} (hi : i < 6) (h : i < no ∧ F (70 + i) 4 = 0 ∧ (mt c = om i ∧ (F (70 + i) 1 ≤ F (53 + c) 1 ∧ F (53 + c) 1 ≤ F (70 + i) 2) ∧ F (70 + i) 3 ≤ w_ft (G (53 + c) 3) (F (53 + c) 1))) : (nI (sumN (fun o => if opC F G mt om no c o = true then 2 ^ o else 0) i) ||| (1 <<< (nI i &&& 31))) = nI (sumN (fun o => if opC F G mt om no c o = true then 2 ^ o else 0) (i + 1)) := by
  rw [orb_ok hi (enc_pre _ i)]
  simp only [sumN]
  rw [if_pos (show opC F G mt om no c i = true from decide_eq_true h)]
theorem bsum_0 {s i : Nat} {g : Nat → Nat} (h : ¬ s.testBit i = true) : sumN (fun o => if s.testBit o = true then g o else 0) (i + 1) = sumN (fun o => if s.testBit o = true then g o else 0) i := by
  simp only [sumN]
  rw [if_neg h, Nat.add_zero]
theorem bsum_1 {s i : Nat} {g : Nat → Nat} (h : s.testBit i = true) : sumN (fun o => if s.testBit o = true then g o else 0) (i + 1) = sumN (fun o => if s.testBit o = true then g o else 0) i + g i := by
  simp only [sumN]
  rw [if_pos h]
set_option maxHeartbeats 4000000 in
set_option maxRecDepth 100000 in
theorem c_X1_coilOf (E : cE) (tt : Nat × Nat × Nat) {X : List Nat} (B : Nat → Nat) (F : tF) (G : tG) {P : tP} {nh : Nat → Nat} {nc no : Nat} {mt om : Nat → Nat} (hR : RC X P nh nc no mt om) {rn : Nat} (hr5 : F 83 5 = nI rn) (hr31 : rn < 2 ^ 31) (x0 : Int32)  : CT E tt yX1_coilOf cX1_coilOf 3 (some .int) 1 0 0 [.ref (B (83)), .int (x0)] (wl E X B F G P) (fun r w => r = some (.int (cOf rn x0)) ∧ w = (wl E X B F G P)) := by
  refine CT.mk (by decide +kernel) (Nat.le_of_ble_eq_true rfl) ?_
  intro l p e s m below meth c A ls C hr hlk hnm hw hl
  have hx := C.1
  have hb := C.2.1
  have hts := C.2.2.2.2
  have hown : s.vm.findClass RX1 = some m.cls := C.2.2.2.1
  have hl : lv_has ls 3 [(0, .ref (B (83))), (1, .int (x0))] := hl
  refine lv_iload_n hx hb dX1_coilOf_0 rfl (lv_at hl 1 rfl) ?_
  refine lv_if_lt (tgt := 12) hx hb dX1_coilOf_1 (by decide) (fun c_1 => ?_) (fun c_1 => ?_)
  · refine lv_iconst (v := -1) hx hb dX1_coilOf_12 (by decide) ?_
    exact r_i C hr hlk hw ⟨(by rw [cOf, if_neg (fun h9 => absurd h9.1 (Int32.not_le.mpr c_1))]), rfl⟩ dX1_coilOf_13
  · refine lv_iload_n hx hb dX1_coilOf_4 rfl (lv_at hl 1 rfl) ?_
    refine va_gets hx hb hw.2.2.2.2.2.1.2.2.1 hw.2.2.2.1 hown (hts _ sl_X1_47) (fun _ h9 => h9) dX1_coilOf_5 ?_
    refine va_tlen hx hb hw.2.2.2.2.2.1.2.2.2.2.2 hw.2.2.2.1 (v := 6) rfl dX1_coilOf_8 ?_
    refine lv_icmp_lt (tgt := 14) hx hb dX1_coilOf_9 (by decide) (fun c_9 => ?_) (fun c_9 => ?_)
    · obtain ⟨j, hj, rfl⟩ := n_lt (n := 6) (Int32.not_lt.mp c_1) c_9 (by decide)
      have hpw := pw_b (j + 1)
      have hm17 := Nat.mod_lt (rn / pw (j + 1)) (show 0 < 17 by decide)
      have hdl := Nat.div_le_self rn (pw (j + 1))
      refine lv_aload_n hx hb dX1_coilOf_14 rfl (lv_at hl 0 rfl) ?_
      refine g_i 5 C hw (hR.f rfl) rfl fl_X1_25 rfl dX1_coilOf_15 ?_
      refine tp_i (y := nI rn) (hr5) ?_
      refine lv_i2l hx hb dX1_coilOf_18 rfl ?_
      refine va_gets hx hb hw.2.2.2.2.2.1.2.2.1 hw.2.2.2.1 hown (hts _ sl_X1_47) (fun _ h9 => h9) dX1_coilOf_19 ?_
      refine lv_iload_n hx hb dX1_coilOf_22 rfl (lv_at hl 1 rfl) ?_
      refine va_ti (t := tt.2.2) (N := 6) hx hb hw.2.2.2.2.2.1.2.2.2.2.2 hw.2.2.2.1 (pk_in j 6 (by omega) rfl) (v := .int (digV j)) (by rw [pk_cl j rfl]) dX1_coilOf_23 ?_
      refine tp_i (y := nI (pw (j + 1))) (dig_ok hj) ?_
      refine lv_i2l hx hb dX1_coilOf_24 rfl ?_
      refine kSN C hw (c_X11_quotient E tt _ ((nI rn : Int32).toInt64) ((nI (pw (j + 1)) : Int32).toInt64)) vy_X11_quotient ml_X1_50 rfl hl.1 (rest := []) rfl dX1_coilOf_25 (Nat.le_of_ble_eq_true rfl) ⟨by decide, by decide⟩ ⟨Nat.le_of_ble_eq_true rfl, Nat.le_of_ble_eq_true rfl⟩ (fun v_25 ws_25 H locs hp_25 hq_25 => ?_)
      clear hw
      obtain ⟨rfl, rfl⟩ := hp_25
      have hw := hq_25
      refine W.eq (g2 := F0 m 28 ls [.long (w_quo ((nI rn : Int32).toInt64) ((nI (pw (j + 1)) : Int32).toInt64))]) rfl ?_
      refine lv_l2i hx hb dX1_coilOf_28 rfl ?_
      refine tp_i (y := nI (rn / pw (j + 1))) (quo_ok hr31 hpw.1 hpw.2) ?_
      refine lv_bipush (v := 17) hx hb dX1_coilOf_29 (by decide) ?_
      refine lv_irem hx hb dX1_coilOf_31 (by decide) ?_
      refine tp_i (y := nI (rn / pw (j + 1) % 17)) (pk_rem (d := 17) (by omega) (by decide) (by decide)) ?_
      refine lv_istore_n (lv' := [(2, .int (nI (rn / pw (j + 1) % 17))), (0, .ref (B (83))), (1, .int (nI j))]) hx hb dX1_coilOf_32 rfl hl (by decide) rfl (fun ls hl => ?_)
      refine lv_iload_n hx hb dX1_coilOf_33 rfl (lv_at hl 0 rfl) ?_
      refine lv_bipush (v := 16) hx hb dX1_coilOf_34 (by decide) ?_
      refine lv_icmp_ne (tgt := 43) hx hb dX1_coilOf_36 (by decide) (fun c_36 => ?_) (fun c_36 => ?_)
      · have h16 : ¬ rn / pw (j + 1) % 17 = 16 := fun h9 => c_36 (by rw [h9]; rfl)
        refine lv_iload_n hx hb dX1_coilOf_43 rfl (lv_at hl 0 rfl) ?_
        exact r_i C hr hlk hw ⟨(by rw [cOf_n hj, cNr, if_neg h16]), rfl⟩ dX1_coilOf_44
      · have h16 : rn / pw (j + 1) % 17 = 16 := (nI_eq (b := 16) (by omega) (by decide)).mp c_36
        refine lv_iconst (v := -1) hx hb dX1_coilOf_39 (by decide) ?_
        refine lv_goto (tgt := 44) hx hb dX1_coilOf_40 (by decide) ?_
        exact r_i C hr hlk hw ⟨(by rw [cOf_n hj, cNr, if_pos h16]), rfl⟩ dX1_coilOf_44
    · refine lv_iconst (v := -1) hx hb dX1_coilOf_12 (by decide) ?_
      exact r_i C hr hlk hw ⟨(by rw [cOf, if_neg (fun h9 => c_9 h9.2)]), rfl⟩ dX1_coilOf_13

set_option maxHeartbeats 4000000 in
set_option maxRecDepth 100000 in
theorem c_X1_uses (E : cE) (tt : Nat × Nat × Nat) {X : List Nat} (B : Nat → Nat) (F : tF) (G : tG) {P : tP} {nh : Nat → Nat} {nc no : Nat} {mt om : Nat → Nat} (hR : RC X P nh nc no mt om) {rn : Nat} (hr5 : F 83 5 = nI rn) (hr31 : rn < 2 ^ 31) (x0 : Int32)  : CT E tt yX1_uses cX1_uses 3 (some .boolean) 2 0 0 [.ref (B (83)), .int (x0)] (wl E X B F G P) (fun r w => ((∃ j, j < 6 ∧ cOf rn (nI j) = x0) ∧ r = some (.int 1) ∧ w = (wl E X B F G P)) ∨ (¬ (∃ j, j < 6 ∧ cOf rn (nI j) = x0) ∧ r = some (.int 0) ∧ w = (wl E X B F G P))) := by
  refine CT.mk (by decide +kernel) (Nat.le_of_ble_eq_true rfl) ?_
  intro l p e s m below meth c A ls C hr hlk hnm hw hl
  have hx := C.1
  have hb := C.2.1
  have hts := C.2.2.2.2
  have hown : s.vm.findClass RX1 = some m.cls := C.2.2.2.1
  have hl : lv_has ls 3 [(0, .ref (B (83))), (1, .int (x0))] := hl
  refine lv_iconst (v := 0) hx hb dX1_uses_0 (by decide) ?_
  refine lv_istore_n (lv' := [(2, .int (0)), (0, .ref (B (83))), (1, .int (x0))]) hx hb dX1_uses_1 rfl hl (by decide) rfl (fun ls hl => ?_)
  have lo_a : ∀ (n : Nat) (i : Nat) (H : Heap) (locs : List Loc) (ls : Array Slot), 6 - i < n → (i ≤ 6) → (∀ j, j < i → ¬ cOf rn (nI j) = x0) → Wd E tt A s (wl E X B F G P) H locs → lv_has ls 3 [(0, .ref (B (83))), (1, .int (x0)), (2, .int (nI i))] → W p l e (rmO 2 0 0) s m ([.ref (B (83)), .int (x0)] : List Value).toArray below meth c H locs 0 0 (MQ below (Fin0 E (fun r w => ((∃ j, j < 6 ∧ cOf rn (nI j) = x0) ∧ r = some (.int 1) ∧ w = (wl E X B F G P)) ∨ (¬ (∃ j, j < 6 ∧ cOf rn (nI j) = x0) ∧ r = some (.int 0) ∧ w = (wl E X B F G P))) A) ([.ref (B (83)), .int (x0)] : List Value).toArray s 0 0 A) (F0 m 2 ls []) := by
    intro n
    induction n with
    | zero =>
      intro i H locs ls hi_2
      exact absurd hi_2 (Nat.not_lt_zero _)
    | succ n ih_a =>
      intro i H locs ls hj_a hi hn hw hl
      refine lv_iload_n hx hb dX1_uses_2 rfl (lv_at hl 2 rfl) ?_
      refine va_gets hx hb hw.2.2.2.2.2.1.2.2.1 hw.2.2.2.1 hown (hts _ sl_X1_47) (fun _ h9 => h9) dX1_uses_3 ?_
      refine va_tlen hx hb hw.2.2.2.2.2.1.2.2.2.2.2 hw.2.2.2.1 (v := 6) rfl dX1_uses_6 ?_
      refine lv_icmp_ge (tgt := 27) hx hb dX1_uses_7 (by decide) (fun c_7 => ?_) (fun c_7 => ?_)
      · have hi6 : i = 6 := by have := (nI_leI (a := 6) (by decide) (by omega)).mp c_7; omega
        refine lv_iconst (v := 0) hx hb dX1_uses_27 (by decide) ?_
        exact r_z C hr hlk hw rfl (Or.inr ⟨fun ⟨j, hj, e⟩ => hn j (by omega) e, rfl, rfl⟩) dX1_uses_28
      · have hi6 : i < 6 := by rcases Nat.lt_or_ge i 6 with h9 | h9; exact h9; exact absurd ((nI_leI (a := 6) (by decide) (by omega)).mpr h9) c_7
        refine lv_aload_n hx hb dX1_uses_10 rfl (lv_at hl 0 rfl) ?_
        refine lv_iload_n hx hb dX1_uses_11 rfl (lv_at hl 2 rfl) ?_
        refine kV C hw (c_X1_coilOf E tt B F G hR (rn := rn) hr5 hr31 (nI i)) vy_X1_coilOf ml_X1_54 (rcv hw (hR.f rfl) rfl (by decide) (q2 := (RX1, TX1, 6)) rfl) rfl hl.1 (rest := []) rfl dX1_uses_12 (Nat.le_of_ble_eq_true rfl) ⟨by decide, by decide⟩ ⟨Nat.le_of_ble_eq_true rfl, Nat.le_of_ble_eq_true rfl⟩ (fun v_12 ws_12 H locs hp_12 hq_12 => ?_)
        clear hw
        obtain ⟨rfl, rfl⟩ := hp_12
        have hw := hq_12
        refine W.eq (g2 := F0 m 15 ls [.int (cOf (rn) (nI i))]) rfl ?_
        refine lv_iload_n hx hb dX1_uses_15 rfl (lv_at hl 1 rfl) ?_
        refine lv_icmp_ne (tgt := 21) hx hb dX1_uses_16 (by decide) (fun c_16 => ?_) (fun c_16 => ?_)
        · refine lv_iinc (v := nI (i + 1)) (lv' := [(2, .int (nI (i + 1))), (0, .ref (B (83))), (1, .int (x0))]) hx hb dX1_uses_21 hl (k := 2) rfl (nI_1 _) (by decide) rfl (fun ls hl => ?_)
          refine lv_goto (tgt := 2) hx hb dX1_uses_24 (by decide) ?_
          exact ih_a (i + 1) _ _ _ (by omega) (by omega) (fun j hj => by by_cases e : j = i; rw [e]; exact c_16; exact hn j (by omega)) hw (lv_sub hl [1, 2, 0] rfl)
        · refine lv_iconst (v := 1) hx hb dX1_uses_19 (by decide) ?_
          exact r_z C hr hlk hw rfl (Or.inl ⟨⟨i, hi6, c_16⟩, rfl, rfl⟩) dX1_uses_20
  exact lo_a _ 0 _ _ _ (Nat.lt_succ_self _) (by omega) (fun j hj => absurd hj (Nat.not_lt_zero j)) hw (lv_sub hl [1, 2, 0] rfl)

set_option maxHeartbeats 4000000 in
set_option maxRecDepth 100000 in
theorem c_X6_canBeCutFrom (E : cE) (tt : Nat × Nat × Nat) {X : List Nat} (B : Nat → Nat) (F : tF) (G : tG) {P : tP} {nh : Nat → Nat} {nc no : Nat} {mt om : Nat → Nat} (hR : RC X P nh nc no mt om) {c1 o1 : Nat} (hl_c1 : c1 < nc) (hl_o1 : o1 < no) (hd : ¬ (F (53 + c1) 1).toInt64 * (F (53 + c1) 1).toInt64 = 0)  : CT E tt yX6_canBeCutFrom cX6_canBeCutFrom 2 (some .boolean) 2 0 0 [.ref (B (70 + o1)), .ref (B (53 + c1))] (wl E X B F G P) (fun r w => ((mt c1 = om o1 ∧ (F (70 + o1) 1 ≤ F (53 + c1) 1 ∧ F (53 + c1) 1 ≤ F (70 + o1) 2) ∧ F (70 + o1) 3 ≤ w_ft (G (53 + c1) 3) (F (53 + c1) 1)) ∧ r = some (.int 1) ∧ w = (wl E X B F G P)) ∨ (¬ (mt c1 = om o1 ∧ (F (70 + o1) 1 ≤ F (53 + c1) 1 ∧ F (53 + c1) 1 ≤ F (70 + o1) 2) ∧ F (70 + o1) 3 ≤ w_ft (G (53 + c1) 3) (F (53 + c1) 1)) ∧ r = some (.int 0) ∧ w = (wl E X B F G P))) := by
  refine CT.mk (by decide +kernel) (Nat.le_of_ble_eq_true rfl) ?_
  intro l p e s m below meth c A ls C hr hlk hnm hw hl
  have hx := C.1
  have hb := C.2.1
  have hts := C.2.2.2.2
  have hown : s.vm.findClass RX6 = some m.cls := C.2.2.2.1
  have hl : lv_has ls 2 [(0, .ref (B (70 + o1))), (1, .ref (B (53 + c1)))] := hl
  have hn16 := hR.nc16
  have ho6 := hR.no6
  have hm4 := hR.mt4 hl_c1
  have hom4 := hR.om4 hl_o1
  refine lv_aload_n hx hb dX6_canBeCutFrom_0 rfl (lv_at hl 1 rfl) ?_
  refine g_r 0 (k2 := 3 + mt c1) C hw (hR.xc (by omega)) (kd_coil (by omega)) fl_X6_23 rfl (hR.cm (by omega)) dX6_canBeCutFrom_1 ?_
  refine lv_aload_n hx hb dX6_canBeCutFrom_4 rfl (lv_at hl 0 rfl) ?_
  refine g_r 0 (k2 := 3 + om o1) C hw (hR.xo (by omega)) (kd_order (by omega)) fl_X6_7 rfl (hR.om_ (by omega)) dX6_canBeCutFrom_5 ?_
  refine lv_acmp_ne (rx := some (B (3 + mt c1))) (ry := some (B (3 + om o1))) (tgt := 44) hx hb dX6_canBeCutFrom_8 (by decide) (fun c_8 => ?_) (fun c_8 => ?_)
  · have hme : ¬ mt c1 = om o1 := fun h9 => c_8 (by rw [h9])
    refine lv_iconst (v := 0) hx hb dX6_canBeCutFrom_44 (by decide) ?_
    exact r_z C hr hlk hw rfl (Or.inr ⟨fun h9 => hme h9.1, rfl, rfl⟩) dX6_canBeCutFrom_45
  · have hme : mt c1 = om o1 := by have := hw.inj (hR.xm hm4) (hR.xm hom4) (Option.some.inj c_8); omega
    refine lv_aload_n hx hb dX6_canBeCutFrom_11 rfl (lv_at hl 1 rfl) ?_
    refine g_i 1 C hw (hR.xc (by omega)) (kd_coil (by omega)) fl_X6_26 rfl dX6_canBeCutFrom_12 ?_
    refine lv_aload_n hx hb dX6_canBeCutFrom_15 rfl (lv_at hl 0 rfl) ?_
    refine g_i 1 C hw (hR.xo (by omega)) (kd_order (by omega)) fl_X6_13 rfl dX6_canBeCutFrom_16 ?_
    refine lv_aload_n hx hb dX6_canBeCutFrom_19 rfl (lv_at hl 0 rfl) ?_
    refine g_i 2 C hw (hR.xo (by omega)) (kd_order (by omega)) fl_X6_17 rfl dX6_canBeCutFrom_20 ?_
    refine kSN C hw (c_X11_isWithin E tt _ (F (53 + c1) 1) (F (70 + o1) 1) (F (70 + o1) 2)) vy_X11_isWithin ml_X6_29 rfl hl.1 (rest := []) rfl dX6_canBeCutFrom_23 (Nat.le_of_ble_eq_true rfl) ⟨by decide, by decide⟩ ⟨Nat.le_of_ble_eq_true rfl, Nat.le_of_ble_eq_true rfl⟩ (fun v_23 ws_23 H locs hp_23 hq_23 => ?_)
    clear hw
    rcases hp_23 with ⟨h_23, rfl, rfl⟩ | ⟨h_23, rfl, rfl⟩
    · have hw := hq_23
      refine W.eq (g2 := F0 m 26 ls [.int (1)]) rfl ?_
      refine lv_if_eq (tgt := 44) hx hb dX6_canBeCutFrom_26 (by decide) (fun h9 => False.elim (by revert h9; decide)) (fun _ => ?_)
      refine lv_aload_n hx hb dX6_canBeCutFrom_29 rfl (lv_at hl 1 rfl) ?_
      refine kV C hw (c_X0_feet E tt B F G P (hR.xc (by omega)) (kd_coil (by omega))  (hd)) vy_X0_feet ml_X6_35 (rcv hw (hR.xc (by omega)) (kd_coil (by omega)) (by decide) (q2 := (RX0, TX0, 7)) rfl) rfl hl.1 (rest := []) rfl dX6_canBeCutFrom_30 (Nat.le_of_ble_eq_true rfl) ⟨by decide, by decide⟩ ⟨Nat.le_of_ble_eq_true rfl, Nat.le_of_ble_eq_true rfl⟩ (fun v_30 ws_30 H locs hp_30 hq_30 => ?_)
      clear hw
      obtain ⟨rfl, rfl⟩ := hp_30
      have hw := hq_30
      refine W.eq (g2 := F0 m 33 ls [.int (w_ft (G (53 + c1) 3) (F (53 + c1) 1))]) rfl ?_
      refine lv_aload_n hx hb dX6_canBeCutFrom_33 rfl (lv_at hl 0 rfl) ?_
      refine g_i 3 C hw (hR.xo (by omega)) (kd_order (by omega)) fl_X6_20 rfl dX6_canBeCutFrom_34 ?_
      refine lv_icmp_lt (tgt := 44) hx hb dX6_canBeCutFrom_37 (by decide) (fun c_37 => ?_) (fun c_37 => ?_)
      · have c_37 := Int32.not_le.mpr c_37
        refine lv_iconst (v := 0) hx hb dX6_canBeCutFrom_44 (by decide) ?_
        exact r_z C hr hlk hw rfl (Or.inr ⟨fun h9 => c_37 h9.2.2, rfl, rfl⟩) dX6_canBeCutFrom_45
      · have c_37 := Int32.not_lt.mp c_37
        refine lv_iconst (v := 1) hx hb dX6_canBeCutFrom_40 (by decide) ?_
        refine lv_goto (tgt := 45) hx hb dX6_canBeCutFrom_41 (by decide) ?_
        exact r_z C hr hlk hw rfl (Or.inl ⟨⟨hme, h_23, c_37⟩, rfl, rfl⟩) dX6_canBeCutFrom_45
    · have hw := hq_23
      refine W.eq (g2 := F0 m 26 ls [.int (0)]) rfl ?_
      refine lv_if_eq (tgt := 44) hx hb dX6_canBeCutFrom_26 (by decide) (fun _ => ?_) (fun h9 => False.elim (by revert h9; decide))
      refine lv_iconst (v := 0) hx hb dX6_canBeCutFrom_44 (by decide) ?_
      exact r_z C hr hlk hw rfl (Or.inr ⟨fun h9 => h_23 h9.2.1, rfl, rfl⟩) dX6_canBeCutFrom_45

set_option maxHeartbeats 4000000 in
set_option maxRecDepth 100000 in
theorem c_X1_openTo (E : cE) (tt : Nat × Nat × Nat) {X : List Nat} (B : Nat → Nat) (F : tF) (G : tG) {P : tP} {nh : Nat → Nat} {nc no : Nat} {mt om : Nat → Nat} (hR : RC X P nh nc no mt om) {c1 : Nat} (hl_c1 : c1 < nc) (hd : ¬ (F (53 + c1) 1).toInt64 * (F (53 + c1) 1).toInt64 = 0)  : CT E tt yX1_openTo cX1_openTo 5 (some .int) 3 0 0 [.ref (B (53 + c1)), .ref (B (69))] (wl E X B F G P) (fun r w => r = some (.int (nI (enc (opC F G mt om no c1)))) ∧ w = (wl E X B F G P)) := by
  refine CT.mk (by decide +kernel) (Nat.le_of_ble_eq_true rfl) ?_
  intro l p e s m below meth c A ls C hr hlk hnm hw hl
  have hx := C.1
  have hb := C.2.1
  have hts := C.2.2.2.2
  have hown : s.vm.findClass RX1 = some m.cls := C.2.2.2.1
  have hl : lv_has ls 5 [(0, .ref (B (53 + c1))), (1, .ref (B (69)))] := hl
  have hn16 := hR.nc16
  have ho6 := hR.no6
  refine lv_iconst (v := 0) hx hb dX1_openTo_0 (by decide) ?_
  refine lv_istore_n (lv' := [(2, .int (0)), (0, .ref (B (53 + c1))), (1, .ref (B (69)))]) hx hb dX1_openTo_1 rfl hl (by decide) rfl (fun ls hl => ?_)
  refine lv_iconst (v := 0) hx hb dX1_openTo_2 (by decide) ?_
  refine lv_istore_n (lv' := [(3, .int (0)), (2, .int (0)), (0, .ref (B (53 + c1))), (1, .ref (B (69)))]) hx hb dX1_openTo_3 rfl hl (by decide) rfl (fun ls hl => ?_)
  have lo_a : ∀ (n : Nat) (i : Nat) (H : Heap) (locs : List Loc) (ls : Array Slot), 6 - i < n → (i ≤ 6) → Wd E tt A s (wl E X B F G P) H locs → lv_has ls 5 [(0, .ref (B (53 + c1))), (1, .ref (B (69))), (2, .int (nI (sumN (fun o => if opC F G mt om no c1 o = true then 2 ^ o else 0) i))), (3, .int (nI i))] → W p l e (rmO 3 0 0) s m ([.ref (B (53 + c1)), .ref (B (69))] : List Value).toArray below meth c H locs 0 0 (MQ below (Fin0 E (fun r w => r = some (.int (nI (enc (opC F G mt om no c1)))) ∧ w = (wl E X B F G P)) A) ([.ref (B (53 + c1)), .ref (B (69))] : List Value).toArray s 0 0 A) (F0 m 4 ls []) := by
    intro n
    induction n with
    | zero =>
      intro i H locs ls hi_2
      exact absurd hi_2 (Nat.not_lt_zero _)
    | succ n ih_a =>
      intro i H locs ls hj_a hi hw hl
      refine lv_iload_n hx hb dX1_openTo_4 rfl (lv_at hl 3 rfl) ?_
      refine lv_aload_n hx hb dX1_openTo_5 rfl (lv_at hl 1 rfl) ?_
      refine a_n (v := 6) C hw (hR.f rfl) (by decide) (by decide) rfl dX1_openTo_6 ?_
      refine lv_icmp_ge (tgt := 49) hx hb dX1_openTo_7 (by decide) (fun c_7 => ?_) (fun c_7 => ?_)
      · have hi6 : i = 6 := lp_eq (b := 6) (by decide) (by omega) c_7
        refine lv_iload_n hx hb dX1_openTo_49 rfl (lv_at hl 2 rfl) ?_
        exact r_i C hr hlk hw ⟨(by rw [hi6]; rfl), rfl⟩ dX1_openTo_50
      · have hlt : i < 6 := lp_lt (b := 6) (by decide) (by omega) c_7
        by_cases hin : i < no
        · refine lv_aload_n hx hb dX1_openTo_10 rfl (lv_at hl 1 rfl) ?_
          refine lv_iload_n hx hb dX1_openTo_11 rfl (lv_at hl 3 rfl) ?_
          refine n_r i (k2 := 70 + i) (r := 19) C hw (hR.f rfl) rfl (by decide) rfl rfl (show _ < 6 by omega) ((hR.po hlt).trans (if_pos hin)) dX1_openTo_12 ?_
          refine lv_astore (lv' := [(4, .ref (B (70 + i))), (0, .ref (B (53 + c1))), (1, .ref (B (69))), (2, .int (nI (sumN (fun o => if opC F G mt om no c1 o = true then 2 ^ o else 0) i))), (3, .int (nI i))]) hx hb dX1_openTo_13 hl (by decide) rfl (fun ls hl => ?_)
          refine lv_aload hx hb dX1_openTo_15 (lv_at hl 0 rfl) ?_
          refine lv_ifnull hx hb dX1_openTo_17 ?_
          refine lv_aload hx hb dX1_openTo_20 (lv_at hl 0 rfl) ?_
          refine g_i 4 C hw (hR.xo (by omega)) (kd_order (by omega)) fl_X1_79 rfl dX1_openTo_22 ?_
          refine lv_if_ne (tgt := 43) hx hb dX1_openTo_25 (by decide) (fun c_25 => ?_) (fun c_25 => ?_)
          · have hl : lv_has ls 5 [(4, .ref (B (70 + i))), (0, .ref (B (53 + c1))), (1, .ref (B (69))), (2, .int (nI (sumN (fun o => if opC F G mt om no c1 o = true then 2 ^ o else 0) (i + 1)))), (3, .int (nI i))] := by rw [opS_0 (F := F) (G := G) (mt := mt) (om := om) (no := no) (c := c1) (fun h9 => c_25 h9.2.1)]; exact hl
            refine lv_iinc (v := nI (i + 1)) (lv' := [(3, .int (nI (i + 1))), (4, .ref (B (70 + i))), (0, .ref (B (53 + c1))), (1, .ref (B (69))), (2, .int (nI (sumN (fun o => if opC F G mt om no c1 o = true then 2 ^ o else 0) (i + 1))))]) hx hb dX1_openTo_43 hl (k := 4) rfl (nI_1 _) (by decide) rfl (fun ls hl => ?_)
            refine lv_goto (tgt := 4) hx hb dX1_openTo_46 (by decide) ?_
            exact ih_a (i + 1) _ _ _ (by omega) (by omega) hw (lv_sub hl [2, 3, 4, 0] rfl)
          · refine lv_aload hx hb dX1_openTo_28 (lv_at hl 0 rfl) ?_
            refine lv_aload_n hx hb dX1_openTo_30 rfl (lv_at hl 1 rfl) ?_
            refine kV C hw (c_X6_canBeCutFrom E tt B F G hR (c1 := c1) (o1 := i) hl_c1 hin hd) vy_X6_canBeCutFrom ml_X1_83 (rcv hw (hR.xo (by omega)) (kd_order (by omega)) (by decide) (q2 := (RX6, TX6, 5)) rfl) rfl hl.1 (rest := []) rfl dX1_openTo_31 (Nat.le_of_ble_eq_true rfl) ⟨by decide, by decide⟩ ⟨Nat.le_of_ble_eq_true rfl, Nat.le_of_ble_eq_true rfl⟩ (fun v_31 ws_31 H locs hp_31 hq_31 => ?_)
            clear hw
            rcases hp_31 with ⟨h_31, rfl, rfl⟩ | ⟨h_31, rfl, rfl⟩
            · have hw := hq_31
              refine W.eq (g2 := F0 m 34 ls [.int (1)]) rfl ?_
              refine lv_if_eq (tgt := 43) hx hb dX1_openTo_34 (by decide) (fun h9 => False.elim (by revert h9; decide)) (fun _ => ?_)
              refine lv_iload_n hx hb dX1_openTo_37 rfl (lv_at hl 3 rfl) ?_
              refine lv_iconst (v := 1) hx hb dX1_openTo_38 (by decide) ?_
              refine lv_iload_n hx hb dX1_openTo_39 rfl (lv_at hl 4 rfl) ?_
              refine lv_ishl hx hb dX1_openTo_40 ?_
              refine lv_ior hx hb dX1_openTo_41 ?_
              refine tp_i (y := nI (sumN (fun o => if opC F G mt om no c1 o = true then 2 ^ o else 0) (i + 1))) (opS_1 hlt ⟨hin, c_25, h_31⟩) ?_
              refine lv_istore_n (lv' := [(2, .int (nI (sumN (fun o => if opC F G mt om no c1 o = true then 2 ^ o else 0) (i + 1)))), (4, .ref (B (70 + i))), (0, .ref (B (53 + c1))), (1, .ref (B (69))), (3, .int (nI i))]) hx hb dX1_openTo_42 rfl hl (by decide) rfl (fun ls hl => ?_)
              refine lv_iinc (v := nI (i + 1)) (lv' := [(3, .int (nI (i + 1))), (2, .int (nI (sumN (fun o => if opC F G mt om no c1 o = true then 2 ^ o else 0) (i + 1)))), (4, .ref (B (70 + i))), (0, .ref (B (53 + c1))), (1, .ref (B (69)))]) hx hb dX1_openTo_43 hl (k := 4) rfl (nI_1 _) (by decide) rfl (fun ls hl => ?_)
              refine lv_goto (tgt := 4) hx hb dX1_openTo_46 (by decide) ?_
              exact ih_a (i + 1) _ _ _ (by omega) (by omega) hw (lv_sub hl [3, 4, 1, 0] rfl)
            · have hw := hq_31
              refine W.eq (g2 := F0 m 34 ls [.int (0)]) rfl ?_
              refine lv_if_eq (tgt := 43) hx hb dX1_openTo_34 (by decide) (fun _ => ?_) (fun h9 => False.elim (by revert h9; decide))
              have hl : lv_has ls 5 [(4, .ref (B (70 + i))), (0, .ref (B (53 + c1))), (1, .ref (B (69))), (2, .int (nI (sumN (fun o => if opC F G mt om no c1 o = true then 2 ^ o else 0) (i + 1)))), (3, .int (nI i))] := by rw [opS_0 (F := F) (G := G) (mt := mt) (om := om) (no := no) (c := c1) (fun h9 => h_31 h9.2.2)]; exact hl
              refine lv_iinc (v := nI (i + 1)) (lv' := [(3, .int (nI (i + 1))), (4, .ref (B (70 + i))), (0, .ref (B (53 + c1))), (1, .ref (B (69))), (2, .int (nI (sumN (fun o => if opC F G mt om no c1 o = true then 2 ^ o else 0) (i + 1))))]) hx hb dX1_openTo_43 hl (k := 4) rfl (nI_1 _) (by decide) rfl (fun ls hl => ?_)
              refine lv_goto (tgt := 4) hx hb dX1_openTo_46 (by decide) ?_
              exact ih_a (i + 1) _ _ _ (by omega) (by omega) hw (lv_sub hl [2, 3, 4, 0] rfl)
        · refine lv_aload_n hx hb dX1_openTo_10 rfl (lv_at hl 1 rfl) ?_
          refine lv_iload_n hx hb dX1_openTo_11 rfl (lv_at hl 3 rfl) ?_
          refine n_q i (r := 19) C hw (hR.f rfl) rfl (by decide) rfl rfl (show _ < 6 by omega) dX1_openTo_12 ?_
          rw [hR.po hlt, if_neg hin]
          refine W.eq (g2 := F0 m 13 ls [.null]) rfl ?_
          refine lv_astoreN (lv' := [(4, .null), (0, .ref (B (53 + c1))), (1, .ref (B (69))), (2, .int (nI (sumN (fun o => if opC F G mt om no c1 o = true then 2 ^ o else 0) i))), (3, .int (nI i))]) hx hb dX1_openTo_13 hl (by decide) rfl (fun ls hl => ?_)
          refine lv_aloadN hx hb dX1_openTo_15 (lv_at hl 0 rfl) ?_
          refine lv_ifnullN (tgt := 43) hx hb dX1_openTo_17 (by decide) ?_
          have hl : lv_has ls 5 [(4, .null), (0, .ref (B (53 + c1))), (1, .ref (B (69))), (2, .int (nI (sumN (fun o => if opC F G mt om no c1 o = true then 2 ^ o else 0) (i + 1)))), (3, .int (nI i))] := by rw [opS_0 (F := F) (G := G) (mt := mt) (om := om) (no := no) (c := c1) (fun h9 => hin h9.1)]; exact hl
          refine lv_iinc (v := nI (i + 1)) (lv' := [(3, .int (nI (i + 1))), (4, .null), (0, .ref (B (53 + c1))), (1, .ref (B (69))), (2, .int (nI (sumN (fun o => if opC F G mt om no c1 o = true then 2 ^ o else 0) (i + 1))))]) hx hb dX1_openTo_43 hl (k := 4) rfl (nI_1 _) (by decide) rfl (fun ls hl => ?_)
          refine lv_goto (tgt := 4) hx hb dX1_openTo_46 (by decide) ?_
          exact ih_a (i + 1) _ _ _ (by omega) (by omega) hw (lv_sub hl [2, 3, 4, 0] rfl)
  exact lo_a _ 0 _ _ _ (Nat.lt_succ_self _) (by omega) hw (lv_sub hl [2, 3, 1, 0] rfl)

set_option maxHeartbeats 4000000 in
set_option maxRecDepth 100000 in
theorem c_X1_measureSets (E : cE) (tt : Nat × Nat × Nat) {X : List Nat} (B : Nat → Nat) (F : tF) (G : tG) {P : tP} {nh : Nat → Nat} {nc no : Nat} {mt om : Nat → Nat} (hR : RC X P nh nc no mt om) {q : CP} (hfe : ∀ o, o < no → F (70 + o) 3 = nI (q.1 o)) (hfe0 : ∀ o, no ≤ o → o < 6 → q.1 o = 0)  : CT E tt yX1_measureSets cX1_measureSets 4 none 0 0 0 [.ref (B (83)), .ref (B (69))] (wl E X B F G P) (fun r w => r = none ∧ ∃ F1 : tF, AGm F F1 ∧ (∀ t, t < 64 → F1 84 t = nI (fsS q t) ∧ F1 85 t = nI (dsS t)) ∧ w = wl E X B F1 G P) := by
  refine CT.mk (by decide +kernel) (Nat.le_of_ble_eq_true rfl) ?_
  intro l p e s m below meth c A ls C hr hlk hnm hw hl
  have hx := C.1
  have hb := C.2.1
  have hts := C.2.2.2.2
  have hown : s.vm.findClass RX1 = some m.cls := C.2.2.2.1
  have hl : lv_has ls 4 [(0, .ref (B (83))), (1, .ref (B (69)))] := hl
  have ho6 := hR.no6
  refine lv_iconst (v := 0) hx hb dX1_measureSets_0 (by decide) ?_
  refine lv_istore_n (lv' := [(2, .int (0)), (0, .ref (B (83))), (1, .ref (B (69)))]) hx hb dX1_measureSets_1 rfl hl (by decide) rfl (fun ls hl => ?_)
  have lo_a : ∀ (n : Nat) (s0 : Nat) (F1 : tF) (H : Heap) (locs : List Loc) (ls : Array Slot), 64 - s0 < n → (s0 ≤ 64) → (AGm F F1) → (∀ t, t < s0 → F1 84 t = nI (fsS q t) ∧ F1 85 t = nI (dsS t)) → Wd E tt A s (wl E X B F1 G P) H locs → lv_has ls 4 [(0, .ref (B (83))), (1, .ref (B (69))), (2, .int (nI s0))] → W p l e (rmO 0 0 0) s m ([.ref (B (83)), .ref (B (69))] : List Value).toArray below meth c H locs 0 0 (MQ below (Fin0 E (fun r w => r = none ∧ ∃ F1 : tF, AGm F F1 ∧ (∀ t, t < 64 → F1 84 t = nI (fsS q t) ∧ F1 85 t = nI (dsS t)) ∧ w = wl E X B F1 G P) A) ([.ref (B (83)), .ref (B (69))] : List Value).toArray s 0 0 A) (F0 m 2 ls []) := by
    intro n
    induction n with
    | zero =>
      intro s0 F1 H locs ls hi_2
      exact absurd hi_2 (Nat.not_lt_zero _)
    | succ n ih_a =>
      intro s0 F1 H locs ls hj_a hs hA hf1 hw hl
      refine lv_iload_n hx hb dX1_measureSets_2 rfl (lv_at hl 2 rfl) ?_
      refine lv_bipush (v := 64) hx hb dX1_measureSets_3 (by decide) ?_
      refine lv_icmp_ge (tgt := 96) hx hb dX1_measureSets_5 (by decide) (fun c_5 => ?_) (fun c_5 => ?_)
      · have hs6 : s0 = 64 := lp_eq (b := 64) (by decide) (by omega) c_5
        exact r_v C hr hlk hw ⟨rfl, F1, hA, (fun t ht => hf1 t (by omega)), rfl⟩ dX1_measureSets_96
      · have hs6 : s0 < 64 := lp_lt (b := 64) (by decide) (by omega) c_5
        refine lv_aload_n hx hb dX1_measureSets_8 rfl (lv_at hl 0 rfl) ?_
        refine g_r 0 (k2 := 84) C hw (hR.f rfl) rfl fl_X1_11 rfl (hR.q83 0 (by decide)) dX1_measureSets_9 ?_
        refine lv_iload_n hx hb dX1_measureSets_12 rfl (lv_at hl 2 rfl) ?_
        refine lv_iconst (v := 0) hx hb dX1_measureSets_13 (by decide) ?_
        refine t_i s0 C hw (hR.f rfl) rfl rfl (show _ < 64 by omega) dX1_measureSets_14 (fun H locs hw => ?_)
        refine lv_aload_n hx hb dX1_measureSets_15 rfl (lv_at hl 0 rfl) ?_
        refine g_r 1 (k2 := 85) C hw (hR.f rfl) rfl fl_X1_15 rfl (hR.q83 1 (by decide)) dX1_measureSets_16 ?_
        refine lv_iload_n hx hb dX1_measureSets_19 rfl (lv_at hl 2 rfl) ?_
        refine lv_iconst (v := 0) hx hb dX1_measureSets_20 (by decide) ?_
        refine t_i s0 C hw (hR.f rfl) rfl rfl (show _ < 64 by omega) dX1_measureSets_21 (fun H locs hw => ?_)
        refine lv_iconst (v := 0) hx hb dX1_measureSets_22 (by decide) ?_
        refine lv_istore_n (lv' := [(3, .int (0)), (0, .ref (B (83))), (1, .ref (B (69))), (2, .int (nI s0))]) hx hb dX1_measureSets_23 rfl hl (by decide) rfl (fun ls hl => ?_)
        have lo_b : ∀ (n : Nat) (i : Nat) (F2 : tF) (H : Heap) (locs : List Loc) (ls : Array Slot), 6 - i < n → (i ≤ 6) → (AGm F F2) → (∀ t, t < s0 → F2 84 t = nI (fsS q t) ∧ F2 85 t = nI (dsS t)) → (F2 84 s0 = nI (sumN (fun o => if s0.testBit o = true then q.1 o else 0) i)) → (F2 85 s0 = nI (sumN (fun o => if s0.testBit o = true then pw (o + 1) else 0) i)) → Wd E tt A s (wl E X B F2 G P) H locs → lv_has ls 4 [(0, .ref (B (83))), (1, .ref (B (69))), (2, .int (nI s0)), (3, .int (nI i))] → W p l e (rmO 0 0 0) s m ([.ref (B (83)), .ref (B (69))] : List Value).toArray below meth c H locs 0 0 (MQ below (Fin0 E (fun r w => r = none ∧ ∃ F1 : tF, AGm F F1 ∧ (∀ t, t < 64 → F1 84 t = nI (fsS q t) ∧ F1 85 t = nI (dsS t)) ∧ w = wl E X B F1 G P) A) ([.ref (B (83)), .ref (B (69))] : List Value).toArray s 0 0 A) (F0 m 24 ls []) := by
          intro n
          induction n with
          | zero =>
            intro i F2 H locs ls hi_2
            exact absurd hi_2 (Nat.not_lt_zero _)
          | succ n ih_b =>
            intro i F2 H locs ls hj_b hi hA2 hf2 hf3 hd3 hw hl
            refine lv_iload_n hx hb dX1_measureSets_24 rfl (lv_at hl 3 rfl) ?_
            refine lv_aload_n hx hb dX1_measureSets_25 rfl (lv_at hl 1 rfl) ?_
            refine a_n (v := 6) C hw (hR.f rfl) (by decide) (by decide) rfl dX1_measureSets_26 ?_
            refine lv_icmp_ge (tgt := 90) hx hb dX1_measureSets_27 (by decide) (fun c_27 => ?_) (fun c_27 => ?_)
            · have hi6 : i = 6 := lp_eq (b := 6) (by decide) (by omega) c_27
              rw [hi6] at hf3 hd3
              refine lv_iinc (v := nI (s0 + 1)) (lv' := [(2, .int (nI (s0 + 1))), (0, .ref (B (83))), (1, .ref (B (69))), (3, .int (nI i))]) hx hb dX1_measureSets_90 hl (k := 2) rfl (nI_1 _) (by decide) rfl (fun ls hl => ?_)
              refine lv_goto (tgt := 2) hx hb dX1_measureSets_93 (by decide) ?_
              exact ih_a (s0 + 1) F2 _ _ _ (by omega) (by omega) hA2 (fun t ht => by by_cases e : t = s0; rw [e]; exact ⟨hf3, hd3⟩; exact hf2 t (by omega)) hw (lv_sub hl [1, 2, 0] rfl)
            · have hlt : i < 6 := lp_lt (b := 6) (by decide) (by omega) c_27
              refine lv_iload_n hx hb dX1_measureSets_30 rfl (lv_at hl 3 rfl) ?_
              refine va_gets hx hb hw.2.2.2.2.2.1.2.2.1 hw.2.2.2.1 hown (hts _ sl_X1_47) (fun _ h9 => h9) dX1_measureSets_31 ?_
              refine va_tlen hx hb hw.2.2.2.2.2.1.2.2.2.2.2 hw.2.2.2.1 (v := 6) rfl dX1_measureSets_34 ?_
              refine lv_icmp_ge (tgt := 90) hx hb dX1_measureSets_35 (by decide) (fun c_35 => ?_) (fun c_35 => ?_)
              · exact absurd ((nI_leI (a := 6) (by decide) (by omega)).mp c_35) (by omega)
              · refine lv_iload_n hx hb dX1_measureSets_38 rfl (lv_at hl 2 rfl) ?_
                refine lv_iload_n hx hb dX1_measureSets_39 rfl (lv_at hl 3 rfl) ?_
                refine lv_ishr hx hb dX1_measureSets_40 ?_
                refine lv_iconst (v := 1) hx hb dX1_measureSets_41 (by decide) ?_
                refine lv_iand hx hb dX1_measureSets_42 ?_
                refine lv_if_ne (tgt := 49) hx hb dX1_measureSets_43 (by decide) (fun c_43 => ?_) (fun c_43 => ?_)
                · have hbt : s0.testBit i = true := Classical.byContradiction (fun h9 => c_43 (by rw [bit_ok hs6 hlt, if_neg h9]))
                  refine lv_aload_n hx hb dX1_measureSets_49 rfl (lv_at hl 0 rfl) ?_
                  refine g_r 1 (k2 := 85) C hw (hR.f rfl) rfl fl_X1_15 rfl (hR.q83 1 (by decide)) dX1_measureSets_50 ?_
                  refine lv_iload_n hx hb dX1_measureSets_53 rfl (lv_at hl 2 rfl) ?_
                  refine lv_dup2_11 hx hb dX1_measureSets_54 rfl rfl ?_
                  refine n_i s0 C hw (hR.f rfl) rfl rfl (show _ < 64 by omega) dX1_measureSets_55 ?_
                  refine tp_i (y := nI (sumN (fun o => if s0.testBit o = true then pw (o + 1) else 0) i)) (hd3) ?_
                  refine va_gets hx hb hw.2.2.2.2.2.1.2.2.1 hw.2.2.2.1 hown (hts _ sl_X1_47) (fun _ h9 => h9) dX1_measureSets_56 ?_
                  refine lv_iload_n hx hb dX1_measureSets_59 rfl (lv_at hl 3 rfl) ?_
                  refine va_ti (t := tt.2.2) (N := 6) hx hb hw.2.2.2.2.2.1.2.2.2.2.2 hw.2.2.2.1 (pk_in i 6 (by omega) rfl) (v := .int (digV i)) (by rw [pk_cl i rfl]) dX1_measureSets_60 ?_
                  refine tp_i (y := nI (pw (i + 1))) (dig_ok hlt) ?_
                  refine lv_iadd hx hb dX1_measureSets_61 ?_
                  refine tp_i (y := nI (sumN (fun o => if s0.testBit o = true then pw (o + 1) else 0) (i + 1))) (by rw [nI_add, bsum_1 hbt]) ?_
                  refine t_i s0 C hw (hR.f rfl) rfl rfl (show _ < 64 by omega) dX1_measureSets_62 (fun H locs hw => ?_)
                  by_cases hin : i < no
                  · refine lv_aload_n hx hb dX1_measureSets_63 rfl (lv_at hl 1 rfl) ?_
                    refine lv_iload_n hx hb dX1_measureSets_64 rfl (lv_at hl 3 rfl) ?_
                    refine n_r i (k2 := 70 + i) (r := 19) C hw (hR.f rfl) rfl (by decide) rfl rfl (show _ < 6 by omega) ((hR.po hlt).trans (if_pos hin)) dX1_measureSets_65 ?_
                    refine lv_ifnull hx hb dX1_measureSets_66 ?_
                    refine lv_aload_n hx hb dX1_measureSets_69 rfl (lv_at hl 0 rfl) ?_
                    refine g_r 0 (k2 := 84) C hw (hR.f rfl) rfl fl_X1_11 rfl (hR.q83 0 (by decide)) dX1_measureSets_70 ?_
                    refine lv_iload_n hx hb dX1_measureSets_73 rfl (lv_at hl 2 rfl) ?_
                    refine lv_dup2_11 hx hb dX1_measureSets_74 rfl rfl ?_
                    refine n_i s0 C hw (hR.f rfl) rfl rfl (show _ < 64 by omega) dX1_measureSets_75 ?_
                    refine tp_i (y := F2 84 s0) ((uF_n _ _ (Or.inl (by decide))).trans (rfl)) ?_
                    refine tp_i (y := nI (sumN (fun o => if s0.testBit o = true then q.1 o else 0) i)) (hf3) ?_
                    refine lv_aload_n hx hb dX1_measureSets_76 rfl (lv_at hl 1 rfl) ?_
                    refine lv_iload_n hx hb dX1_measureSets_77 rfl (lv_at hl 3 rfl) ?_
                    refine n_r i (k2 := 70 + i) (r := 19) C hw (hR.f rfl) rfl (by decide) rfl rfl (show _ < 6 by omega) ((hR.po hlt).trans (if_pos hin)) dX1_measureSets_78 ?_
                    refine g_i 3 C hw (hR.xo (by omega)) (kd_order (by omega)) fl_X1_58 rfl dX1_measureSets_79 ?_
                    refine tp_i (y := nI (q.1 i)) ((uF_n _ _ (Or.inl (by omega))).trans ((congrFun (hA2 _ (by omega) (by omega)) 3).trans (hfe i hin))) ?_
                    refine lv_iadd hx hb dX1_measureSets_82 ?_
                    refine tp_i (y := nI (sumN (fun o => if s0.testBit o = true then q.1 o else 0) (i + 1))) (by rw [nI_add, bsum_1 hbt]) ?_
                    refine t_i s0 C hw (hR.f rfl) rfl rfl (show _ < 64 by omega) dX1_measureSets_83 (fun H locs hw => ?_)
                    refine lv_iinc (v := nI (i + 1)) (lv' := [(3, .int (nI (i + 1))), (0, .ref (B (83))), (1, .ref (B (69))), (2, .int (nI s0))]) hx hb dX1_measureSets_84 hl (k := 3) rfl (nI_1 _) (by decide) rfl (fun ls hl => ?_)
                    refine lv_goto (tgt := 24) hx hb dX1_measureSets_87 (by decide) ?_
                    exact ih_b (i + 1) (uF (uF F2 85 s0 (nI (sumN (fun o => if s0.testBit o = true then pw (o + 1) else 0) (i + 1)))) 84 s0 (nI (sumN (fun o => if s0.testBit o = true then q.1 o else 0) (i + 1)))) _ _ _ (by omega) (by omega) (fun k h1 h2 => (uF_o _ _ _ h1).trans ((uF_o _ _ _ h2).trans (hA2 k h1 h2))) (fun t ht => ⟨(uF_n _ _ (Or.inr (by omega))).trans ((uF_n _ _ (Or.inl (by decide))).trans (hf2 t ht).1), (uF_n _ _ (Or.inl (by decide))).trans ((uF_n _ _ (Or.inr (by omega))).trans (hf2 t ht).2)⟩) (uF_s _ _ _ _) ((uF_n _ _ (Or.inl (by decide))).trans (uF_s _ _ _ _)) hw (lv_sub hl [1, 2, 3, 0] rfl)
                  · refine lv_aload_n hx hb dX1_measureSets_63 rfl (lv_at hl 1 rfl) ?_
                    refine lv_iload_n hx hb dX1_measureSets_64 rfl (lv_at hl 3 rfl) ?_
                    refine n_q i (r := 19) C hw (hR.f rfl) rfl (by decide) rfl rfl (show _ < 6 by omega) dX1_measureSets_65 ?_
                    rw [hR.po hlt, if_neg hin]
                    refine W.eq (g2 := F0 m 66 ls [.null]) rfl ?_
                    refine lv_ifnullN (tgt := 84) hx hb dX1_measureSets_66 (by decide) ?_
                    refine lv_iinc (v := nI (i + 1)) (lv' := [(3, .int (nI (i + 1))), (0, .ref (B (83))), (1, .ref (B (69))), (2, .int (nI s0))]) hx hb dX1_measureSets_84 hl (k := 3) rfl (nI_1 _) (by decide) rfl (fun ls hl => ?_)
                    refine lv_goto (tgt := 24) hx hb dX1_measureSets_87 (by decide) ?_
                    exact ih_b (i + 1) (uF F2 85 s0 (nI (sumN (fun o => if s0.testBit o = true then pw (o + 1) else 0) (i + 1)))) _ _ _ (by omega) (by omega) (fun k h1 h2 => (uF_o _ _ _ h2).trans (hA2 k h1 h2)) (fun t ht => ⟨(uF_n _ _ (Or.inl (by decide))).trans (hf2 t ht).1, (uF_n _ _ (Or.inr (by omega))).trans (hf2 t ht).2⟩) ((uF_n _ _ (Or.inl (by decide))).trans (by rw [bsum_1 (g := q.1) hbt, hfe0 i (by omega) hlt, Nat.add_zero]; exact hf3)) (uF_s _ _ _ _) hw (lv_sub hl [1, 2, 3, 0] rfl)
                · have hbt : ¬ s0.testBit i = true := fun h9 => by rw [bit_ok hs6 hlt, if_pos h9] at c_43; exact absurd c_43 (by decide)
                  refine lv_goto (tgt := 84) hx hb dX1_measureSets_46 (by decide) ?_
                  refine lv_iinc (v := nI (i + 1)) (lv' := [(3, .int (nI (i + 1))), (0, .ref (B (83))), (1, .ref (B (69))), (2, .int (nI s0))]) hx hb dX1_measureSets_84 hl (k := 3) rfl (nI_1 _) (by decide) rfl (fun ls hl => ?_)
                  refine lv_goto (tgt := 24) hx hb dX1_measureSets_87 (by decide) ?_
                  exact ih_b (i + 1) F2 _ _ _ (by omega) (by omega) hA2 hf2 (by rw [bsum_0 hbt]; exact hf3) (by rw [bsum_0 hbt]; exact hd3) hw (lv_sub hl [1, 2, 3, 0] rfl)
        exact lo_b _ 0 (uF (uF F1 84 s0 0) 85 s0 0) _ _ _ (Nat.lt_succ_self _) (by omega) (fun k h1 h2 => (uF_o _ _ _ h2).trans ((uF_o _ _ _ h1).trans (hA k h1 h2))) (fun t ht => ⟨(uF_n _ _ (Or.inl (by decide))).trans ((uF_n _ _ (Or.inr (by omega))).trans (hf1 t ht).1), (uF_n _ _ (Or.inr (by omega))).trans ((uF_n _ _ (Or.inl (by decide))).trans (hf1 t ht).2)⟩) ((uF_n _ _ (Or.inl (by decide))).trans (uF_s _ _ _ _)) (uF_s _ _ _ _) hw (lv_sub hl [1, 2, 3, 0] rfl)
  exact lo_a _ 0 F _ _ _ (Nat.lt_succ_self _) (by omega) (fun _ _ _ => rfl) (fun t ht => absurd ht (Nat.not_lt_zero t)) hw (lv_sub hl [1, 2, 0] rfl)
