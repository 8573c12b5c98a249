/-! cuttings of the class: made -/
def cgo (V : tF) (c o : Nat) : Int64 := (V 116 c).toInt64 * (V 116 c).toInt64 * (V 126 o).toInt64
def cW (V : tF) (G : tG) (a : Nat → Nat) : Nat → tF × tG × Nat
  | 0 => (V, G, 0)
  | o + 1 => if a o < 16 then (uF (cW V G a o).1 127 o 1, uG (uG (cW V G a o).2.1 118 (a o) ((cW V G a o).2.1 118 (a o) - cgo V (a o) o)) 100 31 ((cW V G a o).2.1 100 31 + cgo V (a o) o), (cW V G a o).2.2 + 1) else cW V G a o
theorem cW_y {V : tF} {G : tG} {a : Nat → Nat} {o : Nat} (h : a o < 16) : cW V G a (o + 1) = (uF (cW V G a o).1 127 o 1, uG (uG (cW V G a o).2.1 118 (a o) ((cW V G a o).2.1 118 (a o) - cgo V (a o) o)) 100 31 ((cW V G a o).2.1 100 31 + cgo V (a o) o), (cW V G a o).2.2 + 1) := if_pos h
theorem cW_n {V : tF} {G : tG} {a : Nat → Nat} {o : Nat} (h : ¬ a o < 16) : cW V G a (o + 1) = cW V G a o := if_neg h
theorem cW_F {V : tF} {G : tG} {a : Nat → Nat} {k : Nat} (hk : k ≠ 127) : ∀ n, (cW V G a n).1 k = V k
  | 0 => rfl
  | n + 1 => by
    by_cases h : a n < 16
    · rw [cW_y h]
      exact (uF_o _ _ _ hk).trans (cW_F hk n)
    · rw [cW_n h]
      exact cW_F hk n
theorem cW_le {V : tF} {G : tG} {a : Nat → Nat} : ∀ n, (cW V G a n).2.2 ≤ n
  | 0 => Nat.le_refl 0
  | n + 1 => by
    have := cW_le (V := V) (G := G) (a := a) n
    by_cases h : a n < 16
    · rw [cW_y h]; show (cW V G a n).2.2 + 1 ≤ n + 1; omega
    · rw [cW_n h]; omega
def trT (V : tF) (G : tG) (a : Nat → Nat) (c : Nat) : Bool := decide (¬ uc a c 6 = 0 ∧ w_feet V G c < V 106 5)
def trG (V : tF) (G : tG) (a : Nat → Nat) : Nat → tG
  | 0 => G
  | c + 1 => if trT V G a c = true then uG (uG (trG V G a c) 100 32 (trG V G a c 100 32 + G 118 c)) 118 c 0 else trG V G a c
theorem trG_y {V : tF} {G : tG} {a : Nat → Nat} {c : Nat} (h : trT V G a c = true) : trG V G a (c + 1) = uG (uG (trG V G a c) 100 32 (trG V G a c 100 32 + G 118 c)) 118 c 0 := if_pos h
theorem trG_n {V : tF} {G : tG} {a : Nat → Nat} {c : Nat} (h : ¬ trT V G a c = true) : trG V G a (c + 1) = trG V G a c := if_neg h
theorem trG_118 {V : tF} {G : tG} {a : Nat → Nat} : ∀ n c, n ≤ c → trG V G a n 118 c = G 118 c
  | 0, _, _ => rfl
  | n + 1, c, h => by
    by_cases ht : trT V G a n = true
    · rw [trG_y ht, uG_n _ _ (Or.inr (by omega)), uG_n _ _ (Or.inl (by decide))]
      exact trG_118 n c (by omega)
    · rw [trG_n ht]
      exact trG_118 n c (by omega)
theorem uc_ne {a : Nat → Nat} {c : Nat} : (¬ uc a c 6 = 0) ↔ ∃ o, o < 6 ∧ a o = c := by
  constructor
  · intro h
    apply Classical.byContradiction
    intro h2
    exact h (sumN_z 6 (fun o ho => if_neg (fun e => h2 ⟨o, ho, e⟩)))
  · rintro ⟨o, ho, e⟩ h
    have h1 := sumN_ge (f := fun o => if a o = c then 1 else 0) 6 o ho
    have h2 : (if a o = c then 1 else 0) ≤ uc a c 6 := h1
    rw [if_pos e] at h2
    omega
theorem cNr_a {q : CP} {a : Nat → Nat} (h : Vd q a) {o : Nat} (ho : o < 6) : cNr (rkA a) o = if a o < 16 then nI (a o) else -1 := by
  have h1 := h.d o ho
  rw [cNr, rk_dig h ho]
  by_cases e : a o = 16
  · rw [if_pos e, if_neg (by omega)]
  · rw [if_neg e, if_pos (by omega)]
theorem uses_iff {q : CP} {a : Nat → Nat} (h : Vd q a) {c : Nat} (hc : c < 16) : (∃ j, j < 6 ∧ cOf (rkA a) (nI j) = nI c) ↔ ¬ uc a c 6 = 0 := by
  rw [uc_ne]
  constructor
  · rintro ⟨j, hj, e⟩
    refine ⟨j, hj, ?_⟩
    rw [cOf_n hj, cNr_a h hj] at e
    by_cases h1 : a j < 16
    · rw [if_pos h1] at e
      exact (nI_eq (by omega) (by omega)).mp e
    · rw [if_neg h1] at e
      exact absurd e.symm (nI_m1 (by omega))
  · rintro ⟨j, hj, e⟩
    refine ⟨j, hj, ?_⟩
    rw [cOf_n hj, cNr_a h hj, if_pos (by omega), e]
set_option maxHeartbeats 4000000 in
set_option maxRecDepth 100000 in
theorem c_X11_coilAt2 (E : cE) (tt : Nat × Nat × Nat) {X : List Nat} (B : Nat → Nat) (F : tF) (G : tG) {P : tP} {nh : Nat → Nat} {nc no : Nat} {mt om : Nat → Nat} (hR : RC X P nh nc no mt om) (hdz : ∀ c, c < nc → ¬ (F (53 + c) 1).toInt64 * (F (53 + c) 1).toInt64 = 0) (x0 : Int32)  : CT E tt yX11_coilAt cX11_coilAt 3 (some (.object "WireMill$Coil")) 3 0 0 [.ref (B (0)), .int (x0)] (wl E X B F G P) (fun r w => (∃ c : Nat, c < nc ∧ x0 = nI c ∧ (¬ w_ft (G (53 + c) 3) (F (53 + c) 1) = 0) ∧ r = some (.ref (B (53 + c))) ∧ w = (wl E X B F G P)) ∨ ((∀ c : Nat, c < nc → x0 = nI c → w_ft (G (53 + c) 3) (F (53 + c) 1) = 0) ∧ r = some .null ∧ w = (wl E X B F G P))) := by
  refine CT.mk (by decide +kernel) (Nat.le_of_ble_eq_true rfl) ?_
  intro l p e s m below meth c A ls C hr hlk hnm hw hl
  have hx := C.1
  have hb := C.2.1
  have hts := C.2.2.2.2
  have hown : s.vm.findClass RX11 = some m.cls := C.2.2.2.1
  have hl : lv_has ls 3 [(0, .ref (B (0))), (1, .int (x0))] := hl
  have hn16 := hR.nc16
  refine lv_iload_n hx hb dX11_coilAt_0 rfl (lv_at hl 1 rfl) ?_
  refine lv_if_lt (tgt := 13) hx hb dX11_coilAt_1 (by decide) (fun c_1 => ?_) (fun c_1 => ?_)
  · refine lv_null hx hb dX11_coilAt_13 ?_
    exact r_a (v := none) C hr hlk hw (Or.inr ⟨fun c hc e => absurd c_1 (by rw [e]; exact nI_pos (by omega)), rfl, rfl⟩) dX11_coilAt_14
  · refine lv_iload_n hx hb dX11_coilAt_4 rfl (lv_at hl 1 rfl) ?_
    refine lv_aload_n hx hb dX11_coilAt_5 rfl (lv_at hl 0 rfl) ?_
    refine g_r 4 (k2 := 52) C hw (hR.f rfl) rfl fl_X11_36 rfl (hR.p0 4 (by decide)) dX11_coilAt_6 ?_
    refine a_n (v := 16) C hw (hR.f rfl) (by decide) (by decide) rfl dX11_coilAt_9 ?_
    refine lv_icmp_lt (tgt := 15) hx hb dX11_coilAt_10 (by decide) (fun c_10 => ?_) (fun c_10 => ?_)
    · obtain ⟨c1, hc1, rfl⟩ := n_lt (n := 16) (Int32.not_lt.mp c_1) c_10 (by decide)
      by_cases hcn : c1 < nc
      · refine lv_aload_n hx hb dX11_coilAt_15 rfl (lv_at hl 0 rfl) ?_
        refine g_r 4 (k2 := 52) C hw (hR.f rfl) rfl fl_X11_36 rfl (hR.p0 4 (by decide)) dX11_coilAt_16 ?_
        refine lv_iload_n hx hb dX11_coilAt_19 rfl (lv_at hl 1 rfl) ?_
        refine n_r c1 (k2 := 53 + c1) (r := 16) C hw (hR.f rfl) rfl (by decide) rfl rfl (show _ < 16 by omega) ((hR.pc hc1).trans (if_pos hcn)) dX11_coilAt_20 ?_
        refine lv_astore_n (lv' := [(2, .ref (B (53 + c1))), (0, .ref (B (0))), (1, .int (nI c1))]) hx hb dX11_coilAt_21 rfl hl (by decide) rfl (fun ls hl => ?_)
        refine lv_aload_n hx hb dX11_coilAt_22 rfl (lv_at hl 0 rfl) ?_
        refine lv_ifnull hx hb dX11_coilAt_23 ?_
        refine lv_aload_n hx hb dX11_coilAt_26 rfl (lv_at hl 0 rfl) ?_
        refine kV C hw (c_X0_isGone E tt B F G P (hR.xc (by omega)) (kd_coil (by omega))  (hdz c1 hcn)) vy_X0_isGone ml_X11_385 (rcv hw (hR.xc (by omega)) (kd_coil (by omega)) (by decide) (q2 := (RX0, TX0, 7)) rfl) rfl hl.1 (rest := []) rfl dX11_coilAt_27 (Nat.le_of_ble_eq_true rfl) ⟨by decide, by decide⟩ ⟨Nat.le_of_ble_eq_true rfl, Nat.le_of_ble_eq_true rfl⟩ (fun v_27 ws_27 H locs hp_27 hq_27 => ?_)
        clear hw
        rcases hp_27 with ⟨h_27, rfl, rfl⟩ | ⟨h_27, rfl, rfl⟩
        · have hw := hq_27
          refine W.eq (g2 := F0 m 30 ls [.int (1)]) rfl ?_
          refine lv_if_eq (tgt := 37) hx hb dX11_coilAt_30 (by decide) (fun h9 => False.elim (by revert h9; decide)) (fun _ => ?_)
          refine lv_null hx hb dX11_coilAt_33 ?_
          refine lv_goto (tgt := 38) hx hb dX11_coilAt_34 (by decide) ?_
          exact r_a (v := none) C hr hlk hw (Or.inr ⟨fun c hc e => by have := (nI_eq (by omega) (by omega)).mp e; subst this; exact h_27, rfl, rfl⟩) dX11_coilAt_38
        · have hw := hq_27
          refine W.eq (g2 := F0 m 30 ls [.int (0)]) rfl ?_
          refine lv_if_eq (tgt := 37) hx hb dX11_coilAt_30 (by decide) (fun _ => ?_) (fun h9 => False.elim (by revert h9; decide))
          refine lv_aload_n hx hb dX11_coilAt_37 rfl (lv_at hl 0 rfl) ?_
          exact r_a (v := some (B (53 + c1))) C hr hlk hw (Or.inl ⟨c1, hcn, rfl, h_27, rfl, rfl⟩) dX11_coilAt_38
      · refine lv_aload_n hx hb dX11_coilAt_15 rfl (lv_at hl 0 rfl) ?_
        refine g_r 4 (k2 := 52) C hw (hR.f rfl) rfl fl_X11_36 rfl (hR.p0 4 (by decide)) dX11_coilAt_16 ?_
        refine lv_iload_n hx hb dX11_coilAt_19 rfl (lv_at hl 1 rfl) ?_
        refine n_q c1 (r := 16) C hw (hR.f rfl) rfl (by decide) rfl rfl (show _ < 16 by omega) dX11_coilAt_20 ?_
        rw [hR.pc hc1, if_neg hcn]
        refine W.eq (g2 := F0 m 21 ls [.null]) rfl ?_
        refine lv_astore_nN (lv' := [(2, .null), (0, .ref (B (0))), (1, .int (nI c1))]) hx hb dX11_coilAt_21 rfl hl (by decide) rfl (fun ls hl => ?_)
        refine lv_aload_nN hx hb dX11_coilAt_22 rfl (lv_at hl 0 rfl) ?_
        refine lv_ifnullN (tgt := 33) hx hb dX11_coilAt_23 (by decide) ?_
        refine lv_null hx hb dX11_coilAt_33 ?_
        refine lv_goto (tgt := 38) hx hb dX11_coilAt_34 (by decide) ?_
        exact r_a (v := none) C hr hlk hw (Or.inr ⟨fun c hc e => absurd hc (by have := (nI_eq (by omega) (by omega)).mp e; omega), rfl, rfl⟩) dX11_coilAt_38
    · refine lv_null hx hb dX11_coilAt_13 ?_
      exact r_a (v := none) C hr hlk hw (Or.inr ⟨fun c hc e => absurd (by rw [e]; exact nI_lt (b := 16) (by omega) (by decide)) c_10, rfl, rfl⟩) dX11_coilAt_14

set_option maxHeartbeats 4000000 in
set_option maxRecDepth 100000 in
theorem c_X11_cut (E : cE) (tt : Nat × Nat × Nat) {X : List Nat} (B : Nat → Nat) (F : tF) (G : tG) {P : tP} {nh : Nat → Nat} {nc no : Nat} {mt om : Nat → Nat} (hR : RC X P nh nc no mt om) (hCK : CK F G nc) {q : CP} (hQ : QH F G nc no mt om q) (hfc : ∀ a, Vd q a → ∀ i, i < 6 → a i < 16 → a i < nc ∧ i < no ∧ ¬ w_ft ((cW (vF F) (vG G) a i).2.1 118 (a i)) (vF F 116 (a i)) = 0)  : CT E tt yX11_cut cX11_cut 4 (some .int) 6 0 0 [.ref (B (0))] (wl E X B F G P) (fun r w => ∃ (F1 : tF) (G1 : tG) (a : Nat → Nat), Opt q a ∧ r = some (.int (nI (cW (vF F) (vG G) a 6).2.2)) ∧ KC F F1 ∧ KG G G1 ∧ vF F1 = (cW (vF F) (vG G) a 6).1 ∧ vG G1 = trG (vF F) ((cW (vF F) (vG G) a 6).2.1) a 16 ∧ w = wl E X B F1 G1 P) := by
  refine CT.mk (by decide +kernel) (Nat.le_of_ble_eq_true rfl) ?_
  intro l p e s m below meth c A ls C hr hlk hnm hw hl
  have hx := C.1
  have hb := C.2.1
  have hts := C.2.2.2.2
  have hown : s.vm.findClass RX11 = some m.cls := C.2.2.2.1
  have hl : lv_has ls 4 [(0, .ref (B (0)))] := hl
  have hn16 := hR.nc16
  have ho6 := hR.no6
  refine lv_aload_n hx hb dX11_cut_0 rfl (lv_at hl 0 rfl) ?_
  refine g_r 9 (k2 := 83) C hw (hR.f rfl) rfl fl_X11_74 rfl (hR.p0 9 (by decide)) dX11_cut_1 ?_
  refine lv_aload_n hx hb dX11_cut_4 rfl (lv_at hl 0 rfl) ?_
  refine g_r 4 (k2 := 52) C hw (hR.f rfl) rfl fl_X11_36 rfl (hR.p0 4 (by decide)) dX11_cut_5 ?_
  refine lv_aload_n hx hb dX11_cut_8 rfl (lv_at hl 0 rfl) ?_
  refine g_r 5 (k2 := 69) C hw (hR.f rfl) rfl fl_X11_42 rfl (hR.p0 5 (by decide)) dX11_cut_9 ?_
  refine kV C hw (c_X1_seek E tt B F G hR hCK (q := q) hQ) vy_X1_seek ml_X11_304 (rcv hw (hR.f rfl) rfl (by decide) (q2 := (RX1, TX1, 6)) rfl) rfl hl.1 (rest := []) rfl dX11_cut_12 (Nat.le_of_ble_eq_true rfl) ⟨by decide, by decide⟩ ⟨Nat.le_of_ble_eq_true rfl, Nat.le_of_ble_eq_true rfl⟩ (fun v_12 ws_12 H locs hp_12 hq_12 => ?_)
  clear hw
  obtain ⟨rfl, F_12, a, hA_12, ha, hf_12, hr_12, rfl⟩ := hp_12
  have hw := hq_12
  refine W.eq (g2 := F0 m 15 ls []) rfl ?_
  refine lv_iconst (v := 0) hx hb dX11_cut_15 (by decide) ?_
  refine lv_istore_n (lv' := [(1, .int (0)), (0, .ref (B (0)))]) hx hb dX11_cut_16 rfl hl (by decide) rfl (fun ls hl => ?_)
  refine lv_iconst (v := 0) hx hb dX11_cut_17 (by decide) ?_
  refine lv_istore_n (lv' := [(2, .int (0)), (1, .int (0)), (0, .ref (B (0)))]) hx hb dX11_cut_18 rfl hl (by decide) rfl (fun ls hl => ?_)
  have lo_a : ∀ (n : Nat) (i : Nat) (F2 : tF) (G2 : tG) (H : Heap) (locs : List Loc) (ls : Array Slot), 6 - i < n → (i ≤ 6) → (KC F F2) → (KG G G2) → (F2 83 = F_12 83) → (vF F2 = (cW (vF F) (vG G) a i).1) → (vG G2 = (cW (vF F) (vG G) a i).2.1) → Wd E tt A s (wl E X B F2 G2 P) H locs → lv_has ls 4 [(0, .ref (B (0))), (1, .int (nI (cW (vF F) (vG G) a i).2.2)), (2, .int (nI i))] → W p l e (rmO 6 0 0) s m ([.ref (B (0))] : List Value).toArray below meth c H locs 0 0 (MQ below (Fin0 E (fun r w => ∃ (F1 : tF) (G1 : tG) (a : Nat → Nat), Opt q a ∧ r = some (.int (nI (cW (vF F) (vG G) a 6).2.2)) ∧ KC F F1 ∧ KG G G1 ∧ vF F1 = (cW (vF F) (vG G) a 6).1 ∧ vG G1 = trG (vF F) ((cW (vF F) (vG G) a 6).2.1) a 16 ∧ w = wl E X B F1 G1 P) A) ([.ref (B (0))] : List Value).toArray s 0 0 A) (F0 m 19 ls []) := by
    intro n
    induction n with
    | zero =>
      intro i F2 G2 H locs ls hi_2
      exact absurd hi_2 (Nat.not_lt_zero _)
    | succ n ih_a =>
      intro i F2 G2 H locs ls hj_a hi hK hKG h83 hvF hvG hw hl
      have hs1 : ∀ c, c < nc → F2 (53 + c) 1 = F (53 + c) 1 := fun c hc => by rw [← vF_at (lc_c1 (c := c) (by omega)) F2, hvF, cW_F (by decide), vF_at (lc_c1 (c := c) (by omega))]
      have hs3 : ∀ o, o < no → F2 (70 + o) 3 = F (70 + o) 3 := fun o ho => by rw [← vF_at (lc_o3 (o := o) (by omega)) F2, hvF, cW_F (by decide), vF_at (lc_o3 (o := o) (by omega))]
      have hr2 : F2 83 5 = nI (rkA a) := (congrFun h83 5).trans hr_12
      refine lv_iload_n hx hb dX11_cut_19 rfl (lv_at hl 2 rfl) ?_
      refine lv_aload_n hx hb dX11_cut_20 rfl (lv_at hl 0 rfl) ?_
      refine g_r 5 (k2 := 69) C hw (hR.f rfl) rfl fl_X11_42 rfl (hR.p0 5 (by decide)) dX11_cut_21 ?_
      refine a_n (v := 6) C hw (hR.f rfl) (by decide) (by decide) rfl dX11_cut_24 ?_
      refine lv_icmp_ge (tgt := 77) hx hb dX11_cut_25 (by decide) (fun c_25 => ?_) (fun c_25 => ?_)
      · have he6 : i = 6 := lp_eq (b := 6) (by decide) (by omega) c_25
        subst he6
        refine lv_iconst (v := 0) hx hb dX11_cut_77 (by decide) ?_
        refine lv_istore_n (lv' := [(2, .int (0)), (0, .ref (B (0))), (1, .int (nI (cW (vF F) (vG G) a 6).2.2))]) hx hb dX11_cut_78 rfl hl (by decide) rfl (fun ls hl => ?_)
        have lo_b : ∀ (n : Nat) (i : Nat) (G3 : tG) (H : Heap) (locs : List Loc) (ls : Array Slot), 16 - i < n → (i ≤ 16) → (KG G G3) → (vG G3 = trG (vF F) ((cW (vF F) (vG G) a 6).2.1) a i) → Wd E tt A s (wl E X B F2 G3 P) H locs → lv_has ls 4 [(0, .ref (B (0))), (1, .int (nI (cW (vF F) (vG G) a 6).2.2)), (2, .int (nI i))] → W p l e (rmO 6 0 0) s m ([.ref (B (0))] : List Value).toArray below meth c H locs 0 0 (MQ below (Fin0 E (fun r w => ∃ (F1 : tF) (G1 : tG) (a : Nat → Nat), Opt q a ∧ r = some (.int (nI (cW (vF F) (vG G) a 6).2.2)) ∧ KC F F1 ∧ KG G G1 ∧ vF F1 = (cW (vF F) (vG G) a 6).1 ∧ vG G1 = trG (vF F) ((cW (vF F) (vG G) a 6).2.1) a 16 ∧ w = wl E X B F1 G1 P) A) ([.ref (B (0))] : List Value).toArray s 0 0 A) (F0 m 79 ls []) := by
          intro n
          induction n with
          | zero =>
            intro i G3 H locs ls hi_2
            exact absurd hi_2 (Nat.not_lt_zero _)
          | succ n ih_b =>
            intro i G3 H locs ls hj_b hi2 hKG3 hvG3 hw hl
            refine lv_iload_n hx hb dX11_cut_79 rfl (lv_at hl 2 rfl) ?_
            refine lv_aload_n hx hb dX11_cut_80 rfl (lv_at hl 0 rfl) ?_
            refine g_r 4 (k2 := 52) C hw (hR.f rfl) rfl fl_X11_36 rfl (hR.p0 4 (by decide)) dX11_cut_81 ?_
            refine a_n (v := 16) C hw (hR.f rfl) (by decide) (by decide) rfl dX11_cut_84 ?_
            refine lv_icmp_ge (tgt := 143) hx hb dX11_cut_85 (by decide) (fun c_85 => ?_) (fun c_85 => ?_)
            · have he16 : i = 16 := lp_eq (b := 16) (by decide) (by omega) c_85
              refine lv_iload_n hx hb dX11_cut_143 rfl (lv_at hl 1 rfl) ?_
              exact r_i C hr hlk hw ⟨F2, G3, a, ha, rfl, hK, hKG3, hvF, (by rw [hvG3, he16]), rfl⟩ dX11_cut_144
            · have hlt16 : i < 16 := lp_lt (b := 16) (by decide) (by omega) c_85
              by_cases hin : i < nc
              · refine lv_aload_n hx hb dX11_cut_88 rfl (lv_at hl 0 rfl) ?_
                refine g_r 4 (k2 := 52) C hw (hR.f rfl) rfl fl_X11_36 rfl (hR.p0 4 (by decide)) dX11_cut_89 ?_
                refine lv_iload_n hx hb dX11_cut_92 rfl (lv_at hl 2 rfl) ?_
                refine n_r i (k2 := 53 + i) (r := 16) C hw (hR.f rfl) rfl (by decide) rfl rfl (show _ < 16 by omega) ((hR.pc hlt16).trans (if_pos hin)) dX11_cut_93 ?_
                refine lv_ifnull hx hb dX11_cut_94 ?_
                refine lv_aload_n hx hb dX11_cut_97 rfl (lv_at hl 0 rfl) ?_
                refine g_r 9 (k2 := 83) C hw (hR.f rfl) rfl fl_X11_74 rfl (hR.p0 9 (by decide)) dX11_cut_98 ?_
                refine lv_iload_n hx hb dX11_cut_101 rfl (lv_at hl 2 rfl) ?_
                refine kV C hw (c_X1_uses E tt B F2 G3 hR (rn := rkA a) hr2 (by have := rkA_lt ha.1; omega) (nI i)) vy_X1_uses ml_X11_321 (rcv hw (hR.f rfl) rfl (by decide) (q2 := (RX1, TX1, 6)) rfl) rfl hl.1 (rest := []) rfl dX11_cut_102 (Nat.le_of_ble_eq_true rfl) ⟨by decide, by decide⟩ ⟨Nat.le_of_ble_eq_true rfl, Nat.le_of_ble_eq_true rfl⟩ (fun v_102 ws_102 H locs hp_102 hq_102 => ?_)
                clear hw
                rcases hp_102 with ⟨h_102, rfl, rfl⟩ | ⟨h_102, rfl, rfl⟩
                · have hw := hq_102
                  refine W.eq (g2 := F0 m 105 ls [.int (1)]) rfl ?_
                  refine lv_if_eq (tgt := 137) hx hb dX11_cut_105 (by decide) (fun h9 => False.elim (by revert h9; decide)) (fun _ => ?_)
                  refine lv_aload_n hx hb dX11_cut_108 rfl (lv_at hl 0 rfl) ?_
                  refine g_r 4 (k2 := 52) C hw (hR.f rfl) rfl fl_X11_36 rfl (hR.p0 4 (by decide)) dX11_cut_109 ?_
                  refine lv_iload_n hx hb dX11_cut_112 rfl (lv_at hl 2 rfl) ?_
                  refine n_r i (k2 := 53 + i) (r := 16) C hw (hR.f rfl) rfl (by decide) rfl rfl (show _ < 16 by omega) ((hR.pc hlt16).trans (if_pos hin)) dX11_cut_113 ?_
                  refine kV C hw (c_X0_feet E tt B F2 G3 P (hR.xc (by omega)) (kd_coil (by omega))  (by rw [hs1 i hin]; exact (hCK i hin).1)) vy_X0_feet ml_X11_200 (rcv hw (hR.xc (by omega)) (kd_coil (by omega)) (by decide) (q2 := (RX0, TX0, 7)) rfl) rfl hl.1 (rest := []) rfl dX11_cut_114 (Nat.le_of_ble_eq_true rfl) ⟨by decide, by decide⟩ ⟨Nat.le_of_ble_eq_true rfl, Nat.le_of_ble_eq_true rfl⟩ (fun v_114 ws_114 H locs hp_114 hq_114 => ?_)
                  clear hw
                  obtain ⟨rfl, rfl⟩ := hp_114
                  have hw := hq_114
                  refine W.eq (g2 := F0 m 117 ls [.int (w_ft (G3 (53 + i) 3) (F2 (53 + i) 1))]) rfl ?_
                  have hfeet : w_ft (G3 (53 + i) 3) (F2 (53 + i) 1) = w_feet (vF F) ((cW (vF F) (vG G) a 6).2.1) i := by rw [w_feet_e, ← trG_118 (V := vF F) (G := (cW (vF F) (vG G) a 6).2.1) (a := a) i i (Nat.le_refl i), ← hvG3, vG_at (lc_c3 (c := i) (by omega)), vF_at (lc_c1 (c := i) (by omega)), hs1 i hin]
                  have hsh : F2 1 5 = vF F 106 5 := by rw [← vF_at (lc_set (j := 5) (by decide)) F2, hvF, cW_F (by decide)]
                  refine lv_aload_n hx hb dX11_cut_117 rfl (lv_at hl 0 rfl) ?_
                  refine g_r 0 (k2 := 1) C hw (hR.f rfl) rfl fl_X11_10 rfl (hR.p0 0 (by decide)) dX11_cut_118 ?_
                  refine g_i 5 C hw (hR.f rfl) rfl fl_X11_324 rfl dX11_cut_121 ?_
                  refine lv_icmp_ge (tgt := 137) hx hb dX11_cut_124 (by decide) (fun c_124 => ?_) (fun c_124 => ?_)
                  · have c_124 := Int32.not_lt.mpr c_124
                    have hvn : vG G3 = trG (vF F) ((cW (vF F) (vG G) a 6).2.1) a (i + 1) := by rw [trG_n (show ¬ trT (vF F) ((cW (vF F) (vG G) a 6).2.1) a i = true from fun h8 => (fun h9 => c_124 (by rw [hfeet, hsh]; exact h9.2)) (of_decide_eq_true h8))]; exact hvG3
                    refine lv_iinc (v := nI (i + 1)) (lv' := [(2, .int (nI (i + 1))), (0, .ref (B (0))), (1, .int (nI (cW (vF F) (vG G) a 6).2.2))]) hx hb dX11_cut_137 hl (k := 2) rfl (nI_1 _) (by decide) rfl (fun ls hl => ?_)
                    refine lv_goto (tgt := 79) hx hb dX11_cut_140 (by decide) ?_
                    exact ih_b (i + 1) G3 _ _ _ (by omega) (by omega) hKG3 hvn hw (lv_sub hl [1, 2, 0] rfl)
                  · have c_124 := Int32.not_le.mp c_124
                    refine lv_aload_n hx hb dX11_cut_127 rfl (lv_at hl 0 rfl) ?_
                    refine lv_aload_n hx hb dX11_cut_128 rfl (lv_at hl 0 rfl) ?_
                    refine g_r 4 (k2 := 52) C hw (hR.f rfl) rfl fl_X11_36 rfl (hR.p0 4 (by decide)) dX11_cut_129 ?_
                    refine lv_iload_n hx hb dX11_cut_132 rfl (lv_at hl 2 rfl) ?_
                    refine n_r i (k2 := 53 + i) (r := 16) C hw (hR.f rfl) rfl (by decide) rfl rfl (show _ < 16 by omega) ((hR.pc hlt16).trans (if_pos hin)) dX11_cut_133 ?_
                    refine kV C hw (c_X11_throwAway E tt B F2 G3 hR (c1 := i) (by omega)) vy_X11_throwAway ml_X11_263 (rcv hw (hR.f rfl) rfl (by decide) (q2 := (RX11, TX11, 19)) rfl) rfl hl.1 (rest := []) rfl dX11_cut_134 (Nat.le_of_ble_eq_true rfl) ⟨by decide, by decide⟩ ⟨Nat.le_of_ble_eq_true rfl, Nat.le_of_ble_eq_true rfl⟩ (fun v_134 ws_134 H locs hp_134 hq_134 => ?_)
                    clear hw
                    obtain ⟨rfl, rfl⟩ := hp_134
                    have hw := hq_134
                    refine W.eq (g2 := F0 m 137 ls []) rfl ?_
                    have hvn : vG (uG (uG G3 0 15 (G3 0 15 + G3 (53 + i) 3)) (53 + i) 3 0) = trG (vF F) ((cW (vF F) (vG G) a 6).2.1) a (i + 1) := by rw [trG_y (show trT (vF F) ((cW (vF F) (vG G) a 6).2.1) a i = true from decide_eq_true ⟨(uses_iff ha.1 (by omega)).mp h_102, by rw [← hfeet, ← hsh]; exact c_124⟩), vG_up (lc_c3 (c := i) (by omega)), vG_up lc_g32, ← vG_at (lc_c3 (c := i) (by omega)) G3, ← vG_at lc_g32 G3, hvG3, trG_118 i i (Nat.le_refl i)]
                    refine lv_iinc (v := nI (i + 1)) (lv' := [(2, .int (nI (i + 1))), (0, .ref (B (0))), (1, .int (nI (cW (vF F) (vG G) a 6).2.2))]) hx hb dX11_cut_137 hl (k := 2) rfl (nI_1 _) (by decide) rfl (fun ls hl => ?_)
                    refine lv_goto (tgt := 79) hx hb dX11_cut_140 (by decide) ?_
                    exact ih_b (i + 1) (uG (uG G3 0 15 (G3 0 15 + G3 (53 + i) 3)) (53 + i) 3 0) _ _ _ (by omega) (by omega) (KG.u (KG.u hKG3 (by omega)) (by omega)) hvn hw (lv_sub hl [1, 2, 0] rfl)
                · have hw := hq_102
                  refine W.eq (g2 := F0 m 105 ls [.int (0)]) rfl ?_
                  refine lv_if_eq (tgt := 137) hx hb dX11_cut_105 (by decide) (fun _ => ?_) (fun h9 => False.elim (by revert h9; decide))
                  have hvn : vG G3 = trG (vF F) ((cW (vF F) (vG G) a 6).2.1) a (i + 1) := by rw [trG_n (show ¬ trT (vF F) ((cW (vF F) (vG G) a 6).2.1) a i = true from fun h8 => (fun h9 => h_102 ((uses_iff ha.1 (by omega)).mpr h9.1)) (of_decide_eq_true h8))]; exact hvG3
                  refine lv_iinc (v := nI (i + 1)) (lv' := [(2, .int (nI (i + 1))), (0, .ref (B (0))), (1, .int (nI (cW (vF F) (vG G) a 6).2.2))]) hx hb dX11_cut_137 hl (k := 2) rfl (nI_1 _) (by decide) rfl (fun ls hl => ?_)
                  refine lv_goto (tgt := 79) hx hb dX11_cut_140 (by decide) ?_
                  exact ih_b (i + 1) G3 _ _ _ (by omega) (by omega) hKG3 hvn hw (lv_sub hl [1, 2, 0] rfl)
              · refine lv_aload_n hx hb dX11_cut_88 rfl (lv_at hl 0 rfl) ?_
                refine g_r 4 (k2 := 52) C hw (hR.f rfl) rfl fl_X11_36 rfl (hR.p0 4 (by decide)) dX11_cut_89 ?_
                refine lv_iload_n hx hb dX11_cut_92 rfl (lv_at hl 2 rfl) ?_
                refine n_q i (r := 16) C hw (hR.f rfl) rfl (by decide) rfl rfl (show _ < 16 by omega) dX11_cut_93 ?_
                rw [hR.pc hlt16, if_neg hin]
                refine W.eq (g2 := F0 m 94 ls [.null]) rfl ?_
                refine lv_ifnullN (tgt := 137) hx hb dX11_cut_94 (by decide) ?_
                have hvn : vG G3 = trG (vF F) ((cW (vF F) (vG G) a 6).2.1) a (i + 1) := by rw [trG_n (show ¬ trT (vF F) ((cW (vF F) (vG G) a 6).2.1) a i = true from fun h8 => (fun h9 => (uc_ne.mp h9.1).elim (fun o ho => hin (by have := hfc a ha.1 o ho.1 (by omega); omega))) (of_decide_eq_true h8))]; exact hvG3
                refine lv_iinc (v := nI (i + 1)) (lv' := [(2, .int (nI (i + 1))), (0, .ref (B (0))), (1, .int (nI (cW (vF F) (vG G) a 6).2.2))]) hx hb dX11_cut_137 hl (k := 2) rfl (nI_1 _) (by decide) rfl (fun ls hl => ?_)
                refine lv_goto (tgt := 79) hx hb dX11_cut_140 (by decide) ?_
                exact ih_b (i + 1) G3 _ _ _ (by omega) (by omega) hKG3 hvn hw (lv_sub hl [1, 2, 0] rfl)
        exact lo_b _ 0 G2 _ _ _ (Nat.lt_succ_self _) (by omega) hKG hvG hw (lv_sub hl [1, 2, 0] rfl)
      · have hi6 : i < 6 := lp_lt (b := 6) (by decide) (by omega) c_25
        by_cases hai : a i < 16
        · obtain ⟨c1, hac⟩ : ∃ c1, a i = c1 := ⟨_, rfl⟩
          have hfc1 := hfc a ha.1 i hi6 hai
          rw [hac] at hfc1 hai
          obtain ⟨hcn, hin, hft0⟩ := hfc1
          have hft : ¬ w_ft (G2 (53 + c1) 3) (F2 (53 + c1) 1) = 0 := by have h9 := vG_at (lc_c3 (c := c1) (by omega)) G2; rw [← h9, hvG, hs1 c1 hcn, ← vF_at (lc_c1 (c := c1) (by omega)) F]; exact hft0
          have hcg : (F2 (53 + c1) 1).toInt64 * (F2 (53 + c1) 1).toInt64 * (F2 (70 + i) 3).toInt64 = cgo (vF F) (a i) i := by rw [hs1 c1 hcn, hs3 i hin, cgo, hac, vF_at (lc_c1 (c := c1) (by omega)), vF_at (lc_o3 (o := i) (by omega))]
          refine lv_aload_n hx hb dX11_cut_28 rfl (lv_at hl 0 rfl) ?_
          refine lv_aload_n hx hb dX11_cut_29 rfl (lv_at hl 0 rfl) ?_
          refine g_r 9 (k2 := 83) C hw (hR.f rfl) rfl fl_X11_74 rfl (hR.p0 9 (by decide)) dX11_cut_30 ?_
          refine lv_iload_n hx hb dX11_cut_33 rfl (lv_at hl 2 rfl) ?_
          refine kV C hw (c_X1_coilOf E tt B F2 G2 hR (rn := rkA a) hr2 (by have := rkA_lt ha.1; omega) (nI i)) vy_X1_coilOf ml_X11_314 (rcv hw (hR.f rfl) rfl (by decide) (q2 := (RX1, TX1, 6)) rfl) rfl hl.1 (rest := [.ref (B (0))]) rfl dX11_cut_34 (Nat.le_of_ble_eq_true rfl) ⟨by decide, by decide⟩ ⟨Nat.le_of_ble_eq_true rfl, Nat.le_of_ble_eq_true rfl⟩ (fun v_34 ws_34 H locs hp_34 hq_34 => ?_)
          clear hw
          obtain ⟨rfl, rfl⟩ := hp_34
          have hw := hq_34
          refine W.eq (g2 := F0 m 37 ls [.int (cOf (rkA a) (nI i)), .ref (B (0))]) rfl ?_
          refine tp_i (y := nI c1) (by rw [cOf_n hi6, cNr_a ha.1 hi6, hac, if_pos hai]) ?_
          refine kV C hw (c_X11_coilAt2 E tt B F2 G2 hR (fun c hc => by rw [hs1 c hc]; exact (hCK c hc).1) (nI c1)) vy_X11_coilAt ml_X11_183 (rcv hw (hR.f rfl) rfl (by decide) (q2 := (RX11, TX11, 19)) rfl) rfl hl.1 (rest := []) rfl dX11_cut_37 (Nat.le_of_ble_eq_true rfl) ⟨by decide, by decide⟩ ⟨Nat.le_of_ble_eq_true rfl, Nat.le_of_ble_eq_true rfl⟩ (fun v_37 ws_37 H locs hp_37 hq_37 => ?_)
          clear hw
          rcases hp_37 with ⟨c2, hc2, he2, hnz, rfl, rfl⟩ | ⟨hnl, rfl, rfl⟩
          · have hw := hq_37
            refine W.eq (g2 := F0 m 40 ls [.ref (B (53 + c2))]) rfl ?_
            have he3 : c1 = c2 := (nI_eq (by omega) (by omega)).mp he2
            subst he3
            refine lv_astore_n (lv' := [(3, .ref (B (53 + c1))), (0, .ref (B (0))), (1, .int (nI (cW (vF F) (vG G) a i).2.2)), (2, .int (nI i))]) hx hb dX11_cut_40 rfl hl (by decide) rfl (fun ls hl => ?_)
            refine lv_aload_n hx hb dX11_cut_41 rfl (lv_at hl 0 rfl) ?_
            refine lv_ifnull hx hb dX11_cut_42 ?_
            refine lv_aload_n hx hb dX11_cut_45 rfl (lv_at hl 1 rfl) ?_
            refine g_r 5 (k2 := 69) C hw (hR.f rfl) rfl fl_X11_42 rfl (hR.p0 5 (by decide)) dX11_cut_46 ?_
            refine lv_iload_n hx hb dX11_cut_49 rfl (lv_at hl 3 rfl) ?_
            refine n_r i (k2 := 70 + i) (r := 19) C hw (hR.f rfl) rfl (by decide) rfl rfl (show _ < 6 by omega) ((hR.po hi6).trans (if_pos hin)) dX11_cut_50 ?_
            refine lv_ifnonnull (tgt := 57) hx hb dX11_cut_51 (by decide) ?_
            refine lv_aload_n hx hb dX11_cut_57 rfl (lv_at hl 1 rfl) ?_
            refine lv_aload_n hx hb dX11_cut_58 rfl (lv_at hl 0 rfl) ?_
            refine lv_aload_n hx hb dX11_cut_59 rfl (lv_at hl 1 rfl) ?_
            refine g_r 5 (k2 := 69) C hw (hR.f rfl) rfl fl_X11_42 rfl (hR.p0 5 (by decide)) dX11_cut_60 ?_
            refine lv_iload_n hx hb dX11_cut_63 rfl (lv_at hl 3 rfl) ?_
            refine n_r i (k2 := 70 + i) (r := 19) C hw (hR.f rfl) rfl (by decide) rfl rfl (show _ < 6 by omega) ((hR.po hi6).trans (if_pos hin)) dX11_cut_64 ?_
            refine kV C hw (c_X11_deliver E tt B F2 G2 hR (c1 := c1) hcn (o1 := i) hin) vy_X11_deliver ml_X11_317 (rcv hw (hR.f rfl) rfl (by decide) (q2 := (RX11, TX11, 19)) rfl) rfl hl.1 (rest := []) rfl dX11_cut_65 (Nat.le_of_ble_eq_true rfl) ⟨by decide, by decide⟩ ⟨Nat.le_of_ble_eq_true rfl, Nat.le_of_ble_eq_true rfl⟩ (fun v_65 ws_65 H locs hp_65 hq_65 => ?_)
            clear hw
            obtain ⟨rfl, rfl⟩ := hp_65
            have hw := hq_65
            refine W.eq (g2 := F0 m 68 ls []) rfl ?_
            refine lv_iinc (v := (nI (cW (vF F) (vG G) a i).2.2) + 1) (lv' := [(1, .int ((nI (cW (vF F) (vG G) a i).2.2) + 1)), (3, .ref (B (53 + c1))), (0, .ref (B (0))), (2, .int (nI i))]) hx hb dX11_cut_68 hl (k := 2) rfl rfl (by decide) rfl (fun ls hl => ?_)
            have hai2 : a i < 16 := by rw [hac]; exact hai
            have hcw := cW_y (V := vF F) (G := vG G) (a := a) (o := i) hai2
            have hl : lv_has ls 4 [(1, .int (nI (cW (vF F) (vG G) a (i + 1)).2.2)), (3, .ref (B (53 + c1))), (0, .ref (B (0))), (2, .int (nI i))] := by rw [hcw]; rw [nI_1] at hl; exact hl
            have hvF2 : vF (uF F2 (70 + i) 4 1) = (cW (vF F) (vG G) a (i + 1)).1 := by rw [vF_up (lc_o4 (o := i) (by omega)), hvF, hcw]
            have hvG2 : vG (uG (uG G2 (53 + c1) 3 (G2 (53 + c1) 3 - (F2 (53 + c1) 1).toInt64 * (F2 (53 + c1) 1).toInt64 * (F2 (70 + i) 3).toInt64)) 0 14 (G2 0 14 + (F2 (53 + c1) 1).toInt64 * (F2 (53 + c1) 1).toInt64 * (F2 (70 + i) 3).toInt64)) = (cW (vF F) (vG G) a (i + 1)).2.1 := by rw [hcg, vG_up lc_g31, vG_up (lc_c3 (c := c1) (by omega)), ← vG_at (lc_c3 (c := c1) (by omega)) G2, ← vG_at lc_g31 G2, hvG, hcw, hac]
            refine lv_iinc (v := nI (i + 1)) (lv' := [(2, .int (nI (i + 1))), (1, .int (nI (cW (vF F) (vG G) a (i + 1)).2.2)), (3, .ref (B (53 + c1))), (0, .ref (B (0)))]) hx hb dX11_cut_71 hl (k := 3) rfl (nI_1 _) (by decide) rfl (fun ls hl => ?_)
            refine lv_goto (tgt := 19) hx hb dX11_cut_74 (by decide) ?_
            exact ih_a (i + 1) (uF F2 (70 + i) 4 1) (uG (uG G2 (53 + c1) 3 (G2 (53 + c1) 3 - (F2 (53 + c1) 1).toInt64 * (F2 (53 + c1) 1).toInt64 * (F2 (70 + i) 3).toInt64)) 0 14 (G2 0 14 + (F2 (53 + c1) 1).toInt64 * (F2 (53 + c1) 1).toInt64 * (F2 (70 + i) 3).toInt64)) _ _ _ (by omega) (by omega) (KC.u hK (by omega) (by omega) (by omega)) (KG.u (KG.u hKG (by omega)) (by omega)) ((uF_o _ _ _ (by omega)).trans h83) hvF2 hvG2 hw (lv_sub hl [3, 1, 0] rfl)
          · have hw := hq_37
            refine W.eq (g2 := F0 m 40 ls [.null]) rfl ?_
            exact absurd (hnl c1 hcn rfl) hft
        · refine lv_aload_n hx hb dX11_cut_28 rfl (lv_at hl 0 rfl) ?_
          refine lv_aload_n hx hb dX11_cut_29 rfl (lv_at hl 0 rfl) ?_
          refine g_r 9 (k2 := 83) C hw (hR.f rfl) rfl fl_X11_74 rfl (hR.p0 9 (by decide)) dX11_cut_30 ?_
          refine lv_iload_n hx hb dX11_cut_33 rfl (lv_at hl 2 rfl) ?_
          refine kV C hw (c_X1_coilOf E tt B F2 G2 hR (rn := rkA a) hr2 (by have := rkA_lt ha.1; omega) (nI i)) vy_X1_coilOf ml_X11_314 (rcv hw (hR.f rfl) rfl (by decide) (q2 := (RX1, TX1, 6)) rfl) rfl hl.1 (rest := [.ref (B (0))]) rfl dX11_cut_34 (Nat.le_of_ble_eq_true rfl) ⟨by decide, by decide⟩ ⟨Nat.le_of_ble_eq_true rfl, Nat.le_of_ble_eq_true rfl⟩ (fun v_34 ws_34 H locs hp_34 hq_34 => ?_)
          clear hw
          obtain ⟨rfl, rfl⟩ := hp_34
          have hw := hq_34
          refine W.eq (g2 := F0 m 37 ls [.int (cOf (rkA a) (nI i)), .ref (B (0))]) rfl ?_
          refine tp_i (y := -1) (by rw [cOf_n hi6, cNr_a ha.1 hi6, if_neg hai]) ?_
          refine kV C hw (c_X11_coilAt2 E tt B F2 G2 hR (fun c hc => by rw [hs1 c hc]; exact (hCK c hc).1) (-1)) vy_X11_coilAt ml_X11_183 (rcv hw (hR.f rfl) rfl (by decide) (q2 := (RX11, TX11, 19)) rfl) rfl hl.1 (rest := []) rfl dX11_cut_37 (Nat.le_of_ble_eq_true rfl) ⟨by decide, by decide⟩ ⟨Nat.le_of_ble_eq_true rfl, Nat.le_of_ble_eq_true rfl⟩ (fun v_37 ws_37 H locs hp_37 hq_37 => ?_)
          clear hw
          rcases hp_37 with ⟨c2, hc2, he2, hnz, rfl, rfl⟩ | ⟨hnl, rfl, rfl⟩
          · have hw := hq_37
            refine W.eq (g2 := F0 m 40 ls [.ref (B (53 + c2))]) rfl ?_
            exact absurd he2.symm (nI_m1 (by omega))
          · have hw := hq_37
            refine W.eq (g2 := F0 m 40 ls [.null]) rfl ?_
            refine lv_astore_nN (lv' := [(3, .null), (0, .ref (B (0))), (1, .int (nI (cW (vF F) (vG G) a i).2.2)), (2, .int (nI i))]) hx hb dX11_cut_40 rfl hl (by decide) rfl (fun ls hl => ?_)
            refine lv_aload_nN hx hb dX11_cut_41 rfl (lv_at hl 0 rfl) ?_
            refine lv_ifnullN (tgt := 71) hx hb dX11_cut_42 (by decide) ?_
            have hcw := cW_n (V := vF F) (G := vG G) (a := a) (o := i) hai
            have hl : lv_has ls 4 [(3, .null), (0, .ref (B (0))), (1, .int (nI (cW (vF F) (vG G) a (i + 1)).2.2)), (2, .int (nI i))] := by rw [hcw]; exact hl
            have hvF2 := hvF
            rw [← hcw] at hvF2
            have hvG2 := hvG
            rw [← hcw] at hvG2
            refine lv_iinc (v := nI (i + 1)) (lv' := [(2, .int (nI (i + 1))), (3, .null), (0, .ref (B (0))), (1, .int (nI (cW (vF F) (vG G) a (i + 1)).2.2))]) hx hb dX11_cut_71 hl (k := 3) rfl (nI_1 _) (by decide) rfl (fun ls hl => ?_)
            refine lv_goto (tgt := 19) hx hb dX11_cut_74 (by decide) ?_
            exact ih_a (i + 1) F2 G2 _ _ _ (by omega) (by omega) hK hKG h83 hvF2 hvG2 hw (lv_sub hl [2, 3, 0] rfl)
  exact lo_a _ 0 F_12 G _ _ _ (Nat.lt_succ_self _) (by omega) hA_12.KC KG.rf rfl hA_12.v rfl hw (lv_sub hl [2, 1, 0] rfl)
