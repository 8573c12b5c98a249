/-! ways of the class: the steps laid, the search begun -/
def WLV (V : tF) (jo u lo hi : Int32) (nh mt : Nat → Nat) (c1 i1 : Nat) (wt : wT) (gd : Nat → Prop) : Prop :=
  (∀ pl h n, pl ≤ nh i1 → h ≤ 100 → n < 8 → gd pl → (if n < nh i1 ∧ w_rf V (mt c1) jo (szP V nh c1 i1 pl) (nI h) (8 * i1 + n) u = 0 then w_hard V (mt c1) (szP V nh c1 i1 pl) (nI h) (w_wide V (8 * i1 + n)) else -1) = if wt.1 pl h n = true then nI (wt.2.1 pl h n) else -1) ∧
  (∀ pl, pl ≤ nh i1 → ¬ (szP V nh c1 i1 pl).toInt64 * (szP V nh c1 i1 pl).toInt64 = 0) ∧
  (∀ pl, pl ≤ nh i1 → (wt.2.2 pl = true ↔ lo ≤ szP V nh c1 i1 pl ∧ szP V nh c1 i1 pl ≤ hi)) ∧
  ∀ pl h n, pl ≤ nh i1 → h ≤ 100 → gd pl → wt.1 pl h n = true → gd (n + 1)
theorem sts_gd {wt : wT} {rk : Nat → Nat → Nat} {N : Nat} (hS : WS wt rk N) {gd : Nat → Prop} (hg : ∀ pl h n, pl ≤ N → h ≤ 100 → gd pl → wt.1 pl h n = true → gd (n + 1)) (hg0 : gd 0) {h0 : Nat} (hh0 : h0 ≤ 100) (hf : pr wt 0 h0 < 100000) : ∀ i, i ≤ wlen wt h0 → gd (sts wt h0 i).1
  | 0, _ => hg0
  | i + 1, hi => by
    have ih := sts_gd hS hg hg0 hh0 hf i (by omega)
    obtain ⟨h1, h2, h3, h4⟩ := sts_inv hS hh0 hf i (by omega)
    have ht : ¬ wt.2.2 (sts wt h0 i).1 = true := fun q => by have := (sts_nt hS hh0 hf (by omega)).mp q; omega
    rcases nxt_k hS h1 h2 ht h3 with ⟨a, b, c⟩ | ⟨a, b, c⟩
    · simp only [sts, show ¬ nxt wt (sts wt h0 i).1 (sts wt h0 i).2 = 8 by omega, if_false]
      exact hg _ _ _ h1 h2 ih b
    · simp only [sts, a, if_true]
      exact ih
theorem WLV.k {F F1 : tF} {jo u lo hi : Int32} {nh mt : Nat → Nat} {c1 i1 : Nat} {wt : wT} {gd : Nat → Prop} (h : WLV (vF F) jo u lo hi nh mt c1 i1 wt gd) (hv : vF F1 = vF F) (h1 : F1 (53 + c1) 4 = jo) (h2 : F1 80 6 = u) (h3 : F1 80 7 = lo) (h4 : F1 80 8 = hi) : WLK F1 nh mt c1 i1 wt gd := by
  subst h1 h2 h3 h4
  unfold WLK
  rw [hv]
  exact h
theorem MI.c {wt : wT} {N : Nat} {m m1 : Nat → Int32} (h : MI wt N m) (e : m1 = m) : MI wt N m1 := by rw [e]; exact h
/-- the mark of the next place -/
theorem mk_nx {wt : wT} {rk : Nat → Nat → Nat} {N : Nat} (hS : WS wt rk N) {m : Nat → Int32} (hM : MI wt N m) {h0 : Nat} (hh0 : h0 ≤ 100) (hf : pr wt 0 h0 < 100000) (hs0 : wt.2.2 0 = true ∨ ¬ m (101 * 0 + h0) = -1) : ∀ i, i ≤ wlen wt h0 → wt.2.2 (sts wt h0 i).1 = true ∨ ¬ m (101 * (sts wt h0 i).1 + (sts wt h0 i).2) = -1
  | 0, _ => hs0
  | i + 1, hi => by
    have ih := mk_nx hS hM hh0 hf hs0 i (by omega)
    obtain ⟨h1, h2, h3, h4⟩ := sts_inv hS hh0 hf i (by omega)
    have ht : ¬ wt.2.2 (sts wt h0 i).1 = true := fun q => by have := (sts_nt hS hh0 hf (by omega)).mp q; omega
    obtain ⟨q1, q2, q3, q4⟩ := hM _ _ h1 h2 (ih.resolve_left ht)
    rcases nxt_k hS h1 h2 ht h3 with ⟨a, b, c⟩ | ⟨a, b, c⟩
    · simp only [sts, show ¬ nxt wt (sts wt h0 i).1 (sts wt h0 i).2 = 8 by omega, if_false]
      exact q3 _ b
    · simp only [sts, a, if_true]
      exact Or.inr (q4 b)
theorem sts_8 {wt : wT} {h0 i : Nat} (h : nxt wt (sts wt h0 i).1 (sts wt h0 i).2 = 8) : sts wt h0 (i + 1) = ((sts wt h0 i).1, 0) := by simp only [sts, h, if_true]
theorem sts_n {wt : wT} {h0 i : Nat} (h : ¬ nxt wt (sts wt h0 i).1 (sts wt h0 i).2 = 8) : sts wt h0 (i + 1) = (nxt wt (sts wt h0 i).1 (sts wt h0 i).2 + 1, wt.2.1 (sts wt h0 i).1 (sts wt h0 i).2 (nxt wt (sts wt h0 i).1 (sts wt h0 i).2)) := by simp only [sts, h, if_false]
theorem stp_1 {wt : wT} {h0 i : Nat} {F1 F2 : tF} (h : ∀ j, j < i → F1 82 j = nI (stp wt h0 j)) (e : ∀ j, j < i → F2 82 j = F1 82 j) (e2 : F2 82 i = nI (stp wt h0 i)) : ∀ j, j < i + 1 → F2 82 j = nI (stp wt h0 j) := by
  intro j hj
  by_cases q : j = i
  · subst q; exact e2
  · rw [e j (by omega)]; exact h j (by omega)
/-- what a search leaves as it was -/
def AG4 (F F1 : tF) : Prop := ∀ k, k ≠ 79 → k ≠ 80 → k ≠ 81 → k ≠ 82 → F1 k = F k
theorem AG4.rf {F : tF} : AG4 F F := fun _ _ _ _ _ => rfl
theorem AG4.tr {F F1 F2 : tF} (h : AG4 F F1) (h2 : AG4 F1 F2) : AG4 F F2 := fun k a b c d => (h2 k a b c d).trans (h k a b c d)
theorem AG4.v {F F1 : tF} (h : AG4 F F1) : vF F1 = vF F := vF_ag (fun k hk => h k (by omega) (by omega) (by omega) (by omega))
theorem AG4.KW {F F1 : tF} (h : AG4 F F1) : KW F F1 := ⟨fun k hk => h k (by omega) (by omega) (by omega) (by omega), fun i hi => by rw [h _ (by omega) (by omega) (by omega) (by omega)], fun i hi => by rw [h _ (by omega) (by omega) (by omega) (by omega)], h _ (by omega) (by omega) (by omega) (by omega), h _ (by omega) (by omega) (by omega) (by omega)⟩
/-- the search's references -/
def AP (nc : Nat) (P P1 : tP) : Prop := P1 = P ∨ ∃ c i : Nat, c < nc ∧ i < 4 ∧ P1 = uP (uP P 80 4 (some (53 + c))) 80 5 (some (12 + i))
theorem uP_o (P : tP) {k z : Nat} (j : Nat) (v : Option Nat) (h : z ≠ k) : uP P k j v z = P z := by simp [uP, h]
theorem RC.w80 {X : List Nat} {P : tP} {nh : Nat → Nat} {nc no : Nat} {mt om : Nat → Nat} (h : RC X P nh nc no mt om) (a b : Option Nat) : RC X (uP (uP P 80 4 a) 80 5 b) nh nc no mt om := by
  have e : ∀ k, k ≠ 80 → uP (uP P 80 4 a) 80 5 b k = P k := fun k hk => (uP_o _ _ _ hk).trans (uP_o _ _ _ hk)
  have e2 : ∀ j, j < 4 → uP (uP P 80 4 a) 80 5 b 80 j = P 80 j := fun j hj => (uP_n _ _ (Or.inr (by omega))).trans (uP_n _ _ (Or.inr (by omega)))
  obtain ⟨h1, ⟨a1, a2, a3, a4, a5⟩, ⟨b1, b2, b3⟩, ⟨c1, c2⟩, ⟨d1, d2, d3, d4, d5, d6, d7⟩, h6⟩ := h
  have k16 := h6.2.1
  have k6 := h6.2.2.1
  refine ⟨h1, ⟨fun j hj => ?_, fun i hi => ?_, fun i hi => ?_, fun i hi => ?_, fun i hi => ?_⟩, ⟨fun i j hi hj => ?_, fun c hc => ?_, fun o ho => ?_⟩, ⟨fun c hc => ?_, fun o ho => ?_⟩, ⟨?_, ?_, ?_, ?_, ?_, ?_, fun j hj => ?_⟩, h6⟩
  · rw [e 0 (by decide)]; exact a1 j hj
  · rw [e 2 (by decide)]; exact a2 i hi
  · rw [e 7 (by decide)]; exact a3 i hi
  · rw [e 11 (by decide)]; exact a4 i hi
  · rw [e _ (by omega)]; exact a5 i hi
  · rw [e _ (by omega)]; exact b1 i j hi hj
  · rw [e 52 (by decide)]; exact b2 c hc
  · rw [e 69 (by decide)]; exact b3 o ho
  · rw [e _ (by omega)]; exact c1 c hc
  · rw [e _ (by omega)]; exact c2 o ho
  · rw [e 76 (by decide)]; exact d1
  · rw [e 76 (by decide)]; exact d2
  · rw [e 79 (by decide)]; exact d3
  · rw [e2 0 (by decide)]; exact d4
  · rw [e2 1 (by decide)]; exact d5
  · rw [e2 2 (by decide)]; exact d6
  · rw [e 83 (by decide)]; exact d7 j hj
theorem RC.ap {X : List Nat} {P P1 : tP} {nh : Nat → Nat} {nc no : Nat} {mt om : Nat → Nat} (h : RC X P nh nc no mt om) (ha : AP nc P P1) : RC X P1 nh nc no mt om := by
  rcases ha with rfl | ⟨c, i, -, -, rfl⟩
  · exact h
  · exact h.w80 _ _
set_option maxHeartbeats 4000000 in
set_option maxRecDepth 100000 in
theorem c_X9_laySteps (E : cE) (tt : Nat × Nat × Nat) {X : List Nat} (B : Nat → Nat) (F : tF) (G : tG) {P : tP} {nh : Nat → Nat} {nc no : Nat} {mt om : Nat → Nat} (hR : RC X P nh nc no mt om) {c1 i1 : Nat} (hl_c1 : c1 < nc) (hi1 : i1 < 4) (hwi : P 80 4 = some (53 + c1)) (hpl : P 80 5 = some (12 + i1)) {rk : Nat → Nat → Nat} {wt : wT} {gd : Nat → Prop} (hS : WS wt rk (nh i1)) (hL : WLK F nh mt c1 i1 wt gd) (hMI : MI wt (nh i1) (F 81)) (hg0 : gd 0) {h0 : Nat} (hh0 : h0 ≤ 100) (hf : pr wt 0 h0 < 100000) (hs0 : wt.2.2 0 = true ∨ ¬ F 81 (101 * 0 + h0) = -1) (hl0 : F 80 3 = 0)  : CT E tt yX9_laySteps cX9_laySteps 8 none 4 0 0 [.ref (B (80)), .int (nI h0), .int (nI (wlen wt h0))] (wl E X B F G P) (fun r w => r = none ∧ ∃ F1 : tF, AG2 F F1 ∧ F1 80 3 = nI (wlen wt h0) ∧ (∀ j, j < wlen wt h0 → F1 82 j = nI (stp wt h0 j)) ∧ w = wl E X B F1 G P) := by
  refine CT.mk (by decide +kernel) (Nat.le_of_ble_eq_true rfl) ?_
  intro l p e s m below meth c A ls C hr hlk hnm hw hl
  have hx := C.1
  have hb := C.2.1
  have hts := C.2.2.2.2
  have hown : s.vm.findClass RX9 = some m.cls := C.2.2.2.1
  have hl : lv_has ls 8 [(0, .ref (B (80))), (1, .int (nI h0)), (2, .int (nI (wlen wt h0)))] := hl
  have hn16 := hR.nc16
  have h8 := hR.nh8 hi1
  have hw17 : wlen wt h0 ≤ 17 := by have := (pr_b hS (Nat.zero_le _) hh0).2.1; unfold wlen; omega
  refine lv_iconst (v := 0) hx hb dX9_laySteps_0 (by decide) ?_
  refine lv_istore_n (lv' := [(3, .int (0)), (0, .ref (B (80))), (1, .int (nI h0)), (2, .int (nI (wlen wt h0)))]) hx hb dX9_laySteps_1 rfl hl (by decide) rfl (fun ls hl => ?_)
  refine lv_iload_n hx hb dX9_laySteps_2 rfl (lv_at hl 2 rfl) ?_
  refine lv_istore (lv' := [(4, .int (nI h0)), (3, .int (0)), (0, .ref (B (80))), (1, .int (nI h0)), (2, .int (nI (wlen wt h0)))]) hx hb dX9_laySteps_3 hl (by decide) rfl (fun ls hl => ?_)
  refine lv_iconst (v := 0) hx hb dX9_laySteps_5 (by decide) ?_
  refine lv_istore (lv' := [(5, .int (0)), (4, .int (nI h0)), (3, .int (0)), (0, .ref (B (80))), (1, .int (nI h0)), (2, .int (nI (wlen wt h0)))]) hx hb dX9_laySteps_6 hl (by decide) rfl (fun ls hl => ?_)
  have lo_a : ∀ (n : Nat) (i : Nat) (F1 : tF) (H : Heap) (locs : List Loc) (ls : Array Slot), wlen wt h0 - i < n → (i ≤ wlen wt h0) → (AG2 F F1) → (F1 81 = F 81) → (F1 80 3 = nI i) → (∀ j, j < i → F1 82 j = nI (stp wt h0 j)) → Wd E tt A s (wl E X B F1 G P) H locs → lv_has ls 8 [(0, .ref (B (80))), (1, .int (nI h0)), (2, .int (nI (wlen wt h0))), (3, .int (nI ((sts wt h0 i).1))), (4, .int (nI ((sts wt h0 i).2))), (5, .int (nI i))] → W p l e (rmO 4 0 0) s m ([.ref (B (80)), .int (nI h0), .int (nI (wlen wt h0))] : List Value).toArray below meth c H locs 0 0 (MQ below (Fin0 E (fun r w => r = none ∧ ∃ F1 : tF, AG2 F F1 ∧ F1 80 3 = nI (wlen wt h0) ∧ (∀ j, j < wlen wt h0 → F1 82 j = nI (stp wt h0 j)) ∧ w = wl E X B F1 G P) A) ([.ref (B (80)), .int (nI h0), .int (nI (wlen wt h0))] : List Value).toArray s 0 0 A) (F0 m 8 ls []) := by
    intro n
    induction n with
    | zero =>
      intro i F1 H locs ls hi_2
      exact absurd hi_2 (Nat.not_lt_zero _)
    | succ n ih_a =>
      intro i F1 H locs ls hj_a hi hA h81 hlen hst hw hl
      obtain ⟨hp, hh, hf1, hsum⟩ := sts_inv hS hh0 hf i hi
      have hL1 := hL.mv (by omega) hA
      have hmk := mk_nx hS hMI hh0 hf hs0 i hi
      refine lv_iload hx hb dX9_laySteps_8 (lv_at hl 5 rfl) ?_
      refine lv_iload_n hx hb dX9_laySteps_10 rfl (lv_at hl 2 rfl) ?_
      refine lv_icmp_ge (tgt := 122) hx hb dX9_laySteps_11 (by decide) (fun c_11 => ?_) (fun c_11 => ?_)
      · have hiw : i = wlen wt h0 := by have := (nI_leI (by omega) (by omega)).mp c_11; omega
        subst hiw
        exact r_v C hr hlk hw ⟨rfl, F1, hA, hlen, hst, rfl⟩ dX9_laySteps_122
      · have hiw : i < wlen wt h0 := by rcases Nat.lt_or_ge i (wlen wt h0) with h9 | h9; exact h9; exact absurd ((nI_leI (by omega) (by omega)).mpr h9) c_11
        have hnt : ¬ wt.2.2 (sts wt h0 i).1 = true := fun h9 => by have := (sts_nt hS hh0 hf hi).mp h9; omega
        have hla := (lsA_cases wt (pr wt) (sts wt h0 i).1 (sts wt h0 i).2).1
        have hst8 : stp wt h0 i ≤ 8 := nxt_le _ _ _
        refine lv_iload hx hb dX9_laySteps_14 (lv_at hl 5 rfl) ?_
        refine lv_aload_n hx hb dX9_laySteps_16 rfl (lv_at hl 0 rfl) ?_
        refine g_r 2 (k2 := 82) C hw (hR.f rfl) rfl fl_X9_15 rfl hR.q82 dX9_laySteps_17 ?_
        refine a_n (v := 17) C hw (hR.f rfl) (by decide) (by decide) rfl dX9_laySteps_20 ?_
        refine lv_icmp_ge (tgt := 122) hx hb dX9_laySteps_21 (by decide) (fun c_21 => ?_) (fun c_21 => ?_)
        · exact absurd ((nI_leI (a := 17) (by decide) (by omega)).mp c_21) (by omega)
        · refine lv_iload_n hx hb dX9_laySteps_24 rfl (lv_at hl 3 rfl) ?_
          refine lv_bipush (v := 101) hx hb dX9_laySteps_25 (by decide) ?_
          refine lv_imul hx hb dX9_laySteps_27 ?_
          refine lv_iload hx hb dX9_laySteps_28 (lv_at hl 4 rfl) ?_
          refine lv_iadd hx hb dX9_laySteps_30 ?_
          refine tp_i (y := nI (101 * (sts wt h0 i).1 + (sts wt h0 i).2)) (by rw [show (101 : Int32) = nI 101 from rfl, pk_mul, nI_add, Nat.mul_comm]) ?_
          refine lv_istore (lv' := [(6, .int (nI (101 * (sts wt h0 i).1 + (sts wt h0 i).2))), (0, .ref (B (80))), (1, .int (nI h0)), (2, .int (nI (wlen wt h0))), (3, .int (nI ((sts wt h0 i).1))), (4, .int (nI ((sts wt h0 i).2))), (5, .int (nI i))]) hx hb dX9_laySteps_31 hl (by decide) rfl (fun ls hl => ?_)
          refine lv_iload hx hb dX9_laySteps_33 (lv_at hl 0 rfl) ?_
          refine lv_if_lt (tgt := 48) hx hb dX9_laySteps_35 (by decide) (fun c_35 => ?_) (fun c_35 => ?_)
          · exact absurd c_35 (nI_pos (by omega))
          · refine lv_iload hx hb dX9_laySteps_38 (lv_at hl 0 rfl) ?_
            refine lv_aload_n hx hb dX9_laySteps_40 rfl (lv_at hl 1 rfl) ?_
            refine g_r 1 (k2 := 81) C hw (hR.f rfl) rfl fl_X9_11 rfl hR.q81 dX9_laySteps_41 ?_
            refine a_n (v := 909) C hw (hR.f rfl) (by decide) (by decide) rfl dX9_laySteps_44 ?_
            refine lv_icmp_lt (tgt := 49) hx hb dX9_laySteps_45 (by decide) (fun c_45 => ?_) (fun c_45 => ?_)
            · refine lv_aload_n hx hb dX9_laySteps_49 rfl (lv_at hl 1 rfl) ?_
              refine g_r 1 (k2 := 81) C hw (hR.f rfl) rfl fl_X9_11 rfl hR.q81 dX9_laySteps_50 ?_
              refine lv_iload hx hb dX9_laySteps_53 (lv_at hl 0 rfl) ?_
              refine n_i (101 * (sts wt h0 i).1 + (sts wt h0 i).2) C hw (hR.f rfl) rfl rfl (show _ < 909 by omega) dX9_laySteps_55 ?_
              refine tp_i (y := nI (lsA wt (pr wt) ((sts wt h0 i).1) ((sts wt h0 i).2))) (by rw [h81]; exact (hMI _ _ hp hh (hmk.resolve_left hnt)).2.1) ?_
              refine lv_bipush (v := 9) hx hb dX9_laySteps_56 (by decide) ?_
              refine lv_irem hx hb dX9_laySteps_58 (by decide) ?_
              refine tp_i (y := nI (stp wt h0 i)) (pk_rem (d := 9) (by omega) (by decide) (by decide)) ?_
              refine lv_istore (lv' := [(7, .int (nI (stp wt h0 i))), (6, .int (nI (101 * (sts wt h0 i).1 + (sts wt h0 i).2))), (0, .ref (B (80))), (1, .int (nI h0)), (2, .int (nI (wlen wt h0))), (3, .int (nI ((sts wt h0 i).1))), (4, .int (nI ((sts wt h0 i).2))), (5, .int (nI i))]) hx hb dX9_laySteps_59 hl (by decide) rfl (fun ls hl => ?_)
              refine lv_aload_n hx hb dX9_laySteps_61 rfl (lv_at hl 2 rfl) ?_
              refine g_r 2 (k2 := 82) C hw (hR.f rfl) rfl fl_X9_15 rfl hR.q82 dX9_laySteps_62 ?_
              refine lv_iload hx hb dX9_laySteps_65 (lv_at hl 7 rfl) ?_
              refine lv_iload hx hb dX9_laySteps_67 (lv_at hl 0 rfl) ?_
              refine t_i i C hw (hR.f rfl) rfl rfl (show _ < 17 by omega) dX9_laySteps_69 (fun H locs hw => ?_)
              refine lv_aload_n hx hb dX9_laySteps_70 rfl (lv_at hl 2 rfl) ?_
              refine lv_iload hx hb dX9_laySteps_71 (lv_at hl 7 rfl) ?_
              refine lv_iconst (v := 1) hx hb dX9_laySteps_73 (by decide) ?_
              refine lv_iadd hx hb dX9_laySteps_74 ?_
              refine tp_i (y := nI (i + 1)) (nI_1 _) ?_
              refine p_i 3 C hw (hR.f rfl) rfl fl_X9_22 fc_9 fn_9_3 (fun h9 => by cases h9) rfl rfl rfl dX9_laySteps_75 (fun H locs hw => ?_)
              have hA2 : AG2 F (uF (uF F1 82 i (nI (stp wt h0 i))) 80 3 (nI (i + 1))) := ⟨fun k a b c d => (uF_o _ _ _ b).trans ((uF_o _ _ _ d).trans (hA.1 k a b c d)), fun j hj => (uF_n _ _ (Or.inr (by omega))).trans ((uF_n _ _ (Or.inl (by decide))).trans (hA.2 j hj))⟩
              have h81b : (uF (uF F1 82 i (nI (stp wt h0 i))) 80 3 (nI (i + 1))) 81 = F 81 := (uF_o _ _ _ (by decide)).trans ((uF_o _ _ _ (by decide)).trans h81)
              have hlen2 : (uF (uF F1 82 i (nI (stp wt h0 i))) 80 3 (nI (i + 1))) 80 3 = nI (i + 1) := uF_s _ _ _ _
              have hst2 : ∀ j, j < i + 1 → (uF (uF F1 82 i (nI (stp wt h0 i))) 80 3 (nI (i + 1))) 82 j = nI (stp wt h0 j) := stp_1 hst (fun j hj => (uF_n _ _ (Or.inl (by decide))).trans (uF_n _ _ (Or.inr (by omega)))) ((uF_n _ _ (Or.inl (by decide))).trans (uF_s _ _ _ _))
              have hL2 := hL.mv (by omega) hA2
              refine lv_iload hx hb dX9_laySteps_78 (lv_at hl 0 rfl) ?_
              refine lv_bipush (v := 8) hx hb dX9_laySteps_80 (by decide) ?_
              refine lv_icmp_ne (tgt := 89) hx hb dX9_laySteps_82 (by decide) (fun c_82 => ?_) (fun c_82 => ?_)
              · have hn8 : ¬ nxt wt (sts wt h0 i).1 (sts wt h0 i).2 = 8 := fun h9 => c_82 (by rw [stp, h9]; rfl)
                refine lv_aload_n hx hb dX9_laySteps_89 rfl (lv_at hl 2 rfl) ?_
                refine lv_iload_n hx hb dX9_laySteps_90 rfl (lv_at hl 5 rfl) ?_
                refine lv_iload hx hb dX9_laySteps_91 (lv_at hl 6 rfl) ?_
                refine lv_iload hx hb dX9_laySteps_93 (lv_at hl 0 rfl) ?_
                refine kV C hw (c_X9_hb E tt B (uF (uF F1 82 i (nI (stp wt h0 i))) 80 3 (nI (i + 1))) G hR hl_c1 hi1 hwi hpl hL2 (pl := (sts wt h0 i).1) (h := (sts wt h0 i).2) (n := stp wt h0 i) hp hh (by have := nxt_le wt (sts wt h0 i).1 (sts wt h0 i).2; show nxt wt _ _ < 8; omega) (sts_gd hS hL.2.2.2 hg0 hh0 hf i hi)) vy_X9_hardnessBehind ml_X9_57 (rcv hw (hR.f rfl) rfl (by decide) (q2 := (RX9, TX9, 9)) rfl) rfl hl.1 (rest := []) rfl dX9_laySteps_95 (Nat.le_of_ble_eq_true rfl) ⟨by decide, by decide⟩ ⟨Nat.le_of_ble_eq_true rfl, Nat.le_of_ble_eq_true rfl⟩ (fun v_95 ws_95 H locs hp_95 hq_95 => ?_)
                clear hw
                rcases hp_95 with ⟨h_95, rfl, F_95, hF_95, rfl⟩ | ⟨h_95, rfl, F_95, hF_95, rfl⟩
                · have hw := hq_95
                  refine W.eq (g2 := F0 m 98 ls [.int (nI (wt.2.1 ((sts wt h0 i).1) ((sts wt h0 i).2) (stp wt h0 i)))]) rfl ?_
                  refine lv_istore (lv' := [(4, .int (nI (wt.2.1 ((sts wt h0 i).1) ((sts wt h0 i).2) (stp wt h0 i)))), (7, .int (nI (stp wt h0 i))), (6, .int (nI (101 * (sts wt h0 i).1 + (sts wt h0 i).2))), (0, .ref (B (80))), (1, .int (nI h0)), (2, .int (nI (wlen wt h0))), (3, .int (nI ((sts wt h0 i).1))), (5, .int (nI i))]) hx hb dX9_laySteps_98 hl (by decide) rfl (fun ls hl => ?_)
                  refine lv_iload hx hb dX9_laySteps_100 (lv_at hl 1 rfl) ?_
                  refine lv_bipush (v := 8) hx hb dX9_laySteps_102 (by decide) ?_
                  refine lv_icmp_ne (tgt := 111) hx hb dX9_laySteps_104 (by decide) (fun c_104 => ?_) (fun c_104 => ?_)
                  · refine lv_iload hx hb dX9_laySteps_111 (lv_at hl 1 rfl) ?_
                    refine lv_iconst (v := 1) hx hb dX9_laySteps_113 (by decide) ?_
                    refine lv_iadd hx hb dX9_laySteps_114 ?_
                    refine tp_i (y := nI (stp wt h0 i + 1)) (nI_1 _) ?_
                    refine lv_istore_n (lv' := [(3, .int (nI (stp wt h0 i + 1))), (4, .int (nI (wt.2.1 ((sts wt h0 i).1) ((sts wt h0 i).2) (stp wt h0 i)))), (7, .int (nI (stp wt h0 i))), (6, .int (nI (101 * (sts wt h0 i).1 + (sts wt h0 i).2))), (0, .ref (B (80))), (1, .int (nI h0)), (2, .int (nI (wlen wt h0))), (5, .int (nI i))]) hx hb dX9_laySteps_115 rfl hl (by decide) rfl (fun ls hl => ?_)
                    have hl : lv_has ls 8 [(3, .int (nI ((sts wt h0 (i + 1)).1))), (4, .int (nI ((sts wt h0 (i + 1)).2))), (7, .int (nI (stp wt h0 i))), (6, .int (nI (101 * (sts wt h0 i).1 + (sts wt h0 i).2))), (0, .ref (B (80))), (1, .int (nI h0)), (2, .int (nI (wlen wt h0))), (5, .int (nI i))] := by rw [sts_n hn8]; exact hl
                    refine lv_iinc (v := nI (i + 1)) (lv' := [(5, .int (nI (i + 1))), (3, .int (nI ((sts wt h0 (i + 1)).1))), (4, .int (nI ((sts wt h0 (i + 1)).2))), (7, .int (nI (stp wt h0 i))), (6, .int (nI (101 * (sts wt h0 i).1 + (sts wt h0 i).2))), (0, .ref (B (80))), (1, .int (nI h0)), (2, .int (nI (wlen wt h0)))]) hx hb dX9_laySteps_116 hl (k := 7) rfl (nI_1 _) (by decide) rfl (fun ls hl => ?_)
                    refine lv_goto (tgt := 8) hx hb dX9_laySteps_119 (by decide) ?_
                    exact ih_a (i + 1) F_95 _ _ _ (by omega) (by omega) (hA2.tr (AG1.d AG1.rf hF_95).to2) ((hF_95 81 (by decide)).trans h81b) ((congrFun (hF_95 80 (by decide)) 3).trans hlen2) (fun j hj => (congrFun (hF_95 82 (by decide)) j).trans (hst2 j hj)) hw (lv_sub hl [5, 6, 7, 1, 2, 0] rfl)
                  · exact absurd c_104 c_82
                · have hw := hq_95
                  refine W.eq (g2 := F0 m 98 ls [.int (-1)]) rfl ?_
                  have hkk := nxt_k hS hp hh hnt hf1
                  exact absurd (hkk.elim (fun h9 => h9.2.1) (fun h9 => absurd h9.1 hn8)) h_95
              · have hn8 : nxt wt (sts wt h0 i).1 (sts wt h0 i).2 = 8 := (nI_eq (a := stp wt h0 i) (b := 8) (by omega) (by decide)).mp c_82
                refine lv_iconst (v := 0) hx hb dX9_laySteps_85 (by decide) ?_
                refine lv_goto (tgt := 98) hx hb dX9_laySteps_86 (by decide) ?_
                refine lv_istore (lv' := [(4, .int (0)), (7, .int (nI (stp wt h0 i))), (6, .int (nI (101 * (sts wt h0 i).1 + (sts wt h0 i).2))), (0, .ref (B (80))), (1, .int (nI h0)), (2, .int (nI (wlen wt h0))), (3, .int (nI ((sts wt h0 i).1))), (5, .int (nI i))]) hx hb dX9_laySteps_98 hl (by decide) rfl (fun ls hl => ?_)
                refine lv_iload hx hb dX9_laySteps_100 (lv_at hl 1 rfl) ?_
                refine lv_bipush (v := 8) hx hb dX9_laySteps_102 (by decide) ?_
                refine lv_icmp_ne (tgt := 111) hx hb dX9_laySteps_104 (by decide) (fun c_104 => ?_) (fun c_104 => ?_)
                · exact absurd c_82 c_104
                · refine lv_iload_n hx hb dX9_laySteps_107 rfl (lv_at hl 6 rfl) ?_
                  refine lv_goto (tgt := 115) hx hb dX9_laySteps_108 (by decide) ?_
                  refine lv_istore_n (lv' := [(3, .int (nI ((sts wt h0 i).1))), (4, .int (0)), (7, .int (nI (stp wt h0 i))), (6, .int (nI (101 * (sts wt h0 i).1 + (sts wt h0 i).2))), (0, .ref (B (80))), (1, .int (nI h0)), (2, .int (nI (wlen wt h0))), (5, .int (nI i))]) hx hb dX9_laySteps_115 rfl hl (by decide) rfl (fun ls hl => ?_)
                  have hl : lv_has ls 8 [(3, .int (nI ((sts wt h0 (i + 1)).1))), (4, .int (nI ((sts wt h0 (i + 1)).2))), (7, .int (nI (stp wt h0 i))), (6, .int (nI (101 * (sts wt h0 i).1 + (sts wt h0 i).2))), (0, .ref (B (80))), (1, .int (nI h0)), (2, .int (nI (wlen wt h0))), (5, .int (nI i))] := by rw [sts_8 hn8]; exact hl
                  refine lv_iinc (v := nI (i + 1)) (lv' := [(5, .int (nI (i + 1))), (3, .int (nI ((sts wt h0 (i + 1)).1))), (4, .int (nI ((sts wt h0 (i + 1)).2))), (7, .int (nI (stp wt h0 i))), (6, .int (nI (101 * (sts wt h0 i).1 + (sts wt h0 i).2))), (0, .ref (B (80))), (1, .int (nI h0)), (2, .int (nI (wlen wt h0)))]) hx hb dX9_laySteps_116 hl (k := 7) rfl (nI_1 _) (by decide) rfl (fun ls hl => ?_)
                  refine lv_goto (tgt := 8) hx hb dX9_laySteps_119 (by decide) ?_
                  exact ih_a (i + 1) (uF (uF F1 82 i (nI (stp wt h0 i))) 80 3 (nI (i + 1))) _ _ _ (by omega) (by omega) hA2 h81b hlen2 hst2 hw (lv_sub hl [5, 6, 7, 1, 2, 0] rfl)
            · exact absurd (nI_lt (b := 909) (by omega) (by decide)) c_45
  exact lo_a _ 0 F _ _ _ (Nat.lt_succ_self _) (Nat.zero_le _) ⟨fun _ _ _ _ _ => rfl, fun _ _ => rfl⟩ rfl hl0 (fun j hj => absurd hj (Nat.not_lt_zero j)) hw (lv_sub hl [3, 4, 5, 2, 1, 0] rfl)

set_option maxHeartbeats 4000000 in
set_option maxRecDepth 100000 in
theorem c_X9_seek (E : cE) (tt : Nat × Nat × Nat) {X : List Nat} (B : Nat → Nat) (F : tF) (G : tG) {P : tP} {nh : Nat → Nat} {nc no : Nat} {mt om : Nat → Nat} (hR : RC X P nh nc no mt om) {c1 i1 : Nat} (hl_c1 : c1 < nc) (hi1 : i1 < 4) (u0 lo hi : Int32) {rk : Nat → Nat → Nat} {wt : wT} {gd : Nat → Prop} (hS : WS wt rk (nh i1)) (hV : WLV (vF F) (F (53 + c1) 4) u0 lo hi nh mt c1 i1 wt gd) (hg0 : gd 0) {h0 : Nat} (hh0 : h0 ≤ 100) (hhd : F (53 + c1) 2 = nI h0)  : CT E tt yX9_seek cX9_seek 7 (some .int) 23 0 0 [.ref (B (80)), .ref (B (53 + c1)), .ref (B (12 + i1)), .int (u0), .int (lo), .int (hi)] (wl E X B F G P) (fun r w => (pr wt 0 h0 < 100000 ∧ r = some (.int (nI (pr wt 0 h0))) ∧ ∃ F1 : tF, AG4 F F1 ∧ F1 80 3 = nI (wlen wt h0) ∧ (∀ j, j < wlen wt h0 → F1 82 j = nI (stp wt h0 j)) ∧ w = wl E X B F1 G (uP (uP P 80 4 (some (53 + c1))) 80 5 (some (12 + i1)))) ∨ (¬ pr wt 0 h0 < 100000 ∧ r = some (.int (-1)) ∧ ∃ F1 : tF, AG4 F F1 ∧ w = wl E X B F1 G (uP (uP P 80 4 (some (53 + c1))) 80 5 (some (12 + i1))))) := by
  refine CT.mk (by decide +kernel) (Nat.le_of_ble_eq_true rfl) ?_
  intro l p e s m below meth c A ls C hr hlk hnm hw hl
  have hx := C.1
  have hb := C.2.1
  have hts := C.2.2.2.2
  have hown : s.vm.findClass RX9 = some m.cls := C.2.2.2.1
  have hl : lv_has ls 7 [(0, .ref (B (80))), (1, .ref (B (53 + c1))), (2, .ref (B (12 + i1))), (3, .int (u0)), (4, .int (lo)), (5, .int (hi))] := hl
  have hn16 := hR.nc16
  have h8 := hR.nh8 hi1
  have hpb := pr_b hS (pl := 0) (Nat.zero_le _) hh0
  refine lv_aload_n hx hb dX9_seek_0 rfl (lv_at hl 0 rfl) ?_
  refine lv_aload_n hx hb dX9_seek_1 rfl (lv_at hl 1 rfl) ?_
  refine p_r 4 C hw (hR.f rfl) rfl fl_X9_26 fc_9 fn_9_4 (fun h9 => by cases h9) rfl (fun _ => rfl) (fun _ => rfl) dX9_seek_2 (fun H locs hw => ?_)
  refine lv_aload_n hx hb dX9_seek_5 rfl (lv_at hl 0 rfl) ?_
  refine lv_aload_n hx hb dX9_seek_6 rfl (lv_at hl 2 rfl) ?_
  refine p_r 5 C hw (hR.f rfl) rfl fl_X9_30 fc_9 fn_9_5 (fun h9 => by cases h9) rfl (fun _ => rfl) (fun _ => rfl) dX9_seek_7 (fun H locs hw => ?_)
  have hR := hR.w80 (some (53 + c1)) (some (12 + i1))
  have hwi : uP (uP P 80 4 (some (53 + c1))) 80 5 (some (12 + i1)) 80 4 = some (53 + c1) := (uP_n _ _ (Or.inr (by decide))).trans (uP_s _ _ _ _)
  have hpl : uP (uP P 80 4 (some (53 + c1))) 80 5 (some (12 + i1)) 80 5 = some (12 + i1) := uP_s _ _ _ _
  refine lv_aload_n hx hb dX9_seek_10 rfl (lv_at hl 0 rfl) ?_
  refine lv_iload_n hx hb dX9_seek_11 rfl (lv_at hl 3 rfl) ?_
  refine p_i 6 C hw (hR.f rfl) rfl fl_X9_34 fc_9 fn_9_6 (fun h9 => by cases h9) rfl rfl rfl dX9_seek_12 (fun H locs hw => ?_)
  refine lv_aload_n hx hb dX9_seek_15 rfl (lv_at hl 0 rfl) ?_
  refine lv_iload hx hb dX9_seek_16 (lv_at hl 4 rfl) ?_
  refine p_i 7 C hw (hR.f rfl) rfl fl_X9_37 fc_9 fn_9_7 (fun h9 => by cases h9) rfl rfl rfl dX9_seek_18 (fun H locs hw => ?_)
  refine lv_aload_n hx hb dX9_seek_21 rfl (lv_at hl 0 rfl) ?_
  refine lv_iload hx hb dX9_seek_22 (lv_at hl 5 rfl) ?_
  refine p_i 8 C hw (hR.f rfl) rfl fl_X9_40 fc_9 fn_9_8 (fun h9 => by cases h9) rfl rfl rfl dX9_seek_24 (fun H locs hw => ?_)
  refine lv_aload_n hx hb dX9_seek_27 rfl (lv_at hl 0 rfl) ?_
  refine lv_iconst (v := 0) hx hb dX9_seek_28 (by decide) ?_
  refine p_i 3 C hw (hR.f rfl) rfl fl_X9_22 fc_9 fn_9_3 (fun h9 => by cases h9) rfl rfl rfl dX9_seek_29 (fun H locs hw => ?_)
  refine lv_iconst (v := 0) hx hb dX9_seek_32 (by decide) ?_
  refine lv_istore (lv' := [(6, .int (0)), (0, .ref (B (80))), (1, .ref (B (53 + c1))), (2, .ref (B (12 + i1))), (3, .int (u0)), (4, .int (lo)), (5, .int (hi))]) hx hb dX9_seek_33 hl (by decide) rfl (fun ls hl => ?_)
  have lo_a : ∀ (n : Nat) (i : Nat) (F1 : tF) (H : Heap) (locs : List Loc) (ls : Array Slot), 909 - i < n → (i ≤ 909) → (∀ k, k ≠ 81 → F1 k = (uF (uF (uF (uF F 80 6 u0) 80 7 lo) 80 8 hi) 80 3 0) k) → (∀ j, j < i → F1 81 j = -1) → Wd E tt A s (wl E X B F1 G (uP (uP P 80 4 (some (53 + c1))) 80 5 (some (12 + i1)))) H locs → lv_has ls 7 [(0, .ref (B (80))), (1, .ref (B (53 + c1))), (2, .ref (B (12 + i1))), (3, .int (u0)), (4, .int (lo)), (5, .int (hi)), (6, .int (nI i))] → W p l e (rmO 23 0 0) s m ([.ref (B (80)), .ref (B (53 + c1)), .ref (B (12 + i1)), .int (u0), .int (lo), .int (hi)] : List Value).toArray below meth c H locs 0 0 (MQ below (Fin0 E (fun r w => (pr wt 0 h0 < 100000 ∧ r = some (.int (nI (pr wt 0 h0))) ∧ ∃ F1 : tF, AG4 F F1 ∧ F1 80 3 = nI (wlen wt h0) ∧ (∀ j, j < wlen wt h0 → F1 82 j = nI (stp wt h0 j)) ∧ w = wl E X B F1 G (uP (uP P 80 4 (some (53 + c1))) 80 5 (some (12 + i1)))) ∨ (¬ pr wt 0 h0 < 100000 ∧ r = some (.int (-1)) ∧ ∃ F1 : tF, AG4 F F1 ∧ w = wl E X B F1 G (uP (uP P 80 4 (some (53 + c1))) 80 5 (some (12 + i1))))) A) ([.ref (B (80)), .ref (B (53 + c1)), .ref (B (12 + i1)), .int (u0), .int (lo), .int (hi)] : List Value).toArray s 0 0 A) (F0 m 35 ls []) := by
    intro n
    induction n with
    | zero =>
      intro i F1 H locs ls hi_2
      exact absurd hi_2 (Nat.not_lt_zero _)
    | succ n ih_a =>
      intro i F1 H locs ls hj_a hi_ hc hm hw hl
      refine lv_iload hx hb dX9_seek_35 (lv_at hl 6 rfl) ?_
      refine lv_aload_n hx hb dX9_seek_37 rfl (lv_at hl 0 rfl) ?_
      refine g_r 1 (k2 := 81) C hw (hR.f rfl) rfl fl_X9_11 rfl hR.q81 dX9_seek_38 ?_
      refine a_n (v := 909) C hw (hR.f rfl) (by decide) (by decide) rfl dX9_seek_41 ?_
      refine lv_icmp_ge (tgt := 59) hx hb dX9_seek_42 (by decide) (fun c_42 => ?_) (fun c_42 => ?_)
      · have hi9 : i = 909 := by have := (nI_leI (a := 909) (by decide) (by omega)).mp c_42; omega
        subst hi9
        have hag : AG4 F F1 := fun k a b c d => (hc k c).trans ((uF_o _ _ _ b).trans ((uF_o _ _ _ b).trans ((uF_o _ _ _ b).trans (uF_o _ _ _ b))))
        have h80 := hc 80 (by decide)
        have hL : WLK F1 nh mt c1 i1 wt gd := hV.k hag.v (by rw [hag _ (by omega) (by omega) (by omega) (by omega)]) (by rw [h80]; simp [uF, upd]) (by rw [h80]; simp [uF, upd]) (by rw [h80]; simp [uF, upd])
        have hMI : MI wt (nh i1) (F1 81) := fun pl h hp hh h9 => absurd (hm _ (by omega)) h9
        refine lv_aload_n hx hb dX9_seek_59 rfl (lv_at hl 0 rfl) ?_
        refine lv_iconst (v := 0) hx hb dX9_seek_60 (by decide) ?_
        refine lv_aload_n hx hb dX9_seek_61 rfl (lv_at hl 1 rfl) ?_
        refine g_i 2 C hw (hR.xc (by omega)) (kd_coil (by omega)) fl_X9_43 rfl dX9_seek_62 ?_
        refine tp_i (y := nI h0) ((congrFun (hag _ (by omega) (by omega) (by omega) (by omega)) 2).trans hhd) ?_
        refine lv_iconst (v := 0) hx hb dX9_seek_65 (by decide) ?_
        refine kV C hw (c_X9_priceFrom E tt B G hR hl_c1 hi1 hwi hpl hS 18 F1 0 h0 0 hL hMI hg0 (Nat.zero_le _) hh0 (by have := hS.2.2.2 0 h0; omega) (by have := hS.2.2.2 0 h0; omega)) vy_X9_priceFrom ml_X9_48 (rcv hw (hR.f rfl) rfl (by decide) (q2 := (RX9, TX9, 9)) rfl) rfl hl.1 (rest := []) rfl dX9_seek_66 (Nat.le_of_ble_eq_true rfl) ⟨by decide, by decide⟩ ⟨Nat.le_of_ble_eq_true rfl, Nat.le_of_ble_eq_true rfl⟩ (fun v_66 ws_66 H locs hp_66 hq_66 => ?_)
        clear hw
        obtain ⟨rfl, F_66, hF_66, hM_66, hJ_66, hs_66, rfl⟩ := hp_66
        have hw := hq_66
        refine W.eq (g2 := F0 m 69 ls [.int (nI (pr wt 0 h0))]) rfl ?_
        have hag6 : AG4 F F_66 := hag.tr (fun k a b c d => hF_66 k a c)
        have hL3 := hL.mv (by omega) hF_66.to2
        have hl03 : F_66 80 3 = 0 := by rw [hF_66 80 (by decide) (by decide), h80]; simp [uF, upd]
        refine lv_istore (lv' := [(6, .int (nI (pr wt 0 h0))), (0, .ref (B (80))), (1, .ref (B (53 + c1))), (2, .ref (B (12 + i1))), (3, .int (u0)), (4, .int (lo)), (5, .int (hi))]) hx hb dX9_seek_69 hl (by decide) rfl (fun ls hl => ?_)
        refine lv_iload hx hb dX9_seek_71 (lv_at hl 0 rfl) ?_
        refine lv_ldc (v := 100000) hx hb hown (hts _ kc_X9_52) dX9_seek_73 ?_
        refine lv_icmp_lt (tgt := 80) hx hb dX9_seek_75 (by decide) (fun c_75 => ?_) (fun c_75 => ?_)
        · have hlt : pr wt 0 h0 < 100000 := (nI_ltI (b := 100000) (by omega) (by decide)).mp c_75
          refine lv_aload_n hx hb dX9_seek_80 rfl (lv_at hl 1 rfl) ?_
          refine lv_aload_n hx hb dX9_seek_81 rfl (lv_at hl 2 rfl) ?_
          refine g_i 2 C hw (hR.xc (by omega)) (kd_coil (by omega)) fl_X9_43 rfl dX9_seek_82 ?_
          refine tp_i (y := nI h0) ((congrFun (hag6 _ (by omega) (by omega) (by omega) (by omega)) 2).trans hhd) ?_
          refine lv_iload hx hb dX9_seek_85 (lv_at hl 0 rfl) ?_
          refine lv_bipush (v := 100) hx hb dX9_seek_87 (by decide) ?_
          refine lv_idiv hx hb dX9_seek_89 (by decide) ?_
          refine tp_i (y := nI (pr wt 0 h0 / 100)) (pk_div (d := 100) (by omega) (by decide) (by decide)) ?_
          refine lv_iload hx hb dX9_seek_90 (lv_at hl 0 rfl) ?_
          refine lv_bipush (v := 100) hx hb dX9_seek_92 (by decide) ?_
          refine lv_irem hx hb dX9_seek_94 (by decide) ?_
          refine tp_i (y := nI (pr wt 0 h0 % 100)) (pk_rem (d := 100) (by omega) (by decide) (by decide)) ?_
          refine lv_iadd hx hb dX9_seek_95 ?_
          refine tp_i (y := nI (wlen wt h0)) (nI_add _ _) ?_
          refine kV C hw (c_X9_laySteps E tt B F_66 G hR hl_c1 hi1 hwi hpl hS (hL3) hM_66 hg0 (h0 := h0) hh0 hlt hs_66 hl03) vy_X9_laySteps ml_X9_53 (rcv hw (hR.f rfl) rfl (by decide) (q2 := (RX9, TX9, 9)) rfl) rfl hl.1 (rest := []) rfl dX9_seek_96 (Nat.le_of_ble_eq_true rfl) ⟨by decide, by decide⟩ ⟨Nat.le_of_ble_eq_true rfl, Nat.le_of_ble_eq_true rfl⟩ (fun v_96 ws_96 H locs hp_96 hq_96 => ?_)
          clear hw
          obtain ⟨rfl, F_96, hA_96, hlen_96, hst_96, rfl⟩ := hp_96
          have hw := hq_96
          refine W.eq (g2 := F0 m 99 ls []) rfl ?_
          refine lv_iload hx hb dX9_seek_99 (lv_at hl 0 rfl) ?_
          exact r_i C hr hlk hw (Or.inl ⟨hlt, rfl, F_96, hag6.tr (fun k a b c d => hA_96.1 k a b c d), hlen_96, hst_96, rfl⟩) dX9_seek_101
        · have hlt : ¬ pr wt 0 h0 < 100000 := fun h9 => c_75 (nI_lt (b := 100000) h9 (by decide))
          refine lv_iconst (v := -1) hx hb dX9_seek_78 (by decide) ?_
          exact r_i C hr hlk hw (Or.inr ⟨hlt, rfl, F_66, hag6, rfl⟩) dX9_seek_79
      · have hi9 : i < 909 := by rcases Nat.lt_or_ge i 909 with h9 | h9; exact h9; exact absurd ((nI_leI (a := 909) (by decide) (by omega)).mpr h9) c_42
        refine lv_aload_n hx hb dX9_seek_45 rfl (lv_at hl 0 rfl) ?_
        refine g_r 1 (k2 := 81) C hw (hR.f rfl) rfl fl_X9_11 rfl hR.q81 dX9_seek_46 ?_
        refine lv_iload hx hb dX9_seek_49 (lv_at hl 6 rfl) ?_
        refine lv_iconst (v := -1) hx hb dX9_seek_51 (by decide) ?_
        refine t_i i C hw (hR.f rfl) rfl rfl (show _ < 909 by omega) dX9_seek_52 (fun H locs hw => ?_)
        refine lv_iinc (v := nI (i + 1)) (lv' := [(6, .int (nI (i + 1))), (0, .ref (B (80))), (1, .ref (B (53 + c1))), (2, .ref (B (12 + i1))), (3, .int (u0)), (4, .int (lo)), (5, .int (hi))]) hx hb dX9_seek_53 hl (k := 6) rfl (nI_1 _) (by decide) rfl (fun ls hl => ?_)
        refine lv_goto (tgt := 35) hx hb dX9_seek_56 (by decide) ?_
        exact ih_a (i + 1) (uF F1 81 i (-1)) _ _ _ (by omega) (by omega) (fun k hk => (uF_o _ _ _ hk).trans (hc k hk)) (fun j hj => by by_cases q : j = i; rw [q, uF_s]; rw [uF_n _ _ (Or.inr q)]; exact hm j (by omega)) hw (lv_sub hl [1, 2, 3, 4, 5, 6, 0] rfl)
  exact lo_a _ 0 (uF (uF (uF (uF F 80 6 u0) 80 7 lo) 80 8 hi) 80 3 0) _ _ _ (Nat.lt_succ_self _) (by omega) (fun _ _ => rfl) (fun j hj => absurd hj (Nat.not_lt_zero j)) hw (lv_sub hl [1, 2, 3, 4, 5, 6, 0] rfl)
