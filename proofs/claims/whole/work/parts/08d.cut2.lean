/-! cuttings of the class: ranks, the best one -/
def gvN (R N : Nat → Nat) (t mo s : Nat) : Nat := if (s &&& t) = t ∧ ¬ R (s ^^^ t) = 2147483647 then min (N s) (R (s ^^^ t) + mo) else N s
theorem BR_b {q : CP} {P : (Nat → Nat) → Prop} {v : Nat} (hP : ∀ b, P b → Vd q b) (h : BR P v) : v = 2147483647 ∨ v < 500000000 := by
  rcases h with ⟨h, -⟩ | ⟨b, h1, h2, -⟩
  · exact Or.inl h
  · have := rkA_lt (hP b h1)
    omega
theorem CHm_or {q : CP} {i m s : Nat} (b : Nat → Nat) : (CHm q i m 0 s b ∨ (CH q (i + 1) s b ∧ enI b i = m)) ↔ CHm q i (m + 1) 0 s b := by
  unfold CHm
  constructor
  · rintro (⟨h1, h2⟩ | ⟨h1, h2⟩)
    · exact ⟨h1, by omega⟩
    · exact ⟨h1, by omega⟩
  · rintro ⟨h1, h2⟩
    by_cases e : enI b i = m
    · exact Or.inr ⟨h1, e⟩
    · exact Or.inl ⟨h1, by omega⟩
theorem give_ok {q : CP} {i m : Nat} {R N : Nat → Nat} (hi : i < 16) (hm : m < 64) (h0 : ¬ m = 0) (hop : ∀ o, o < 6 → m.testBit o = true → q.2.2 i o = true) (hf : fsS q m ≤ q.2.1 i) (hR : ∀ s, s < 64 → BR (CH q i s) (R s)) (hN : ∀ s, s < 64 → BR (CHm q i m 0 s) (N s)) : ∀ s, s < 64 → BR (CHm q i (m + 1) 0 s) (gvN R N m (24137569 - (16 - i) * dsS m) s) := by
  intro s hs
  have hx := xor_lt hs hm
  have hb := BR_b (q := q) (fun b hb => hb.1.1) (hN s hs)
  have key : ∀ v', BR (fun b => CH q (i + 1) s b ∧ enI b i = m) v' → BR (CHm q i (m + 1) 0 s) (min (N s) v') := fun v' hv => ((hN s hs).or hv (fun b hb => rkA_lt hb.1.1) (fun b hb => rkA_lt hb.1.1)).cg CHm_or
  unfold gvN
  by_cases h1 : (s &&& m) = m
  · by_cases h2 : R (s ^^^ m) = 2147483647
    · rw [if_neg (fun h9 => h9.2 h2)]
      have := key _ (BR_t0 hi (by have := hR _ hx; rwa [h2] at this))
      rwa [show min (N s) 2147483647 = N s by omega] at this
    · rw [if_pos ⟨h1, h2⟩]
      obtain ⟨k1, k2⟩ := BR_t hi hm (hR _ hx) ((and_sub hs hm).mp h1) hop hf h0 h2
      have := key _ k2
      have hd : (16 - i) * dsS m ≤ 24137569 := by
        have e1 : dsS m ≤ 1508598 := by
          have := sumN_le (f := fun o => if m.testBit o = true then pw (o + 1) else 0) (g := fun o => pw (o + 1)) 6 (fun j _ => by
            show (if m.testBit j = true then pw (j + 1) else 0) ≤ pw (j + 1)
            split <;> omega)
          have e : sumN (fun o => pw (o + 1)) 6 = 1508598 := rfl
          unfold dsS
          omega
        have e2 : (16 - i) * dsS m ≤ 16 * 1508598 := Nat.mul_le_mul (by omega) e1
        omega
      rwa [show R (s ^^^ m) + 24137569 - (16 - i) * dsS m = R (s ^^^ m) + (24137569 - (16 - i) * dsS m) by omega] at this
  · rw [if_neg (fun h9 => h1 h9.1)]
    have := key _ (BR_tn hi (fun h9 => h1 ((and_sub hs hm).mpr h9.1)))
    rwa [show min (N s) 2147483647 = N s by omega] at this
theorem ds_b (m i : Nat) : dsS m ≤ 1508598 ∧ (16 - i) * dsS m ≤ 24137569 := by
  have e1 : dsS m ≤ 1508598 := by
    have := sumN_le (f := fun o => if m.testBit o = true then pw (o + 1) else 0) (g := fun o => pw (o + 1)) 6 (fun j _ => by
      show (if m.testBit j = true then pw (j + 1) else 0) ≤ pw (j + 1)
      split <;> omega)
    have e : sumN (fun o => pw (o + 1)) 6 = 1508598 := rfl
    unfold dsS
    omega
  have e2 : (16 - i) * dsS m ≤ 16 * 1508598 := Nat.mul_le_mul (by omega) e1
  exact ⟨e1, by omega⟩
theorem gv_lt {R N : Nat → Nat} {t mo s : Nat} (hs : s < 64) (ht : t < 64) (h : s < t) : gvN R N t mo s = N s := by
  unfold gvN
  rw [if_neg]
  rintro ⟨h1, -⟩
  have := sub_le hs ht ((and_sub hs ht).mp h1)
  omega
theorem CH_skip2 {q : CP} {i s : Nat} (hi : i < 16) (h : ∀ o, o < 6 → ¬ (q.2.2 i o = true ∧ q.1 o ≤ q.2.1 i)) (b : Nat → Nat) : CH q i s b ↔ CH q (i + 1) s b := by
  constructor
  · rintro ⟨h1, h2, h3⟩
    exact ⟨h1, fun o ho hb => by have := h2 o ho hb; omega, h3⟩
  · rintro ⟨h1, h2, h3⟩
    refine ⟨h1, fun o ho hb => ?_, h3⟩
    have h4 := h2 o ho hb
    have h5 := (h1.1 o ho).2 hb
    rcases (show b o < i ∨ b o = i by omega) with e | e
    · exact e
    · rw [e] at h5
      have h6 := sumN_ge (f := fun o => if b o = i then q.1 o else 0) 6 o ho
      have h7 : (if b o = i then q.1 o else 0) ≤ cf q.1 b i 6 := h6
      rw [if_pos e] at h7
      exact absurd ⟨h5, Nat.le_trans h7 (h1.2 i hi)⟩ (h o ho)
/-- a set that isn't open, or too long -/
theorem no_ok {q : CP} {i m op : Nat} (hop : ∀ o, o < 6 → (op.testBit o = true ↔ q.2.2 i o = true ∧ q.1 o ≤ q.2.1 i)) (h : ¬ ((∀ o, o < 6 → m.testBit o = true → op.testBit o = true) ∧ fsS q m ≤ q.2.1 i)) : ¬ ((∀ o, o < 6 → m.testBit o = true → q.2.2 i o = true) ∧ fsS q m ≤ q.2.1 i) := by
  rintro ⟨h1, h2⟩
  refine h ⟨fun o ho hb => (hop o ho).mpr ⟨h1 o ho hb, ?_⟩, h2⟩
  have h6 := sumN_ge (f := fun o => if m.testBit o = true then q.1 o else 0) 6 o ho
  have h7 : (if m.testBit o = true then q.1 o else 0) ≤ fsS q m := h6
  rw [if_pos hb] at h7
  omega
theorem BS_b {q : CP} {m f r : Nat} (h : BS q m f r) (hb : ∀ t, t < 64 → fsS q t < 2 ^ 31) : f < 2 ^ 31 ∧ r < 500000000 := by
  obtain ⟨a, a1, a2, a3, a4, -⟩ := h
  refine ⟨by rw [a3, tf_fs]; exact hb _ (enc_lt _), by rw [a4]; exact rkA_lt a1⟩
set_option maxHeartbeats 4000000 in
set_option maxRecDepth 100000 in
theorem c_X1_giveTo (E : cE) (tt : Nat × Nat × Nat) {X : List Nat} (B : Nat → Nat) (F : tF) (G : tG) {P : tP} {nh : Nat → Nat} {nc no : Nat} {mt om : Nat → Nat} (hR : RC X P nh nc no mt om) {R N : Nat → Nat} {t mo : Nat} (ht : t < 64) (hmo : mo ≤ 24137569) (h86 : ∀ s, s < 64 → F 86 s = nI (R s) ∧ (R s = 2147483647 ∨ R s < 500000000)) (h87 : ∀ s, s < 64 → F 87 s = nI (N s) ∧ N s ≤ 2147483647)  : CT E tt yX1_giveTo cX1_giveTo 5 none 1 0 0 [.ref (B (83)), .int (nI t), .int (nI mo)] (wl E X B F G P) (fun r w => r = none ∧ ∃ F1 : tF, (∀ k, k ≠ 87 → F1 k = F k) ∧ (∀ s, s < 64 → F1 87 s = nI (gvN R N t mo s)) ∧ w = wl E X B F1 G P) := by
  refine CT.mk (by decide +kernel) (Nat.le_of_ble_eq_true rfl) ?_
  intro l p e s m below meth c A ls C hr hlk hnm hw hl
  have hx := C.1
  have hb := C.2.1
  have hts := C.2.2.2.2
  have hown : s.vm.findClass RX1 = some m.cls := C.2.2.2.1
  have hl : lv_has ls 5 [(0, .ref (B (83))), (1, .int (nI t)), (2, .int (nI mo))] := hl
  refine lv_iload_n hx hb dX1_giveTo_0 rfl (lv_at hl 1 rfl) ?_
  refine lv_istore_n (lv' := [(3, .int (nI t)), (0, .ref (B (83))), (1, .int (nI t)), (2, .int (nI mo))]) hx hb dX1_giveTo_1 rfl hl (by decide) rfl (fun ls hl => ?_)
  have lo_a : ∀ (n : Nat) (s0 : Nat) (F1 : tF) (H : Heap) (locs : List Loc) (ls : Array Slot), 64 - s0 < n → (t ≤ s0 ∧ s0 ≤ 64) → (∀ k, k ≠ 87 → F1 k = F k) → (∀ s, s < 64 → F1 87 s = nI (if s < s0 then gvN R N t mo s else N s)) → Wd E tt A s (wl E X B F1 G P) H locs → lv_has ls 5 [(0, .ref (B (83))), (1, .int (nI t)), (2, .int (nI mo)), (3, .int (nI s0))] → W p l e (rmO 1 0 0) s m ([.ref (B (83)), .int (nI t), .int (nI mo)] : List Value).toArray below meth c H locs 0 0 (MQ below (Fin0 E (fun r w => r = none ∧ ∃ F1 : tF, (∀ k, k ≠ 87 → F1 k = F k) ∧ (∀ s, s < 64 → F1 87 s = nI (gvN R N t mo s)) ∧ w = wl E X B F1 G P) A) ([.ref (B (83)), .int (nI t), .int (nI mo)] : List Value).toArray s 0 0 A) (F0 m 2 ls []) := by
    intro n
    induction n with
    | zero =>
      intro s0 F1 H locs ls hi_2
      exact absurd hi_2 (Nat.not_lt_zero _)
    | succ n ih_a =>
      intro s0 F1 H locs ls hj_a hs hc hN hw hl
      refine lv_iload_n hx hb dX1_giveTo_2 rfl (lv_at hl 3 rfl) ?_
      refine lv_bipush (v := 64) hx hb dX1_giveTo_3 (by decide) ?_
      refine lv_icmp_ge (tgt := 77) hx hb dX1_giveTo_5 (by decide) (fun c_5 => ?_) (fun c_5 => ?_)
      · have hs6 : s0 = 64 := lp_eq (b := 64) (by decide) (by omega) c_5
        exact r_v C hr hlk hw ⟨rfl, F1, hc, (fun s hs9 => by rw [hN s hs9, if_pos (by omega)]), rfl⟩ dX1_giveTo_77
      · have hs6 : s0 < 64 := lp_lt (b := 64) (by decide) (by omega) c_5
        have hxl := xor_lt hs6 ht
        have haa := and_all ⟨s0, hs6⟩ ⟨t, ht⟩
        have hN0 := h87 s0 hs6
        have hR0 := h86 _ hxl
        refine lv_iload_n hx hb dX1_giveTo_8 rfl (lv_at hl 3 rfl) ?_
        refine lv_iload_n hx hb dX1_giveTo_9 rfl (lv_at hl 1 rfl) ?_
        refine lv_ixor hx hb dX1_giveTo_10 ?_
        refine tp_i (y := nI (s0 ^^^ t)) (haa.2.1) ?_
        refine lv_istore (lv' := [(4, .int (nI (s0 ^^^ t))), (0, .ref (B (83))), (1, .int (nI t)), (2, .int (nI mo)), (3, .int (nI s0))]) hx hb dX1_giveTo_11 hl (by decide) rfl (fun ls hl => ?_)
        refine lv_iload_n hx hb dX1_giveTo_13 rfl (lv_at hl 4 rfl) ?_
        refine lv_iload_n hx hb dX1_giveTo_14 rfl (lv_at hl 2 rfl) ?_
        refine lv_iand hx hb dX1_giveTo_15 ?_
        refine tp_i (y := nI (s0 &&& t)) (haa.1) ?_
        refine lv_iload_n hx hb dX1_giveTo_16 rfl (lv_at hl 2 rfl) ?_
        refine lv_icmp_ne (tgt := 71) hx hb dX1_giveTo_17 (by decide) (fun c_17 => ?_) (fun c_17 => ?_)
        · have hsub : ¬ (s0 &&& t) = t := fun h9 => c_17 (by rw [h9])
          refine lv_iinc (v := nI (s0 + 1)) (lv' := [(3, .int (nI (s0 + 1))), (4, .int (nI (s0 ^^^ t))), (0, .ref (B (83))), (1, .int (nI t)), (2, .int (nI mo))]) hx hb dX1_giveTo_71 hl (k := 4) rfl (nI_1 _) (by decide) rfl (fun ls hl => ?_)
          refine lv_goto (tgt := 2) hx hb dX1_giveTo_74 (by decide) ?_
          exact ih_a (s0 + 1) F1 _ _ _ (by omega) (by omega) hc (fun s hs => by by_cases e : s = s0; rw [e, hN s0 (by omega), if_neg (Nat.lt_irrefl s0), if_pos (Nat.lt_succ_self s0), gvN, if_neg (fun h9 => hsub h9.1)]; rw [hN s hs]; by_cases e2 : s < s0; rw [if_pos e2, if_pos (by omega)]; rw [if_neg e2, if_neg (by omega)]) hw (lv_sub hl [2, 3, 4, 0] rfl)
        · have hsub : (s0 &&& t) = t := (nI_eq (by have := haa.2.2.1; simp only at this; omega) (by omega)).mp c_17
          refine lv_iload hx hb dX1_giveTo_20 (lv_at hl 0 rfl) ?_
          refine lv_if_lt (tgt := 71) hx hb dX1_giveTo_22 (by decide) (fun c_22 => ?_) (fun c_22 => ?_)
          · exact absurd c_22 (nI_pos (by omega))
          · refine lv_iload hx hb dX1_giveTo_25 (lv_at hl 0 rfl) ?_
            refine lv_bipush (v := 64) hx hb dX1_giveTo_27 (by decide) ?_
            refine lv_icmp_ge (tgt := 71) hx hb dX1_giveTo_29 (by decide) (fun c_29 => ?_) (fun c_29 => ?_)
            · exact absurd ((nI_leI (a := 64) (by decide) (by omega)).mp c_29) (by omega)
            · refine lv_aload_n hx hb dX1_giveTo_32 rfl (lv_at hl 1 rfl) ?_
              refine g_r 2 (k2 := 86) C hw (hR.f rfl) rfl fl_X1_18 rfl (hR.q83 2 (by decide)) dX1_giveTo_33 ?_
              refine lv_iload hx hb dX1_giveTo_36 (lv_at hl 0 rfl) ?_
              refine n_i (s0 ^^^ t) C hw (hR.f rfl) rfl rfl (show _ < 64 by omega) dX1_giveTo_38 ?_
              refine tp_i (y := nI (R (s0 ^^^ t))) ((congrFun (hc 86 (by decide)) _).trans hR0.1) ?_
              refine lv_ldc (v := 2147483647) hx hb hown (hts _ kc_X1_33) dX1_giveTo_39 ?_
              refine lv_icmp_ne (tgt := 47) hx hb dX1_giveTo_41 (by decide) (fun c_41 => ?_) (fun c_41 => ?_)
              · have hnv : ¬ R (s0 ^^^ t) = 2147483647 := fun h9 => c_41 (by rw [h9]; rfl)
                refine lv_aload_n hx hb dX1_giveTo_47 rfl (lv_at hl 1 rfl) ?_
                refine g_r 3 (k2 := 87) C hw (hR.f rfl) rfl fl_X1_21 rfl (hR.q83 3 (by decide)) dX1_giveTo_48 ?_
                refine lv_iload_n hx hb dX1_giveTo_51 rfl (lv_at hl 4 rfl) ?_
                refine lv_aload_n hx hb dX1_giveTo_52 rfl (lv_at hl 1 rfl) ?_
                refine g_r 3 (k2 := 87) C hw (hR.f rfl) rfl fl_X1_21 rfl (hR.q83 3 (by decide)) dX1_giveTo_53 ?_
                refine lv_iload_n hx hb dX1_giveTo_56 rfl (lv_at hl 4 rfl) ?_
                refine n_i s0 C hw (hR.f rfl) rfl rfl (show _ < 64 by omega) dX1_giveTo_57 ?_
                refine tp_i (y := nI (N s0)) ((hN s0 hs6).trans (by rw [if_neg (Nat.lt_irrefl s0)])) ?_
                refine lv_aload_n hx hb dX1_giveTo_58 rfl (lv_at hl 1 rfl) ?_
                refine g_r 2 (k2 := 86) C hw (hR.f rfl) rfl fl_X1_18 rfl (hR.q83 2 (by decide)) dX1_giveTo_59 ?_
                refine lv_iload hx hb dX1_giveTo_62 (lv_at hl 0 rfl) ?_
                refine n_i (s0 ^^^ t) C hw (hR.f rfl) rfl rfl (show _ < 64 by omega) dX1_giveTo_64 ?_
                refine tp_i (y := nI (R (s0 ^^^ t))) ((congrFun (hc 86 (by decide)) _).trans hR0.1) ?_
                refine lv_iload_n hx hb dX1_giveTo_65 rfl (lv_at hl 3 rfl) ?_
                refine lv_iadd hx hb dX1_giveTo_66 ?_
                refine tp_i (y := nI (R (s0 ^^^ t) + mo)) (nI_add _ _) ?_
                refine va_mmin hx hb (C.2.2.1.trans hl.1.symm) hown (hts _ ml_X1_73) (hts _ mh_min_s) (hts _ in_J9) (hts _ mh_min_c) (Nat.le_of_ble_eq_true rfl) (Nat.le_of_ble_eq_true rfl) (Nat.le_of_ble_eq_true rfl) (Nat.le_of_ble_eq_true rfl) dX1_giveTo_67 ?_
                refine tp_i (y := nI (min (N s0) (R (s0 ^^^ t) + mo))) (min_nI (by omega) (by omega)) ?_
                refine t_i s0 C hw (hR.f rfl) rfl rfl (show _ < 64 by omega) dX1_giveTo_70 (fun H locs hw => ?_)
                refine lv_iinc (v := nI (s0 + 1)) (lv' := [(3, .int (nI (s0 + 1))), (4, .int (nI (s0 ^^^ t))), (0, .ref (B (83))), (1, .int (nI t)), (2, .int (nI mo))]) hx hb dX1_giveTo_71 hl (k := 4) rfl (nI_1 _) (by decide) rfl (fun ls hl => ?_)
                refine lv_goto (tgt := 2) hx hb dX1_giveTo_74 (by decide) ?_
                exact ih_a (s0 + 1) (uF F1 87 s0 (nI (min (N s0) (R (s0 ^^^ t) + mo)))) _ _ _ (by omega) (by omega) (fun k hk => (uF_o _ _ _ hk).trans (hc k hk)) (fun s hs => by by_cases e : s = s0; rw [e, uF_s, if_pos (Nat.lt_succ_self s0), gvN, if_pos ⟨hsub, hnv⟩]; rw [uF_n _ _ (Or.inr e), hN s hs]; by_cases e2 : s < s0; rw [if_pos e2, if_pos (by omega)]; rw [if_neg e2, if_neg (by omega)]) hw (lv_sub hl [2, 3, 4, 0] rfl)
              · have hnv : R (s0 ^^^ t) = 2147483647 := (nI_eq (b := 2147483647) (by omega) (by decide)).mp c_41
                refine lv_goto (tgt := 71) hx hb dX1_giveTo_44 (by decide) ?_
                refine lv_iinc (v := nI (s0 + 1)) (lv' := [(3, .int (nI (s0 + 1))), (4, .int (nI (s0 ^^^ t))), (0, .ref (B (83))), (1, .int (nI t)), (2, .int (nI mo))]) hx hb dX1_giveTo_71 hl (k := 4) rfl (nI_1 _) (by decide) rfl (fun ls hl => ?_)
                refine lv_goto (tgt := 2) hx hb dX1_giveTo_74 (by decide) ?_
                exact ih_a (s0 + 1) F1 _ _ _ (by omega) (by omega) hc (fun s hs => by by_cases e : s = s0; rw [e, hN s0 (by omega), if_neg (Nat.lt_irrefl s0), if_pos (Nat.lt_succ_self s0), gvN, if_neg (fun h9 => h9.2 hnv)]; rw [hN s hs]; by_cases e2 : s < s0; rw [if_pos e2, if_pos (by omega)]; rw [if_neg e2, if_neg (by omega)]) hw (lv_sub hl [2, 3, 4, 0] rfl)
  exact lo_a _ t F _ _ _ (Nat.lt_succ_self _) (by omega) (fun _ _ => rfl) (fun s hs => by rw [(h87 s hs).1]; by_cases e : s < t; rw [if_pos e, gv_lt hs ht e]; rw [if_neg e]) hw (lv_sub hl [1, 2, 3, 0] rfl)

set_option maxHeartbeats 4000000 in
set_option maxRecDepth 100000 in
theorem c_X1_offer (E : cE) (tt : Nat × Nat × Nat) {X : List Nat} (B : Nat → Nat) (F : tF) (G : tG) {P : tP} {nh : Nat → Nat} {nc no : Nat} {mt om : Nat → Nat} (hR : RC X P nh nc no mt om) {c1 : Nat} (hl_c1 : c1 < nc) (hd : ¬ (F (53 + c1) 1).toInt64 * (F (53 + c1) 1).toInt64 = 0) {q : CP} (hft : w_ft (G (53 + c1) 3) (F (53 + c1) 1) = nI (q.2.1 c1)) (hft2 : q.2.1 c1 < 2 ^ 31) (hop : (∀ o, o < 6 → (opC F G mt om no c1 o = true ↔ q.2.2 c1 o = true ∧ q.1 o ≤ q.2.1 c1))) (hfs : ∀ t, t < 64 → F 84 t = nI (fsS q t) ∧ F 85 t = nI (dsS t)) (hfsb : ∀ t, t < 64 → fsS q t < 2 ^ 31) {R : Nat → Nat} (h86r : ∀ s, s < 64 → F 86 s = nI (R s)) (hBR : ∀ s, s < 64 → BR (CH q c1 s) (R s))  : CT E tt yX1_offer cX1_offer 7 none 4 0 0 [.ref (B (83)), .ref (B (53 + c1)), .int (nI c1), .ref (B (69))] (wl E X B F G P) (fun r w => r = none ∧ ∃ (F1 : tF) (R1 : Nat → Nat), (∀ k, k ≠ 86 → k ≠ 87 → F1 k = F k) ∧ (∀ s, s < 64 → F1 86 s = nI (R1 s) ∧ BR (CH q (c1 + 1) s) (R1 s)) ∧ w = wl E X B F1 G P) := by
  refine CT.mk (by decide +kernel) (Nat.le_of_ble_eq_true rfl) ?_
  intro l p e s m below meth c A ls C hr hlk hnm hw hl
  have hx := C.1
  have hb := C.2.1
  have hts := C.2.2.2.2
  have hown : s.vm.findClass RX1 = some m.cls := C.2.2.2.1
  have hl : lv_has ls 7 [(0, .ref (B (83))), (1, .ref (B (53 + c1))), (2, .int (nI c1)), (3, .ref (B (69)))] := hl
  have hn16 := hR.nc16
  have h86 : ∀ s, s < 64 → F 86 s = nI (R s) ∧ (R s = 2147483647 ∨ R s < 500000000) := fun s hs => ⟨h86r s hs, BR_b (q := q) (fun b hb => hb.1) (hBR s hs)⟩
  have hop6 := enc_lt (opC F G mt om no c1)
  have hopE : ∀ o, o < 6 → ((enc (opC F G mt om no c1)).testBit o = true ↔ q.2.2 c1 o = true ∧ q.1 o ≤ q.2.1 c1) := fun o ho => by rw [enc_bt _ ho]; exact hop o ho
  refine lv_aload_n hx hb dX1_offer_0 rfl (lv_at hl 1 rfl) ?_
  refine lv_aload_n hx hb dX1_offer_1 rfl (lv_at hl 3 rfl) ?_
  refine kS C hw (c_X1_openTo E tt B F G hR (c1 := c1) hl_c1 hd) vy_X1_openTo ml_X1_61 rfl hl.1 (rest := []) rfl dX1_offer_2 (Nat.le_of_ble_eq_true rfl) ⟨by decide, by decide⟩ ⟨Nat.le_of_ble_eq_true rfl, Nat.le_of_ble_eq_true rfl⟩ (fun v_2 ws_2 H locs hp_2 hq_2 => ?_)
  clear hw
  obtain ⟨rfl, rfl⟩ := hp_2
  have hw := hq_2
  refine W.eq (g2 := F0 m 5 ls [.int (nI (enc (opC F G mt om no c1)))]) rfl ?_
  refine lv_istore (lv' := [(4, .int (nI (enc (opC F G mt om no c1)))), (0, .ref (B (83))), (1, .ref (B (53 + c1))), (2, .int (nI c1)), (3, .ref (B (69)))]) hx hb dX1_offer_5 hl (by decide) rfl (fun ls hl => ?_)
  refine lv_iload hx hb dX1_offer_7 (lv_at hl 0 rfl) ?_
  refine lv_if_ne (tgt := 13) hx hb dX1_offer_9 (by decide) (fun c_9 => ?_) (fun c_9 => ?_)
  · refine lv_aload_n hx hb dX1_offer_13 rfl (lv_at hl 2 rfl) ?_
    refine kV C hw (c_X0_feet E tt B F G P (hR.xc (by omega)) (kd_coil (by omega))  (hd)) vy_X0_feet ml_X1_65 (rcv hw (hR.xc (by omega)) (kd_coil (by omega)) (by decide) (q2 := (RX0, TX0, 7)) rfl) rfl hl.1 (rest := []) rfl dX1_offer_14 (Nat.le_of_ble_eq_true rfl) ⟨by decide, by decide⟩ ⟨Nat.le_of_ble_eq_true rfl, Nat.le_of_ble_eq_true rfl⟩ (fun v_14 ws_14 H locs hp_14 hq_14 => ?_)
    clear hw
    obtain ⟨rfl, rfl⟩ := hp_14
    have hw := hq_14
    refine W.eq (g2 := F0 m 17 ls [.int (w_ft (G (53 + c1) 3) (F (53 + c1) 1))]) rfl ?_
    refine tp_i (y := nI (q.2.1 c1)) (hft) ?_
    refine lv_istore (lv' := [(5, .int (nI (q.2.1 c1))), (4, .int (nI (enc (opC F G mt om no c1)))), (0, .ref (B (83))), (1, .ref (B (53 + c1))), (2, .int (nI c1)), (3, .ref (B (69)))]) hx hb dX1_offer_17 hl (by decide) rfl (fun ls hl => ?_)
    refine lv_iconst (v := 0) hx hb dX1_offer_19 (by decide) ?_
    refine lv_istore (lv' := [(6, .int (0)), (5, .int (nI (q.2.1 c1))), (4, .int (nI (enc (opC F G mt om no c1)))), (0, .ref (B (83))), (1, .ref (B (53 + c1))), (2, .int (nI c1)), (3, .ref (B (69)))]) hx hb dX1_offer_20 hl (by decide) rfl (fun ls hl => ?_)
    have lo_a : ∀ (n : Nat) (s0 : Nat) (F1 : tF) (H : Heap) (locs : List Loc) (ls : Array Slot), 64 - s0 < n → (s0 ≤ 64) → (∀ k, k ≠ 87 → F1 k = F k) → (∀ s, s < s0 → F1 87 s = nI (R s)) → Wd E tt A s (wl E X B F1 G P) H locs → lv_has ls 7 [(0, .ref (B (83))), (1, .ref (B (53 + c1))), (2, .int (nI c1)), (3, .ref (B (69))), (4, .int (nI (enc (opC F G mt om no c1)))), (5, .int (nI (q.2.1 c1))), (6, .int (nI s0))] → W p l e (rmO 4 0 0) s m ([.ref (B (83)), .ref (B (53 + c1)), .int (nI c1), .ref (B (69))] : List Value).toArray below meth c H locs 0 0 (MQ below (Fin0 E (fun r w => r = none ∧ ∃ (F1 : tF) (R1 : Nat → Nat), (∀ k, k ≠ 86 → k ≠ 87 → F1 k = F k) ∧ (∀ s, s < 64 → F1 86 s = nI (R1 s) ∧ BR (CH q (c1 + 1) s) (R1 s)) ∧ w = wl E X B F1 G P) A) ([.ref (B (83)), .ref (B (53 + c1)), .int (nI c1), .ref (B (69))] : List Value).toArray s 0 0 A) (F0 m 22 ls []) := by
      intro n
      induction n with
      | zero =>
        intro s0 F1 H locs ls hi_2
        exact absurd hi_2 (Nat.not_lt_zero _)
      | succ n ih_a =>
        intro s0 F1 H locs ls hj_a hs hc h87 hw hl
        refine lv_iload hx hb dX1_offer_22 (lv_at hl 6 rfl) ?_
        refine lv_bipush (v := 64) hx hb dX1_offer_24 (by decide) ?_
        refine lv_icmp_ge (tgt := 49) hx hb dX1_offer_26 (by decide) (fun c_26 => ?_) (fun c_26 => ?_)
        · have hs6 : s0 = 64 := lp_eq (b := 64) (by decide) (by omega) c_26
          refine lv_iconst (v := 1) hx hb dX1_offer_49 (by decide) ?_
          refine lv_istore (lv' := [(6, .int (1)), (0, .ref (B (83))), (1, .ref (B (53 + c1))), (2, .int (nI c1)), (3, .ref (B (69))), (4, .int (nI (enc (opC F G mt om no c1)))), (5, .int (nI (q.2.1 c1)))]) hx hb dX1_offer_50 hl (by decide) rfl (fun ls hl => ?_)
          have lo_b : ∀ (n : Nat) (mm : Nat) (F2 : tF) (N : Nat → Nat) (H : Heap) (locs : List Loc) (ls : Array Slot), 64 - mm < n → (1 ≤ mm ∧ mm ≤ 64) → (∀ k, k ≠ 87 → F2 k = F k) → (∀ s, s < 64 → F2 87 s = nI (N s) ∧ BR (CHm q c1 mm 0 s) (N s)) → Wd E tt A s (wl E X B F2 G P) H locs → lv_has ls 7 [(0, .ref (B (83))), (1, .ref (B (53 + c1))), (2, .int (nI c1)), (3, .ref (B (69))), (4, .int (nI (enc (opC F G mt om no c1)))), (5, .int (nI (q.2.1 c1))), (6, .int (nI mm))] → W p l e (rmO 4 0 0) s m ([.ref (B (83)), .ref (B (53 + c1)), .int (nI c1), .ref (B (69))] : List Value).toArray below meth c H locs 0 0 (MQ below (Fin0 E (fun r w => r = none ∧ ∃ (F1 : tF) (R1 : Nat → Nat), (∀ k, k ≠ 86 → k ≠ 87 → F1 k = F k) ∧ (∀ s, s < 64 → F1 86 s = nI (R1 s) ∧ BR (CH q (c1 + 1) s) (R1 s)) ∧ w = wl E X B F1 G P) A) ([.ref (B (83)), .ref (B (53 + c1)), .int (nI c1), .ref (B (69))] : List Value).toArray s 0 0 A) (F0 m 52 ls []) := by
            intro n
            induction n with
            | zero =>
              intro mm F2 N H locs ls hi_2
              exact absurd hi_2 (Nat.not_lt_zero _)
            | succ n ih_b =>
              intro mm F2 N H locs ls hj_b hm hc2 hN hw hl
              refine lv_iload hx hb dX1_offer_52 (lv_at hl 6 rfl) ?_
              refine lv_bipush (v := 64) hx hb dX1_offer_54 (by decide) ?_
              refine lv_icmp_ge (tgt := 111) hx hb dX1_offer_56 (by decide) (fun c_56 => ?_) (fun c_56 => ?_)
              · have hm6 : mm = 64 := lp_eq (b := 64) (by decide) (by omega) c_56
                refine lv_iconst (v := 0) hx hb dX1_offer_111 (by decide) ?_
                refine lv_istore (lv' := [(6, .int (0)), (0, .ref (B (83))), (1, .ref (B (53 + c1))), (2, .int (nI c1)), (3, .ref (B (69))), (4, .int (nI (enc (opC F G mt om no c1)))), (5, .int (nI (q.2.1 c1)))]) hx hb dX1_offer_112 hl (by decide) rfl (fun ls hl => ?_)
                have lo_d : ∀ (n : Nat) (s0 : Nat) (F3 : tF) (H : Heap) (locs : List Loc) (ls : Array Slot), 64 - s0 < n → (s0 ≤ 64) → (∀ k, k ≠ 86 → F3 k = F2 k) → (∀ s, s < s0 → F3 86 s = nI (N s)) → Wd E tt A s (wl E X B F3 G P) H locs → lv_has ls 7 [(0, .ref (B (83))), (1, .ref (B (53 + c1))), (2, .int (nI c1)), (3, .ref (B (69))), (6, .int (nI s0))] → W p l e (rmO 4 0 0) s m ([.ref (B (83)), .ref (B (53 + c1)), .int (nI c1), .ref (B (69))] : List Value).toArray below meth c H locs 0 0 (MQ below (Fin0 E (fun r w => r = none ∧ ∃ (F1 : tF) (R1 : Nat → Nat), (∀ k, k ≠ 86 → k ≠ 87 → F1 k = F k) ∧ (∀ s, s < 64 → F1 86 s = nI (R1 s) ∧ BR (CH q (c1 + 1) s) (R1 s)) ∧ w = wl E X B F1 G P) A) ([.ref (B (83)), .ref (B (53 + c1)), .int (nI c1), .ref (B (69))] : List Value).toArray s 0 0 A) (F0 m 114 ls []) := by
                  intro n
                  induction n with
                  | zero =>
                    intro s0 F3 H locs ls hi_2
                    exact absurd hi_2 (Nat.not_lt_zero _)
                  | succ n ih_d =>
                    intro s0 F3 H locs ls hj_d hs3 hc3 h863 hw hl
                    refine lv_iload hx hb dX1_offer_114 (lv_at hl 4 rfl) ?_
                    refine lv_bipush (v := 64) hx hb dX1_offer_116 (by decide) ?_
                    refine lv_icmp_ge (tgt := 141) hx hb dX1_offer_118 (by decide) (fun c_118 => ?_) (fun c_118 => ?_)
                    · have hs6 : s0 = 64 := lp_eq (b := 64) (by decide) (by omega) c_118
                      exact r_v C hr hlk hw ⟨rfl, F3, N, (fun k h1 h2 => (hc3 k h1).trans (hc2 k h2)), (fun s hs => ⟨h863 s (by omega), (by have h9 := (hN s hs).2; rw [hm6] at h9; exact h9.cg CHm_all)⟩), rfl⟩ dX1_offer_141
                    · have hs6 : s0 < 64 := lp_lt (b := 64) (by decide) (by omega) c_118
                      refine lv_aload_n hx hb dX1_offer_121 rfl (lv_at hl 0 rfl) ?_
                      refine g_r 2 (k2 := 86) C hw (hR.f rfl) rfl fl_X1_18 rfl (hR.q83 2 (by decide)) dX1_offer_122 ?_
                      refine lv_iload hx hb dX1_offer_125 (lv_at hl 4 rfl) ?_
                      refine lv_aload_n hx hb dX1_offer_127 rfl (lv_at hl 0 rfl) ?_
                      refine g_r 3 (k2 := 87) C hw (hR.f rfl) rfl fl_X1_21 rfl (hR.q83 3 (by decide)) dX1_offer_128 ?_
                      refine lv_iload hx hb dX1_offer_131 (lv_at hl 4 rfl) ?_
                      refine n_i s0 C hw (hR.f rfl) rfl rfl (show _ < 64 by omega) dX1_offer_133 ?_
                      refine tp_i (y := nI (N s0)) ((congrFun (hc3 87 (by decide)) s0).trans (hN s0 hs6).1) ?_
                      refine t_i s0 C hw (hR.f rfl) rfl rfl (show _ < 64 by omega) dX1_offer_134 (fun H locs hw => ?_)
                      refine lv_iinc (v := nI (s0 + 1)) (lv' := [(6, .int (nI (s0 + 1))), (0, .ref (B (83))), (1, .ref (B (53 + c1))), (2, .int (nI c1)), (3, .ref (B (69)))]) hx hb dX1_offer_135 hl (k := 4) rfl (nI_1 _) (by decide) rfl (fun ls hl => ?_)
                      refine lv_goto (tgt := 114) hx hb dX1_offer_138 (by decide) ?_
                      exact ih_d (s0 + 1) (uF F3 86 s0 (nI (N s0))) _ _ _ (by omega) (by omega) (fun k hk => (uF_o _ _ _ hk).trans (hc3 k hk)) (fun s hs => by by_cases e : s = s0; rw [e, uF_s]; rw [uF_n _ _ (Or.inr e)]; exact h863 s (by omega)) hw (lv_sub hl [1, 2, 3, 4, 0] rfl)
                exact lo_d _ 0 F2 _ _ _ (Nat.lt_succ_self _) (by omega) (fun _ _ => rfl) (fun s hs => absurd hs (Nat.not_lt_zero s)) hw (lv_sub hl [1, 2, 3, 4, 0] rfl)
              · have hm6 : mm < 64 := lp_lt (b := 64) (by decide) (by omega) c_56
                have haa := and_all ⟨enc (opC F G mt om no c1), hop6⟩ ⟨mm, hm6⟩
                have hfm := hfs mm hm6
                have hds := ds_b mm c1
                have hfb := hfsb mm hm6
                refine lv_iload hx hb dX1_offer_59 (lv_at hl 6 rfl) ?_
                refine lv_iload hx hb dX1_offer_61 (lv_at hl 4 rfl) ?_
                refine lv_iconst (v := -1) hx hb dX1_offer_63 (by decide) ?_
                refine lv_ixor hx hb dX1_offer_64 ?_
                refine lv_iand hx hb dX1_offer_65 ?_
                refine lv_if_ne (tgt := 105) hx hb dX1_offer_66 (by decide) (fun c_66 => ?_) (fun c_66 => ?_)
                · have hno : ¬ ((∀ o, o < 6 → mm.testBit o = true → (enc (opC F G mt om no c1)).testBit o = true) ∧ fsS q mm ≤ q.2.1 c1) := fun h9 => c_66 (haa.2.2.2.2.mpr (by rw [Nat.and_comm]; exact (and_sub hop6 hm6).mpr h9.1))
                  refine lv_iinc (v := nI (mm + 1)) (lv' := [(6, .int (nI (mm + 1))), (0, .ref (B (83))), (1, .ref (B (53 + c1))), (2, .int (nI c1)), (3, .ref (B (69))), (4, .int (nI (enc (opC F G mt om no c1)))), (5, .int (nI (q.2.1 c1)))]) hx hb dX1_offer_105 hl (k := 6) rfl (nI_1 _) (by decide) rfl (fun ls hl => ?_)
                  refine lv_goto (tgt := 52) hx hb dX1_offer_108 (by decide) ?_
                  exact ih_b (mm + 1) F2 N _ _ _ (by omega) (by omega) hc2 (fun s hs => ⟨(hN s hs).1, (hN s hs).2.cg (CHm_no (by omega) (no_ok hopE hno))⟩) hw (lv_sub hl [1, 2, 3, 4, 5, 6, 0] rfl)
                · have hsb : ∀ o, o < 6 → mm.testBit o = true → (enc (opC F G mt om no c1)).testBit o = true := (and_sub hop6 hm6).mp (by rw [Nat.and_comm]; exact haa.2.2.2.2.mp c_66)
                  refine lv_aload_n hx hb dX1_offer_69 rfl (lv_at hl 0 rfl) ?_
                  refine g_r 0 (k2 := 84) C hw (hR.f rfl) rfl fl_X1_11 rfl (hR.q83 0 (by decide)) dX1_offer_70 ?_
                  refine lv_iload hx hb dX1_offer_73 (lv_at hl 6 rfl) ?_
                  refine n_i mm C hw (hR.f rfl) rfl rfl (show _ < 64 by omega) dX1_offer_75 ?_
                  refine tp_i (y := nI (fsS q mm)) ((congrFun (hc2 84 (by decide)) mm).trans hfm.1) ?_
                  refine lv_iload hx hb dX1_offer_76 (lv_at hl 5 rfl) ?_
                  refine lv_icmp_le (tgt := 84) hx hb dX1_offer_78 (by decide) (fun c_78 => ?_) (fun c_78 => ?_)
                  · have hyes : (∀ o, o < 6 → mm.testBit o = true → (enc (opC F G mt om no c1)).testBit o = true) ∧ fsS q mm ≤ q.2.1 c1 := ⟨hsb, (nI_leI (by omega) (by omega)).mp c_78⟩
                    refine lv_aload_n hx hb dX1_offer_84 rfl (lv_at hl 0 rfl) ?_
                    refine lv_iload hx hb dX1_offer_85 (lv_at hl 6 rfl) ?_
                    refine lv_ldc (v := 24137569) hx hb hown (hts _ kc_X1_68) dX1_offer_87 ?_
                    refine lv_bipush (v := 16) hx hb dX1_offer_89 (by decide) ?_
                    refine lv_iload_n hx hb dX1_offer_91 rfl (lv_at hl 2 rfl) ?_
                    refine lv_isub hx hb dX1_offer_92 ?_
                    refine tp_i (y := nI (16 - c1)) (pk_sub (a := 16) (by omega)) ?_
                    refine lv_aload_n hx hb dX1_offer_93 rfl (lv_at hl 0 rfl) ?_
                    refine g_r 1 (k2 := 85) C hw (hR.f rfl) rfl fl_X1_15 rfl (hR.q83 1 (by decide)) dX1_offer_94 ?_
                    refine lv_iload hx hb dX1_offer_97 (lv_at hl 6 rfl) ?_
                    refine n_i mm C hw (hR.f rfl) rfl rfl (show _ < 64 by omega) dX1_offer_99 ?_
                    refine tp_i (y := nI (dsS mm)) ((congrFun (hc2 85 (by decide)) mm).trans hfm.2) ?_
                    refine lv_imul hx hb dX1_offer_100 ?_
                    refine tp_i (y := nI ((16 - c1) * dsS mm)) (pk_mul _ _) ?_
                    refine lv_isub hx hb dX1_offer_101 ?_
                    refine tp_i (y := nI (24137569 - (16 - c1) * dsS mm)) (pk_sub (a := 24137569) hds.2) ?_
                    refine kV C hw (c_X1_giveTo E tt B F2 G hR (R := R) (N := N) (t := mm) (mo := 24137569 - (16 - c1) * dsS mm) hm6 (by omega) (fun s hs => ⟨(congrFun (hc2 86 (by decide)) s).trans (h86 s hs).1, (h86 s hs).2⟩) (fun s hs => ⟨(hN s hs).1, by have := BR_b (q := q) (fun b hb => hb.1.1) (hN s hs).2; omega⟩)) vy_X1_giveTo ml_X1_69 (rcv hw (hR.f rfl) rfl (by decide) (q2 := (RX1, TX1, 6)) rfl) rfl hl.1 (rest := []) rfl dX1_offer_102 (Nat.le_of_ble_eq_true rfl) ⟨by decide, by decide⟩ ⟨Nat.le_of_ble_eq_true rfl, Nat.le_of_ble_eq_true rfl⟩ (fun v_102 ws_102 H locs hp_102 hq_102 => ?_)
                    clear hw
                    obtain ⟨rfl, F_102, hF_102, hG_102, rfl⟩ := hp_102
                    have hw := hq_102
                    refine W.eq (g2 := F0 m 105 ls []) rfl ?_
                    refine lv_iinc (v := nI (mm + 1)) (lv' := [(6, .int (nI (mm + 1))), (0, .ref (B (83))), (1, .ref (B (53 + c1))), (2, .int (nI c1)), (3, .ref (B (69))), (4, .int (nI (enc (opC F G mt om no c1)))), (5, .int (nI (q.2.1 c1)))]) hx hb dX1_offer_105 hl (k := 6) rfl (nI_1 _) (by decide) rfl (fun ls hl => ?_)
                    refine lv_goto (tgt := 52) hx hb dX1_offer_108 (by decide) ?_
                    exact ih_b (mm + 1) F_102 (gvN R N mm (24137569 - (16 - c1) * dsS mm)) _ _ _ (by omega) (by omega) (fun k hk => (hF_102 k hk).trans (hc2 k hk)) (fun s hs => ⟨hG_102 s hs, give_ok (by omega) hm6 (by omega) (fun o ho hb => ((hopE o ho).mp (hyes.1 o ho hb)).1) hyes.2 hBR (fun s hs => (hN s hs).2) s hs⟩) hw (lv_sub hl [1, 2, 3, 4, 5, 6, 0] rfl)
                  · have hno : ¬ ((∀ o, o < 6 → mm.testBit o = true → (enc (opC F G mt om no c1)).testBit o = true) ∧ fsS q mm ≤ q.2.1 c1) := fun h9 => c_78 (nI_le h9.2 (by omega))
                    refine lv_goto (tgt := 105) hx hb dX1_offer_81 (by decide) ?_
                    refine lv_iinc (v := nI (mm + 1)) (lv' := [(6, .int (nI (mm + 1))), (0, .ref (B (83))), (1, .ref (B (53 + c1))), (2, .int (nI c1)), (3, .ref (B (69))), (4, .int (nI (enc (opC F G mt om no c1)))), (5, .int (nI (q.2.1 c1)))]) hx hb dX1_offer_105 hl (k := 6) rfl (nI_1 _) (by decide) rfl (fun ls hl => ?_)
                    refine lv_goto (tgt := 52) hx hb dX1_offer_108 (by decide) ?_
                    exact ih_b (mm + 1) F2 N _ _ _ (by omega) (by omega) hc2 (fun s hs => ⟨(hN s hs).1, (hN s hs).2.cg (CHm_no (by omega) (no_ok hopE hno))⟩) hw (lv_sub hl [1, 2, 3, 4, 5, 6, 0] rfl)
          exact lo_b _ 1 F1 R _ _ _ (Nat.lt_succ_self _) (by omega) hc (fun s hs => ⟨h87 s (by omega), (hBR s hs).cg (CHm_1 (by omega))⟩) hw (lv_sub hl [1, 2, 3, 4, 5, 6, 0] rfl)
        · have hs6 : s0 < 64 := lp_lt (b := 64) (by decide) (by omega) c_26
          refine lv_aload_n hx hb dX1_offer_29 rfl (lv_at hl 0 rfl) ?_
          refine g_r 3 (k2 := 87) C hw (hR.f rfl) rfl fl_X1_21 rfl (hR.q83 3 (by decide)) dX1_offer_30 ?_
          refine lv_iload hx hb dX1_offer_33 (lv_at hl 6 rfl) ?_
          refine lv_aload_n hx hb dX1_offer_35 rfl (lv_at hl 0 rfl) ?_
          refine g_r 2 (k2 := 86) C hw (hR.f rfl) rfl fl_X1_18 rfl (hR.q83 2 (by decide)) dX1_offer_36 ?_
          refine lv_iload hx hb dX1_offer_39 (lv_at hl 6 rfl) ?_
          refine n_i s0 C hw (hR.f rfl) rfl rfl (show _ < 64 by omega) dX1_offer_41 ?_
          refine tp_i (y := nI (R s0)) ((congrFun (hc 86 (by decide)) s0).trans (h86 s0 hs6).1) ?_
          refine t_i s0 C hw (hR.f rfl) rfl rfl (show _ < 64 by omega) dX1_offer_42 (fun H locs hw => ?_)
          refine lv_iinc (v := nI (s0 + 1)) (lv' := [(6, .int (nI (s0 + 1))), (0, .ref (B (83))), (1, .ref (B (53 + c1))), (2, .int (nI c1)), (3, .ref (B (69))), (4, .int (nI (enc (opC F G mt om no c1)))), (5, .int (nI (q.2.1 c1)))]) hx hb dX1_offer_43 hl (k := 6) rfl (nI_1 _) (by decide) rfl (fun ls hl => ?_)
          refine lv_goto (tgt := 22) hx hb dX1_offer_46 (by decide) ?_
          exact ih_a (s0 + 1) (uF F1 87 s0 (nI (R s0))) _ _ _ (by omega) (by omega) (fun k hk => (uF_o _ _ _ hk).trans (hc k hk)) (fun s hs => by by_cases e : s = s0; rw [e, uF_s]; rw [uF_n _ _ (Or.inr e)]; exact h87 s (by omega)) hw (lv_sub hl [1, 2, 3, 4, 5, 6, 0] rfl)
    exact lo_a _ 0 F _ _ _ (Nat.lt_succ_self _) (by omega) (fun _ _ => rfl) (fun s hs => absurd hs (Nat.not_lt_zero s)) hw (lv_sub hl [3, 4, 5, 6, 2, 1, 0] rfl)
  · have hz : enc (opC F G mt om no c1) = 0 := (nI_eq (by omega) (by decide)).mp c_9
    exact r_v C hr hlk hw ⟨rfl, F, R, (fun _ _ _ => rfl), (fun s hs => ⟨h86r s hs, (hBR s hs).cg (CH_skip2 (by omega) (fun o ho h9 => by have := (hopE o ho).mpr h9; rw [hz, Nat.zero_testBit] at this; exact absurd this (by decide)))⟩), rfl⟩ dX1_offer_12
