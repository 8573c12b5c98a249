/-! THE LAW: the loop's head, what a case needs -/
abbrev lA (s : State) : Nat → Prop := fun q => s.heap.size ≤ q
section LAW
variable {p : Program} {l : Launch} {e : Env} {s : State} {m : MethodId} {below : List Frame} {meth : Method} {c : Code} {b L : Nat} {xs : Nat → Int32} {E : cE} {tt : Nat × Nat × Nat}
/-- with i ints read, at pc: class and reference agree so far -/
def LH (p : Program) (l : Launch) (e : Env) (s : State) (m : MethodId) (below : List Frame) (meth : Method) (c : Code) (b : Nat) (E : cE) (tt : Nat × Nat × Nat) (i pc : Nat) : Prop := ∀ (X : List Nat) (B : Nat → Nat) (F : tF) (G : tG) (P : tP) (nh : Nat → Nat) (nc no nn : Nat) (mt om : Nat → Nat) (H : Heap) (locs : List Loc) (ls : Array Slot), LI X F G P nh nc no nn mt om → Wd E tt (lA s) s (wl E X B F G P) H locs → lv_has ls 4 [(0, .ref b), (1, .ref (B 0)), (2, .ref (B 100)), (3, .int (nI i))] → W p l e room_1 s m #[Value.ref b] below meth c H locs (200 + i) (6000 + 7 * i) (lw_Z below #[Value.ref b] s) (F0 m pc ls [])
theorem LAc (C0 : lw_At p s m meth c b L xs) : Cx p s m #[Value.ref b] c cL_law 4 RL := ⟨C0.1, C0.2.1, C0.2.2.2.1, C0.2.2.2.2.1, fun w hw => C0.2.2.2.2.2.1 w (TT_sub hw)⟩
variable {X : List Nat} {B : Nat → Nat} {F : tF} {G : tG} {P : tP} {nh : Nat → Nat} {nc no nn : Nat} {mt om : Nat → Nat} {H : Heap} {locs : List Loc} {ls : Array Slot} {cells slots pc i : Nat} {Q : State → Prop} {st : List Value} {ws : va_W}
theorem la_arg (C0 : lw_At p s m meth c b L xs) (hw : Wd E tt (lA s) s ws H locs) (h0 : ls[0]? = some (.val (.ref b))) (h3 : ls[3]? = some (.val (.int (nI i)))) (hL : L ≤ 3584) (hi : i + 7 ≤ L) (k : Nat) (hk : k < 7) {z : Int} (hz : Int32.ofInt z = nI k)
    (d0 : decode cL_law pc = .ok (.aload_n 0, 1)) (d1 : decode cL_law (pc + 1) = .ok (.iload_n 3, 1)) (d2 : decode cL_law (pc + 1 + 1) = .ok (.iconst z, 1)) (d3 : decode cL_law (pc + 1 + 1 + 1) = .ok (.iadd, 1)) (d4 : decode cL_law (pc + 1 + 1 + 1 + 1) = .ok (.iaload, 1))
    (kk : W p l e room_1 s m #[Value.ref b] below meth c H locs cells slots Q (F0 m (pc + 1 + 1 + 1 + 1 + 1) ls (.int (xs (i + k)) :: st))) : W p l e room_1 s m #[Value.ref b] below meth c H locs cells slots Q (F0 m pc ls st) := by
  obtain ⟨hx, hb, hr, hml, hown, hts, hX, hbl, hlocks, hgv⟩ := C0
  have hbA : ¬ lA s b := Nat.not_le.mpr hbl
  refine lv_aload_n hx hb d0 rfl h0 ?_
  refine lv_iload_n hx hb d1 rfl h3 ?_
  refine lv_iconst hx hb d2 hz ?_
  refine lv_iadd hx hb d3 ?_
  rw [nI_add]
  refine va_sld hx hb hX hbl hbA hw.2.2.2.1 (vp_in_nI (show i + k < L by omega) (by omega)) d4 ?_
  rw [nI_clamp (by omega)]
  exact kk
theorem la_arg6 (C0 : lw_At p s m meth c b L xs) (hw : Wd E tt (lA s) s ws H locs) (h0 : ls[0]? = some (.val (.ref b))) (h3 : ls[3]? = some (.val (.int (nI i)))) (hL : L ≤ 3584) (hi : i + 7 ≤ L)
    (d0 : decode cL_law pc = .ok (.aload_n 0, 1)) (d1 : decode cL_law (pc + 1) = .ok (.iload_n 3, 1)) (d2 : decode cL_law (pc + 1 + 1) = .ok (.bipush 6, 2)) (d3 : decode cL_law (pc + 1 + 1 + 2) = .ok (.iadd, 1)) (d4 : decode cL_law (pc + 1 + 1 + 2 + 1) = .ok (.iaload, 1))
    (kk : W p l e room_1 s m #[Value.ref b] below meth c H locs cells slots Q (F0 m (pc + 1 + 1 + 2 + 1 + 1) ls (.int (xs (i + 6)) :: st))) : W p l e room_1 s m #[Value.ref b] below meth c H locs cells slots Q (F0 m pc ls st) := by
  obtain ⟨hx, hb, hr, hml, hown, hts, hX, hbl, hlocks, hgv⟩ := C0
  have hbA : ¬ lA s b := Nat.not_le.mpr hbl
  refine lv_aload_n hx hb d0 rfl h0 ?_
  refine lv_iload_n hx hb d1 rfl h3 ?_
  refine lv_bipush (v := nI 6) hx hb d2 (by decide) ?_
  refine lv_iadd hx hb d3 ?_
  rw [nI_add]
  refine va_sld hx hb hX hbl hbA hw.2.2.2.1 (vp_in_nI (show i + 6 < L by omega) (by omega)) d4 ?_
  rw [nI_clamp (by omega)]
  exact kk
theorem la_fin (C0 : lw_At p s m meth c b L xs) (hL : L ≤ 3584) (hi : i + 7 ≤ L) (K : LH p l e s m below meth c b E tt (i + 7) 18) (hI : LI X F G P nh nc no nn mt om) (hw : Wd E tt (lA s) s (wl E X B F G P) H locs) (hl : lv_has ls 4 [(0, .ref b), (1, .ref (B 0)), (2, .ref (B 100)), (3, .int (nI i))]) (hc : cells ≤ 207 + i) (hs : slots ≤ 6049 + 7 * i) : W p l e room_1 s m #[Value.ref b] below meth c H locs cells slots (lw_Z below #[Value.ref b] s) (F0 m 1370 ls []) := by
  have hx := C0.1
  have hb := C0.2.1
  refine W.widen (k := 200 + (i + 7)) (n := 6000 + 7 * (i + 7)) (by omega) (by omega) ?_
  refine lv_iinc (v := nI (i + 7)) (lv' := [(3, .int (nI (i + 7))), (0, .ref b), (1, .ref (B 0)), (2, .ref (B 100))]) hx hb dL_law_1370 hl (k := 3) rfl (by rw [← nI_add]; rfl) (by decide) rfl (fun ls hl => ?_)
  refine lv_goto (tgt := 18) hx hb dL_law_1373 (by decide) ?_
  exact K X B F G P nh nc no nn mt om H locs ls hI hw (lv_sub hl [1, 2, 3, 0] rfl)
end LAW
/-! THE LAW: what the reference's calls leave -/
section LEAVE
variable {F F1 : tF} {G G1 : tG} {nh : Nat → Nat} {nc no : Nat} {mt om : Nat → Nat}
theorem lo_metal (m b g l a c : Int32) : LO F (st_metal F m b g l a c) := by
  unfold st_metal
  split
  · exact ((((LO.rf.u (by omega)).u (by omega)).u (by omega)).u (by omega)).u (by omega)
  · exact LO.rf
theorem lo_set (w v : Int32) : LO F (st_set F w v) := by
  unfold st_set
  repeat' split
  all_goals first | exact LO.rf | exact LO.rf.u (by omega)
theorem lo_puller (m f v : Int32) : LO F (st_puller F m f v) := by
  unfold st_puller
  repeat' split
  all_goals first | exact LO.rf | exact (LO.rf.u (by omega)).u (by omega)
theorem lo_ream (p x b : Int32) : LO F (st_ream F nh p x b) := by
  unfold st_ream
  repeat' split
  all_goals first | exact LO.rf | exact ((LO.rf.u (by omega)).u (by omega)).u (by omega)
theorem lo_dF (m x q p : Nat) : LO F (dF F G m x q p) := by
  refine ⟨fun k hk => dF_o (by omega) (by omega) (by omega) (by omega) (by omega) (by omega), dF_o (by omega) (by omega) (by omega) (by omega) (by omega) (by omega), dF_o (by omega) (by omega) (by omega) (by omega) (by omega) (by omega)⟩
theorem lo_draw (a b c d : Int32) : LO F (st_draw F G nc mt nh a b c d) := by
  unfold st_draw
  repeat' split
  all_goals first | exact LO.rf | exact lo_dF _ _ _ _
theorem lo_fF (x : Nat) : LO F (fF F x) := ⟨fun k hk => fF_o (by omega) (by omega) (by omega) (by omega), fF_o (by omega) (by omega) (by omega) (by omega), fF_o (by omega) (by omega) (by omega) (by omega)⟩
theorem lo_fire (a : Int32) : LO F (st_fireF F G nc a) := by
  unfold st_fireF
  repeat' split
  all_goals first | exact LO.rf | exact lo_fF _
theorem lg_tG (x : Nat) : LG G (tG_ F G x) := by
  unfold tG_
  repeat' split
  all_goals first | exact LG.rf | exact (LG.rf.u (by omega)).u (by omega)
theorem lg_fG0 (x y : Nat) : LG G (fG0 F G x y) := by
  unfold fG0
  exact (LG.rf.u (by omega)).u (by omega)
theorem lg_fire (a : Int32) : LG G (st_fireG F G nc mt a) := by
  unfold st_fireG
  repeat' split
  all_goals first | exact LG.rf | exact (lg_fG0 _ _).tr (lg_tG _)
theorem lo_join (a b : Int32) : LO F (st_joinF F G nc a b) := by
  unfold st_joinF
  split
  · unfold jF
    exact (((LO.rf.u (by omega)).u (by omega)).u (by omega)).u (by omega)
  · exact LO.rf
theorem lg_join (a b : Int32) : LG G (st_joinG F G nc a b) := by
  unfold st_joinG
  split
  · unfold jG
    exact ((LG.rf.u (by omega)).u (by omega)).u (by omega)
  · exact LG.rf
theorem lg_scrap (a : Int32) : LG G (st_scrap G nc a) := by
  unfold st_scrap
  split
  · exact (LG.rf.u (by omega)).u (by omega)
  · exact LG.rf
theorem lo_goN {nc : Nat} {mt nh : Nat → Nat} {c p u : Int32} {sq : Nat → Nat} : ∀ (k i : Nat) (F : tF) (G : tG), LO F (goN nc mt nh c p u sq k i F G).2.1 ∧ LG G (goN nc mt nh c p u sq k i F G).2.2
  | 0, i, F, G => ⟨LO.rf, LG.rf⟩
  | k + 1, i, F, G => by
    unfold goN
    repeat' split
    all_goals first | exact ⟨LO.rf, LG.rf⟩ | exact ⟨(lo_fire _).tr (lo_goN _ _ _ _).1, (lg_fire _).tr (lo_goN _ _ _ _).2⟩ | exact ⟨(lo_draw _ _ _ _).tr (lo_goN _ _ _ _).1, (lo_goN _ _ _ _).2⟩ | exact ⟨lo_fire _, lg_fire _⟩ | exact ⟨lo_draw _ _ _ _, LG.rf⟩
theorem lo_go (c p u lo hi : Int32) : LO F (st_goF F G nc nh mt c p u lo hi) := by
  unfold st_goF
  split
  · exact (lo_goN _ _ _ _).1
  · exact LO.rf
theorem lg_go (c p u lo hi : Int32) : LG G (st_goG F G nc nh mt c p u lo hi) := by
  unfold st_goG
  split
  · exact (lo_goN _ _ _ _).2
  · exact LG.rf
theorem lo_cW (F : tF) (G : tG) (a : Nat → Nat) : ∀ n, LO F (cW F G a n).1 ∧ LG G (cW F G a n).2.1
  | 0 => ⟨LO.rf, LG.rf⟩
  | n + 1 => by
    obtain ⟨h1, h2⟩ := lo_cW F G a n
    by_cases h : a n < 16
    · rw [cW_y h]
      exact ⟨h1.u (by omega), (h2.u (by omega)).u (by omega)⟩
    · rw [cW_n h]
      exact ⟨h1, h2⟩
theorem lg_trG (F : tF) (G : tG) (a : Nat → Nat) : ∀ n, LG G (trG F G a n)
  | 0 => LG.rf
  | n + 1 => by
    have h2 := lg_trG F G a n
    by_cases h : trT F G a n = true
    · rw [trG_y h]
      exact (h2.u (by omega)).u (by omega)
    · rw [trG_n h]
      exact h2
theorem cW_cg {a a' : Nat → Nat} (F : tF) (G : tG) : ∀ n, (∀ o, o < n → a o = a' o) → cW F G a n = cW F G a' n
  | 0, _ => rfl
  | n + 1, h => by
    have h1 := cW_cg F G n (fun o ho => h o (by omega))
    have h2 := h n (by omega)
    by_cases h3 : a n < 16
    · rw [cW_y h3, cW_y (by rw [← h2]; exact h3), h1, h2]
    · rw [cW_n h3, cW_n (by rw [← h2]; exact h3), h1]
theorem trG_cg {a a' : Nat → Nat} (F : tF) (G : tG) (h : ∀ o, o < 6 → a o = a' o) : ∀ n, trG F G a n = trG F G a' n
  | 0 => rfl
  | n + 1 => by
    have h1 := trG_cg F G h n
    have h2 : trT F G a n = trT F G a' n := by
      unfold trT
      rw [uc_congr h]
    by_cases h3 : trT F G a n = true
    · rw [trG_y h3, trG_y (by rw [← h2]; exact h3), h1]
    · rw [trG_n h3, trG_n (by rw [← h2]; exact h3), h1]
end LEAVE
/-! THE LAW: an answer as a boolean -/
def bz (x : Int32) : Int32 := if x = 0 then 0 else 1
theorem bz_01 (x : Int32) : bz x = 0 ∨ bz x = 1 := by
  unfold bz
  split
  · exact Or.inl rfl
  · exact Or.inr rfl
theorem bz_z (x : Int32) : zok (bz x) := by
  rcases bz_01 x with h | h <;> rw [h] <;> exact ⟨rfl, rfl⟩
theorem bz_n (x : Int32) : vp_nar .boolean (bz x) = bz x := by
  rcases bz_01 x with h | h <;> rw [h] <;> rfl
theorem zo_01 {x : Int32} (h : x = 0 ∨ x = 1) : zok x := by
  rcases h with h | h <;> rw [h] <;> exact ⟨rfl, rfl⟩
theorem vp_01 {x : Int32} (h : x = 0 ∨ x = 1) : vp_nar .boolean x = x := by
  rcases h with h | h <;> rw [h] <;> rfl
section LAW2
variable {p : Program} {l : Launch} {e : Env} {s : State} {m : MethodId} {below : List Frame} {meth : Method} {c : Code} {b L : Nat} {xs : Nat → Int32} {H : Heap} {locs : List Loc} {ls : Array Slot} {cells slots pc : Nat} {Q : State → Prop} {st : List Value}
theorem la_bool (C0 : lw_At p s m meth c b L xs) {x : Int32} (d0 : decode cL_law pc = .ok (.ifCond .eq 7, 3)) (d1 : decode cL_law (pc + 3) = .ok (.iconst 1, 1)) (d2 : decode cL_law (pc + 3 + 1) = .ok (.goto 4, 3)) (d3 : decode cL_law (pc + 7) = .ok (.iconst 0, 1))
    (kk : W p l e room_1 s m #[Value.ref b] below meth c H locs cells slots Q (F0 m (pc + 8) ls (.int (bz x) :: st))) : W p l e room_1 s m #[Value.ref b] below meth c H locs cells slots Q (F0 m pc ls (.int x :: st)) := by
  have hx := C0.1
  have hb := C0.2.1
  refine lv_if_eq (tgt := pc + 7) hx hb d0 (by omega) (fun h => ?_) (fun h => ?_)
  · refine lv_iconst (v := 0) hx hb d3 (by decide) ?_
    rw [show bz x = 0 from if_pos h] at kk
    exact kk
  · refine lv_iconst (v := 1) hx hb d1 (by decide) ?_
    refine lv_goto (tgt := pc + 8) hx hb d2 (by omega) ?_
    rw [show bz x = 1 from if_neg h] at kk
    exact kk
end LAW2
section REF
variable {X : List Nat} {F F1 : tF} {G : tG} {P : tP} {nh : Nat → Nat} {nc no nn : Nat} {mt om : Nat → Nat}
theorem LI.re (h : LI X F G P nh nc no nn mt om) : ∀ i j, i < 4 → j < nh i → (F (20 + (8 * i + j)) 2 = 2 ↔ 2 ≤ F (20 + (8 * i + j)) 2) := by
  intro i j hi hj
  have h8 := h.S.1.2.2.2.2.2.2.2.1 i hi
  rw [vr_x h.v (lc_h2 (q := 8 * i + j) (by omega))]
  obtain ⟨-, -, ⟨r, -, r2, er⟩⟩ := h.S.1.2.2.2.1 i j hi hj
  rw [er]
  rcases (show r = 0 ∨ r = 1 ∨ r = 2 by omega) with q | q | q <;> subst q <;> decide
theorem LI.mtv (h : LI X F G P nh nc no nn mt om) : ∀ c, c < nc → vF F 115 c = nI (mt c) := by
  intro c hc
  rw [h.v]
  exact h.S.2.2.2.1.1 c hc
theorem LI.bad (h : LI X F G P nh nc no nn mt om) : ∀ c, c < nc → F 121 c = 0 ∨ F 121 c = 1 := fun c hc => by
  obtain ⟨s', x', r1, r2, r3, r4⟩ := h.S.1.2.2.2.2.1 c hc
  exact r4
theorem LI.badz (h : LI X F G P nh nc no nn mt om) : ∀ c, c < nc → zok (F (53 + c) 6) := fun c hc => by
  have := h.R.nc16
  rw [vr_x h.v (lc_c6 (c := c) (by omega))]
  exact zo_01 (h.bad c hc)
theorem st_hole_no {p n : Int32} (h : ¬ ((0 ≤ p ∧ p ≤ 3) ∧ (20 ≤ n ∧ n ≤ 1000) ∧ ¬ nh p.toNatClampNeg = 8)) : st_hole F nh p n = F := by
  unfold st_hole
  by_cases h1 : 0 ≤ p ∧ p ≤ 3
  · rw [if_pos h1]
    by_cases h2 : 20 ≤ n ∧ n ≤ 1000
    · rw [if_pos h2]
      by_cases h3 : nh p.toNatClampNeg = 8
      · rw [if_pos h3]
      · exact absurd ⟨h1, h2, h3⟩ h
    · rw [if_neg h2]
  · rw [if_neg h1]
end REF
