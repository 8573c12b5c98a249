/-! THE LAW: its loop -/
set_option maxHeartbeats 4000000 in
set_option maxRecDepth 100000 in
theorem law_loop {p : Program} {l : Launch} {e : Env} {s : State} {m : MethodId} {below : List Frame} {meth : Method} {c : Code} {b L : Nat} {xs : Nat → Int32} {E : cE} {tt : Nat × Nat × Nat} (C0 : lw_At p s m meth c b L xs) (hL : L ≤ 3584) : ∀ n i, i ≤ L → L < i + n → LH p l e s m below meth c b E tt i 18
  | 0, i, h1, h2 => absurd h2 (by omega)
  | n + 1, i, h1, h2 => by
    have ih := law_loop (l := l) (e := e) (below := below) (E := E) (tt := tt) C0 hL n (i + 7)
    intro X B F G P nh nc no nn mt om H locs ls hI hw hl
    obtain ⟨hx, hb, hr, hml, hown, hts, hX, hbl, hlocks, hgv⟩ := id C0
    have hbA : ¬ lA s b := Nat.not_le.mpr hbl
    refine lv_iload_n hx hb dL_law_18 rfl (lv_at hl 3 rfl) ?_
    refine lv_aload_n hx hb dL_law_19 rfl (lv_at hl 0 rfl) ?_
    refine va_slen hx hb hX hbl hbA hw.2.2.2.1 dL_law_20 ?_
    refine lv_bipush (v := nI 7) hx hb dL_law_21 (by decide) ?_
    refine lv_isub hx hb dL_law_23 ?_
    refine lv_icmp_gt (tgt := 1376) hx hb dL_law_24 (by decide) (fun _ => ?_) (fun c_24 => ?_)
    · refine lv_iconst (v := 1) hx hb dL_law_1376 (by decide) ?_
      refine va_forget (fun q hq => hw.2.2.2.1.2.2 q hq) ?_
      refine W.widen (k := 600000) (n := 7302250) (by omega) (by omega) ?_
      exact lw_ret hx hb hr hlocks dL_law_1377
    · have hi : i + 7 ≤ L := by
        rcases Nat.lt_or_ge L (i + 7) with q | q
        · refine absurd ?_ c_24
          rw [Int32.lt_iff_toInt_lt]
          rcases Nat.lt_or_ge L 7 with q2 | q2
          · have h0 : (0 : Int32) ≤ nI i := nI_pos' (by omega)
            rw [Int32.le_iff_toInt_le] at h0
            have h3 : (nI L - nI 7).toInt < 0 := by
              rcases (show L = 0 ∨ L = 1 ∨ L = 2 ∨ L = 3 ∨ L = 4 ∨ L = 5 ∨ L = 6 by omega) with z | z | z | z | z | z | z <;> subst z <;> decide
            exact Int.lt_of_lt_of_le h3 h0
          · show (nI L - nI 7).toInt < _
            rw [pk_sub q2, ← Int32.lt_iff_toInt_lt]
            exact nI_lt (by omega) (by omega)
        · exact q
      have K := ih hi (by omega)
      refine lv_aload_n hx hb dL_law_27 rfl (lv_at hl 0 rfl) ?_
      refine lv_iload_n hx hb dL_law_28 rfl (lv_at hl 3 rfl) ?_
      refine va_sld hx hb hX hbl hbA hw.2.2.2.1 (vp_in_nI (show i < L by omega) (by omega)) dL_law_29 ?_
      refine lv_bipush (v := 31) hx hb dL_law_30 (by decide) ?_
      refine lv_iand hx hb dL_law_32 ?_
      obtain ⟨j, hj, ej⟩ := pk_andE (xs (nI i).toNatClampNeg) (m := 31) 5 (by decide)
      rw [ej]
      have hj : j < 32 := hj
      match j, hj with
      | 0, _ => exact lv_tableIn (tgt := 176) hx hb dL_law_33 (by decide) (by decide) rfl (by decide) (law_0 C0 hL hi K X B F G P nh nc no nn mt om H locs ls hI hw hl)
      | 1, _ => exact lv_tableIn (tgt := 251) hx hb dL_law_33 (by decide) (by decide) rfl (by decide) (law_1 C0 hL hi K X B F G P nh nc no nn mt om H locs ls hI hw hl)
      | 2, _ => exact lv_tableIn (tgt := 284) hx hb dL_law_33 (by decide) (by decide) rfl (by decide) (law_2 C0 hL hi K X B F G P nh nc no nn mt om H locs ls hI hw hl)
      | 3, _ => exact lv_tableIn (tgt := 327) hx hb dL_law_33 (by decide) (by decide) rfl (by decide) (law_3 C0 hL hi K X B F G P nh nc no nn mt om H locs ls hI hw hl)
      | 4, _ => exact lv_tableIn (tgt := 360) hx hb dL_law_33 (by decide) (by decide) rfl (by decide) (law_4 C0 hL hi K X B F G P nh nc no nn mt om H locs ls hI hw hl)
      | 5, _ => exact lv_tableIn (tgt := 403) hx hb dL_law_33 (by decide) (by decide) rfl (by decide) (law_5 C0 hL hi K X B F G P nh nc no nn mt om H locs ls hI hw hl)
      | 6, _ => exact lv_tableIn (tgt := 436) hx hb dL_law_33 (by decide) (by decide) rfl (by decide) (law_6 C0 hL hi K X B F G P nh nc no nn mt om H locs ls hI hw hl)
      | 7, _ => exact lv_tableIn (tgt := 479) hx hb dL_law_33 (by decide) (by decide) rfl (by decide) (law_7 C0 hL hi K X B F G P nh nc no nn mt om H locs ls hI hw hl)
      | 8, _ => exact lv_tableIn (tgt := 548) hx hb dL_law_33 (by decide) (by decide) rfl (by decide) (law_8 C0 hL hi K X B F G P nh nc no nn mt om H locs ls hI hw hl)
      | 9, _ => exact lv_tableIn (tgt := 581) hx hb dL_law_33 (by decide) (by decide) rfl (by decide) (law_9 C0 hL hi K X B F G P nh nc no nn mt om H locs ls hI hw hl)
      | 10, _ => exact lv_tableIn (tgt := 605) hx hb dL_law_33 (by decide) (by decide) rfl (by decide) (law_10 C0 hL hi K X B F G P nh nc no nn mt om H locs ls hI hw hl)
      | 11, _ => exact lv_tableIn (tgt := 658) hx hb dL_law_33 (by decide) (by decide) rfl (by decide) (law_11 C0 hL hi K X B F G P nh nc no nn mt om H locs ls hI hw hl)
      | 12, _ => exact lv_tableIn (tgt := 711) hx hb dL_law_33 (by decide) (by decide) rfl (by decide) (law_12 C0 hL hi K X B F G P nh nc no nn mt om H locs ls hI hw hl)
      | 13, _ => exact lv_tableIn (tgt := 734) hx hb dL_law_33 (by decide) (by decide) rfl (by decide) (law_13 C0 hL hi K X B F G P nh nc no nn mt om H locs ls hI hw hl)
      | 14, _ => exact lv_tableIn (tgt := 767) hx hb dL_law_33 (by decide) (by decide) rfl (by decide) (law_14 C0 hL hi K X B F G P nh nc no nn mt om H locs ls hI hw hl)
      | 15, _ => exact lv_tableIn (tgt := 800) hx hb dL_law_33 (by decide) (by decide) rfl (by decide) (law_15 C0 hL hi K X B F G P nh nc no nn mt om H locs ls hI hw hl)
      | 16, _ => exact lv_tableIn (tgt := 823) hx hb dL_law_33 (by decide) (by decide) rfl (by decide) (law_16 C0 hL hi K X B F G P nh nc no nn mt om H locs ls hI hw hl)
      | 17, _ => exact lv_tableIn (tgt := 846) hx hb dL_law_33 (by decide) (by decide) rfl (by decide) (law_17 C0 hL hi K X B F G P nh nc no nn mt om H locs ls hI hw hl)
      | 18, _ => exact lv_tableIn (tgt := 909) hx hb dL_law_33 (by decide) (by decide) rfl (by decide) (law_18 C0 hL hi K X B F G P nh nc no nn mt om H locs ls hI hw hl)
      | 19, _ => exact lv_tableIn (tgt := 984) hx hb dL_law_33 (by decide) (by decide) rfl (by decide) (law_19 C0 hL hi K X B F G P nh nc no nn mt om H locs ls hI hw hl)
      | 20, _ => exact lv_tableIn (tgt := 1047) hx hb dL_law_33 (by decide) (by decide) rfl (by decide) (law_20 C0 hL hi K X B F G P nh nc no nn mt om H locs ls hI hw hl)
      | 21, _ => exact lv_tableIn (tgt := 1100) hx hb dL_law_33 (by decide) (by decide) rfl (by decide) (law_21 C0 hL hi K X B F G P nh nc no nn mt om H locs ls hI hw hl)
      | 22, _ => exact lv_tableIn (tgt := 1113) hx hb dL_law_33 (by decide) (by decide) rfl (by decide) (law_22 C0 hL hi K X B F G P nh nc no nn mt om H locs ls hI hw hl)
      | 23, _ => exact lv_tableIn (tgt := 1136) hx hb dL_law_33 (by decide) (by decide) rfl (by decide) (law_23 C0 hL hi K X B F G P nh nc no nn mt om H locs ls hI hw hl)
      | 24, _ => exact lv_tableIn (tgt := 1149) hx hb dL_law_33 (by decide) (by decide) rfl (by decide) (law_24 C0 hL hi K X B F G P nh nc no nn mt om H locs ls hI hw hl)
      | 25, _ => exact lv_tableIn (tgt := 1172) hx hb dL_law_33 (by decide) (by decide) rfl (by decide) (law_25 C0 hL hi K X B F G P nh nc no nn mt om H locs ls hI hw hl)
      | 26, _ => exact lv_tableIn (tgt := 1221) hx hb dL_law_33 (by decide) (by decide) rfl (by decide) (law_26 C0 hL hi K X B F G P nh nc no nn mt om H locs ls hI hw hl)
      | 27, _ => exact lv_tableIn (tgt := 1254) hx hb dL_law_33 (by decide) (by decide) rfl (by decide) (law_27 C0 hL hi K X B F G P nh nc no nn mt om H locs ls hI hw hl)
      | 28, _ => exact lv_tableIn (tgt := 1287) hx hb dL_law_33 (by decide) (by decide) rfl (by decide) (law_28 C0 hL hi K X B F G P nh nc no nn mt om H locs ls hI hw hl)
      | 29, _ => exact lv_tableIn (tgt := 1310) hx hb dL_law_33 (by decide) (by decide) rfl (by decide) (law_29 C0 hL hi K X B F G P nh nc no nn mt om H locs ls hI hw hl)
      | 30, _ => exact lv_tableIn (tgt := 1323) hx hb dL_law_33 (by decide) (by decide) rfl (by decide) (law_30 C0 hL hi K X B F G P nh nc no nn mt om H locs ls hI hw hl)
      | 31, _ => exact lv_tableIn (tgt := 1347) hx hb dL_law_33 (by decide) (by decide) rfl (by decide) (law_31 C0 hL hi K X B F G P nh nc no nn mt om H locs ls hI hw hl)
      | j + 32, hj => exact absurd hj (by omega)
