theorem cntL_y {G : tG} {nc i c : Nat} (hc : c < nc) (he : nI i = nI c) (hn : nc ≤ 16) (hi : i < 16) (ok : ok_coil (vG G) nc (nI i) = true) : cntL (vG G 118) (min i nc) + 1 = cntL (vG G 118) (min (i + 1) nc) := by
  have e : i = c := (nI_eq (by omega) (by omega)).mp he
  subst e
  rw [show min i nc = i by omega, show min (i + 1) nc = i + 1 by omega, cntL]
  rw [ok_coil_i, i4_cl (by omega)] at ok
  rw [if_pos ok.2]
theorem cntL_n {G : tG} {nc i : Nat} (hn : nc ≤ 16) (hi : i < 16) (no : ¬ ok_coil (vG G) nc (nI i) = true) : cntL (vG G 118) (min i nc) = cntL (vG G 118) (min (i + 1) nc) := by
  by_cases h : i < nc
  · rw [show min i nc = i by omega, show min (i + 1) nc = i + 1 by omega, cntL]
    rw [ok_coil_i, i4_cl (by omega)] at no
    rw [if_neg (fun h9 => no ⟨⟨nI_pos' (by omega), nI_lt h (by omega)⟩, h9⟩), Int32.add_zero]
  · rw [show min (i + 1) nc = min i nc by omega]
