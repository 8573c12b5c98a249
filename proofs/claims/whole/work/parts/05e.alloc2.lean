/-! arrays of references; worlds that point into themselves -/
def closed (X : List Nat) (P : tP) : Prop := ∀ z, z ∈ X → ∀ j y, P z j = some y → y ∈ X
theorem closed_z {X : List Nat} {P : tP} {k : Nat} (h : closed X P) : closed (X ++ [k]) (zP P k) := by
  intro z hz j y e
  by_cases hk : z = k
  · subst hk
    rw [zP_s] at e
    cases e
  · rw [zP_n P hk] at e
    rcases List.mem_append.mp hz with h1 | h1
    · exact List.mem_append_left _ (h z h1 j y e)
    · exact absurd (List.mem_singleton.mp h1) hk
theorem closed_u {X : List Nat} {P : tP} {a b y : Nat} (h : closed X P) (hy : y ∈ X) : closed X (uP P a b (some y)) := by
  intro z hz j x e
  by_cases hk : z = a ∧ j = b
  · obtain ⟨rfl, rfl⟩ := hk
    rw [uP_s] at e
    cases e
    exact hy
  · rw [uP_n P _ (by omega)] at e
    exact h z hz j x e
theorem noref_c {X : List Nat} {P : tP} {k : Nat} (h : closed X P) (hk : k ∉ X) : noref X P k := fun z hz j e => hk (h z hz j k e)
theorem notin_a {X : List Nat} {k a : Nat} (h : k ∉ X) (hne : k ≠ a) : k ∉ X ++ [a] := fun q => by
  rcases List.mem_append.mp q with h1 | h1
  · exact h h1
  · exact hne (List.mem_singleton.mp h1)
theorem arr_i0 (cA : ClassId) (n : Nat) : vp_cell cA (n, .inl (fun _ => 0)) = arrV cA n (fun _ => defaultValue .int) := rfl
theorem arr_z0 (cA : ClassId) (n : Nat) : vp_cell cA (n, .inl (fun _ => 0)) = arrV cA n (fun _ => defaultValue .boolean) := rfl
theorem arr_l0 (cA : ClassId) (n : Nat) : vp_cell cA (n, .inr (.inl (fun _ => 0))) = arrV cA n (fun _ => defaultValue .long) := rfl
section ALQ
variable {p : Program} {l : Launch} {e : Env} {R : Room} {s : State} {m : MethodId} {args : Array Value} {below : List Frame} {meth : Method} {c : Code} {H : Heap} {locs : List Loc} {cells slots : Nat} {Q : State → Prop}
variable {cc : ByteArray} {pc : Nat} {ls : Array Slot} {rest : List Value} {E : cE} {tt : Nat × Nat × Nat} {A : Nat → Prop} {own : String} {nL : Nat} {X : List Nat} {B : Nat → Nat} {F : tF} {G : tG} {P : tP} {index : Nat}
theorem al_i (k : Nat) {n : Int32} (C : Cx p s m args c cc nL own) (hw : Wd E tt A s (wl E X B F G P) H locs) (hk : k ∉ X) (hn : noref X P k) (hK : kd k = 13) (hn0 : ¬ n < 0) (hN : n.toNatClampNeg = ln k) (hby : ln k * componentBytes .int ≤ 536870912) (hcells : cells + 1 ≤ R.cells) (hslots : slots + ln k ≤ R.slots) (hdg : decode cc pc = .ok (.newarray .int, 2))
    (kk : ∀ (B1 : Nat → Nat) (H1 : Heap), (∀ z, z ≠ k → B1 z = B z) → Wd E tt A s (wl E (X ++ [k]) B1 (zF F k) (zG G k) (zP P k)) H1 locs → W p l e R s m args below meth c H1 locs (cells + 1) (slots + ln k) Q (F0 m (pc + 2) ls (.ref (B1 k) :: rest))) : W p l e R s m args below meth c H locs cells slots Q (F0 m pc ls (.int n :: rest)) :=
  al_p (atype := .int) (ty := .int) k 0 C hw hk hn rfl (fun _ h => by cases h) rfl ac_int (fun q => by rw [cel_i hK]; simp [zF]) (fun cA => arr_i0 cA _) hn0 hN hby hcells hslots hdg kk
theorem al_z (k : Nat) {n : Int32} (C : Cx p s m args c cc nL own) (hw : Wd E tt A s (wl E X B F G P) H locs) (hk : k ∉ X) (hn : noref X P k) (hK : kd k = 15) (hn0 : ¬ n < 0) (hN : n.toNatClampNeg = ln k) (hby : ln k * componentBytes .boolean ≤ 536870912) (hcells : cells + 1 ≤ R.cells) (hslots : slots + ln k ≤ R.slots) (hdg : decode cc pc = .ok (.newarray .boolean, 2))
    (kk : ∀ (B1 : Nat → Nat) (H1 : Heap), (∀ z, z ≠ k → B1 z = B z) → Wd E tt A s (wl E (X ++ [k]) B1 (zF F k) (zG G k) (zP P k)) H1 locs → W p l e R s m args below meth c H1 locs (cells + 1) (slots + ln k) Q (F0 m (pc + 2) ls (.ref (B1 k) :: rest))) : W p l e R s m args below meth c H locs cells slots Q (F0 m pc ls (.int n :: rest)) :=
  al_p (atype := .boolean) (ty := .boolean) k 2 C hw hk hn rfl (fun _ h => by cases h) rfl ac_boolean (fun q => by rw [cel_z hK]; simp [zF]) (fun cA => arr_z0 cA _) hn0 hN hby hcells hslots hdg kk
theorem al_l (k : Nat) {n : Int32} (C : Cx p s m args c cc nL own) (hw : Wd E tt A s (wl E X B F G P) H locs) (hk : k ∉ X) (hn : noref X P k) (hK : kd k = 14) (hn0 : ¬ n < 0) (hN : n.toNatClampNeg = ln k) (hby : ln k * componentBytes .long ≤ 536870912) (hcells : cells + 1 ≤ R.cells) (hslots : slots + ln k ≤ R.slots) (hdg : decode cc pc = .ok (.newarray .long, 2))
    (kk : ∀ (B1 : Nat → Nat) (H1 : Heap), (∀ z, z ≠ k → B1 z = B z) → Wd E tt A s (wl E (X ++ [k]) B1 (zF F k) (zG G k) (zP P k)) H1 locs → W p l e R s m args below meth c H1 locs (cells + 1) (slots + ln k) Q (F0 m (pc + 2) ls (.ref (B1 k) :: rest))) : W p l e R s m args below meth c H locs cells slots Q (F0 m pc ls (.int n :: rest)) :=
  al_p (atype := .long) (ty := .long) k 1 C hw hk hn rfl (fun _ h => by cases h) rfl ac_long (fun q => by rw [cel_l hK]; simp [zG]) (fun cA => arr_l0 cA _) hn0 hN hby hcells hslots hdg kk
/-- a new array of references at the place k -/
theorem al_q (k : Nat) {n : Int32} {r : Nat} {cn : String} (C : Cx p s m args c cc nL own) (hw : Wd E tt A s (wl E X B F G P) H locs) (hk : k ∉ X) (hn : noref X P k) (hK : kd k = r) (hr : 16 ≤ r) (ht : (tyl E)[r - 13]? = some (E.2.2 (r - 13), .object cn)) (hcl : Cond.classLink own index cn ∈ TT) (hao : cn ∈ aoC) (hn0 : ¬ n < 0) (hN : n.toNatClampNeg = ln k) (hby : ln k * 4 ≤ 536870912) (hcells : cells + 1 ≤ R.cells) (hslots : slots + ln k ≤ R.slots) (hdg : decode cc pc = .ok (.anewarray index, 3))
    (kk : ∀ (B1 : Nat → Nat) (H1 : Heap), (∀ z, z ≠ k → B1 z = B z) → Wd E tt A s (wl E (X ++ [k]) B1 (zF F k) (zG G k) (zP P k)) H1 locs → W p l e R s m args below meth c H1 locs (cells + 1) (slots + ln k) Q (F0 m (pc + 3) ls (.ref (B1 k) :: rest))) : W p l e R s m args below meth c H locs cells slots Q (F0 m pc ls (.int n :: rest)) := by
  obtain ⟨hx, hb, hml, hown, hts⟩ := C
  refine va_newq hx hb hown (hts _ hcl) (hw.2.2.2.2.2.2.2 _ hao) hw.1 hw.2.1 hw.2.2.1 hw.2.2.2.1 hw.2.2.2.2.1 hn0 hN hby hcells hslots hdg (fun q cA H1 hK1 h1 h2 h3 => ?_)
  have hcA : cA = E.2.2 (r - 13) := by
    have a1 := (hK1.2 (tyl E).length _ (by rw [List.getElem?_append_right (Nat.le_refl _), Nat.sub_self]; rfl)).2
    have a2 := (hw.1.2 (r - 13) _ ht).2
    obtain ⟨-, -, -, -, -, e1⟩ := a1
    obtain ⟨-, -, -, -, -, e2⟩ := a2
    exact Option.some.inj (e1.symm.trans e2)
  subst hcA
  have e1 := wl_push (E := E) (B := B) (F := F) (G := G) (P := P) (q := q) (c := .inl (E.2.2 (r - 13), ln k, .inr (.inr (.inr (.inr (fun _ => none)))))) hk hn (by rw [cel_q hK hr]; simp [zP])
  rw [e1] at h1 h2
  have := kk (va_up B k q) H1 (fun z hz => va_up_ne _ _ hz) ⟨hw.1, h1, h2, h3, hw.2.2.2.2⟩
  rw [va_up_self] at this
  exact this
end ALQ
