theorem df_0 : ∀ j, j < 7 → defaultValue (tyX0 j) = vp_V ((ftc 0).map dv) j := by
  intro j hj
  rcases (show j = 0 ∨ j = 1 ∨ j = 2 ∨ j = 3 ∨ j = 4 ∨ j = 5 ∨ j = 6 by omega) with h | h | h | h | h | h | h <;> subst h <;> rfl
theorem df_3 : ∀ j, j < 3 → defaultValue (tyX3 j) = vp_V ((ftc 3).map dv) j := by
  intro j hj
  rcases (show j = 0 ∨ j = 1 ∨ j = 2 by omega) with h | h | h <;> subst h <;> rfl
theorem df_6 : ∀ j, j < 5 → defaultValue (tyX6 j) = vp_V ((ftc 6).map dv) j := by
  intro j hj
  rcases (show j = 0 ∨ j = 1 ∨ j = 2 ∨ j = 3 ∨ j = 4 by omega) with h | h | h | h | h <;> subst h <;> rfl
/-- places that aren't there yet -/
def RX_ (X : List Nat) (P : tP) (nh : Nat → Nat) (nc no : Nat) : Prop := (∀ i j, i < 4 → nh i ≤ j → j < 8 → 20 + (8 * i + j) ∉ X ∧ noref X P (20 + (8 * i + j))) ∧ (∀ c, nc ≤ c → c < 16 → 53 + c ∉ X ∧ noref X P (53 + c)) ∧ (∀ o, no ≤ o → o < 6 → 70 + o ∉ X ∧ noref X P (70 + o))
theorem mem_l {X : List Nat} {z k : Nat} (h : z ∈ X) : z ∈ X ++ [k] := List.mem_append_left _ h
theorem mem_k {X : List Nat} {k : Nat} : k ∈ X ++ [k] := List.mem_append_right _ (List.mem_singleton.mpr rfl)
/-- an answer that a field of booleans takes -/
abbrev zok (b : Int32) : Prop := narrow .boolean (.int b) = .int b ∧ fits .boolean (.int b) = true
