def usr (x y : Int32) : Int32 := (x.toUInt32 >>> (y.toUInt32 &&& Int32.toUInt32 31)).toInt32
def s12 (b0 b1 b2 b3 b4 b5 b6 b7 b8 b9 b10 b11 : Bool) : Nat → Bool
  | 0 => b0 | 1 => b1 | 2 => b2 | 3 => b3 | 4 => b4 | 5 => b5 | 6 => b6 | 7 => b7 | 8 => b8 | 9 => b9 | 10 => b10 | 11 => b11 | _ => false
def of12 (S : Nat → Bool) : Nat → Bool := s12 (S 0) (S 1) (S 2) (S 3) (S 4) (S 5) (S 6) (S 7) (S 8) (S 9) (S 10) (S 11)
theorem of12_j (S : Nat → Bool) : ∀ j, j < 12 → S j = of12 S j
  | 0, _ | 1, _ | 2, _ | 3, _ | 4, _ | 5, _ | 6, _ | 7, _ | 8, _ | 9, _ | 10, _ | 11, _ => rfl
  | _ + 12, h => absurd h (by omega)
theorem of12_m (S : Nat → Bool) : mI S = mI (of12 S) := mI_congr (of12_j S)
def lwF (S : Nat → Bool) : Nat → Nat → Nat
  | 0, i => i
  | f + 1, i => if S i then i else lwF S f (i + 1)
def lwB (S : Nat → Bool) : Nat := lwF S 12 0
theorem lwF_sp (S : Nat → Bool) : ∀ f i, i ≤ lwF S f i ∧ lwF S f i ≤ i + f ∧ (∀ j, i ≤ j → j < lwF S f i → S j = false) ∧ (lwF S f i < i + f → S (lwF S f i) = true)
  | 0, i => ⟨Nat.le_refl _, Nat.le_refl _, fun j h1 h2 => by simp [lwF] at h2; omega, fun h => by simp [lwF] at h⟩
  | f + 1, i => by
    have ih := lwF_sp S f (i + 1)
    rw [lwF]
    by_cases h : S i = true
    · rw [if_pos h]; exact ⟨Nat.le_refl _, by omega, fun j h1 h2 => by omega, fun _ => h⟩
    · rw [if_neg h]
      refine ⟨by omega, by omega, fun j h1 h2 => ?_, fun h2 => ih.2.2.2 (by omega)⟩
      by_cases hj : j = i
      · subst hj; simpa using h
      · exact ih.2.2.1 j (by omega) h2
theorem lwB_le (S : Nat → Bool) : lwB S ≤ 12 := by have := (lwF_sp S 12 0).2.1; rw [lwB]; omega
theorem lwB_min (S : Nat → Bool) {j : Nat} (h : j < lwB S) : S j = false := (lwF_sp S 12 0).2.2.1 j (Nat.zero_le _) h
theorem lwB_in (S : Nat → Bool) (h : lwB S < 12) : S (lwB S) = true := (lwF_sp S 12 0).2.2.2 (by rw [lwB] at h; omega)
def bcA (x : Int32) : Int32 := x - (usr x 1 &&& 1431655765)
def bcB (x : Int32) : Int32 := (x &&& 858993459) + (usr x 2 &&& 858993459)
def bcC (x : Int32) : Int32 := (x + usr x 4) &&& 252645135
def bcD (x : Int32) : Int32 := x + usr x 8
def bcE (x : Int32) : Int32 := x + usr x 16
theorem bc_12 : ∀ b0 b1 b2 b3 b4 b5 b6 b7 b8 b9 b10 b11 : Bool, bcE (bcD (bcC (bcB (bcA (mI (s12 b0 b1 b2 b3 b4 b5 b6 b7 b8 b9 b10 b11)))))) &&& 63 = nI (numB (s12 b0 b1 b2 b3 b4 b5 b6 b7 b8 b9 b10 b11) 12) := by decide +kernel
theorem bc_mI (S : Nat → Bool) : bcE (bcD (bcC (bcB (bcA (mI S))))) &&& 63 = nI (numB S 12) := by
  rw [of12_m S]; exact bc_12 _ _ _ _ _ _ _ _ _ _ _ _
theorem lw_12 : ∀ b0 b1 b2 b3 b4 b5 b6 b7 b8 b9 b10 b11 : Bool, mI (s12 b0 b1 b2 b3 b4 b5 b6 b7 b8 b9 b10 b11) &&& -(mI (s12 b0 b1 b2 b3 b4 b5 b6 b7 b8 b9 b10 b11)) = mI (fun j => decide (j = lwB (s12 b0 b1 b2 b3 b4 b5 b6 b7 b8 b9 b10 b11))) := by decide +kernel
theorem lw_mI (S : Nat → Bool) : mI S &&& -(mI S) = mI (fun j => decide (j = lwB S)) := by
  rw [of12_m S]; exact lw_12 _ _ _ _ _ _ _ _ _ _ _ _
def ntM (k : Nat) : Int32 := if k = 12 then -1 else nI (2 ^ k - 1)
theorem nt_12 : ∀ b0 b1 b2 b3 b4 b5 b6 b7 b8 b9 b10 b11 : Bool, (mI (s12 b0 b1 b2 b3 b4 b5 b6 b7 b8 b9 b10 b11) ^^^ (-1)) &&& (mI (s12 b0 b1 b2 b3 b4 b5 b6 b7 b8 b9 b10 b11) - 1) = ntM (lwB (s12 b0 b1 b2 b3 b4 b5 b6 b7 b8 b9 b10 b11)) := by decide +kernel
theorem nt_mI (S : Nat → Bool) : (mI S ^^^ (-1)) &&& (mI S - 1) = ntM (lwB S) := by
  rw [of12_m S]; exact nt_12 _ _ _ _ _ _ _ _ _ _ _ _
theorem nI_max9 {a b : Nat} (ha : a < 2 ^ 31) (hb : b < 2 ^ 31) : (if nI a < nI b then nI b else nI a) = nI (max a b) := by
  by_cases h : a < b
  · rw [if_pos ((nI_ltI ha hb).mpr h), Nat.max_eq_right (by omega)]
  · rw [if_neg (fun h1 => h ((nI_ltI ha hb).mp h1)), Nat.max_eq_left (by omega)]
theorem nI_min9 {a b : Nat} (ha : a < 2 ^ 31) (hb : b < 2 ^ 31) : (if nI b < nI a then nI b else nI a) = nI (min a b) := by
  by_cases h : b < a
  · rw [if_pos ((nI_ltI hb ha).mpr h), Nat.min_eq_right (by omega)]
  · rw [if_neg (fun h1 => h ((nI_ltI hb ha).mp h1)), Nat.min_eq_left (by omega)]
