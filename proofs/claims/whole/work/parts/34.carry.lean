/-! Carrying over the sea: the fleets that one comes to. Mine. -/
def cl0 (Re : Nat → Bool) (i j : Nat) : Bool := !decide (j < i) && Re j
theorem cl0_s (Re : Nat → Bool) (i j : Nat) : upB (fun j => cl0 Re i j) i false j = cl0 Re (i + 1) j := by
  unfold upB cl0
  by_cases h : j = i
  · subst h; simp
  · rw [if_neg h]
    by_cases h2 : j < i
    · simp [h2, Nat.lt_succ_of_lt h2]
    · simp [h2, show ¬ j < i + 1 by omega]
theorem anyB_iff (p : Nat → Bool) : ∀ n, anyB p n = true ↔ ∃ b, b < n ∧ p b = true
  | 0 => by simp [anyB]
  | n + 1 => by
    rw [anyB, Bool.or_eq_true, anyB_iff p n]
    constructor
    · rintro (⟨b, h1, h2⟩ | h)
      · exact ⟨b, by omega, h2⟩
      · exact ⟨n, by omega, h⟩
    · rintro ⟨b, h1, h2⟩
      by_cases hb : b = n
      · subst hb; exact Or.inr h2
      · exact Or.inl ⟨b, by omega, h2⟩
theorem anyB_congr {p q : Nat → Bool} {n : Nat} (h : ∀ b, b < n → p b = q b) : anyB p n = anyB q n := by
  rw [Bool.eq_iff_iff, anyB_iff, anyB_iff]
  constructor <;> rintro ⟨b, h1, h2⟩
  · exact ⟨b, h1, by rw [← h b h1]; exact h2⟩
  · exact ⟨b, h1, by rw [h b h1]; exact h2⟩
theorem numB_le (p : Nat → Bool) : ∀ n, numB p n ≤ n
  | 0 => Nat.le_refl _
  | n + 1 => by
    have := numB_le p n
    rw [numB]
    split <;> omega
theorem numB_mono {p q : Nat → Bool} (h : ∀ b, p b = true → q b = true) : ∀ n, numB p n ≤ numB q n
  | 0 => Nat.le_refl _
  | n + 1 => by
    have h1 := numB_mono h n
    rw [numB, numB]
    by_cases hp : p n = true
    · rw [if_pos hp, if_pos (h n hp)]; omega
    · rw [if_neg hp]; split <;> omega
theorem numB_lt {p q : Nat → Bool} (h : ∀ b, p b = true → q b = true) {c : Nat} (hq : q c = true) (hp : p c = false) : ∀ n, c < n → numB p n < numB q n
  | 0, hc => absurd hc (Nat.not_lt_zero _)
  | n + 1, hc => by
    rw [numB, numB]
    by_cases hcn : c = n
    · subst hcn
      have h1 := numB_mono h c
      rw [if_neg (by rw [hp]; decide), if_pos hq]; omega
    · have h1 := numB_lt h hq hp n (by omega)
      by_cases hpn : p n = true
      · rw [if_pos hpn, if_pos (h n hpn)]; omega
      · rw [if_neg hpn]; split <;> omega
/-- one comes to b in k steps, from a, over fleets of F -/
def rch (Bo F : Nat → Bool) (n a : Nat) : Nat → Nat → Bool
  | 0, b => F b && Bo (12 * a + b)
  | k + 1, b => F b && anyB (fun c => rch Bo F n a k c && Bo (12 * c + b)) n
noncomputable def rcd (Bo F : Nat → Bool) (n a b : Nat) : Bool := @decide (∃ k, rch Bo F n a k b = true) (Classical.propDecidable _)
theorem rcd_iff {Bo F : Nat → Bool} {n a b : Nat} : rcd Bo F n a b = true ↔ ∃ k, rch Bo F n a k b = true := by
  unfold rcd
  exact @decide_eq_true_iff _ (Classical.propDecidable _)
def nxB (Bo Re : Nat → Bool) (n a b : Nat) : Bool := Bo (12 * a + b) || anyB (fun c => Re c && Bo (12 * c + b)) n
theorem rcd_step {Bo F Re : Nat → Bool} {n a b : Nat} (hs : ∀ c, c < n → Re c = true → rcd Bo F n a c = true) (hF : F b = true) (hn : nxB Bo Re n a b = true) : rcd Bo F n a b = true := by
  unfold nxB at hn
  rw [Bool.or_eq_true] at hn
  rcases hn with h | h
  · exact rcd_iff.mpr ⟨0, by simp [rch, hF, h]⟩
  · obtain ⟨c, hc, h2⟩ := (anyB_iff _ n).mp h
    rw [Bool.and_eq_true] at h2
    obtain ⟨k, hk⟩ := rcd_iff.mp (hs c hc h2.1)
    refine rcd_iff.mpr ⟨k + 1, ?_⟩
    rw [rch, hF, Bool.true_and]
    exact (anyB_iff _ n).mpr ⟨c, hc, by rw [hk, h2.2]; rfl⟩
/-- a set that is closed holds all that one comes to -/
theorem rcd_closed {Bo F Re : Nat → Bool} {n a : Nat} (hc : ∀ b, b < n → F b = true → nxB Bo Re n a b = true → Re b = true) : ∀ k b, b < n → rch Bo F n a k b = true → Re b = true
  | 0, b, hb, h => by
    rw [rch, Bool.and_eq_true] at h
    exact hc b hb h.1 (by unfold nxB; rw [h.2]; rfl)
  | k + 1, b, hb, h => by
    rw [rch, Bool.and_eq_true] at h
    obtain ⟨c, hcn, h2⟩ := (anyB_iff _ n).mp h.2
    rw [Bool.and_eq_true] at h2
    have h3 := rcd_closed hc k c hcn h2.1
    refine hc b hb h.1 ?_
    unfold nxB
    rw [Bool.or_eq_true]
    exact Or.inr ((anyB_iff _ n).mpr ⟨c, hcn, by rw [h3, h2.2]; rfl⟩)
theorem rcd_eq {Bo F Re : Nat → Bool} {n a : Nat} (hs : ∀ c, c < n → Re c = true → rcd Bo F n a c = true) (hc : ∀ b, b < n → F b = true → nxB Bo Re n a b = true → Re b = true) (b : Nat) (hb : b < n) : Re b = rcd Bo F n a b := by
  rw [Bool.eq_iff_iff]
  exact ⟨hs b hb, fun h => by obtain ⟨k, hk⟩ := rcd_iff.mp h; exact rcd_closed hc k b hb hk⟩
def crI (Bo F : Nat → Bool) (n a : Nat) (Rx Ry : Nat → Bool) (mo : Bool) (i : Nat) : Prop :=
  (∀ b, b < n → Ry b = true → rcd Bo F n a b = true) ∧ (∀ b, Rx b = true → Ry b = true) ∧ (mo = true → ∃ b, b < n ∧ Ry b = true ∧ Rx b = false) ∧ (mo = false → Ry = Rx ∧ ∀ b, b < i → F b = true → nxB Bo Rx n a b = true → Rx b = true)
theorem crI_0 {Bo F Rx : Nat → Bool} {n a : Nat} (hs : ∀ b, b < n → Rx b = true → rcd Bo F n a b = true) : crI Bo F n a Rx Rx false 0 :=
  ⟨hs, fun _ h => h, fun h => (by cases h), fun _ => ⟨rfl, fun b hb => absurd hb (Nat.not_lt_zero _)⟩⟩
theorem crI_skip {Bo F Rx Ry : Nat → Bool} {n a i : Nat} {mo : Bool} (h : crI Bo F n a Rx Ry mo i) (hi : Ry i = true ∨ F i = false) : crI Bo F n a Rx Ry mo (i + 1) := by
  obtain ⟨h1, h2, h3, h4⟩ := h
  refine ⟨h1, h2, h3, fun hm => ?_⟩
  obtain ⟨h5, h6⟩ := h4 hm
  refine ⟨h5, fun b hb hF hn => ?_⟩
  by_cases hbi : b = i
  · subst hbi
    rcases hi with h | h
    · rw [← h5]; exact h
    · rw [hF] at h; cases h
  · exact h6 b (by omega) hF hn
theorem crI_set {Bo F Rx Ry : Nat → Bool} {n a i : Nat} {mo : Bool} (h : crI Bo F n a Rx Ry mo i) (hi : i < n) (hy : Ry i = false) (hF : F i = true) : crI Bo F n a Rx (upB Ry i (nxB Bo Ry n a i)) (mo || nxB Bo Ry n a i) (i + 1) := by
  obtain ⟨h1, h2, h3, h4⟩ := h
  cases hn : nxB Bo Ry n a i with
  | false =>
    have e : upB Ry i false = Ry := by
      funext j
      unfold upB
      split
      · rename_i hj; subst hj; exact hy.symm
      · rfl
    rw [e, Bool.or_false]
    refine ⟨h1, h2, h3, fun hm => ?_⟩
    obtain ⟨h5, h6⟩ := h4 hm
    refine ⟨h5, fun b hb hFb hnb => ?_⟩
    by_cases hbi : b = i
    · subst hbi; rw [h5] at hn; rw [hn] at hnb; cases hnb
    · exact h6 b (by omega) hFb hnb
  | true =>
    rw [Bool.or_true]
    refine ⟨fun b hb hb2 => ?_, fun b hb => ?_, fun _ => ⟨i, hi, by simp [upB], ?_⟩, fun h => (by cases h)⟩
    · unfold upB at hb2
      split at hb2
      · rename_i e; subst e; exact rcd_step h1 hF hn
      · exact h1 b hb hb2
    · unfold upB
      split
      · rfl
      · exact h2 b hb
    · cases hx : Rx i with
      | false => rfl
      | true => rw [h2 i hx] at hy; cases hy
/-- the fleets that may carry a's move: surely, or perhaps -/
def cFl (fu : Nat → Int32) (Kd X Y K : Nat → Nat) (S : Nat → Bool) (n a : Nat) (su : Bool) (b : Nat) : Bool :=
  S b && !decide (fu b < 0) && decide (Kd b = 3) && decide (X b = a) && decide (Y b = X a) && !decide (dsA fu Kd X K n b = 1) && (!su || decide (dsA fu Kd X K n b = 2))
noncomputable def crd (fu : Nat → Int32) (Kd X Y K : Nat → Nat) (S Bo : Nat → Bool) (n a : Nat) (su : Bool) : Bool := anyB (fun b => rcd Bo (cFl fu Kd X Y K S n a su) n a b && Bo (12 * b + X a)) n
