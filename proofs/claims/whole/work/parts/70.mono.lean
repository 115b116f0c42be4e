/-! What is settled stays so: the reference's answers as more is known. Mine. -/
def kle (K K' : Nat → Nat) : Prop := ∀ j, ¬ K j = 0 → K' j = K j
theorem kle_rfl (K : Nat → Nat) : kle K K := fun _ _ => rfl
theorem kle_trans {K K' K2 : Nat → Nat} (h : kle K K') (h2 : kle K' K2) : kle K K2 := fun j hj => by
  have h1 := h j hj
  rw [h2 j (by rw [h1]; exact hj), h1]
theorem kle_1 {K K' : Nat → Nat} (h : kle K K') {j : Nat} (hj : K j = 1) : K' j = 1 := by rw [h j (by rw [hj]; decide), hj]
theorem kle_2 {K K' : Nat → Nat} (h : kle K K') {j : Nat} (hj : K j = 2) : K' j = 2 := by rw [h j (by rw [hj]; decide), hj]
def okF (fu : Nat → Int32) : Prop := ∀ j, fu j = -1 ∨ ∃ u, u < 8 ∧ fu j = nI u
theorem okF_t : ∀ u, u < 8 → ¬ nI u / 2 = -1 ∧ ¬ nI u < 0 ∧ nI u / 2 = nI (u / 2) ∧ nI u - nI u / 2 * 2 = nI (u % 2) ∧ ¬ nI u = -1 := by decide +kernel
theorem okF_h {fu : Nat → Int32} (hU : okF fu) {j : Nat} (h : ¬ fu j < 0) : ¬ fu j / 2 = -1 := by
  rcases hU j with e | ⟨u, hu, e⟩
  · rw [e] at h; exact absurd (by decide) h
  · rw [e]; exact (okF_t u hu).1
theorem anyB_imp {p q : Nat → Bool} {n : Nat} (h : ∀ b, b < n → p b = true → q b = true) (hp : anyB p n = true) : anyB q n = true := by
  obtain ⟨b, h1, h2⟩ := (anyB_iff _ n).mp hp
  exact (anyB_iff _ n).mpr ⟨b, h1, h b h1 h2⟩
theorem anyB_no {p : Nat → Bool} {n : Nat} : anyB p n = false ↔ ∀ b, b < n → p b = false := by
  constructor
  · intro h b hb
    cases hp : p b with
    | false => rfl
    | true => rw [(anyB_iff _ n).mpr ⟨b, hb, hp⟩] at h; cases h
  · intro h
    cases hp : anyB p n with
    | false => rfl
    | true =>
      obtain ⟨b, h1, h2⟩ := (anyB_iff _ n).mp hp
      rw [h b h1] at h2; cases h2
theorem numB_mono2 {p q : Nat → Bool} : ∀ n, (∀ b, b < n → p b = true → q b = true) → numB p n ≤ numB q n
  | 0, _ => Nat.le_refl _
  | n + 1, h => by
    have h1 := numB_mono2 n (fun b hb => h b (by omega))
    rw [numB, numB]
    by_cases hp : p n = true
    · rw [if_pos hp, if_pos (h n (by omega) hp)]; omega
    · rw [if_neg hp]; split <;> omega
section MO
variable {fu : Nat → Int32} {Kd X Y K K' : Nat → Nat} {S Bo : Nat → Bool} {n a b : Nat}
theorem dsA_1 : dsA fu Kd X K n a = 1 ↔ (∃ b, b < n ∧ mvT fu Kd X b a = true ∧ K b = 1) ∧ (mvs fu Kd a = false ∨ K a = 2) := by
  unfold dsA
  constructor
  · intro h
    split at h
    · cases h
    · split at h
      · rename_i _ h2
        rw [Bool.and_eq_true, anyB_iff] at h2
        obtain ⟨⟨b, h3, h4⟩, h5⟩ := h2
        simp at h4 h5
        exact ⟨⟨b, h3, h4⟩, h5⟩
      · cases h
  · rintro ⟨⟨b, h1, h2, h3⟩, h4⟩
    have e1 : anyB (fun b => mvT fu Kd X b a && !decide (K b = 2)) n = true := (anyB_iff _ n).mpr ⟨b, h1, by simp [h2, h3]⟩
    have e2 : anyB (fun b => mvT fu Kd X b a && decide (K b = 1)) n = true := (anyB_iff _ n).mpr ⟨b, h1, by simp [h2, h3]⟩
    rw [e1, e2]
    rcases h4 with h4 | h4 <;> simp [h4]
theorem dsA_2 : dsA fu Kd X K n a = 2 ↔ (∀ b, b < n → mvT fu Kd X b a = true → K b = 2) ∨ (mvs fu Kd a = true ∧ K a = 1) := by
  unfold dsA
  constructor
  · intro h
    split at h
    · rename_i h2
      rw [Bool.or_eq_true] at h2
      rcases h2 with h2 | h2
      · refine Or.inl (fun b hb hm => ?_)
        rw [Bool.not_eq_true', anyB_no] at h2
        have := h2 b hb
        simp [hm] at this
        exact this
      · simp at h2; exact Or.inr h2
    · split at h <;> cases h
  · rintro (h | h)
    · have e1 : anyB (fun b => mvT fu Kd X b a && !decide (K b = 2)) n = false := anyB_no.mpr (fun b hb => by
        cases hm : mvT fu Kd X b a with
        | false => rfl
        | true => simp [h b hb hm])
      rw [e1]; rfl
    · rw [if_pos (by simp [h.1, h.2])]
theorem dsA_1s (h : kle K K') (h1 : dsA fu Kd X K n a = 1) : dsA fu Kd X K' n a = 1 := by
  obtain ⟨⟨b, h2, h3, h4⟩, h5⟩ := dsA_1.mp h1
  exact dsA_1.mpr ⟨⟨b, h2, h3, kle_1 h h4⟩, h5.imp id (kle_2 h)⟩
theorem dsA_2s (h : kle K K') (h1 : dsA fu Kd X K n a = 2) : dsA fu Kd X K' n a = 2 :=
  dsA_2.mpr ((dsA_2.mp h1).imp (fun h2 b hb hm => kle_2 h (h2 b hb hm)) (fun h2 => ⟨h2.1, kle_1 h h2.2⟩))
theorem cFl_t (h : kle K K') (h1 : cFl fu Kd X Y K S n a true b = true) : cFl fu Kd X Y K' S n a true b = true := by
  simp only [cFl, Bool.and_eq_true, Bool.or_eq_true, decide_eq_true_eq, Bool.not_true, Bool.false_eq_true, false_or, Bool.not_eq_true', decide_eq_false_iff_not] at h1 ⊢
  have h2 := dsA_2s h h1.2
  exact ⟨⟨h1.1.1, by rw [h2]; decide⟩, h2⟩
theorem cFl_f (h : kle K K') (h1 : cFl fu Kd X Y K' S n a false b = true) : cFl fu Kd X Y K S n a false b = true := by
  simp only [cFl, Bool.and_eq_true, Bool.or_eq_true, decide_eq_true_eq, Bool.not_false, true_or, and_true, Bool.not_eq_true', decide_eq_false_iff_not] at h1 ⊢
  exact ⟨h1.1, fun h2 => h1.2 (dsA_1s h h2)⟩
theorem cFl_tf (h1 : cFl fu Kd X Y K S n a true b = true) : cFl fu Kd X Y K S n a false b = true := by
  simp only [cFl, Bool.and_eq_true, Bool.or_eq_true, decide_eq_true_eq, Bool.not_false, true_or, and_true] at h1 ⊢
  exact h1.1
theorem rch_mono {F G : Nat → Bool} (h : ∀ b, F b = true → G b = true) : ∀ k b, rch Bo F n a k b = true → rch Bo G n a k b = true
  | 0, b, h1 => by
    rw [rch, Bool.and_eq_true] at h1 ⊢
    exact ⟨h b h1.1, h1.2⟩
  | k + 1, b, h1 => by
    rw [rch, Bool.and_eq_true] at h1 ⊢
    refine ⟨h b h1.1, anyB_imp (fun c _ h2 => ?_) h1.2⟩
    rw [Bool.and_eq_true] at h2 ⊢
    exact ⟨rch_mono h k c h2.1, h2.2⟩
theorem rcd_mono {F G : Nat → Bool} (h : ∀ b, F b = true → G b = true) (h1 : rcd Bo F n a b = true) : rcd Bo G n a b = true := by
  obtain ⟨k, hk⟩ := rcd_iff.mp h1
  exact rcd_iff.mpr ⟨k, rch_mono h k b hk⟩
theorem crd_mono {su su' : Bool} (h : ∀ b, cFl fu Kd X Y K S n a su b = true → cFl fu Kd X Y K' S n a su' b = true) (h1 : crd fu Kd X Y K S Bo n a su = true) : crd fu Kd X Y K' S Bo n a su' = true :=
  anyB_imp (fun b _ h2 => by rw [Bool.and_eq_true] at h2 ⊢; exact ⟨rcd_mono h h2.1, h2.2⟩) h1
theorem pth_1 : pth fu Kd X Y K S Bo n a = 1 ↔ byS Bo S fu X a = false ∨ crd fu Kd X Y K S Bo n a true = true := by
  unfold pth
  constructor
  · intro h
    split at h
    · rename_i h2; simp at h2; exact h2
    · split at h <;> cases h
  · intro h
    rw [if_pos (by simp; exact h)]
theorem pth_2 : pth fu Kd X Y K S Bo n a = 2 ↔ byS Bo S fu X a = true ∧ crd fu Kd X Y K S Bo n a false = false := by
  unfold pth
  constructor
  · intro h
    split at h
    · cases h
    · rename_i h1
      split at h
      · cases h
      · rename_i h2; simp at h1 h2; exact ⟨h1.1, h2⟩
  · rintro ⟨h1, h2⟩
    have h3 : crd fu Kd X Y K S Bo n a true = false := by
      cases h4 : crd fu Kd X Y K S Bo n a true with
      | false => rfl
      | true => rw [crd_mono (fun b => cFl_tf) h4] at h2; cases h2
    simp [h1, h2, h3]
theorem pth_1s (h : kle K K') (h1 : pth fu Kd X Y K S Bo n a = 1) : pth fu Kd X Y K' S Bo n a = 1 := pth_1.mpr ((pth_1.mp h1).imp id (crd_mono (fun _ => cFl_t h)))
theorem pth_2s (h : kle K K') (h1 : pth fu Kd X Y K S Bo n a = 2) : pth fu Kd X Y K' S Bo n a = 2 := by
  obtain ⟨h2, h3⟩ := pth_2.mp h1
  refine pth_2.mpr ⟨h2, ?_⟩
  cases h4 : crd fu Kd X Y K' S Bo n a false with
  | false => rfl
  | true => rw [crd_mono (fun _ => cFl_f h) h4] at h3; cases h3
theorem frc_hi (h : kle K K') {but : Int32} (hK : ∀ j, K j < 3) : frc fu Kd X Y K' n a true but ≤ frc fu Kd X Y K n a true but := by
  unfold frc
  refine Nat.add_le_add_left (numB_mono2 n (fun b _ hb => ?_)) 1
  simp only [Bool.and_eq_true, Bool.or_eq_true, decide_eq_true_eq, true_and] at hb ⊢
  refine ⟨hb.1, ?_⟩
  have := hK b
  by_cases h0 : K b = 0
  · exact Or.inr h0
  · rw [h b h0] at hb
    rcases hb.2 with h1 | h1
    · exact Or.inl h1
    · exact absurd h1 h0
theorem frc_lo (h : kle K K') {but : Int32} : frc fu Kd X Y K n a false but ≤ frc fu Kd X Y K' n a false but := by
  unfold frc
  refine Nat.add_le_add_left (numB_mono2 n (fun b _ hb => ?_)) 1
  simp only [Bool.and_eq_true, Bool.or_eq_true, decide_eq_true_eq, Bool.false_eq_true, false_and, or_false] at hb ⊢
  exact ⟨hb.1, kle_1 h hb.2⟩
theorem frc_le {but : Int32} : frc fu Kd X Y K n a false but ≤ frc fu Kd X Y K n a true but := by
  unfold frc
  refine Nat.add_le_add_left (numB_mono2 n (fun b _ hb => ?_)) 1
  simp only [Bool.and_eq_true, Bool.or_eq_true, decide_eq_true_eq, Bool.false_eq_true, false_and, or_false] at hb ⊢
  exact ⟨hb.1, Or.inl hb.2⟩
theorem frc_but (hU : okF fu) {gr : Bool} {but : Int32} : frc fu Kd X Y K n a gr but ≤ frc fu Kd X Y K n a gr (-1) := by
  unfold frc
  refine Nat.add_le_add_left (numB_mono2 n (fun b _ hb => ?_)) 1
  rw [Bool.and_eq_true, Bool.and_eq_true] at hb ⊢
  refine ⟨⟨hb.1.1, ?_⟩, hb.2⟩
  have h1 := hb.1.1
  simp only [isF, spt, Bool.and_eq_true, Bool.not_eq_true', decide_eq_false_iff_not] at h1
  simp [okF_h hU h1.1.1.1]
theorem agn_le (hU : okF fu) {gr : Bool} : agn fu Kd X Y K S Bo n a gr ≤ frc fu Kd X Y K n a gr (-1) := by
  unfold agn
  split
  · exact Nat.zero_le _
  · exact frc_but hU
theorem atk_le (hU : okF fu) {gr : Bool} : atk fu Kd X Y K S Bo n a gr ≤ frc fu Kd X Y K n a gr (-1) := by
  unfold atk
  split
  · exact Nat.zero_le _
  · split
    · exact Nat.le_refl _
    · split
      · exact agn_le hU
      · split
        · exact Nat.le_refl _
        · split
          · exact Nat.le_refl _
          · exact agn_le hU
theorem atk_p {m : Nat} (h : m < atk fu Kd X Y K S Bo n a false) : pth fu Kd X Y K S Bo n a = 1 := by
  unfold atk at h
  split at h
  · omega
  · rename_i h1
    have := pth_lt fu Kd X Y K S Bo n a
    simp at h1
    omega
theorem atk_0 {gr : Bool} (h : pth fu Kd X Y K S Bo n a = 2) : atk fu Kd X Y K S Bo n a gr = 0 := by
  unfold atk; rw [if_pos (by simp [h])]
theorem mstF_z {z : Nat} {gr : Bool} : ∀ k, z ≤ mstF fu Kd X Y K S Bo n z a gr k
  | 0 => Nat.le_refl _
  | k + 1 => by
    have h := mstF_z (z := z) (gr := gr) k
    rw [mstF]
    split
    · split <;> omega
    · exact h
theorem mstF_b {z : Nat} {gr : Bool} (hb : ¬ b = a) (hm : mvT fu Kd X b (X a) = true) : ∀ k, b < k → prv fu Kd X Y K S Bo n b gr ≤ mstF fu Kd X Y K S Bo n z a gr k
  | 0, h => absurd h (Nat.not_lt_zero _)
  | k + 1, h => by
    rw [mstF]
    by_cases e : b = k
    · subst e
      rw [if_pos (by simp [hb, hm])]
      split <;> omega
    · have h1 := mstF_b (z := z) (gr := gr) hb hm k (by omega)
      split
      · split <;> omega
      · exact h1
theorem mst_b {gr : Bool} (hbn : b < n) (hb : ¬ b = a) (hm : mvT fu Kd X b (X a) = true) : prv fu Kd X Y K S Bo n b gr ≤ mst fu Kd X Y K S Bo n a gr := mstF_b hb hm n hbn
theorem mst_h {gr : Bool} (h : hOn Bo S fu Kd X a = true) : frc fu Kd X Y K n (X a) gr (-1) ≤ mst fu Kd X Y K S Bo n a gr := by
  unfold mst
  rw [if_pos h]
  exact mstF_z n
theorem prv_lo (hp : pth fu Kd X Y K S Bo n b = 1) (hh : hOn Bo S fu Kd X b = true → K (X b) = 2) : prv fu Kd X Y K S Bo n b false = frc fu Kd X Y K n b false (-1) := by
  unfold prv
  rw [if_neg]
  cases h : hOn Bo S fu Kd X b with
  | false => simp [hp]
  | true => simp [hp, hh h]
theorem prv_hi (hp : ¬ pth fu Kd X Y K S Bo n b = 2) (hh : ¬ (hOn Bo S fu Kd X b = true ∧ K (X b) = 1)) : prv fu Kd X Y K S Bo n b true = frc fu Kd X Y K n b true (-1) := by
  unfold prv
  rw [if_neg]
  simp [hp]
  intro h h1
  exact hh ⟨h, h1⟩
theorem jmv_1 : jmv fu Kd X Y K S Bo n a = 1 ↔ mst fu Kd X Y K S Bo n a true < atk fu Kd X Y K S Bo n a false := by
  unfold jmv
  constructor
  · intro h
    split at h
    · assumption
    · split at h <;> cases h
  · intro h; rw [if_pos h]
theorem jmv_2 (h : atk fu Kd X Y K S Bo n a true ≤ mst fu Kd X Y K S Bo n a false) : ¬ jmv fu Kd X Y K S Bo n a = 0 := by
  unfold jmv
  split
  · decide
  · rw [if_neg (by omega)]; decide
/-- why the move of b succeeded: it was the strongest one; or it went round in a ring -/
def crt (fu : Nat → Int32) (Kd X Y K : Nat → Nat) (S Bo : Nat → Bool) (n b : Nat) : Prop :=
  pth fu Kd X Y K S Bo n b = 1 ∧ (∀ a, a < n → ¬ a = b → mvT fu Kd X a (X b) = true → pth fu Kd X Y K S Bo n a = 2 ∨ (hOn Bo S fu Kd X a = true ∧ K (X a) = 1) ∨ frc fu Kd X Y K n a true (-1) < frc fu Kd X Y K n b false (-1)) ∧ (hOn Bo S fu Kd X b = true → frc fu Kd X Y K n (X b) true (-1) < frc fu Kd X Y K n b false (-1))
def rct (fu : Nat → Int32) (Kd X K : Nat → Nat) (S Bo : Nat → Bool) (n b : Nat) : Prop :=
  (∀ a, a < n → ¬ a = b → mvT fu Kd X a (X b) = true → K a = 2) ∧ hOn Bo S fu Kd X b = false
def unq (fu : Nat → Int32) (Kd X Y K : Nat → Nat) (S Bo : Nat → Bool) (n : Nat) : Prop := ∀ b, b < n → mvs fu Kd b = true → K b = 1 → crt fu Kd X Y K S Bo n b ∨ rct fu Kd X K S Bo n b
theorem crt_s (h : kle K K') (hK : ∀ j, K j < 3) (h1 : crt fu Kd X Y K S Bo n b) : crt fu Kd X Y K' S Bo n b := by
  obtain ⟨h2, h3, h4⟩ := h1
  have lo := frc_lo (fu := fu) (Kd := Kd) (X := X) (Y := Y) (n := n) (a := b) (but := -1) h
  refine ⟨pth_1s h h2, fun a ha hab hm => ?_, fun hh => ?_⟩
  · rcases h3 a ha hab hm with e | e | e
    · exact Or.inl (pth_2s h e)
    · exact Or.inr (Or.inl ⟨e.1, kle_1 h e.2⟩)
    · have hi := frc_hi (fu := fu) (Kd := Kd) (X := X) (Y := Y) (n := n) (a := a) (but := -1) h hK
      exact Or.inr (Or.inr (by omega))
  · have hi := frc_hi (fu := fu) (Kd := Kd) (X := X) (Y := Y) (n := n) (a := X b) (but := -1) h hK
    have := h4 hh
    omega
theorem rct_s (h : kle K K') (h1 : rct fu Kd X K S Bo n b) : rct fu Kd X K' S Bo n b := ⟨fun a ha hab hm => kle_2 h (h1.1 a ha hab hm), h1.2⟩
theorem crt_of (hU : okF fu) (h : jmv fu Kd X Y K S Bo n b = 1) : crt fu Kd X Y K S Bo n b := by
  have h1 := jmv_1.mp h
  have h2 := atk_p h1
  have h3 := atk_le (Kd := Kd) (X := X) (Y := Y) (K := K) (S := S) (Bo := Bo) (n := n) (a := b) (gr := false) hU
  refine ⟨h2, fun a ha hab hm => ?_, fun hh => ?_⟩
  · by_cases e1 : pth fu Kd X Y K S Bo n a = 2
    · exact Or.inl e1
    · by_cases e2 : hOn Bo S fu Kd X a = true ∧ K (X a) = 1
      · exact Or.inr (Or.inl e2)
      · have h4 := mst_b (Y := Y) (K := K) (S := S) (Bo := Bo) (gr := true) ha hab hm
        rw [prv_hi e1 e2] at h4
        exact Or.inr (Or.inr (by omega))
  · have h4 := mst_h (Y := Y) (K := K) (n := n) (gr := true) hh
    omega
theorem hOn_s (hm : mvs fu Kd a = true) (h : hOn Bo S fu Kd X a = true) : hOn Bo S fu Kd X (X a) = true ∧ X (X a) = a ∧ mvs fu Kd (X a) = true := by
  simp only [hOn, mvT, Bool.and_eq_true, decide_eq_true_eq] at h
  obtain ⟨⟨⟨h1, h2⟩, h3⟩, h4⟩ := h
  refine ⟨?_, h2, h1⟩
  simp only [hOn, mvT, h2, Bool.and_eq_true, decide_eq_true_eq]
  exact ⟨⟨⟨hm, trivial⟩, h4⟩, h3⟩
/-- two that are head-on don't both succeed -/
theorem unq_h (hX : ∀ j, j < n → X j < n) (hq : unq fu Kd X Y K S Bo n) (hb : b < n) (hm : mvs fu Kd b = true) (hh : hOn Bo S fu Kd X b = true) (h1 : K b = 1) (h2 : K (X b) = 1) : False := by
  obtain ⟨g1, g2, g3⟩ := hOn_s hm hh
  rcases hq b hb hm h1 with c1 | c1
  · rcases hq (X b) (hX b hb) g3 h2 with c2 | c2
    · have e1 := c1.2.2 hh
      have e2 := c2.2.2 g1
      rw [g2] at e2
      have l1 := frc_le (fu := fu) (Kd := Kd) (X := X) (Y := Y) (K := K) (n := n) (a := b) (but := -1)
      have l2 := frc_le (fu := fu) (Kd := Kd) (X := X) (Y := Y) (K := K) (n := n) (a := X b) (but := -1)
      omega
    · rw [c2.2] at g1; cases g1
  · rw [c1.2] at hh; cases hh
/-- two moves to one area don't both succeed -/
theorem unq_2 (hX : ∀ j, j < n → X j < n) (hq : unq fu Kd X Y K S Bo n) (ha : a < n) (hb : b < n) (hab : ¬ a = b) (hma : mvs fu Kd a = true) (hmb : mvs fu Kd b = true) (hx : X a = X b) (h1 : K a = 1) (h2 : K b = 1) : False := by
  have ta : mvT fu Kd X a (X b) = true := by simp [mvT, hma, hx]
  have tb : mvT fu Kd X b (X a) = true := by simp [mvT, hmb, hx]
  rcases hq a ha hma h1 with c1 | c1
  · rcases hq b hb hmb h2 with c2 | c2
    · have nb : frc fu Kd X Y K n a true (-1) < frc fu Kd X Y K n b false (-1) := by
        rcases c2.2.1 a ha hab ta with e | e | e
        · rw [c1.1] at e; cases e
        · exact (unq_h hX hq ha hma e.1 h1 e.2).elim
        · exact e
      have na : frc fu Kd X Y K n b true (-1) < frc fu Kd X Y K n a false (-1) := by
        rcases c1.2.1 b hb (fun h => hab h.symm) tb with e | e | e
        · rw [c2.1] at e; cases e
        · exact (unq_h hX hq hb hmb e.1 h2 e.2).elim
        · exact e
      have l1 := frc_le (fu := fu) (Kd := Kd) (X := X) (Y := Y) (K := K) (n := n) (a := a) (but := -1)
      have l2 := frc_le (fu := fu) (Kd := Kd) (X := X) (Y := Y) (K := K) (n := n) (a := b) (but := -1)
      omega
    · rw [c2.1 a ha hab ta] at h1; cases h1
  · rw [c1.1 b hb (fun h => hab h.symm) tb] at h2; cases h2
/-- one that is still open when nothing more is certain has no rival that succeeded, but it be head-on -/
theorem unq_o (hU : okF fu) (hX : ∀ j, j < n → X j < n) (hq : unq fu Kd X Y K S Bo n) (hfix : ∀ j, j < n → mvs fu Kd j = true → K j = 0 → jmv fu Kd X Y K S Bo n j = 0) (hK : ∀ j, K j < 3) (ha : a < n) (hma : mvs fu Kd a = true) (h0 : K a = 0) (hna : hOn Bo S fu Kd X a = false) (hb : b < n) (hab : ¬ b = a) (hmb : mvT fu Kd X b (X a) = true) : ¬ K b = 1 := by
  intro h1
  simp only [mvT, Bool.and_eq_true, decide_eq_true_eq] at hmb
  obtain ⟨hmb, hx⟩ := hmb
  have ta : mvT fu Kd X a (X b) = true := by simp [mvT, hma, hx]
  have tb : mvT fu Kd X b (X a) = true := by simp [mvT, hmb, hx]
  rcases hq b hb hmb h1 with c | c
  · rcases c.2.1 a ha (fun h => hab h.symm) ta with e | e | e
    · refine jmv_2 (K := K) (Y := Y) (S := S) (Bo := Bo) (a := a) (n := n) ?_ (hfix a ha hma h0)
      rw [atk_0 e]; exact Nat.zero_le _
    · rw [hna] at e; cases e.1
    · refine jmv_2 (K := K) (Y := Y) (S := S) (Bo := Bo) (a := a) (n := n) ?_ (hfix a ha hma h0)
      have l1 := atk_le (Kd := Kd) (X := X) (Y := Y) (K := K) (S := S) (Bo := Bo) (n := n) (a := a) (gr := true) hU
      have l2 := mst_b (Y := Y) (K := K) (S := S) (Bo := Bo) (gr := false) hb hab tb
      rw [prv_lo c.1 (fun hh => ?_)] at l2
      · omega
      · obtain ⟨g1, g2, g3⟩ := hOn_s hmb hh
        have hx3 := hK (X b)
        by_cases k1 : K (X b) = 1
        · exact (unq_h hX hq hb hmb hh h1 k1).elim
        · by_cases k0 : K (X b) = 0
          · exfalso
            refine jmv_2 (K := K) (Y := Y) (S := S) (Bo := Bo) (a := X b) (n := n) ?_ (hfix (X b) (hX b hb) g3 k0)
            have m1 := atk_le (Kd := Kd) (X := X) (Y := Y) (K := K) (S := S) (Bo := Bo) (n := n) (a := X b) (gr := true) hU
            have m2 := mst_h (Y := Y) (K := K) (n := n) (gr := false) g1
            rw [g2] at m2
            have m3 := c.2.2 hh
            omega
          · omega
  · rw [c.1 a ha (fun h => hab h.symm) ta] at h0; cases h0
end MO
