/-! Ways over the sea, strengths and judgements: the same in both. Mine. -/
section SC
variable {N : Nat → Nat → Bool} {Bo Fl R R' : Nat → Bool} {n a : Nat}
theorem psR_up : ∀ i k j, psR N Fl R i j = true → psR N Fl R (i + k) j = true
  | _, 0, _, h => h
  | i, k + 1, j, h => by
    have := psR_up i k j h
    show (psR N Fl R (i + k) j || _) = true
    rw [this]; rfl
theorem psR_R (i j : Nat) (h : R j = true) : psR N Fl R i j = true := by
  have := psR_up (N := N) (Fl := Fl) (R := R) 0 i j h
  rwa [Nat.zero_add] at this
theorem psR_F : ∀ i j, psR N Fl R i j = true → R j = true ∨ Fl j = true
  | 0, _, h => Or.inl h
  | i + 1, j, h => by
    rw [psR, Bool.or_eq_true] at h
    rcases h with h | h
    · exact psR_F i j h
    · simp at h; exact Or.inr h.2.2
theorem psR_snd (hBo : ∀ a b, a < n → b < n → Bo (12 * a + b) = N a b) (hF : ∀ j, Fl j = true → j < n) (hR : ∀ c, R c = true → c < n ∧ rcd Bo Fl n a c = true) : ∀ i, i ≤ n → ∀ c, psR N Fl R i c = true → c < n ∧ rcd Bo Fl n a c = true
  | 0, _, c, h => hR c h
  | i + 1, hi, c, h => by
    rw [psR, Bool.or_eq_true] at h
    rcases h with h | h
    · exact psR_snd hBo hF hR i (by omega) c h
    · simp at h
      obtain ⟨h1, h2, h3⟩ := h
      have ih := psR_snd hBo hF hR i (by omega)
      have hc := hF c h3
      refine ⟨hc, rcd_step (Re := psR N Fl R i) (fun c _ h => (ih c h).2) h3 ?_⟩
      unfold nxB
      rw [Bool.or_eq_true]
      exact Or.inr ((anyB_iff _ n).mpr ⟨i, by omega, by rw [h1, hBo i c (by omega) hc, h2]; rfl⟩)
theorem rcC_snd (hBo : ∀ a b, a < n → b < n → Bo (12 * a + b) = N a b) (ha : a < n) (hF : ∀ j, Fl j = true → j < n) : ∀ k c, rcC N Fl n a k c = true → c < n ∧ rcd Bo Fl n a c = true
  | 0, c, h => by
    rw [rcC, Bool.and_eq_true] at h
    have hc := hF c h.2
    exact ⟨hc, rcd_iff.mpr ⟨0, by simp [rch, h.2, hBo a c ha hc, h.1]⟩⟩
  | k + 1, c, h => psR_snd hBo hF (rcC_snd hBo ha hF k) n (Nat.le_refl _) c h
theorem rcC_up (k j : Nat) (h : rcC N Fl n a k j = true) : rcC N Fl n a (k + 1) j = true := psR_R n j h
theorem rcC_up0 : ∀ k j, rcC N Fl n a 0 j = true → rcC N Fl n a k j = true
  | 0, _, h => h
  | k + 1, j, h => rcC_up k j (rcC_up0 k j h)
theorem rcC_cl (hn : n ≤ 12) : ∀ k, (∀ j, j < n → rcC N Fl n a (k + 1) j = true → rcC N Fl n a k j = true) ∨ k + 1 ≤ numB (rcC N Fl n a (k + 1)) n := by
  have key : ∀ k, (∀ j, j < n → rcC N Fl n a (k + 1) j = true → rcC N Fl n a k j = true) ∨ numB (rcC N Fl n a k) n < numB (rcC N Fl n a (k + 1)) n := by
    intro k
    by_cases h : ∀ j, j < n → rcC N Fl n a (k + 1) j = true → rcC N Fl n a k j = true
    · exact Or.inl h
    · simp only [Classical.not_forall] at h
      obtain ⟨j, h1, h2, h3⟩ := h
      exact Or.inr (numB_lt (fun b hb => rcC_up k b hb) h2 (by simpa using h3) n h1)
  intro k
  induction k with
  | zero =>
    rcases key 0 with h | h
    · exact Or.inl h
    · exact Or.inr (by omega)
  | succ k ih =>
    rcases key (k + 1) with h | h
    · exact Or.inl h
    · rcases ih with h1 | h1
      · refine Or.inl (fun j hj h2 => ?_)
        exfalso
        -- nothing new came in the pass before, so nothing comes now
        have e : ∀ i, i ≤ n → ∀ j, j < n → psR N Fl (rcC N Fl n a (k + 1)) i j = true → rcC N Fl n a (k + 1) j = true := by
          intro i
          induction i with
          | zero => intro _ j _ h3; exact h3
          | succ i ih2 =>
            intro hi j hj h3
            rw [psR, Bool.or_eq_true] at h3
            rcases h3 with h3 | h3
            · exact ih2 (by omega) j hj h3
            · simp at h3
              have h4 := h1 i (by omega) (ih2 (by omega) i (by omega) h3.1)
              have h5 : psR N Fl (rcC N Fl n a k) (i + 1) j = true := by
                show (psR N Fl (rcC N Fl n a k) i j || (psR N Fl (rcC N Fl n a k) i i && (N i j && Fl j))) = true
                rw [psR_R i i h4, h3.2.1, h3.2.2]; simp
              have h6 := psR_up (i + 1) (n - (i + 1)) j h5
              rw [show i + 1 + (n - (i + 1)) = n by omega] at h6
              exact h6
        have h7 : numB (rcC N Fl n a (k + 1 + 1)) n ≤ numB (rcC N Fl n a (k + 1)) n := numB_mono2 n (fun b hb hb2 => e n (Nat.le_refl _) b hb hb2)
        omega
      · exact Or.inr (by omega)
theorem rcC_eq (hn : n ≤ 12) (hBo : ∀ a b, a < n → b < n → Bo (12 * a + b) = N a b) (ha : a < n) (hF : ∀ j, Fl j = true → j < n) {b : Nat} (hb : b < n) : rcC N Fl n a 12 b = rcd Bo Fl n a b := by
  refine rcd_eq (fun c _ h => (rcC_snd hBo ha hF 12 c h).2) (fun b hb h1 h2 => ?_) b hb
  have hcl : ∀ j, j < n → rcC N Fl n a 13 j = true → rcC N Fl n a 12 j = true := by
    rcases rcC_cl (N := N) (Fl := Fl) (a := a) hn 12 with h | h
    · exact h
    · have := numB_le (rcC N Fl n a (12 + 1)) n
      omega
  unfold nxB at h2
  rw [Bool.or_eq_true] at h2
  rcases h2 with h2 | h2
  · rw [hBo a b ha hb] at h2
    exact rcC_up0 12 b (show (N a b && Fl b) = true by rw [h2, h1]; rfl)
  · obtain ⟨c, hc, h3⟩ := (anyB_iff _ n).mp h2
    rw [Bool.and_eq_true, hBo c b hc hb] at h3
    have h5 : psR N Fl (rcC N Fl n a 12) (c + 1) b = true := by
      show (psR N Fl (rcC N Fl n a 12) c b || (psR N Fl (rcC N Fl n a 12) c c && (N c b && Fl b))) = true
      rw [psR_R c c h3.1, h3.2, h1]; simp
    have h6 := psR_up (c + 1) (n - (c + 1)) b h5
    rw [show c + 1 + (n - (c + 1)) = n by omega] at h6
    exact hcl b hb h6
theorem rch_cg {F G : Nat → Bool} (h : ∀ b, b < n → F b = G b) : ∀ k b, b < n → rch Bo F n a k b = rch Bo G n a k b
  | 0, b, hb => by rw [rch, rch, h b hb]
  | k + 1, b, hb => by
    rw [rch, rch, h b hb, anyB_congr (fun c hc => by rw [rch_cg h k c hc])]
theorem rcd_cg {F G : Nat → Bool} (h : ∀ b, b < n → F b = G b) {b : Nat} (hb : b < n) : rcd Bo F n a b = rcd Bo G n a b := by
  rw [Bool.eq_iff_iff, rcd_iff, rcd_iff]
  constructor <;> rintro ⟨k, hk⟩
  · exact ⟨k, by rw [← rch_cg h k b hb]; exact hk⟩
  · exact ⟨k, by rw [rch_cg h k b hb]; exact hk⟩
end SC
section SD
variable {Hu : Nat → Bool} {P Kd Oo X Y : Nat → Nat} {N : Nat → Nat → Bool} {S : Nat → Bool} {n : Nat} {fu : Nat → Int32} {Bo : Nat → Bool} {Su Op : Nat → Bool} {K : Nat → Nat}
theorem anyB_12 {p : Nat → Bool} (hn : n ≤ 12) (h : ∀ j, p j = true → j < n) : anyB p 12 = anyB p n := by
  rw [Bool.eq_iff_iff, anyB_iff, anyB_iff]
  constructor <;> rintro ⟨b, h1, h2⟩
  · exact ⟨b, h b h2, h2⟩
  · exact ⟨b, by omega, h2⟩
theorem numB_12 {p : Nat → Bool} {n : Nat} (hn : n ≤ 12) (h : ∀ j, p j = true → j < n) : numB p 12 = numB p n := by
  have key : ∀ k, numB p (n + k) = numB p n := by
    intro k
    induction k with
    | zero => rfl
    | succ k ih =>
      show numB p (n + k) + _ = _
      rw [ih, if_neg (fun h9 => by have := h (n + k) h9; omega), Nat.add_zero]
  have := key (12 - n)
  rwa [show n + (12 - n) = 12 by omega] at this
theorem numB_cg {p q : Nat → Bool} : ∀ n, (∀ j, j < n → p j = q j) → numB p n = numB q n
  | 0, _ => rfl
  | n + 1, h => by rw [numB, numB, numB_cg n (fun j hj => h j (by omega)), h n (by omega)]
theorem r_fl (w : SW Hu P Kd Oo X Y N S n fu Bo) (r : RL Hu Oo X Y n Su Op K) {a b : Nat} (ha : a < n) (hm : xMv Hu Oo n a = true) (hb : b < n) : cFl fu Oo X Y K S n a false b = (xCa Hu Oo X Y n a b && !(sdA (xMt Hu Oo X n) (xSt Hu n) (xMv Hu Oo n) n Su Op b)) ∧ cFl fu Oo X Y K S n a true b = ((xCa Hu Oo X Y n a b && !(sdA (xMt Hu Oo X n) (xSt Hu n) (xMv Hu Oo n) n Su Op b)) && !(odA (xMt Hu Oo X n) (xSt Hu n) (xMv Hu Oo n) n Su Op b)) := by
  have hca : xCa Hu Oo X Y n a b = (Hu b && decide (Oo b = 3) && decide (X b = a) && decide (Y b = X a)) := by
    show upTo (caR (xSt Hu n) (xMt Hu Oo X n) Oo X Y a) n b = _
    rw [s_up hb, caR, s_st hb, s_mtv]
    by_cases hx : X b = a
    · subst hx
      rw [hm]
      simp [eq_comm]
    · simp [hx]
  have hl := dsA_lt fu Oo X K n b
  rw [hca]
  cases hu : Hu b with
  | false => simp [cFl, s_neg w hb, hu]
  | true =>
    rw [r_sd w r hb hu, r_od w r hb hu]
    by_cases h3 : Oo b = 3
    · have hS := w.hcon b hb hu h3
      simp only [cFl, s_neg w hb, hu, hS, h3]
      rcases (show dsA fu Oo X K n b = 0 ∨ dsA fu Oo X K n b = 1 ∨ dsA fu Oo X K n b = 2 by omega) with e | e | e <;> rw [e] <;> simp
    · simp [cFl, h3]
theorem xCa_n {a b : Nat} (h : xCa Hu Oo X Y n a b = true) : b < n := by
  simp only [xCa, upTo, Bool.and_eq_true, decide_eq_true_eq] at h; exact h.1
theorem r_chn (w : SW Hu P Kd Oo X Y N S n fu Bo) {a : Nat} (ha : a < n) {Fl F : Nat → Bool} (hF : ∀ j, Fl j = true → j < n) (he : ∀ b, b < n → F b = Fl b) : chnC N X n Fl a = anyB (fun b => rcd Bo F n a b && Bo (12 * b + X a)) n := by
  rw [chnC, anyB_12 w.hn (fun j h => by rw [Bool.and_eq_true] at h; exact (rcC_snd w.hBo ha hF 12 j h.1).1)]
  refine anyB_congr (fun b hb => ?_)
  rw [rcC_eq w.hn w.hBo ha hF hb, rcd_cg (fun b hb => (he b hb).symm) hb, w.hBo b (X a) hb (w.hX a ha), w.hNs (X a) b (w.hX a ha) hb]
theorem r_sp (w : SW Hu P Kd Oo X Y N S n fu Bo) (r : RL Hu Oo X Y n Su Op K) {a : Nat} (ha : a < n) (hm : xMv Hu Oo n a = true) : spA (xMt Hu Oo X n) N (xCa Hu Oo X Y n) X (xSt Hu n) (xMv Hu Oo n) (xSm Hu Oo X Kd N S n) n Su Op a = decide (pth fu Oo X Y K S Bo n a = 1) := by
  rw [spA, spU, s_up ha, spP, hm, r_chn w ha (fun j h => xCa_n (by simp only [Bool.and_eq_true] at h; exact h.1.1)) (fun b hb => (r_fl w r ha hm hb).2), Bool.eq_iff_iff, decide_eq_true_eq, pth_1, s_sm w ha hm]
  show _ ↔ _ ∨ anyB (fun b => rcd Bo (cFl fu Oo X Y K S n a true) n a b && Bo (12 * b + X a)) n = true
  cases xSm Hu Oo X Kd N S n a <;> simp
theorem r_oq (w : SW Hu P Kd Oo X Y N S n fu Bo) (r : RL Hu Oo X Y n Su Op K) {a : Nat} (ha : a < n) (hm : xMv Hu Oo n a = true) : oqA (xMt Hu Oo X n) N (xCa Hu Oo X Y n) X (xSt Hu n) (xMv Hu Oo n) (xSm Hu Oo X Kd N S n) n Su Op a = decide (pth fu Oo X Y K S Bo n a = 0) := by
  have hl := pth_lt fu Oo X Y K S Bo n a
  rw [oqA, s_up ha, oqP, r_chn w ha (fun j h => xCa_n (by simp only [Bool.and_eq_true] at h; exact h.1.1)) (fun b hb => (r_fl w r ha hm hb).2), r_chn w ha (fun j h => xCa_n (by simp only [Bool.and_eq_true] at h; exact h.1)) (fun b hb => (r_fl w r ha hm hb).1), ← s_sm w ha hm]
  show (byS Bo S fu X a && !(crd fu Oo X Y K S Bo n a true) && crd fu Oo X Y K S Bo n a false) = _
  have h1 := pth_1 (fu := fu) (Kd := Oo) (X := X) (Y := Y) (K := K) (S := S) (Bo := Bo) (n := n) (a := a)
  have h2 := pth_2 (fu := fu) (Kd := Oo) (X := X) (Y := Y) (K := K) (S := S) (Bo := Bo) (n := n) (a := a)
  cases e1 : byS Bo S fu X a <;> cases e2 : crd fu Oo X Y K S Bo n a true <;> cases e3 : crd fu Oo X Y K S Bo n a false <;> rw [e1, e2] at h1 <;> rw [e1, e3] at h2 <;> simp at h1 h2 ⊢ <;> omega
end SD
