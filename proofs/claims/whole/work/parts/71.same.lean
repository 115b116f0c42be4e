/-! The class's sets and the reference's answers are the same. Mine. -/
abbrev SW (Hu : Nat → Bool) (P Kd Oo X Y : Nat → Nat) (N : Nat → Nat → Bool) (S : Nat → Bool) (n : Nat) (fu : Nat → Int32) (Bo : Nat → Bool) : Prop :=
  (n ≤ 12) ∧ (∀ j, j < n → X j < n) ∧ (∀ j, j < n → Y j < n) ∧ (∀ j, P j < 4) ∧ (∀ j, Kd j < 2) ∧ (∀ j, j < n → fu j = unI (Hu j) (P j) (Kd j)) ∧ (okF fu) ∧ (∀ a b, a < n → b < n → Bo (12 * a + b) = N a b) ∧ (∀ a b, a < n → b < n → N a b = N b a) ∧ (∀ j, j < n → Hu j = true → Oo j = 2 → Hu (X j) = true) ∧ (∀ j, j < n → Hu j = true → Oo j = 3 → S j = true)
theorem SW.hn {Hu : Nat → Bool} {P Kd Oo X Y : Nat → Nat} {N : Nat → Nat → Bool} {S : Nat → Bool} {n : Nat} {fu : Nat → Int32} {Bo : Nat → Bool} (w : SW Hu P Kd Oo X Y N S n fu Bo) : n ≤ 12 := w.1
theorem SW.hX {Hu : Nat → Bool} {P Kd Oo X Y : Nat → Nat} {N : Nat → Nat → Bool} {S : Nat → Bool} {n : Nat} {fu : Nat → Int32} {Bo : Nat → Bool} (w : SW Hu P Kd Oo X Y N S n fu Bo) : ∀ j, j < n → X j < n := w.2.1
theorem SW.hY {Hu : Nat → Bool} {P Kd Oo X Y : Nat → Nat} {N : Nat → Nat → Bool} {S : Nat → Bool} {n : Nat} {fu : Nat → Int32} {Bo : Nat → Bool} (w : SW Hu P Kd Oo X Y N S n fu Bo) : ∀ j, j < n → Y j < n := w.2.2.1
theorem SW.hP {Hu : Nat → Bool} {P Kd Oo X Y : Nat → Nat} {N : Nat → Nat → Bool} {S : Nat → Bool} {n : Nat} {fu : Nat → Int32} {Bo : Nat → Bool} (w : SW Hu P Kd Oo X Y N S n fu Bo) : ∀ j, P j < 4 := w.2.2.2.1
theorem SW.hK {Hu : Nat → Bool} {P Kd Oo X Y : Nat → Nat} {N : Nat → Nat → Bool} {S : Nat → Bool} {n : Nat} {fu : Nat → Int32} {Bo : Nat → Bool} (w : SW Hu P Kd Oo X Y N S n fu Bo) : ∀ j, Kd j < 2 := w.2.2.2.2.1
theorem SW.hfu {Hu : Nat → Bool} {P Kd Oo X Y : Nat → Nat} {N : Nat → Nat → Bool} {S : Nat → Bool} {n : Nat} {fu : Nat → Int32} {Bo : Nat → Bool} (w : SW Hu P Kd Oo X Y N S n fu Bo) : ∀ j, j < n → fu j = unI (Hu j) (P j) (Kd j) := w.2.2.2.2.2.1
theorem SW.hU {Hu : Nat → Bool} {P Kd Oo X Y : Nat → Nat} {N : Nat → Nat → Bool} {S : Nat → Bool} {n : Nat} {fu : Nat → Int32} {Bo : Nat → Bool} (w : SW Hu P Kd Oo X Y N S n fu Bo) : okF fu := w.2.2.2.2.2.2.1
theorem SW.hBo {Hu : Nat → Bool} {P Kd Oo X Y : Nat → Nat} {N : Nat → Nat → Bool} {S : Nat → Bool} {n : Nat} {fu : Nat → Int32} {Bo : Nat → Bool} (w : SW Hu P Kd Oo X Y N S n fu Bo) : ∀ a b, a < n → b < n → Bo (12 * a + b) = N a b := w.2.2.2.2.2.2.2.1
theorem SW.hNs {Hu : Nat → Bool} {P Kd Oo X Y : Nat → Nat} {N : Nat → Nat → Bool} {S : Nat → Bool} {n : Nat} {fu : Nat → Int32} {Bo : Nat → Bool} (w : SW Hu P Kd Oo X Y N S n fu Bo) : ∀ a b, a < n → b < n → N a b = N b a := w.2.2.2.2.2.2.2.2.1
theorem SW.hsup {Hu : Nat → Bool} {P Kd Oo X Y : Nat → Nat} {N : Nat → Nat → Bool} {S : Nat → Bool} {n : Nat} {fu : Nat → Int32} {Bo : Nat → Bool} (w : SW Hu P Kd Oo X Y N S n fu Bo) : ∀ j, j < n → Hu j = true → Oo j = 2 → Hu (X j) = true := w.2.2.2.2.2.2.2.2.2.1
theorem SW.hcon {Hu : Nat → Bool} {P Kd Oo X Y : Nat → Nat} {N : Nat → Nat → Bool} {S : Nat → Bool} {n : Nat} {fu : Nat → Int32} {Bo : Nat → Bool} (w : SW Hu P Kd Oo X Y N S n fu Bo) : ∀ j, j < n → Hu j = true → Oo j = 3 → S j = true := w.2.2.2.2.2.2.2.2.2.2
theorem unI_neg (b : Bool) {p k : Nat} (hp : p < 4) (hk : k < 2) : decide (unI b p k < 0) = !b := by
  cases b
  · show decide ((-1 : Int32) < 0) = true
    decide
  · have h : ∀ p, p < 4 → ∀ k, k < 2 → ¬ nI (2 * p + k) < 0 := by decide +kernel
    simpa [unI] using h p hp k hk
theorem nI_4 : ∀ p, p < 4 → ∀ q, q < 4 → (nI p = nI q ↔ p = q) := by decide +kernel
theorem nI_m1 : ∀ p, p < 4 → ¬ nI p = -1 := by decide +kernel
section SA
variable {Hu : Nat → Bool} {P Kd Oo X Y : Nat → Nat} {N : Nat → Nat → Bool} {S : Nat → Bool} {n : Nat} {fu : Nat → Int32} {Bo : Nat → Bool}
theorem s_neg (w : SW Hu P Kd Oo X Y N S n fu Bo) {j : Nat} (hj : j < n) : decide (fu j < 0) = !Hu j := by rw [w.hfu j hj]; exact unI_neg _ (w.hP j) (w.hK j)
theorem s_div (w : SW Hu P Kd Oo X Y N S n fu Bo) {j : Nat} (hj : j < n) (h : Hu j = true) : fu j / 2 = nI (P j) := by rw [w.hfu j hj, h]; exact (unI_t8 _ (w.hP j) _ (w.hK j)).1
theorem s_mod (w : SW Hu P Kd Oo X Y N S n fu Bo) {j : Nat} (hj : j < n) (h : Hu j = true) : fu j - fu j / 2 * 2 = nI (Kd j) := by rw [w.hfu j hj, h]; exact (unI_t8 _ (w.hP j) _ (w.hK j)).2.1
theorem s_up {p : Nat → Bool} {j : Nat} (hj : j < n) : upTo p n j = p j := by simp [upTo, hj]
theorem s_mv (w : SW Hu P Kd Oo X Y N S n fu Bo) {j : Nat} (hj : j < n) : mvs fu Oo j = xMv Hu Oo n j := by
  rw [xMv, s_up hj, mvs, s_neg w hj, Bool.not_not]; rfl
theorem s_mvn {j : Nat} (h : xMv Hu Oo n j = true) : j < n ∧ Hu j = true ∧ Oo j = 1 := by
  simp [xMv, upTo, mvR] at h; exact h
theorem s_mt (w : SW Hu P Kd Oo X Y N S n fu Bo) {j : Nat} (hj : j < n) (x : Nat) : mvT fu Oo X j x = xMt Hu Oo X n x j := by
  rw [xMt, s_up hj, mvT, mvs, s_neg w hj, Bool.not_not]; rfl
theorem s_mtn {x j : Nat} (h : xMt Hu Oo X n x j = true) : j < n ∧ Hu j = true ∧ Oo j = 1 ∧ X j = x := by
  simp [xMt, upTo, mtR] at h; exact ⟨h.1, h.2.1.1, h.2.1.2, h.2.2⟩
theorem s_mtv {x j : Nat} : xMt Hu Oo X n x j = (xMv Hu Oo n j && decide (X j = x)) := by
  simp only [xMt, xMv, upTo, mtR, mvR, Bool.and_assoc]
theorem s_st {j : Nat} (hj : j < n) : xSt Hu n j = Hu j := s_up hj
theorem s_stn {j : Nat} (h : xSt Hu n j = true) : j < n ∧ Hu j = true := by simp [xSt, upTo] at h; exact h
theorem s_go (w : SW Hu P Kd Oo X Y N S n fu Bo) {j b : Nat} (hj : j < n) (hb : b < n) (h : Hu j = true) : cGo Bo S (fu j) j b = (N j b && ((S j || S b) == decide (nI (Kd j) = 1))) := by
  rw [cGo, w.hBo j b hj hb, s_mod w hj h]
  have := w.hK j
  rcases (show Kd j = 0 ∨ Kd j = 1 by omega) with e | e <;> rw [e]
  · rw [if_pos (by decide), show decide (nI 0 = 1) = false by decide]
    cases S j <;> cases S b <;> rfl
  · rw [if_neg (by decide), show decide (nI 1 = 1) = true by decide]
    cases S j <;> cases S b <;> rfl
theorem s_sm (w : SW Hu P Kd Oo X Y N S n fu Bo) {j : Nat} (hj : j < n) (h : xMv Hu Oo n j = true) : byS Bo S fu X j = xSm Hu Oo X Kd N S n j := by
  obtain ⟨_, h1, h2⟩ := s_mvn h
  rw [xSm, s_up hj, byS, s_go w hj (w.hX j hj) h1, smR, h1, h2]; simp
theorem s_smv {j : Nat} (h : xSm Hu Oo X Kd N S n j = true) : xMv Hu Oo n j = true := by
  simp [xSm, upTo, smR] at h
  simp [xMv, upTo, mvR, h]
theorem s_ho (w : SW Hu P Kd Oo X Y N S n fu Bo) {j : Nat} (hj : j < n) (h : xMv Hu Oo n j = true) : hOn Bo S fu Oo X j = xHo Hu Oo X Kd N S n j := by
  rw [xHo, s_up hj, hOn, hoR, h, s_mt w (w.hX j hj) j, s_sm w hj h]
  cases hx : xMv Hu Oo n (X j) with
  | false => rw [s_mtv, hx]; simp
  | true =>
    rw [s_sm w (w.hX j hj) hx]
    cases xMt Hu Oo X n j (X j) <;> cases xSm Hu Oo X Kd N S n j <;> cases xSm Hu Oo X Kd N S n (X j) <;> rfl
theorem s_hom {j : Nat} (h : xHo Hu Oo X Kd N S n j = true) : xMv Hu Oo n j = true := by
  simp [xHo, upTo, hoR] at h; exact h.2.1.1
theorem s_spt (w : SW Hu P Kd Oo X Y N S n fu Bo) {j : Nat} (hj : j < n) : spt fu Oo j = (Hu j && decide (Oo j = 2)) := by rw [spt, s_neg w hj, Bool.not_not]
/-- supports of a move, of one that stays -/
theorem s_bkm (w : SW Hu P Kd Oo X Y N S n fu Bo) {s a : Nat} (hs : s < n) (ha : a < n) (hm : xMv Hu Oo n a = true) : isF fu Oo X Y s a = xBk Hu Oo X Y n a s := by
  rw [xBk]
  show _ = upTo (bkR (xSt Hu n) (xMv Hu Oo n) (xMt Hu Oo X n) Oo X Y a) n s
  rw [s_up hs, isF, s_spt w hs, bkR, hsR, s_st hs, s_mt w ha]
  by_cases hx : X s = a
  · subst hx; rw [hm]; simp
  · simp [hx]
theorem s_bks (w : SW Hu P Kd Oo X Y N S n fu Bo) {s a : Nat} (hs : s < n) (ha : a < n) (hm : xMv Hu Oo n a = false) : isS fu Oo X Y s a = xBk Hu Oo X Y n a s := by
  rw [xBk]
  show _ = upTo (bkR (xSt Hu n) (xMv Hu Oo n) (xMt Hu Oo X n) Oo X Y a) n s
  rw [s_up hs, isS, s_spt w hs, s_neg w ha, s_mv w ha, hm, bkR, hsR, s_st hs, Bool.not_not]
  by_cases hx : X s = a
  · subst hx
    rw [s_mtv, hm]
    cases h1 : Hu s with
    | false => simp
    | true =>
      by_cases h2 : Oo s = 2
      · have := w.hsup s hs h1 h2
        simp [h2, this]
        exact eq_comm
      · simp [h2]
  · simp [hx]
theorem s_bkn {a s : Nat} (h : xBk Hu Oo X Y n a s = true) : s < n ∧ xOp Hu Oo X Y n s = true ∧ X s = a ∧ Hu s = true ∧ Oo s = 2 := by
  simp only [xBk, upTo, bkR, Bool.and_eq_true, decide_eq_true_eq] at h
  have h2 := h.2.1
  simp only [hsR, Bool.and_eq_true, decide_eq_true_eq] at h2
  refine ⟨h.1, ?_, h.2.2, (s_stn h2.1.1).2, h2.1.2⟩
  simp only [xOp, orU, upTo, Bool.or_eq_true, Bool.and_eq_true, decide_eq_true_eq]
  exact Or.inr ⟨h.1, h.2.1⟩
theorem s_opm {j : Nat} (h : xMv Hu Oo n j = true) : xOp Hu Oo X Y n j = true := by simp [xOp, orU, h]
theorem s_opn {j : Nat} (h : xOp Hu Oo X Y n j = true) : j < n ∧ Hu j = true ∧ (Oo j = 1 ∨ Oo j = 2) := by
  simp only [xOp, orU, Bool.or_eq_true] at h
  rcases h with h | h
  · obtain ⟨h1, h2, h3⟩ := s_mvn h; exact ⟨h1, h2, Or.inl h3⟩
  · simp only [upTo, hsR, Bool.and_eq_true, decide_eq_true_eq] at h
    exact ⟨h.1, (s_stn h.2.1.1).2, Or.inr h.2.1.2⟩
end SA
/-- what is sure and what is left, and what the reference knows -/
abbrev RL (Hu : Nat → Bool) (Oo X Y : Nat → Nat) (n : Nat) (Su Op : Nat → Bool) (K : Nat → Nat) : Prop :=
  (∀ j, K j < 3) ∧ (∀ j, Su j = (xOp Hu Oo X Y n j && decide (K j = 1))) ∧ (∀ j, Op j = (xOp Hu Oo X Y n j && decide (K j = 0))) ∧ (∀ j, j < n → Hu j = true → Oo j = 2 → xOp Hu Oo X Y n j = false → K j = 2)
theorem RL.k3 {Hu : Nat → Bool} {Oo X Y : Nat → Nat} {n : Nat} {Su Op : Nat → Bool} {K : Nat → Nat} (w : RL Hu Oo X Y n Su Op K) : ∀ j, K j < 3 := w.1
theorem RL.su {Hu : Nat → Bool} {Oo X Y : Nat → Nat} {n : Nat} {Su Op : Nat → Bool} {K : Nat → Nat} (w : RL Hu Oo X Y n Su Op K) : ∀ j, Su j = (xOp Hu Oo X Y n j && decide (K j = 1)) := w.2.1
theorem RL.op {Hu : Nat → Bool} {Oo X Y : Nat → Nat} {n : Nat} {Su Op : Nat → Bool} {K : Nat → Nat} (w : RL Hu Oo X Y n Su Op K) : ∀ j, Op j = (xOp Hu Oo X Y n j && decide (K j = 0)) := w.2.2.1
theorem RL.vd {Hu : Nat → Bool} {Oo X Y : Nat → Nat} {n : Nat} {Su Op : Nat → Bool} {K : Nat → Nat} (w : RL Hu Oo X Y n Su Op K) : ∀ j, j < n → Hu j = true → Oo j = 2 → xOp Hu Oo X Y n j = false → K j = 2 := w.2.2.2
section SB
variable {Hu : Nat → Bool} {P Kd Oo X Y : Nat → Nat} {N : Nat → Nat → Bool} {S : Nat → Bool} {n : Nat} {fu : Nat → Int32} {Bo : Nat → Bool} {Su Op : Nat → Bool} {K : Nat → Nat}
theorem r_su (r : RL Hu Oo X Y n Su Op K) {j : Nat} (h : xMv Hu Oo n j = true) : Su j = decide (K j = 1) := by rw [r.su, s_opm h]; rfl
theorem r_op (r : RL Hu Oo X Y n Su Op K) {j : Nat} (h : xMv Hu Oo n j = true) : Op j = decide (K j = 0) := by rw [r.op, s_opm h]; rfl
/-- displaced -/
theorem r_sd (w : SW Hu P Kd Oo X Y N S n fu Bo) (r : RL Hu Oo X Y n Su Op K) {a : Nat} (ha : a < n) (hu : Hu a = true) : sdA (xMt Hu Oo X n) (xSt Hu n) (xMv Hu Oo n) n Su Op a = decide (dsA fu Oo X K n a = 1) := by
  rw [sdA, s_up ha, Bool.eq_iff_iff, decide_eq_true_eq, dsA_1]
  simp only [sdP, mdP, sdS, Bool.and_eq_true, anyB_iff, s_st ha, hu, Bool.not_eq_true', Bool.or_eq_true, true_and]
  rw [s_mv w ha]
  constructor
  · rintro ⟨⟨h1, _⟩, h3, ⟨b, hb, h4, h5⟩⟩
    obtain ⟨hbn, hb1, hb2, hb3⟩ := s_mtn h4
    have hbm : xMv Hu Oo n b = true := by simp [xMv, upTo, mvR, hbn, hb1, hb2]
    refine ⟨⟨b, hbn, by rw [s_mt w hbn]; exact h4, by rw [r_su r hbm] at h5; simpa using h5⟩, ?_⟩
    cases hm : xMv Hu Oo n a with
    | false => exact Or.inl rfl
    | true =>
      rw [r_su r hm, hm] at h1
      rw [r_op r hm, hm] at h3
      have := r.k3 a
      simp at h1 h3
      exact Or.inr (by omega)
  · rintro ⟨⟨b, hb, h4, h5⟩, h6⟩
    rw [s_mt w hb] at h4
    obtain ⟨hbn, hb1, hb2, hb3⟩ := s_mtn h4
    have hbm : xMv Hu Oo n b = true := by simp [xMv, upTo, mvR, hbn, hb1, hb2]
    have hsb : Su b = true := by rw [r_su r hbm, h5]; rfl
    have hb12 : b < 12 := Nat.lt_of_lt_of_le hb w.hn
    refine ⟨⟨?_, ⟨b, hb12, h4, Or.inl hsb⟩⟩, ?_, ⟨b, hb12, h4, hsb⟩⟩
    · rcases h6 with h6 | h6
      · rw [h6, Bool.and_false]
      · cases hm : xMv Hu Oo n a with
        | false => rw [Bool.and_false]
        | true => rw [r_su r hm, h6]; rfl
    · rcases h6 with h6 | h6
      · rw [h6, Bool.and_false]
      · cases hm : xMv Hu Oo n a with
        | false => rw [Bool.and_false]
        | true => rw [r_op r hm, h6]; rfl
theorem r_od (w : SW Hu P Kd Oo X Y N S n fu Bo) (r : RL Hu Oo X Y n Su Op K) {a : Nat} (ha : a < n) (hu : Hu a = true) : odA (xMt Hu Oo X n) (xSt Hu n) (xMv Hu Oo n) n Su Op a = decide (dsA fu Oo X K n a = 0) := by
  have hs := r_sd w r ha hu
  have hl := dsA_lt fu Oo X K n a
  have hmd : mdP (xMt Hu Oo X n) (xSt Hu n) (xMv Hu Oo n) Su Op a = !decide (dsA fu Oo X K n a = 2) := by
    rw [Bool.eq_iff_iff, Bool.not_eq_true', decide_eq_false_iff_not, dsA_2]
    simp only [mdP, Bool.and_eq_true, anyB_iff, s_st ha, hu, Bool.not_eq_true', Bool.or_eq_true, true_and]
    rw [s_mv w ha]
    constructor
    · rintro ⟨h1, ⟨b, hb, h4, h5⟩⟩ h6
      obtain ⟨hbn, hb1, hb2, hb3⟩ := s_mtn h4
      have hbm : xMv Hu Oo n b = true := by simp [xMv, upTo, mvR, hbn, hb1, hb2]
      rcases h6 with h6 | h6
      · have h7 := h6 b hbn (by rw [s_mt w hbn]; exact h4)
        rw [r_su r hbm, r_op r hbm, h7] at h5
        rcases h5 with h5 | h5 <;> cases h5
      · rw [r_su r h6.1, h6.2, h6.1] at h1; cases h1
    · intro h6
      rw [not_or] at h6
      constructor
      · cases hm : xMv Hu Oo n a with
        | false => rw [Bool.and_false]
        | true =>
          rw [r_su r hm]
          simp
          intro h7
          exact h6.2 ⟨hm, h7⟩
      · have h7 := h6.1
        simp only [Classical.not_forall] at h7
        obtain ⟨b, hb, h8, h9⟩ := h7
        rw [s_mt w hb] at h8
        obtain ⟨hbn, hb1, hb2, hb3⟩ := s_mtn h8
        have hbm : xMv Hu Oo n b = true := by simp [xMv, upTo, mvR, hbn, hb1, hb2]
        refine ⟨b, Nat.lt_of_lt_of_le hb w.hn, h8, ?_⟩
        rw [r_su r hbm, r_op r hbm]
        have := r.k3 b
        simp
        omega
  rw [odA, s_up ha, odP, hmd]
  rw [sdA, s_up ha, sdP, hmd] at hs
  rcases (show dsA fu Oo X K n a = 0 ∨ dsA fu Oo X K n a = 1 ∨ dsA fu Oo X K n a = 2 by omega) with e | e | e <;> rw [e] at hs ⊢ <;> simp at hs ⊢ <;> exact hs
end SB
