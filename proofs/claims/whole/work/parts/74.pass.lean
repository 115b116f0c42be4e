/-! Passes over the orders: the same in both. Mine. -/
section SF
variable {Hu : Nat → Bool} {P Kd Oo X Y : Nat → Nat} {N : Nat → Nat → Bool} {S : Nat → Bool} {n : Nat} {fu : Nat → Int32} {Bo : Nat → Bool} {Su Op : Nat → Bool} {K : Nat → Nat}
/-- one order is judged v -/
theorem rl_set (r : RL Hu Oo X Y n Su Op K) {a v : Nat} (ha : Op a = true) (hv : v < 3) : RL Hu Oo X Y n (suN v Su a) (opN v Op a) (upN K a v) := by
  have h0 := ha
  rw [r.op, Bool.and_eq_true, decide_eq_true_eq] at h0
  obtain ⟨hx, hk⟩ := h0
  refine ⟨upN_lt r.k3 hv, fun j => ?_, fun j => ?_, fun j hj hu h2 hxj => ?_⟩
  · by_cases e : j = a
    · subst e
      rw [upN_s, hx]
      rcases (show v = 0 ∨ v = 1 ∨ v = 2 by omega) with e | e | e <;> subst e
      · show Su j = _
        rw [r.su, hk]; simp
      · show (Su j || decide (j = j)) = _
        simp
      · show Su j = _
        rw [r.su, hk]; simp
    · rw [upN_n _ _ e, ← r.su]
      rcases (show v = 0 ∨ v = 1 ∨ v = 2 by omega) with e1 | e1 | e1 <;> subst e1
      · rfl
      · show (Su j || decide (j = a)) = _
        simp [e]
      · rfl
  · by_cases e : j = a
    · subst e
      rw [upN_s, hx]
      rcases (show v = 0 ∨ v = 1 ∨ v = 2 by omega) with e | e | e <;> subst e
      · show Op j = _
        rw [ha]; simp
      · show (Op j && !(decide (j = j))) = _
        simp
      · show (Op j && !(decide (j = j))) = _
        simp
    · rw [upN_n _ _ e, ← r.op]
      rcases (show v = 0 ∨ v = 1 ∨ v = 2 by omega) with e1 | e1 | e1 <;> subst e1
      · rfl
      · show (Op j && !(decide (j = a))) = _
        simp [e]
      · show (Op j && !(decide (j = a))) = _
        simp [e]
  · by_cases e : j = a
    · subst e; rw [hx] at hxj; cases hxj
    · rw [upN_n _ _ e]; exact r.vd j hj hu h2 hxj
theorem s_iso (w : SW Hu P Kd Oo X Y N S n fu Bo) (r : RL Hu Oo X Y n Su Op K) {a : Nat} (ha : a < n) : isO fu Oo K a = Op a := by
  rw [isO, s_mv w ha, s_spt w ha, r.op]
  cases hx : xOp Hu Oo X Y n a with
  | true =>
    obtain ⟨_, h1, h2⟩ := s_opn hx
    rcases h2 with h2 | h2
    · have : xMv Hu Oo n a = true := by simp [xMv, upTo, mvR, ha, h1, h2]
      rw [this]; simp
    · rw [h1, h2]; simp
  | false =>
    cases hm : xMv Hu Oo n a with
    | true => rw [s_opm hm] at hx; cases hx
    | false =>
      cases hu : Hu a with
      | false => simp
      | true =>
        by_cases h2 : Oo a = 2
        · simp [h2, r.vd a ha hu h2 hx]
        · simp [h2]
/-- one step: what is sure and open goes with what is known -/
theorem r_st (w : SW Hu P Kd Oo X Y N S n fu Bo) {q : (Nat → Bool) × (Nat → Bool)} (r : RL Hu Oo X Y n q.1 q.2 K) {a : Nat} (ha : a < n) :
    RL Hu Oo X Y n (stC (xBk Hu Oo X Y n) (xUp Hu P n) (xMt Hu Oo X n) N (xCa Hu Oo X Y n) X Y P (xSt Hu n) (xMv Hu Oo n) (xSm Hu Oo X Kd N S n) (xHo Hu Oo X Kd N S n) Hu n q a).1 (stC (xBk Hu Oo X Y n) (xUp Hu P n) (xMt Hu Oo X n) N (xCa Hu Oo X Y n) X Y P (xSt Hu n) (xMv Hu Oo n) (xSm Hu Oo X Kd N S n) (xHo Hu Oo X Kd N S n) Hu n q a).2 (stK fu Oo X Y K S Bo n a) := by
  have hiso := s_iso w r ha
  unfold stK
  rw [hiso]
  cases ho : q.2 a with
  | false =>
    rw [stC_0 ho, if_neg (by decide)]
    exact r
  | true =>
    rw [if_pos rfl]
    have hx : xOp Hu Oo X Y n a = true := by have := r.op a; rw [ho] at this; cases h : xOp Hu Oo X Y n a <;> simp [h] at this ⊢
    cases hm : xMv Hu Oo n a with
    | true =>
      rw [stC_m (by rw [ho, hm]; rfl), r_jm w r ha hm, jdg, s_mv w ha, hm, if_pos rfl]
      exact rl_set r ho (jmv_lt fu Oo X Y K S Bo n a)
    | false =>
      rw [stC_s (by rw [ho, hm]; rfl) ho, r_js w r ha (s_opn hx).2.1, jdg, s_mv w ha, hm, if_neg (by decide)]
      exact rl_set r ho (jsp_lt fu Oo X Y K S Bo n a)
theorem r_ps (w : SW Hu P Kd Oo X Y N S n fu Bo) {q : (Nat → Bool) × (Nat → Bool)} (r : RL Hu Oo X Y n q.1 q.2 K) : ∀ i, i ≤ n →
    RL Hu Oo X Y n (psC (xBk Hu Oo X Y n) (xUp Hu P n) (xMt Hu Oo X n) N (xCa Hu Oo X Y n) X Y P (xSt Hu n) (xMv Hu Oo n) (xSm Hu Oo X Kd N S n) (xHo Hu Oo X Kd N S n) Hu n q i).1 (psC (xBk Hu Oo X Y n) (xUp Hu P n) (xMt Hu Oo X n) N (xCa Hu Oo X Y n) X Y P (xSt Hu n) (xMv Hu Oo n) (xSm Hu Oo X Kd N S n) (xHo Hu Oo X Kd N S n) Hu n q i).2 (psK fu Oo X Y K S Bo n i) := by
  intro i
  induction i with
  | zero => intro _; exact r
  | succ i ih =>
    intro hi
    rw [psC_1]
    exact r_st w (ih (by omega)) (show i < n by omega)
end SF
