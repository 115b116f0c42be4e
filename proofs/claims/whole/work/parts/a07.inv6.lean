/-! The sheets that are kept. Mine. -/
section IZ
variable {fu fw : Nat → Int32} {Kd X Y Rs : Nat → Nat} {g : Nat → Int32} {p : Nat}
theorem kpL_lo {m : Nat} (h : m ≤ p ∨ p + 73 ≤ m) : ∀ i, i ≤ 12 → kpL fu fw Kd X Y Rs g p i m = g m
  | 0, _ => rfl
  | i + 1, hi => by
    have ih := kpL_lo h i (by omega)
    simp only [kpL, kp1, upd]
    rw [if_neg (by omega), if_neg (by omega), if_neg (by omega), if_neg (by omega), if_neg (by omega), if_neg (by omega)]
    exact ih
theorem kpL_1 {a : Nat} : ∀ i, i ≤ 12 → a < i → kpL fu fw Kd X Y Rs g p i (p + 1 + a) = fu a
  | 0, _, h => absurd h (Nat.not_lt_zero _)
  | i + 1, hi, h => by
    simp only [kpL, kp1, upd]
    by_cases e : a = i
    · subst e
      rw [if_neg (by omega), if_neg (by omega), if_neg (by omega), if_neg (by omega), if_neg (by omega)]
      exact if_pos rfl
    · have ih := kpL_1 i (by omega) (show a < i by omega)
      rw [if_neg (by omega), if_neg (by omega), if_neg (by omega), if_neg (by omega), if_neg (by omega), if_neg (by omega)]
      exact ih
theorem kpL_13 {a : Nat} : ∀ i, i ≤ 12 → a < i → kpL fu fw Kd X Y Rs g p i (p + 13 + a) = fw a
  | 0, _, h => absurd h (Nat.not_lt_zero _)
  | i + 1, hi, h => by
    simp only [kpL, kp1, upd]
    by_cases e : a = i
    · subst e
      rw [if_neg (by omega), if_neg (by omega), if_neg (by omega), if_neg (by omega)]
      exact if_pos rfl
    · have ih := kpL_13 i (by omega) (show a < i by omega)
      rw [if_neg (by omega), if_neg (by omega), if_neg (by omega), if_neg (by omega), if_neg (by omega), if_neg (by omega)]
      exact ih
theorem kpL_25 {a : Nat} : ∀ i, i ≤ 12 → a < i → kpL fu fw Kd X Y Rs g p i (p + 25 + a) = nI (Kd a)
  | 0, _, h => absurd h (Nat.not_lt_zero _)
  | i + 1, hi, h => by
    simp only [kpL, kp1, upd]
    by_cases e : a = i
    · subst e
      rw [if_neg (by omega), if_neg (by omega), if_neg (by omega)]
      exact if_pos rfl
    · have ih := kpL_25 i (by omega) (show a < i by omega)
      rw [if_neg (by omega), if_neg (by omega), if_neg (by omega), if_neg (by omega), if_neg (by omega), if_neg (by omega)]
      exact ih
theorem kpL_37 {a : Nat} : ∀ i, i ≤ 12 → a < i → kpL fu fw Kd X Y Rs g p i (p + 37 + a) = nI (X a)
  | 0, _, h => absurd h (Nat.not_lt_zero _)
  | i + 1, hi, h => by
    simp only [kpL, kp1, upd]
    by_cases e : a = i
    · subst e
      rw [if_neg (by omega), if_neg (by omega)]
      exact if_pos rfl
    · have ih := kpL_37 i (by omega) (show a < i by omega)
      rw [if_neg (by omega), if_neg (by omega), if_neg (by omega), if_neg (by omega), if_neg (by omega), if_neg (by omega)]
      exact ih
theorem kpL_49 {a : Nat} : ∀ i, i ≤ 12 → a < i → kpL fu fw Kd X Y Rs g p i (p + 49 + a) = nI (Y a)
  | 0, _, h => absurd h (Nat.not_lt_zero _)
  | i + 1, hi, h => by
    simp only [kpL, kp1, upd]
    by_cases e : a = i
    · subst e
      rw [if_neg (by omega)]
      exact if_pos rfl
    · have ih := kpL_49 i (by omega) (show a < i by omega)
      rw [if_neg (by omega), if_neg (by omega), if_neg (by omega), if_neg (by omega), if_neg (by omega), if_neg (by omega)]
      exact ih
theorem kpL_61 {a : Nat} : ∀ i, i ≤ 12 → a < i → kpL fu fw Kd X Y Rs g p i (p + 61 + a) = nI (Rs a)
  | 0, _, h => absurd h (Nat.not_lt_zero _)
  | i + 1, hi, h => by
    simp only [kpL, kp1, upd]
    by_cases e : a = i
    · subst e
      exact if_pos rfl
    · have ih := kpL_61 i (by omega) (show a < i by omega)
      rw [if_neg (by omega), if_neg (by omega), if_neg (by omega), if_neg (by omega), if_neg (by omega), if_neg (by omega)]
      exact ih
end IZ
section JA
variable {n : Nat} {S Ce : Nat → Bool} {fu fw fu' fw' : Nat → Int32} {Oo X Y Rs : Nat → Nat} {nx lf : Nat} {tn : Int32} {pt : Nat → Int32} {pu pw : Nat → Nat → Int32} {vo vx vy vr : Nat → Nat → Nat} {fp : Nat → Int32}
/-- what is said of one kept sheet -/
def P1 (n : Nat) (S Ce : Nat → Bool) (t : Int32) (fu fw : Nat → Int32) (Oo X Y Rs : Nat → Nat) (fp : Nat → Int32) (b : Nat) : Prop :=
  SH n Ce fu fw Oo X Y Rs ∧ SV n S fu Oo X Y ∧ fp b = t ∧ (∀ j, j < 12 → fp (b + 1 + j) = -1 ∨ ∃ u, u < 8 ∧ fp (b + 1 + j) = nI u) ∧ (∀ j, j < n → fp (b + 1 + j) = fu j) ∧ (∀ j, j < n → fp (b + 13 + j) = fw j) ∧ (∀ j, j < 12 → fp (b + 25 + j) = nI (Oo j)) ∧ (∀ j, j < 12 → fp (b + 37 + j) = nI (X j)) ∧ (∀ j, j < 12 → fp (b + 49 + j) = nI (Y j)) ∧ (∀ j, j < 12 → fp (b + 61 + j) = nI (Rs j))
theorem P1_of (h : PS n S Ce nx lf pt pu pw vo vx vy vr fp) {k : Nat} (hk : k < lf) : P1 n S Ce (pt (pix nx lf k)) (pu (pix nx lf k)) (pw (pix nx lf k)) (vo (pix nx lf k)) (vx (pix nx lf k)) (vy (pix nx lf k)) (vr (pix nx lf k)) fp (73 * k) := h.2.2.2 k hk
theorem P1_cg {t : Int32} {f g : Nat → Int32} {b c : Nat} (hn : n ≤ 12) (h : P1 n S Ce t fu fw Oo X Y Rs f b) (he : ∀ m, m < 73 → g (c + m) = f (b + m)) : P1 n S Ce t fu fw Oo X Y Rs g c := by
  obtain ⟨h1, h2, h3, h4, h5, h6, h7, h8, h9, h10⟩ := h
  have e : ∀ o j, o + j < 73 → g (c + o + j) = f (b + o + j) := fun o j ho => by rw [Nat.add_assoc, Nat.add_assoc]; exact he _ ho
  refine ⟨h1, h2, (he 0 (by decide)).trans h3, fun j hj => ?_, fun j hj => ?_, fun j hj => ?_, fun j hj => ?_, fun j hj => ?_, fun j hj => ?_, fun j hj => ?_⟩
  · rw [e 1 j (by omega)]; exact h4 j hj
  · rw [e 1 j (by omega)]; exact h5 j hj
  · rw [e 13 j (by omega)]; exact h6 j hj
  · rw [e 25 j (by omega)]; exact h7 j hj
  · rw [e 37 j (by omega)]; exact h8 j hj
  · rw [e 49 j (by omega)]; exact h9 j hj
  · rw [e 61 j (by omega)]; exact h10 j hj
theorem P1_new (hn : n ≤ 12) (hs : SH n Ce fu fw Oo X Y Rs) (hv : SV n S fu Oo X Y) (hr : SM n fu fw fu' fw' Rs) (g : Nat → Int32) (p : Nat) : P1 n S Ce tn fu fw Oo X Y Rs (kpL fu' fw' Oo X Y Rs (upd g p tn) p 12) p := by
  refine ⟨hs, hv, ?_, fun j hj => ?_, fun j hj => ?_, fun j hj => ?_, fun j hj => kpL_25 12 (by decide) hj, fun j hj => kpL_37 12 (by decide) hj, fun j hj => kpL_49 12 (by decide) hj, fun j hj => kpL_61 12 (by decide) hj⟩
  · rw [kpL_lo (Or.inl (Nat.le_refl _)) 12 (by decide)]; exact upd_s
  · rw [kpL_1 12 (by decide) hj]; exact hr.1 j
  · rw [kpL_1 12 (by decide) (show j < 12 by omega)]; exact hr.2.1 j hj
  · rw [kpL_13 12 (by decide) (show j < 12 by omega)]; exact hr.2.2.1 j hj
theorem va_up_y {α : Type} (f : Nat → α) (k : Nat) (v : α) : va_up f k v k = v := by simp [va_up]
theorem va_up_n {α : Type} (f : Nat → α) {k j : Nat} (v : α) (h : ¬ j = k) : va_up f k v j = f j := by simp [va_up, h]
theorem i_keep (hn : n ≤ 12) (hs : SH n Ce fu fw Oo X Y Rs) (hv : SV n S fu Oo X Y) (hr : SM n fu fw fu' fw' Rs) (h : PS n S Ce nx lf pt pu pw vo vx vy vr fp) :
    PS n S Ce ((nx + 1) % 8) (min (lf + 1) 8) (va_up pt nx tn) (va_up pu nx fu) (va_up pw nx fw) (va_up vo nx Oo) (va_up vx nx X) (va_up vy nx Y) (va_up vr nx Rs) (kpA fu' fw' Oo X Y Rs fp tn lf) := by
  obtain ⟨s1, s2, s3, s4, s5, s6, s7, s8, s9⟩ := hs
  have h1 := h.1
  have h2 := h.2.1
  refine ⟨by omega, by omega, fun c => ?_, fun k hk => ?_⟩
  · have hc := h.2.2.1 c
    by_cases e : c = nx
    · subst e; rw [va_up_y, va_up_y, va_up_y, va_up_y]; exact ⟨s6, s7, s8, hr.2.2.2⟩
    · rw [va_up_n _ _ e, va_up_n _ _ e, va_up_n _ _ e, va_up_n _ _ e]; exact hc
  · show P1 n S Ce _ _ _ _ _ _ _ _ (73 * k)
    have hnew : ∀ g p, P1 n S Ce tn fu fw Oo X Y Rs (kpL fu' fw' Oo X Y Rs (upd g p tn) p 12) p := P1_new hn ⟨s1, s2, s3, s4, s5, s6, s7, s8, s9⟩ hv hr
    by_cases h8 : lf = 8
    · subst h8
      have ekp : kpA fu' fw' Oo X Y Rs fp tn 8 = kpL fu' fw' Oo X Y Rs (upd (mxI (fun k => fp (k + 73)) fp 511) (73 * 7) tn) (73 * 7) 12 := if_pos rfl
      rw [ekp]
      by_cases e7 : k = 7
      · subst e7
        have ep : pix ((nx + 1) % 8) (min (8 + 1) 8) 7 = nx := by unfold pix; omega
        rw [ep, va_up_y, va_up_y, va_up_y, va_up_y, va_up_y, va_up_y, va_up_y]
        exact hnew _ _
      · have ep : pix ((nx + 1) % 8) (min (8 + 1) 8) k = pix nx 8 (k + 1) := by unfold pix; omega
        have en : ¬ pix nx 8 (k + 1) = nx := by unfold pix; omega
        rw [ep, va_up_n _ _ en, va_up_n _ _ en, va_up_n _ _ en, va_up_n _ _ en, va_up_n _ _ en, va_up_n _ _ en, va_up_n _ _ en]
        refine P1_cg hn (P1_of h (k := k + 1) (by omega)) (fun m hm => ?_)
        rw [kpL_lo (Or.inl (by omega)) 12 (by decide), upd_n (by omega)]
        unfold mxI
        rw [if_pos (by omega)]
        show fp (73 * k + m + 73) = fp (73 * (k + 1) + m)
        rw [show 73 * k + m + 73 = 73 * (k + 1) + m by omega]
    · have ekp : kpA fu' fw' Oo X Y Rs fp tn lf = kpL fu' fw' Oo X Y Rs (upd fp (73 * lf) tn) (73 * lf) 12 := if_neg h8
      rw [ekp]
      by_cases e7 : k = lf
      · subst e7
        have ep : pix ((nx + 1) % 8) (min (k + 1) 8) k = nx := by unfold pix; omega
        rw [ep, va_up_y, va_up_y, va_up_y, va_up_y, va_up_y, va_up_y, va_up_y]
        exact hnew _ _
      · have ep : pix ((nx + 1) % 8) (min (lf + 1) 8) k = pix nx lf k := by unfold pix; omega
        have en : ¬ pix nx lf k = nx := by unfold pix; omega
        rw [ep, va_up_n _ _ en, va_up_n _ _ en, va_up_n _ _ en, va_up_n _ _ en, va_up_n _ _ en, va_up_n _ _ en, va_up_n _ _ en]
        refine P1_cg hn (P1_of h (k := k) (by omega)) (fun m hm => ?_)
        rw [kpL_lo (Or.inl (by omega)) 12 (by decide), upd_n (by omega)]
end JA
