section IW
variable {n : Nat} {S Ce : Nat → Bool} {N : Nat → Nat → Bool} {Bo : Nat → Bool} {ph : Int32} {fu fw fu' fw' : Nat → Int32} {Oo X Y Rs K : Nat → Nat} {ga go gg : Nat → Int32} {Co : Nat → Bool} {fa fg fr : Nat → Int32} {Co' : Nat → Bool} {nx lf : Nat} {pt : Nat → Int32} {pu pw : Nat → Nat → Int32} {vo vx vy vr : Nat → Nat → Nat} {fp : Nat → Int32}
theorem okN_lt {f : Nat → Nat} {a v b : Nat} (h : ∀ j, f j < b) (hv : v < b) (r : Nat) : ∀ j, okN r f a v j < b := by
  cases r with
  | zero => exact upN_lt h hv
  | succ r => exact h
/-- what is the same in both: goings, standings -/
theorem e_neg (hi : INV n S Ce N Bo ph fu fw fu' fw' Oo X Y Rs K ga go gg Co fa fg fr Co' nx lf pt pu pw vo vx vy vr fp) {j : Nat} (hj : j < n) : decide (fu' j < 0) = decide (fu j = -1) := by
  rw [hi.2.2.1.2.1 j hj]
  simp [ok_neg hi.2.1.1 j]
theorem kd_2 {fu : Nat → Int32} (hU : okF fu) {j : Nat} (h : ¬ fu j = -1) : fu j - fu j / 2 * 2 = 0 ∨ fu j - fu j / 2 * 2 = 1 := by
  rcases hU j with e | ⟨u, hu, e⟩
  · exact absurd e h
  · have : ∀ u, u < 8 → nI u - nI u / 2 * 2 = 0 ∨ nI u - nI u / 2 * 2 = 1 := by decide +kernel
    rw [e]; exact this u hu
theorem e_go (hm : MP n S Ce N Bo) {f : Nat → Int32} (hU : okF f) {x a b : Nat} (hx : ¬ f x = -1) (ha : a < n) (hb : b < n) : cGo Bo S (f x) a b = goC N S (f x) a b := by
  have hn := hm.1
  unfold cGo goC
  rw [hm.2.2.2.1 a b (by omega) (by omega)]
  rcases kd_2 hU hx with e | e
  · rw [e]
    have : decide ((0 : Int32) = 1) = false := by decide
    rw [this, if_pos rfl]
    cases S a <;> cases S b <;> rfl
  · rw [e]
    have : decide ((1 : Int32) = 1) = true := by decide
    rw [this, if_neg (by decide)]
    cases S a <;> cases S b <;> rfl
theorem e_stand (hm : MP n S Ce N Bo) {k : Int32} {a : Nat} (ha : a < n) : (if k = 0 then !S a else S a || anyB (fun j => N a j && S j) 12) = (if k = 0 then !S a else S a || anyB (fun b => S b && Bo (12 * a + b)) n) := by
  have hn := hm.1
  have e : anyB (fun j => N a j && S j) 12 = anyB (fun b => S b && Bo (12 * a + b)) n := by
    rw [anyB_12 hn (fun j h => by rw [Bool.and_eq_true] at h; exact (hm.2.2.2.2.2.1 a j h.1).2)]
    refine anyB_congr (fun b hb => ?_)
    rw [hm.2.2.2.1 a b (by omega) (by omega), Bool.and_comm]
  rw [e]
theorem e_unit (hi : INV n S Ce N Bo ph fu fw fu' fw' Oo X Y Rs K ga go gg Co fa fg fr Co' nx lf pt pu pw vo vx vy vr fp) {a : Nat} (ha : a < n) (p : Nat) : (!decide (fu' a < 0) && decide (fu' a / 2 = nI p)) = (!decide (fu a = -1) && decide (fu a / 2 = nI p)) := by
  rw [e_neg hi ha, hi.2.2.1.2.1 a ha]
theorem e_move (hi : INV n S Ce N Bo ph fu fw fu' fw' Oo X Y Rs K ga go gg Co fa fg fr Co' nx lf pt pu pw vo vx vy vr fp) {a x : Nat} (ha : a < n) (hx : x < n) (hu : ¬ fu a = -1) : hmR Bo S fu' a x = pmC N S fu a x := by
  unfold hmR pmC
  rw [hi.2.2.1.2.1 a ha, e_go hi.1 hi.2.1.1 hu ha hx]
  by_cases e : x = a
  · subst e
    have : goC N S (fu x) x x = false := by unfold goC; rw [hi.1.2.2.2.2.2.2 x]; rfl
    rw [this]; simp
  · simp [e]
theorem e_supp (hi : INV n S Ce N Bo ph fu fw fu' fw' Oo X Y Rs K ga go gg Co fa fg fr Co' nx lf pt pu pw vo vx vy vr fp) {a x y : Nat} (ha : a < n) (hx : x < n) (hy : y < n) (hu : ¬ fu a = -1) : hsU Bo S fu' a x y = psuC N S fu a x y := by
  unfold hsU psuC
  rw [e_neg hi hx, hi.2.2.1.2.1 a ha, e_go hi.1 hi.2.1.1 hu ha hy]
  cases goC N S (fu a) a y <;> cases decide (fu x = -1) <;> cases decide (x = a) <;> cases decide (y = a) <;> rfl
theorem e_conv (hi : INV n S Ce N Bo ph fu fw fu' fw' Oo X Y Rs K ga go gg Co fa fg fr Co' nx lf pt pu pw vo vx vy vr fp) {a x y : Nat} (ha : a < n) (hx : x < n) : hcR S fu' a x y = pvC S fu a x y := by
  unfold hcR pvC
  rw [e_neg hi hx, hi.2.2.1.2.1 a ha, hi.2.2.1.2.1 x hx]
  have e : decide (x = y) = decide (y = x) := by simp [eq_comm]
  rw [e]
  cases decide (fu a - fu a / 2 * 2 = 1) <;> cases S a <;> cases decide (fu x = -1) <;> cases decide (fu x - fu x / 2 * 2 = 0) <;> cases S y <;> cases decide (y = x) <;> rfl
/-- an order is written -/
theorem i_order (hi : INV n S Ce N Bo 1 fu fw fu' fw' Oo X Y Rs K ga go gg Co fa fg fr Co' nx lf pt pu pw vo vx vy vr fp) {a x y k r : Nat} (ha : a < n) (hx : x < n) (hy : y < n) (hk : k < 4) (h2 : r = 0 → k = 2 → ¬ fu x = -1) (h3 : r = 0 → k = 3 → S a = true) :
    INV n S Ce N Bo 1 fu fw fu' fw' (okN r Oo a k) (okN r X a x) (okN r Y a y) Rs K ga go gg Co fa fg fr Co' nx lf pt pu pw vo vx vy vr fp := by
  obtain ⟨hm, hs, hr, hv, hkk, hA, hp, hq⟩ := hi
  obtain ⟨s1, s2, s3, s4, s5, s6, s7, s8, s9⟩ := hs
  have hn := hm.1
  refine ⟨hm, ⟨s1, s2, s3, s4, s5, okN_lt s6 hk r, okN_lt s7 (by omega) r, okN_lt s8 (by omega) r, s9⟩, hr, fun _ => ?_, hkk, hA, hp, hq⟩
  obtain ⟨v1, v2, v3⟩ := hv rfl
  cases r with
  | succ r => exact ⟨v1, v2, v3⟩
  | zero =>
    refine ⟨fun j hj => ?_, fun j hj hu h => ?_, fun j hj hu h => ?_⟩
    · show upN X a x j < n ∧ upN Y a y j < n
      unfold upN
      by_cases e : j = a
      · simp [e, hx, hy]
      · simp [e]; exact v1 j hj
    · show ¬ fu (upN X a x j) = -1
      have h' : upN Oo a k j = 2 := h
      unfold upN at h' ⊢
      by_cases e : j = a
      · simp [e] at h' ⊢; exact h2 rfl h'
      · simp [e] at h' ⊢; exact v2 j hj hu h'
    · have h' : upN Oo a k j = 3 := h
      unfold upN at h'
      by_cases e : j = a
      · simp [e] at h'; rw [e]; exact h3 rfl h'
      · simp [e] at h'; exact v3 j hj hu h'
end IW
