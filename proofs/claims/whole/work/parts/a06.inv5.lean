/-! resolve: what comes of the two sheets. Mine. -/
def okV (x : Int32) : Prop := x = -1 ∨ ∃ u, u < 8 ∧ x = nI u
theorem ok_gp {c : Nat → Bool} {X : Nat → Nat} {v b : Nat → Int32} {j : Nat} : ∀ k, (∀ i, i < k → c i = true → okV (v i)) → okV (b j) → okV (gpU c X v b k j)
  | 0, _, hb => hb
  | k + 1, hv, hb => by
    have ih := ok_gp (X := X) k (fun i hi => hv i (by omega)) hb
    rw [gpU]
    split
    · rename_i hc
      unfold upd
      split
      · exact hv k (by omega) hc
      · exact ih
    · exact ih
section IY
variable {n : Nat} {S Ce : Nat → Bool} {N : Nat → Nat → Bool} {Bo : Nat → Bool} {ph : Int32} {fu fw fu' fw' : Nat → Int32} {Oo X Y Rs K : Nat → Nat} {ga go gg : Nat → Int32} {Co : Nat → Bool} {fa fg fr : Nat → Int32} {Co' : Nat → Bool} {nx lf : Nat} {pt : Nat → Int32} {pu pw : Nat → Nat → Int32} {vo vx vy vr : Nat → Nat → Nat} {fp fl fm : Nat → Int32}
theorem q_sw (hi : INV n S Ce N Bo 1 fu fw fu' fw' Oo X Y Rs K ga go gg Co fa fg fr Co' nx lf pt pu pw vo vx vy vr fp) : SW (fun j => uH (fu j)) (fun j => uP (fu j)) (fun j => uK (fu j)) Oo X Y N S n fu' Bo := SW_of hi.1 hi.2.1 (hi.2.2.2.1 rfl) hi.2.2.1
theorem q_rl (hi : INV n S Ce N Bo 1 fu fw fu' fw' Oo X Y Rs K ga go gg Co fa fg fr Co' nx lf pt pu pw vo vx vy vr fp) : RL (fun j => uH (fu j)) Oo X Y n (zSu (fun j => uH (fu j)) (fun j => uP (fu j)) (fun j => uK (fu j)) Oo X Y N S n) (zOp (fun j => uH (fu j)) (fun j => uP (fu j)) (fun j => uK (fu j)) Oo X Y N S n) (endK fu' Oo X Y K S Bo n) := end_rl (q_sw hi) hi.2.2.2.2.1
theorem q_num (hi : INV n S Ce N Bo 1 fu fw fu' fw' Oo X Y Rs K ga go gg Co fa fg fr Co' nx lf pt pu pw vo vx vy vr fp) : numB (fun j => zSu (fun j => uH (fu j)) (fun j => uP (fu j)) (fun j => uK (fu j)) Oo X Y N S n j && xMv (fun j => uH (fu j)) Oo n j) 12 = numB (fun j => mvs fu' Oo j && decide (endK fu' Oo X Y K S Bo n j = 1)) n := o_num (q_sw hi) (q_rl hi)
theorem q_res (hi : INV n S Ce N Bo 1 fu fw fu' fw' Oo X Y Rs K ga go gg Co fa fg fr Co' nx lf pt pu pw vo vx vy vr fp) {j : Nat} (hj : j < 12) : mxN (zR (fun j => uH (fu j)) (fun j => uP (fu j)) (fun j => uK (fu j)) Oo X Y N S n) Rs 12 j = yR fu' Oo X Y K S Bo n Rs j := by
  have e1 : mxN (zR (fun j => uH (fu j)) (fun j => uP (fu j)) (fun j => uK (fu j)) Oo X Y N S n) Rs 12 j = zR (fun j => uH (fu j)) (fun j => uP (fu j)) (fun j => uK (fu j)) Oo X Y N S n j := by simp [mxN, hj]
  rw [e1, yR, mxN, zR]
  by_cases h : j < n
  · rw [if_pos h]
    exact o_oc (q_sw hi) (q_rl hi) (fun j hx => end_no (q_sw hi) hi.2.2.2.2.1 hx) h
  · rw [if_neg h, hi.2.1.2.2.2.2.2.2.2.2 j (by omega), ocF]
    simp [xSt, upTo, h]
theorem q_r4 (hi : INV n S Ce N Bo 1 fu fw fu' fw' Oo X Y Rs K ga go gg Co fa fg fr Co' nx lf pt pu pw vo vx vy vr fp) : ∀ j, j < n → yR fu' Oo X Y K S Bo n Rs j = tlF fu' Oo X (endK fu' Oo X Y K S Bo n) n j := fun j hj => by simp [yR, mxN, hj]
theorem q_units (hi : INV n S Ce N Bo 1 fu fw fu' fw' Oo X Y Rs K ga go gg Co fa fg fr Co' nx lf pt pu pw vo vx vy vr fp) {j : Nat} (hj : j < n) : zU (fun j => uH (fu j)) (fun j => uP (fu j)) (fun j => uK (fu j)) Oo X Y N S n fu fl j = yU fu' Oo X Y K S Bo n Rs fm j :=
  o_units (q_sw hi) (q_rl hi) (fun j hj => (hi.2.2.1.2.1 j hj).symm) (q_r4 hi) hj
theorem q_uok (hi : INV n S Ce N Bo 1 fu fw fu' fw' Oo X Y Rs K ga go gg Co fa fg fr Co' nx lf pt pu pw vo vx vy vr fp) : okF (zU (fun j => uH (fu j)) (fun j => uP (fu j)) (fun j => uK (fu j)) Oo X Y N S n fu fl) := by
  intro j
  refine ok_gp n (fun i h _ => ?_) ?_
  · show okV (mxI fu fl n i)
    rw [mxI, if_pos h]; exact hi.2.1.1 i
  · show okV (mxI _ fu n j)
    unfold mxI
    split
    · dsimp only
      split
      · exact Or.inl rfl
      · exact hi.2.1.1 j
    · exact hi.2.1.1 j
theorem q_uhi (hi : INV n S Ce N Bo 1 fu fw fu' fw' Oo X Y Rs K ga go gg Co fa fg fr Co' nx lf pt pu pw vo vx vy vr fp) {j : Nat} (hj : n ≤ j) : zU (fun j => uH (fu j)) (fun j => uP (fu j)) (fun j => uK (fu j)) Oo X Y N S n fu fl j = -1 := by
  rw [← hi.2.1.2.1 j hj]
  exact o_uhi (q_sw hi) (by omega)
theorem q_uok' (hi : INV n S Ce N Bo 1 fu fw fu' fw' Oo X Y Rs K ga go gg Co fa fg fr Co' nx lf pt pu pw vo vx vy vr fp) : okF (yU fu' Oo X Y K S Bo n Rs fm) := by
  intro j
  show okV (mxI _ fu' n j)
  unfold mxI
  split
  · rename_i hj
    refine ok_gp n (fun i _ _ => hi.2.2.1.1 i) ?_
    show okV (mxI _ fm n j)
    rw [mxI, if_pos hj]
    split
    · exact Or.inl rfl
    · exact hi.2.2.1.1 j
  · exact hi.2.2.1.1 j
theorem q_aside (hi : INV n S Ce N Bo 1 fu fw fu' fw' Oo X Y Rs K ga go gg Co fa fg fr Co' nx lf pt pu pw vo vx vy vr fp) {j : Nat} (hj : j < n) : yA fu' Oo X Y K S Bo n Rs fa j = zA (fun j => uH (fu j)) (fun j => uP (fu j)) (fun j => uK (fu j)) Oo X Y N S n fu j :=
  (o_aside (q_sw hi) (q_rl hi) (fun j hj => (hi.2.2.1.2.1 j hj).symm) (q_r4 hi) hj).symm
theorem q_aok (hi : INV n S Ce N Bo 1 fu fw fu' fw' Oo X Y Rs K ga go gg Co fa fg fr Co' nx lf pt pu pw vo vx vy vr fp) : okF (zA (fun j => uH (fu j)) (fun j => uP (fu j)) (fun j => uK (fu j)) Oo X Y N S n fu) ∧ ∀ j, n ≤ j → zA (fun j => uH (fu j)) (fun j => uP (fu j)) (fun j => uK (fu j)) Oo X Y N S n fu j = -1 := by
  constructor
  · intro j
    show okV (mxI _ _ n j)
    unfold mxI
    split
    · dsimp only
      split
      · exact hi.2.1.1 j
      · exact Or.inl rfl
    · exact Or.inl rfl
  · intro j hj
    show mxI _ _ n j = -1
    rw [mxI, if_neg (by omega)]
theorem q_some (hi : INV n S Ce N Bo 1 fu fw fu' fw' Oo X Y Rs K ga go gg Co fa fg fr Co' nx lf pt pu pw vo vx vy vr fp) : anyB (fun j => !decide (yA fu' Oo X Y K S Bo n Rs fa j < 0)) n = anyB (fun j => !decide (zA (fun j => uH (fu j)) (fun j => uP (fu j)) (fun j => uK (fu j)) Oo X Y N S n fu j = -1)) 12 := by
  have ha := q_aok hi
  rw [anyB_12 hi.1.1 (fun j hj => by
    rcases Nat.lt_or_ge j n with h | h
    · exact h
    · simp [ha.2 j h] at hj)]
  refine anyB_congr (fun j hj => ?_)
  rw [q_aside hi hj]
  simp [ok_neg ha.1 j]
theorem q_from (hi : INV n S Ce N Bo 1 fu fw fu' fw' Oo X Y Rs K ga go gg Co fa fg fr Co' nx lf pt pu pw vo vx vy vr fp) {j : Nat} (hj : j < n) : yO fu' Oo X Y K S Bo n fg j = zO (fun j => uH (fu j)) (fun j => uP (fu j)) (fun j => uK (fu j)) Oo X Y N S n j :=
  (o_from (q_sw hi) (q_rl hi) (end_unq (q_sw hi) hi.2.2.2.2.1) hj).symm
theorem q_cont (hi : INV n S Ce N Bo 1 fu fw fu' fw' Oo X Y Rs K ga go gg Co fa fg fr Co' nx lf pt pu pw vo vx vy vr fp) {j : Nat} (hj : j < n) (he : zU (fun j => uH (fu j)) (fun j => uP (fu j)) (fun j => uK (fu j)) Oo X Y N S n fu fl j = -1) : yC fu' Oo X Y K S Bo n Co' j = zC (fun j => uH (fu j)) (fun j => uP (fu j)) (fun j => uK (fu j)) Oo X Y N S n fu fl j :=
  (o_cont (q_sw hi) (q_rl hi) (fun j hx => end_no (q_sw hi) hi.2.2.2.2.1 hx) hj he).symm
theorem q_uo (hi : INV n S Ce N Bo 1 fu fw fu' fw' Oo X Y Rs K ga go gg Co fa fg fr Co' nx lf pt pu pw vo vx vy vr fp) : UO n Ce (zU (fun j => uH (fu j)) (fun j => uP (fu j)) (fun j => uK (fu j)) Oo X Y N S n fu fl) fw (yU fu' Oo X Y K S Bo n Rs fm) fw' := by
  obtain ⟨s1, s2, s3, s4, s5, s6⟩ := hi.2.1
  exact ⟨hi.1.1, q_uok hi, fun j hj => q_uhi hi hj, s3, s4, s5, fun j hj => (q_units hi hj).symm, hi.2.2.1.2.2.1⟩
end IY
