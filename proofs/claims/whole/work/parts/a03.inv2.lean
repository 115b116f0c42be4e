section IV
variable {n : Nat} {S Ce : Nat → Bool} {N : Nat → Nat → Bool} {Bo : Nat → Bool} {ph : Int32} {fu fw fu' fw' : Nat → Int32} {Oo X Y Rs K : Nat → Nat} {ga go gg : Nat → Int32} {Co : Nat → Bool} {fa fg fr : Nat → Int32} {Co' : Nat → Bool} {nx lf : Nat} {pt : Nat → Int32} {pu pw : Nat → Nat → Int32} {vo vx vy vr : Nat → Nat → Nat} {fp : Nat → Int32}
theorem upd_s {f : Nat → Int32} {k : Nat} {x : Int32} : upd f k x k = x := by simp [upd]
theorem upd_n {f : Nat → Int32} {k j : Nat} {x : Int32} (h : ¬ j = k) : upd f k x j = f j := by simp [upd, h]
/-- one area more -/
theorem i_area (hi : INV n S Ce N Bo 0 fu fw fu' fw' Oo X Y Rs K ga go gg Co fa fg fr Co' nx lf pt pu pw vo vx vy vr fp) (hn : n < 12) {bS bC : Bool} {h : Int32} (hh : h = -1 ∨ ∃ p, p < 4 ∧ h = nI p) (hc : bC = false → h = -1) :
    INV (n + 1) (upB S n bS) (upB Ce n bC) N Bo 0 fu (upd fw n h) (upd fu' n (-1)) (upd fw' n h) Oo X Y Rs K ga go gg Co (upd fa n (-1)) fg fr Co' nx lf pt pu pw vo vx vy vr fp := by
  obtain ⟨hm, hs, hr, hv, hk, ha, hp, hq⟩ := hi
  obtain ⟨s1, s2, s3, s4, s5, s6, s7, s8, s9⟩ := hs
  have hl0 : lf = 0 := by rcases hq with h | h | h | h <;> first | exact h.2 | exact absurd h (by decide)
  refine ⟨⟨by omega, fun j hj => ?_, fun j hj => ?_, hm.2.2.2.1, hm.2.2.2.2.1, fun a b h => ?_, hm.2.2.2.2.2.2⟩, ⟨s1, fun j hj => s2 j (by omega), fun j => ?_, fun j hj => ?_, fun j hj => ?_, s6, s7, s8, fun j hj => s9 j (by omega)⟩, ⟨fun j => ?_, fun j hj => ?_, fun j hj => ?_, hr.2.2.2⟩, fun h => absurd h (by decide), hk, ?_, ?_, hq⟩
  · simp [upB, show ¬ j = n by omega, hm.2.1 j (by omega)]
  · simp [upB, show ¬ j = n by omega, hm.2.2.1 j (by omega)]
  · have := hm.2.2.2.2.2.1 a b h; omega
  · by_cases e : j = n
    · subst e; rw [upd_s]; exact hh
    · rw [upd_n e]; exact s3 j
  · rw [upd_n (by omega)]; exact s4 j (by omega)
  · by_cases e : j = n
    · subst e
      rw [upd_s] at hj
      cases bC with
      | true => simp [upB]
      | false => exact absurd (hc rfl) hj
    · rw [upd_n e] at hj
      simp [upB, e, s5 j hj]
  · by_cases e : j = n
    · subst e; rw [upd_s]; exact Or.inl rfl
    · rw [upd_n e]; exact hr.1 j
  · by_cases e : j = n
    · subst e; rw [upd_s, s2 j (Nat.le_refl _)]
    · rw [upd_n e]; exact hr.2.1 j (by omega)
  · by_cases e : j = n
    · subst e; rw [upd_s, upd_s]
    · rw [upd_n e, upd_n e]; exact hr.2.2.1 j (by omega)
  · obtain ⟨a1, a2, a3, a4, a5, a6, a7, a8⟩ := ha
    refine ⟨a1, fun j hj => a2 j (by omega), fun j => ?_, a4, fun j hj => ?_, a6, a7, fun h => absurd h (by decide)⟩
    · rcases a3 j with h | ⟨k, h1, h2⟩
      · exact Or.inl h
      · exact Or.inr ⟨k, by omega, h2⟩
    · by_cases e : j = n
      · subst e; rw [upd_s, a2 j (Nat.le_refl _)]
      · rw [upd_n e]; exact a5 j (by omega)
  · refine ⟨hp.1, hp.2.1, hp.2.2.1, fun k hk9 => ?_⟩
    rw [hl0] at hk9; exact absurd hk9 (Nat.not_lt_zero _)
/-- a new border -/
theorem i_border (hi : INV n S Ce N Bo ph fu fw fu' fw' Oo X Y Rs K ga go gg Co fa fg fr Co' nx lf pt pu pw vo vx vy vr fp) {a b : Nat} (ha : a < n) (hb : b < n) (hab : ¬ a = b) :
    INV n S Ce (jnN N a b) (upB (fun j => upB Bo (12 * a + b) true j) (12 * b + a) true) ph fu fw fu' fw' Oo X Y Rs K ga go gg Co fa fg fr Co' nx lf pt pu pw vo vx vy vr fp := by
  obtain ⟨hm, hs⟩ := hi
  have key : ∀ i j, jnN N a b i j = (N i j || (decide (i = a) && decide (j = b)) || (decide (i = b) && decide (j = a))) := by
    intro i j
    unfold jnN upS
    by_cases e1 : i = b
    · subst e1
      simp only [if_true, fun h9 : i = a => hab h9.symm, if_false]
      have e2 : ¬ i = a := fun h9 => hab h9.symm
      simp [e2]
    · by_cases e2 : i = a
      · subst e2; simp [e1]
      · simp [e1, e2]
  refine ⟨⟨hm.1, hm.2.1, hm.2.2.1, fun i j hi hj => ?_, fun i j => ?_, fun i j h => ?_, fun i => ?_⟩, hs⟩
  · rw [key, ← hm.2.2.2.1 i j hi hj]
    have hn := hm.1
    unfold upB
    by_cases e1 : 12 * i + j = 12 * b + a
    · have : i = b ∧ j = a := by omega
      simp [this]
    · by_cases e2 : 12 * i + j = 12 * a + b
      · have : i = a ∧ j = b := by omega
        simp [this]
      · have h1 : ¬ (i = b ∧ j = a) := fun h => e1 (by rw [h.1, h.2])
        have h2 : ¬ (i = a ∧ j = b) := fun h => e2 (by rw [h.1, h.2])
        rw [if_neg e1]
        show (if 12 * i + j = 12 * a + b then true else Bo (12 * i + j)) = _
        rw [if_neg e2]
        have h3 : (decide (i = a) && decide (j = b)) = false := by simpa using h2
        have h4 : (decide (i = b) && decide (j = a)) = false := by simpa using h1
        rw [h3, h4]; simp
  · rw [key, key, hm.2.2.2.2.1 i j]
    cases N j i <;> cases decide (i = a) <;> cases decide (j = b) <;> cases decide (i = b) <;> cases decide (j = a) <;> rfl
  · rw [key] at h
    simp only [Bool.or_eq_true, Bool.and_eq_true, decide_eq_true_eq] at h
    rcases h with (h | h) | h
    · exact hm.2.2.2.2.2.1 i j h
    · omega
    · omega
  · rw [key, hm.2.2.2.2.2.2 i]
    by_cases e1 : i = a
    · subst e1; simp [hab]
    · simp [e1]
/-- a unit is put or taken away -/
theorem i_put (hi : INV n S Ce N Bo ph fu fw fu' fw' Oo X Y Rs K ga go gg Co fa fg fr Co' nx lf pt pu pw vo vx vy vr fp) (h1 : ¬ ph = 1) (h2 : ¬ ph = 2) {a : Nat} (ha : a < n) {v : Int32} (hv : v = -1 ∨ ∃ u, u < 8 ∧ v = nI u) :
    INV n S Ce N Bo ph (upd fu a v) fw (upd fu' a v) fw' Oo X Y Rs K ga go gg Co fa fg fr Co' nx lf pt pu pw vo vx vy vr fp := by
  obtain ⟨hm, hs, hr, _, hk, hA, hp, hq⟩ := hi
  obtain ⟨s1, s2, s3⟩ := hs
  refine ⟨hm, ⟨fun j => ?_, fun j hj => ?_, s3⟩, ⟨fun j => ?_, fun j hj => ?_, hr.2.2⟩, fun h => absurd h h1, hk, ?_, hp, hq⟩
  · by_cases e : j = a
    · subst e; rw [upd_s]; exact hv
    · rw [upd_n e]; exact s1 j
  · rw [upd_n (by omega)]; exact s2 j hj
  · by_cases e : j = a
    · subst e; rw [upd_s]; exact hv
    · rw [upd_n e]; exact hr.1 j
  · by_cases e : j = a
    · subst e; rw [upd_s, upd_s]
    · rw [upd_n e, upd_n e]; exact hr.2.1 j hj
  · obtain ⟨a1, a2, a3, a4, a5, a6, a7, a8⟩ := hA
    exact ⟨a1, a2, a3, a4, a5, a6, a7, fun h => absurd h h2⟩
/-- a new turn -/
theorem i_turn (hi : INV n S Ce N Bo ph fu fw fu' fw' Oo X Y Rs K ga go gg Co fa fg fr Co' nx lf pt pu pw vo vx vy vr fp) (h2 : ¬ ph = 2) :
    INV n S Ce N Bo 1 fu fw fu' fw' (fun _ => 0) (fun _ => 0) (fun _ => 0) Rs K ga go gg Co fa fg fr Co' nx lf pt pu pw vo vx vy vr fp := by
  obtain ⟨hm, hs, hr, _, hk, hA, hp, hq⟩ := hi
  obtain ⟨s1, s2, s3, s4, s5, _, _, _, s9⟩ := hs
  refine ⟨hm, ⟨s1, s2, s3, s4, s5, fun _ => (show (0 : Nat) < 4 by decide), fun _ => (show (0 : Nat) < 12 by decide), fun _ => (show (0 : Nat) < 12 by decide), s9⟩, hr, fun _ => ⟨fun j hj => ⟨(show (0 : Nat) < n by omega), (show (0 : Nat) < n by omega)⟩, fun j _ _ h => absurd h (show ¬ (0 : Nat) = 2 by decide), fun j _ _ h => absurd h (show ¬ (0 : Nat) = 3 by decide)⟩, hk, ?_, hp, Or.inr (Or.inl rfl)⟩
  obtain ⟨a1, a2, a3, a4, a5, a6, a7, a8⟩ := hA
  exact ⟨a1, a2, a3, a4, a5, a6, fun _ => a7 h2, fun h => absurd h (by decide)⟩
end IV
