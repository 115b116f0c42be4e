/-! Counts, centers and builds: the same in both. Mine. -/
theorem cnt_num (f : Nat → Int32) (p : Int32) : ∀ k, cnt f p k = numB (fun j => decide (f j = p)) k
  | 0 => rfl
  | k + 1 => by
    rw [cnt, numB, cnt_num f p k]
    by_cases h : f k = p <;> simp [h]
theorem cntU_num (f : Nat → Int32) (p : Int32) : ∀ k, cntU f p k = numB (fun j => !decide (f j = -1) && decide (f j / 2 = p)) k
  | 0 => rfl
  | k + 1 => by
    rw [cntU, numB, cntU_num f p k]
    by_cases h : f k = -1 <;> by_cases h2 : f k / 2 = p <;> simp [h, h2]
section IX
variable {n : Nat} {Ce : Nat → Bool} {fu fw fu' fw' fh : Nat → Int32}
/-- what both know of units and owners -/
def UO (n : Nat) (Ce : Nat → Bool) (fu fw fu' fw' : Nat → Int32) : Prop :=
  n ≤ 12 ∧ okF fu ∧ (∀ j, n ≤ j → fu j = -1) ∧ (∀ j, fw j = -1 ∨ ∃ p, p < 4 ∧ fw j = nI p) ∧ (∀ j, n ≤ j → fw j = -1) ∧ (∀ j, ¬ fw j = -1 → Ce j = true) ∧ (∀ j, j < n → fu' j = fu j) ∧ (∀ j, j < n → fw' j = fw j)
theorem uo_cnt (h : UO n Ce fu fw fu' fw') {pl : Int32} (hp : ¬ pl = -1) : cnt fw pl 12 = numB (fun b => if false = true then !decide (fu' b < 0) && decide (fu' b / 2 = pl) else Ce b && decide (fw' b = pl)) n := by
  obtain ⟨h1, h2, h3, h4, h5, h6, h7, h8⟩ := h
  rw [cnt_num, numB_12 h1 (fun j hj => by
    rcases Nat.lt_or_ge j n with h | h
    · exact h
    · simp [h5 j h] at hj; exact absurd hj.symm hp)]
  refine numB_cg n (fun j hj => ?_)
  rw [if_neg (by decide), h8 j hj]
  by_cases e : fw j = pl
  · have := h6 j (by rw [e]; exact hp)
    simp [e, this]
  · simp [e]
theorem uo_cntU (h : UO n Ce fu fw fu' fw') {pl : Int32} : cntU fu pl 12 = numB (fun b => if true = true then !decide (fu' b < 0) && decide (fu' b / 2 = pl) else Ce b && decide (fw' b = pl)) n := by
  obtain ⟨h1, h2, h3, h4, h5, h6, h7, h8⟩ := h
  rw [cntU_num, numB_12 h1 (fun j hj => by
    rcases Nat.lt_or_ge j n with h | h
    · exact h
    · simp [h3 j h] at hj)]
  refine numB_cg n (fun j hj => ?_)
  rw [if_pos rfl, h7 j hj]
  simp [ok_neg h2 j]
theorem nI_p1 : ∀ p, p < 4 → ¬ nI p = -1 := by decide +kernel
theorem uo_ms (h : UO n Ce fu fw fu' fw') {pl : Int32} (hp : ¬ pl = -1) : mMs Ce fw' fu' n pl = msC fw fu pl := by
  unfold mMs msC
  rw [uo_cnt h hp, uo_cntU h]
theorem uo_due (h : UO n Ce fu fw fu' fw') : anyB (bdR Ce fh fw' fu' n) 4 = anyB (bdC fh fw fu n) 4 := by
  refine anyB_congr (fun p hp => ?_)
  unfold bdR bdC
  rw [uo_ms h (nI_p1 p hp)]
  have e : anyB (mbR fh fw' fu' (nI p)) n = anyB (bpC fh fw fu (nI p)) n := anyB_congr (fun a ha => by
    unfold mbR bpC
    rw [h.2.2.2.2.2.2.1 a ha, h.2.2.2.2.2.2.2 a ha]
    simp [ok_neg h.2.1 a])
  rw [e]
  cases anyB (bpC fh fw fu (nI p)) n <;> cases decide (msC fw fu (nI p) ≤ 0) <;> rfl
/-- the centers are taken -/
theorem uo_take (h : UO n Ce fu fw fu' fw') : UO n Ce fu (mxI (fun j => if (Ce j && !decide (fu j = -1)) = true then fu j / 2 else fw j) fw n) fu' (mxI (tkR Ce fw' fu') fw' n) := by
  obtain ⟨h1, h2, h3, h4, h5, h6, h7, h8⟩ := h
  refine ⟨h1, h2, h3, fun j => ?_, fun j hj => ?_, fun j hj => ?_, h7, fun j hj => ?_⟩
  · unfold mxI
    split
    · dsimp only
      split
      · rename_i hc
        simp only [Bool.and_eq_true, Bool.not_eq_true', decide_eq_false_iff_not] at hc
        rcases h2 j with e | ⟨u, hu, e⟩
        · exact absurd e hc.2
        · exact Or.inr ⟨u / 2, by omega, by rw [e]; exact (okF_t u hu).2.2.1⟩
      · exact h4 j
    · exact h4 j
  · unfold mxI; rw [if_neg (by omega)]; exact h5 j hj
  · unfold mxI at hj
    split at hj
    · dsimp only at hj
      split at hj
      · rename_i hc
        rw [Bool.and_eq_true] at hc; exact hc.1
      · exact h6 j hj
    · exact h6 j hj
  · unfold mxI
    rw [if_pos hj, if_pos hj, tkR, h7 j hj, h8 j hj]
    simp [ok_neg h2 j]
/-- what is too much goes -/
theorem uo_set (h : UO n Ce fu fw fu' fw') {a : Nat} (ha : a < n) {v : Int32} (hv : v = -1 ∨ ∃ u, u < 8 ∧ v = nI u) : UO n Ce (upd fu a v) fw (upd fu' a v) fw' := by
  obtain ⟨h1, h2, h3, h4, h5, h6, h7, h8⟩ := h
  refine ⟨h1, fun j => ?_, fun j hj => ?_, h4, h5, h6, fun j hj => ?_, h8⟩
  · by_cases e : j = a
    · subst e; rw [upd_s]; exact hv
    · rw [upd_n e]; exact h2 j
  · rw [upd_n (by omega)]; exact h3 j hj
  · by_cases e : j = a
    · subst e; rw [upd_s, upd_s]
    · rw [upd_n e, upd_n e]; exact h7 j hj
theorem sub_lt {a b : Nat} (ha : a ≤ 12) (hb : b ≤ 12) : nI a - nI b < 0 ↔ a < b := by
  have : ∀ a, a ≤ 12 → ∀ b, b ≤ 12 → (nI a - nI b < 0 ↔ a < b) := by decide +kernel
  exact this a ha b hb
theorem uo_rm (h : UO n Ce fu fw fu' fw') : ∀ i, i ≤ n → UO n Ce (rmP (rmc fw) fu n i) fw (rmP (rmr Ce fw' n) fu' n i) fw'
  | 0, _ => h
  | i + 1, hi => by
    have ih := uo_rm h i (by omega)
    have ha : n - 1 - i < n := by omega
    have key : ∀ (g g' : Nat → Int32), UO n Ce g fw g' fw' → rmr Ce fw' n g' (n - 1 - i) = rmc fw g (n - 1 - i) := by
      intro g g' ih
      unfold rmr rmc
      have hg := ih.2.2.2.2.2.2.1 _ ha
      have en := ok_neg ih.2.1 (n - 1 - i)
      by_cases e : g (n - 1 - i) = -1
      · rw [hg, e]; simp
      · have e2 : ¬ g (n - 1 - i) < 0 := fun h9 => e (en.mp h9)
        have hp : ¬ g (n - 1 - i) / 2 = -1 := okF_h ih.2.1 e2
        rw [hg, ← uo_cnt ih hp, ← uo_cntU ih]
        have l1 : cnt fw (g (n - 1 - i) / 2) 12 ≤ 12 := by rw [cnt_num]; exact numB_le _ _
        have l2 : cntU g (g (n - 1 - i) / 2) 12 ≤ 12 := by rw [cntU_num]; exact numB_le _ _
        have := sub_lt l1 l2
        simp only [e, e2, this]
    have ec := key _ _ ih
    rw [rmP, rmP, ec]
    split
    · exact uo_set ih ha (Or.inl rfl)
    · exact ih
end IX
