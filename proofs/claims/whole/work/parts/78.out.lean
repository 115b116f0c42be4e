/-! What comes of it: outcomes, units, those aside, where they came from, what is contested. Mine. -/
theorem gpU_cg {c c' : Nat → Bool} {X : Nat → Nat} {v v' b b' : Nat → Int32} {n : Nat} (hc : ∀ i, i < n → c i = c' i) (hv : ∀ i, i < n → c i = true → v i = v' i) (hb : ∀ j, j < n → b j = b' j) : ∀ k, k ≤ n → ∀ j, j < n → gpU c X v b k j = gpU c' X v' b' k j
  | 0, _, j, hj => hb j hj
  | k + 1, hk, j, hj => by
    have ih := gpU_cg (X := X) hc hv hb k (by omega)
    rw [gpU, gpU, ← hc k (by omega)]
    split
    · rename_i h
      rw [← hv k (by omega) h]
      unfold upd
      split
      · rfl
      · exact ih j hj
    · exact ih j hj
theorem gpU_no {c : Nat → Bool} {X : Nat → Nat} {v b : Nat → Int32} {j : Nat} : ∀ k, (∀ i, i < k → c i = true → ¬ X i = j) → gpU c X v b k j = b j
  | 0, _ => rfl
  | k + 1, h => by
    have ih := gpU_no (v := v) (b := b) k (fun i hi => h i (by omega))
    rw [gpU]
    split
    · rename_i hc
      unfold upd
      rw [if_neg (fun e => h k (by omega) hc e.symm), ih]
    · exact ih
theorem gpU_at {c : Nat → Bool} {X : Nat → Nat} {v b : Nat → Int32} {a : Nat} (ha : c a = true) : ∀ k, a < k → (∀ i, i < k → c i = true → X i = X a → i = a) → gpU c X v b k (X a) = v a
  | 0, h, _ => absurd h (Nat.not_lt_zero _)
  | k + 1, h, hu => by
    rw [gpU]
    by_cases e : a = k
    · subst e
      rw [if_pos ha]; simp [upd]
    · have ih := gpU_at (v := v) (b := b) ha k (by omega) (fun i hi => hu i (by omega))
      split
      · rename_i hc
        unfold upd
        rw [if_neg (fun e2 => e (hu k (by omega) hc e2.symm).symm), ih]
      · exact ih
theorem ctS_iff {X : Nat → Nat} {c : Nat → Bool} {j : Nat} : ∀ k, ctS X c k j = anyB (fun i => c i && decide (X i = j)) k
  | 0 => rfl
  | k + 1 => by
    show (ctS X c k j || (c k && decide (j = X k))) = _
    rw [anyB, ctS_iff k]
    congr 2
    simp [eq_comm]
theorem ctU_iff {X : Nat → Nat} {c b : Nat → Bool} {j : Nat} : ∀ k, ctU c X b k j = (b j || anyB (fun i => c i && decide (X i = j)) k)
  | 0 => by simp [ctU, anyB]
  | k + 1 => by
    rw [ctU, anyB]
    cases hc : c k with
    | false => rw [if_neg (by decide), ctU_iff k]; simp
    | true =>
      rw [if_pos rfl]
      unfold upB
      by_cases e : j = X k
      · subst e; simp
      · rw [if_neg e, ctU_iff k]
        have e2 : ¬ X k = j := fun h => e h.symm
        simp [e2]
section SK
variable {Hu : Nat → Bool} {P Kd Oo X Y : Nat → Nat} {N : Nat → Nat → Bool} {S : Nat → Bool} {n : Nat} {fu : Nat → Int32} {Bo : Nat → Bool} {Su Op : Nat → Bool} {K : Nat → Nat}
/-- who stands at a place and is set aside -/
theorem o_sd (w : SW Hu P Kd Oo X Y N S n fu Bo) (r : RL Hu Oo X Y n Su Op K) {j : Nat} (hj : j < n) : sdA (xMt Hu Oo X n) (xSt Hu n) (xMv Hu Oo n) n Su Op j = decide (tlF fu Oo X K n j = 4) := by
  cases hu : Hu j with
  | false =>
    have hneg : fu j < 0 := of_decide_eq_true (by rw [s_neg w hj, hu]; rfl)
    rw [tlF, if_pos hneg]
    simp [sdA, upTo, sdP, mdP, xSt, hu]
  | true =>
    have hneg : ¬ fu j < 0 := of_decide_eq_false (by rw [s_neg w hj, hu]; rfl)
    rw [r_sd w r hj hu, tlF, if_neg hneg]
    by_cases h : dsA fu Oo X K n j = 1
    · rw [if_pos h]; simp [h]
    · rw [if_neg h]
      split
      · simp [h]
      · split <;> simp [h]
theorem o_oc (w : SW Hu P Kd Oo X Y N S n fu Bo) (r : RL Hu Oo X Y n Su Op K) (hno : ∀ j, xOp Hu Oo X Y n j = true → ¬ K j = 0) {j : Nat} (hj : j < n) : ocF (xSt Hu n) (sdA (xMt Hu Oo X n) (xSt Hu n) (xMv Hu Oo n) n Su Op) Su Oo j = tlF fu Oo X K n j := by
  rw [ocF, s_st hj, ocC]
  cases hu : Hu j with
  | false =>
    have hneg : fu j < 0 := of_decide_eq_true (by rw [s_neg w hj, hu]; rfl)
    rw [tlF, if_pos hneg]; rfl
  | true =>
    have hneg : ¬ fu j < 0 := of_decide_eq_false (by rw [s_neg w hj, hu]; rfl)
    rw [if_pos rfl, r_sd w r hj hu, tlF, if_neg hneg, mvs, s_spt w hj, s_neg w hj, hu]
    have h3 := r.k3 j
    have h4 := r.su j
    by_cases h : dsA fu Oo X K n j = 1
    · simp [h]
    · by_cases h1 : Oo j = 1
      · have hx : xOp Hu Oo X Y n j = true := s_opm (by simp [xMv, upTo, mvR, hj, hu, h1])
        have := hno j hx
        rw [hx] at h4
        rcases (show K j = 1 ∨ K j = 2 by omega) with e | e <;> simp [h, h1, h4, e]
      · by_cases h2 : Oo j = 2
        · cases hx : xOp Hu Oo X Y n j with
          | true =>
            have := hno j hx
            rw [hx] at h4
            rcases (show K j = 1 ∨ K j = 2 by omega) with e | e <;> simp [h, h2, h4, e]
          | false =>
            rw [hx] at h4
            simp [h, h2, h4, r.vd j hj hu h2 hx]
        · simp [h, h1, h2]
theorem o_go (w : SW Hu P Kd Oo X Y N S n fu Bo) (r : RL Hu Oo X Y n Su Op K) {j : Nat} (hj : j < n) : (Su j && xMv Hu Oo n j) = (mvs fu Oo j && decide (K j = 1)) := by
  rw [s_mv w hj]
  cases hm : xMv Hu Oo n j with
  | false => simp
  | true => rw [r_su r hm]; simp
theorem o_num (w : SW Hu P Kd Oo X Y N S n fu Bo) (r : RL Hu Oo X Y n Su Op K) : numB (fun j => Su j && xMv Hu Oo n j) 12 = numB (fun j => mvs fu Oo j && decide (K j = 1)) n := by
  rw [numB_12 w.hn (fun j h => by rw [Bool.and_eq_true] at h; exact (s_mvn h.2).1)]
  exact numB_cg n (fun j hj => o_go w r hj)
/-- the units: fc those of the class before, fm what the reference's rows held -/
theorem o_units (w : SW Hu P Kd Oo X Y N S n fu Bo) (r : RL Hu Oo X Y n Su Op K) {fc fl fm : Nat → Int32} {Rs : Nat → Nat} (hfc : ∀ j, j < n → fc j = fu j) (hRs : ∀ j, j < n → Rs j = tlF fu Oo X K n j) {j : Nat} (hj : j < n) :
    gpU (fun j => Su j && xMv Hu Oo n j) X (mxI fc fl n) (mxI (fun j => if (sdA (xMt Hu Oo X n) (xSt Hu n) (xMv Hu Oo n) n Su Op j || (Su j && xMv Hu Oo n j)) = true then -1 else fc j) fc n) n j
    = mxI (gpU (fun j => mvs fu Oo j && decide (K j = 1)) X fu (mxI (fun j => if (decide (Rs j = 4) || (mvs fu Oo j && decide (K j = 1))) = true then -1 else fu j) fm n) n) fu n j := by
  have e : ∀ (f g : Nat → Int32) (i : Nat), i < n → mxI f g n i = f i := fun f g i hi => by simp [mxI, hi]
  rw [e _ _ j hj]
  refine gpU_cg (fun i hi => o_go w r hi) (fun i hi _ => by rw [e _ _ i hi, hfc i hi]) (fun i hi => ?_) n (Nat.le_refl _) j hj
  rw [e _ _ i hi, e _ _ i hi, o_sd w r hi, o_go w r hi, hRs i hi, hfc i hi]
theorem o_uhi (w : SW Hu P Kd Oo X Y N S n fu Bo) {fc fl : Nat → Int32} {Sd : Nat → Bool} {j : Nat} (hj : ¬ j < n) :
    gpU (fun j => Su j && xMv Hu Oo n j) X (mxI fc fl n) (mxI (fun j => if (Sd j || (Su j && xMv Hu Oo n j)) = true then -1 else fc j) fc n) n j = fc j := by
  have h0 := gpU_no (c := fun j => Su j && xMv Hu Oo n j) (X := X) (v := mxI fc fl n) (b := mxI (fun j => if (Sd j || (Su j && xMv Hu Oo n j)) = true then -1 else fc j) fc n) (j := j) n (fun i hi _ h => hj (by rw [← h]; exact w.hX i hi))
  rw [h0]
  simp [mxI, hj]
theorem o_aside (w : SW Hu P Kd Oo X Y N S n fu Bo) (r : RL Hu Oo X Y n Su Op K) {fc fa : Nat → Int32} {Rs : Nat → Nat} (hfc : ∀ j, j < n → fc j = fu j) (hRs : ∀ j, j < n → Rs j = tlF fu Oo X K n j) {j : Nat} (hj : j < n) :
    mxI (fun j => if sdA (xMt Hu Oo X n) (xSt Hu n) (xMv Hu Oo n) n Su Op j = true then fc j else -1) (fun _ => (-1)) n j = mxI (fun j => if Rs j = 4 then fu j else -1) fa n j := by
  simp only [mxI, hj, if_true, o_sd w r hj, hRs j hj, hfc j hj, decide_eq_true_eq]
/-- where the attackers came from: no two come to one place -/
theorem o_from (w : SW Hu P Kd Oo X Y N S n fu Bo) (r : RL Hu Oo X Y n Su Op K) (hq : unq fu Oo X Y K S Bo n) {fg : Nat → Int32} {j : Nat} (hj : j < n) :
    gpU (fun j => Su j && xMv Hu Oo n j) X (fun j => if xSm Hu Oo X Kd N S n j = true then -1 else nI j) (fun _ => (-1)) n j
    = gpU (fun j => mvs fu Oo j && decide (K j = 1) && !byS Bo S fu X j) X (fun j => nI j) (mxI (fun _ => (-1)) fg n) n j := by
  have uni : ∀ i k, i < n → k < n → (mvs fu Oo i && decide (K i = 1)) = true → (mvs fu Oo k && decide (K k = 1)) = true → X i = X k → i = k := by
    intro i k hi hk h1 h2 he
    simp only [Bool.and_eq_true, decide_eq_true_eq] at h1 h2
    by_cases e : i = k
    · exact e
    · exact (unq_2 w.hX hq hi hk e h1.1 h2.1 he h1.2 h2.2).elim
  rw [gpU_cg (c' := fun j => mvs fu Oo j && decide (K j = 1)) (v' := fun j => if byS Bo S fu X j = true then -1 else nI j) (b' := fun _ => (-1)) (fun i hi => o_go w r hi) (fun i hi hc => by
    rw [Bool.and_eq_true] at hc
    show (if xSm Hu Oo X Kd N S n i = true then (-1 : Int32) else nI i) = if byS Bo S fu X i = true then -1 else nI i
    rw [s_sm w hi hc.2]) (fun _ _ => rfl) n (Nat.le_refl _) j hj]
  by_cases hex : ∃ i, i < n ∧ (mvs fu Oo i && decide (K i = 1)) = true ∧ X i = j
  · obtain ⟨i, hi, hc, hx⟩ := hex
    subst hx
    rw [gpU_at (c := fun j => mvs fu Oo j && decide (K j = 1)) hc n hi (fun k hk hck he => uni k i hk hi hck hc he)]
    cases hs : byS Bo S fu X i with
    | false =>
      rw [gpU_at (c := fun j => mvs fu Oo j && decide (K j = 1) && !byS Bo S fu X j) (a := i) (by show (mvs fu Oo i && decide (K i = 1) && !byS Bo S fu X i) = true; rw [hc, hs]; rfl) n hi (fun k hk hck he => uni k i hk hi (by rw [Bool.and_eq_true] at hck; exact hck.1) hc he)]
      simp
    | true =>
      rw [gpU_no (c := fun j => mvs fu Oo j && decide (K j = 1) && !byS Bo S fu X j) n (fun k hk hck he => by
        rw [Bool.and_eq_true] at hck
        have e := uni k i hk hi hck.1 hc he
        rw [e, hs] at hck
        exact absurd hck.2 (by decide))]
      simp [mxI, hj]
  · rw [gpU_no (c := fun j => mvs fu Oo j && decide (K j = 1)) n (fun k hk hck he => hex ⟨k, hk, hck, he⟩), gpU_no (c := fun j => mvs fu Oo j && decide (K j = 1) && !byS Bo S fu X j) n (fun k hk hck he => hex ⟨k, hk, by rw [Bool.and_eq_true] at hck; exact hck.1, he⟩)]
    simp [mxI, hj]
/-- what is contested, where nobody stands -/
theorem o_cont (w : SW Hu P Kd Oo X Y N S n fu Bo) (r : RL Hu Oo X Y n Su Op K) (hno : ∀ j, xOp Hu Oo X Y n j = true → ¬ K j = 0) {f2 : Nat → Int32} {Co : Nat → Bool} {j : Nat} (hj : j < n) (he : f2 j = -1) :
    ctS X (ctC (xMv Hu Oo n) (spA (xMt Hu Oo X n) N (xCa Hu Oo X Y n) X (xSt Hu n) (xMv Hu Oo n) (xSm Hu Oo X Kd N S n) n Su Op) Su X f2) n j = ctU (tlC fu Oo X Y K S Bo n) X (fun j => cl0 Co n j) n j := by
  rw [ctS_iff, ctU_iff]
  have h0 : cl0 Co n j = false := by simp [cl0, hj]
  rw [h0, Bool.false_or]
  refine anyB_congr (fun i hi => ?_)
  by_cases hx : X i = j
  · have hd : decide (f2 (X i) = -1) = true := by rw [hx, he]; rfl
    rw [ctC, hd, tlC, s_mv w hi]
    cases hm : xMv Hu Oo n i with
    | false => simp
    | true =>
      rw [r_sp w r hi hm, r_su r hm]
      have h1 := hno i (s_opm hm)
      have h2 := r.k3 i
      rcases (show K i = 1 ∨ K i = 2 by omega) with e | e <;> simp [e]
  · simp [hx]
end SK
