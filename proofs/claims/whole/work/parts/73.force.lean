/-! Strengths and judgements: the same in both. Mine. -/
section SE
variable {Hu : Nat → Bool} {P Kd Oo X Y : Nat → Nat} {N : Nat → Nat → Bool} {S : Nat → Bool} {n : Nat} {fu : Nat → Int32} {Bo : Nat → Bool} {Su Op : Nat → Bool} {K : Nat → Nat}
theorem r_cnt (r : RL Hu Oo X Y n Su Op K) {a s : Nat} (h : xBk Hu Oo X Y n a s = true) (ms : Bool) : (Su s || (ms && Op s)) = (decide (K s = 1) || ms && decide (K s = 0)) := by
  have h1 := (s_bkn h).2.1
  rw [r.su, r.op, h1]; rfl
theorem r_frc (w : SW Hu P Kd Oo X Y N S n fu Bo) (r : RL Hu Oo X Y n Su Op K) {a : Nat} (ha : a < n) (hm : xMv Hu Oo n a = true) {L : Nat → Bool} {but : Int32} (ms : Bool) (hL : ∀ s, s < n → Hu s = true → L s = decide (fu s / 2 = but)) : frcC (xBk Hu Oo X Y n) Su Op L ms a = frc fu Oo X Y K n a ms but := by
  unfold frcC frc
  rw [numB_12 w.hn (fun j h => (s_bkn (by simp only [Bool.and_eq_true] at h; exact h.1.1 : xBk Hu Oo X Y n a j = true)).1)]
  congr 1
  refine numB_cg n (fun s hs => ?_)
  rw [s_bkm w hs ha hm]
  cases hb : xBk Hu Oo X Y n a s with
  | false => simp
  | true =>
    obtain ⟨_, _, _, hu, _⟩ := s_bkn hb
    rw [r_cnt r hb ms, hL s hs hu]
    cases decide (fu s / 2 = but) <;> simp
theorem r_frc0 (w : SW Hu P Kd Oo X Y N S n fu Bo) (r : RL Hu Oo X Y n Su Op K) {a : Nat} (ha : a < n) (hm : xMv Hu Oo n a = true) (ms : Bool) : frcC (xBk Hu Oo X Y n) Su Op (fun _ => false) ms a = frc fu Oo X Y K n a ms (-1) :=
  r_frc w r ha hm ms (fun s hs hu => by rw [s_div w hs hu]; simp [nI_m1 _ (w.hP s)])
theorem r_frcs (w : SW Hu P Kd Oo X Y N S n fu Bo) (r : RL Hu Oo X Y n Su Op K) {a : Nat} (ha : a < n) (hm : xMv Hu Oo n a = false) (ms : Bool) : frcC (xBk Hu Oo X Y n) Su Op (fun _ => false) ms a = 1 + numB (fun b => isS fu Oo X Y b a && (decide (K b = 1) || ms && decide (K b = 0))) n := by
  unfold frcC
  rw [numB_12 w.hn (fun j h => (s_bkn (by simp only [Bool.and_eq_true] at h; exact h.1.1 : xBk Hu Oo X Y n a j = true)).1)]
  congr 1
  refine numB_cg n (fun s hs => ?_)
  rw [s_bks w hs ha hm]
  cases hb : xBk Hu Oo X Y n a s with
  | false => simp
  | true => rw [r_cnt r hb ms]; simp
theorem r_dfc (w : SW Hu P Kd Oo X Y N S n fu Bo) (r : RL Hu Oo X Y n Su Op K) {a : Nat} (ha : a < n) (ms : Bool) : dfcC (xBk Hu Oo X Y n) Su Op (xSt Hu n) (xMv Hu Oo n) ms a = hdg fu Oo X Y K n a ms := by
  unfold dfcC hdg
  have hneg := s_neg w ha
  rw [s_st ha, s_mv w ha]
  cases hu : Hu a with
  | false => rw [hu] at hneg; simp at hneg; simp [hneg]
  | true =>
    have hneg2 : ¬ fu a < 0 := of_decide_eq_false (by rw [hneg, hu]; rfl)
    rw [if_neg (by decide), if_neg hneg2]
    cases hm : xMv Hu Oo n a with
    | true =>
      rw [if_pos rfl, if_pos rfl, r_su r hm, r_op r hm]
      have := r.k3 a
      rcases (show K a = 0 ∨ K a = 1 ∨ K a = 2 by omega) with e | e | e <;> rw [e] <;> cases ms <;> rfl
    | false => rw [if_neg (by decide), if_neg (by decide), r_frcs w r ha hm]
theorem r_prv (w : SW Hu P Kd Oo X Y N S n fu Bo) (r : RL Hu Oo X Y n Su Op K) {a : Nat} (ha : a < n) (hm : xMv Hu Oo n a = true) (ms : Bool) :
    prvC (xBk Hu Oo X Y n) Su Op (spA (xMt Hu Oo X n) N (xCa Hu Oo X Y n) X (xSt Hu n) (xMv Hu Oo n) (xSm Hu Oo X Kd N S n) n Su Op) (oqA (xMt Hu Oo X n) N (xCa Hu Oo X Y n) X (xSt Hu n) (xMv Hu Oo n) (xSm Hu Oo X Kd N S n) n Su Op) (xHo Hu Oo X Kd N S n) X ms a = prv fu Oo X Y K S Bo n a ms := by
  unfold prvC prv
  rw [r_sp w r ha hm, r_oq w r ha hm, r_frc0 w r ha hm, s_ho w ha hm]
  have hl := pth_lt fu Oo X Y K S Bo n a
  cases hh : xHo Hu Oo X Kd N S n a with
  | false =>
    rcases (show pth fu Oo X Y K S Bo n a = 0 ∨ pth fu Oo X Y K S Bo n a = 1 ∨ pth fu Oo X Y K S Bo n a = 2 by omega) with e | e | e <;> rw [e] <;> cases ms <;> simp
  | true =>
    have hx : xMv Hu Oo n (X a) = true := by simp [xHo, upTo, hoR] at hh; exact hh.2.2.1.1
    rw [r_su r hx, r_op r hx]
    have := r.k3 (X a)
    rcases (show pth fu Oo X Y K S Bo n a = 0 ∨ pth fu Oo X Y K S Bo n a = 1 ∨ pth fu Oo X Y K S Bo n a = 2 by omega) with e | e | e <;> rw [e] <;> rcases (show K (X a) = 0 ∨ K (X a) = 1 ∨ K (X a) = 2 by omega) with e2 | e2 | e2 <;> rw [e2] <;> cases ms <;> simp
theorem r_atk (w : SW Hu P Kd Oo X Y N S n fu Bo) (r : RL Hu Oo X Y n Su Op K) {a : Nat} (ha : a < n) (hm : xMv Hu Oo n a = true) (ms : Bool) :
    atkC (xBk Hu Oo X Y n) (xUp Hu P n) Su Op (spA (xMt Hu Oo X n) N (xCa Hu Oo X Y n) X (xSt Hu n) (xMv Hu Oo n) (xSm Hu Oo X Kd N S n) n Su Op) (oqA (xMt Hu Oo X n) N (xCa Hu Oo X Y n) X (xSt Hu n) (xMv Hu Oo n) (xSm Hu Oo X Kd N S n) n Su Op) (xSt Hu n) (xMv Hu Oo n) (xHo Hu Oo X Kd N S n) Hu X P ms a = atk fu Oo X Y K S Bo n a ms := by
  have hxn := w.hX a ha
  obtain ⟨_, hua, _⟩ := s_mvn hm
  have hag : Hu (X a) = true → (if pOf Hu P (X a) = pOf Hu P a then 0 else frcC (xBk Hu Oo X Y n) Su Op (xUp Hu P n (pOf Hu P (X a))) ms a) = agn fu Oo X Y K S Bo n a ms := by
    intro hux
    unfold agn
    rw [s_div w hxn hux, s_div w ha hua]
    have e1 : pOf Hu P (X a) = P (X a) := by simp [pOf, hux]
    have e2 : pOf Hu P a = P a := by simp [pOf, hua]
    rw [e1, e2]
    have hiff := nI_4 _ (w.hP (X a)) _ (w.hP a)
    by_cases h : P (X a) = P a
    · rw [if_pos h, if_pos (hiff.mpr h)]
    · rw [if_neg h, if_neg (fun h9 => h (hiff.mp h9))]
      refine r_frc w r ha hm ms (fun s hs hus => ?_)
      show upTo (upR Hu P (P (X a))) n s = _
      rw [s_up hs, upR, hus, s_div w hs hus]
      have e3 : pOf Hu P s = P s := by simp [pOf, hus]
      rw [e3, Bool.true_and]
      have := nI_4 _ (w.hP s) _ (w.hP (X a))
      simp [this]
  unfold atkC atk
  rw [r_sp w r ha hm, r_oq w r ha hm, r_frc0 w r ha hm, s_ho w ha hm, s_st hxn, s_mv w hxn]
  have hl := pth_lt fu Oo X Y K S Bo n a
  have hneg := s_neg w hxn
  have hle := agn_le (Kd := Oo) (X := X) (Y := Y) (K := K) (S := S) (Bo := Bo) (n := n) (a := a) (gr := ms) w.hU
  have hp : (!(decide (pth fu Oo X Y K S Bo n a = 1) || (ms && decide (pth fu Oo X Y K S Bo n a = 0)))) = (decide (pth fu Oo X Y K S Bo n a = 2) || (decide (pth fu Oo X Y K S Bo n a = 0) && !ms)) := by
    rcases (show pth fu Oo X Y K S Bo n a = 0 ∨ pth fu Oo X Y K S Bo n a = 1 ∨ pth fu Oo X Y K S Bo n a = 2 by omega) with e | e | e <;> rw [e] <;> cases ms <;> rfl
  rw [← hp]
  cases hpb : (decide (pth fu Oo X Y K S Bo n a = 1) || (ms && decide (pth fu Oo X Y K S Bo n a = 0))) with
  | false => simp
  | true =>
    rw [if_neg (show ¬ (true = false) by decide), if_neg (show ¬ ((!true) = true) by decide)]
    cases hux : Hu (X a) with
    | false => rw [hux] at hneg; simp at hneg; simp [hneg]
    | true =>
      have hneg2 : ¬ fu (X a) < 0 := of_decide_eq_false (by rw [hneg, hux]; rfl)
      rw [if_neg hneg2, hag hux]
      cases hmx : xMv Hu Oo n (X a) with
      | false => simp
      | true =>
        rw [r_su r hmx, r_op r hmx]
        have := r.k3 (X a)
        cases xHo Hu Oo X Kd N S n a with
        | true => simp
        | false =>
          rcases (show K (X a) = 0 ∨ K (X a) = 1 ∨ K (X a) = 2 by omega) with e2 | e2 | e2 <;> rw [e2] <;> cases ms <;> simp
          · intro h; omega
          · intro h; omega
theorem r_rst (w : SW Hu P Kd Oo X Y N S n fu Bo) (r : RL Hu Oo X Y n Su Op K) {a : Nat} (ha : a < n) (hm : xMv Hu Oo n a = true) (ms : Bool) :
    rstC (xBk Hu Oo X Y n) (xMt Hu Oo X n) Su Op (spA (xMt Hu Oo X n) N (xCa Hu Oo X Y n) X (xSt Hu n) (xMv Hu Oo n) (xSm Hu Oo X Kd N S n) n Su Op) (oqA (xMt Hu Oo X n) N (xCa Hu Oo X Y n) X (xSt Hu n) (xMv Hu Oo n) (xSm Hu Oo X Kd N S n) n Su Op) (xHo Hu Oo X Kd N S n) X (xSt Hu n) (xMv Hu Oo n) n ms a = mst fu Oo X Y K S Bo n a ms := by
  have hxn := w.hX a ha
  have hz : (if xHo Hu Oo X Kd N S n a = true then frcC (xBk Hu Oo X Y n) Su Op (fun _ => false) ms (X a) else dfcC (xBk Hu Oo X Y n) Su Op (xSt Hu n) (xMv Hu Oo n) ms (X a)) = (if hOn Bo S fu Oo X a = true then frc fu Oo X Y K n (X a) ms (-1) else hdg fu Oo X Y K n (X a) ms) := by
    rw [s_ho w ha hm]
    cases hh : xHo Hu Oo X Kd N S n a with
    | false => rw [if_neg (by decide), if_neg (by decide), r_dfc w r hxn]
    | true =>
      have hx : xMv Hu Oo n (X a) = true := by simp [xHo, upTo, hoR] at hh; exact hh.2.2.1.1
      rw [if_pos rfl, if_pos rfl, r_frc0 w r hxn hx]
  unfold rstC mst
  rw [hz]
  generalize (if hOn Bo S fu Oo X a = true then frc fu Oo X Y K n (X a) ms (-1) else hdg fu Oo X Y K n (X a) ms) = z
  have key : ∀ k, k ≤ n → rstF (xBk Hu Oo X Y n) (xMt Hu Oo X n) Su Op (spA (xMt Hu Oo X n) N (xCa Hu Oo X Y n) X (xSt Hu n) (xMv Hu Oo n) (xSm Hu Oo X Kd N S n) n Su Op) (oqA (xMt Hu Oo X n) N (xCa Hu Oo X Y n) X (xSt Hu n) (xMv Hu Oo n) (xSm Hu Oo X Kd N S n) n Su Op) (xHo Hu Oo X Kd N S n) X z a ms k = mstF fu Oo X Y K S Bo n z a ms k := by
    intro k
    induction k with
    | zero => intro _; rfl
    | succ k ih =>
      intro hk
      rw [rstF, mstF, ih (by omega), s_mt w (show k < n by omega)]
      cases ht : xMt Hu Oo X n (X a) k with
      | false => simp
      | true =>
        obtain ⟨hkn, hk1, hk2, _⟩ := s_mtn ht
        have hkm : xMv Hu Oo n k = true := by simp [xMv, upTo, mvR, hkn, hk1, hk2]
        rw [r_prv w r hkn hkm]
        by_cases e : k = a
        · simp [e]
        · rw [if_pos (by simp [e]), if_pos (by simp [e])]
          rw [Nat.max_def]
          split <;> split <;> omega
  exact key n (Nat.le_refl _)
theorem r_jm (w : SW Hu P Kd Oo X Y N S n fu Bo) (r : RL Hu Oo X Y n Su Op K) {a : Nat} (ha : a < n) (hm : xMv Hu Oo n a = true) :
    jmC (xBk Hu Oo X Y n) (xUp Hu P n) (xMt Hu Oo X n) N (xCa Hu Oo X Y n) X Y P (xSt Hu n) (xMv Hu Oo n) (xSm Hu Oo X Kd N S n) (xHo Hu Oo X Kd N S n) Hu n Su Op a = jmv fu Oo X Y K S Bo n a := by
  unfold jmC jmv
  rw [r_rst w r ha hm, r_rst w r ha hm, r_atk w r ha hm, r_atk w r ha hm]
theorem r_js (w : SW Hu P Kd Oo X Y N S n fu Bo) (r : RL Hu Oo X Y n Su Op K) {a : Nat} (ha : a < n) (hu : Hu a = true) :
    jsC (xBk Hu Oo X Y n) (xUp Hu P n) (xMt Hu Oo X n) N (xCa Hu Oo X Y n) X Y P (xSt Hu n) (xMv Hu Oo n) (xSm Hu Oo X Kd N S n) (xHo Hu Oo X Kd N S n) Hu n Su Op a = jsp fu Oo X Y K S Bo n a := by
  have hc : ∀ b, b < n → ((xMt Hu Oo X n a b && !(xUp Hu P n (pOf Hu P a) b)) && !(decide (b = Y a))) = ctr fu Oo X Y a b := by
    intro b hb
    unfold ctr
    rw [s_mt w hb]
    cases ht : xMt Hu Oo X n a b with
    | false => simp
    | true =>
      obtain ⟨hbn, hb1, hb2, _⟩ := s_mtn ht
      have e1 : pOf Hu P a = P a := by simp [pOf, hu]
      have e2 : pOf Hu P b = P b := by simp [pOf, hb1]
      have e3 : xUp Hu P n (pOf Hu P a) b = decide (fu b / 2 = fu a / 2) := by
        show upTo (upR Hu P (pOf Hu P a)) n b = _
        rw [s_up hb, upR, hb1, e1, e2, s_div w hb hb1, s_div w ha hu, Bool.true_and]
        have := nI_4 _ (w.hP b) _ (w.hP a)
        simp [this]
      rw [e3]
  have hmn : ∀ {q : Nat → Bool} {j : Nat}, (((xMt Hu Oo X n a j && !(xUp Hu P n (pOf Hu P a) j)) && !(decide (j = Y a))) && q j) = true → j < n ∧ xMv Hu Oo n j = true := by
    intro q j h
    simp only [Bool.and_eq_true] at h
    have h1 := s_mtn h.1.1.1
    exact ⟨h1.1, by simp [xMv, upTo, mvR, h1.1, h1.2.1, h1.2.2.1]⟩
  have hl := dsA_lt fu Oo X K n a
  have e1 : anyB (fun j => ((xMt Hu Oo X n a j && !(xUp Hu P n (pOf Hu P a) j)) && !(decide (j = Y a))) && (spA (xMt Hu Oo X n) N (xCa Hu Oo X Y n) X (xSt Hu n) (xMv Hu Oo n) (xSm Hu Oo X Kd N S n) n Su Op) j) 12 = anyB (fun b => ctr fu Oo X Y a b && decide (pth fu Oo X Y K S Bo n b = 1)) n := by
    rw [anyB_12 w.hn (fun j h => (hmn h).1)]
    refine anyB_congr (fun b hb => ?_)
    rw [hc b hb]
    cases h : ctr fu Oo X Y a b with
    | false => rfl
    | true =>
      have hmv : xMv Hu Oo n b = true := (hmn (q := fun _ => true) (j := b) (by rw [hc b hb, h]; rfl)).2
      rw [r_sp w r hb hmv]
  have e2 : anyB (fun j => ((xMt Hu Oo X n a j && !(xUp Hu P n (pOf Hu P a) j)) && !(decide (j = Y a))) && (oqA (xMt Hu Oo X n) N (xCa Hu Oo X Y n) X (xSt Hu n) (xMv Hu Oo n) (xSm Hu Oo X Kd N S n) n Su Op) j) 12 = anyB (fun b => ctr fu Oo X Y a b && decide (pth fu Oo X Y K S Bo n b = 0)) n := by
    rw [anyB_12 w.hn (fun j h => (hmn h).1)]
    refine anyB_congr (fun b hb => ?_)
    rw [hc b hb]
    cases h : ctr fu Oo X Y a b with
    | false => rfl
    | true =>
      have hmv : xMv Hu Oo n b = true := (hmn (q := fun _ => true) (j := b) (by rw [hc b hb, h]; rfl)).2
      rw [r_oq w r hb hmv]
  unfold jsC jsp
  rw [r_sd w r ha hu, r_od w r ha hu, e1, e2]
  cases h1 : anyB (fun b => ctr fu Oo X Y a b && decide (pth fu Oo X Y K S Bo n b = 1)) n with
  | true => simp
  | false =>
    have e3 : anyB (fun b => ctr fu Oo X Y a b && !decide (pth fu Oo X Y K S Bo n b = 2)) n = anyB (fun b => ctr fu Oo X Y a b && decide (pth fu Oo X Y K S Bo n b = 0)) n := by
      refine anyB_congr (fun b hb => ?_)
      have h2 := anyB_no.mp h1 b hb
      have hp := pth_lt fu Oo X Y K S Bo n b
      cases hcb : ctr fu Oo X Y a b with
      | false => rfl
      | true =>
        rw [hcb] at h2
        simp at h2 ⊢
        rcases (show pth fu Oo X Y K S Bo n b = 0 ∨ pth fu Oo X Y K S Bo n b = 1 ∨ pth fu Oo X Y K S Bo n b = 2 by omega) with e | e | e
        · simp [e]
        · exact absurd e h2
        · simp [e]
    rw [e3]
    rcases (show dsA fu Oo X K n a = 0 ∨ dsA fu Oo X K n a = 1 ∨ dsA fu Oo X K n a = 2 by omega) with e | e | e <;> rw [e] <;> simp
end SE
