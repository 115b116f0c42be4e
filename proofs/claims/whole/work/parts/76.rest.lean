/-! The leftovers' rules: the same in both; and so to the end. Mine. -/
section SH
variable {fu : Nat → Int32} {Kd X Y K K' Kf : Nat → Nat} {S Bo : Nat → Bool} {n a b r : Nat}
/-- among 13 places below 12 one comes twice -/
theorem itr_rep (hX : ∀ j, j < n → X j < n) (hr : r < n) (hn : n ≤ 12) : ∃ s k, s < k ∧ k ≤ 12 ∧ itr X r s = itr X r k := by
  have key : ∀ k, (∃ s k', s < k' ∧ k' < k ∧ itr X r s = itr X r k') ∨ ∃ Ry, rgI X (fun _ => true) r n k Ry := by
    intro k
    induction k with
    | zero => exact Or.inr ⟨fun j => cl0 (fun _ => false) n j, rgI_0⟩
    | succ k ih =>
      rcases ih with ⟨s, k', h1, h2, h3⟩ | ⟨Ry, hI⟩
      · exact Or.inl ⟨s, k', h1, by omega, h3⟩
      · cases hb : Ry (itr X r k) with
        | true =>
          obtain ⟨s, h1, h2⟩ := rgI_at hI (itr_lt hX hr k) hb
          exact Or.inl ⟨s, k, h1, by omega, h2⟩
        | false => exact Or.inr ⟨_, rgI_s hI (itr_lt hX hr k) rfl hb⟩
  rcases key 13 with ⟨s, k, h1, h2, h3⟩ | ⟨Ry, hI⟩
  · exact ⟨s, k, h1, by omega, h3⟩
  · have := rgI_le hI
    omega
theorem cyc_inj (hX : ∀ j, j < n → X j < n) (hr : r < n) (hn : n ≤ 12) {i j : Nat} (hi : cyc X r i = true) (hj : cyc X r j = true) (he : X i = X j) : i = j := by
  obtain ⟨s, k, h1, h2, h3⟩ := itr_rep hX hr hn
  have per : ∀ c, cyc X r c = true → itr X c (k - s) = c := by
    intro c hc
    obtain ⟨t, h4, h5, h6⟩ := cyc_iff.mp hc
    have := itr_per h1 h3 (u := t) (by omega) 1
    rw [Nat.one_mul, itr_add, h6] at this
    exact this
  have sh : ∀ c m, itr X c (m + 1) = itr X (X c) m := by
    intro c m
    rw [Nat.add_comm, itr_add]; rfl
  have hp : k - s = (k - s - 1) + 1 := by omega
  have e1 := per i hi
  have e2 := per j hj
  rw [hp, sh] at e1 e2
  rw [← e1, ← e2, he]
/-- no two succeed at one place: kept by each step -/
theorem unq_st (hU : okF fu) (hK : ∀ j, K j < 3) (h : unq fu Kd X Y K S Bo n) (a : Nat) : unq fu Kd X Y (stK fu Kd X Y K S Bo n a) S Bo n := by
  intro b hb hm h1
  have hk : kle K (stK fu Kd X Y K S Bo n a) := kle_st a
  by_cases e : K b = 1
  · exact (h b hb hm e).imp (crt_s hk hK) (rct_s hk)
  · left
    have h2 := h1
    unfold stK at h2
    split at h2
    · by_cases eb : b = a
      · subst eb
        rw [upN_s, jdg, if_pos hm] at h2
        exact crt_s hk hK (crt_of hU h2)
      · rw [upN_n _ _ eb] at h2; exact absurd h2 e
    · exact absurd h2 e
theorem unq_ps (hU : okF fu) (hK : ∀ j, K j < 3) (h : unq fu Kd X Y K S Bo n) : ∀ i, unq fu Kd X Y (psK fu Kd X Y K S Bo n i) S Bo n
  | 0 => h
  | i + 1 => unq_st hU (ps_3 hK i) (unq_ps hU hK h i) i
theorem unq_lf (hU : okF fu) (hn : n ≤ 12) (hX : ∀ j, j < n → X j < n) (hK : ∀ j, K j < 3) (hm : moK fu Kd X Y K S Bo n n = false) (hr : r < n) (hq : rgQ fu Kd K r = true) (h : unq fu Kd X Y K S Bo n) : unq fu Kd X Y (lfK Bo S fu Kd X K n r) S Bo n := by
  intro b hb hmb h1
  have hk : kle K (lfK Bo S fu Kd X K n r) := kle_lf hq
  by_cases e : K b = 1
  · exact (h b hb hmb e).imp (crt_s hk hK) (rct_s hk)
  · right
    have hfix : ∀ j, j < n → mvs fu Kd j = true → K j = 0 → jmv fu Kd X Y K S Bo n j = 0 := fun j hj hmj h0 => by
      have := (moK_f n hm).2 j hj (by simp [isO, hmj, h0])
      rwa [jdg, if_pos hmj] at this
    have h2 := h1
    unfold lfK at h2
    split at h2
    · rename_i hM
      unfold rgK at h2
      split at h2
      · rename_i hc
        rw [Bool.and_eq_true] at hc
        have hbq := rgQ_o (cyc_q hM hc.2)
        have hM2 := hM
        simp only [rgM, Bool.and_eq_true, Bool.not_eq_true'] at hM2
        have hho : hOn Bo S fu Kd X b = false := by
          have := anyB_no.mp hM2.1.2 b hb
          simpa [hc.2] using this
        refine ⟨fun a ha hab hma => ?_, hho⟩
        have hma' := hma
        simp only [mvT, Bool.and_eq_true, decide_eq_true_eq] at hma'
        have hk2 : K a = 2 := by
          have h3 := hK a
          have hno1 := unq_o hU hX h hfix hK hb hmb hbq.2.1 hho ha hab hma
          by_cases h0 : K a = 0
          · exfalso
            have hqa : rgQ fu Kd K a = true := by simp [rgQ, hma'.1, h0]
            have hcx : cyc X r (X b) = true := by
              obtain ⟨t, g1, g2, g3⟩ := cyc_iff.mp hc.2
              obtain ⟨s, k, f1, f2, f3⟩ := itr_rep hX hr hn
              have := cyc_of f1 f2 f3 (u := t + 1) (by omega)
              rw [← g3]; exact this
            cases hca : cyc X r a with
            | true => exact hab (cyc_inj hX hr hn hca hc.2 hma'.2)
            | false =>
              have := anyB_no.mp hM2.2 a ha
              rw [hqa, hca, hma'.2, hcx] at this
              cases this
          · omega
        exact kle_2 hk hk2
      · exact absurd h2 e
    · split at h2
      · unfold lsK at h2
        split at h2
        · cases h2
        · exact absurd h2 e
      · unfold upN at h2
        split at h2
        · cases h2
        · exact absurd h2 e
theorem unq_fin (hU : okF fu) (hn : n ≤ 12) (hX : ∀ j, j < n → X j < n) (h : Fnl fu Kd X Y S Bo n K Kf) (hK : ∀ j, K j < 3) (hq : unq fu Kd X Y K S Bo n) : unq fu Kd X Y Kf S Bo n := by
  refine Fnl_ind (M := fun K Kf => (∀ j, K j < 3) → unq fu Kd X Y K S Bo n → unq fu Kd X Y Kf S Bo n) (fun K Kf _ ih hK hq => ih (ps_3 hK n) (unq_ps hU hK hq n)) (fun K Kf hm ho ih hK hq => ?_) (fun K _ _ _ hq => hq) h hK hq
  obtain ⟨h1, h2⟩ := lsM_in hn ho
  exact ih (lf_3 hK) (unq_lf hU hn hX hK hm h1 h2 hq)
end SH
section SI
variable {Hu : Nat → Bool} {P Kd Oo X Y : Nat → Nat} {N : Nat → Nat → Bool} {S : Nat → Bool} {n : Nat} {fu : Nat → Int32} {Bo : Nat → Bool} {Su Op : Nat → Bool} {K Kf : Nat → Nat}
theorem rl_q (w : SW Hu P Kd Oo X Y N S n fu Bo) (r : RL Hu Oo X Y n Su Op K) {j : Nat} (hj : j < n) : (Op j && xMv Hu Oo n j) = rgQ fu Oo K j := by
  rw [rgQ, s_mv w hj]
  cases hm : xMv Hu Oo n j with
  | false => simp
  | true => rw [r_op r hm]; simp
theorem rl_qn {j : Nat} (h : (Op j && xMv Hu Oo n j) = true) : j < n := by
  rw [Bool.and_eq_true] at h; exact (s_mvn h.2).1
theorem rl_least (w : SW Hu P Kd Oo X Y N S n fu Bo) (r : RL Hu Oo X Y n Su Op K) (ho : opM fu Oo K n = true) : lwB (fun j => Op j && xMv Hu Oo n j) = lsM fu Oo K := by
  obtain ⟨h1, h2⟩ := lsM_in w.hn ho
  have h3 : ∀ j, j < lsM fu Oo K → rgQ fu Oo K j = false := fun j hj => lwB_min _ hj
  rcases Nat.lt_trichotomy (lwB (fun j => Op j && xMv Hu Oo n j)) (lsM fu Oo K) with h | h | h
  · have h4 := lwB_in (fun j => Op j && xMv Hu Oo n j) (by have := w.hn; omega)
    have h5 := rl_q w r (rl_qn h4)
    rw [h4, h3 _ h] at h5; cases h5
  · exact h
  · have h4 := lwB_min (fun j => Op j && xMv Hu Oo n j) h
    have h5 := rl_q w r h1
    rw [h2] at h5
    rw [show (Op (lsM fu Oo K) && xMv Hu Oo n (lsM fu Oo K)) = false from h4] at h5; cases h5
theorem wk_itr {Q : Nat → Bool} (h : lwB Q < 12) : ∀ t, wkA X Q t = itr X (lwB Q) t
  | 0 => by rw [wkA, if_neg (by omega)]; rfl
  | t + 1 => congrArg X (wk_itr h t)
theorem rgS_iff {Q : Nat → Bool} {j : Nat} : ∀ k, rgS X Q k j = anyB (fun t => decide (12 ≤ t) && decide (wkA X Q t = j)) k
  | 0 => rfl
  | k + 1 => by
    show (rgS X Q k j || (decide (12 ≤ k) && decide (j = wkA X Q k))) = _
    rw [anyB, rgS_iff k]
    congr 2
    simp [eq_comm]
/-- the ring -/
theorem rl_rng (w : SW Hu P Kd Oo X Y N S n fu Bo) (r : RL Hu Oo X Y n Su Op K) (ho : opM fu Oo K n = true) (j : Nat) : rngC X (fun j => Op j && xMv Hu Oo n j) j = (rgOk X (rgQ fu Oo K) (lsM fu Oo K) && cyc X (lsM fu Oo K) j) := by
  obtain ⟨h1, h2⟩ := lsM_in w.hn ho
  have hl := rl_least w r ho
  have hl12 : lwB (fun j => Op j && xMv Hu Oo n j) < 12 := by rw [hl]; have := w.hn; omega
  have hw : ∀ t, wkA X (fun j => Op j && xMv Hu Oo n j) t = itr X (lsM fu Oo K) t := fun t => by rw [wk_itr hl12, hl]
  have hlt := itr_lt w.hX h1
  have e1 : anyB (fun i => !wkO X (fun j => Op j && xMv Hu Oo n j) i) 24 = anyB (fun t => !rgQ fu Oo K (itr X (lsM fu Oo K) t)) 24 := anyB_congr (fun t _ => by
    rw [wkO, hw t, rl_q w r (hlt t)]
    have := hlt t
    have := w.hn
    simp [show itr X (lsM fu Oo K) t < 12 by omega])
  rw [rngC, e1, rgOk]
  cases anyB (fun t => !rgQ fu Oo K (itr X (lsM fu Oo K) t)) 24 with
  | true => simp
  | false =>
    rw [if_neg (by decide), rgS_iff, cyc]
    simp only [Bool.not_false, Bool.true_and]
    exact anyB_congr (fun t _ => by rw [hw t])
theorem rl_M (w : SW Hu P Kd Oo X Y N S n fu Bo) (r : RL Hu Oo X Y n Su Op K) (ho : opM fu Oo K n = true) :
    (anyB (rngC X (fun j => Op j && xMv Hu Oo n j)) 12 && !anyB (fun j => rngC X (fun j => Op j && xMv Hu Oo n j) j && xHo Hu Oo X Kd N S n j) 12 && !entC X n (rngC X (fun j => Op j && xMv Hu Oo n j)) (fun j => Op j && xMv Hu Oo n j)) = rgM Bo S fu Oo X K n (lsM fu Oo K) := by
  obtain ⟨h1, h2⟩ := lsM_in w.hn ho
  have hr := rl_rng w r ho
  have hrf : rngC X (fun j => Op j && xMv Hu Oo n j) = fun j => (rgOk X (rgQ fu Oo K) (lsM fu Oo K) && cyc X (lsM fu Oo K) j) := funext hr
  rw [hrf, rgM]
  cases hok : rgOk X (rgQ fu Oo K) (lsM fu Oo K) with
  | false =>
    have : anyB (fun j => false && cyc X (lsM fu Oo K) j) 12 = false := anyB_no.mpr (fun b _ => rfl)
    rw [this]; rfl
  | true =>
    have hq : ∀ j, cyc X (lsM fu Oo K) j = true → rgQ fu Oo K j = true := by
      intro j hj
      obtain ⟨t, _, g2, g3⟩ := cyc_iff.mp hj
      have := anyB_no.mp (by simpa [rgOk] using hok : anyB (fun t => !rgQ fu Oo K (itr X (lsM fu Oo K) t)) 24 = false) t g2
      rw [← g3]; simpa using this
    have hcn : ∀ j, cyc X (lsM fu Oo K) j = true → j < n := by
      intro j hj
      obtain ⟨t, _, g2, g3⟩ := cyc_iff.mp hj
      rw [← g3]; exact itr_lt w.hX h1 t
    simp only [Bool.true_and]
    have e0 : anyB (cyc X (lsM fu Oo K)) 12 = true := (anyB_iff _ 12).mpr ⟨itr X (lsM fu Oo K) 12, by have := itr_lt w.hX h1 12; have := w.hn; omega, cyc_iff.mpr ⟨12, by omega, by omega, rfl⟩⟩
    have e1 : anyB (fun j => cyc X (lsM fu Oo K) j && xHo Hu Oo X Kd N S n j) 12 = anyB (fun j => cyc X (lsM fu Oo K) j && hOn Bo S fu Oo X j) n := by
      rw [anyB_12 w.hn (fun j h => by rw [Bool.and_eq_true] at h; exact hcn j h.1)]
      refine anyB_congr (fun b hb => ?_)
      cases hc : cyc X (lsM fu Oo K) b with
      | false => rfl
      | true =>
        have hm : xMv Hu Oo n b = true := by rw [← s_mv w hb]; exact (rgQ_o (hq b hc)).2.2
        rw [s_ho w hb hm]
    have e2 : entC X n (fun j => cyc X (lsM fu Oo K) j) (fun j => Op j && xMv Hu Oo n j) = anyB (fun c => rgQ fu Oo K c && !cyc X (lsM fu Oo K) c && cyc X (lsM fu Oo K) (X c)) n := anyB_congr (fun b hb => by
      show ((Op b && xMv Hu Oo n b) && !cyc X (lsM fu Oo K) b && cyc X (lsM fu Oo K) (X b)) = _
      rw [rl_q w r hb])
    show (anyB (cyc X (lsM fu Oo K)) 12 && _ && _) = _
    rw [e0, e1, e2, Bool.true_and]
theorem rl_lf (w : SW Hu P Kd Oo X Y N S n fu Bo) (r : RL Hu Oo X Y n Su Op K) (ho : opM fu Oo K n = true) :
    RL Hu Oo X Y n (loS X (xMv Hu Oo n) (xSm Hu Oo X Kd N S n) Su Op (loK X (xMv Hu Oo n) (xSm Hu Oo X Kd N S n) (xHo Hu Oo X Kd N S n) n Op)) (fun j => Op j && !(loZ X (xMv Hu Oo n) (xSm Hu Oo X Kd N S n) Op (loK X (xMv Hu Oo n) (xSm Hu Oo X Kd N S n) (xHo Hu Oo X Kd N S n) n Op) j)) (lfK Bo S fu Oo X K n (lsM fu Oo K)) := by
  obtain ⟨h1, h2⟩ := lsM_in w.hn ho
  have hM := rl_M w r ho
  have hqx : ∀ j, j < n → rgQ fu Oo K j = true → xOp Hu Oo X Y n j = true ∧ K j = 0 := fun j hj hq => by
    have := rgQ_o hq
    rw [s_mv w hj] at this
    exact ⟨s_opm this.2.2, this.2.1⟩
  have hsea : anyB (fun j => (Op j && xMv Hu Oo n j) && xSm Hu Oo X Kd N S n j) 12 = anyB (fun b => rgQ fu Oo K b && byS Bo S fu X b) n := by
    rw [anyB_12 w.hn (fun j h => by rw [Bool.and_eq_true] at h; exact rl_qn h.1)]
    refine anyB_congr (fun b hb => ?_)
    rw [rl_q w r hb]
    cases hq : rgQ fu Oo K b with
    | false => rfl
    | true =>
      have hm : xMv Hu Oo n b = true := by rw [← s_mv w hb]; exact (rgQ_o hq).2.2
      rw [s_sm w hb hm]
  refine ⟨lf_3 r.k3, ?_⟩
  have hlo : loK X (xMv Hu Oo n) (xSm Hu Oo X Kd N S n) (xHo Hu Oo X Kd N S n) n Op = if rgM Bo S fu Oo X K n (lsM fu Oo K) = true then 1 else if anyB (fun b => rgQ fu Oo K b && byS Bo S fu X b) n = true then 2 else 3 := by
    unfold loK
    rw [hM, hsea]
  cases hMb : rgM Bo S fu Oo X K n (lsM fu Oo K) with
  | true =>
    have e1 : loK X (xMv Hu Oo n) (xSm Hu Oo X Kd N S n) (xHo Hu Oo X Kd N S n) n Op = 1 := by rw [hlo, hMb]; rfl
    have e2 : lfK Bo S fu Oo X K n (lsM fu Oo K) = rgK Bo S fu Oo X K n (lsM fu Oo K) := by rw [lfK, if_pos hMb]
    rw [e1, e2]
    have hr : ∀ j, rngC X (fun j => Op j && xMv Hu Oo n j) j = cyc X (lsM fu Oo K) j := fun j => by
      rw [rl_rng w r ho j]
      have := hMb
      simp only [rgM, Bool.and_eq_true] at this
      rw [this.1.1, Bool.true_and]
    have hcx : ∀ j, cyc X (lsM fu Oo K) j = true → xOp Hu Oo X Y n j = true ∧ K j = 0 := fun j hc => by
      obtain ⟨t, _, _, g3⟩ := cyc_iff.mp hc
      exact hqx j (by rw [← g3]; exact itr_lt w.hX h1 t) (cyc_q hMb hc)
    refine ⟨fun j => ?_, fun j => ?_, fun j hj hu h2 hx => ?_⟩
    · show (Su j || rngC X (fun j => Op j && xMv Hu Oo n j) j) = _
      rw [hr, r.su, rgK, hMb, Bool.true_and]
      cases hc : cyc X (lsM fu Oo K) j with
      | true => simp [(hcx j hc).1]
      | false => simp
    · show (Op j && !(rngC X (fun j => Op j && xMv Hu Oo n j) j)) = _
      rw [hr, r.op, rgK, hMb, Bool.true_and]
      cases hc : cyc X (lsM fu Oo K) j with
      | true => simp
      | false => simp
    · rw [rgK, hMb, Bool.true_and]
      cases hc : cyc X (lsM fu Oo K) j with
      | true => rw [(hcx j hc).1] at hx; cases hx
      | false => simpa using r.vd j hj hu h2 hx
  | false =>
    cases hsb : anyB (fun b => rgQ fu Oo K b && byS Bo S fu X b) n with
    | true =>
      have e1 : loK X (xMv Hu Oo n) (xSm Hu Oo X Kd N S n) (xHo Hu Oo X Kd N S n) n Op = 2 := by rw [hlo, hMb, hsb]; rfl
      have e2 : lfK Bo S fu Oo X K n (lsM fu Oo K) = lsK Bo S fu Oo X K n := by rw [lfK, if_neg (by rw [hMb]; decide), if_pos hsb]
      rw [e1, e2]
      have hz : ∀ j, ((Op j && xMv Hu Oo n j) && xSm Hu Oo X Kd N S n j) = (decide (j < n) && (rgQ fu Oo K j && byS Bo S fu X j)) := fun j => by
        by_cases hj : j < n
        · rw [rl_q w r hj]
          cases hq : rgQ fu Oo K j with
          | false => simp
          | true =>
            have hm : xMv Hu Oo n j = true := by rw [← s_mv w hj]; exact (rgQ_o hq).2.2
            rw [s_sm w hj hm]; simp [hj]
        · cases hq : (Op j && xMv Hu Oo n j) with
          | false => simp [hj]
          | true => exact absurd (rl_qn hq) hj
      refine ⟨fun j => ?_, fun j => ?_, fun j hj hu h2 hx => ?_⟩
      · show Su j = _
        rw [r.su, lsK]
        cases hc : (decide (j < n) && (rgQ fu Oo K j && byS Bo S fu X j)) with
        | true =>
          simp only [Bool.and_eq_true, decide_eq_true_eq] at hc
          have := hqx j hc.1 hc.2.1
          simp [this]
        | false => simp
      · show (Op j && !((Op j && xMv Hu Oo n j) && xSm Hu Oo X Kd N S n j)) = _
        rw [hz, lsK]
        cases hc : (decide (j < n) && (rgQ fu Oo K j && byS Bo S fu X j)) with
        | true => simp
        | false => simp [r.op j]
      · rw [lsK]
        split
        · rfl
        · exact r.vd j hj hu h2 hx
    | false =>
      have e1 : loK X (xMv Hu Oo n) (xSm Hu Oo X Kd N S n) (xHo Hu Oo X Kd N S n) n Op = 3 := by rw [hlo, hMb, hsb]; rfl
      have e2 : lfK Bo S fu Oo X K n (lsM fu Oo K) = upN K (lsM fu Oo K) 2 := by rw [lfK, if_neg (by rw [hMb]; decide), if_neg (by rw [hsb]; decide)]
      rw [e1, e2]
      have hx1 := hqx _ h1 h2
      refine ⟨fun j => ?_, fun j => ?_, fun j hj hu hj2 hx => ?_⟩
      · show Su j = _
        by_cases e : j = lsM fu Oo K
        · subst e; rw [upN_s, r.su, hx1.2]; simp
        · rw [upN_n _ _ e, r.su]
      · show (Op j && !(decide (j = lwB (fun j => Op j && xMv Hu Oo n j)))) = _
        rw [rl_least w r ho]
        by_cases e : j = lsM fu Oo K
        · subst e; rw [upN_s]; simp
        · rw [upN_n _ _ e, r.op]; simp [e]
      · by_cases e : j = lsM fu Oo K
        · subst e; rw [upN_s]
        · rw [upN_n _ _ e]; exact r.vd j hj hu hj2 hx
end SI
