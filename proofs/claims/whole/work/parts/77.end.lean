/-! The class comes to the same end as the reference. Mine. -/
theorem seS_sh {Bk Up Mt N Ca : Nat → Nat → Bool} {X Y P : Nat → Nat} {St Mv Sm Ho Hu : Nat → Bool} {n : Nat} {q : (Nat → Bool) × (Nat → Bool)} : ∀ m, seS Bk Up Mt N Ca X Y P St Mv Sm Ho Hu n q (m + 1) = seS Bk Up Mt N Ca X Y P St Mv Sm Ho Hu n (onP Bk Up Mt N Ca X Y P St Mv Sm Ho Hu n q) m
  | 0 => rfl
  | m + 1 => by rw [seS_1, seS_sh m, seS_1]
section SJ
variable {Hu : Nat → Bool} {P Kd Oo X Y : Nat → Nat} {N : Nat → Nat → Bool} {S : Nat → Bool} {n : Nat} {fu : Nat → Int32} {Bo : Nat → Bool} {Su Op Su' Op' : Nat → Bool} {K Kf : Nat → Nat}
theorem rl_fun (r : RL Hu Oo X Y n Su Op K) (r2 : RL Hu Oo X Y n Su' Op' K) : Su' = Su ∧ Op' = Op := ⟨funext fun j => by rw [r.su, r2.su], funext fun j => by rw [r.op, r2.op]⟩
theorem rl_none (w : SW Hu P Kd Oo X Y N S n fu Bo) (r : RL Hu Oo X Y n Su Op K) (hm : moK fu Oo X Y K S Bo n n = false) (ho : opM fu Oo K n = false) : ∀ j, Op j = false := by
  intro j
  cases h : Op j with
  | false => rfl
  | true =>
    exfalso
    have h1 := h
    rw [r.op, Bool.and_eq_true, decide_eq_true_eq] at h1
    obtain ⟨hj, hu, hk⟩ := s_opn h1.1
    have hi : isO fu Oo K j = true := by rw [s_iso w r hj]; exact h
    have hjd := (moK_f n hm).2 j hj hi
    rcases hk with hk | hk
    · have hmv : xMv Hu Oo n j = true := by simp [xMv, upTo, mvR, hj, hu, hk]
      have := anyB_no.mp ho j hj
      rw [rgQ, s_mv w hj, hmv, h1.2] at this
      cases this
    · have hmv : mvs fu Oo j = false := by simp [mvs, hk]
      rw [jdg, hmv, if_neg (by decide)] at hjd
      exact no_sup ho r.k3 hj hjd
theorem cls_fin (w : SW Hu P Kd Oo X Y N S n fu Bo) (h : Fnl fu Oo X Y S Bo n K Kf) : ∀ q : (Nat → Bool) × (Nat → Bool), RL Hu Oo X Y n q.1 q.2 K → ∀ m, numB (isO fu Oo K) n ≤ m → RL Hu Oo X Y n (seS (xBk Hu Oo X Y n) (xUp Hu P n) (xMt Hu Oo X n) N (xCa Hu Oo X Y n) X Y P (xSt Hu n) (xMv Hu Oo n) (xSm Hu Oo X Kd N S n) (xHo Hu Oo X Kd N S n) Hu n q m).1 (seS (xBk Hu Oo X Y n) (xUp Hu P n) (xMt Hu Oo X n) N (xCa Hu Oo X Y n) X Y P (xSt Hu n) (xMv Hu Oo n) (xSm Hu Oo X Kd N S n) (xHo Hu Oo X Kd N S n) Hu n q m).2 Kf := by
  refine Fnl_ind (M := fun K Kf => ∀ q : (Nat → Bool) × (Nat → Bool), RL Hu Oo X Y n q.1 q.2 K → ∀ m, numB (isO fu Oo K) n ≤ m → RL Hu Oo X Y n (seS (xBk Hu Oo X Y n) (xUp Hu P n) (xMt Hu Oo X n) N (xCa Hu Oo X Y n) X Y P (xSt Hu n) (xMv Hu Oo n) (xSm Hu Oo X Kd N S n) (xHo Hu Oo X Kd N S n) Hu n q m).1 (seS (xBk Hu Oo X Y n) (xUp Hu P n) (xMt Hu Oo X n) N (xCa Hu Oo X Y n) X Y P (xSt Hu n) (xMv Hu Oo n) (xSm Hu Oo X Kd N S n) (xHo Hu Oo X Kd N S n) Hu n q m).2 Kf) (fun K Kf hm ih q r m hle => ?_) (fun K Kf hm ho ih q r m hle => ?_) (fun K hm ho q r m _ => ?_) h
  · have hlt := opn_lt fu Oo X Y K S Bo n hm
    obtain ⟨m', rfl⟩ : ∃ m', m = m' + 1 := ⟨m - 1, by omega⟩
    have r2 := r_ps w (q := (q.1, q.2)) r n (Nat.le_refl _)
    have h1 : anyB q.2 12 = true := by
      cases ha : anyB q.2 12 with
      | true => rfl
      | false =>
        have h0 : numB (isO fu Oo K) n = numB (fun _ => false) n := numB_cg n (fun j hj => by rw [s_iso w r hj]; exact anyB_no.mp ha j (by have := w.hn; omega))
        have h00 : ∀ k, numB (fun _ => false) k = 0 := by
          intro k
          induction k with
          | zero => rfl
          | succ k ih2 => rw [numB, ih2]; rfl
        rw [h00] at h0
        omega
    have h2 : ¬ mI (psC (xBk Hu Oo X Y n) (xUp Hu P n) (xMt Hu Oo X n) N (xCa Hu Oo X Y n) X Y P (xSt Hu n) (xMv Hu Oo n) (xSm Hu Oo X Kd N S n) (xHo Hu Oo X Kd N S n) Hu n (q.1, q.2) n).2 = mI q.2 := by
      intro he
      have h0 : numB (isO fu Oo (psK fu Oo X Y K S Bo n n)) n = numB (isO fu Oo K) n := numB_cg n (fun j hj => by rw [s_iso w r2 hj, s_iso w r hj]; exact mI_inj he (by have := w.hn; omega))
      omega
    rw [seS_sh, onP_p h1 h2]
    exact ih _ r2 m' (by omega)
  · have hlt := lf_lt (Bo := Bo) (S := S) w.hn w.hX ho
    obtain ⟨m', rfl⟩ : ∃ m', m = m' + 1 := ⟨m - 1, by omega⟩
    have r2 := r_ps w (q := (q.1, q.2)) r n (Nat.le_refl _)
    rw [(moK_f n hm).1] at r2
    have hf := (rl_fun r r2).2
    have h1 : anyB q.2 12 = true := by
      obtain ⟨g1, g2⟩ := lsM_in w.hn ho
      refine (anyB_iff _ 12).mpr ⟨lsM fu Oo K, by have := w.hn; omega, ?_⟩
      rw [← s_iso w r g1]; exact (rgQ_o g2).1
    rw [seS_sh, onP_l h1 (by rw [hf])]
    exact ih _ (rl_lf w r2 ho) m' (by omega)
  · have h1 : anyB q.2 12 = false := anyB_no.mpr (fun j _ => rl_none w r hm ho j)
    have := seS_stop (Bk := xBk Hu Oo X Y n) (Up := xUp Hu P n) (Mt := xMt Hu Oo X n) (N := N) (Ca := xCa Hu Oo X Y n) (X := X) (Y := Y) (P := P) (St := xSt Hu n) (Mv := xMv Hu Oo n) (Sm := xSm Hu Oo X Kd N S n) (Ho := xHo Hu Oo X Kd N S n) (Hu := Hu) (n := n) (q := q) (i := 0) h1 m
    rw [Nat.zero_add] at this
    rw [this]
    exact r
/-- what is known at first -/
def iniK (fu : Nat → Int32) (Kd X Y K : Nat → Nat) (n j : Nat) : Nat := if j < n then (if (spt fu Kd j && !isF fu Kd X Y j (X j) && !isS fu Kd X Y j (X j)) = true then 2 else 0) else K j
theorem rl_ini (w : SW Hu P Kd Oo X Y N S n fu Bo) (hK : ∀ j, K j < 3) : RL Hu Oo X Y n (fun _ => false) (xOp Hu Oo X Y n) (iniK fu Oo X Y K n) := by
  have key : ∀ j, j < n → (spt fu Oo j && !isF fu Oo X Y j (X j) && !isS fu Oo X Y j (X j)) = (Hu j && decide (Oo j = 2) && !xOp Hu Oo X Y n j) := by
    intro j hj
    have hx : xBk Hu Oo X Y n (X j) j = hsR (xSt Hu n) (xMv Hu Oo n) (xMt Hu Oo X n) Oo X Y j := by
      show upTo (bkR (xSt Hu n) (xMv Hu Oo n) (xMt Hu Oo X n) Oo X Y (X j)) n j = _
      rw [s_up hj, bkR]; simp
    rw [s_spt w hj]
    cases hb : (Hu j && decide (Oo j = 2)) with
    | false => simp
    | true =>
      rw [Bool.and_eq_true, decide_eq_true_eq] at hb
      have hnm : xMv Hu Oo n j = false := by simp [xMv, upTo, mvR, hb.2]
      have hop : xOp Hu Oo X Y n j = hsR (xSt Hu n) (xMv Hu Oo n) (xMt Hu Oo X n) Oo X Y j := by rw [xOp, orU, hnm, s_up hj]; rfl
      rw [hop, ← hx]
      cases hm : xMv Hu Oo n (X j) with
      | true =>
        rw [s_bkm w hj (w.hX j hj) hm]
        have : isS fu Oo X Y j (X j) = false := by simp [isS, s_mv w (w.hX j hj), hm]
        rw [this]; simp
      | false =>
        rw [s_bks w hj (w.hX j hj) hm]
        have : isF fu Oo X Y j (X j) = false := by simp [isF, mvT, s_mv w (w.hX j hj), hm]
        rw [this]; simp
  refine ⟨fun j => ?_, fun j => ?_, fun j => ?_, fun j hj hu h2 hx => ?_⟩
  · unfold iniK
    split
    · split <;> decide
    · exact hK j
  · cases hx : xOp Hu Oo X Y n j with
    | false => rfl
    | true =>
      have hj := (s_opn hx).1
      rw [iniK, if_pos hj, key j hj, hx]
      simp
  · cases hx : xOp Hu Oo X Y n j with
    | false => rfl
    | true =>
      have hj := (s_opn hx).1
      rw [iniK, if_pos hj, key j hj, hx]
      simp
  · rw [iniK, if_pos hj, key j hj, hx, hu, h2]
    simp
/-- the reference's last word on the orders -/
noncomputable def endK (fu : Nat → Int32) (Kd X Y K : Nat → Nat) (S Bo : Nat → Bool) (n : Nat) : Nat → Nat := lpK fu Kd X Y S Bo n 13 (stl fu Kd X Y S Bo n 13 (iniK fu Kd X Y K n))
theorem end_fin (w : SW Hu P Kd Oo X Y N S n fu Bo) : Fnl fu Oo X Y S Bo n (iniK fu Oo X Y K n) (endK fu Oo X Y K S Bo n) := ref_fin w.hn w.hX _
theorem end_rl (w : SW Hu P Kd Oo X Y N S n fu Bo) (hK : ∀ j, K j < 3) : RL Hu Oo X Y n (seS (xBk Hu Oo X Y n) (xUp Hu P n) (xMt Hu Oo X n) N (xCa Hu Oo X Y n) X Y P (xSt Hu n) (xMv Hu Oo n) (xSm Hu Oo X Kd N S n) (xHo Hu Oo X Kd N S n) Hu n (fun _ => false, xOp Hu Oo X Y n) 12).1 (seS (xBk Hu Oo X Y n) (xUp Hu P n) (xMt Hu Oo X n) N (xCa Hu Oo X Y n) X Y P (xSt Hu n) (xMv Hu Oo n) (xSm Hu Oo X Kd N S n) (xHo Hu Oo X Kd N S n) Hu n (fun _ => false, xOp Hu Oo X Y n) 12).2 (endK fu Oo X Y K S Bo n) :=
  cls_fin w (end_fin w) (fun _ => false, xOp Hu Oo X Y n) (rl_ini w hK) 12 (by have := numB_le (isO fu Oo (iniK fu Oo X Y K n)) n; have := w.hn; omega)
theorem end_unq (w : SW Hu P Kd Oo X Y N S n fu Bo) (hK : ∀ j, K j < 3) : unq fu Oo X Y (endK fu Oo X Y K S Bo n) S Bo n := by
  refine unq_fin w.hU w.hn w.hX (end_fin w) (rl_ini w hK).k3 (fun b hb _ h1 => ?_)
  rw [iniK, if_pos hb] at h1
  split at h1 <;> cases h1
/-- nothing is left -/
theorem end_no (w : SW Hu P Kd Oo X Y N S n fu Bo) (hK : ∀ j, K j < 3) {j : Nat} (hx : xOp Hu Oo X Y n j = true) : ¬ endK fu Oo X Y K S Bo n j = 0 := by
  intro h0
  obtain ⟨h1, h2⟩ := fin_end (end_fin (K := K) w)
  have h3 := rl_none w (end_rl w hK) h1 h2 j
  have h4 := (end_rl w hK).op j
  rw [h3, hx, h0] at h4
  cases h4
end SJ
