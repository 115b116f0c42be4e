/-! To the end: passes and leftovers, until nothing is open. Mine. -/
theorem mI_inj {S T : Nat → Bool} (h : mI S = mI T) {j : Nat} (hj : j < 12) : S j = T j := by
  have h1 := mI_bt S j
  have h2 := mI_bt T j
  rw [h, h2] at h1
  simpa [hj] using h1.symm
def opM (fu : Nat → Int32) (Kd K : Nat → Nat) (n : Nat) : Bool := anyB (rgQ fu Kd K) n
/-- the least open move -/
def lsM (fu : Nat → Int32) (Kd K : Nat → Nat) : Nat := lwB (rgQ fu Kd K)
/-- from K the reference comes to Kf, in m rounds -/
def fnl (fu : Nat → Int32) (Kd X Y : Nat → Nat) (S Bo : Nat → Bool) (n : Nat) : Nat → (Nat → Nat) → (Nat → Nat) → Prop
  | 0, K, Kf => moK fu Kd X Y K S Bo n n = false ∧ opM fu Kd K n = false ∧ Kf = K
  | m + 1, K, Kf => (moK fu Kd X Y K S Bo n n = true ∧ fnl fu Kd X Y S Bo n m (psK fu Kd X Y K S Bo n n) Kf) ∨ (moK fu Kd X Y K S Bo n n = false ∧ opM fu Kd K n = true ∧ fnl fu Kd X Y S Bo n m (lfK Bo S fu Kd X K n (lsM fu Kd K)) Kf)
def Fnl (fu : Nat → Int32) (Kd X Y : Nat → Nat) (S Bo : Nat → Bool) (n : Nat) (K Kf : Nat → Nat) : Prop := ∃ m, fnl fu Kd X Y S Bo n m K Kf
theorem Fnl.step {fu : Nat → Int32} {Kd X Y : Nat → Nat} {S Bo : Nat → Bool} {n : Nat} (K Kf : Nat → Nat) (h : moK fu Kd X Y K S Bo n n = true) (h2 : Fnl fu Kd X Y S Bo n (psK fu Kd X Y K S Bo n n) Kf) : Fnl fu Kd X Y S Bo n K Kf := by
  obtain ⟨m, hm⟩ := h2
  exact ⟨m + 1, Or.inl ⟨h, hm⟩⟩
theorem Fnl.left {fu : Nat → Int32} {Kd X Y : Nat → Nat} {S Bo : Nat → Bool} {n : Nat} (K Kf : Nat → Nat) (h : moK fu Kd X Y K S Bo n n = false) (ho : opM fu Kd K n = true) (h2 : Fnl fu Kd X Y S Bo n (lfK Bo S fu Kd X K n (lsM fu Kd K)) Kf) : Fnl fu Kd X Y S Bo n K Kf := by
  obtain ⟨m, hm⟩ := h2
  exact ⟨m + 1, Or.inr ⟨h, ho, hm⟩⟩
theorem Fnl.stop {fu : Nat → Int32} {Kd X Y : Nat → Nat} {S Bo : Nat → Bool} {n : Nat} (K : Nat → Nat) (h : moK fu Kd X Y K S Bo n n = false) (ho : opM fu Kd K n = false) : Fnl fu Kd X Y S Bo n K K := ⟨0, h, ho, rfl⟩
theorem Fnl_ind {fu : Nat → Int32} {Kd X Y : Nat → Nat} {S Bo : Nat → Bool} {n : Nat} {M : (Nat → Nat) → (Nat → Nat) → Prop} (hs : ∀ K Kf, moK fu Kd X Y K S Bo n n = true → M (psK fu Kd X Y K S Bo n n) Kf → M K Kf) (hl : ∀ K Kf, moK fu Kd X Y K S Bo n n = false → opM fu Kd K n = true → M (lfK Bo S fu Kd X K n (lsM fu Kd K)) Kf → M K Kf) (ht : ∀ K, moK fu Kd X Y K S Bo n n = false → opM fu Kd K n = false → M K K) {K Kf : Nat → Nat} (h : Fnl fu Kd X Y S Bo n K Kf) : M K Kf := by
  obtain ⟨m, hm⟩ := h
  induction m generalizing K with
  | zero =>
    obtain ⟨h1, h2, h3⟩ := hm
    rw [h3]; exact ht K h1 h2
  | succ m ih =>
    rcases hm with ⟨h1, h2⟩ | ⟨h1, h2, h3⟩
    · exact hs K Kf h1 (ih h2)
    · exact hl K Kf h1 h2 (ih h3)
section SG
variable {fu : Nat → Int32} {Kd X Y K K' Kf : Nat → Nat} {S Bo : Nat → Bool} {n a b r : Nat}
theorem moK_f : ∀ i, moK fu Kd X Y K S Bo n i = false → psK fu Kd X Y K S Bo n i = K ∧ ∀ a, a < i → isO fu Kd K a = true → jdg fu Kd X Y K S Bo n a = 0
  | 0, _ => ⟨rfl, fun a h => absurd h (Nat.not_lt_zero _)⟩
  | i + 1, h => by
    rw [moK, Bool.or_eq_false_iff] at h
    obtain ⟨h1, h2⟩ := moK_f i h.1
    have h3 := h.2
    rw [h1] at h3
    have h4 : isO fu Kd K i = true → jdg fu Kd X Y K S Bo n i = 0 := by
      intro h5; rw [h5] at h3; simpa using h3
    refine ⟨?_, fun a ha ho => ?_⟩
    · show stK fu Kd X Y (psK fu Kd X Y K S Bo n i) S Bo n i = K
      rw [h1, stK]
      split
      · rename_i h5
        rw [h4 h5]
        funext j
        by_cases e : j = i
        · subst e
          rw [upN_s]
          simp [isO] at h5
          exact h5.2.symm
        · exact upN_n _ _ e
      · rfl
    · by_cases e : a = i
      · subst e; exact h4 ho
      · exact h2 a (by omega) ho
theorem kle_st (a : Nat) : kle K (stK fu Kd X Y K S Bo n a) := fun j hj => stK_keep _ _ _ _ _ _ _ _ _ _ hj
theorem kle_ps (i : Nat) : kle K (psK fu Kd X Y K S Bo n i) := fun j hj => by
  have h1 := psK_keep fu Kd X Y K S Bo n j 0 i hj
  rwa [Nat.zero_add] at h1
theorem numO_lt (h : kle K K') {j : Nat} (hj : j < n) (ho : isO fu Kd K j = true) (h0 : ¬ K' j = 0) : numB (isO fu Kd K') n < numB (isO fu Kd K) n := by
  refine numB_lt (c := j) (fun b hb => ?_) ho ?_ n hj
  · simp [isO] at hb ⊢
    refine ⟨hb.1, ?_⟩
    by_cases e : K b = 0
    · exact e
    · rw [h b e] at hb; exact absurd hb.2 e
  · simp [isO, h0]
theorem numO_le (h : kle K K') : numB (isO fu Kd K') n ≤ numB (isO fu Kd K) n := numB_mono (fun b hb => by
  simp [isO] at hb ⊢
  refine ⟨hb.1, ?_⟩
  by_cases e : K b = 0
  · exact e
  · rw [h b e] at hb; exact absurd hb.2 e) n
theorem rgQ_o {j : Nat} (h : rgQ fu Kd K j = true) : isO fu Kd K j = true ∧ K j = 0 ∧ mvs fu Kd j = true := by
  simp [rgQ] at h; simp [isO, h]
theorem lsM_in (hn : n ≤ 12) (h : opM fu Kd K n = true) : lsM fu Kd K < n ∧ rgQ fu Kd K (lsM fu Kd K) = true := by
  obtain ⟨b, h1, h2⟩ := (anyB_iff _ n).mp h
  have h3 : lsM fu Kd K ≤ b := by
    rcases Nat.lt_or_ge b (lsM fu Kd K) with h4 | h4
    · have := lwB_min (rgQ fu Kd K) h4
      rw [h2] at this; cases this
    · exact h4
  exact ⟨by omega, lwB_in (rgQ fu Kd K) (by show lsM fu Kd K < 12; omega)⟩
theorem rgM_ok (h : rgM Bo S fu Kd X K n r = true) (t : Nat) (ht : t < 24) : rgQ fu Kd K (itr X r t) = true := by
  simp only [rgM, rgOk, Bool.and_eq_true, Bool.not_eq_true'] at h
  have := anyB_no.mp h.1.1 t ht
  simpa using this
theorem cyc_q (h : rgM Bo S fu Kd X K n r = true) {j : Nat} (hc : cyc X r j = true) : rgQ fu Kd K j = true := by
  obtain ⟨t, _, h2, h3⟩ := cyc_iff.mp hc
  rw [← h3]; exact rgM_ok h t h2
theorem kle_lf (hr : rgQ fu Kd K r = true) : kle K (lfK Bo S fu Kd X K n r) := by
  intro j hj
  unfold lfK
  split
  · rename_i h
    unfold rgK
    split
    · rename_i h1
      rw [Bool.and_eq_true] at h1
      exact absurd (rgQ_o (cyc_q h1.1 h1.2)).2.1 hj
    · rfl
  · split
    · unfold lsK
      split
      · rename_i h1
        simp only [Bool.and_eq_true] at h1
        exact absurd (rgQ_o h1.2.1).2.1 hj
      · rfl
    · refine upN_n _ _ (fun e => ?_)
      subst e
      exact hj (rgQ_o hr).2.1
/-- something is settled by the leftovers' rules -/
theorem lf_set (hX : ∀ j, j < n → X j < n) (hr : r < n) (hq : rgQ fu Kd K r = true) : ∃ j, j < n ∧ isO fu Kd K j = true ∧ ¬ lfK Bo S fu Kd X K n r j = 0 := by
  unfold lfK
  split
  · rename_i h
    have hc : cyc X r (itr X r 12) = true := cyc_iff.mpr ⟨12, by omega, by omega, rfl⟩
    exact ⟨itr X r 12, itr_lt hX hr 12, (rgQ_o (cyc_q h hc)).1, by simp [rgK, h, hc]⟩
  · split
    · rename_i h
      obtain ⟨b, h1, h2⟩ := (anyB_iff _ n).mp h
      have h3 := h2
      rw [Bool.and_eq_true] at h2
      exact ⟨b, h1, (rgQ_o h2.1).1, by simp only [lsK, h1, h3]; simp⟩
    · exact ⟨r, hr, (rgQ_o hq).1, by rw [upN_s]; decide⟩
theorem lf_lt (hn : n ≤ 12) (hX : ∀ j, j < n → X j < n) (h : opM fu Kd K n = true) : numB (isO fu Kd (lfK Bo S fu Kd X K n (lsM fu Kd K))) n < numB (isO fu Kd K) n := by
  obtain ⟨h1, h2⟩ := lsM_in hn h
  obtain ⟨j, h3, h4, h5⟩ := lf_set (Bo := Bo) (S := S) hX h1 h2
  exact numO_lt (kle_lf h2) h3 h4 h5
theorem lf_3 (hK : ∀ j, K j < 3) : ∀ j, lfK Bo S fu Kd X K n r j < 3 := by
  intro j
  have := hK j
  unfold lfK
  split
  · unfold rgK; split <;> omega
  · split
    · unfold lsK; split <;> omega
    · unfold upN; split <;> omega
theorem st_3 (hK : ∀ j, K j < 3) (a : Nat) : ∀ j, stK fu Kd X Y K S Bo n a j < 3 := by
  intro j
  unfold stK
  split
  · exact upN_lt hK (jdg_lt fu Kd X Y K S Bo n a) j
  · exact hK j
theorem ps_3 (hK : ∀ j, K j < 3) : ∀ i j, psK fu Kd X Y K S Bo n i j < 3
  | 0, j => hK j
  | i + 1, j => st_3 (ps_3 hK i) i j
/-- the reference's two loops, with steps enough -/
noncomputable def lpK (fu : Nat → Int32) (Kd X Y : Nat → Nat) (S Bo : Nat → Bool) (n : Nat) : Nat → (Nat → Nat) → Nat → Nat
  | 0, K => K
  | f + 1, K => if opM fu Kd K n = true then lpK fu Kd X Y S Bo n f (stl fu Kd X Y S Bo n 13 (lfK Bo S fu Kd X K n (lsM fu Kd K))) else K
theorem stl_fin : ∀ g K, numB (isO fu Kd K) n < g → moK fu Kd X Y (stl fu Kd X Y S Bo n g K) S Bo n n = false ∧ (∀ Kf, Fnl fu Kd X Y S Bo n (stl fu Kd X Y S Bo n g K) Kf → Fnl fu Kd X Y S Bo n K Kf) ∧ numB (isO fu Kd (stl fu Kd X Y S Bo n g K)) n ≤ numB (isO fu Kd K) n
  | 0, K, h => absurd h (Nat.not_lt_zero _)
  | g + 1, K, h => by
    rw [stl]
    split
    · rename_i hm
      have h1 := opn_lt fu Kd X Y K S Bo n hm
      obtain ⟨h2, h3, h4⟩ := stl_fin g (psK fu Kd X Y K S Bo n n) (by omega)
      exact ⟨h2, fun Kf hf => Fnl.step K Kf hm (h3 Kf hf), by omega⟩
    · rename_i hm
      have hm' : moK fu Kd X Y K S Bo n n = false := by simpa using hm
      rw [(moK_f n hm').1]
      exact ⟨hm', fun Kf hf => hf, Nat.le_refl _⟩
theorem lp_fin (hn : n ≤ 12) (hX : ∀ j, j < n → X j < n) : ∀ f K, numB (isO fu Kd K) n < f → moK fu Kd X Y K S Bo n n = false → Fnl fu Kd X Y S Bo n K (lpK fu Kd X Y S Bo n f K)
  | 0, K, h, _ => absurd h (Nat.not_lt_zero _)
  | f + 1, K, h, hm => by
    rw [lpK]
    split
    · rename_i ho
      have h1 := lf_lt (Bo := Bo) (S := S) hn hX ho
      have h12 := numB_le (isO fu Kd (lfK Bo S fu Kd X K n (lsM fu Kd K))) n
      obtain ⟨h2, h3, h4⟩ := stl_fin (fu := fu) (Kd := Kd) (X := X) (Y := Y) (S := S) (Bo := Bo) (n := n) 13 (lfK Bo S fu Kd X K n (lsM fu Kd K)) (by omega)
      exact Fnl.left K _ hm ho (h3 _ (lp_fin hn hX f _ (by omega) h2))
    · rename_i ho
      exact Fnl.stop K hm (by simpa using ho)
theorem ref_fin (hn : n ≤ 12) (hX : ∀ j, j < n → X j < n) (K : Nat → Nat) : Fnl fu Kd X Y S Bo n K (lpK fu Kd X Y S Bo n 13 (stl fu Kd X Y S Bo n 13 K)) := by
  have h12 := numB_le (isO fu Kd K) n
  obtain ⟨h2, h3, h4⟩ := stl_fin (fu := fu) (Kd := Kd) (X := X) (Y := Y) (S := S) (Bo := Bo) (n := n) 13 K (by omega)
  exact h3 _ (lp_fin hn hX 13 _ (by omega) h2)
theorem fin_3 (h : Fnl fu Kd X Y S Bo n K Kf) : (∀ j, K j < 3) → ∀ j, Kf j < 3 := by
  exact Fnl_ind (M := fun K Kf => (∀ j, K j < 3) → ∀ j, Kf j < 3) (fun K Kf _ ih hK => ih (ps_3 hK n)) (fun K Kf _ _ ih hK => ih (lf_3 hK)) (fun K _ _ => id) h
theorem fin_kle (hn : n ≤ 12) (h : Fnl fu Kd X Y S Bo n K Kf) : kle K Kf := by
  exact Fnl_ind (M := kle) (fun K Kf _ ih => kle_trans (kle_ps n) ih) (fun K Kf _ ho ih => kle_trans (kle_lf (lsM_in hn ho).2) ih) (fun K _ _ => kle_rfl _) h
theorem fin_end (h : Fnl fu Kd X Y S Bo n K Kf) : moK fu Kd X Y Kf S Bo n n = false ∧ opM fu Kd Kf n = false := by
  exact Fnl_ind (M := fun _ Kf => moK fu Kd X Y Kf S Bo n n = false ∧ opM fu Kd Kf n = false) (fun K Kf _ ih => ih) (fun K Kf _ _ ih => ih) (fun K h1 h2 => ⟨h1, h2⟩) h
/-- no move is open: then no support is -/
theorem no_sup (hm : opM fu Kd K n = false) (hK : ∀ j, K j < 3) {s : Nat} (hs : s < n) : ¬ jsp fu Kd X Y K S Bo n s = 0 := by
  have hmv : ∀ j, j < n → mvs fu Kd j = true → ¬ K j = 0 := fun j hj h1 h2 => by
    have := anyB_no.mp hm j hj
    simp [rgQ, h1, h2] at this
  have hd : ∀ a, a < n → ¬ dsA fu Kd X K n a = 0 := by
    intro a ha h0
    by_cases h1 : ∀ b, b < n → mvT fu Kd X b a = true → K b = 2
    · rw [dsA_2.mpr (Or.inl h1)] at h0; cases h0
    · simp only [Classical.not_forall] at h1
      obtain ⟨b, hb, h2, h3⟩ := h1
      have hbm : mvs fu Kd b = true := by simp [mvT] at h2; exact h2.1
      have h4 := hmv b hb hbm
      have h5 := hK b
      have h6 : K b = 1 := by omega
      cases hma : mvs fu Kd a with
      | false => rw [dsA_1.mpr ⟨⟨b, hb, h2, h6⟩, Or.inl hma⟩] at h0; cases h0
      | true =>
        have h7 := hmv a ha hma
        have h8 := hK a
        by_cases h9 : K a = 1
        · rw [dsA_2.mpr (Or.inr ⟨hma, h9⟩)] at h0; cases h0
        · rw [dsA_1.mpr ⟨⟨b, hb, h2, h6⟩, Or.inr (by omega)⟩] at h0; cases h0
  have hp : ∀ a, ¬ pth fu Kd X Y K S Bo n a = 0 := by
    intro a h0
    have e : crd fu Kd X Y K S Bo n a true = crd fu Kd X Y K S Bo n a false := anyB_congr (fun b hb => by
      rw [rcd_cg (fun c hc => ?_) hb]
      have h1 := hd c hc
      have h2 := dsA_lt fu Kd X K n c
      rcases (show dsA fu Kd X K n c = 1 ∨ dsA fu Kd X K n c = 2 by omega) with e | e <;> simp [cFl, e])
    have h1 := pth_1 (fu := fu) (Kd := Kd) (X := X) (Y := Y) (K := K) (S := S) (Bo := Bo) (n := n) (a := a)
    have h2 := pth_2 (fu := fu) (Kd := Kd) (X := X) (Y := Y) (K := K) (S := S) (Bo := Bo) (n := n) (a := a)
    rw [← e] at h2
    rw [h0] at h1 h2
    cases e1 : byS Bo S fu X a <;> cases e2 : crd fu Kd X Y K S Bo n a true <;> rw [e1, e2] at h1 h2 <;> simp at h1 h2
  unfold jsp
  split
  · decide
  · rename_i h1
    rw [Bool.or_eq_true, not_or] at h1
    have h2 := hd s hs
    have h3 := dsA_lt fu Kd X K n s
    have h4 := h1.1
    simp at h4
    rw [if_pos]
    · decide
    · rw [Bool.and_eq_true]
      refine ⟨by simp; omega, ?_⟩
      rw [Bool.not_eq_true', anyB_no]
      intro b hb
      have h5 := anyB_no.mp (by simpa using h1.2 : anyB (fun b => ctr fu Kd X Y s b && decide (pth fu Kd X Y K S Bo n b = 1)) n = false) b hb
      cases hc : ctr fu Kd X Y s b with
      | false => rfl
      | true =>
        rw [hc] at h5
        simp at h5 ⊢
        have h6 := hp b
        have h7 := pth_lt fu Kd X Y K S Bo n b
        omega
end SG
