/-! Walks along X: a step each. Mine. -/
def itr (X : Nat → Nat) (a : Nat) : Nat → Nat
  | 0 => a
  | k + 1 => X (itr X a k)
theorem itr_add (X : Nat → Nat) (a j : Nat) : ∀ k, itr X a (j + k) = itr X (itr X a j) k
  | 0 => rfl
  | k + 1 => congrArg X (itr_add X a j k)
theorem itr_lt {X : Nat → Nat} {n a : Nat} (h : ∀ j, j < n → X j < n) (ha : a < n) : ∀ k, itr X a k < n
  | 0 => ha
  | k + 1 => h _ (itr_lt h ha k)
/-- j is among the first k places of the walk from a -/
def onW (X : Nat → Nat) (a k j : Nat) : Bool := anyB (fun t => decide (itr X a t = j)) k
theorem onW_iff {X : Nat → Nat} {a k j : Nat} : onW X a k j = true ↔ ∃ t, t < k ∧ itr X a t = j := by
  unfold onW
  rw [anyB_iff]
  constructor <;> rintro ⟨t, h1, h2⟩
  · exact ⟨t, h1, by simpa using h2⟩
  · exact ⟨t, h1, by simpa using h2⟩
def rgI (X : Nat → Nat) (Q : Nat → Bool) (r n k : Nat) (Ry : Nat → Bool) : Prop :=
  (∀ t, t < k → Q (itr X r t) = true) ∧ (∀ j, j < n → Ry j = onW X r k j) ∧ k ≤ numB Ry n
theorem rgI_0 {X : Nat → Nat} {Q Re : Nat → Bool} {r n : Nat} : rgI X Q r n 0 (fun j => cl0 Re n j) :=
  ⟨fun t h => absurd h (Nat.not_lt_zero _), fun j hj => by simp [cl0, hj, onW, anyB], Nat.zero_le _⟩
theorem rgI_s {X : Nat → Nat} {Q Ry : Nat → Bool} {r n k : Nat} (h : rgI X Q r n k Ry) (hlt : itr X r k < n) (hq : Q (itr X r k) = true) (hb : Ry (itr X r k) = false) : rgI X Q r n (k + 1) (upB Ry (itr X r k) true) := by
  obtain ⟨h1, h2, h3⟩ := h
  refine ⟨fun t ht => ?_, fun j hj => ?_, ?_⟩
  · by_cases e : t = k
    · subst e; exact hq
    · exact h1 t (by omega)
  · show upB Ry (itr X r k) true j = (anyB (fun t => decide (itr X r t = j)) k || decide (itr X r k = j))
    unfold upB
    by_cases e : j = itr X r k
    · subst e; simp
    · rw [if_neg e, h2 j hj]
      show onW X r k j = (onW X r k j || decide (itr X r k = j))
      have e2 : ¬ itr X r k = j := fun h9 => e h9.symm
      simp [e2]
  · have := numB_lt (p := Ry) (q := upB Ry (itr X r k) true) (fun b hb9 => by unfold upB; split <;> first | rfl | exact hb9) (c := itr X r k) (by simp [upB]) hb n hlt
    omega
theorem rgI_le {X : Nat → Nat} {Q Ry : Nat → Bool} {r n k : Nat} (h : rgI X Q r n k Ry) : k ≤ n := Nat.le_trans h.2.2 (numB_le _ _)
theorem rgI_at {X : Nat → Nat} {Q Ry : Nat → Bool} {r n k : Nat} (h : rgI X Q r n k Ry) (hlt : itr X r k < n) (hb : Ry (itr X r k) = true) : ∃ s, s < k ∧ itr X r s = itr X r k := by
  rw [h.2.1 _ hlt] at hb
  exact onW_iff.mp hb
theorem rgI_no {X : Nat → Nat} {Q Ry : Nat → Bool} {r n k : Nat} (h : rgI X Q r n k Ry) (hlt : itr X r k < n) (hq : Q (itr X r k) = false) : Ry (itr X r k) = false := by
  cases hb : Ry (itr X r k) with
  | false => rfl
  | true =>
    obtain ⟨s, h1, h2⟩ := rgI_at h hlt hb
    have := h.1 s h1
    rw [h2, hq] at this
    cases this
theorem itr_all {X : Nat → Nat} {r s k : Nat} (hs : s < k) (he : itr X r s = itr X r k) : ∀ t, ∃ u, u < k ∧ itr X r t = itr X r u
  | 0 => ⟨0, by omega, rfl⟩
  | t + 1 => by
    obtain ⟨u, h1, h2⟩ := itr_all hs he t
    by_cases e : u + 1 = k
    · refine ⟨s, hs, ?_⟩
      show X (itr X r t) = _
      rw [h2, he, ← e]
      rfl
    · exact ⟨u + 1, by omega, congrArg X h2⟩
theorem itr_per {X : Nat → Nat} {r s k : Nat} (hs : s < k) (he : itr X r s = itr X r k) {u : Nat} (hu : s ≤ u) : ∀ q, itr X r (u + q * (k - s)) = itr X r u
  | 0 => by simp
  | q + 1 => by
    have h1 := itr_per hs he hu q
    have e1 : u + (q + 1) * (k - s) = k + (u - s + q * (k - s)) := by rw [Nat.succ_mul]; omega
    have e2 : u + q * (k - s) = s + (u - s + q * (k - s)) := by omega
    rw [e1, itr_add, ← he, ← itr_add, ← e2, h1]
/-- the places 12 to 23 of the walk from r -/
def cyc (X : Nat → Nat) (r j : Nat) : Bool := anyB (fun t => decide (12 ≤ t) && decide (itr X r t = j)) 24
theorem cyc_iff {X : Nat → Nat} {r j : Nat} : cyc X r j = true ↔ ∃ t, 12 ≤ t ∧ t < 24 ∧ itr X r t = j := by
  unfold cyc
  rw [anyB_iff]
  constructor
  · rintro ⟨t, h1, h2⟩
    simp at h2
    exact ⟨t, h2.1, h1, h2.2⟩
  · rintro ⟨t, h1, h2, h3⟩
    exact ⟨t, h2, by simp [h1, h3]⟩
theorem cyc_of {X : Nat → Nat} {r s k : Nat} (hs : s < k) (hk : k ≤ 12) (he : itr X r s = itr X r k) {u : Nat} (hu : s ≤ u) : cyc X r (itr X r u) = true := by
  have hp : 0 < k - s := by omega
  have h1 := itr_per hs he hu 12
  have h12 : 12 ≤ 12 * (k - s) := Nat.le_mul_of_pos_right 12 hp
  obtain ⟨v, hv⟩ : ∃ v, v = u + 12 * (k - s) := ⟨_, rfl⟩
  rw [← hv] at h1
  have hv12 : 12 ≤ v := by omega
  have hm := Nat.mod_lt (v - 12) hp
  have hd := Nat.div_add_mod (v - 12) (k - s)
  have e : v = (12 + (v - 12) % (k - s)) + (v - 12) / (k - s) * (k - s) := by
    rw [Nat.mul_comm ((v - 12) / (k - s))]
    omega
  have h2 := itr_per hs he (u := 12 + (v - 12) % (k - s)) (by omega) ((v - 12) / (k - s))
  rw [← e] at h2
  exact cyc_iff.mpr ⟨12 + (v - 12) % (k - s), by omega, by omega, by rw [← h2, h1]⟩
theorem cyc_eq {X : Nat → Nat} {Q Ry Rz : Nat → Bool} {r n k k2 : Nat} (hX : ∀ j, j < n → X j < n) (hr : r < n) (hn : n ≤ 12) (hI : rgI X Q r n k Ry) (hb : Ry (itr X r k) = true) (hI2 : rgI X (fun _ => true) (itr X r k) n k2 Rz) (hb2 : Rz (itr X (itr X r k) k2) = true) : ∀ j, j < n → Rz j = cyc X r j := by
  intro j hj
  obtain ⟨s, hs, he⟩ := rgI_at hI (itr_lt hX hr k) hb
  have hk : k ≤ 12 := Nat.le_trans (rgI_le hI) hn
  rw [Bool.eq_iff_iff, hI2.2.1 j hj, onW_iff]
  constructor
  · rintro ⟨t, h1, h2⟩
    rw [← h2, ← itr_add]
    exact cyc_of hs hk he (by omega)
  · intro h
    obtain ⟨t, h1, h2, h3⟩ := cyc_iff.mp h
    obtain ⟨s2, hs2, he2⟩ := rgI_at hI2 (itr_lt hX (itr_lt hX hr k) k2) hb2
    obtain ⟨u, h4, h5⟩ := itr_all hs2 he2 (t - k)
    refine ⟨u, h4, ?_⟩
    rw [← h5, ← itr_add, show k + (t - k) = t by omega]
    exact h3
theorem cyc_big {X : Nat → Nat} {r n j : Nat} (hX : ∀ j, j < n → X j < n) (hr : r < n) (hj : ¬ j < n) : cyc X r j = false := by
  cases h : cyc X r j with
  | false => rfl
  | true =>
    obtain ⟨t, _, _, h3⟩ := cyc_iff.mp h
    exact absurd (h3 ▸ itr_lt hX hr t) hj
/-- from a place of the cycle one comes to any other -/
theorem cyc_back {X : Nat → Nat} {r s k j : Nat} (hs : s < k) (he : itr X r s = itr X r k) (hj : cyc X r j = true) : ∃ m, itr X j m = itr X r k := by
  obtain ⟨t, h1, h2, h3⟩ := cyc_iff.mp hj
  have hp : 0 < k - s := by omega
  have h12 : 24 ≤ 24 * (k - s) := Nat.le_mul_of_pos_right 24 hp
  refine ⟨k + 24 * (k - s) - t, ?_⟩
  rw [← h3, ← itr_add, show t + (k + 24 * (k - s) - t) = k + 24 * (k - s) by omega]
  exact itr_per hs he (by omega) 24
theorem itr_two {X : Nat → Nat} {j : Nat} (h : X (X j) = j) : ∀ m, itr X j m = j ∨ itr X j m = X j
  | 0 => Or.inl rfl
  | m + 1 => by
    rcases itr_two h m with e | e
    · exact Or.inr (congrArg X e)
    · refine Or.inl ?_
      show X (itr X j m) = j
      rw [e, h]
/-! the reference's ring -/
def rgQ (fu : Nat → Int32) (Kd K : Nat → Nat) (j : Nat) : Bool := mvs fu Kd j && decide (K j = 0)
def rgOk (X : Nat → Nat) (Q : Nat → Bool) (r : Nat) : Bool := !anyB (fun t => !Q (itr X r t)) 24
def rgM (Bo S : Nat → Bool) (fu : Nat → Int32) (Kd X K : Nat → Nat) (n r : Nat) : Bool :=
  rgOk X (rgQ fu Kd K) r && !anyB (fun j => cyc X r j && hOn Bo S fu Kd X j) n && !anyB (fun c => rgQ fu Kd K c && !cyc X r c && cyc X r (X c)) n
def rgK (Bo S : Nat → Bool) (fu : Nat → Int32) (Kd X K : Nat → Nat) (n r j : Nat) : Nat := if (rgM Bo S fu Kd X K n r && cyc X r j) = true then 1 else K j
theorem rgK_no {Bo S : Nat → Bool} {fu : Nat → Int32} {Kd X K : Nat → Nat} {n r : Nat} (h : rgM Bo S fu Kd X K n r = false) : rgK Bo S fu Kd X K n r = K := by
  funext j; simp [rgK, h]
theorem rgM_out {Bo S : Nat → Bool} {fu : Nat → Int32} {Kd X K : Nat → Nat} {n r t : Nat} (ht : t < 24) (h : rgQ fu Kd K (itr X r t) = false) : rgM Bo S fu Kd X K n r = false := by
  have : rgOk X (rgQ fu Kd K) r = false := by
    unfold rgOk
    rw [(anyB_iff _ 24).mpr ⟨t, ht, by rw [h]; rfl⟩]; rfl
  simp [rgM, this]
section
variable {Bo S : Nat → Bool} {fu : Nat → Int32} {Kd X K : Nat → Nat} {n r k k2 : Nat} {Ry Rz : Nat → Bool}
theorem rg_ok (hX : ∀ j, j < n → X j < n) (hr : r < n) (hI : rgI X (rgQ fu Kd K) r n k Ry) (hb : Ry (itr X r k) = true) : (∀ t, rgQ fu Kd K (itr X r t) = true) ∧ rgOk X (rgQ fu Kd K) r = true := by
  obtain ⟨s, hs, he⟩ := rgI_at hI (itr_lt hX hr k) hb
  have h1 : ∀ t, rgQ fu Kd K (itr X r t) = true := fun t => by
    obtain ⟨u, h2, h3⟩ := itr_all hs he t
    rw [h3]; exact hI.1 u h2
  refine ⟨h1, ?_⟩
  unfold rgOk
  cases h : anyB (fun t => !rgQ fu Kd K (itr X r t)) 24 with
  | false => rfl
  | true =>
    obtain ⟨t, _, h3⟩ := (anyB_iff _ 24).mp h
    rw [h1 t] at h3; cases h3
theorem rg_hon (hX : ∀ j, j < n → X j < n) (hr : r < n) (hn : n ≤ 12) (hI : rgI X (rgQ fu Kd K) r n k Ry) (hb : Ry (itr X r k) = true) : anyB (fun j => cyc X r j && hOn Bo S fu Kd X j) n = hOn Bo S fu Kd X (itr X r k) := by
  obtain ⟨s, hs, he⟩ := rgI_at hI (itr_lt hX hr k) hb
  have hk : k ≤ 12 := Nat.le_trans (rgI_le hI) hn
  rw [Bool.eq_iff_iff, anyB_iff]
  constructor
  · rintro ⟨j, hj, h⟩
    rw [Bool.and_eq_true] at h
    obtain ⟨hc, ho⟩ := h
    obtain ⟨m, hm⟩ := cyc_back hs he hc
    obtain ⟨t, _, _, h3⟩ := cyc_iff.mp hc
    have hq := (rg_ok hX hr hI hb).1 t
    rw [h3] at hq
    have ho' := ho
    simp only [hOn, mvT, Bool.and_eq_true, decide_eq_true_eq] at ho
    obtain ⟨⟨⟨h4, h5⟩, h6⟩, h7⟩ := ho
    rcases itr_two h5 m with e | e
    · rw [← hm, e]; exact ho'
    · rw [← hm, e]
      simp only [rgQ, Bool.and_eq_true] at hq
      simp only [hOn, mvT, h5, Bool.and_eq_true, decide_eq_true_eq]
      exact ⟨⟨⟨hq.1, trivial⟩, h7⟩, h6⟩
  · intro h
    exact ⟨itr X r k, itr_lt hX hr k, by rw [cyc_of hs hk he (by omega), h]; rfl⟩
theorem rg_may (hX : ∀ j, j < n → X j < n) (hr : r < n) (hn : n ≤ 12) (hI : rgI X (rgQ fu Kd K) r n k Ry) (hb : Ry (itr X r k) = true) (hI2 : rgI X (fun _ => true) (itr X r k) n k2 Rz) (hb2 : Rz (itr X (itr X r k) k2) = true) :
    rgM Bo S fu Kd X K n r = (!hOn Bo S fu Kd X (itr X r k) && !anyB (fun c => mvs fu Kd c && decide (K c = 0) && !Rz c && Rz (X c)) n) := by
  have hc := cyc_eq hX hr hn hI hb hI2 hb2
  rw [rgM, (rg_ok hX hr hI hb).2, rg_hon hX hr hn hI hb, Bool.true_and]
  congr 2
  refine anyB_congr (fun c h => ?_)
  rw [hc c h, hc (X c) (hX c h), rgQ]
def kwF (K W : Nat → Nat) (i j : Nat) : Nat := if anyB (fun t => decide (W t = j)) i = true then 1 else K j
theorem kwF_0 (K W : Nat → Nat) : (fun j => nI (kwF K W 0 j)) = fun j => nI (K j) := by funext j; simp [kwF, anyB]
theorem kwF_s (K W : Nat → Nat) (i : Nat) : (fun j => nI (upN (fun j => kwF K W i j) (W i) 1 j)) = fun j => nI (kwF K W (i + 1) j) := by
  funext j
  congr 1
  unfold upN kwF
  rw [anyB]
  by_cases h : j = W i
  · subst h; simp
  · have e2 : ¬ W i = j := fun h9 => h h9.symm
    simp [h, e2]
theorem rg_K (hX : ∀ j, j < n → X j < n) (hr : r < n) (hn : n ≤ 12) (hI : rgI X (rgQ fu Kd K) r n k Ry) (hb : Ry (itr X r k) = true) (hI2 : rgI X (fun _ => true) (itr X r k) n k2 Rz) (hb2 : Rz (itr X (itr X r k) k2) = true) {Wz : Nat → Nat} (hW : ∀ t, t < k2 → Wz t = itr X (itr X r k) t) (hm : rgM Bo S fu Kd X K n r = true) :
    (fun j => nI (kwF K Wz k2 j)) = fun j => nI (rgK Bo S fu Kd X K n r j) := by
  have hc := cyc_eq hX hr hn hI hb hI2 hb2
  funext j
  congr 1
  unfold kwF rgK
  rw [hm, Bool.true_and]
  have e : anyB (fun t => decide (Wz t = j)) k2 = cyc X r j := by
    rw [anyB_congr (q := fun t => decide (itr X (itr X r k) t = j)) (fun t ht => by rw [hW t ht])]
    show onW X (itr X r k) k2 j = _
    by_cases h : j < n
    · rw [← hI2.2.1 j h]; exact hc j h
    · rw [cyc_big hX hr h]
      cases h9 : onW X (itr X r k) k2 j with
      | false => rfl
      | true =>
        obtain ⟨t, _, h3⟩ := onW_iff.mp h9
        exact absurd (h3 ▸ itr_lt hX (itr_lt hX hr k) t) h
  rw [e]
end
