/-! Retreats, builds, questions: the same in both. Mine. -/
section JC
variable {n : Nat} {S Ce : Nat → Bool} {N : Nat → Nat → Bool} {Bo : Nat → Bool} {ph tn : Int32} {fu fw fu' fw' fh : Nat → Int32} {Oo X Y Rs K : Nat → Nat} {ga go gg : Nat → Int32} {Co : Nat → Bool} {fa fg fr : Nat → Int32} {Co' : Nat → Bool} {nx lf : Nat} {pt : Nat → Int32} {pu pw : Nat → Nat → Int32} {vo vx vy vr : Nat → Nat → Nat} {fp fl fm : Nat → Int32}
theorem e_aside (hi : INV n S Ce N Bo ph fu fw fu' fw' Oo X Y Rs K ga go gg Co fa fg fr Co' nx lf pt pu pw vo vx vy vr fp) {a : Nat} (ha : a < n) : decide (fa a < 0) = decide (ga a = -1) := by
  obtain ⟨a1, a2, a3, a4, a5, a6, a7, a8⟩ := hi.2.2.2.2.2.1
  rw [a5 a ha]
  simp [ok_neg a1 a]
theorem e_free (hi : INV n S Ce N Bo 2 fu fw fu' fw' Oo X Y Rs K ga go gg Co fa fg fr Co' nx lf pt pu pw vo vx vy vr fp) {a b : Nat} (ha : a < n) (hb : b < n) (hg : ¬ ga a = -1) : (cGo Bo S (fa a) a b && decide (fu' b < 0) && !Co' b && !decide (fg a = nI b)) = rfC N S Co fu ga go a b := by
  obtain ⟨a1, a2, a3, a4, a5, a6, a7, a8⟩ := hi.2.2.2.2.2.1
  obtain ⟨b1, b2, b3⟩ := a8 rfl
  unfold rfC
  rw [a5 a ha, e_go hi.1 a1 hg ha hb, e_neg hi hb, b2 a ha hg]
  by_cases e : fu b = -1
  · rw [b3 b hb e]; simp
  · simp [e]
theorem odR_cg {b p q : Bool} (h : b = true → p = q) : odR b p = odR b q := by
  cases b with
  | false => rfl
  | true => rw [h rfl]
theorem e_ret (hi : INV n S Ce N Bo 2 fu fw fu' fw' Oo X Y Rs K ga go gg Co fa fg fr Co' nx lf pt pu pw vo vx vy vr fp) {a b p : Nat} (ha : a < n) (hb : b < n) : odR (!decide (fa a < 0) && decide (fa a / 2 = nI p)) (cGo Bo S (fa a) a b && decide (fu' b < 0) && !Co' b && !decide (fg a = nI b)) = odR (!decide (ga a = -1) && decide (ga a / 2 = nI p)) (rfC N S Co fu ga go a b) := by
  rw [e_aside hi ha, hi.2.2.2.2.2.1.2.2.2.2.1 a ha]
  refine odR_cg (fun h => ?_)
  rw [← hi.2.2.2.2.2.1.2.2.2.2.1 a ha]
  exact e_free hi ha hb (by simp at h; exact h.1)
theorem i_ret (hi : INV n S Ce N Bo 2 fu fw fu' fw' Oo X Y Rs K ga go gg Co fa fg fr Co' nx lf pt pu pw vo vx vy vr fp) {a b p : Nat} (ha : a < n) (hb : b < n) {q : Bool} :
    INV n S Ce N Bo 2 fu fw fu' fw' Oo X Y Rs K ga go (pkU (odR (!decide (ga a = -1) && decide (ga a / 2 = nI p)) q) gg a (nI b)) Co fa fg (pkU (odR (!decide (ga a = -1) && decide (ga a / 2 = nI p)) q) fr a (nI b)) Co' nx lf pt pu pw vo vx vy vr fp := by
  have h0 : odR (!decide (ga a = -1) && decide (ga a / 2 = nI p)) q = 0 → ¬ ga a = -1 := by
    intro h e
    simp [odR, e] at h
  generalize odR (!decide (ga a = -1) && decide (ga a / 2 = nI p)) q = r at h0 ⊢
  obtain ⟨hm, hs, hr, hv, hk, hA, hP, hq⟩ := hi
  refine ⟨hm, hs, hr, hv, hk, ?_, hP, hq⟩
  cases r with
  | succ r => exact hA
  | zero =>
    have hn := hm.1
    obtain ⟨a1, a2, a3, a4, a5, a6, a7, a8⟩ := hA
    obtain ⟨b1, b2, b3⟩ := a8 rfl
    refine ⟨a1, a2, fun j => ?_, fun j hj => ?_, a5, fun j => ?_, a7, fun _ => ⟨fun j hj => ?_, b2, b3⟩⟩
    · show upd gg a (nI b) j = -1 ∨ ∃ k, k < n ∧ upd gg a (nI b) j = nI k
      by_cases e : j = a
      · subst e; rw [upd_s]; exact Or.inr ⟨b, hb, rfl⟩
      · rw [upd_n e]; exact a3 j
    · have hj' : ¬ upd gg a (nI b) j = -1 := hj
      by_cases e : j = a
      · subst e; exact h0 rfl
      · rw [upd_n e] at hj'; exact a4 j hj'
    · show upd fr a (nI b) j = -1 ∨ ∃ k, k < 12 ∧ upd fr a (nI b) j = nI k
      by_cases e : j = a
      · subst e; rw [upd_s]; exact Or.inr ⟨b, by omega, rfl⟩
      · rw [upd_n e]; exact a6 j
    · show upd fr a (nI b) j = upd gg a (nI b) j
      by_cases e : j = a
      · subst e; rw [upd_s, upd_s]
      · rw [upd_n e, upd_n e]; exact b1 j hj
theorem e_maygo (hi : INV n S Ce N Bo ph fu fw fu' fw' Oo X Y Rs K ga go gg Co fa fg fr Co' nx lf pt pu pw vo vx vy vr fp) {a b : Nat} (ha : a < n) (hb : b < n) : (!decide (fa a < 0) && (cGo Bo S (fa a) a b && decide (fu' b < 0) && !Co' b && !decide (fg a = nI b))) = (!decide (ga a = -1) && rfC N S Co fu ga go a b) := by
  rw [e_aside hi ha]
  by_cases hp : ph = 2
  · subst hp
    by_cases e : ga a = -1
    · simp [e]
    · rw [e_free hi ha hb e]
  · rw [hi.2.2.2.2.2.1.2.2.2.2.2.2.1 hp a]; simp
/-! the end of retreats -/
theorem rt_gp : ∀ k, rtF ga gg fu k = gpU (fun i => !decide (gg i = -1) && !shG gg i) (fun i => (gg i).toNatClampNeg) ga fu k
  | 0 => rfl
  | k + 1 => by rw [rtF, gpU, rt_gp k]
theorem er_gp {b : Nat → Int32} : ∀ k, erM fa fr b n k = gpU (alR fa fr n) (fun i => (fr i).toNatClampNeg) fa b k
  | 0 => rfl
  | k + 1 => by rw [erM, gpU, er_gp k]
theorem gpU_more {c : Nat → Bool} {X : Nat → Nat} {v b : Nat → Int32} : ∀ k, (∀ i, n ≤ i → c i = false) → gpU c X v b (n + k) = gpU c X v b n
  | 0, _ => rfl
  | k + 1, h => by
    show (if c (n + k) = true then _ else gpU c X v b (n + k)) = _
    rw [if_neg (by rw [h (n + k) (by omega)]; decide), gpU_more k h]
theorem nI_12 : ∀ a, a < 12 → ∀ b, b < 12 → (nI a = nI b ↔ a = b) ∧ (nI a).toNatClampNeg = a ∧ ¬ nI a = -1 ∧ ¬ nI a < 0 := by decide +kernel
theorem i_back (hi : INV n S Ce N Bo 2 fu fw fu' fw' Oo X Y Rs K ga go gg Co fa fg fr Co' nx lf pt pu pw vo vx vy vr fp) :
    UO n Ce (rtF ga gg fu 12) fw (mxI (fun j => if (erM fa fr (mxI (fun _ => (-1)) fm n) n n) j < 0 then fu' j else (erM fa fr (mxI (fun _ => (-1)) fm n) n n) j) fu' n) fw' ∧ okF (mxI (fun j => if (erM fa fr (mxI (fun _ => (-1)) fm n) n n) j < 0 then fu' j else (erM fa fr (mxI (fun _ => (-1)) fm n) n n) j) fu' n) := by
  have hu := UO_of hi
  have hn := hi.1.1
  have hok' := hi.2.2.1.1
  obtain ⟨a1, a2, a3, a4, a5, a6, a7, a8⟩ := hi.2.2.2.2.2.1
  obtain ⟨b1, b2, b3⟩ := a8 rfl
  have big : ∀ i, n ≤ i → gg i = -1 := fun i h => by
    by_cases e : gg i = -1
    · exact e
    · exact absurd (a2 i h) (a4 i e)
  -- the same are alone
  have hal : ∀ i, i < n → alR fa fr n i = (!decide (gg i = -1) && !shG gg i) := by
    intro i h
    unfold alR shG
    rw [e_aside hi h, b1 i h]
    have neg : ∀ j, decide (gg j < 0) = decide (gg j = -1) := fun j => by
      rcases a3 j with e | ⟨k, hk, e⟩
      · rw [e]; rfl
      · have := nI_12 k (by omega) k (by omega)
        rw [e]; simp [this.2.2.1, this.2.2.2]
    rw [neg i]
    by_cases e : gg i = -1
    · simp [e]
    · have e2 := a4 i e
      have ea : anyB (fun b => !decide (b = i) && !decide (fa b < 0) && decide (fr b = gg i)) n = anyB (fun j => !decide (j = i) && decide (gg j = gg i)) 12 := by
        rw [anyB_12 hn (fun j hj => by
          rcases Nat.lt_or_ge j n with h9 | h9
          · exact h9
          · rw [big j h9] at hj; simp at hj; exact absurd hj.2.symm e)]
        refine anyB_congr (fun j hj => ?_)
        rw [e_aside hi hj, b1 j hj]
        by_cases e3 : gg j = gg i
        · have := a4 j (by rw [e3]; exact e)
          simp [e3, this]
        · simp [e3]
      rw [ea]; simp [e, e2]
  -- no two of them go to one place
  have uni : ∀ i k, i < n → k < n → (!decide (gg i = -1) && !shG gg i) = true → (!decide (gg k = -1) && !shG gg k) = true → (gg i).toNatClampNeg = (gg k).toNatClampNeg → i = k := by
    intro i k h1 h2 c1 c2 he
    by_cases e : i = k
    · exact e
    · exfalso
      simp only [Bool.and_eq_true, Bool.not_eq_true', decide_eq_false_iff_not] at c1 c2
      obtain ⟨x, hx, ex⟩ := (a3 i).resolve_left c1.1
      obtain ⟨y, hy, ey⟩ := (a3 k).resolve_left c2.1
      rw [ex, ey, (nI_12 x (by omega) x (by omega)).2.1, (nI_12 y (by omega) y (by omega)).2.1] at he
      have := anyB_no.mp c1.2 k (by omega)
      rw [ex, ey, he] at this
      simp [fun h => e (Eq.symm h)] at this
      exact e this.symm
  have e12 : rtF ga gg fu 12 = gpU (fun i => !decide (gg i = -1) && !shG gg i) (fun i => (gg i).toNatClampNeg) ga fu n := by
    rw [rt_gp]
    have := gpU_more (n := n) (c := fun i => !decide (gg i = -1) && !shG gg i) (X := fun i => (gg i).toNatClampNeg) (v := ga) (b := fu) (12 - n) (fun i h => by simp [big i h])
    rwa [show n + (12 - n) = 12 by omega] at this
  have em : ∀ j, j < n → erM fa fr (mxI (fun _ => (-1)) fm n) n n j = gpU (fun i => !decide (gg i = -1) && !shG gg i) (fun i => (gg i).toNatClampNeg) ga (fun _ => -1) n j := by
    intro j hj
    rw [er_gp]
    have key : ∀ k, k ≤ n → ∀ j, j < n → gpU (alR fa fr n) (fun i => (fr i).toNatClampNeg) fa (mxI (fun _ => (-1)) fm n) k j = gpU (fun i => !decide (gg i = -1) && !shG gg i) (fun i => (gg i).toNatClampNeg) ga (fun _ => -1) k j := by
      intro k
      induction k with
      | zero => intro _ j hj; simp [gpU, mxI, hj]
      | succ k ih =>
        intro hk j hj
        have := ih (by omega) j hj
        rw [gpU, gpU, hal k (by omega), b1 k (by omega), a5 k (by omega)]
        split
        · unfold upd
          split
          · rfl
          · exact this
        · exact this
    exact key n (Nat.le_refl _) j hj
  have val : ∀ j, j < n → (if (erM fa fr (mxI (fun _ => (-1)) fm n) n n) j < 0 then fu' j else (erM fa fr (mxI (fun _ => (-1)) fm n) n n) j) = rtF ga gg fu 12 j := by
    intro j hj
    rw [em j hj, e12]
    by_cases hex : ∃ i, i < n ∧ (!decide (gg i = -1) && !shG gg i) = true ∧ (gg i).toNatClampNeg = j
    · obtain ⟨i, h1, h2, h3⟩ := hex
      subst h3
      have hu9 : ∀ k, k < n → (!decide (gg k = -1) && !shG gg k) = true → (gg k).toNatClampNeg = (gg i).toNatClampNeg → k = i := fun k hk hc he => uni k i hk h1 hc h2 he
      rw [gpU_at (c := fun i => !decide (gg i = -1) && !shG gg i) (X := fun i => (gg i).toNatClampNeg) (a := i) h2 n h1 hu9, gpU_at (c := fun i => !decide (gg i = -1) && !shG gg i) (X := fun i => (gg i).toNatClampNeg) (a := i) h2 n h1 hu9]
      have hg : ¬ ga i = -1 := a4 i (by simp at h2; exact h2.1)
      rw [if_neg (fun h => hg ((ok_neg a1 i).mp h))]
    · have hno : ∀ i, i < n → (!decide (gg i = -1) && !shG gg i) = true → ¬ (gg i).toNatClampNeg = j := fun i h1 h2 h3 => hex ⟨i, h1, h2, h3⟩
      rw [gpU_no (c := fun i => !decide (gg i = -1) && !shG gg i) (X := fun i => (gg i).toNatClampNeg) n hno, gpU_no (c := fun i => !decide (gg i = -1) && !shG gg i) (X := fun i => (gg i).toNatClampNeg) n hno, if_pos (by decide)]
      exact hu.2.2.2.2.2.2.1 j hj
  have okr : okF (rtF ga gg fu 12) := fun j => by
    rw [e12]; exact ok_gp n (fun i _ _ => a1 i) (hu.2.1 j)
  refine ⟨⟨hn, okr, fun j hj => ?_, hu.2.2.2.1, hu.2.2.2.2.1, hu.2.2.2.2.2.1, fun j hj => ?_, hu.2.2.2.2.2.2.2⟩, fun j => ?_⟩
  · rw [e12, gpU_no (c := fun i => !decide (gg i = -1) && !shG gg i) (X := fun i => (gg i).toNatClampNeg) n (fun i h1 h2 h3 => ?_)]
    · exact hu.2.2.1 j hj
    · simp at h2
      obtain ⟨x, hx, ex⟩ := (a3 i).resolve_left h2.1
      rw [ex, (nI_12 x (by omega) x (by omega)).2.1] at h3
      omega
  · show mxI _ fu' n j = _
    rw [mxI, if_pos hj]; exact val j hj
  · show okV (mxI _ fu' n j)
    unfold mxI
    split
    · rename_i hj
      have := okr j
      rw [← val j hj] at this
      exact this
    · exact hok' j
end JC
