/-! What holds between the class and the reference before and after each call. Mine. -/
/-- a sheet of the class by itself -/
def SH (n : Nat) (Ce : Nat → Bool) (fu fw : Nat → Int32) (Oo X Y Rs : Nat → Nat) : Prop :=
  okF fu ∧ (∀ j, n ≤ j → fu j = -1) ∧ (∀ j, fw j = -1 ∨ ∃ p, p < 4 ∧ fw j = nI p) ∧ (∀ j, n ≤ j → fw j = -1) ∧ (∀ j, ¬ fw j = -1 → Ce j = true) ∧ (∀ j, Oo j < 4) ∧ (∀ j, X j < 12) ∧ (∀ j, Y j < 12) ∧ (∀ j, n ≤ j → Rs j = 0)
/-- its orders are such as can be -/
def SV (n : Nat) (S : Nat → Bool) (fu : Nat → Int32) (Oo X Y : Nat → Nat) : Prop :=
  (∀ j, j < n → X j < n ∧ Y j < n) ∧ (∀ j, j < n → ¬ fu j = -1 → Oo j = 2 → ¬ fu (X j) = -1) ∧ (∀ j, j < n → ¬ fu j = -1 → Oo j = 3 → S j = true)
/-- a sheet of the reference is that of the class -/
def SM (n : Nat) (fu fw fu' fw' : Nat → Int32) (Rs : Nat → Nat) : Prop :=
  okF fu' ∧ (∀ j, j < n → fu' j = fu j) ∧ (∀ j, j < n → fw' j = fw j) ∧ (∀ j, Rs j < 5)
/-- the map -/
def MP (n : Nat) (S Ce : Nat → Bool) (N : Nat → Nat → Bool) (Bo : Nat → Bool) : Prop :=
  n ≤ 12 ∧ (∀ j, n ≤ j → S j = false) ∧ (∀ j, n ≤ j → Ce j = false) ∧ (∀ a b, a < 12 → b < 12 → Bo (12 * a + b) = N a b) ∧ (∀ a b, N a b = N b a) ∧ (∀ a b, N a b = true → a < n ∧ b < n) ∧ (∀ a, N a a = false)
/-- those aside -/
def AS (n : Nat) (ph : Int32) (fu ga go gg : Nat → Int32) (Co : Nat → Bool) (fa fg fr : Nat → Int32) (Co' : Nat → Bool) : Prop :=
  okF ga ∧ (∀ j, n ≤ j → ga j = -1) ∧ (∀ j, gg j = -1 ∨ ∃ k, k < n ∧ gg j = nI k) ∧ (∀ j, ¬ gg j = -1 → ¬ ga j = -1) ∧ (∀ j, j < n → fa j = ga j) ∧ (∀ j, fr j = -1 ∨ ∃ k, k < 12 ∧ fr j = nI k) ∧
  (¬ ph = 2 → ∀ j, ga j = -1) ∧ (ph = 2 → (∀ j, j < n → fr j = gg j) ∧ (∀ j, j < n → ¬ ga j = -1 → fg j = go j) ∧ (∀ j, j < n → fu j = -1 → Co' j = Co j))
/-- where in the class's ring of sheets the reference's sheet k lies -/
def pix (nx lf k : Nat) : Nat := (nx + 8 - lf + k) % 8
/-- the sheets that are kept -/
def PS (n : Nat) (S Ce : Nat → Bool) (nx lf : Nat) (pt : Nat → Int32) (pu pw : Nat → Nat → Int32) (vo vx vy vr : Nat → Nat → Nat) (fp : Nat → Int32) : Prop :=
  nx < 8 ∧ lf ≤ 8 ∧ (∀ c, (∀ j, vo c j < 4) ∧ (∀ j, vx c j < 12) ∧ (∀ j, vy c j < 12) ∧ (∀ j, vr c j < 5)) ∧
  ∀ k, k < lf → SH n Ce (pu (pix nx lf k)) (pw (pix nx lf k)) (vo (pix nx lf k)) (vx (pix nx lf k)) (vy (pix nx lf k)) (vr (pix nx lf k)) ∧ SV n S (pu (pix nx lf k)) (vo (pix nx lf k)) (vx (pix nx lf k)) (vy (pix nx lf k)) ∧
    fp (73 * k) = pt (pix nx lf k) ∧ (∀ j, j < 12 → fp (73 * k + 1 + j) = -1 ∨ ∃ u, u < 8 ∧ fp (73 * k + 1 + j) = nI u) ∧ (∀ j, j < n → fp (73 * k + 1 + j) = pu (pix nx lf k) j) ∧ (∀ j, j < n → fp (73 * k + 13 + j) = pw (pix nx lf k) j) ∧ (∀ j, j < 12 → fp (73 * k + 25 + j) = nI (vo (pix nx lf k) j)) ∧ (∀ j, j < 12 → fp (73 * k + 37 + j) = nI (vx (pix nx lf k) j)) ∧ (∀ j, j < 12 → fp (73 * k + 49 + j) = nI (vy (pix nx lf k) j)) ∧ (∀ j, j < 12 → fp (73 * k + 61 + j) = nI (vr (pix nx lf k) j))
def PH (ph : Int32) (lf : Nat) : Prop := (ph = 0 ∧ lf = 0) ∨ ph = 1 ∨ ph = 2 ∨ ph = 3
/-- a unit as player and kind -/
def uH (x : Int32) : Bool := !decide (x = -1)
def uP (x : Int32) : Nat := if x = -1 then 0 else x.toNatClampNeg / 2
def uK (x : Int32) : Nat := if x = -1 then 0 else x.toNatClampNeg % 2
theorem u_all : ∀ u, u < 8 → nI u = nI (2 * (u / 2) + u % 2) ∧ (nI u).toNatClampNeg = u ∧ ¬ nI u = -1 := by decide +kernel
theorem un_eq {fu : Nat → Int32} (hU : okF fu) : fu = fun j => unI (uH (fu j)) (uP (fu j)) (uK (fu j)) := by
  funext j
  rcases hU j with e | ⟨u, hu, e⟩
  · rw [e]; rfl
  · obtain ⟨h1, h2, h3⟩ := u_all u hu
    rw [e]
    simp only [uH, uP, uK, h3, decide_false, Bool.not_false, if_false, h2]
    exact h1
theorem uP_4 {fu : Nat → Int32} (hU : okF fu) : ∀ j, uP (fu j) < 4 := by
  intro j
  rcases hU j with e | ⟨u, hu, e⟩
  · rw [e]; decide
  · obtain ⟨h1, h2, h3⟩ := u_all u hu
    rw [e, uP, if_neg h3, h2]; omega
theorem uK_2 {fu : Nat → Int32} (hU : okF fu) : ∀ j, uK (fu j) < 2 := by
  intro j
  rcases hU j with e | ⟨u, hu, e⟩
  · rw [e]; decide
  · obtain ⟨h1, h2, h3⟩ := u_all u hu
    rw [e, uK, if_neg h3, h2]; omega
theorem ok_neg {fu : Nat → Int32} (hU : okF fu) (j : Nat) : fu j < 0 ↔ fu j = -1 := by
  rcases hU j with e | ⟨u, hu, e⟩
  · rw [e]; decide
  · have h1 := okF_t u hu
    rw [e]
    exact ⟨fun h => absurd h h1.2.1, fun h => absurd h h1.2.2.2.2⟩
/-- at resolve: what the pure rows want -/
theorem SW_of {n : Nat} {S Ce Bo : Nat → Bool} {N : Nat → Nat → Bool} {fu fw fu' fw' : Nat → Int32} {Oo X Y Rs : Nat → Nat} (hm : MP n S Ce N Bo) (hs : SH n Ce fu fw Oo X Y Rs) (hv : SV n S fu Oo X Y) (hr : SM n fu fw fu' fw' Rs) :
    SW (fun j => uH (fu j)) (fun j => uP (fu j)) (fun j => uK (fu j)) Oo X Y N S n fu' Bo := by
  refine ⟨hm.1, fun j hj => (hv.1 j hj).1, fun j hj => (hv.1 j hj).2, uP_4 hs.1, uK_2 hs.1, fun j hj => ?_, hr.1, fun a b ha hb => hm.2.2.2.1 a b (by have := hm.1; omega) (by have := hm.1; omega), fun a b _ _ => hm.2.2.2.2.1 a b, fun j hj hu h2 => ?_, fun j hj hu h3 => ?_⟩
  · rw [hr.2.1 j hj]; exact congrFun (un_eq hs.1) j
  · have := hv.2.1 j hj (by simpa [uH] using hu) h2
    simpa [uH] using this
  · exact hv.2.2 j hj (by simpa [uH] using hu) h3
def INV (n : Nat) (S Ce : Nat → Bool) (N : Nat → Nat → Bool) (Bo : Nat → Bool) (ph : Int32) (fu fw fu' fw' : Nat → Int32) (Oo X Y Rs K : Nat → Nat) (ga go gg : Nat → Int32) (Co : Nat → Bool) (fa fg fr : Nat → Int32) (Co' : Nat → Bool) (nx lf : Nat) (pt : Nat → Int32) (pu pw : Nat → Nat → Int32) (vo vx vy vr : Nat → Nat → Nat) (fp : Nat → Int32) : Prop :=
  MP n S Ce N Bo ∧ SH n Ce fu fw Oo X Y Rs ∧ SM n fu fw fu' fw' Rs ∧ (ph = 1 → SV n S fu Oo X Y) ∧ (∀ j, K j < 3) ∧ AS n ph fu ga go gg Co fa fg fr Co' ∧ PS n S Ce nx lf pt pu pw vo vx vy vr fp ∧ PH ph lf
