/-! resolve, undo, retreats, finish: what holds stays. Mine. -/
section JB
variable {n : Nat} {S Ce : Nat → Bool} {N : Nat → Nat → Bool} {Bo : Nat → Bool} {ph tn : Int32} {fu fw fu' fw' fh : Nat → Int32} {Oo X Y Rs K : Nat → Nat} {ga go gg : Nat → Int32} {Co : Nat → Bool} {fa fg fr : Nat → Int32} {Co' : Nat → Bool} {nx lf : Nat} {pt : Nat → Int32} {pu pw : Nat → Nat → Int32} {vo vx vy vr : Nat → Nat → Nat} {fp fl fm : Nat → Int32}
theorem UO_of (hi : INV n S Ce N Bo ph fu fw fu' fw' Oo X Y Rs K ga go gg Co fa fg fr Co' nx lf pt pu pw vo vx vy vr fp) : UO n Ce fu fw fu' fw' :=
  ⟨hi.1.1, hi.2.1.1, hi.2.1.2.1, hi.2.1.2.2.1, hi.2.1.2.2.2.1, hi.2.1.2.2.2.2.1, hi.2.2.1.2.1, hi.2.2.1.2.2.1⟩
theorem SH_of {Oo X Y Rs : Nat → Nat} (u : UO n Ce fu fw fu' fw') (h6 : ∀ j, Oo j < 4) (h7 : ∀ j, X j < 12) (h8 : ∀ j, Y j < 12) (h9 : ∀ j, n ≤ j → Rs j = 0) : SH n Ce fu fw Oo X Y Rs :=
  ⟨u.2.1, u.2.2.1, u.2.2.2.1, u.2.2.2.2.1, u.2.2.2.2.2.1, h6, h7, h8, h9⟩
/-- after resolve: any units, owners and phase that the two agree on -/
theorem i_after (hi : INV n S Ce N Bo 1 fu fw fu' fw' Oo X Y Rs K ga go gg Co fa fg fr Co' nx lf pt pu pw vo vx vy vr fp) {u w u' w' : Nat → Int32} (hu : UO n Ce u w u' w') (hok : okF u') {R K2 O2 X2 Y2 : Nat → Nat} (hR : ∀ j, R j < 5) (hR0 : ∀ j, n ≤ j → R j = 0) (hK : ∀ j, K2 j < 3) (hO : ∀ j, O2 j < 4) (hX : ∀ j, X2 j < 12) (hY : ∀ j, Y2 j < 12) {p2 : Int32} {ga2 go2 gg2 fa2 fg2 fr2 : Nat → Int32} {C2 C2' : Nat → Bool} (hA : AS n p2 u ga2 go2 gg2 C2 fa2 fg2 fr2 C2') (hV : p2 = 1 → SV n S u O2 X2 Y2) (hp : p2 = 1 ∨ p2 = 2 ∨ p2 = 3) :
    INV n S Ce N Bo p2 u w u' w' O2 X2 Y2 R K2 ga2 go2 gg2 C2 fa2 fg2 fr2 C2' ((nx + 1) % 8) (min (lf + 1) 8) (va_up pt nx tn) (va_up pu nx fu) (va_up pw nx fw) (va_up vo nx Oo) (va_up vx nx X) (va_up vy nx Y) (va_up vr nx Rs) (kpA fu' fw' Oo X Y Rs fp tn lf) := by
  obtain ⟨hm, hs, hr, hv, hk, _, hP, hq⟩ := hi
  refine ⟨hm, SH_of hu hO hX hY hR0, ⟨hok, hu.2.2.2.2.2.2.1, hu.2.2.2.2.2.2.2, hR⟩, hV, hK, hA, i_keep hm.1 hs (hv rfl) hr hP, Or.inr hp⟩
theorem y_R0 (hi : INV n S Ce N Bo 1 fu fw fu' fw' Oo X Y Rs K ga go gg Co fa fg fr Co' nx lf pt pu pw vo vx vy vr fp) : ∀ j, n ≤ j → yR fu' Oo X Y K S Bo n Rs j = 0 := fun j hj => by
  rw [yR, mxN, if_neg (by omega)]; exact hi.2.1.2.2.2.2.2.2.2.2 j hj
theorem y_K3 (hi : INV n S Ce N Bo 1 fu fw fu' fw' Oo X Y Rs K ga go gg Co fa fg fr Co' nx lf pt pu pw vo vx vy vr fp) : ∀ j, endK fu' Oo X Y K S Bo n j < 3 := (q_rl hi).k3
theorem as_new (hi : INV n S Ce N Bo 1 fu fw fu' fw' Oo X Y Rs K ga go gg Co fa fg fr Co' nx lf pt pu pw vo vx vy vr fp) (p2 : Int32) (h : ¬ p2 = 2 → ∀ j, zA (fun j => uH (fu j)) (fun j => uP (fu j)) (fun j => uK (fu j)) Oo X Y N S n fu j = -1) :
    AS n p2 (zU (fun j => uH (fu j)) (fun j => uP (fu j)) (fun j => uK (fu j)) Oo X Y N S n fu fl) (zA (fun j => uH (fu j)) (fun j => uP (fu j)) (fun j => uK (fu j)) Oo X Y N S n fu) (zO (fun j => uH (fu j)) (fun j => uP (fu j)) (fun j => uK (fu j)) Oo X Y N S n) (fun _ => -1) (zC (fun j => uH (fu j)) (fun j => uP (fu j)) (fun j => uK (fu j)) Oo X Y N S n fu fl) (yA fu' Oo X Y K S Bo n Rs fa) (yO fu' Oo X Y K S Bo n fg) (mxI (fun _ => (-1)) fr n) (yC fu' Oo X Y K S Bo n Co') := by
  have ha := q_aok hi
  refine ⟨ha.1, ha.2, fun _ => Or.inl rfl, fun _ h => absurd rfl h, fun j hj => q_aside hi hj, fun j => ?_, h, fun _ => ⟨fun j hj => ?_, fun j hj _ => q_from hi hj, fun j hj he => q_cont hi hj he⟩⟩
  · unfold mxI
    split
    · exact Or.inl rfl
    · exact hi.2.2.2.2.2.1.2.2.2.2.2.1 j
  · simp [mxI, hj]
theorem no_aside (hi : INV n S Ce N Bo 1 fu fw fu' fw' Oo X Y Rs K ga go gg Co fa fg fr Co' nx lf pt pu pw vo vx vy vr fp) (h : anyB (fun j => !decide (zA (fun j => uH (fu j)) (fun j => uP (fu j)) (fun j => uK (fu j)) Oo X Y N S n fu j = -1)) 12 = false) : ∀ j, zA (fun j => uH (fu j)) (fun j => uP (fu j)) (fun j => uK (fu j)) Oo X Y N S n fu j = -1 := by
  intro j
  rcases Nat.lt_or_ge j 12 with hj | hj
  · have := anyB_no.mp h j hj
    simpa using this
  · exact (q_aok hi).2 j (by have := hi.1.1; omega)
/-- undo -/
theorem i_undo (hi : INV n S Ce N Bo ph fu fw fu' fw' Oo X Y Rs K ga go gg Co fa fg fr Co' nx lf pt pu pw vo vx vy vr fp) (hl : ¬ lf = 0) :
    INV n S Ce N Bo 1 (pu ((nx + 7) % 8)) (pw ((nx + 7) % 8)) (mxI (fun a => fp (73 * (lf - 1) + 1 + a)) fu' 12) (mxI (fun a => fp (73 * (lf - 1) + 13 + a)) fw' 12) (vo ((nx + 7) % 8)) (vx ((nx + 7) % 8)) (vy ((nx + 7) % 8)) (vr ((nx + 7) % 8)) K (fun _ => -1) (fun _ => -1) (fun _ => -1) (fun _ => false) (mxI (fun _ => (-1)) fa 12) fg fr Co' ((nx + 7) % 8) (lf - 1) pt pu pw vo vx vy vr fp ∧ fp (73 * (lf - 1)) = pt ((nx + 7) % 8) ∧ ∀ j, j < 12 → fp (73 * (lf - 1) + 25 + j) = nI (vo ((nx + 7) % 8) j) ∧ fp (73 * (lf - 1) + 37 + j) = nI (vx ((nx + 7) % 8) j) ∧ fp (73 * (lf - 1) + 49 + j) = nI (vy ((nx + 7) % 8) j) ∧ fp (73 * (lf - 1) + 61 + j) = nI (vr ((nx + 7) % 8) j) := by
  obtain ⟨hm, hs, hr, hv, hk, hA, hP, hq⟩ := hi
  have h1 := hP.1
  have h2 := hP.2.1
  have hn := hm.1
  have ep : pix nx lf (lf - 1) = (nx + 7) % 8 := by unfold pix; omega
  have h := P1_of hP (k := lf - 1) (by omega)
  rw [ep] at h
  obtain ⟨g1, g2, g3, g4, g5, g6, g7, g8, g9, g10⟩ := h
  refine ⟨⟨hm, g1, ⟨fun j => ?_, fun j hj => ?_, fun j hj => ?_, (hP.2.2.1 _).2.2.2⟩, fun _ => g2, hk, ?_, ⟨by omega, by omega, hP.2.2.1, fun k hk9 => ?_⟩, Or.inr (Or.inl rfl)⟩, g3, fun j hj => ⟨g7 j hj, g8 j hj, g9 j hj, g10 j hj⟩⟩
  · unfold mxI
    split
    · rename_i hj; exact g4 j hj
    · exact hr.1 j
  · unfold mxI
    rw [if_pos (by omega)]; exact g5 j hj
  · unfold mxI
    rw [if_pos (by omega)]; exact g6 j hj
  · obtain ⟨a1, a2, a3, a4, a5, a6, a7, a8⟩ := hA
    exact ⟨fun _ => Or.inl rfl, fun _ _ => rfl, fun _ => Or.inl rfl, fun _ h => absurd rfl h, fun j hj => by simp [mxI, show j < 12 by omega], a6, fun _ _ => rfl, fun h => absurd h (by decide)⟩
  · have e : pix ((nx + 7) % 8) (lf - 1) k = pix nx lf k := by unfold pix; omega
    show P1 n S Ce _ _ _ _ _ _ _ _ _
    rw [e]
    exact P1_of hP (by omega)
end JB
