/-! finish: what holds stays. Mine. -/
section JD
variable {n : Nat} {S Ce : Nat → Bool} {N : Nat → Nat → Bool} {Bo : Nat → Bool} {ph : Int32} {fu fw fu' fw' : Nat → Int32} {Oo X Y Rs K : Nat → Nat} {ga go gg : Nat → Int32} {Co : Nat → Bool} {fa fg fr : Nat → Int32} {Co' : Nat → Bool} {nx lf : Nat} {pt : Nat → Int32} {pu pw : Nat → Nat → Int32} {vo vx vy vr : Nat → Nat → Nat} {fp : Nat → Int32}
theorem i_same (hi : INV n S Ce N Bo ph fu fw fu' fw' Oo X Y Rs K ga go gg Co fa fg fr Co' nx lf pt pu pw vo vx vy vr fp) {u w u' w' : Nat → Int32} (hu : UO n Ce u w u' w') (hok : okF u') {O2 X2 Y2 : Nat → Nat} (hO : ∀ j, O2 j < 4) (hX : ∀ j, X2 j < 12) (hY : ∀ j, Y2 j < 12) {p2 : Int32} {ga2 go2 gg2 fa2 fg2 fr2 : Nat → Int32} {C2 C2' : Nat → Bool} (hA : AS n p2 u ga2 go2 gg2 C2 fa2 fg2 fr2 C2') (hV : p2 = 1 → SV n S u O2 X2 Y2) (hp : p2 = 1 ∨ p2 = 2 ∨ p2 = 3) :
    INV n S Ce N Bo p2 u w u' w' O2 X2 Y2 Rs K ga2 go2 gg2 C2 fa2 fg2 fr2 C2' nx lf pt pu pw vo vx vy vr fp := by
  obtain ⟨hm, hs, hr, hv, hk, _, hP, hq⟩ := hi
  exact ⟨hm, SH_of hu hO hX hY hs.2.2.2.2.2.2.2.2, ⟨hok, hu.2.2.2.2.2.2.1, hu.2.2.2.2.2.2.2, hr.2.2.2⟩, hV, hk, hA, hP, Or.inr hp⟩
/-- nobody is aside any more -/
theorem as_none (hi : INV n S Ce N Bo ph fu fw fu' fw' Oo X Y Rs K ga go gg Co fa fg fr Co' nx lf pt pu pw vo vx vy vr fp) {u go2 fg2 : Nat → Int32} {C2 C2' : Nat → Bool} {p2 : Int32} (hp : ¬ p2 = 2) : AS n p2 u (fun _ => -1) go2 (fun _ => -1) C2 (mxI (fun _ => (-1)) fa n) fg2 fr C2' :=
  ⟨fun _ => Or.inl rfl, fun _ _ => rfl, fun _ => Or.inl rfl, fun _ h => absurd rfl h, fun j hj => by simp [mxI, hj], hi.2.2.2.2.2.1.2.2.2.2.2.1, fun _ _ => rfl, fun h => absurd h hp⟩
theorem sv_0 {u : Nat → Int32} : SV n S u (fun _ => 0) (fun _ => 0) (fun _ => 0) :=
  ⟨fun j hj => ⟨(show (0 : Nat) < n by omega), (show (0 : Nat) < n by omega)⟩, fun j _ _ h => absurd h (show ¬ (0 : Nat) = 2 by decide), fun j _ _ h => absurd h (show ¬ (0 : Nat) = 3 by decide)⟩
theorem z_4 (b : Nat) (h : 0 < b) : ∀ j, (fun _ : Nat => 0) j < b := fun _ => h
theorem rm_ok {c : (Nat → Int32) → Nat → Bool} {f : Nat → Int32} (h : okF f) : ∀ i, okF (rmP c f n i)
  | 0 => h
  | i + 1 => by
    have ih := rm_ok (c := c) h i
    rw [rmP]
    split
    · intro j
      by_cases e : j = n - 1 - i
      · subst e; rw [upd_s]; exact Or.inl rfl
      · rw [upd_n e]; exact ih j
    · exact ih
end JD
