theorem tn_swap {D : va_G} {cl : List vw_C} {H : Heap} {ws : va_W} {k a n : Nat} {cA : ClassId} {f g : Nat → Int32} (hP : va_P D cl ws H) (hk : ws[k]? = some (a, .inl (cA, n, .inl f))) (h : ∀ j, j < n → f j = g j) : va_P D cl (ws.set k (a, .inl (cA, n, .inl g))) H := by
  intro j q hj
  rw [List.getElem?_set] at hj
  split at hj
  · split at hj
    · cases hj
      have h1 : H[a]? = some (vp_cell cA (n, .inl f)) := hP k _ hk
      show H[a]? = some (vp_cell cA (n, .inl g))
      rw [← tn_congr h]
      exact h1
    · cases hj
  · exact hP j q hj
