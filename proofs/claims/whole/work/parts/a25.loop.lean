theorem e_left {L : Nat} (hL : L ≤ 3072) {i : Nat} (hi : i ≤ L) : (Int32.ofNat L - 6 < nI i) ↔ L < i + 6 := by
  rw [Int32.lt_iff_toInt_lt, nI_toInt (by omega)]
  have h1 : (Int32.ofNat L).toInt = (L : Int) := nI_toInt (n := L) (by omega)
  have h6 : (6 : Int32).toInt = 6 := by decide
  rw [Int32.toInt_sub, h1, h6, Int.bmod_eq_of_le (by omega) (by omega)]
  omega
theorem inv_new : INV 0 (fun _ => false) (fun _ => false) (fun _ _ => false) (fun _ => false) 0 (fun _ => -1) (fun _ => -1) (fun _ => 0) (fun _ => 0) (fun _ => 0) (fun _ => 0) (fun _ => 0) (fun _ => 0) (fun _ => 0) (fun _ => -1) (fun _ => -1) (fun _ => -1) (fun _ => false) (fun _ => 0) (fun _ => 0) (fun _ => 0) (fun _ => false) 0 0 (fun _ => 0) (fun _ _ => -1) (fun _ _ => -1) (fun _ _ => 0) (fun _ _ => 0) (fun _ _ => 0) (fun _ _ => 0) (fun _ => 0) := by
  refine ⟨⟨by omega, fun _ _ => rfl, fun _ _ => rfl, fun _ _ _ _ => rfl, fun _ _ => rfl, fun _ _ h => (Bool.false_ne_true h).elim, fun _ => rfl⟩, ⟨fun _ => Or.inl rfl, fun _ _ => rfl, fun _ => Or.inl rfl, fun _ _ => rfl, fun _ h => absurd rfl h, fun _ => (show 0 < 4 by omega), fun _ => (show 0 < 12 by omega), fun _ => (show 0 < 12 by omega), fun _ _ => rfl⟩, ⟨fun _ => Or.inr ⟨0, by omega, rfl⟩, fun _ h => absurd h (by omega), fun _ h => absurd h (by omega), fun _ => (show 0 < 5 by omega)⟩, fun h => absurd h (by decide), fun _ => (show 0 < 3 by omega), ⟨fun _ => Or.inl rfl, fun _ _ => rfl, fun _ => Or.inl rfl, fun _ h => absurd rfl h, fun _ h => absurd h (by omega), fun _ => Or.inr ⟨0, by omega, rfl⟩, fun _ _ => rfl, fun h => absurd h (by decide)⟩, ⟨by omega, by omega, fun _ => ⟨fun _ => (show 0 < 4 by omega), fun _ => (show 0 < 12 by omega), fun _ => (show 0 < 12 by omega), fun _ => (show 0 < 5 by omega)⟩, fun _ h => absurd h (by omega)⟩, Or.inl ⟨rfl, rfl⟩⟩

set_option maxHeartbeats 40000000 in
set_option maxRecDepth 100000 in
theorem law_step {p : Program} {e : Env} {s : State} {m : MethodId} {below : List Frame} {meth : Method} {c : Code} (l : Launch) (hfl : l.flags = flags0) {b L : Nat} {xs : Nat → Int32} (hL : L ≤ 3072) (C0 : lw_At p s m meth c b L xs) {D : va_G} {cI cZ cJ cS : ClassId} {aT : Nat} {ceT : Cell} (hX : tx_K aT ceT s) (hK : va_K D vwCl (tTy cI cZ cJ cS) s) {A : Nat → Prop} (hA : ∀ q, s.heap.size ≤ q → A q) (hAi : ∀ q, A q → s.heap.size ≤ q) {cB sB : Nat} (hcB : cB ≤ 500000) (hsB : sB ≤ 7000000) {x0 hm hh he ha hp qh qn qu qo qx qy qr qw q1 q2 q3 q4 q5 au ao ag qk oq g0 m_sea m_center m_home m_borders m_owner m_units m_kind m_toX m_toY m_results m_known m_reached m_way m_aside m_origin m_retreats m_contested m_moved m_past : Nat} {ks ku ko kx ky kr kw : Nat → Nat} {i : Nat} (hi : i ≤ L) (kk : i + 6 ≤ L → ∀ (ls : Array Slot) (H : Heap) (locs : List Loc), lv_has ls 7 [(4, .int (nI (i + 6))), (0, .ref b), (1, .ref x0), (2, .ref g0), (3, .ref oq)] → LW D cI cZ cJ cS A x0 hm hh he ha hp qh qn qu qo qx qy qr qw q1 q2 q3 q4 q5 au ao ag qk oq g0 m_sea m_center m_home m_borders m_owner m_units m_kind m_toX m_toY m_results m_known m_reached m_way m_aside m_origin m_retreats m_contested m_moved m_past ks ku ko kx ky kr kw H → va_S A s.heap H locs → W p l e room_1 s m #[Value.ref b] below meth c H locs (cB + (i + 6)) (sB + 6 * (i + 6)) (lw_Z below #[Value.ref b] s) (F0 m 23 ls [])) : ∀ (ls : Array Slot) (H : Heap) (locs : List Loc), lv_has ls 7 [(4, .int (nI i)), (0, .ref b), (1, .ref x0), (2, .ref g0), (3, .ref oq)] → LW D cI cZ cJ cS A x0 hm hh he ha hp qh qn qu qo qx qy qr qw q1 q2 q3 q4 q5 au ao ag qk oq g0 m_sea m_center m_home m_borders m_owner m_units m_kind m_toX m_toY m_results m_known m_reached m_way m_aside m_origin m_retreats m_contested m_moved m_past ks ku ko kx ky kr kw H → va_S A s.heap H locs → W p l e room_1 s m #[Value.ref b] below meth c H locs (cB + i) (sB + 6 * i) (lw_Z below #[Value.ref b] s) (F0 m 23 ls []) := by
  intro ls H locs hl hW hS
  obtain ⟨n, nx, lf, ph, tn, co, S, Ce, Bo, Co, Cm, Re, St0, Mv0, Sm0, Ho0, Su0, Op0, Sd0, Od0, Sp0, Oq0, N, Oo, X, Y, Rs, K, Wy, fh, fu, fw, eu, ew, ga, go, gg, fa, fg, fr, fm, fp, fl, f1, f2, f3, f4, pt, pu, pw, vo, vx, vy, vr, fo9, hP, hD, hinv⟩ := hW
  have C1 := C0
  obtain ⟨hx, hb, hr, hml, hown, hts0, hXs, hbl, hlocks, hgv⟩ := C1
  have hbA : ¬ A b := fun h => absurd (hAi _ h) (Nat.not_le.mpr hbl)
  refine lv_iload hx hb d_Lw_law_23 (lv_at hl 0 rfl) ?_
  refine lv_aload_n hx hb d_Lw_law_25 rfl (lv_at hl 1 rfl) ?_
  refine va_slen hx hb hXs hbl hbA hS d_Lw_law_26 ?_
  refine lv_bipush (v := 6) hx hb d_Lw_law_27 (by decide) ?_
  refine lv_isub hx hb d_Lw_law_29 ?_
  refine lv_icmp_gt (tgt := 995) hx hb d_Lw_law_30 (by decide) (fun _ => ?_) (fun h0 => ?_)
  · refine lv_iconst (v := 1) hx hb d_Lw_law_995 (by decide) ?_
    refine va_forget (fun q hq => hAi _ (hS.2.2 q hq)) ?_
    refine W.widen (k := 601024) (n := 7293034) (by omega) (by omega) ?_
    exact lw_ret hx hb hr hlocks d_Lw_law_996
  have hiL : i + 6 ≤ L := by
    rw [e_left hL hi] at h0
    omega
  refine lv_aload_n hx hb d_Lw_law_33 rfl (lv_at hl 1 rfl) ?_
  refine lv_iload hx hb d_Lw_law_34 (lv_at hl 0 rfl) ?_
  refine tr_sld hx hb hXs hbl hbA hS i (by omega) (by omega) d_Lw_law_36 ?_
  refine lv_bipush (v := 31) hx hb d_Lw_law_37 (by decide) ?_
  refine lv_iand hx hb d_Lw_law_39 ?_
  obtain ⟨j9, hj9, ej9⟩ := pk_andE (xs i) (m := 31) 5 (by decide)
  rw [ej9]
  rcases (show j9 = 0 ∨ j9 = 1 ∨ j9 = 2 ∨ j9 = 3 ∨ j9 = 4 ∨ j9 = 5 ∨ j9 = 6 ∨ j9 = 7 ∨ j9 = 8 ∨ j9 = 9 ∨ j9 = 10 ∨ j9 = 11 ∨ j9 = 12 ∨ j9 = 13 ∨ j9 = 14 ∨ j9 = 15 ∨ j9 = 16 ∨ j9 = 17 ∨ j9 = 18 ∨ 19 ≤ j9 by omega) with rfl | rfl | rfl | rfl | rfl | rfl | rfl | rfl | rfl | rfl | rfl | rfl | rfl | rfl | rfl | rfl | rfl | rfl | rfl | hj8
  · refine lv_tableIn (tgt := 132) (off := 92) hx hb d_Lw_law_40 (by decide) (by decide) (by decide) (by decide) ?_
    exact law_area l hfl hL C0 hX hK hA hAi hcB hsB hiL hl hP hD hinv hS (kk hiL)
  · refine lv_tableIn (tgt := 228) (off := 188) hx hb d_Lw_law_40 (by decide) (by decide) (by decide) (by decide) ?_
    exact law_border l hfl hL C0 hX hK hA hAi hcB hsB hiL hl hP hD hinv hS (kk hiL)
  · refine lv_tableIn (tgt := 303) (off := 263) hx hb d_Lw_law_40 (by decide) (by decide) (by decide) (by decide) ?_
    exact law_unit l hfl hL C0 hX hK hA hAi hcB hsB hiL hl hP hD hinv hS (kk hiL)
  · refine lv_tableIn (tgt := 363) (off := 323) hx hb d_Lw_law_40 (by decide) (by decide) (by decide) (by decide) ?_
    exact law_start l hfl hL C0 hX hK hA hAi hcB hsB hiL hl hP hD hinv hS (kk hiL)
  · refine lv_tableIn (tgt := 387) (off := 347) hx hb d_Lw_law_40 (by decide) (by decide) (by decide) (by decide) ?_
    exact law_order l hfl hL C0 hX hK hA hAi hcB hsB hiL hl hP hD hinv hS (kk hiL)
  · refine lv_tableIn (tgt := 491) (off := 451) hx hb d_Lw_law_40 (by decide) (by decide) (by decide) (by decide) ?_
    exact law_resolve l hfl hL C0 hX hK hA hAi hcB hsB hiL hl hP hD hinv hS (kk hiL)
  · refine lv_tableIn (tgt := 535) (off := 495) hx hb d_Lw_law_40 (by decide) (by decide) (by decide) (by decide) ?_
    exact law_result l hfl hL C0 hX hK hA hAi hcB hsB hiL hl hP hD hinv hS (kk hiL)
  · refine lv_tableIn (tgt := 560) (off := 520) hx hb d_Lw_law_40 (by decide) (by decide) (by decide) (by decide) ?_
    exact law_retreat l hfl hL C0 hX hK hA hAi hcB hsB hiL hl hP hD hinv hS (kk hiL)
  · refine lv_tableIn (tgt := 640) (off := 600) hx hb d_Lw_law_40 (by decide) (by decide) (by decide) (by decide) ?_
    exact law_build l hfl hL C0 hX hK hA hAi hcB hsB hiL hl hP hD hinv hS (kk hiL)
  · refine lv_tableIn (tgt := 720) (off := 680) hx hb d_Lw_law_40 (by decide) (by decide) (by decide) (by decide) ?_
    exact law_finish l hfl hL C0 hX hK hA hAi hcB hsB hiL hl hP hD hinv hS (kk hiL)
  · refine lv_tableIn (tgt := 764) (off := 724) hx hb d_Lw_law_40 (by decide) (by decide) (by decide) (by decide) ?_
    exact law_undo l hfl hL C0 hX hK hA hAi hcB hsB hiL hl hP hD hinv hS (kk hiL)
  · refine lv_tableIn (tgt := 777) (off := 737) hx hb d_Lw_law_40 (by decide) (by decide) (by decide) (by decide) ?_
    exact law_phase l hfl hL C0 hX hK hA hAi hcB hsB hiL hl hP hD hinv hS (kk hiL)
  · refine lv_tableIn (tgt := 790) (off := 750) hx hb d_Lw_law_40 (by decide) (by decide) (by decide) (by decide) ?_
    exact law_turn l hfl hL C0 hX hK hA hAi hcB hsB hiL hl hP hD hinv hS (kk hiL)
  · refine lv_tableIn (tgt := 803) (off := 763) hx hb d_Lw_law_40 (by decide) (by decide) (by decide) (by decide) ?_
    exact law_at l hfl hL C0 hX hK hA hAi hcB hsB hiL hl hP hD hinv hS (kk hiL)
  · refine lv_tableIn (tgt := 828) (off := 788) hx hb d_Lw_law_40 (by decide) (by decide) (by decide) (by decide) ?_
    exact law_displaced l hfl hL C0 hX hK hA hAi hcB hsB hiL hl hP hD hinv hS (kk hiL)
  · refine lv_tableIn (tgt := 853) (off := 813) hx hb d_Lw_law_40 (by decide) (by decide) (by decide) (by decide) ?_
    exact law_mayGo l hfl hL C0 hX hK hA hAi hcB hsB hiL hl hP hD hinv hS (kk hiL)
  · refine lv_tableIn (tgt := 890) (off := 850) hx hb d_Lw_law_40 (by decide) (by decide) (by decide) (by decide) ?_
    exact law_owner l hfl hL C0 hX hK hA hAi hcB hsB hiL hl hP hD hinv hS (kk hiL)
  · refine lv_tableIn (tgt := 915) (off := 875) hx hb d_Lw_law_40 (by decide) (by decide) (by decide) (by decide) ?_
    exact law_count l hfl hL C0 hX hK hA hAi hcB hsB hiL hl hP hD hinv hS (kk hiL)
  · refine lv_tableIn (tgt := 952) (off := 912) hx hb d_Lw_law_40 (by decide) (by decide) (by decide) (by decide) ?_
    exact law_told l hfl hL C0 hX hK hA hAi hcB hsB hiL hl hP hD hinv hS (kk hiL)
  · refine lv_tableOut (tgt := 989) hx hb d_Lw_law_40 (Or.inr (by rw [nI_toInt (Nat.lt_trans hj9 (by decide))]; omega)) (by decide) ?_
    exact law_none l hfl hL C0 hX hK hA hAi hcB hsB hiL hl hP hD hinv hS (kk hiL)
set_option maxHeartbeats 4000000 in
set_option maxRecDepth 100000 in
theorem law_loop {p : Program} {e : Env} {s : State} {m : MethodId} {below : List Frame} {meth : Method} {c : Code} (l : Launch) (hfl : l.flags = flags0) {b L : Nat} {xs : Nat → Int32} (hL : L ≤ 3072) (C0 : lw_At p s m meth c b L xs) {D : va_G} {cI cZ cJ cS : ClassId} {aT : Nat} {ceT : Cell} (hX : tx_K aT ceT s) (hK : va_K D vwCl (tTy cI cZ cJ cS) s) {A : Nat → Prop} (hA : ∀ q, s.heap.size ≤ q → A q) (hAi : ∀ q, A q → s.heap.size ≤ q) {cB sB : Nat} (hcB : cB ≤ 500000) (hsB : sB ≤ 7000000) {x0 hm hh he ha hp qh qn qu qo qx qy qr qw q1 q2 q3 q4 q5 au ao ag qk oq g0 m_sea m_center m_home m_borders m_owner m_units m_kind m_toX m_toY m_results m_known m_reached m_way m_aside m_origin m_retreats m_contested m_moved m_past : Nat} {ks ku ko kx ky kr kw : Nat → Nat} (k : Nat) : ∀ i : Nat, i ≤ L → L < i + 6 * (k + 1) → ∀ (ls : Array Slot) (H : Heap) (locs : List Loc), lv_has ls 7 [(4, .int (nI i)), (0, .ref b), (1, .ref x0), (2, .ref g0), (3, .ref oq)] → LW D cI cZ cJ cS A x0 hm hh he ha hp qh qn qu qo qx qy qr qw q1 q2 q3 q4 q5 au ao ag qk oq g0 m_sea m_center m_home m_borders m_owner m_units m_kind m_toX m_toY m_results m_known m_reached m_way m_aside m_origin m_retreats m_contested m_moved m_past ks ku ko kx ky kr kw H → va_S A s.heap H locs → W p l e room_1 s m #[Value.ref b] below meth c H locs (cB + i) (sB + 6 * i) (lw_Z below #[Value.ref b] s) (F0 m 23 ls []) := by
  induction k with
  | zero => exact fun i hi hk => law_step l hfl hL C0 hX hK hA hAi hcB hsB hi (fun h => absurd h (by omega))
  | succ k ih => exact fun i hi hk => law_step l hfl hL C0 hX hK hA hAi hcB hsB hi (fun h => ih (i + 6) h (by omega))
