theorem prv_lt {fu : Nat → Int32} {Kd X Y K : Nat → Nat} {S Bo : Nat → Bool} {n a : Nat} {gr : Bool} (hn : n ≤ 12) : prv fu Kd X Y K S Bo n a gr < 14 := by
  unfold prv
  split
  · decide
  · exact frc_lt hn
theorem atk_lt {fu : Nat → Int32} {Kd X Y K : Nat → Nat} {S Bo : Nat → Bool} {n a : Nat} {gr : Bool} (hn : n ≤ 12) : atk fu Kd X Y K S Bo n a gr < 14 := by
  unfold atk
  split
  · decide
  · split
    · exact frc_lt hn
    · split
      · exact agn_lt hn
      · split
        · exact frc_lt hn
        · split
          · exact frc_lt hn
          · exact agn_lt hn
/-- the greatest of what the moves below k have against a's, and of z -/
noncomputable def mstF (fu : Nat → Int32) (Kd X Y K : Nat → Nat) (S Bo : Nat → Bool) (n : Nat) (z a : Nat) (gr : Bool) : Nat → Nat
  | 0 => z
  | k + 1 => if (!decide (k = a) && mvT fu Kd X k (X a)) = true then (if mstF fu Kd X Y K S Bo n z a gr k < prv fu Kd X Y K S Bo n k gr then prv fu Kd X Y K S Bo n k gr else mstF fu Kd X Y K S Bo n z a gr k) else mstF fu Kd X Y K S Bo n z a gr k
theorem mstF_lt {fu : Nat → Int32} {Kd X Y K : Nat → Nat} {S Bo : Nat → Bool} {n z a : Nat} {gr : Bool} (hn : n ≤ 12) (hz : z < 14) : ∀ k, mstF fu Kd X Y K S Bo n z a gr k < 14
  | 0 => hz
  | k + 1 => by
    have h := mstF_lt (fu := fu) (Kd := Kd) (X := X) (Y := Y) (K := K) (S := S) (Bo := Bo) (a := a) (gr := gr) hn hz k
    rw [mstF]
    split
    · split
      · exact prv_lt hn
      · exact h
    · exact h
noncomputable def mst (fu : Nat → Int32) (Kd X Y K : Nat → Nat) (S Bo : Nat → Bool) (n : Nat) (a : Nat) (gr : Bool) : Nat := mstF fu Kd X Y K S Bo n (if hOn Bo S fu Kd X a = true then frc fu Kd X Y K n (X a) gr (-1) else hdg fu Kd X Y K n (X a) gr) a gr n
theorem mst_lt {fu : Nat → Int32} {Kd X Y K : Nat → Nat} {S Bo : Nat → Bool} {n a : Nat} {gr : Bool} (hn : n ≤ 12) : mst fu Kd X Y K S Bo n a gr < 14 := by
  unfold mst
  refine mstF_lt hn ?_ n
  split
  · exact frc_lt hn
  · exact hdg_lt hn
noncomputable def jmv (fu : Nat → Int32) (Kd X Y K : Nat → Nat) (S Bo : Nat → Bool) (n : Nat) (a : Nat) : Nat := if mst fu Kd X Y K S Bo n a true < atk fu Kd X Y K S Bo n a false then 1 else if mst fu Kd X Y K S Bo n a false < atk fu Kd X Y K S Bo n a true then 0 else 2
/-- a move to a that may cut its support -/
def ctr (fu : Nat → Int32) (Kd X Y : Nat → Nat) (a b : Nat) : Bool := mvT fu Kd X b a && !decide (fu b / 2 = fu a / 2) && !decide (b = Y a)
noncomputable def jsp (fu : Nat → Int32) (Kd X Y K : Nat → Nat) (S Bo : Nat → Bool) (n : Nat) (a : Nat) : Nat :=
  if (decide (dsA fu Kd X K n a = 1) || anyB (fun b => ctr fu Kd X Y a b && decide (pth fu Kd X Y K S Bo n b = 1)) n) = true then 2 else if (decide (dsA fu Kd X K n a = 2) && !anyB (fun b => ctr fu Kd X Y a b && !decide (pth fu Kd X Y K S Bo n b = 2)) n) = true then 1 else 0

theorem d_Mo_most_0 : decode b_Mo_most 0 = .ok (.aload_n 0, 1) := by decide +kernel
theorem d_Mo_most_1 : decode b_Mo_most 1 = .ok (.getfield 32, 3) := by decide +kernel
theorem d_Mo_most_4 : decode b_Mo_most 4 = .ok (.iload_n 1, 1) := by decide +kernel
theorem d_Mo_most_5 : decode b_Mo_most 5 = .ok (.iaload, 1) := by decide +kernel
theorem d_Mo_most_6 : decode b_Mo_most 6 = .ok (.istore_n 3, 1) := by decide +kernel
theorem d_Mo_most_7 : decode b_Mo_most 7 = .ok (.aload_n 0, 1) := by decide +kernel
theorem d_Mo_most_8 : decode b_Mo_most 8 = .ok (.iload_n 1, 1) := by decide +kernel
theorem d_Mo_most_9 : decode b_Mo_most 9 = .ok (.invokevirtual 139, 3) := by decide +kernel
theorem d_Mo_most_12 : decode b_Mo_most 12 = .ok (.ifCond .eq 13, 3) := by decide +kernel
theorem d_Mo_most_15 : decode b_Mo_most 15 = .ok (.aload_n 0, 1) := by decide +kernel
theorem d_Mo_most_16 : decode b_Mo_most 16 = .ok (.iload_n 3, 1) := by decide +kernel
theorem d_Mo_most_17 : decode b_Mo_most 17 = .ok (.iload_n 2, 1) := by decide +kernel
theorem d_Mo_most_18 : decode b_Mo_most 18 = .ok (.iconst (-1), 1) := by decide +kernel
theorem d_Mo_most_19 : decode b_Mo_most 19 = .ok (.invokevirtual 135, 3) := by decide +kernel
theorem d_Mo_most_22 : decode b_Mo_most 22 = .ok (.goto 9, 3) := by decide +kernel
theorem d_Mo_most_25 : decode b_Mo_most 25 = .ok (.aload_n 0, 1) := by decide +kernel
theorem d_Mo_most_26 : decode b_Mo_most 26 = .ok (.iload_n 3, 1) := by decide +kernel
theorem d_Mo_most_27 : decode b_Mo_most 27 = .ok (.iload_n 2, 1) := by decide +kernel
theorem d_Mo_most_28 : decode b_Mo_most 28 = .ok (.invokevirtual 145, 3) := by decide +kernel
theorem d_Mo_most_31 : decode b_Mo_most 31 = .ok (.istore 4, 2) := by decide +kernel
theorem d_Mo_most_33 : decode b_Mo_most 33 = .ok (.iconst 0, 1) := by decide +kernel
theorem d_Mo_most_34 : decode b_Mo_most 34 = .ok (.istore 5, 2) := by decide +kernel
theorem d_Mo_most_36 : decode b_Mo_most 36 = .ok (.iload 5, 2) := by decide +kernel
theorem d_Mo_most_38 : decode b_Mo_most 38 = .ok (.aload_n 0, 1) := by decide +kernel
theorem d_Mo_most_39 : decode b_Mo_most 39 = .ok (.getfield 72, 3) := by decide +kernel
theorem d_Mo_most_42 : decode b_Mo_most 42 = .ok (.if_icmp .ge 53, 3) := by decide +kernel
theorem d_Mo_most_45 : decode b_Mo_most 45 = .ok (.iload 5, 2) := by decide +kernel
theorem d_Mo_most_47 : decode b_Mo_most 47 = .ok (.iload_n 1, 1) := by decide +kernel
theorem d_Mo_most_48 : decode b_Mo_most 48 = .ok (.if_icmp .eq 41, 3) := by decide +kernel
theorem d_Mo_most_51 : decode b_Mo_most 51 = .ok (.aload_n 0, 1) := by decide +kernel
theorem d_Mo_most_52 : decode b_Mo_most 52 = .ok (.iload 5, 2) := by decide +kernel
theorem d_Mo_most_54 : decode b_Mo_most 54 = .ok (.iload_n 3, 1) := by decide +kernel
theorem d_Mo_most_55 : decode b_Mo_most 55 = .ok (.invokevirtual 112, 3) := by decide +kernel
theorem d_Mo_most_58 : decode b_Mo_most 58 = .ok (.ifCond .ne 6, 3) := by decide +kernel
theorem d_Mo_most_61 : decode b_Mo_most 61 = .ok (.goto 28, 3) := by decide +kernel
theorem d_Mo_most_64 : decode b_Mo_most 64 = .ok (.aload_n 0, 1) := by decide +kernel
theorem d_Mo_most_65 : decode b_Mo_most 65 = .ok (.iload 5, 2) := by decide +kernel
theorem d_Mo_most_67 : decode b_Mo_most 67 = .ok (.iload_n 2, 1) := by decide +kernel
theorem d_Mo_most_68 : decode b_Mo_most 68 = .ok (.invokevirtual 149, 3) := by decide +kernel
theorem d_Mo_most_71 : decode b_Mo_most 71 = .ok (.istore 6, 2) := by decide +kernel
theorem d_Mo_most_73 : decode b_Mo_most 73 = .ok (.iload 6, 2) := by decide +kernel
theorem d_Mo_most_75 : decode b_Mo_most 75 = .ok (.iload 4, 2) := by decide +kernel
theorem d_Mo_most_77 : decode b_Mo_most 77 = .ok (.if_icmp .le 8, 3) := by decide +kernel
theorem d_Mo_most_80 : decode b_Mo_most 80 = .ok (.iload 6, 2) := by decide +kernel
theorem d_Mo_most_82 : decode b_Mo_most 82 = .ok (.goto 5, 3) := by decide +kernel
theorem d_Mo_most_85 : decode b_Mo_most 85 = .ok (.iload 4, 2) := by decide +kernel
theorem d_Mo_most_87 : decode b_Mo_most 87 = .ok (.istore 4, 2) := by decide +kernel
theorem d_Mo_most_89 : decode b_Mo_most 89 = .ok (.iinc 5 1, 3) := by decide +kernel
theorem d_Mo_most_92 : decode b_Mo_most 92 = .ok (.goto (-56), 3) := by decide +kernel
theorem d_Mo_most_95 : decode b_Mo_most 95 = .ok (.iload 4, 2) := by decide +kernel
theorem d_Mo_most_97 : decode b_Mo_most 97 = .ok (.ireturn, 1) := by decide +kernel
theorem wd_912 : (Cond.code ({ cls := "SheetWarModel", name := "prevention", desc := "(IZ)I" } : MethodName) prog_8_method_29_code (6 : Nat) (Option.some FieldType.int)) ∈ TB := tb_t 912 (by decide +kernel) (by decide +kernel)
theorem wd_909 : (Cond.methodLink "SheetWarModel" (149 : Nat) ({ cls := "SheetWarModel", name := "prevention", desc := "(IZ)I" } : MethodName)) ∈ TB := tb_t 909 (by decide +kernel) (by decide +kernel)
theorem wd_911 : (Cond.instanceMethod ({ cls := "SheetWarModel", name := "prevention", desc := "(IZ)I" } : MethodName)) ∈ TB := tb_t 911 (by decide +kernel) (by decide +kernel)
theorem wd_908 : (Cond.code ({ cls := "SheetWarModel", name := "holding", desc := "(IZ)I" } : MethodName) prog_8_method_28_code (5 : Nat) (Option.some FieldType.int)) ∈ TB := tb_t 908 (by decide +kernel) (by decide +kernel)
theorem wd_905 : (Cond.methodLink "SheetWarModel" (145 : Nat) ({ cls := "SheetWarModel", name := "holding", desc := "(IZ)I" } : MethodName)) ∈ TB := tb_t 905 (by decide +kernel) (by decide +kernel)
theorem wd_907 : (Cond.instanceMethod ({ cls := "SheetWarModel", name := "holding", desc := "(IZ)I" } : MethodName)) ∈ TB := tb_t 907 (by decide +kernel) (by decide +kernel)
theorem wp_61 : Cond.selects "SheetWarModel" ⟨"SheetWarModel", "prevention", "(IZ)I"⟩ ⟨"SheetWarModel", "prevention", "(IZ)I"⟩ ∈ TB := tb_p 61 (by decide +kernel) (by decide +kernel)
theorem wp_60 : Cond.selects "SheetWarModel" ⟨"SheetWarModel", "holding", "(IZ)I"⟩ ⟨"SheetWarModel", "holding", "(IZ)I"⟩ ∈ TB := tb_p 60 (by decide +kernel) (by decide +kernel)
set_option maxHeartbeats 4000000 in
set_option maxRecDepth 100000 in
theorem c_Mo_most (l : Launch) (D : va_G) (cI cZ cJ cS : ClassId) (aT : Nat) (ceT : Cell) (sz : Nat) (g0 m_sea m_center m_home m_borders m_owner m_units m_kind m_toX m_toY m_results m_known m_reached m_way m_aside m_origin m_retreats m_contested m_moved m_past : Nat) (n : Nat) (co mp mt msh : Int32) (S : Nat → Bool) (Bo : Nat → Bool) (fu : Nat → Int32) (Kd : Nat → Nat) (X : Nat → Nat) (Y : Nat → Nat) (K : Nat → Nat) (Re : Nat → Bool) (a : Nat) (gr : Bool) (hKd : ∀ j, Kd j < 4) (hX9 : ∀ j, X j < 12) (hY9 : ∀ j, Y j < 12) (hK9 : ∀ j, K j < 3) (h_a : a < 12) (hn : n ≤ 12) : Met l y_Mo_most w_Mo_most ({ frames := 6, cells := 0, slots := 0, locals := 140 }) (tH D cI cZ cJ cS aT ceT [.ref g0, .int (nI a), .int (bI gr)] sz [(g0, .inr (6, [.int co, .int (nI n), .ref m_sea, .ref m_center, .ref m_home, .ref m_borders, .int mp, .int mt, .ref m_owner, .ref m_units, .ref m_kind, .ref m_toX, .ref m_toY, .ref m_results, .ref m_known, .ref m_reached, .ref m_way, .ref m_aside, .ref m_origin, .ref m_retreats, .ref m_contested, .ref m_moved, .int msh, .ref m_past])), (m_sea, .inl (cZ, 12, .inl (fun j => bI (S j)))), (m_borders, .inl (cZ, 144, .inl (fun j => bI (Bo j)))), (m_units, .inl (cI, 12, .inl fu)), (m_kind, .inl (cI, 12, .inl (fun j => nI (Kd j)))), (m_toX, .inl (cI, 12, .inl (fun j => nI (X j)))), (m_toY, .inl (cI, 12, .inl (fun j => nI (Y j)))), (m_known, .inl (cI, 12, .inl (fun j => nI (K j)))), (m_reached, .inl (cZ, 12, .inl (fun j => bI (Re j))))]) (va_Qi (fun (r : Int32) (_ : Unit) => r = nI (mst fu Kd X Y K S Bo n a gr)) (fun _ t => ∃ (Re2 : Nat → Bool), tB D (va_A [(g0, .inr (6, [.int co, .int (nI n), .ref m_sea, .ref m_center, .ref m_home, .ref m_borders, .int mp, .int mt, .ref m_owner, .ref m_units, .ref m_kind, .ref m_toX, .ref m_toY, .ref m_results, .ref m_known, .ref m_reached, .ref m_way, .ref m_aside, .ref m_origin, .ref m_retreats, .ref m_contested, .ref m_moved, .int msh, .ref m_past])), (m_sea, .inl (cZ, 12, .inl (fun j => bI (S j)))), (m_borders, .inl (cZ, 144, .inl (fun j => bI (Bo j)))), (m_units, .inl (cI, 12, .inl fu)), (m_kind, .inl (cI, 12, .inl (fun j => nI (Kd j)))), (m_toX, .inl (cI, 12, .inl (fun j => nI (X j)))), (m_toY, .inl (cI, 12, .inl (fun j => nI (Y j)))), (m_known, .inl (cI, 12, .inl (fun j => nI (K j)))), (m_reached, .inl (cZ, 12, .inl (fun j => bI (Re j))))] sz) [(g0, .inr (6, [.int co, .int (nI n), .ref m_sea, .ref m_center, .ref m_home, .ref m_borders, .int mp, .int mt, .ref m_owner, .ref m_units, .ref m_kind, .ref m_toX, .ref m_toY, .ref m_results, .ref m_known, .ref m_reached, .ref m_way, .ref m_aside, .ref m_origin, .ref m_retreats, .ref m_contested, .ref m_moved, .int msh, .ref m_past])), (m_sea, .inl (cZ, 12, .inl (fun j => bI (S j)))), (m_borders, .inl (cZ, 144, .inl (fun j => bI (Bo j)))), (m_units, .inl (cI, 12, .inl fu)), (m_kind, .inl (cI, 12, .inl (fun j => nI (Kd j)))), (m_toX, .inl (cI, 12, .inl (fun j => nI (X j)))), (m_toY, .inl (cI, 12, .inl (fun j => nI (Y j)))), (m_known, .inl (cI, 12, .inl (fun j => nI (K j)))), (m_reached, .inl (cZ, 12, .inl (fun j => bI (Re2 j))))] t) (va_A [(g0, .inr (6, [.int co, .int (nI n), .ref m_sea, .ref m_center, .ref m_home, .ref m_borders, .int mp, .int mt, .ref m_owner, .ref m_units, .ref m_kind, .ref m_toX, .ref m_toY, .ref m_results, .ref m_known, .ref m_reached, .ref m_way, .ref m_aside, .ref m_origin, .ref m_retreats, .ref m_contested, .ref m_moved, .int msh, .ref m_past])), (m_sea, .inl (cZ, 12, .inl (fun j => bI (S j)))), (m_borders, .inl (cZ, 144, .inl (fun j => bI (Bo j)))), (m_units, .inl (cI, 12, .inl fu)), (m_kind, .inl (cI, 12, .inl (fun j => nI (Kd j)))), (m_toX, .inl (cI, 12, .inl (fun j => nI (X j)))), (m_toY, .inl (cI, 12, .inl (fun j => nI (Y j)))), (m_known, .inl (cI, 12, .inl (fun j => nI (K j)))), (m_reached, .inl (cZ, 12, .inl (fun j => bI (Re j))))] sz)) 0 0 (va_A [(g0, .inr (6, [.int co, .int (nI n), .ref m_sea, .ref m_center, .ref m_home, .ref m_borders, .int mp, .int mt, .ref m_owner, .ref m_units, .ref m_kind, .ref m_toX, .ref m_toY, .ref m_results, .ref m_known, .ref m_reached, .ref m_way, .ref m_aside, .ref m_origin, .ref m_retreats, .ref m_contested, .ref m_moved, .int msh, .ref m_past])), (m_sea, .inl (cZ, 12, .inl (fun j => bI (S j)))), (m_borders, .inl (cZ, 144, .inl (fun j => bI (Bo j)))), (m_units, .inl (cI, 12, .inl fu)), (m_kind, .inl (cI, 12, .inl (fun j => nI (Kd j)))), (m_toX, .inl (cI, 12, .inl (fun j => nI (X j)))), (m_toY, .inl (cI, 12, .inl (fun j => nI (Y j)))), (m_known, .inl (cI, 12, .inl (fun j => nI (K j)))), (m_reached, .inl (cZ, 12, .inl (fun j => bI (Re j))))] sz) := by
  refine Met.ofW (cc := b_Mo_most) (maxL := 7) (ret := (some .int)) (by decide) rfl ?_
  intro p e s m args below meth c s₁ B hml hv
  obtain ⟨rfl, hsz, hP, hK, hD0, hX⟩ := hv
  have hx := B.exec
  have hb := B.bytes
  have hr := B.returns
  have hts0 := atoms_spec (ws := w_Mo_most) B.pre
  have hts : ∀ w ∈ TB, w.before _ s = true := fun w h => hts0 w (List.mem_cons_of_mem _ h)
  have hown : s.vm.findClass R_Mo = some m.cls := findClass_of_methodNamed B.named
  have hlocks := B.notSynchronized
  subst hsz
  have hXl := tx_lt hX
  have hXn := tx_far hP hX
  have hD := hD0.self (sz := s.heap.size)
  generalize hAe : va_A [(g0, .inr (6, [.int co, .int (nI n), .ref m_sea, .ref m_center, .ref m_home, .ref m_borders, .int mp, .int mt, .ref m_owner, .ref m_units, .ref m_kind, .ref m_toX, .ref m_toY, .ref m_results, .ref m_known, .ref m_reached, .ref m_way, .ref m_aside, .ref m_origin, .ref m_retreats, .ref m_contested, .ref m_moved, .int msh, .ref m_past])), (m_sea, .inl (cZ, 12, .inl (fun j => bI (S j)))), (m_borders, .inl (cZ, 144, .inl (fun j => bI (Bo j)))), (m_units, .inl (cI, 12, .inl fu)), (m_kind, .inl (cI, 12, .inl (fun j => nI (Kd j)))), (m_toX, .inl (cI, 12, .inl (fun j => nI (X j)))), (m_toY, .inl (cI, 12, .inl (fun j => nI (Y j)))), (m_known, .inl (cI, 12, .inl (fun j => nI (K j)))), (m_reached, .inl (cZ, 12, .inl (fun j => bI (Re j))))] s.heap.size = A at hD hXn ⊢
  have hA : ∀ q : Nat, s.heap.size ≤ q → A q := fun q h => by rw [← hAe]; exact Or.inr h
  have hS : va_S A s.heap s.heap [] := va_S.rf
  have hXH : s.heap[aT]? = s.heap[aT]? := rfl
  have hl := lv_entry ([.ref g0, .int (nI a), .int (bI gr)]) (n := 7) (Nat.le_of_ble_eq_true rfl)
  rw [lg_entry_eq]
  generalize (lg_sl ([.ref g0, .int (nI a), .int (bI gr)]) ++ List.replicate (7 - (lg_sl ([.ref g0, .int (nI a), .int (bI gr)])).length) Slot.unset).toArray = ls at hl ⊢
  have hl : lv_has ls 7 [(0, .ref g0), (1, .int (nI a)), (2, .int (bI gr))] := hl
  cases gr with
  | true =>
    have hl : lv_has ls 7 [(0, .ref g0), (1, .int (nI a)), (2, .int 1)] := hl
    refine lv_aload_n hx hb d_Mo_most_0 rfl (lv_at hl 0 rfl) ?_
    refine va_get (D := D) (ci := 6) (v := .ref m_toX) (C := R_Mo) (T := T_Mo) (N := 24) hx hb hts hin_Mo hown hK hP 0 rfl rfl 11 (by decide) (hts _ wd_715) (fun _ h9 => h9) rfl d_Mo_most_1 ?_
    refine lv_iload_n hx hb d_Mo_most_4 rfl (lv_at hl 1 rfl) ?_
    refine tr_iald (v := nI (X a)) hx hb hK hP 5 0 rfl rfl a h_a (by decide) rfl d_Mo_most_5 ?_
    refine lv_istore_n (lv' := [(3, .int (nI (X a))), (0, .ref g0), (1, .int (nI a)), (2, .int 1)]) hx hb d_Mo_most_6 rfl hl (by decide) rfl (fun ls hl => ?_)
    refine lv_aload_n hx hb d_Mo_most_7 rfl (lv_at hl 1 rfl) ?_
    refine lv_iload_n hx hb d_Mo_most_8 rfl (lv_at hl 2 rfl) ?_
    have hPc := hP.sub (ws' := [(g0, .inr (6, [.int co, .int (nI n), .ref m_sea, .ref m_center, .ref m_home, .ref m_borders, .int mp, .int mt, .ref m_owner, .ref m_units, .ref m_kind, .ref m_toX, .ref m_toY, .ref m_results, .ref m_known, .ref m_reached, .ref m_way, .ref m_aside, .ref m_origin, .ref m_retreats, .ref m_contested, .ref m_moved, .int msh, .ref m_past])), (m_sea, .inl (cZ, 12, .inl (fun j => bI (S j)))), (m_borders, .inl (cZ, 144, .inl (fun j => bI (Bo j)))), (m_units, .inl (cI, 12, .inl fu)), (m_kind, .inl (cI, 12, .inl (fun j => nI (Kd j)))), (m_toX, .inl (cI, 12, .inl (fun j => nI (X j))))]) [0, 1, 2, 3, 4, 5] rfl
    refine vp_callSi (va_Run.run (va_runV (As := [.int (nI a)]) (rest := []) ⟨hx, hb, hml, hown, hts⟩ (c_Mo_headOn l D cI cZ cJ cS aT ceT  g0 m_sea m_center m_home m_borders m_owner m_units m_kind m_toX m_toY m_results m_known m_reached m_way m_aside m_origin m_retreats m_contested m_moved m_past n co mp mt msh S Bo fu Kd X a hKd hX9 h_a) (cwV 1 hts (tb_4 wd_897 wd_899 wp_58 wd_8 (tb_c wd_900)) rfl rfl rfl ⟨rfl, by decide, by decide, by decide +kernel⟩ ⟨Nat.le_of_ble_eq_true rfl, Nat.le_of_ble_eq_true rfl⟩) (tP_V hK hX (hS.2.1 aT hXl hXn) hPc (q := 0) rfl rfl) rfl rfl hl.1 rfl (lv_room (Nat.le_of_ble_eq_true rfl)) d_Mo_most_9 ⟨Nat.le_of_ble_eq_true rfl, Nat.le_of_ble_eq_true rfl⟩)) (fun r1 hr9 => ?_)
    rw [hr9]
    rcases bI_c (hOn Bo S fu Kd X a) with ⟨hb3, e9⟩ | ⟨hb3, e9⟩
    · refine tr_top e9 ?_
      refine lv_if_eq (tgt := 25) hx hb d_Mo_most_12 (by decide) (fun h0 => absurd h0 (by decide)) (fun _ => ?_)
      refine lv_aload_n hx hb d_Mo_most_15 rfl (lv_at hl 1 rfl) ?_
      refine lv_iload_n hx hb d_Mo_most_16 rfl (lv_at hl 0 rfl) ?_
      refine lv_iload_n hx hb d_Mo_most_17 rfl (lv_at hl 3 rfl) ?_
      refine lv_iconst (v := (-1)) hx hb d_Mo_most_18 (by decide) ?_
      have hPc := hP.sub (ws' := [(g0, .inr (6, [.int co, .int (nI n), .ref m_sea, .ref m_center, .ref m_home, .ref m_borders, .int mp, .int mt, .ref m_owner, .ref m_units, .ref m_kind, .ref m_toX, .ref m_toY, .ref m_results, .ref m_known, .ref m_reached, .ref m_way, .ref m_aside, .ref m_origin, .ref m_retreats, .ref m_contested, .ref m_moved, .int msh, .ref m_past])), (m_units, .inl (cI, 12, .inl fu)), (m_kind, .inl (cI, 12, .inl (fun j => nI (Kd j)))), (m_toX, .inl (cI, 12, .inl (fun j => nI (X j)))), (m_toY, .inl (cI, 12, .inl (fun j => nI (Y j)))), (m_known, .inl (cI, 12, .inl (fun j => nI (K j))))]) [0, 3, 4, 5, 6, 7] rfl
      refine vp_callSi (va_Run.run (va_runV (As := [.int (nI (X a)), .int 1, .int (-1)]) (rest := []) ⟨hx, hb, hml, hown, hts⟩ (c_Mo_force l D cI cZ cJ cS aT ceT  g0 m_sea m_center m_home m_borders m_owner m_units m_kind m_toX m_toY m_results m_known m_reached m_way m_aside m_origin m_retreats m_contested m_moved m_past n co mp mt msh fu Kd X Y K (X a) true (-1) hKd hX9 hY9 hK9 (hX9 _) hn) (cwV 3 hts (tb_4 wd_893 wd_895 wp_57 wd_8 (tb_c wd_896)) rfl rfl rfl ⟨rfl, by decide, by decide, by decide +kernel⟩ ⟨Nat.le_of_ble_eq_true rfl, Nat.le_of_ble_eq_true rfl⟩) (tP_V hK hX (hS.2.1 aT hXl hXn) hPc (q := 0) rfl rfl) rfl rfl hl.1 rfl (lv_room (Nat.le_of_ble_eq_true rfl)) d_Mo_most_19 ⟨Nat.le_of_ble_eq_true rfl, Nat.le_of_ble_eq_true rfl⟩)) (fun r5 hr9 => ?_)
      rw [hr9]
      refine lv_goto (tgt := 31) hx hb d_Mo_most_22 (by decide) ?_
      refine lv_istore (lv' := [(4, .int (nI (frc fu Kd X Y K n (X a) true (-1 : Int32)))), (3, .int (nI (X a))), (0, .ref g0), (1, .int (nI a)), (2, .int 1)]) hx hb d_Mo_most_31 hl (by decide) rfl (fun ls hl => ?_)
      refine lv_iconst (v := 0) hx hb d_Mo_most_33 (by decide) ?_
      refine lv_istore (lv' := [(5, .int 0), (4, .int (nI (frc fu Kd X Y K n (X a) true (-1 : Int32)))), (3, .int (nI (X a))), (0, .ref g0), (1, .int (nI a)), (2, .int 1)]) hx hb d_Mo_most_34 hl (by decide) rfl (fun ls hl => ?_)
      have hz9 : frc fu Kd X Y K n (X a) true (-1 : Int32) < 14 := (frc_lt hn)
      have loop : ∀ (k i : Nat) (Rz : Nat → Bool) (ls : Array Slot) (H : Heap) (locs : List Loc), i + k = n → lv_has ls 7 [(5, .int (nI i)), (4, .int (nI (mstF fu Kd X Y K S Bo n (frc fu Kd X Y K n (X a) true (-1 : Int32)) a true i))), (3, .int (nI (X a))), (0, .ref g0), (1, .int (nI a)), (2, .int 1)] → va_P D vwCl [(g0, .inr (6, [.int co, .int (nI n), .ref m_sea, .ref m_center, .ref m_home, .ref m_borders, .int mp, .int mt, .ref m_owner, .ref m_units, .ref m_kind, .ref m_toX, .ref m_toY, .ref m_results, .ref m_known, .ref m_reached, .ref m_way, .ref m_aside, .ref m_origin, .ref m_retreats, .ref m_contested, .ref m_moved, .int msh, .ref m_past])), (m_sea, .inl (cZ, 12, .inl (fun j => bI (S j)))), (m_borders, .inl (cZ, 144, .inl (fun j => bI (Bo j)))), (m_units, .inl (cI, 12, .inl fu)), (m_kind, .inl (cI, 12, .inl (fun j => nI (Kd j)))), (m_toX, .inl (cI, 12, .inl (fun j => nI (X j)))), (m_toY, .inl (cI, 12, .inl (fun j => nI (Y j)))), (m_known, .inl (cI, 12, .inl (fun j => nI (K j)))), (m_reached, .inl (cZ, 12, .inl (fun j => bI (Rz j))))] H → va_D A [(g0, .inr (6, [.int co, .int (nI n), .ref m_sea, .ref m_center, .ref m_home, .ref m_borders, .int mp, .int mt, .ref m_owner, .ref m_units, .ref m_kind, .ref m_toX, .ref m_toY, .ref m_results, .ref m_known, .ref m_reached, .ref m_way, .ref m_aside, .ref m_origin, .ref m_retreats, .ref m_contested, .ref m_moved, .int msh, .ref m_past])), (m_sea, .inl (cZ, 12, .inl (fun j => bI (S j)))), (m_borders, .inl (cZ, 144, .inl (fun j => bI (Bo j)))), (m_units, .inl (cI, 12, .inl fu)), (m_kind, .inl (cI, 12, .inl (fun j => nI (Kd j)))), (m_toX, .inl (cI, 12, .inl (fun j => nI (X j)))), (m_toY, .inl (cI, 12, .inl (fun j => nI (Y j)))), (m_known, .inl (cI, 12, .inl (fun j => nI (K j)))), (m_reached, .inl (cZ, 12, .inl (fun j => bI (Rz j))))] → va_S A s.heap H locs → W p l e (headSpec w_Mo_most ({ frames := 6, cells := 0, slots := 0, locals := 140 })).room s m ([.ref g0, .int (nI a), .int (bI true)]).toArray below meth c H locs 0 0 (MQ below (va_Qi (fun (r : Int32) (_ : Unit) => r = nI (mst fu Kd X Y K S Bo n a true)) (fun _ t => ∃ (Re2 : Nat → Bool), tB D A [(g0, .inr (6, [.int co, .int (nI n), .ref m_sea, .ref m_center, .ref m_home, .ref m_borders, .int mp, .int mt, .ref m_owner, .ref m_units, .ref m_kind, .ref m_toX, .ref m_toY, .ref m_results, .ref m_known, .ref m_reached, .ref m_way, .ref m_aside, .ref m_origin, .ref m_retreats, .ref m_contested, .ref m_moved, .int msh, .ref m_past])), (m_sea, .inl (cZ, 12, .inl (fun j => bI (S j)))), (m_borders, .inl (cZ, 144, .inl (fun j => bI (Bo j)))), (m_units, .inl (cI, 12, .inl fu)), (m_kind, .inl (cI, 12, .inl (fun j => nI (Kd j)))), (m_toX, .inl (cI, 12, .inl (fun j => nI (X j)))), (m_toY, .inl (cI, 12, .inl (fun j => nI (Y j)))), (m_known, .inl (cI, 12, .inl (fun j => nI (K j)))), (m_reached, .inl (cZ, 12, .inl (fun j => bI (Re2 j))))] t) A) ([.ref g0, .int (nI a), .int (bI true)]).toArray s 0 0 A) (F0 m 36 ls []) := by
        intro k
        induction k with
        | zero =>
          intro i Rz ls H locs hi hl hP hD hS
          have hie : i = n := by omega
          rw [hie] at hl
          refine lv_iload hx hb d_Mo_most_36 (lv_at hl 0 rfl) ?_
          refine lv_aload_n hx hb d_Mo_most_38 rfl (lv_at hl 3 rfl) ?_
          refine va_get (D := D) (ci := 6) (v := .int (nI n)) (C := R_Mo) (T := T_Mo) (N := 24) hx hb hts hin_Mo hown hK hP 0 rfl rfl 1 (by decide) (hts _ wd_705) (fun _ h9 => h9) rfl d_Mo_most_39 ?_
          refine lv_icmp_ge (tgt := 95) hx hb d_Mo_most_42 (by decide) (fun _ => ?_) (fun h0 => absurd (Int32.le_refl _) h0)
          refine lv_iload hx hb d_Mo_most_95 (lv_at hl 1 rfl) ?_
          have hP9 := hP.sub (ws' := [(g0, .inr (6, [.int co, .int (nI n), .ref m_sea, .ref m_center, .ref m_home, .ref m_borders, .int mp, .int mt, .ref m_owner, .ref m_units, .ref m_kind, .ref m_toX, .ref m_toY, .ref m_results, .ref m_known, .ref m_reached, .ref m_way, .ref m_aside, .ref m_origin, .ref m_retreats, .ref m_contested, .ref m_moved, .int msh, .ref m_past])), (m_sea, .inl (cZ, 12, .inl (fun j => bI (S j)))), (m_borders, .inl (cZ, 144, .inl (fun j => bI (Bo j)))), (m_units, .inl (cI, 12, .inl fu)), (m_kind, .inl (cI, 12, .inl (fun j => nI (Kd j)))), (m_toX, .inl (cI, 12, .inl (fun j => nI (X j)))), (m_toY, .inl (cI, 12, .inl (fun j => nI (Y j)))), (m_known, .inl (cI, 12, .inl (fun j => nI (K j)))), (m_reached, .inl (cZ, 12, .inl (fun j => bI (Rz j))))]) [0, 1, 2, 3, 4, 5, 6, 7, 8] rfl
          have hD9 := hD.sub (ws' := [(g0, .inr (6, [.int co, .int (nI n), .ref m_sea, .ref m_center, .ref m_home, .ref m_borders, .int mp, .int mt, .ref m_owner, .ref m_units, .ref m_kind, .ref m_toX, .ref m_toY, .ref m_results, .ref m_known, .ref m_reached, .ref m_way, .ref m_aside, .ref m_origin, .ref m_retreats, .ref m_contested, .ref m_moved, .int msh, .ref m_past])), (m_sea, .inl (cZ, 12, .inl (fun j => bI (S j)))), (m_borders, .inl (cZ, 144, .inl (fun j => bI (Bo j)))), (m_units, .inl (cI, 12, .inl fu)), (m_kind, .inl (cI, 12, .inl (fun j => nI (Kd j)))), (m_toX, .inl (cI, 12, .inl (fun j => nI (X j)))), (m_toY, .inl (cI, 12, .inl (fun j => nI (Y j)))), (m_known, .inl (cI, 12, .inl (fun j => nI (K j)))), (m_reached, .inl (cZ, 12, .inl (fun j => bI (Rz j))))]) [0, 1, 2, 3, 4, 5, 6, 7, 8] (by decide) rfl
          exact W.iret (v := nI (mstF fu Kd X Y K S Bo n (frc fu Kd X Y K n (X a) true (-1 : Int32)) a true n)) hx hb hr (fun t ht hW => ⟨⟨nI (mstF fu Kd X Y K S Bo n (frc fu Kd X Y K n (X a) true (-1 : Int32)) a true n), (), rfl, congrArg nI (show mstF fu Kd X Y K S Bo n (frc fu Kd X Y K n (X a) true (-1 : Int32)) a true n = mst fu Kd X Y K S Bo n a true by simp [mst, hb3] <;> omega), Rz, by rw [ht]; exact hP9, hD9⟩, hS.F ht⟩) hS.2.2 d_Mo_most_97
        | succ k ih =>
          intro i Rz ls H locs hi hl hP hD hS
          have hlt : i < n := by omega
          have hlt12 : i < 12 := by omega
          refine lv_iload hx hb d_Mo_most_36 (lv_at hl 0 rfl) ?_
          refine lv_aload_n hx hb d_Mo_most_38 rfl (lv_at hl 3 rfl) ?_
          refine va_get (D := D) (ci := 6) (v := .int (nI n)) (C := R_Mo) (T := T_Mo) (N := 24) hx hb hts hin_Mo hown hK hP 0 rfl rfl 1 (by decide) (hts _ wd_705) (fun _ h9 => h9) rfl d_Mo_most_39 ?_
          refine lv_icmp_ge (tgt := 95) hx hb d_Mo_most_42 (by decide) (fun h0 => absurd h0 (nI_ge hlt (by omega))) (fun _ => ?_)
          refine lv_iload hx hb d_Mo_most_45 (lv_at hl 0 rfl) ?_
          refine lv_iload_n hx hb d_Mo_most_47 rfl (lv_at hl 4 rfl) ?_
          refine lv_icmp_eq (tgt := 89) hx hb d_Mo_most_48 (by decide) (fun hc8 => ?_) (fun hc8 => ?_)
          · -- 48 taken
            have hc8 : i = a := (nI_lit (Nat.lt_trans hlt12 (by decide)) (Nat.lt_trans h_a (by decide))).mp hc8
            refine lv_iinc (lv' := [(5, .int ((nI i) + 1)), (4, .int (nI (mstF fu Kd X Y K S Bo n (frc fu Kd X Y K n (X a) true (-1 : Int32)) a true i))), (3, .int (nI (X a))), (0, .ref g0), (1, .int (nI a)), (2, .int 1)]) hx hb d_Mo_most_89 hl (k := 0) rfl rfl (by decide) rfl (fun ls hl => ?_)
            refine lv_goto (tgt := 36) hx hb d_Mo_most_92 (by decide) ?_
            have e9 : (nI i) + 1 = nI (i + 1) := nI_1 i
            have e10 : nI (mstF fu Kd X Y K S Bo n (frc fu Kd X Y K n (X a) true (-1 : Int32)) a true i) = nI (mstF fu Kd X Y K S Bo n (frc fu Kd X Y K n (X a) true (-1 : Int32)) a true (i + 1)) := congrArg nI (show mstF fu Kd X Y K S Bo n (frc fu Kd X Y K n (X a) true (-1 : Int32)) a true i = mstF fu Kd X Y K S Bo n (frc fu Kd X Y K n (X a) true (-1 : Int32)) a true (i + 1) by rw [mstF]; simp [hb3, hc8] <;> omega)
            exact ih (i + 1) Rz ls H locs (by omega) (by rw [← e9, ← e10]; exact lv_sub hl [0, 1, 2, 3, 4, 5] rfl) hP hD hS
          · -- 48 not taken
            have hc8 : ¬ i = a := fun h9 => hc8 (congrArg nI h9)
            refine lv_aload_n hx hb d_Mo_most_51 rfl (lv_at hl 3 rfl) ?_
            refine lv_iload hx hb d_Mo_most_52 (lv_at hl 0 rfl) ?_
            refine lv_iload_n hx hb d_Mo_most_54 rfl (lv_at hl 2 rfl) ?_
            have hPc := hP.sub (ws' := [(g0, .inr (6, [.int co, .int (nI n), .ref m_sea, .ref m_center, .ref m_home, .ref m_borders, .int mp, .int mt, .ref m_owner, .ref m_units, .ref m_kind, .ref m_toX, .ref m_toY, .ref m_results, .ref m_known, .ref m_reached, .ref m_way, .ref m_aside, .ref m_origin, .ref m_retreats, .ref m_contested, .ref m_moved, .int msh, .ref m_past])), (m_units, .inl (cI, 12, .inl fu)), (m_kind, .inl (cI, 12, .inl (fun j => nI (Kd j)))), (m_toX, .inl (cI, 12, .inl (fun j => nI (X j))))]) [0, 3, 4, 5] rfl
            refine vp_callSi (va_Run.run (va_runV (As := [.int (nI i), .int (nI (X a))]) (rest := []) ⟨hx, hb, hml, hown, hts⟩ (c_Mo_movesTo l D cI cZ cJ cS aT ceT  g0 m_sea m_center m_home m_borders m_owner m_units m_kind m_toX m_toY m_results m_known m_reached m_way m_aside m_origin m_retreats m_contested m_moved m_past n co mp mt msh fu Kd X i (X a) hKd hX9 hlt12 (hX9 _)) (cwV 2 hts (tb_4 wd_849 wd_851 wp_46 wd_8 (tb_c wd_852)) rfl rfl rfl ⟨rfl, by decide, by decide, by decide +kernel⟩ ⟨Nat.le_of_ble_eq_true rfl, Nat.le_of_ble_eq_true rfl⟩) (tP_V hK hX (hS.2.1 aT hXl hXn) hPc (q := 0) rfl rfl) rfl rfl hl.1 rfl (lv_room (Nat.le_of_ble_eq_true rfl)) d_Mo_most_55 ⟨Nat.le_of_ble_eq_true rfl, Nat.le_of_ble_eq_true rfl⟩)) (fun r11 hr9 => ?_)
            rw [hr9]
            rcases bI_c (mvT fu Kd X i (X a)) with ⟨hb13, e9⟩ | ⟨hb13, e9⟩
            · refine tr_top e9 ?_
              refine lv_if_ne (tgt := 64) hx hb d_Mo_most_58 (by decide) (fun _ => ?_) (fun h0 => absurd h0 (by decide))
              refine lv_aload_n hx hb d_Mo_most_64 rfl (lv_at hl 3 rfl) ?_
              refine lv_iload hx hb d_Mo_most_65 (lv_at hl 0 rfl) ?_
              refine lv_iload_n hx hb d_Mo_most_67 rfl (lv_at hl 5 rfl) ?_
              have hPc := hP.sub (ws' := [(g0, .inr (6, [.int co, .int (nI n), .ref m_sea, .ref m_center, .ref m_home, .ref m_borders, .int mp, .int mt, .ref m_owner, .ref m_units, .ref m_kind, .ref m_toX, .ref m_toY, .ref m_results, .ref m_known, .ref m_reached, .ref m_way, .ref m_aside, .ref m_origin, .ref m_retreats, .ref m_contested, .ref m_moved, .int msh, .ref m_past])), (m_sea, .inl (cZ, 12, .inl (fun j => bI (S j)))), (m_borders, .inl (cZ, 144, .inl (fun j => bI (Bo j)))), (m_units, .inl (cI, 12, .inl fu)), (m_kind, .inl (cI, 12, .inl (fun j => nI (Kd j)))), (m_toX, .inl (cI, 12, .inl (fun j => nI (X j)))), (m_toY, .inl (cI, 12, .inl (fun j => nI (Y j)))), (m_known, .inl (cI, 12, .inl (fun j => nI (K j)))), (m_reached, .inl (cZ, 12, .inl (fun j => bI (Rz j))))]) [0, 1, 2, 3, 4, 5, 6, 7, 8] rfl
              have hDc := hD.sub (ws' := [(g0, .inr (6, [.int co, .int (nI n), .ref m_sea, .ref m_center, .ref m_home, .ref m_borders, .int mp, .int mt, .ref m_owner, .ref m_units, .ref m_kind, .ref m_toX, .ref m_toY, .ref m_results, .ref m_known, .ref m_reached, .ref m_way, .ref m_aside, .ref m_origin, .ref m_retreats, .ref m_contested, .ref m_moved, .int msh, .ref m_past])), (m_sea, .inl (cZ, 12, .inl (fun j => bI (S j)))), (m_borders, .inl (cZ, 144, .inl (fun j => bI (Bo j)))), (m_units, .inl (cI, 12, .inl fu)), (m_kind, .inl (cI, 12, .inl (fun j => nI (Kd j)))), (m_toX, .inl (cI, 12, .inl (fun j => nI (X j)))), (m_toY, .inl (cI, 12, .inl (fun j => nI (Y j)))), (m_known, .inl (cI, 12, .inl (fun j => nI (K j)))), (m_reached, .inl (cZ, 12, .inl (fun j => bI (Rz j))))]) [0, 1, 2, 3, 4, 5, 6, 7, 8] (by decide) rfl
              have hFc := va_free (wc := [(g0, .inr (6, [.int co, .int (nI n), .ref m_sea, .ref m_center, .ref m_home, .ref m_borders, .int mp, .int mt, .ref m_owner, .ref m_units, .ref m_kind, .ref m_toX, .ref m_toY, .ref m_results, .ref m_known, .ref m_reached, .ref m_way, .ref m_aside, .ref m_origin, .ref m_retreats, .ref m_contested, .ref m_moved, .int msh, .ref m_past])), (m_sea, .inl (cZ, 12, .inl (fun j => bI (S j)))), (m_borders, .inl (cZ, 144, .inl (fun j => bI (Bo j)))), (m_units, .inl (cI, 12, .inl fu)), (m_kind, .inl (cI, 12, .inl (fun j => nI (Kd j)))), (m_toX, .inl (cI, 12, .inl (fun j => nI (X j)))), (m_toY, .inl (cI, 12, .inl (fun j => nI (Y j)))), (m_known, .inl (cI, 12, .inl (fun j => nI (K j)))), (m_reached, .inl (cZ, 12, .inl (fun j => bI (Rz j))))]) hD hS hA [0, 1, 2, 3, 4, 5, 6, 7, 8] rfl
              refine va_calli (va_runV (As := [.int (nI i), .int 1]) (rest := []) ⟨hx, hb, hml, hown, hts⟩ (c_Mo_prevention l D cI cZ cJ cS aT ceT H.size g0 m_sea m_center m_home m_borders m_owner m_units m_kind m_toX m_toY m_results m_known m_reached m_way m_aside m_origin m_retreats m_contested m_moved m_past n co mp mt msh S Bo fu Kd X Y K Rz i true hKd hX9 hY9 hK9 hlt12 hn) (cwV 2 hts (tb_4 wd_909 wd_911 wp_61 wd_8 (tb_c wd_912)) rfl rfl rfl ⟨rfl, by decide, by decide, by decide +kernel⟩ ⟨Nat.le_of_ble_eq_true rfl, Nat.le_of_ble_eq_true rfl⟩) (tH_V hK hX (hS.2.1 aT hXl hXn) hPc hDc (q := 0) rfl rfl) rfl rfl hl.1 rfl (lv_room (Nat.le_of_ble_eq_true rfl)) d_Mo_most_68 ⟨Nat.le_of_ble_eq_true rfl, Nat.le_of_ble_eq_true rfl⟩) hS (fun q _ h => hFc q h) hFc (fun r9 u t H1 locs ht hvm h9 hB hz1 hk1 hS => ?_)
              rw [h9]
              obtain ⟨Re2_68, hP1, hD1⟩ := hB
              rw [ht] at hP1
              obtain ⟨hP, hD⟩ := va_join (wr := []) (w1 := [(g0, .inr (6, [.int co, .int (nI n), .ref m_sea, .ref m_center, .ref m_home, .ref m_borders, .int mp, .int mt, .ref m_owner, .ref m_units, .ref m_kind, .ref m_toX, .ref m_toY, .ref m_results, .ref m_known, .ref m_reached, .ref m_way, .ref m_aside, .ref m_origin, .ref m_retreats, .ref m_contested, .ref m_moved, .int msh, .ref m_past])), (m_sea, .inl (cZ, 12, .inl (fun j => bI (S j)))), (m_borders, .inl (cZ, 144, .inl (fun j => bI (Bo j)))), (m_units, .inl (cI, 12, .inl fu)), (m_kind, .inl (cI, 12, .inl (fun j => nI (Kd j)))), (m_toX, .inl (cI, 12, .inl (fun j => nI (X j)))), (m_toY, .inl (cI, 12, .inl (fun j => nI (Y j)))), (m_known, .inl (cI, 12, .inl (fun j => nI (K j)))), (m_reached, .inl (cZ, 12, .inl (fun j => bI (Re2_68 j))))]) hP hD [0, 1, 2, 3, 4, 5, 6, 7, 8] [] rfl rfl (by decide) (by decide) hk1 hFc hP1 hD1
              generalize H1 = H at hP hS ⊢
              have hP : va_P D vwCl [(g0, .inr (6, [.int co, .int (nI n), .ref m_sea, .ref m_center, .ref m_home, .ref m_borders, .int mp, .int mt, .ref m_owner, .ref m_units, .ref m_kind, .ref m_toX, .ref m_toY, .ref m_results, .ref m_known, .ref m_reached, .ref m_way, .ref m_aside, .ref m_origin, .ref m_retreats, .ref m_contested, .ref m_moved, .int msh, .ref m_past])), (m_sea, .inl (cZ, 12, .inl (fun j => bI (S j)))), (m_borders, .inl (cZ, 144, .inl (fun j => bI (Bo j)))), (m_units, .inl (cI, 12, .inl fu)), (m_kind, .inl (cI, 12, .inl (fun j => nI (Kd j)))), (m_toX, .inl (cI, 12, .inl (fun j => nI (X j)))), (m_toY, .inl (cI, 12, .inl (fun j => nI (Y j)))), (m_known, .inl (cI, 12, .inl (fun j => nI (K j)))), (m_reached, .inl (cZ, 12, .inl (fun j => bI (Re2_68 j))))] H := hP
              have hD : va_D A [(g0, .inr (6, [.int co, .int (nI n), .ref m_sea, .ref m_center, .ref m_home, .ref m_borders, .int mp, .int mt, .ref m_owner, .ref m_units, .ref m_kind, .ref m_toX, .ref m_toY, .ref m_results, .ref m_known, .ref m_reached, .ref m_way, .ref m_aside, .ref m_origin, .ref m_retreats, .ref m_contested, .ref m_moved, .int msh, .ref m_past])), (m_sea, .inl (cZ, 12, .inl (fun j => bI (S j)))), (m_borders, .inl (cZ, 144, .inl (fun j => bI (Bo j)))), (m_units, .inl (cI, 12, .inl fu)), (m_kind, .inl (cI, 12, .inl (fun j => nI (Kd j)))), (m_toX, .inl (cI, 12, .inl (fun j => nI (X j)))), (m_toY, .inl (cI, 12, .inl (fun j => nI (Y j)))), (m_known, .inl (cI, 12, .inl (fun j => nI (K j)))), (m_reached, .inl (cZ, 12, .inl (fun j => bI (Re2_68 j))))] := hD
              refine lv_istore (lv' := [(6, .int (nI (prv fu Kd X Y K S Bo n i true))), (5, .int (nI i)), (4, .int (nI (mstF fu Kd X Y K S Bo n (frc fu Kd X Y K n (X a) true (-1 : Int32)) a true i))), (3, .int (nI (X a))), (0, .ref g0), (1, .int (nI a)), (2, .int 1)]) hx hb d_Mo_most_71 hl (by decide) rfl (fun ls hl => ?_)
              refine lv_iload hx hb d_Mo_most_73 (lv_at hl 0 rfl) ?_
              refine lv_iload hx hb d_Mo_most_75 (lv_at hl 2 rfl) ?_
              refine lv_icmp_le (tgt := 85) hx hb d_Mo_most_77 (by decide) (fun hc15 => ?_) (fun hc15 => ?_)
              · -- 77 taken
                have hc15 : prv fu Kd X Y K S Bo n i true ≤ mstF fu Kd X Y K S Bo n (frc fu Kd X Y K n (X a) true (-1 : Int32)) a true i := (nI_leI (Nat.lt_trans (prv_lt hn) (by decide)) (Nat.lt_trans (mstF_lt hn hz9 _) (by decide))).mp hc15
                refine lv_iload hx hb d_Mo_most_85 (lv_at hl 2 rfl) ?_
                refine lv_istore (lv' := [(4, .int (nI (mstF fu Kd X Y K S Bo n (frc fu Kd X Y K n (X a) true (-1 : Int32)) a true i))), (6, .int (nI (prv fu Kd X Y K S Bo n i true))), (5, .int (nI i)), (3, .int (nI (X a))), (0, .ref g0), (1, .int (nI a)), (2, .int 1)]) hx hb d_Mo_most_87 hl (by decide) rfl (fun ls hl => ?_)
                refine lv_iinc (lv' := [(5, .int ((nI i) + 1)), (4, .int (nI (mstF fu Kd X Y K S Bo n (frc fu Kd X Y K n (X a) true (-1 : Int32)) a true i))), (6, .int (nI (prv fu Kd X Y K S Bo n i true))), (3, .int (nI (X a))), (0, .ref g0), (1, .int (nI a)), (2, .int 1)]) hx hb d_Mo_most_89 hl (k := 2) rfl rfl (by decide) rfl (fun ls hl => ?_)
                refine lv_goto (tgt := 36) hx hb d_Mo_most_92 (by decide) ?_
                have e16 : (nI i) + 1 = nI (i + 1) := nI_1 i
                have e17 : nI (mstF fu Kd X Y K S Bo n (frc fu Kd X Y K n (X a) true (-1 : Int32)) a true i) = nI (mstF fu Kd X Y K S Bo n (frc fu Kd X Y K n (X a) true (-1 : Int32)) a true (i + 1)) := congrArg nI (show mstF fu Kd X Y K S Bo n (frc fu Kd X Y K n (X a) true (-1 : Int32)) a true i = mstF fu Kd X Y K S Bo n (frc fu Kd X Y K n (X a) true (-1 : Int32)) a true (i + 1) by rw [mstF]; simp [hb3, hc8, hb13, hc15] <;> omega)
                exact ih (i + 1) Re2_68 ls H locs (by omega) (by rw [← e16, ← e17]; exact lv_sub hl [0, 1, 3, 4, 5, 6] rfl) hP hD hS
              · -- 77 not taken
                have hc15 : mstF fu Kd X Y K S Bo n (frc fu Kd X Y K n (X a) true (-1 : Int32)) a true i < prv fu Kd X Y K S Bo n i true := Nat.lt_of_not_le (fun h9 => hc15 ((nI_leI (Nat.lt_trans (prv_lt hn) (by decide)) (Nat.lt_trans (mstF_lt hn hz9 _) (by decide))).mpr h9))
                refine lv_iload hx hb d_Mo_most_80 (lv_at hl 0 rfl) ?_
                refine lv_goto (tgt := 87) hx hb d_Mo_most_82 (by decide) ?_
                refine lv_istore (lv' := [(4, .int (nI (prv fu Kd X Y K S Bo n i true))), (6, .int (nI (prv fu Kd X Y K S Bo n i true))), (5, .int (nI i)), (3, .int (nI (X a))), (0, .ref g0), (1, .int (nI a)), (2, .int 1)]) hx hb d_Mo_most_87 hl (by decide) rfl (fun ls hl => ?_)
                refine lv_iinc (lv' := [(5, .int ((nI i) + 1)), (4, .int (nI (prv fu Kd X Y K S Bo n i true))), (6, .int (nI (prv fu Kd X Y K S Bo n i true))), (3, .int (nI (X a))), (0, .ref g0), (1, .int (nI a)), (2, .int 1)]) hx hb d_Mo_most_89 hl (k := 2) rfl rfl (by decide) rfl (fun ls hl => ?_)
                refine lv_goto (tgt := 36) hx hb d_Mo_most_92 (by decide) ?_
                have e18 : (nI i) + 1 = nI (i + 1) := nI_1 i
                have e19 : nI (prv fu Kd X Y K S Bo n i true) = nI (mstF fu Kd X Y K S Bo n (frc fu Kd X Y K n (X a) true (-1 : Int32)) a true (i + 1)) := congrArg nI (show prv fu Kd X Y K S Bo n i true = mstF fu Kd X Y K S Bo n (frc fu Kd X Y K n (X a) true (-1 : Int32)) a true (i + 1) by rw [mstF]; simp [hb3, hc8, hb13, hc15] <;> omega)
                exact ih (i + 1) Re2_68 ls H locs (by omega) (by rw [← e18, ← e19]; exact lv_sub hl [0, 1, 3, 4, 5, 6] rfl) hP hD hS
            · refine tr_top e9 ?_
              refine lv_if_ne (tgt := 64) hx hb d_Mo_most_58 (by decide) (fun h0 => absurd (by decide) h0) (fun _ => ?_)
              refine lv_goto (tgt := 89) hx hb d_Mo_most_61 (by decide) ?_
              refine lv_iinc (lv' := [(5, .int ((nI i) + 1)), (4, .int (nI (mstF fu Kd X Y K S Bo n (frc fu Kd X Y K n (X a) true (-1 : Int32)) a true i))), (3, .int (nI (X a))), (0, .ref g0), (1, .int (nI a)), (2, .int 1)]) hx hb d_Mo_most_89 hl (k := 0) rfl rfl (by decide) rfl (fun ls hl => ?_)
              refine lv_goto (tgt := 36) hx hb d_Mo_most_92 (by decide) ?_
              have e21 : (nI i) + 1 = nI (i + 1) := nI_1 i
              have e22 : nI (mstF fu Kd X Y K S Bo n (frc fu Kd X Y K n (X a) true (-1 : Int32)) a true i) = nI (mstF fu Kd X Y K S Bo n (frc fu Kd X Y K n (X a) true (-1 : Int32)) a true (i + 1)) := congrArg nI (show mstF fu Kd X Y K S Bo n (frc fu Kd X Y K n (X a) true (-1 : Int32)) a true i = mstF fu Kd X Y K S Bo n (frc fu Kd X Y K n (X a) true (-1 : Int32)) a true (i + 1) by rw [mstF]; simp [hb3, hc8, hb13] <;> omega)
              exact ih (i + 1) Rz ls H locs (by omega) (by rw [← e21, ← e22]; exact lv_sub hl [0, 1, 2, 3, 4, 5] rfl) hP hD hS
      exact loop n 0 Re ls _ _ (Nat.zero_add _) hl hP hD hS
    · refine tr_top e9 ?_
      refine lv_if_eq (tgt := 25) hx hb d_Mo_most_12 (by decide) (fun _ => ?_) (fun h0 => absurd (by decide) h0)
      refine lv_aload_n hx hb d_Mo_most_25 rfl (lv_at hl 1 rfl) ?_
      refine lv_iload_n hx hb d_Mo_most_26 rfl (lv_at hl 0 rfl) ?_
      refine lv_iload_n hx hb d_Mo_most_27 rfl (lv_at hl 3 rfl) ?_
      have hPc := hP.sub (ws' := [(g0, .inr (6, [.int co, .int (nI n), .ref m_sea, .ref m_center, .ref m_home, .ref m_borders, .int mp, .int mt, .ref m_owner, .ref m_units, .ref m_kind, .ref m_toX, .ref m_toY, .ref m_results, .ref m_known, .ref m_reached, .ref m_way, .ref m_aside, .ref m_origin, .ref m_retreats, .ref m_contested, .ref m_moved, .int msh, .ref m_past])), (m_units, .inl (cI, 12, .inl fu)), (m_kind, .inl (cI, 12, .inl (fun j => nI (Kd j)))), (m_toX, .inl (cI, 12, .inl (fun j => nI (X j)))), (m_toY, .inl (cI, 12, .inl (fun j => nI (Y j)))), (m_known, .inl (cI, 12, .inl (fun j => nI (K j))))]) [0, 3, 4, 5, 6, 7] rfl
      refine vp_callSi (va_Run.run (va_runV (As := [.int (nI (X a)), .int 1]) (rest := []) ⟨hx, hb, hml, hown, hts⟩ (c_Mo_holding l D cI cZ cJ cS aT ceT  g0 m_sea m_center m_home m_borders m_owner m_units m_kind m_toX m_toY m_results m_known m_reached m_way m_aside m_origin m_retreats m_contested m_moved m_past n co mp mt msh fu Kd X Y K (X a) true hKd hX9 hY9 hK9 (hX9 _) hn) (cwV 2 hts (tb_4 wd_905 wd_907 wp_60 wd_8 (tb_c wd_908)) rfl rfl rfl ⟨rfl, by decide, by decide, by decide +kernel⟩ ⟨Nat.le_of_ble_eq_true rfl, Nat.le_of_ble_eq_true rfl⟩) (tP_V hK hX (hS.2.1 aT hXl hXn) hPc (q := 0) rfl rfl) rfl rfl hl.1 rfl (lv_room (Nat.le_of_ble_eq_true rfl)) d_Mo_most_28 ⟨Nat.le_of_ble_eq_true rfl, Nat.le_of_ble_eq_true rfl⟩)) (fun r24 hr9 => ?_)
      rw [hr9]
      refine lv_istore (lv' := [(4, .int (nI (hdg fu Kd X Y K n (X a) true))), (3, .int (nI (X a))), (0, .ref g0), (1, .int (nI a)), (2, .int 1)]) hx hb d_Mo_most_31 hl (by decide) rfl (fun ls hl => ?_)
      refine lv_iconst (v := 0) hx hb d_Mo_most_33 (by decide) ?_
      refine lv_istore (lv' := [(5, .int 0), (4, .int (nI (hdg fu Kd X Y K n (X a) true))), (3, .int (nI (X a))), (0, .ref g0), (1, .int (nI a)), (2, .int 1)]) hx hb d_Mo_most_34 hl (by decide) rfl (fun ls hl => ?_)
      have hz9 : hdg fu Kd X Y K n (X a) true < 14 := (hdg_lt hn)
      have loop : ∀ (k i : Nat) (Rz : Nat → Bool) (ls : Array Slot) (H : Heap) (locs : List Loc), i + k = n → lv_has ls 7 [(5, .int (nI i)), (4, .int (nI (mstF fu Kd X Y K S Bo n (hdg fu Kd X Y K n (X a) true) a true i))), (3, .int (nI (X a))), (0, .ref g0), (1, .int (nI a)), (2, .int 1)] → va_P D vwCl [(g0, .inr (6, [.int co, .int (nI n), .ref m_sea, .ref m_center, .ref m_home, .ref m_borders, .int mp, .int mt, .ref m_owner, .ref m_units, .ref m_kind, .ref m_toX, .ref m_toY, .ref m_results, .ref m_known, .ref m_reached, .ref m_way, .ref m_aside, .ref m_origin, .ref m_retreats, .ref m_contested, .ref m_moved, .int msh, .ref m_past])), (m_sea, .inl (cZ, 12, .inl (fun j => bI (S j)))), (m_borders, .inl (cZ, 144, .inl (fun j => bI (Bo j)))), (m_units, .inl (cI, 12, .inl fu)), (m_kind, .inl (cI, 12, .inl (fun j => nI (Kd j)))), (m_toX, .inl (cI, 12, .inl (fun j => nI (X j)))), (m_toY, .inl (cI, 12, .inl (fun j => nI (Y j)))), (m_known, .inl (cI, 12, .inl (fun j => nI (K j)))), (m_reached, .inl (cZ, 12, .inl (fun j => bI (Rz j))))] H → va_D A [(g0, .inr (6, [.int co, .int (nI n), .ref m_sea, .ref m_center, .ref m_home, .ref m_borders, .int mp, .int mt, .ref m_owner, .ref m_units, .ref m_kind, .ref m_toX, .ref m_toY, .ref m_results, .ref m_known, .ref m_reached, .ref m_way, .ref m_aside, .ref m_origin, .ref m_retreats, .ref m_contested, .ref m_moved, .int msh, .ref m_past])), (m_sea, .inl (cZ, 12, .inl (fun j => bI (S j)))), (m_borders, .inl (cZ, 144, .inl (fun j => bI (Bo j)))), (m_units, .inl (cI, 12, .inl fu)), (m_kind, .inl (cI, 12, .inl (fun j => nI (Kd j)))), (m_toX, .inl (cI, 12, .inl (fun j => nI (X j)))), (m_toY, .inl (cI, 12, .inl (fun j => nI (Y j)))), (m_known, .inl (cI, 12, .inl (fun j => nI (K j)))), (m_reached, .inl (cZ, 12, .inl (fun j => bI (Rz j))))] → va_S A s.heap H locs → W p l e (headSpec w_Mo_most ({ frames := 6, cells := 0, slots := 0, locals := 140 })).room s m ([.ref g0, .int (nI a), .int (bI true)]).toArray below meth c H locs 0 0 (MQ below (va_Qi (fun (r : Int32) (_ : Unit) => r = nI (mst fu Kd X Y K S Bo n a true)) (fun _ t => ∃ (Re2 : Nat → Bool), tB D A [(g0, .inr (6, [.int co, .int (nI n), .ref m_sea, .ref m_center, .ref m_home, .ref m_borders, .int mp, .int mt, .ref m_owner, .ref m_units, .ref m_kind, .ref m_toX, .ref m_toY, .ref m_results, .ref m_known, .ref m_reached, .ref m_way, .ref m_aside, .ref m_origin, .ref m_retreats, .ref m_contested, .ref m_moved, .int msh, .ref m_past])), (m_sea, .inl (cZ, 12, .inl (fun j => bI (S j)))), (m_borders, .inl (cZ, 144, .inl (fun j => bI (Bo j)))), (m_units, .inl (cI, 12, .inl fu)), (m_kind, .inl (cI, 12, .inl (fun j => nI (Kd j)))), (m_toX, .inl (cI, 12, .inl (fun j => nI (X j)))), (m_toY, .inl (cI, 12, .inl (fun j => nI (Y j)))), (m_known, .inl (cI, 12, .inl (fun j => nI (K j)))), (m_reached, .inl (cZ, 12, .inl (fun j => bI (Re2 j))))] t) A) ([.ref g0, .int (nI a), .int (bI true)]).toArray s 0 0 A) (F0 m 36 ls []) := by
        intro k
        induction k with
        | zero =>
          intro i Rz ls H locs hi hl hP hD hS
          have hie : i = n := by omega
          rw [hie] at hl
          refine lv_iload hx hb d_Mo_most_36 (lv_at hl 0 rfl) ?_
          refine lv_aload_n hx hb d_Mo_most_38 rfl (lv_at hl 3 rfl) ?_
          refine va_get (D := D) (ci := 6) (v := .int (nI n)) (C := R_Mo) (T := T_Mo) (N := 24) hx hb hts hin_Mo hown hK hP 0 rfl rfl 1 (by decide) (hts _ wd_705) (fun _ h9 => h9) rfl d_Mo_most_39 ?_
          refine lv_icmp_ge (tgt := 95) hx hb d_Mo_most_42 (by decide) (fun _ => ?_) (fun h0 => absurd (Int32.le_refl _) h0)
          refine lv_iload hx hb d_Mo_most_95 (lv_at hl 1 rfl) ?_
          have hP9 := hP.sub (ws' := [(g0, .inr (6, [.int co, .int (nI n), .ref m_sea, .ref m_center, .ref m_home, .ref m_borders, .int mp, .int mt, .ref m_owner, .ref m_units, .ref m_kind, .ref m_toX, .ref m_toY, .ref m_results, .ref m_known, .ref m_reached, .ref m_way, .ref m_aside, .ref m_origin, .ref m_retreats, .ref m_contested, .ref m_moved, .int msh, .ref m_past])), (m_sea, .inl (cZ, 12, .inl (fun j => bI (S j)))), (m_borders, .inl (cZ, 144, .inl (fun j => bI (Bo j)))), (m_units, .inl (cI, 12, .inl fu)), (m_kind, .inl (cI, 12, .inl (fun j => nI (Kd j)))), (m_toX, .inl (cI, 12, .inl (fun j => nI (X j)))), (m_toY, .inl (cI, 12, .inl (fun j => nI (Y j)))), (m_known, .inl (cI, 12, .inl (fun j => nI (K j)))), (m_reached, .inl (cZ, 12, .inl (fun j => bI (Rz j))))]) [0, 1, 2, 3, 4, 5, 6, 7, 8] rfl
          have hD9 := hD.sub (ws' := [(g0, .inr (6, [.int co, .int (nI n), .ref m_sea, .ref m_center, .ref m_home, .ref m_borders, .int mp, .int mt, .ref m_owner, .ref m_units, .ref m_kind, .ref m_toX, .ref m_toY, .ref m_results, .ref m_known, .ref m_reached, .ref m_way, .ref m_aside, .ref m_origin, .ref m_retreats, .ref m_contested, .ref m_moved, .int msh, .ref m_past])), (m_sea, .inl (cZ, 12, .inl (fun j => bI (S j)))), (m_borders, .inl (cZ, 144, .inl (fun j => bI (Bo j)))), (m_units, .inl (cI, 12, .inl fu)), (m_kind, .inl (cI, 12, .inl (fun j => nI (Kd j)))), (m_toX, .inl (cI, 12, .inl (fun j => nI (X j)))), (m_toY, .inl (cI, 12, .inl (fun j => nI (Y j)))), (m_known, .inl (cI, 12, .inl (fun j => nI (K j)))), (m_reached, .inl (cZ, 12, .inl (fun j => bI (Rz j))))]) [0, 1, 2, 3, 4, 5, 6, 7, 8] (by decide) rfl
          exact W.iret (v := nI (mstF fu Kd X Y K S Bo n (hdg fu Kd X Y K n (X a) true) a true n)) hx hb hr (fun t ht hW => ⟨⟨nI (mstF fu Kd X Y K S Bo n (hdg fu Kd X Y K n (X a) true) a true n), (), rfl, congrArg nI (show mstF fu Kd X Y K S Bo n (hdg fu Kd X Y K n (X a) true) a true n = mst fu Kd X Y K S Bo n a true by simp [mst, hb3] <;> omega), Rz, by rw [ht]; exact hP9, hD9⟩, hS.F ht⟩) hS.2.2 d_Mo_most_97
        | succ k ih =>
          intro i Rz ls H locs hi hl hP hD hS
          have hlt : i < n := by omega
          have hlt12 : i < 12 := by omega
          refine lv_iload hx hb d_Mo_most_36 (lv_at hl 0 rfl) ?_
          refine lv_aload_n hx hb d_Mo_most_38 rfl (lv_at hl 3 rfl) ?_
          refine va_get (D := D) (ci := 6) (v := .int (nI n)) (C := R_Mo) (T := T_Mo) (N := 24) hx hb hts hin_Mo hown hK hP 0 rfl rfl 1 (by decide) (hts _ wd_705) (fun _ h9 => h9) rfl d_Mo_most_39 ?_
          refine lv_icmp_ge (tgt := 95) hx hb d_Mo_most_42 (by decide) (fun h0 => absurd h0 (nI_ge hlt (by omega))) (fun _ => ?_)
          refine lv_iload hx hb d_Mo_most_45 (lv_at hl 0 rfl) ?_
          refine lv_iload_n hx hb d_Mo_most_47 rfl (lv_at hl 4 rfl) ?_
          refine lv_icmp_eq (tgt := 89) hx hb d_Mo_most_48 (by decide) (fun hc27 => ?_) (fun hc27 => ?_)
          · -- 48 taken
            have hc27 : i = a := (nI_lit (Nat.lt_trans hlt12 (by decide)) (Nat.lt_trans h_a (by decide))).mp hc27
            refine lv_iinc (lv' := [(5, .int ((nI i) + 1)), (4, .int (nI (mstF fu Kd X Y K S Bo n (hdg fu Kd X Y K n (X a) true) a true i))), (3, .int (nI (X a))), (0, .ref g0), (1, .int (nI a)), (2, .int 1)]) hx hb d_Mo_most_89 hl (k := 0) rfl rfl (by decide) rfl (fun ls hl => ?_)
            refine lv_goto (tgt := 36) hx hb d_Mo_most_92 (by decide) ?_
            have e28 : (nI i) + 1 = nI (i + 1) := nI_1 i
            have e29 : nI (mstF fu Kd X Y K S Bo n (hdg fu Kd X Y K n (X a) true) a true i) = nI (mstF fu Kd X Y K S Bo n (hdg fu Kd X Y K n (X a) true) a true (i + 1)) := congrArg nI (show mstF fu Kd X Y K S Bo n (hdg fu Kd X Y K n (X a) true) a true i = mstF fu Kd X Y K S Bo n (hdg fu Kd X Y K n (X a) true) a true (i + 1) by rw [mstF]; simp [hb3, hc27] <;> omega)
            exact ih (i + 1) Rz ls H locs (by omega) (by rw [← e28, ← e29]; exact lv_sub hl [0, 1, 2, 3, 4, 5] rfl) hP hD hS
          · -- 48 not taken
            have hc27 : ¬ i = a := fun h9 => hc27 (congrArg nI h9)
            refine lv_aload_n hx hb d_Mo_most_51 rfl (lv_at hl 3 rfl) ?_
            refine lv_iload hx hb d_Mo_most_52 (lv_at hl 0 rfl) ?_
            refine lv_iload_n hx hb d_Mo_most_54 rfl (lv_at hl 2 rfl) ?_
            have hPc := hP.sub (ws' := [(g0, .inr (6, [.int co, .int (nI n), .ref m_sea, .ref m_center, .ref m_home, .ref m_borders, .int mp, .int mt, .ref m_owner, .ref m_units, .ref m_kind, .ref m_toX, .ref m_toY, .ref m_results, .ref m_known, .ref m_reached, .ref m_way, .ref m_aside, .ref m_origin, .ref m_retreats, .ref m_contested, .ref m_moved, .int msh, .ref m_past])), (m_units, .inl (cI, 12, .inl fu)), (m_kind, .inl (cI, 12, .inl (fun j => nI (Kd j)))), (m_toX, .inl (cI, 12, .inl (fun j => nI (X j))))]) [0, 3, 4, 5] rfl
            refine vp_callSi (va_Run.run (va_runV (As := [.int (nI i), .int (nI (X a))]) (rest := []) ⟨hx, hb, hml, hown, hts⟩ (c_Mo_movesTo l D cI cZ cJ cS aT ceT  g0 m_sea m_center m_home m_borders m_owner m_units m_kind m_toX m_toY m_results m_known m_reached m_way m_aside m_origin m_retreats m_contested m_moved m_past n co mp mt msh fu Kd X i (X a) hKd hX9 hlt12 (hX9 _)) (cwV 2 hts (tb_4 wd_849 wd_851 wp_46 wd_8 (tb_c wd_852)) rfl rfl rfl ⟨rfl, by decide, by decide, by decide +kernel⟩ ⟨Nat.le_of_ble_eq_true rfl, Nat.le_of_ble_eq_true rfl⟩) (tP_V hK hX (hS.2.1 aT hXl hXn) hPc (q := 0) rfl rfl) rfl rfl hl.1 rfl (lv_room (Nat.le_of_ble_eq_true rfl)) d_Mo_most_55 ⟨Nat.le_of_ble_eq_true rfl, Nat.le_of_ble_eq_true rfl⟩)) (fun r30 hr9 => ?_)
            rw [hr9]
            rcases bI_c (mvT fu Kd X i (X a)) with ⟨hb32, e9⟩ | ⟨hb32, e9⟩
            · refine tr_top e9 ?_
              refine lv_if_ne (tgt := 64) hx hb d_Mo_most_58 (by decide) (fun _ => ?_) (fun h0 => absurd h0 (by decide))
              refine lv_aload_n hx hb d_Mo_most_64 rfl (lv_at hl 3 rfl) ?_
              refine lv_iload hx hb d_Mo_most_65 (lv_at hl 0 rfl) ?_
              refine lv_iload_n hx hb d_Mo_most_67 rfl (lv_at hl 5 rfl) ?_
              have hPc := hP.sub (ws' := [(g0, .inr (6, [.int co, .int (nI n), .ref m_sea, .ref m_center, .ref m_home, .ref m_borders, .int mp, .int mt, .ref m_owner, .ref m_units, .ref m_kind, .ref m_toX, .ref m_toY, .ref m_results, .ref m_known, .ref m_reached, .ref m_way, .ref m_aside, .ref m_origin, .ref m_retreats, .ref m_contested, .ref m_moved, .int msh, .ref m_past])), (m_sea, .inl (cZ, 12, .inl (fun j => bI (S j)))), (m_borders, .inl (cZ, 144, .inl (fun j => bI (Bo j)))), (m_units, .inl (cI, 12, .inl fu)), (m_kind, .inl (cI, 12, .inl (fun j => nI (Kd j)))), (m_toX, .inl (cI, 12, .inl (fun j => nI (X j)))), (m_toY, .inl (cI, 12, .inl (fun j => nI (Y j)))), (m_known, .inl (cI, 12, .inl (fun j => nI (K j)))), (m_reached, .inl (cZ, 12, .inl (fun j => bI (Rz j))))]) [0, 1, 2, 3, 4, 5, 6, 7, 8] rfl
              have hDc := hD.sub (ws' := [(g0, .inr (6, [.int co, .int (nI n), .ref m_sea, .ref m_center, .ref m_home, .ref m_borders, .int mp, .int mt, .ref m_owner, .ref m_units, .ref m_kind, .ref m_toX, .ref m_toY, .ref m_results, .ref m_known, .ref m_reached, .ref m_way, .ref m_aside, .ref m_origin, .ref m_retreats, .ref m_contested, .ref m_moved, .int msh, .ref m_past])), (m_sea, .inl (cZ, 12, .inl (fun j => bI (S j)))), (m_borders, .inl (cZ, 144, .inl (fun j => bI (Bo j)))), (m_units, .inl (cI, 12, .inl fu)), (m_kind, .inl (cI, 12, .inl (fun j => nI (Kd j)))), (m_toX, .inl (cI, 12, .inl (fun j => nI (X j)))), (m_toY, .inl (cI, 12, .inl (fun j => nI (Y j)))), (m_known, .inl (cI, 12, .inl (fun j => nI (K j)))), (m_reached, .inl (cZ, 12, .inl (fun j => bI (Rz j))))]) [0, 1, 2, 3, 4, 5, 6, 7, 8] (by decide) rfl
              have hFc := va_free (wc := [(g0, .inr (6, [.int co, .int (nI n), .ref m_sea, .ref m_center, .ref m_home, .ref m_borders, .int mp, .int mt, .ref m_owner, .ref m_units, .ref m_kind, .ref m_toX, .ref m_toY, .ref m_results, .ref m_known, .ref m_reached, .ref m_way, .ref m_aside, .ref m_origin, .ref m_retreats, .ref m_contested, .ref m_moved, .int msh, .ref m_past])), (m_sea, .inl (cZ, 12, .inl (fun j => bI (S j)))), (m_borders, .inl (cZ, 144, .inl (fun j => bI (Bo j)))), (m_units, .inl (cI, 12, .inl fu)), (m_kind, .inl (cI, 12, .inl (fun j => nI (Kd j)))), (m_toX, .inl (cI, 12, .inl (fun j => nI (X j)))), (m_toY, .inl (cI, 12, .inl (fun j => nI (Y j)))), (m_known, .inl (cI, 12, .inl (fun j => nI (K j)))), (m_reached, .inl (cZ, 12, .inl (fun j => bI (Rz j))))]) hD hS hA [0, 1, 2, 3, 4, 5, 6, 7, 8] rfl
              refine va_calli (va_runV (As := [.int (nI i), .int 1]) (rest := []) ⟨hx, hb, hml, hown, hts⟩ (c_Mo_prevention l D cI cZ cJ cS aT ceT H.size g0 m_sea m_center m_home m_borders m_owner m_units m_kind m_toX m_toY m_results m_known m_reached m_way m_aside m_origin m_retreats m_contested m_moved m_past n co mp mt msh S Bo fu Kd X Y K Rz i true hKd hX9 hY9 hK9 hlt12 hn) (cwV 2 hts (tb_4 wd_909 wd_911 wp_61 wd_8 (tb_c wd_912)) rfl rfl rfl ⟨rfl, by decide, by decide, by decide +kernel⟩ ⟨Nat.le_of_ble_eq_true rfl, Nat.le_of_ble_eq_true rfl⟩) (tH_V hK hX (hS.2.1 aT hXl hXn) hPc hDc (q := 0) rfl rfl) rfl rfl hl.1 rfl (lv_room (Nat.le_of_ble_eq_true rfl)) d_Mo_most_68 ⟨Nat.le_of_ble_eq_true rfl, Nat.le_of_ble_eq_true rfl⟩) hS (fun q _ h => hFc q h) hFc (fun r9 u t H1 locs ht hvm h9 hB hz1 hk1 hS => ?_)
              rw [h9]
              obtain ⟨Re2_68, hP1, hD1⟩ := hB
              rw [ht] at hP1
              obtain ⟨hP, hD⟩ := va_join (wr := []) (w1 := [(g0, .inr (6, [.int co, .int (nI n), .ref m_sea, .ref m_center, .ref m_home, .ref m_borders, .int mp, .int mt, .ref m_owner, .ref m_units, .ref m_kind, .ref m_toX, .ref m_toY, .ref m_results, .ref m_known, .ref m_reached, .ref m_way, .ref m_aside, .ref m_origin, .ref m_retreats, .ref m_contested, .ref m_moved, .int msh, .ref m_past])), (m_sea, .inl (cZ, 12, .inl (fun j => bI (S j)))), (m_borders, .inl (cZ, 144, .inl (fun j => bI (Bo j)))), (m_units, .inl (cI, 12, .inl fu)), (m_kind, .inl (cI, 12, .inl (fun j => nI (Kd j)))), (m_toX, .inl (cI, 12, .inl (fun j => nI (X j)))), (m_toY, .inl (cI, 12, .inl (fun j => nI (Y j)))), (m_known, .inl (cI, 12, .inl (fun j => nI (K j)))), (m_reached, .inl (cZ, 12, .inl (fun j => bI (Re2_68 j))))]) hP hD [0, 1, 2, 3, 4, 5, 6, 7, 8] [] rfl rfl (by decide) (by decide) hk1 hFc hP1 hD1
              generalize H1 = H at hP hS ⊢
              have hP : va_P D vwCl [(g0, .inr (6, [.int co, .int (nI n), .ref m_sea, .ref m_center, .ref m_home, .ref m_borders, .int mp, .int mt, .ref m_owner, .ref m_units, .ref m_kind, .ref m_toX, .ref m_toY, .ref m_results, .ref m_known, .ref m_reached, .ref m_way, .ref m_aside, .ref m_origin, .ref m_retreats, .ref m_contested, .ref m_moved, .int msh, .ref m_past])), (m_sea, .inl (cZ, 12, .inl (fun j => bI (S j)))), (m_borders, .inl (cZ, 144, .inl (fun j => bI (Bo j)))), (m_units, .inl (cI, 12, .inl fu)), (m_kind, .inl (cI, 12, .inl (fun j => nI (Kd j)))), (m_toX, .inl (cI, 12, .inl (fun j => nI (X j)))), (m_toY, .inl (cI, 12, .inl (fun j => nI (Y j)))), (m_known, .inl (cI, 12, .inl (fun j => nI (K j)))), (m_reached, .inl (cZ, 12, .inl (fun j => bI (Re2_68 j))))] H := hP
              have hD : va_D A [(g0, .inr (6, [.int co, .int (nI n), .ref m_sea, .ref m_center, .ref m_home, .ref m_borders, .int mp, .int mt, .ref m_owner, .ref m_units, .ref m_kind, .ref m_toX, .ref m_toY, .ref m_results, .ref m_known, .ref m_reached, .ref m_way, .ref m_aside, .ref m_origin, .ref m_retreats, .ref m_contested, .ref m_moved, .int msh, .ref m_past])), (m_sea, .inl (cZ, 12, .inl (fun j => bI (S j)))), (m_borders, .inl (cZ, 144, .inl (fun j => bI (Bo j)))), (m_units, .inl (cI, 12, .inl fu)), (m_kind, .inl (cI, 12, .inl (fun j => nI (Kd j)))), (m_toX, .inl (cI, 12, .inl (fun j => nI (X j)))), (m_toY, .inl (cI, 12, .inl (fun j => nI (Y j)))), (m_known, .inl (cI, 12, .inl (fun j => nI (K j)))), (m_reached, .inl (cZ, 12, .inl (fun j => bI (Re2_68 j))))] := hD
              refine lv_istore (lv' := [(6, .int (nI (prv fu Kd X Y K S Bo n i true))), (5, .int (nI i)), (4, .int (nI (mstF fu Kd X Y K S Bo n (hdg fu Kd X Y K n (X a) true) a true i))), (3, .int (nI (X a))), (0, .ref g0), (1, .int (nI a)), (2, .int 1)]) hx hb d_Mo_most_71 hl (by decide) rfl (fun ls hl => ?_)
              refine lv_iload hx hb d_Mo_most_73 (lv_at hl 0 rfl) ?_
              refine lv_iload hx hb d_Mo_most_75 (lv_at hl 2 rfl) ?_
              refine lv_icmp_le (tgt := 85) hx hb d_Mo_most_77 (by decide) (fun hc34 => ?_) (fun hc34 => ?_)
              · -- 77 taken
                have hc34 : prv fu Kd X Y K S Bo n i true ≤ mstF fu Kd X Y K S Bo n (hdg fu Kd X Y K n (X a) true) a true i := (nI_leI (Nat.lt_trans (prv_lt hn) (by decide)) (Nat.lt_trans (mstF_lt hn hz9 _) (by decide))).mp hc34
                refine lv_iload hx hb d_Mo_most_85 (lv_at hl 2 rfl) ?_
                refine lv_istore (lv' := [(4, .int (nI (mstF fu Kd X Y K S Bo n (hdg fu Kd X Y K n (X a) true) a true i))), (6, .int (nI (prv fu Kd X Y K S Bo n i true))), (5, .int (nI i)), (3, .int (nI (X a))), (0, .ref g0), (1, .int (nI a)), (2, .int 1)]) hx hb d_Mo_most_87 hl (by decide) rfl (fun ls hl => ?_)
                refine lv_iinc (lv' := [(5, .int ((nI i) + 1)), (4, .int (nI (mstF fu Kd X Y K S Bo n (hdg fu Kd X Y K n (X a) true) a true i))), (6, .int (nI (prv fu Kd X Y K S Bo n i true))), (3, .int (nI (X a))), (0, .ref g0), (1, .int (nI a)), (2, .int 1)]) hx hb d_Mo_most_89 hl (k := 2) rfl rfl (by decide) rfl (fun ls hl => ?_)
                refine lv_goto (tgt := 36) hx hb d_Mo_most_92 (by decide) ?_
                have e35 : (nI i) + 1 = nI (i + 1) := nI_1 i
                have e36 : nI (mstF fu Kd X Y K S Bo n (hdg fu Kd X Y K n (X a) true) a true i) = nI (mstF fu Kd X Y K S Bo n (hdg fu Kd X Y K n (X a) true) a true (i + 1)) := congrArg nI (show mstF fu Kd X Y K S Bo n (hdg fu Kd X Y K n (X a) true) a true i = mstF fu Kd X Y K S Bo n (hdg fu Kd X Y K n (X a) true) a true (i + 1) by rw [mstF]; simp [hb3, hc27, hb32, hc34] <;> omega)
                exact ih (i + 1) Re2_68 ls H locs (by omega) (by rw [← e35, ← e36]; exact lv_sub hl [0, 1, 3, 4, 5, 6] rfl) hP hD hS
              · -- 77 not taken
                have hc34 : mstF fu Kd X Y K S Bo n (hdg fu Kd X Y K n (X a) true) a true i < prv fu Kd X Y K S Bo n i true := Nat.lt_of_not_le (fun h9 => hc34 ((nI_leI (Nat.lt_trans (prv_lt hn) (by decide)) (Nat.lt_trans (mstF_lt hn hz9 _) (by decide))).mpr h9))
                refine lv_iload hx hb d_Mo_most_80 (lv_at hl 0 rfl) ?_
                refine lv_goto (tgt := 87) hx hb d_Mo_most_82 (by decide) ?_
                refine lv_istore (lv' := [(4, .int (nI (prv fu Kd X Y K S Bo n i true))), (6, .int (nI (prv fu Kd X Y K S Bo n i true))), (5, .int (nI i)), (3, .int (nI (X a))), (0, .ref g0), (1, .int (nI a)), (2, .int 1)]) hx hb d_Mo_most_87 hl (by decide) rfl (fun ls hl => ?_)
                refine lv_iinc (lv' := [(5, .int ((nI i) + 1)), (4, .int (nI (prv fu Kd X Y K S Bo n i true))), (6, .int (nI (prv fu Kd X Y K S Bo n i true))), (3, .int (nI (X a))), (0, .ref g0), (1, .int (nI a)), (2, .int 1)]) hx hb d_Mo_most_89 hl (k := 2) rfl rfl (by decide) rfl (fun ls hl => ?_)
                refine lv_goto (tgt := 36) hx hb d_Mo_most_92 (by decide) ?_
                have e37 : (nI i) + 1 = nI (i + 1) := nI_1 i
                have e38 : nI (prv fu Kd X Y K S Bo n i true) = nI (mstF fu Kd X Y K S Bo n (hdg fu Kd X Y K n (X a) true) a true (i + 1)) := congrArg nI (show prv fu Kd X Y K S Bo n i true = mstF fu Kd X Y K S Bo n (hdg fu Kd X Y K n (X a) true) a true (i + 1) by rw [mstF]; simp [hb3, hc27, hb32, hc34] <;> omega)
                exact ih (i + 1) Re2_68 ls H locs (by omega) (by rw [← e37, ← e38]; exact lv_sub hl [0, 1, 3, 4, 5, 6] rfl) hP hD hS
            · refine tr_top e9 ?_
              refine lv_if_ne (tgt := 64) hx hb d_Mo_most_58 (by decide) (fun h0 => absurd (by decide) h0) (fun _ => ?_)
              refine lv_goto (tgt := 89) hx hb d_Mo_most_61 (by decide) ?_
              refine lv_iinc (lv' := [(5, .int ((nI i) + 1)), (4, .int (nI (mstF fu Kd X Y K S Bo n (hdg fu Kd X Y K n (X a) true) a true i))), (3, .int (nI (X a))), (0, .ref g0), (1, .int (nI a)), (2, .int 1)]) hx hb d_Mo_most_89 hl (k := 0) rfl rfl (by decide) rfl (fun ls hl => ?_)
              refine lv_goto (tgt := 36) hx hb d_Mo_most_92 (by decide) ?_
              have e40 : (nI i) + 1 = nI (i + 1) := nI_1 i
              have e41 : nI (mstF fu Kd X Y K S Bo n (hdg fu Kd X Y K n (X a) true) a true i) = nI (mstF fu Kd X Y K S Bo n (hdg fu Kd X Y K n (X a) true) a true (i + 1)) := congrArg nI (show mstF fu Kd X Y K S Bo n (hdg fu Kd X Y K n (X a) true) a true i = mstF fu Kd X Y K S Bo n (hdg fu Kd X Y K n (X a) true) a true (i + 1) by rw [mstF]; simp [hb3, hc27, hb32] <;> omega)
              exact ih (i + 1) Rz ls H locs (by omega) (by rw [← e40, ← e41]; exact lv_sub hl [0, 1, 2, 3, 4, 5] rfl) hP hD hS
      exact loop n 0 Re ls _ _ (Nat.zero_add _) hl hP hD hS
  | false =>
    have hl : lv_has ls 7 [(0, .ref g0), (1, .int (nI a)), (2, .int 0)] := hl
    refine lv_aload_n hx hb d_Mo_most_0 rfl (lv_at hl 0 rfl) ?_
    refine va_get (D := D) (ci := 6) (v := .ref m_toX) (C := R_Mo) (T := T_Mo) (N := 24) hx hb hts hin_Mo hown hK hP 0 rfl rfl 11 (by decide) (hts _ wd_715) (fun _ h9 => h9) rfl d_Mo_most_1 ?_
    refine lv_iload_n hx hb d_Mo_most_4 rfl (lv_at hl 1 rfl) ?_
    refine tr_iald (v := nI (X a)) hx hb hK hP 5 0 rfl rfl a h_a (by decide) rfl d_Mo_most_5 ?_
    refine lv_istore_n (lv' := [(3, .int (nI (X a))), (0, .ref g0), (1, .int (nI a)), (2, .int 0)]) hx hb d_Mo_most_6 rfl hl (by decide) rfl (fun ls hl => ?_)
    refine lv_aload_n hx hb d_Mo_most_7 rfl (lv_at hl 1 rfl) ?_
    refine lv_iload_n hx hb d_Mo_most_8 rfl (lv_at hl 2 rfl) ?_
    have hPc := hP.sub (ws' := [(g0, .inr (6, [.int co, .int (nI n), .ref m_sea, .ref m_center, .ref m_home, .ref m_borders, .int mp, .int mt, .ref m_owner, .ref m_units, .ref m_kind, .ref m_toX, .ref m_toY, .ref m_results, .ref m_known, .ref m_reached, .ref m_way, .ref m_aside, .ref m_origin, .ref m_retreats, .ref m_contested, .ref m_moved, .int msh, .ref m_past])), (m_sea, .inl (cZ, 12, .inl (fun j => bI (S j)))), (m_borders, .inl (cZ, 144, .inl (fun j => bI (Bo j)))), (m_units, .inl (cI, 12, .inl fu)), (m_kind, .inl (cI, 12, .inl (fun j => nI (Kd j)))), (m_toX, .inl (cI, 12, .inl (fun j => nI (X j))))]) [0, 1, 2, 3, 4, 5] rfl
    refine vp_callSi (va_Run.run (va_runV (As := [.int (nI a)]) (rest := []) ⟨hx, hb, hml, hown, hts⟩ (c_Mo_headOn l D cI cZ cJ cS aT ceT  g0 m_sea m_center m_home m_borders m_owner m_units m_kind m_toX m_toY m_results m_known m_reached m_way m_aside m_origin m_retreats m_contested m_moved m_past n co mp mt msh S Bo fu Kd X a hKd hX9 h_a) (cwV 1 hts (tb_4 wd_897 wd_899 wp_58 wd_8 (tb_c wd_900)) rfl rfl rfl ⟨rfl, by decide, by decide, by decide +kernel⟩ ⟨Nat.le_of_ble_eq_true rfl, Nat.le_of_ble_eq_true rfl⟩) (tP_V hK hX (hS.2.1 aT hXl hXn) hPc (q := 0) rfl rfl) rfl rfl hl.1 rfl (lv_room (Nat.le_of_ble_eq_true rfl)) d_Mo_most_9 ⟨Nat.le_of_ble_eq_true rfl, Nat.le_of_ble_eq_true rfl⟩)) (fun r42 hr9 => ?_)
    rw [hr9]
    rcases bI_c (hOn Bo S fu Kd X a) with ⟨hb44, e9⟩ | ⟨hb44, e9⟩
    · refine tr_top e9 ?_
      refine lv_if_eq (tgt := 25) hx hb d_Mo_most_12 (by decide) (fun h0 => absurd h0 (by decide)) (fun _ => ?_)
      refine lv_aload_n hx hb d_Mo_most_15 rfl (lv_at hl 1 rfl) ?_
      refine lv_iload_n hx hb d_Mo_most_16 rfl (lv_at hl 0 rfl) ?_
      refine lv_iload_n hx hb d_Mo_most_17 rfl (lv_at hl 3 rfl) ?_
      refine lv_iconst (v := (-1)) hx hb d_Mo_most_18 (by decide) ?_
      have hPc := hP.sub (ws' := [(g0, .inr (6, [.int co, .int (nI n), .ref m_sea, .ref m_center, .ref m_home, .ref m_borders, .int mp, .int mt, .ref m_owner, .ref m_units, .ref m_kind, .ref m_toX, .ref m_toY, .ref m_results, .ref m_known, .ref m_reached, .ref m_way, .ref m_aside, .ref m_origin, .ref m_retreats, .ref m_contested, .ref m_moved, .int msh, .ref m_past])), (m_units, .inl (cI, 12, .inl fu)), (m_kind, .inl (cI, 12, .inl (fun j => nI (Kd j)))), (m_toX, .inl (cI, 12, .inl (fun j => nI (X j)))), (m_toY, .inl (cI, 12, .inl (fun j => nI (Y j)))), (m_known, .inl (cI, 12, .inl (fun j => nI (K j))))]) [0, 3, 4, 5, 6, 7] rfl
      refine vp_callSi (va_Run.run (va_runV (As := [.int (nI (X a)), .int 0, .int (-1)]) (rest := []) ⟨hx, hb, hml, hown, hts⟩ (c_Mo_force l D cI cZ cJ cS aT ceT  g0 m_sea m_center m_home m_borders m_owner m_units m_kind m_toX m_toY m_results m_known m_reached m_way m_aside m_origin m_retreats m_contested m_moved m_past n co mp mt msh fu Kd X Y K (X a) false (-1) hKd hX9 hY9 hK9 (hX9 _) hn) (cwV 3 hts (tb_4 wd_893 wd_895 wp_57 wd_8 (tb_c wd_896)) rfl rfl rfl ⟨rfl, by decide, by decide, by decide +kernel⟩ ⟨Nat.le_of_ble_eq_true rfl, Nat.le_of_ble_eq_true rfl⟩) (tP_V hK hX (hS.2.1 aT hXl hXn) hPc (q := 0) rfl rfl) rfl rfl hl.1 rfl (lv_room (Nat.le_of_ble_eq_true rfl)) d_Mo_most_19 ⟨Nat.le_of_ble_eq_true rfl, Nat.le_of_ble_eq_true rfl⟩)) (fun r46 hr9 => ?_)
      rw [hr9]
      refine lv_goto (tgt := 31) hx hb d_Mo_most_22 (by decide) ?_
      refine lv_istore (lv' := [(4, .int (nI (frc fu Kd X Y K n (X a) false (-1 : Int32)))), (3, .int (nI (X a))), (0, .ref g0), (1, .int (nI a)), (2, .int 0)]) hx hb d_Mo_most_31 hl (by decide) rfl (fun ls hl => ?_)
      refine lv_iconst (v := 0) hx hb d_Mo_most_33 (by decide) ?_
      refine lv_istore (lv' := [(5, .int 0), (4, .int (nI (frc fu Kd X Y K n (X a) false (-1 : Int32)))), (3, .int (nI (X a))), (0, .ref g0), (1, .int (nI a)), (2, .int 0)]) hx hb d_Mo_most_34 hl (by decide) rfl (fun ls hl => ?_)
      have hz9 : frc fu Kd X Y K n (X a) false (-1 : Int32) < 14 := (frc_lt hn)
      have loop : ∀ (k i : Nat) (Rz : Nat → Bool) (ls : Array Slot) (H : Heap) (locs : List Loc), i + k = n → lv_has ls 7 [(5, .int (nI i)), (4, .int (nI (mstF fu Kd X Y K S Bo n (frc fu Kd X Y K n (X a) false (-1 : Int32)) a false i))), (3, .int (nI (X a))), (0, .ref g0), (1, .int (nI a)), (2, .int 0)] → va_P D vwCl [(g0, .inr (6, [.int co, .int (nI n), .ref m_sea, .ref m_center, .ref m_home, .ref m_borders, .int mp, .int mt, .ref m_owner, .ref m_units, .ref m_kind, .ref m_toX, .ref m_toY, .ref m_results, .ref m_known, .ref m_reached, .ref m_way, .ref m_aside, .ref m_origin, .ref m_retreats, .ref m_contested, .ref m_moved, .int msh, .ref m_past])), (m_sea, .inl (cZ, 12, .inl (fun j => bI (S j)))), (m_borders, .inl (cZ, 144, .inl (fun j => bI (Bo j)))), (m_units, .inl (cI, 12, .inl fu)), (m_kind, .inl (cI, 12, .inl (fun j => nI (Kd j)))), (m_toX, .inl (cI, 12, .inl (fun j => nI (X j)))), (m_toY, .inl (cI, 12, .inl (fun j => nI (Y j)))), (m_known, .inl (cI, 12, .inl (fun j => nI (K j)))), (m_reached, .inl (cZ, 12, .inl (fun j => bI (Rz j))))] H → va_D A [(g0, .inr (6, [.int co, .int (nI n), .ref m_sea, .ref m_center, .ref m_home, .ref m_borders, .int mp, .int mt, .ref m_owner, .ref m_units, .ref m_kind, .ref m_toX, .ref m_toY, .ref m_results, .ref m_known, .ref m_reached, .ref m_way, .ref m_aside, .ref m_origin, .ref m_retreats, .ref m_contested, .ref m_moved, .int msh, .ref m_past])), (m_sea, .inl (cZ, 12, .inl (fun j => bI (S j)))), (m_borders, .inl (cZ, 144, .inl (fun j => bI (Bo j)))), (m_units, .inl (cI, 12, .inl fu)), (m_kind, .inl (cI, 12, .inl (fun j => nI (Kd j)))), (m_toX, .inl (cI, 12, .inl (fun j => nI (X j)))), (m_toY, .inl (cI, 12, .inl (fun j => nI (Y j)))), (m_known, .inl (cI, 12, .inl (fun j => nI (K j)))), (m_reached, .inl (cZ, 12, .inl (fun j => bI (Rz j))))] → va_S A s.heap H locs → W p l e (headSpec w_Mo_most ({ frames := 6, cells := 0, slots := 0, locals := 140 })).room s m ([.ref g0, .int (nI a), .int (bI false)]).toArray below meth c H locs 0 0 (MQ below (va_Qi (fun (r : Int32) (_ : Unit) => r = nI (mst fu Kd X Y K S Bo n a false)) (fun _ t => ∃ (Re2 : Nat → Bool), tB D A [(g0, .inr (6, [.int co, .int (nI n), .ref m_sea, .ref m_center, .ref m_home, .ref m_borders, .int mp, .int mt, .ref m_owner, .ref m_units, .ref m_kind, .ref m_toX, .ref m_toY, .ref m_results, .ref m_known, .ref m_reached, .ref m_way, .ref m_aside, .ref m_origin, .ref m_retreats, .ref m_contested, .ref m_moved, .int msh, .ref m_past])), (m_sea, .inl (cZ, 12, .inl (fun j => bI (S j)))), (m_borders, .inl (cZ, 144, .inl (fun j => bI (Bo j)))), (m_units, .inl (cI, 12, .inl fu)), (m_kind, .inl (cI, 12, .inl (fun j => nI (Kd j)))), (m_toX, .inl (cI, 12, .inl (fun j => nI (X j)))), (m_toY, .inl (cI, 12, .inl (fun j => nI (Y j)))), (m_known, .inl (cI, 12, .inl (fun j => nI (K j)))), (m_reached, .inl (cZ, 12, .inl (fun j => bI (Re2 j))))] t) A) ([.ref g0, .int (nI a), .int (bI false)]).toArray s 0 0 A) (F0 m 36 ls []) := by
        intro k
        induction k with
        | zero =>
          intro i Rz ls H locs hi hl hP hD hS
          have hie : i = n := by omega
          rw [hie] at hl
          refine lv_iload hx hb d_Mo_most_36 (lv_at hl 0 rfl) ?_
          refine lv_aload_n hx hb d_Mo_most_38 rfl (lv_at hl 3 rfl) ?_
          refine va_get (D := D) (ci := 6) (v := .int (nI n)) (C := R_Mo) (T := T_Mo) (N := 24) hx hb hts hin_Mo hown hK hP 0 rfl rfl 1 (by decide) (hts _ wd_705) (fun _ h9 => h9) rfl d_Mo_most_39 ?_
          refine lv_icmp_ge (tgt := 95) hx hb d_Mo_most_42 (by decide) (fun _ => ?_) (fun h0 => absurd (Int32.le_refl _) h0)
          refine lv_iload hx hb d_Mo_most_95 (lv_at hl 1 rfl) ?_
          have hP9 := hP.sub (ws' := [(g0, .inr (6, [.int co, .int (nI n), .ref m_sea, .ref m_center, .ref m_home, .ref m_borders, .int mp, .int mt, .ref m_owner, .ref m_units, .ref m_kind, .ref m_toX, .ref m_toY, .ref m_results, .ref m_known, .ref m_reached, .ref m_way, .ref m_aside, .ref m_origin, .ref m_retreats, .ref m_contested, .ref m_moved, .int msh, .ref m_past])), (m_sea, .inl (cZ, 12, .inl (fun j => bI (S j)))), (m_borders, .inl (cZ, 144, .inl (fun j => bI (Bo j)))), (m_units, .inl (cI, 12, .inl fu)), (m_kind, .inl (cI, 12, .inl (fun j => nI (Kd j)))), (m_toX, .inl (cI, 12, .inl (fun j => nI (X j)))), (m_toY, .inl (cI, 12, .inl (fun j => nI (Y j)))), (m_known, .inl (cI, 12, .inl (fun j => nI (K j)))), (m_reached, .inl (cZ, 12, .inl (fun j => bI (Rz j))))]) [0, 1, 2, 3, 4, 5, 6, 7, 8] rfl
          have hD9 := hD.sub (ws' := [(g0, .inr (6, [.int co, .int (nI n), .ref m_sea, .ref m_center, .ref m_home, .ref m_borders, .int mp, .int mt, .ref m_owner, .ref m_units, .ref m_kind, .ref m_toX, .ref m_toY, .ref m_results, .ref m_known, .ref m_reached, .ref m_way, .ref m_aside, .ref m_origin, .ref m_retreats, .ref m_contested, .ref m_moved, .int msh, .ref m_past])), (m_sea, .inl (cZ, 12, .inl (fun j => bI (S j)))), (m_borders, .inl (cZ, 144, .inl (fun j => bI (Bo j)))), (m_units, .inl (cI, 12, .inl fu)), (m_kind, .inl (cI, 12, .inl (fun j => nI (Kd j)))), (m_toX, .inl (cI, 12, .inl (fun j => nI (X j)))), (m_toY, .inl (cI, 12, .inl (fun j => nI (Y j)))), (m_known, .inl (cI, 12, .inl (fun j => nI (K j)))), (m_reached, .inl (cZ, 12, .inl (fun j => bI (Rz j))))]) [0, 1, 2, 3, 4, 5, 6, 7, 8] (by decide) rfl
          exact W.iret (v := nI (mstF fu Kd X Y K S Bo n (frc fu Kd X Y K n (X a) false (-1 : Int32)) a false n)) hx hb hr (fun t ht hW => ⟨⟨nI (mstF fu Kd X Y K S Bo n (frc fu Kd X Y K n (X a) false (-1 : Int32)) a false n), (), rfl, congrArg nI (show mstF fu Kd X Y K S Bo n (frc fu Kd X Y K n (X a) false (-1 : Int32)) a false n = mst fu Kd X Y K S Bo n a false by simp [mst, hb44] <;> omega), Rz, by rw [ht]; exact hP9, hD9⟩, hS.F ht⟩) hS.2.2 d_Mo_most_97
        | succ k ih =>
          intro i Rz ls H locs hi hl hP hD hS
          have hlt : i < n := by omega
          have hlt12 : i < 12 := by omega
          refine lv_iload hx hb d_Mo_most_36 (lv_at hl 0 rfl) ?_
          refine lv_aload_n hx hb d_Mo_most_38 rfl (lv_at hl 3 rfl) ?_
          refine va_get (D := D) (ci := 6) (v := .int (nI n)) (C := R_Mo) (T := T_Mo) (N := 24) hx hb hts hin_Mo hown hK hP 0 rfl rfl 1 (by decide) (hts _ wd_705) (fun _ h9 => h9) rfl d_Mo_most_39 ?_
          refine lv_icmp_ge (tgt := 95) hx hb d_Mo_most_42 (by decide) (fun h0 => absurd h0 (nI_ge hlt (by omega))) (fun _ => ?_)
          refine lv_iload hx hb d_Mo_most_45 (lv_at hl 0 rfl) ?_
          refine lv_iload_n hx hb d_Mo_most_47 rfl (lv_at hl 4 rfl) ?_
          refine lv_icmp_eq (tgt := 89) hx hb d_Mo_most_48 (by decide) (fun hc49 => ?_) (fun hc49 => ?_)
          · -- 48 taken
            have hc49 : i = a := (nI_lit (Nat.lt_trans hlt12 (by decide)) (Nat.lt_trans h_a (by decide))).mp hc49
            refine lv_iinc (lv' := [(5, .int ((nI i) + 1)), (4, .int (nI (mstF fu Kd X Y K S Bo n (frc fu Kd X Y K n (X a) false (-1 : Int32)) a false i))), (3, .int (nI (X a))), (0, .ref g0), (1, .int (nI a)), (2, .int 0)]) hx hb d_Mo_most_89 hl (k := 0) rfl rfl (by decide) rfl (fun ls hl => ?_)
            refine lv_goto (tgt := 36) hx hb d_Mo_most_92 (by decide) ?_
            have e50 : (nI i) + 1 = nI (i + 1) := nI_1 i
            have e51 : nI (mstF fu Kd X Y K S Bo n (frc fu Kd X Y K n (X a) false (-1 : Int32)) a false i) = nI (mstF fu Kd X Y K S Bo n (frc fu Kd X Y K n (X a) false (-1 : Int32)) a false (i + 1)) := congrArg nI (show mstF fu Kd X Y K S Bo n (frc fu Kd X Y K n (X a) false (-1 : Int32)) a false i = mstF fu Kd X Y K S Bo n (frc fu Kd X Y K n (X a) false (-1 : Int32)) a false (i + 1) by rw [mstF]; simp [hb44, hc49] <;> omega)
            exact ih (i + 1) Rz ls H locs (by omega) (by rw [← e50, ← e51]; exact lv_sub hl [0, 1, 2, 3, 4, 5] rfl) hP hD hS
          · -- 48 not taken
            have hc49 : ¬ i = a := fun h9 => hc49 (congrArg nI h9)
            refine lv_aload_n hx hb d_Mo_most_51 rfl (lv_at hl 3 rfl) ?_
            refine lv_iload hx hb d_Mo_most_52 (lv_at hl 0 rfl) ?_
            refine lv_iload_n hx hb d_Mo_most_54 rfl (lv_at hl 2 rfl) ?_
            have hPc := hP.sub (ws' := [(g0, .inr (6, [.int co, .int (nI n), .ref m_sea, .ref m_center, .ref m_home, .ref m_borders, .int mp, .int mt, .ref m_owner, .ref m_units, .ref m_kind, .ref m_toX, .ref m_toY, .ref m_results, .ref m_known, .ref m_reached, .ref m_way, .ref m_aside, .ref m_origin, .ref m_retreats, .ref m_contested, .ref m_moved, .int msh, .ref m_past])), (m_units, .inl (cI, 12, .inl fu)), (m_kind, .inl (cI, 12, .inl (fun j => nI (Kd j)))), (m_toX, .inl (cI, 12, .inl (fun j => nI (X j))))]) [0, 3, 4, 5] rfl
            refine vp_callSi (va_Run.run (va_runV (As := [.int (nI i), .int (nI (X a))]) (rest := []) ⟨hx, hb, hml, hown, hts⟩ (c_Mo_movesTo l D cI cZ cJ cS aT ceT  g0 m_sea m_center m_home m_borders m_owner m_units m_kind m_toX m_toY m_results m_known m_reached m_way m_aside m_origin m_retreats m_contested m_moved m_past n co mp mt msh fu Kd X i (X a) hKd hX9 hlt12 (hX9 _)) (cwV 2 hts (tb_4 wd_849 wd_851 wp_46 wd_8 (tb_c wd_852)) rfl rfl rfl ⟨rfl, by decide, by decide, by decide +kernel⟩ ⟨Nat.le_of_ble_eq_true rfl, Nat.le_of_ble_eq_true rfl⟩) (tP_V hK hX (hS.2.1 aT hXl hXn) hPc (q := 0) rfl rfl) rfl rfl hl.1 rfl (lv_room (Nat.le_of_ble_eq_true rfl)) d_Mo_most_55 ⟨Nat.le_of_ble_eq_true rfl, Nat.le_of_ble_eq_true rfl⟩)) (fun r52 hr9 => ?_)
            rw [hr9]
            rcases bI_c (mvT fu Kd X i (X a)) with ⟨hb54, e9⟩ | ⟨hb54, e9⟩
            · refine tr_top e9 ?_
              refine lv_if_ne (tgt := 64) hx hb d_Mo_most_58 (by decide) (fun _ => ?_) (fun h0 => absurd h0 (by decide))
              refine lv_aload_n hx hb d_Mo_most_64 rfl (lv_at hl 3 rfl) ?_
              refine lv_iload hx hb d_Mo_most_65 (lv_at hl 0 rfl) ?_
              refine lv_iload_n hx hb d_Mo_most_67 rfl (lv_at hl 5 rfl) ?_
              have hPc := hP.sub (ws' := [(g0, .inr (6, [.int co, .int (nI n), .ref m_sea, .ref m_center, .ref m_home, .ref m_borders, .int mp, .int mt, .ref m_owner, .ref m_units, .ref m_kind, .ref m_toX, .ref m_toY, .ref m_results, .ref m_known, .ref m_reached, .ref m_way, .ref m_aside, .ref m_origin, .ref m_retreats, .ref m_contested, .ref m_moved, .int msh, .ref m_past])), (m_sea, .inl (cZ, 12, .inl (fun j => bI (S j)))), (m_borders, .inl (cZ, 144, .inl (fun j => bI (Bo j)))), (m_units, .inl (cI, 12, .inl fu)), (m_kind, .inl (cI, 12, .inl (fun j => nI (Kd j)))), (m_toX, .inl (cI, 12, .inl (fun j => nI (X j)))), (m_toY, .inl (cI, 12, .inl (fun j => nI (Y j)))), (m_known, .inl (cI, 12, .inl (fun j => nI (K j)))), (m_reached, .inl (cZ, 12, .inl (fun j => bI (Rz j))))]) [0, 1, 2, 3, 4, 5, 6, 7, 8] rfl
              have hDc := hD.sub (ws' := [(g0, .inr (6, [.int co, .int (nI n), .ref m_sea, .ref m_center, .ref m_home, .ref m_borders, .int mp, .int mt, .ref m_owner, .ref m_units, .ref m_kind, .ref m_toX, .ref m_toY, .ref m_results, .ref m_known, .ref m_reached, .ref m_way, .ref m_aside, .ref m_origin, .ref m_retreats, .ref m_contested, .ref m_moved, .int msh, .ref m_past])), (m_sea, .inl (cZ, 12, .inl (fun j => bI (S j)))), (m_borders, .inl (cZ, 144, .inl (fun j => bI (Bo j)))), (m_units, .inl (cI, 12, .inl fu)), (m_kind, .inl (cI, 12, .inl (fun j => nI (Kd j)))), (m_toX, .inl (cI, 12, .inl (fun j => nI (X j)))), (m_toY, .inl (cI, 12, .inl (fun j => nI (Y j)))), (m_known, .inl (cI, 12, .inl (fun j => nI (K j)))), (m_reached, .inl (cZ, 12, .inl (fun j => bI (Rz j))))]) [0, 1, 2, 3, 4, 5, 6, 7, 8] (by decide) rfl
              have hFc := va_free (wc := [(g0, .inr (6, [.int co, .int (nI n), .ref m_sea, .ref m_center, .ref m_home, .ref m_borders, .int mp, .int mt, .ref m_owner, .ref m_units, .ref m_kind, .ref m_toX, .ref m_toY, .ref m_results, .ref m_known, .ref m_reached, .ref m_way, .ref m_aside, .ref m_origin, .ref m_retreats, .ref m_contested, .ref m_moved, .int msh, .ref m_past])), (m_sea, .inl (cZ, 12, .inl (fun j => bI (S j)))), (m_borders, .inl (cZ, 144, .inl (fun j => bI (Bo j)))), (m_units, .inl (cI, 12, .inl fu)), (m_kind, .inl (cI, 12, .inl (fun j => nI (Kd j)))), (m_toX, .inl (cI, 12, .inl (fun j => nI (X j)))), (m_toY, .inl (cI, 12, .inl (fun j => nI (Y j)))), (m_known, .inl (cI, 12, .inl (fun j => nI (K j)))), (m_reached, .inl (cZ, 12, .inl (fun j => bI (Rz j))))]) hD hS hA [0, 1, 2, 3, 4, 5, 6, 7, 8] rfl
              refine va_calli (va_runV (As := [.int (nI i), .int 0]) (rest := []) ⟨hx, hb, hml, hown, hts⟩ (c_Mo_prevention l D cI cZ cJ cS aT ceT H.size g0 m_sea m_center m_home m_borders m_owner m_units m_kind m_toX m_toY m_results m_known m_reached m_way m_aside m_origin m_retreats m_contested m_moved m_past n co mp mt msh S Bo fu Kd X Y K Rz i false hKd hX9 hY9 hK9 hlt12 hn) (cwV 2 hts (tb_4 wd_909 wd_911 wp_61 wd_8 (tb_c wd_912)) rfl rfl rfl ⟨rfl, by decide, by decide, by decide +kernel⟩ ⟨Nat.le_of_ble_eq_true rfl, Nat.le_of_ble_eq_true rfl⟩) (tH_V hK hX (hS.2.1 aT hXl hXn) hPc hDc (q := 0) rfl rfl) rfl rfl hl.1 rfl (lv_room (Nat.le_of_ble_eq_true rfl)) d_Mo_most_68 ⟨Nat.le_of_ble_eq_true rfl, Nat.le_of_ble_eq_true rfl⟩) hS (fun q _ h => hFc q h) hFc (fun r9 u t H1 locs ht hvm h9 hB hz1 hk1 hS => ?_)
              rw [h9]
              obtain ⟨Re2_68, hP1, hD1⟩ := hB
              rw [ht] at hP1
              obtain ⟨hP, hD⟩ := va_join (wr := []) (w1 := [(g0, .inr (6, [.int co, .int (nI n), .ref m_sea, .ref m_center, .ref m_home, .ref m_borders, .int mp, .int mt, .ref m_owner, .ref m_units, .ref m_kind, .ref m_toX, .ref m_toY, .ref m_results, .ref m_known, .ref m_reached, .ref m_way, .ref m_aside, .ref m_origin, .ref m_retreats, .ref m_contested, .ref m_moved, .int msh, .ref m_past])), (m_sea, .inl (cZ, 12, .inl (fun j => bI (S j)))), (m_borders, .inl (cZ, 144, .inl (fun j => bI (Bo j)))), (m_units, .inl (cI, 12, .inl fu)), (m_kind, .inl (cI, 12, .inl (fun j => nI (Kd j)))), (m_toX, .inl (cI, 12, .inl (fun j => nI (X j)))), (m_toY, .inl (cI, 12, .inl (fun j => nI (Y j)))), (m_known, .inl (cI, 12, .inl (fun j => nI (K j)))), (m_reached, .inl (cZ, 12, .inl (fun j => bI (Re2_68 j))))]) hP hD [0, 1, 2, 3, 4, 5, 6, 7, 8] [] rfl rfl (by decide) (by decide) hk1 hFc hP1 hD1
              generalize H1 = H at hP hS ⊢
              have hP : va_P D vwCl [(g0, .inr (6, [.int co, .int (nI n), .ref m_sea, .ref m_center, .ref m_home, .ref m_borders, .int mp, .int mt, .ref m_owner, .ref m_units, .ref m_kind, .ref m_toX, .ref m_toY, .ref m_results, .ref m_known, .ref m_reached, .ref m_way, .ref m_aside, .ref m_origin, .ref m_retreats, .ref m_contested, .ref m_moved, .int msh, .ref m_past])), (m_sea, .inl (cZ, 12, .inl (fun j => bI (S j)))), (m_borders, .inl (cZ, 144, .inl (fun j => bI (Bo j)))), (m_units, .inl (cI, 12, .inl fu)), (m_kind, .inl (cI, 12, .inl (fun j => nI (Kd j)))), (m_toX, .inl (cI, 12, .inl (fun j => nI (X j)))), (m_toY, .inl (cI, 12, .inl (fun j => nI (Y j)))), (m_known, .inl (cI, 12, .inl (fun j => nI (K j)))), (m_reached, .inl (cZ, 12, .inl (fun j => bI (Re2_68 j))))] H := hP
              have hD : va_D A [(g0, .inr (6, [.int co, .int (nI n), .ref m_sea, .ref m_center, .ref m_home, .ref m_borders, .int mp, .int mt, .ref m_owner, .ref m_units, .ref m_kind, .ref m_toX, .ref m_toY, .ref m_results, .ref m_known, .ref m_reached, .ref m_way, .ref m_aside, .ref m_origin, .ref m_retreats, .ref m_contested, .ref m_moved, .int msh, .ref m_past])), (m_sea, .inl (cZ, 12, .inl (fun j => bI (S j)))), (m_borders, .inl (cZ, 144, .inl (fun j => bI (Bo j)))), (m_units, .inl (cI, 12, .inl fu)), (m_kind, .inl (cI, 12, .inl (fun j => nI (Kd j)))), (m_toX, .inl (cI, 12, .inl (fun j => nI (X j)))), (m_toY, .inl (cI, 12, .inl (fun j => nI (Y j)))), (m_known, .inl (cI, 12, .inl (fun j => nI (K j)))), (m_reached, .inl (cZ, 12, .inl (fun j => bI (Re2_68 j))))] := hD
              refine lv_istore (lv' := [(6, .int (nI (prv fu Kd X Y K S Bo n i false))), (5, .int (nI i)), (4, .int (nI (mstF fu Kd X Y K S Bo n (frc fu Kd X Y K n (X a) false (-1 : Int32)) a false i))), (3, .int (nI (X a))), (0, .ref g0), (1, .int (nI a)), (2, .int 0)]) hx hb d_Mo_most_71 hl (by decide) rfl (fun ls hl => ?_)
              refine lv_iload hx hb d_Mo_most_73 (lv_at hl 0 rfl) ?_
              refine lv_iload hx hb d_Mo_most_75 (lv_at hl 2 rfl) ?_
              refine lv_icmp_le (tgt := 85) hx hb d_Mo_most_77 (by decide) (fun hc56 => ?_) (fun hc56 => ?_)
              · -- 77 taken
                have hc56 : prv fu Kd X Y K S Bo n i false ≤ mstF fu Kd X Y K S Bo n (frc fu Kd X Y K n (X a) false (-1 : Int32)) a false i := (nI_leI (Nat.lt_trans (prv_lt hn) (by decide)) (Nat.lt_trans (mstF_lt hn hz9 _) (by decide))).mp hc56
                refine lv_iload hx hb d_Mo_most_85 (lv_at hl 2 rfl) ?_
                refine lv_istore (lv' := [(4, .int (nI (mstF fu Kd X Y K S Bo n (frc fu Kd X Y K n (X a) false (-1 : Int32)) a false i))), (6, .int (nI (prv fu Kd X Y K S Bo n i false))), (5, .int (nI i)), (3, .int (nI (X a))), (0, .ref g0), (1, .int (nI a)), (2, .int 0)]) hx hb d_Mo_most_87 hl (by decide) rfl (fun ls hl => ?_)
                refine lv_iinc (lv' := [(5, .int ((nI i) + 1)), (4, .int (nI (mstF fu Kd X Y K S Bo n (frc fu Kd X Y K n (X a) false (-1 : Int32)) a false i))), (6, .int (nI (prv fu Kd X Y K S Bo n i false))), (3, .int (nI (X a))), (0, .ref g0), (1, .int (nI a)), (2, .int 0)]) hx hb d_Mo_most_89 hl (k := 2) rfl rfl (by decide) rfl (fun ls hl => ?_)
                refine lv_goto (tgt := 36) hx hb d_Mo_most_92 (by decide) ?_
                have e57 : (nI i) + 1 = nI (i + 1) := nI_1 i
                have e58 : nI (mstF fu Kd X Y K S Bo n (frc fu Kd X Y K n (X a) false (-1 : Int32)) a false i) = nI (mstF fu Kd X Y K S Bo n (frc fu Kd X Y K n (X a) false (-1 : Int32)) a false (i + 1)) := congrArg nI (show mstF fu Kd X Y K S Bo n (frc fu Kd X Y K n (X a) false (-1 : Int32)) a false i = mstF fu Kd X Y K S Bo n (frc fu Kd X Y K n (X a) false (-1 : Int32)) a false (i + 1) by rw [mstF]; simp [hb44, hc49, hb54, hc56] <;> omega)
                exact ih (i + 1) Re2_68 ls H locs (by omega) (by rw [← e57, ← e58]; exact lv_sub hl [0, 1, 3, 4, 5, 6] rfl) hP hD hS
              · -- 77 not taken
                have hc56 : mstF fu Kd X Y K S Bo n (frc fu Kd X Y K n (X a) false (-1 : Int32)) a false i < prv fu Kd X Y K S Bo n i false := Nat.lt_of_not_le (fun h9 => hc56 ((nI_leI (Nat.lt_trans (prv_lt hn) (by decide)) (Nat.lt_trans (mstF_lt hn hz9 _) (by decide))).mpr h9))
                refine lv_iload hx hb d_Mo_most_80 (lv_at hl 0 rfl) ?_
                refine lv_goto (tgt := 87) hx hb d_Mo_most_82 (by decide) ?_
                refine lv_istore (lv' := [(4, .int (nI (prv fu Kd X Y K S Bo n i false))), (6, .int (nI (prv fu Kd X Y K S Bo n i false))), (5, .int (nI i)), (3, .int (nI (X a))), (0, .ref g0), (1, .int (nI a)), (2, .int 0)]) hx hb d_Mo_most_87 hl (by decide) rfl (fun ls hl => ?_)
                refine lv_iinc (lv' := [(5, .int ((nI i) + 1)), (4, .int (nI (prv fu Kd X Y K S Bo n i false))), (6, .int (nI (prv fu Kd X Y K S Bo n i false))), (3, .int (nI (X a))), (0, .ref g0), (1, .int (nI a)), (2, .int 0)]) hx hb d_Mo_most_89 hl (k := 2) rfl rfl (by decide) rfl (fun ls hl => ?_)
                refine lv_goto (tgt := 36) hx hb d_Mo_most_92 (by decide) ?_
                have e59 : (nI i) + 1 = nI (i + 1) := nI_1 i
                have e60 : nI (prv fu Kd X Y K S Bo n i false) = nI (mstF fu Kd X Y K S Bo n (frc fu Kd X Y K n (X a) false (-1 : Int32)) a false (i + 1)) := congrArg nI (show prv fu Kd X Y K S Bo n i false = mstF fu Kd X Y K S Bo n (frc fu Kd X Y K n (X a) false (-1 : Int32)) a false (i + 1) by rw [mstF]; simp [hb44, hc49, hb54, hc56] <;> omega)
                exact ih (i + 1) Re2_68 ls H locs (by omega) (by rw [← e59, ← e60]; exact lv_sub hl [0, 1, 3, 4, 5, 6] rfl) hP hD hS
            · refine tr_top e9 ?_
              refine lv_if_ne (tgt := 64) hx hb d_Mo_most_58 (by decide) (fun h0 => absurd (by decide) h0) (fun _ => ?_)
              refine lv_goto (tgt := 89) hx hb d_Mo_most_61 (by decide) ?_
              refine lv_iinc (lv' := [(5, .int ((nI i) + 1)), (4, .int (nI (mstF fu Kd X Y K S Bo n (frc fu Kd X Y K n (X a) false (-1 : Int32)) a false i))), (3, .int (nI (X a))), (0, .ref g0), (1, .int (nI a)), (2, .int 0)]) hx hb d_Mo_most_89 hl (k := 0) rfl rfl (by decide) rfl (fun ls hl => ?_)
              refine lv_goto (tgt := 36) hx hb d_Mo_most_92 (by decide) ?_
              have e62 : (nI i) + 1 = nI (i + 1) := nI_1 i
              have e63 : nI (mstF fu Kd X Y K S Bo n (frc fu Kd X Y K n (X a) false (-1 : Int32)) a false i) = nI (mstF fu Kd X Y K S Bo n (frc fu Kd X Y K n (X a) false (-1 : Int32)) a false (i + 1)) := congrArg nI (show mstF fu Kd X Y K S Bo n (frc fu Kd X Y K n (X a) false (-1 : Int32)) a false i = mstF fu Kd X Y K S Bo n (frc fu Kd X Y K n (X a) false (-1 : Int32)) a false (i + 1) by rw [mstF]; simp [hb44, hc49, hb54] <;> omega)
              exact ih (i + 1) Rz ls H locs (by omega) (by rw [← e62, ← e63]; exact lv_sub hl [0, 1, 2, 3, 4, 5] rfl) hP hD hS
      exact loop n 0 Re ls _ _ (Nat.zero_add _) hl hP hD hS
    · refine tr_top e9 ?_
      refine lv_if_eq (tgt := 25) hx hb d_Mo_most_12 (by decide) (fun _ => ?_) (fun h0 => absurd (by decide) h0)
      refine lv_aload_n hx hb d_Mo_most_25 rfl (lv_at hl 1 rfl) ?_
      refine lv_iload_n hx hb d_Mo_most_26 rfl (lv_at hl 0 rfl) ?_
      refine lv_iload_n hx hb d_Mo_most_27 rfl (lv_at hl 3 rfl) ?_
      have hPc := hP.sub (ws' := [(g0, .inr (6, [.int co, .int (nI n), .ref m_sea, .ref m_center, .ref m_home, .ref m_borders, .int mp, .int mt, .ref m_owner, .ref m_units, .ref m_kind, .ref m_toX, .ref m_toY, .ref m_results, .ref m_known, .ref m_reached, .ref m_way, .ref m_aside, .ref m_origin, .ref m_retreats, .ref m_contested, .ref m_moved, .int msh, .ref m_past])), (m_units, .inl (cI, 12, .inl fu)), (m_kind, .inl (cI, 12, .inl (fun j => nI (Kd j)))), (m_toX, .inl (cI, 12, .inl (fun j => nI (X j)))), (m_toY, .inl (cI, 12, .inl (fun j => nI (Y j)))), (m_known, .inl (cI, 12, .inl (fun j => nI (K j))))]) [0, 3, 4, 5, 6, 7] rfl
      refine vp_callSi (va_Run.run (va_runV (As := [.int (nI (X a)), .int 0]) (rest := []) ⟨hx, hb, hml, hown, hts⟩ (c_Mo_holding l D cI cZ cJ cS aT ceT  g0 m_sea m_center m_home m_borders m_owner m_units m_kind m_toX m_toY m_results m_known m_reached m_way m_aside m_origin m_retreats m_contested m_moved m_past n co mp mt msh fu Kd X Y K (X a) false hKd hX9 hY9 hK9 (hX9 _) hn) (cwV 2 hts (tb_4 wd_905 wd_907 wp_60 wd_8 (tb_c wd_908)) rfl rfl rfl ⟨rfl, by decide, by decide, by decide +kernel⟩ ⟨Nat.le_of_ble_eq_true rfl, Nat.le_of_ble_eq_true rfl⟩) (tP_V hK hX (hS.2.1 aT hXl hXn) hPc (q := 0) rfl rfl) rfl rfl hl.1 rfl (lv_room (Nat.le_of_ble_eq_true rfl)) d_Mo_most_28 ⟨Nat.le_of_ble_eq_true rfl, Nat.le_of_ble_eq_true rfl⟩)) (fun r65 hr9 => ?_)
      rw [hr9]
      refine lv_istore (lv' := [(4, .int (nI (hdg fu Kd X Y K n (X a) false))), (3, .int (nI (X a))), (0, .ref g0), (1, .int (nI a)), (2, .int 0)]) hx hb d_Mo_most_31 hl (by decide) rfl (fun ls hl => ?_)
      refine lv_iconst (v := 0) hx hb d_Mo_most_33 (by decide) ?_
      refine lv_istore (lv' := [(5, .int 0), (4, .int (nI (hdg fu Kd X Y K n (X a) false))), (3, .int (nI (X a))), (0, .ref g0), (1, .int (nI a)), (2, .int 0)]) hx hb d_Mo_most_34 hl (by decide) rfl (fun ls hl => ?_)
      have hz9 : hdg fu Kd X Y K n (X a) false < 14 := (hdg_lt hn)
      have loop : ∀ (k i : Nat) (Rz : Nat → Bool) (ls : Array Slot) (H : Heap) (locs : List Loc), i + k = n → lv_has ls 7 [(5, .int (nI i)), (4, .int (nI (mstF fu Kd X Y K S Bo n (hdg fu Kd X Y K n (X a) false) a false i))), (3, .int (nI (X a))), (0, .ref g0), (1, .int (nI a)), (2, .int 0)] → va_P D vwCl [(g0, .inr (6, [.int co, .int (nI n), .ref m_sea, .ref m_center, .ref m_home, .ref m_borders, .int mp, .int mt, .ref m_owner, .ref m_units, .ref m_kind, .ref m_toX, .ref m_toY, .ref m_results, .ref m_known, .ref m_reached, .ref m_way, .ref m_aside, .ref m_origin, .ref m_retreats, .ref m_contested, .ref m_moved, .int msh, .ref m_past])), (m_sea, .inl (cZ, 12, .inl (fun j => bI (S j)))), (m_borders, .inl (cZ, 144, .inl (fun j => bI (Bo j)))), (m_units, .inl (cI, 12, .inl fu)), (m_kind, .inl (cI, 12, .inl (fun j => nI (Kd j)))), (m_toX, .inl (cI, 12, .inl (fun j => nI (X j)))), (m_toY, .inl (cI, 12, .inl (fun j => nI (Y j)))), (m_known, .inl (cI, 12, .inl (fun j => nI (K j)))), (m_reached, .inl (cZ, 12, .inl (fun j => bI (Rz j))))] H → va_D A [(g0, .inr (6, [.int co, .int (nI n), .ref m_sea, .ref m_center, .ref m_home, .ref m_borders, .int mp, .int mt, .ref m_owner, .ref m_units, .ref m_kind, .ref m_toX, .ref m_toY, .ref m_results, .ref m_known, .ref m_reached, .ref m_way, .ref m_aside, .ref m_origin, .ref m_retreats, .ref m_contested, .ref m_moved, .int msh, .ref m_past])), (m_sea, .inl (cZ, 12, .inl (fun j => bI (S j)))), (m_borders, .inl (cZ, 144, .inl (fun j => bI (Bo j)))), (m_units, .inl (cI, 12, .inl fu)), (m_kind, .inl (cI, 12, .inl (fun j => nI (Kd j)))), (m_toX, .inl (cI, 12, .inl (fun j => nI (X j)))), (m_toY, .inl (cI, 12, .inl (fun j => nI (Y j)))), (m_known, .inl (cI, 12, .inl (fun j => nI (K j)))), (m_reached, .inl (cZ, 12, .inl (fun j => bI (Rz j))))] → va_S A s.heap H locs → W p l e (headSpec w_Mo_most ({ frames := 6, cells := 0, slots := 0, locals := 140 })).room s m ([.ref g0, .int (nI a), .int (bI false)]).toArray below meth c H locs 0 0 (MQ below (va_Qi (fun (r : Int32) (_ : Unit) => r = nI (mst fu Kd X Y K S Bo n a false)) (fun _ t => ∃ (Re2 : Nat → Bool), tB D A [(g0, .inr (6, [.int co, .int (nI n), .ref m_sea, .ref m_center, .ref m_home, .ref m_borders, .int mp, .int mt, .ref m_owner, .ref m_units, .ref m_kind, .ref m_toX, .ref m_toY, .ref m_results, .ref m_known, .ref m_reached, .ref m_way, .ref m_aside, .ref m_origin, .ref m_retreats, .ref m_contested, .ref m_moved, .int msh, .ref m_past])), (m_sea, .inl (cZ, 12, .inl (fun j => bI (S j)))), (m_borders, .inl (cZ, 144, .inl (fun j => bI (Bo j)))), (m_units, .inl (cI, 12, .inl fu)), (m_kind, .inl (cI, 12, .inl (fun j => nI (Kd j)))), (m_toX, .inl (cI, 12, .inl (fun j => nI (X j)))), (m_toY, .inl (cI, 12, .inl (fun j => nI (Y j)))), (m_known, .inl (cI, 12, .inl (fun j => nI (K j)))), (m_reached, .inl (cZ, 12, .inl (fun j => bI (Re2 j))))] t) A) ([.ref g0, .int (nI a), .int (bI false)]).toArray s 0 0 A) (F0 m 36 ls []) := by
        intro k
        induction k with
        | zero =>
          intro i Rz ls H locs hi hl hP hD hS
          have hie : i = n := by omega
          rw [hie] at hl
          refine lv_iload hx hb d_Mo_most_36 (lv_at hl 0 rfl) ?_
          refine lv_aload_n hx hb d_Mo_most_38 rfl (lv_at hl 3 rfl) ?_
          refine va_get (D := D) (ci := 6) (v := .int (nI n)) (C := R_Mo) (T := T_Mo) (N := 24) hx hb hts hin_Mo hown hK hP 0 rfl rfl 1 (by decide) (hts _ wd_705) (fun _ h9 => h9) rfl d_Mo_most_39 ?_
          refine lv_icmp_ge (tgt := 95) hx hb d_Mo_most_42 (by decide) (fun _ => ?_) (fun h0 => absurd (Int32.le_refl _) h0)
          refine lv_iload hx hb d_Mo_most_95 (lv_at hl 1 rfl) ?_
          have hP9 := hP.sub (ws' := [(g0, .inr (6, [.int co, .int (nI n), .ref m_sea, .ref m_center, .ref m_home, .ref m_borders, .int mp, .int mt, .ref m_owner, .ref m_units, .ref m_kind, .ref m_toX, .ref m_toY, .ref m_results, .ref m_known, .ref m_reached, .ref m_way, .ref m_aside, .ref m_origin, .ref m_retreats, .ref m_contested, .ref m_moved, .int msh, .ref m_past])), (m_sea, .inl (cZ, 12, .inl (fun j => bI (S j)))), (m_borders, .inl (cZ, 144, .inl (fun j => bI (Bo j)))), (m_units, .inl (cI, 12, .inl fu)), (m_kind, .inl (cI, 12, .inl (fun j => nI (Kd j)))), (m_toX, .inl (cI, 12, .inl (fun j => nI (X j)))), (m_toY, .inl (cI, 12, .inl (fun j => nI (Y j)))), (m_known, .inl (cI, 12, .inl (fun j => nI (K j)))), (m_reached, .inl (cZ, 12, .inl (fun j => bI (Rz j))))]) [0, 1, 2, 3, 4, 5, 6, 7, 8] rfl
          have hD9 := hD.sub (ws' := [(g0, .inr (6, [.int co, .int (nI n), .ref m_sea, .ref m_center, .ref m_home, .ref m_borders, .int mp, .int mt, .ref m_owner, .ref m_units, .ref m_kind, .ref m_toX, .ref m_toY, .ref m_results, .ref m_known, .ref m_reached, .ref m_way, .ref m_aside, .ref m_origin, .ref m_retreats, .ref m_contested, .ref m_moved, .int msh, .ref m_past])), (m_sea, .inl (cZ, 12, .inl (fun j => bI (S j)))), (m_borders, .inl (cZ, 144, .inl (fun j => bI (Bo j)))), (m_units, .inl (cI, 12, .inl fu)), (m_kind, .inl (cI, 12, .inl (fun j => nI (Kd j)))), (m_toX, .inl (cI, 12, .inl (fun j => nI (X j)))), (m_toY, .inl (cI, 12, .inl (fun j => nI (Y j)))), (m_known, .inl (cI, 12, .inl (fun j => nI (K j)))), (m_reached, .inl (cZ, 12, .inl (fun j => bI (Rz j))))]) [0, 1, 2, 3, 4, 5, 6, 7, 8] (by decide) rfl
          exact W.iret (v := nI (mstF fu Kd X Y K S Bo n (hdg fu Kd X Y K n (X a) false) a false n)) hx hb hr (fun t ht hW => ⟨⟨nI (mstF fu Kd X Y K S Bo n (hdg fu Kd X Y K n (X a) false) a false n), (), rfl, congrArg nI (show mstF fu Kd X Y K S Bo n (hdg fu Kd X Y K n (X a) false) a false n = mst fu Kd X Y K S Bo n a false by simp [mst, hb44] <;> omega), Rz, by rw [ht]; exact hP9, hD9⟩, hS.F ht⟩) hS.2.2 d_Mo_most_97
        | succ k ih =>
          intro i Rz ls H locs hi hl hP hD hS
          have hlt : i < n := by omega
          have hlt12 : i < 12 := by omega
          refine lv_iload hx hb d_Mo_most_36 (lv_at hl 0 rfl) ?_
          refine lv_aload_n hx hb d_Mo_most_38 rfl (lv_at hl 3 rfl) ?_
          refine va_get (D := D) (ci := 6) (v := .int (nI n)) (C := R_Mo) (T := T_Mo) (N := 24) hx hb hts hin_Mo hown hK hP 0 rfl rfl 1 (by decide) (hts _ wd_705) (fun _ h9 => h9) rfl d_Mo_most_39 ?_
          refine lv_icmp_ge (tgt := 95) hx hb d_Mo_most_42 (by decide) (fun h0 => absurd h0 (nI_ge hlt (by omega))) (fun _ => ?_)
          refine lv_iload hx hb d_Mo_most_45 (lv_at hl 0 rfl) ?_
          refine lv_iload_n hx hb d_Mo_most_47 rfl (lv_at hl 4 rfl) ?_
          refine lv_icmp_eq (tgt := 89) hx hb d_Mo_most_48 (by decide) (fun hc68 => ?_) (fun hc68 => ?_)
          · -- 48 taken
            have hc68 : i = a := (nI_lit (Nat.lt_trans hlt12 (by decide)) (Nat.lt_trans h_a (by decide))).mp hc68
            refine lv_iinc (lv' := [(5, .int ((nI i) + 1)), (4, .int (nI (mstF fu Kd X Y K S Bo n (hdg fu Kd X Y K n (X a) false) a false i))), (3, .int (nI (X a))), (0, .ref g0), (1, .int (nI a)), (2, .int 0)]) hx hb d_Mo_most_89 hl (k := 0) rfl rfl (by decide) rfl (fun ls hl => ?_)
            refine lv_goto (tgt := 36) hx hb d_Mo_most_92 (by decide) ?_
            have e69 : (nI i) + 1 = nI (i + 1) := nI_1 i
            have e70 : nI (mstF fu Kd X Y K S Bo n (hdg fu Kd X Y K n (X a) false) a false i) = nI (mstF fu Kd X Y K S Bo n (hdg fu Kd X Y K n (X a) false) a false (i + 1)) := congrArg nI (show mstF fu Kd X Y K S Bo n (hdg fu Kd X Y K n (X a) false) a false i = mstF fu Kd X Y K S Bo n (hdg fu Kd X Y K n (X a) false) a false (i + 1) by rw [mstF]; simp [hb44, hc68] <;> omega)
            exact ih (i + 1) Rz ls H locs (by omega) (by rw [← e69, ← e70]; exact lv_sub hl [0, 1, 2, 3, 4, 5] rfl) hP hD hS
          · -- 48 not taken
            have hc68 : ¬ i = a := fun h9 => hc68 (congrArg nI h9)
            refine lv_aload_n hx hb d_Mo_most_51 rfl (lv_at hl 3 rfl) ?_
            refine lv_iload hx hb d_Mo_most_52 (lv_at hl 0 rfl) ?_
            refine lv_iload_n hx hb d_Mo_most_54 rfl (lv_at hl 2 rfl) ?_
            have hPc := hP.sub (ws' := [(g0, .inr (6, [.int co, .int (nI n), .ref m_sea, .ref m_center, .ref m_home, .ref m_borders, .int mp, .int mt, .ref m_owner, .ref m_units, .ref m_kind, .ref m_toX, .ref m_toY, .ref m_results, .ref m_known, .ref m_reached, .ref m_way, .ref m_aside, .ref m_origin, .ref m_retreats, .ref m_contested, .ref m_moved, .int msh, .ref m_past])), (m_units, .inl (cI, 12, .inl fu)), (m_kind, .inl (cI, 12, .inl (fun j => nI (Kd j)))), (m_toX, .inl (cI, 12, .inl (fun j => nI (X j))))]) [0, 3, 4, 5] rfl
            refine vp_callSi (va_Run.run (va_runV (As := [.int (nI i), .int (nI (X a))]) (rest := []) ⟨hx, hb, hml, hown, hts⟩ (c_Mo_movesTo l D cI cZ cJ cS aT ceT  g0 m_sea m_center m_home m_borders m_owner m_units m_kind m_toX m_toY m_results m_known m_reached m_way m_aside m_origin m_retreats m_contested m_moved m_past n co mp mt msh fu Kd X i (X a) hKd hX9 hlt12 (hX9 _)) (cwV 2 hts (tb_4 wd_849 wd_851 wp_46 wd_8 (tb_c wd_852)) rfl rfl rfl ⟨rfl, by decide, by decide, by decide +kernel⟩ ⟨Nat.le_of_ble_eq_true rfl, Nat.le_of_ble_eq_true rfl⟩) (tP_V hK hX (hS.2.1 aT hXl hXn) hPc (q := 0) rfl rfl) rfl rfl hl.1 rfl (lv_room (Nat.le_of_ble_eq_true rfl)) d_Mo_most_55 ⟨Nat.le_of_ble_eq_true rfl, Nat.le_of_ble_eq_true rfl⟩)) (fun r71 hr9 => ?_)
            rw [hr9]
            rcases bI_c (mvT fu Kd X i (X a)) with ⟨hb73, e9⟩ | ⟨hb73, e9⟩
            · refine tr_top e9 ?_
              refine lv_if_ne (tgt := 64) hx hb d_Mo_most_58 (by decide) (fun _ => ?_) (fun h0 => absurd h0 (by decide))
              refine lv_aload_n hx hb d_Mo_most_64 rfl (lv_at hl 3 rfl) ?_
              refine lv_iload hx hb d_Mo_most_65 (lv_at hl 0 rfl) ?_
              refine lv_iload_n hx hb d_Mo_most_67 rfl (lv_at hl 5 rfl) ?_
              have hPc := hP.sub (ws' := [(g0, .inr (6, [.int co, .int (nI n), .ref m_sea, .ref m_center, .ref m_home, .ref m_borders, .int mp, .int mt, .ref m_owner, .ref m_units, .ref m_kind, .ref m_toX, .ref m_toY, .ref m_results, .ref m_known, .ref m_reached, .ref m_way, .ref m_aside, .ref m_origin, .ref m_retreats, .ref m_contested, .ref m_moved, .int msh, .ref m_past])), (m_sea, .inl (cZ, 12, .inl (fun j => bI (S j)))), (m_borders, .inl (cZ, 144, .inl (fun j => bI (Bo j)))), (m_units, .inl (cI, 12, .inl fu)), (m_kind, .inl (cI, 12, .inl (fun j => nI (Kd j)))), (m_toX, .inl (cI, 12, .inl (fun j => nI (X j)))), (m_toY, .inl (cI, 12, .inl (fun j => nI (Y j)))), (m_known, .inl (cI, 12, .inl (fun j => nI (K j)))), (m_reached, .inl (cZ, 12, .inl (fun j => bI (Rz j))))]) [0, 1, 2, 3, 4, 5, 6, 7, 8] rfl
              have hDc := hD.sub (ws' := [(g0, .inr (6, [.int co, .int (nI n), .ref m_sea, .ref m_center, .ref m_home, .ref m_borders, .int mp, .int mt, .ref m_owner, .ref m_units, .ref m_kind, .ref m_toX, .ref m_toY, .ref m_results, .ref m_known, .ref m_reached, .ref m_way, .ref m_aside, .ref m_origin, .ref m_retreats, .ref m_contested, .ref m_moved, .int msh, .ref m_past])), (m_sea, .inl (cZ, 12, .inl (fun j => bI (S j)))), (m_borders, .inl (cZ, 144, .inl (fun j => bI (Bo j)))), (m_units, .inl (cI, 12, .inl fu)), (m_kind, .inl (cI, 12, .inl (fun j => nI (Kd j)))), (m_toX, .inl (cI, 12, .inl (fun j => nI (X j)))), (m_toY, .inl (cI, 12, .inl (fun j => nI (Y j)))), (m_known, .inl (cI, 12, .inl (fun j => nI (K j)))), (m_reached, .inl (cZ, 12, .inl (fun j => bI (Rz j))))]) [0, 1, 2, 3, 4, 5, 6, 7, 8] (by decide) rfl
              have hFc := va_free (wc := [(g0, .inr (6, [.int co, .int (nI n), .ref m_sea, .ref m_center, .ref m_home, .ref m_borders, .int mp, .int mt, .ref m_owner, .ref m_units, .ref m_kind, .ref m_toX, .ref m_toY, .ref m_results, .ref m_known, .ref m_reached, .ref m_way, .ref m_aside, .ref m_origin, .ref m_retreats, .ref m_contested, .ref m_moved, .int msh, .ref m_past])), (m_sea, .inl (cZ, 12, .inl (fun j => bI (S j)))), (m_borders, .inl (cZ, 144, .inl (fun j => bI (Bo j)))), (m_units, .inl (cI, 12, .inl fu)), (m_kind, .inl (cI, 12, .inl (fun j => nI (Kd j)))), (m_toX, .inl (cI, 12, .inl (fun j => nI (X j)))), (m_toY, .inl (cI, 12, .inl (fun j => nI (Y j)))), (m_known, .inl (cI, 12, .inl (fun j => nI (K j)))), (m_reached, .inl (cZ, 12, .inl (fun j => bI (Rz j))))]) hD hS hA [0, 1, 2, 3, 4, 5, 6, 7, 8] rfl
              refine va_calli (va_runV (As := [.int (nI i), .int 0]) (rest := []) ⟨hx, hb, hml, hown, hts⟩ (c_Mo_prevention l D cI cZ cJ cS aT ceT H.size g0 m_sea m_center m_home m_borders m_owner m_units m_kind m_toX m_toY m_results m_known m_reached m_way m_aside m_origin m_retreats m_contested m_moved m_past n co mp mt msh S Bo fu Kd X Y K Rz i false hKd hX9 hY9 hK9 hlt12 hn) (cwV 2 hts (tb_4 wd_909 wd_911 wp_61 wd_8 (tb_c wd_912)) rfl rfl rfl ⟨rfl, by decide, by decide, by decide +kernel⟩ ⟨Nat.le_of_ble_eq_true rfl, Nat.le_of_ble_eq_true rfl⟩) (tH_V hK hX (hS.2.1 aT hXl hXn) hPc hDc (q := 0) rfl rfl) rfl rfl hl.1 rfl (lv_room (Nat.le_of_ble_eq_true rfl)) d_Mo_most_68 ⟨Nat.le_of_ble_eq_true rfl, Nat.le_of_ble_eq_true rfl⟩) hS (fun q _ h => hFc q h) hFc (fun r9 u t H1 locs ht hvm h9 hB hz1 hk1 hS => ?_)
              rw [h9]
              obtain ⟨Re2_68, hP1, hD1⟩ := hB
              rw [ht] at hP1
              obtain ⟨hP, hD⟩ := va_join (wr := []) (w1 := [(g0, .inr (6, [.int co, .int (nI n), .ref m_sea, .ref m_center, .ref m_home, .ref m_borders, .int mp, .int mt, .ref m_owner, .ref m_units, .ref m_kind, .ref m_toX, .ref m_toY, .ref m_results, .ref m_known, .ref m_reached, .ref m_way, .ref m_aside, .ref m_origin, .ref m_retreats, .ref m_contested, .ref m_moved, .int msh, .ref m_past])), (m_sea, .inl (cZ, 12, .inl (fun j => bI (S j)))), (m_borders, .inl (cZ, 144, .inl (fun j => bI (Bo j)))), (m_units, .inl (cI, 12, .inl fu)), (m_kind, .inl (cI, 12, .inl (fun j => nI (Kd j)))), (m_toX, .inl (cI, 12, .inl (fun j => nI (X j)))), (m_toY, .inl (cI, 12, .inl (fun j => nI (Y j)))), (m_known, .inl (cI, 12, .inl (fun j => nI (K j)))), (m_reached, .inl (cZ, 12, .inl (fun j => bI (Re2_68 j))))]) hP hD [0, 1, 2, 3, 4, 5, 6, 7, 8] [] rfl rfl (by decide) (by decide) hk1 hFc hP1 hD1
              generalize H1 = H at hP hS ⊢
              have hP : va_P D vwCl [(g0, .inr (6, [.int co, .int (nI n), .ref m_sea, .ref m_center, .ref m_home, .ref m_borders, .int mp, .int mt, .ref m_owner, .ref m_units, .ref m_kind, .ref m_toX, .ref m_toY, .ref m_results, .ref m_known, .ref m_reached, .ref m_way, .ref m_aside, .ref m_origin, .ref m_retreats, .ref m_contested, .ref m_moved, .int msh, .ref m_past])), (m_sea, .inl (cZ, 12, .inl (fun j => bI (S j)))), (m_borders, .inl (cZ, 144, .inl (fun j => bI (Bo j)))), (m_units, .inl (cI, 12, .inl fu)), (m_kind, .inl (cI, 12, .inl (fun j => nI (Kd j)))), (m_toX, .inl (cI, 12, .inl (fun j => nI (X j)))), (m_toY, .inl (cI, 12, .inl (fun j => nI (Y j)))), (m_known, .inl (cI, 12, .inl (fun j => nI (K j)))), (m_reached, .inl (cZ, 12, .inl (fun j => bI (Re2_68 j))))] H := hP
              have hD : va_D A [(g0, .inr (6, [.int co, .int (nI n), .ref m_sea, .ref m_center, .ref m_home, .ref m_borders, .int mp, .int mt, .ref m_owner, .ref m_units, .ref m_kind, .ref m_toX, .ref m_toY, .ref m_results, .ref m_known, .ref m_reached, .ref m_way, .ref m_aside, .ref m_origin, .ref m_retreats, .ref m_contested, .ref m_moved, .int msh, .ref m_past])), (m_sea, .inl (cZ, 12, .inl (fun j => bI (S j)))), (m_borders, .inl (cZ, 144, .inl (fun j => bI (Bo j)))), (m_units, .inl (cI, 12, .inl fu)), (m_kind, .inl (cI, 12, .inl (fun j => nI (Kd j)))), (m_toX, .inl (cI, 12, .inl (fun j => nI (X j)))), (m_toY, .inl (cI, 12, .inl (fun j => nI (Y j)))), (m_known, .inl (cI, 12, .inl (fun j => nI (K j)))), (m_reached, .inl (cZ, 12, .inl (fun j => bI (Re2_68 j))))] := hD
              refine lv_istore (lv' := [(6, .int (nI (prv fu Kd X Y K S Bo n i false))), (5, .int (nI i)), (4, .int (nI (mstF fu Kd X Y K S Bo n (hdg fu Kd X Y K n (X a) false) a false i))), (3, .int (nI (X a))), (0, .ref g0), (1, .int (nI a)), (2, .int 0)]) hx hb d_Mo_most_71 hl (by decide) rfl (fun ls hl => ?_)
              refine lv_iload hx hb d_Mo_most_73 (lv_at hl 0 rfl) ?_
              refine lv_iload hx hb d_Mo_most_75 (lv_at hl 2 rfl) ?_
              refine lv_icmp_le (tgt := 85) hx hb d_Mo_most_77 (by decide) (fun hc75 => ?_) (fun hc75 => ?_)
              · -- 77 taken
                have hc75 : prv fu Kd X Y K S Bo n i false ≤ mstF fu Kd X Y K S Bo n (hdg fu Kd X Y K n (X a) false) a false i := (nI_leI (Nat.lt_trans (prv_lt hn) (by decide)) (Nat.lt_trans (mstF_lt hn hz9 _) (by decide))).mp hc75
                refine lv_iload hx hb d_Mo_most_85 (lv_at hl 2 rfl) ?_
                refine lv_istore (lv' := [(4, .int (nI (mstF fu Kd X Y K S Bo n (hdg fu Kd X Y K n (X a) false) a false i))), (6, .int (nI (prv fu Kd X Y K S Bo n i false))), (5, .int (nI i)), (3, .int (nI (X a))), (0, .ref g0), (1, .int (nI a)), (2, .int 0)]) hx hb d_Mo_most_87 hl (by decide) rfl (fun ls hl => ?_)
                refine lv_iinc (lv' := [(5, .int ((nI i) + 1)), (4, .int (nI (mstF fu Kd X Y K S Bo n (hdg fu Kd X Y K n (X a) false) a false i))), (6, .int (nI (prv fu Kd X Y K S Bo n i false))), (3, .int (nI (X a))), (0, .ref g0), (1, .int (nI a)), (2, .int 0)]) hx hb d_Mo_most_89 hl (k := 2) rfl rfl (by decide) rfl (fun ls hl => ?_)
                refine lv_goto (tgt := 36) hx hb d_Mo_most_92 (by decide) ?_
                have e76 : (nI i) + 1 = nI (i + 1) := nI_1 i
                have e77 : nI (mstF fu Kd X Y K S Bo n (hdg fu Kd X Y K n (X a) false) a false i) = nI (mstF fu Kd X Y K S Bo n (hdg fu Kd X Y K n (X a) false) a false (i + 1)) := congrArg nI (show mstF fu Kd X Y K S Bo n (hdg fu Kd X Y K n (X a) false) a false i = mstF fu Kd X Y K S Bo n (hdg fu Kd X Y K n (X a) false) a false (i + 1) by rw [mstF]; simp [hb44, hc68, hb73, hc75] <;> omega)
                exact ih (i + 1) Re2_68 ls H locs (by omega) (by rw [← e76, ← e77]; exact lv_sub hl [0, 1, 3, 4, 5, 6] rfl) hP hD hS
              · -- 77 not taken
                have hc75 : mstF fu Kd X Y K S Bo n (hdg fu Kd X Y K n (X a) false) a false i < prv fu Kd X Y K S Bo n i false := Nat.lt_of_not_le (fun h9 => hc75 ((nI_leI (Nat.lt_trans (prv_lt hn) (by decide)) (Nat.lt_trans (mstF_lt hn hz9 _) (by decide))).mpr h9))
                refine lv_iload hx hb d_Mo_most_80 (lv_at hl 0 rfl) ?_
                refine lv_goto (tgt := 87) hx hb d_Mo_most_82 (by decide) ?_
                refine lv_istore (lv' := [(4, .int (nI (prv fu Kd X Y K S Bo n i false))), (6, .int (nI (prv fu Kd X Y K S Bo n i false))), (5, .int (nI i)), (3, .int (nI (X a))), (0, .ref g0), (1, .int (nI a)), (2, .int 0)]) hx hb d_Mo_most_87 hl (by decide) rfl (fun ls hl => ?_)
                refine lv_iinc (lv' := [(5, .int ((nI i) + 1)), (4, .int (nI (prv fu Kd X Y K S Bo n i false))), (6, .int (nI (prv fu Kd X Y K S Bo n i false))), (3, .int (nI (X a))), (0, .ref g0), (1, .int (nI a)), (2, .int 0)]) hx hb d_Mo_most_89 hl (k := 2) rfl rfl (by decide) rfl (fun ls hl => ?_)
                refine lv_goto (tgt := 36) hx hb d_Mo_most_92 (by decide) ?_
                have e78 : (nI i) + 1 = nI (i + 1) := nI_1 i
                have e79 : nI (prv fu Kd X Y K S Bo n i false) = nI (mstF fu Kd X Y K S Bo n (hdg fu Kd X Y K n (X a) false) a false (i + 1)) := congrArg nI (show prv fu Kd X Y K S Bo n i false = mstF fu Kd X Y K S Bo n (hdg fu Kd X Y K n (X a) false) a false (i + 1) by rw [mstF]; simp [hb44, hc68, hb73, hc75] <;> omega)
                exact ih (i + 1) Re2_68 ls H locs (by omega) (by rw [← e78, ← e79]; exact lv_sub hl [0, 1, 3, 4, 5, 6] rfl) hP hD hS
            · refine tr_top e9 ?_
              refine lv_if_ne (tgt := 64) hx hb d_Mo_most_58 (by decide) (fun h0 => absurd (by decide) h0) (fun _ => ?_)
              refine lv_goto (tgt := 89) hx hb d_Mo_most_61 (by decide) ?_
              refine lv_iinc (lv' := [(5, .int ((nI i) + 1)), (4, .int (nI (mstF fu Kd X Y K S Bo n (hdg fu Kd X Y K n (X a) false) a false i))), (3, .int (nI (X a))), (0, .ref g0), (1, .int (nI a)), (2, .int 0)]) hx hb d_Mo_most_89 hl (k := 0) rfl rfl (by decide) rfl (fun ls hl => ?_)
              refine lv_goto (tgt := 36) hx hb d_Mo_most_92 (by decide) ?_
              have e81 : (nI i) + 1 = nI (i + 1) := nI_1 i
              have e82 : nI (mstF fu Kd X Y K S Bo n (hdg fu Kd X Y K n (X a) false) a false i) = nI (mstF fu Kd X Y K S Bo n (hdg fu Kd X Y K n (X a) false) a false (i + 1)) := congrArg nI (show mstF fu Kd X Y K S Bo n (hdg fu Kd X Y K n (X a) false) a false i = mstF fu Kd X Y K S Bo n (hdg fu Kd X Y K n (X a) false) a false (i + 1) by rw [mstF]; simp [hb44, hc68, hb73] <;> omega)
              exact ih (i + 1) Rz ls H locs (by omega) (by rw [← e81, ← e82]; exact lv_sub hl [0, 1, 2, 3, 4, 5] rfl) hP hD hS
      exact loop n 0 Re ls _ _ (Nat.zero_add _) hl hP hD hS
