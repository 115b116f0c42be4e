theorem upN_s (f : Nat → Nat) (k x : Nat) : upN f k x k = x := by simp [upN]
theorem upN_n (f : Nat → Nat) {k j : Nat} (x : Nat) (h : ¬ j = k) : upN f k x j = f j := by simp [upN, h]
theorem upN_lt {f : Nat → Nat} {k x b : Nat} (h : ∀ j, f j < b) (hx : x < b) : ∀ j, upN f k x j < b := fun j => by
  unfold upN
  split
  · exact hx
  · exact h j
theorem jmv_lt (fu : Nat → Int32) (Kd X Y K : Nat → Nat) (S Bo : Nat → Bool) (n : Nat) (a : Nat) : jmv fu Kd X Y K S Bo n a < 3 := by
  unfold jmv
  split
  · decide
  · split <;> decide
theorem jsp_lt (fu : Nat → Int32) (Kd X Y K : Nat → Nat) (S Bo : Nat → Bool) (n : Nat) (a : Nat) : jsp fu Kd X Y K S Bo n a < 3 := by
  unfold jsp
  split
  · decide
  · split <;> decide
def isO (fu : Nat → Int32) (Kd K : Nat → Nat) (a : Nat) : Bool := (mvs fu Kd a || spt fu Kd a) && decide (K a = 0)
noncomputable def jdg (fu : Nat → Int32) (Kd X Y K : Nat → Nat) (S Bo : Nat → Bool) (n : Nat) (a : Nat) : Nat := if mvs fu Kd a = true then jmv fu Kd X Y K S Bo n a else jsp fu Kd X Y K S Bo n a
theorem jdg_lt (fu : Nat → Int32) (Kd X Y K : Nat → Nat) (S Bo : Nat → Bool) (n : Nat) (a : Nat) : jdg fu Kd X Y K S Bo n a < 3 := by
  unfold jdg
  split
  · exact jmv_lt ..
  · exact jsp_lt ..
/-- one order is judged; one pass over the orders; whether it settled one -/
noncomputable def stK (fu : Nat → Int32) (Kd X Y K : Nat → Nat) (S Bo : Nat → Bool) (n : Nat) (a : Nat) : Nat → Nat := if isO fu Kd K a = true then upN K a (jdg fu Kd X Y K S Bo n a) else K
noncomputable def psK (fu : Nat → Int32) (Kd X Y K : Nat → Nat) (S Bo : Nat → Bool) (n : Nat) : Nat → Nat → Nat
  | 0 => K
  | i + 1 => stK fu Kd X Y (psK fu Kd X Y K S Bo n i) S Bo n i
noncomputable def moK (fu : Nat → Int32) (Kd X Y K : Nat → Nat) (S Bo : Nat → Bool) (n : Nat) : Nat → Bool
  | 0 => false
  | i + 1 => moK fu Kd X Y K S Bo n i || (isO fu Kd (psK fu Kd X Y K S Bo n i) i && !decide (jdg fu Kd X Y (psK fu Kd X Y K S Bo n i) S Bo n i = 0))
noncomputable def stl (fu : Nat → Int32) (Kd X Y : Nat → Nat) (S Bo : Nat → Bool) (n : Nat) : Nat → (Nat → Nat) → Nat → Nat
  | 0, K => K
  | f + 1, K => if moK fu Kd X Y K S Bo n n = true then stl fu Kd X Y S Bo n f (psK fu Kd X Y K S Bo n n) else psK fu Kd X Y K S Bo n n
theorem stK_keep (fu : Nat → Int32) (Kd X Y K : Nat → Nat) (S Bo : Nat → Bool) (n : Nat) (a b : Nat) (h : ¬ K b = 0) : stK fu Kd X Y K S Bo n a b = K b := by
  unfold stK
  split
  · rename_i ho
    by_cases hb : b = a
    · subst hb
      simp [isO, h] at ho
    · exact upN_n _ _ hb
  · rfl
theorem psK_keep (fu : Nat → Int32) (Kd X Y K : Nat → Nat) (S Bo : Nat → Bool) (n : Nat) (b : Nat) : ∀ i k, ¬ psK fu Kd X Y K S Bo n i b = 0 → psK fu Kd X Y K S Bo n (i + k) b = psK fu Kd X Y K S Bo n i b
  | i, 0, _ => rfl
  | i, k + 1, h => by
    have h1 := psK_keep fu Kd X Y K S Bo n b i k h
    show stK fu Kd X Y (psK fu Kd X Y K S Bo n (i + k)) S Bo n (i + k) b = _
    rw [stK_keep _ _ _ _ _ _ _ _ _ _ (by rw [h1]; exact h), h1]
theorem moK_at (fu : Nat → Int32) (Kd X Y K : Nat → Nat) (S Bo : Nat → Bool) (n : Nat) : ∀ i, moK fu Kd X Y K S Bo n i = true → ∃ a, a < i ∧ isO fu Kd (psK fu Kd X Y K S Bo n a) a = true ∧ ¬ jdg fu Kd X Y (psK fu Kd X Y K S Bo n a) S Bo n a = 0
  | 0, h => by cases h
  | i + 1, h => by
    rw [moK, Bool.or_eq_true] at h
    rcases h with h | h
    · obtain ⟨a, h1, h2⟩ := moK_at fu Kd X Y K S Bo n i h
      exact ⟨a, by omega, h2⟩
    · simp at h
      exact ⟨i, by omega, h.1, h.2⟩
theorem opn_lt (fu : Nat → Int32) (Kd X Y K : Nat → Nat) (S Bo : Nat → Bool) (n : Nat) (h : moK fu Kd X Y K S Bo n n = true) : numB (isO fu Kd (psK fu Kd X Y K S Bo n n)) n < numB (isO fu Kd K) n := by
  obtain ⟨a, ha, ho, hj⟩ := moK_at fu Kd X Y K S Bo n n h
  have key : ∀ i b, ¬ K b = 0 → psK fu Kd X Y K S Bo n i b = K b := fun i b hb => by
    have h1 := psK_keep fu Kd X Y K S Bo n b 0 i hb
    rw [Nat.zero_add] at h1
    exact h1
  have hback : ∀ i b, psK fu Kd X Y K S Bo n i b = 0 → K b = 0 := fun i b hb => by
    by_cases h0 : K b = 0
    · exact h0
    · rw [key i b h0] at hb; exact absurd hb h0
  refine numB_lt (c := a) (fun b hb => ?_) ?_ ?_ n ha
  · simp [isO] at hb ⊢
    exact ⟨hb.1, hback n b hb.2⟩
  · simp [isO] at ho ⊢
    exact ⟨ho.1, hback a a ho.2⟩
  · have h1 : psK fu Kd X Y K S Bo n (a + 1) a = jdg fu Kd X Y (psK fu Kd X Y K S Bo n a) S Bo n a := by
      show stK fu Kd X Y (psK fu Kd X Y K S Bo n a) S Bo n a a = _
      rw [stK, if_pos ho, upN_s]
    have h2 := psK_keep fu Kd X Y K S Bo n a (a + 1) (n - (a + 1)) (by rw [h1]; exact hj)
    rw [show a + 1 + (n - (a + 1)) = n by omega] at h2
    simp [isO, h2, h1, hj]

theorem d_Mo_settle_0 : decode b_Mo_settle 0 = .ok (.iconst 1, 1) := by decide +kernel
theorem d_Mo_settle_1 : decode b_Mo_settle 1 = .ok (.istore_n 1, 1) := by decide +kernel
theorem d_Mo_settle_2 : decode b_Mo_settle 2 = .ok (.iload_n 1, 1) := by decide +kernel
theorem d_Mo_settle_3 : decode b_Mo_settle 3 = .ok (.ifCond .eq 81, 3) := by decide +kernel
theorem d_Mo_settle_6 : decode b_Mo_settle 6 = .ok (.iconst 0, 1) := by decide +kernel
theorem d_Mo_settle_7 : decode b_Mo_settle 7 = .ok (.istore_n 1, 1) := by decide +kernel
theorem d_Mo_settle_8 : decode b_Mo_settle 8 = .ok (.iconst 0, 1) := by decide +kernel
theorem d_Mo_settle_9 : decode b_Mo_settle 9 = .ok (.istore_n 2, 1) := by decide +kernel
theorem d_Mo_settle_10 : decode b_Mo_settle 10 = .ok (.iload_n 2, 1) := by decide +kernel
theorem d_Mo_settle_11 : decode b_Mo_settle 11 = .ok (.aload_n 0, 1) := by decide +kernel
theorem d_Mo_settle_12 : decode b_Mo_settle 12 = .ok (.getfield 72, 3) := by decide +kernel
theorem d_Mo_settle_15 : decode b_Mo_settle 15 = .ok (.if_icmp .ge 66, 3) := by decide +kernel
theorem d_Mo_settle_18 : decode b_Mo_settle 18 = .ok (.aload_n 0, 1) := by decide +kernel
theorem d_Mo_settle_19 : decode b_Mo_settle 19 = .ok (.iload_n 2, 1) := by decide +kernel
theorem d_Mo_settle_20 : decode b_Mo_settle 20 = .ok (.invokevirtual 158, 3) := by decide +kernel
theorem d_Mo_settle_23 : decode b_Mo_settle 23 = .ok (.ifCond .ne 6, 3) := by decide +kernel
theorem d_Mo_settle_26 : decode b_Mo_settle 26 = .ok (.goto 49, 3) := by decide +kernel
theorem d_Mo_settle_29 : decode b_Mo_settle 29 = .ok (.aload_n 0, 1) := by decide +kernel
theorem d_Mo_settle_30 : decode b_Mo_settle 30 = .ok (.getfield 41, 3) := by decide +kernel
theorem d_Mo_settle_33 : decode b_Mo_settle 33 = .ok (.iload_n 2, 1) := by decide +kernel
theorem d_Mo_settle_34 : decode b_Mo_settle 34 = .ok (.aload_n 0, 1) := by decide +kernel
theorem d_Mo_settle_35 : decode b_Mo_settle 35 = .ok (.iload_n 2, 1) := by decide +kernel
theorem d_Mo_settle_36 : decode b_Mo_settle 36 = .ok (.invokevirtual 109, 3) := by decide +kernel
theorem d_Mo_settle_39 : decode b_Mo_settle 39 = .ok (.ifCond .eq 11, 3) := by decide +kernel
theorem d_Mo_settle_42 : decode b_Mo_settle 42 = .ok (.aload_n 0, 1) := by decide +kernel
theorem d_Mo_settle_43 : decode b_Mo_settle 43 = .ok (.iload_n 2, 1) := by decide +kernel
theorem d_Mo_settle_44 : decode b_Mo_settle 44 = .ok (.invokevirtual 161, 3) := by decide +kernel
theorem d_Mo_settle_47 : decode b_Mo_settle 47 = .ok (.goto 8, 3) := by decide +kernel
theorem d_Mo_settle_50 : decode b_Mo_settle 50 = .ok (.aload_n 0, 1) := by decide +kernel
theorem d_Mo_settle_51 : decode b_Mo_settle 51 = .ok (.iload_n 2, 1) := by decide +kernel
theorem d_Mo_settle_52 : decode b_Mo_settle 52 = .ok (.invokevirtual 164, 3) := by decide +kernel
theorem d_Mo_settle_55 : decode b_Mo_settle 55 = .ok (.iastore, 1) := by decide +kernel
theorem d_Mo_settle_56 : decode b_Mo_settle 56 = .ok (.iload_n 1, 1) := by decide +kernel
theorem d_Mo_settle_57 : decode b_Mo_settle 57 = .ok (.ifCond .ne 12, 3) := by decide +kernel
theorem d_Mo_settle_60 : decode b_Mo_settle 60 = .ok (.aload_n 0, 1) := by decide +kernel
theorem d_Mo_settle_61 : decode b_Mo_settle 61 = .ok (.getfield 41, 3) := by decide +kernel
theorem d_Mo_settle_64 : decode b_Mo_settle 64 = .ok (.iload_n 2, 1) := by decide +kernel
theorem d_Mo_settle_65 : decode b_Mo_settle 65 = .ok (.iaload, 1) := by decide +kernel
theorem d_Mo_settle_66 : decode b_Mo_settle 66 = .ok (.ifCond .eq 7, 3) := by decide +kernel
theorem d_Mo_settle_69 : decode b_Mo_settle 69 = .ok (.iconst 1, 1) := by decide +kernel
theorem d_Mo_settle_70 : decode b_Mo_settle 70 = .ok (.goto 4, 3) := by decide +kernel
theorem d_Mo_settle_73 : decode b_Mo_settle 73 = .ok (.iconst 0, 1) := by decide +kernel
theorem d_Mo_settle_74 : decode b_Mo_settle 74 = .ok (.istore_n 1, 1) := by decide +kernel
theorem d_Mo_settle_75 : decode b_Mo_settle 75 = .ok (.iinc 2 1, 3) := by decide +kernel
theorem d_Mo_settle_78 : decode b_Mo_settle 78 = .ok (.goto (-68), 3) := by decide +kernel
theorem d_Mo_settle_81 : decode b_Mo_settle 81 = .ok (.goto (-79), 3) := by decide +kernel
theorem d_Mo_settle_84 : decode b_Mo_settle 84 = .ok (.return_, 1) := by decide +kernel
theorem wd_868 : (Cond.code ({ cls := "SheetWarModel", name := "isOpen", desc := "(I)Z" } : MethodName) prog_8_method_33_code (2 : Nat) (Option.some FieldType.boolean)) ∈ TB := tb_t 868 (by decide +kernel) (by decide +kernel)
theorem wd_865 : (Cond.methodLink "SheetWarModel" (158 : Nat) ({ cls := "SheetWarModel", name := "isOpen", desc := "(I)Z" } : MethodName)) ∈ TB := tb_t 865 (by decide +kernel) (by decide +kernel)
theorem wd_867 : (Cond.instanceMethod ({ cls := "SheetWarModel", name := "isOpen", desc := "(I)Z" } : MethodName)) ∈ TB := tb_t 867 (by decide +kernel) (by decide +kernel)
theorem wd_872 : (Cond.code ({ cls := "SheetWarModel", name := "judgeMove", desc := "(I)I" } : MethodName) prog_8_method_31_code (2 : Nat) (Option.some FieldType.int)) ∈ TB := tb_t 872 (by decide +kernel) (by decide +kernel)
theorem wd_869 : (Cond.methodLink "SheetWarModel" (161 : Nat) ({ cls := "SheetWarModel", name := "judgeMove", desc := "(I)I" } : MethodName)) ∈ TB := tb_t 869 (by decide +kernel) (by decide +kernel)
theorem wd_871 : (Cond.instanceMethod ({ cls := "SheetWarModel", name := "judgeMove", desc := "(I)I" } : MethodName)) ∈ TB := tb_t 871 (by decide +kernel) (by decide +kernel)
theorem wd_916 : (Cond.code ({ cls := "SheetWarModel", name := "judgeSupport", desc := "(I)I" } : MethodName) prog_8_method_32_code (6 : Nat) (Option.some FieldType.int)) ∈ TB := tb_t 916 (by decide +kernel) (by decide +kernel)
theorem wd_913 : (Cond.methodLink "SheetWarModel" (164 : Nat) ({ cls := "SheetWarModel", name := "judgeSupport", desc := "(I)I" } : MethodName)) ∈ TB := tb_t 913 (by decide +kernel) (by decide +kernel)
theorem wd_915 : (Cond.instanceMethod ({ cls := "SheetWarModel", name := "judgeSupport", desc := "(I)I" } : MethodName)) ∈ TB := tb_t 915 (by decide +kernel) (by decide +kernel)
theorem wp_50 : Cond.selects "SheetWarModel" ⟨"SheetWarModel", "isOpen", "(I)Z"⟩ ⟨"SheetWarModel", "isOpen", "(I)Z"⟩ ∈ TB := tb_p 50 (by decide +kernel) (by decide +kernel)
theorem wp_51 : Cond.selects "SheetWarModel" ⟨"SheetWarModel", "judgeMove", "(I)I"⟩ ⟨"SheetWarModel", "judgeMove", "(I)I"⟩ ∈ TB := tb_p 51 (by decide +kernel) (by decide +kernel)
theorem wp_62 : Cond.selects "SheetWarModel" ⟨"SheetWarModel", "judgeSupport", "(I)I"⟩ ⟨"SheetWarModel", "judgeSupport", "(I)I"⟩ ∈ TB := tb_p 62 (by decide +kernel) (by decide +kernel)
set_option maxHeartbeats 4000000 in
set_option maxRecDepth 100000 in
theorem c_Mo_settle (l : Launch) (D : va_G) (cI cZ cJ cS : ClassId) (aT : Nat) (ceT : Cell) (sz : Nat) (g0 m_sea m_center m_home m_borders m_owner m_units m_kind m_toX m_toY m_results m_known m_reached m_way m_aside m_origin m_retreats m_contested m_moved m_past : Nat) (n : Nat) (co mp mt msh : Int32) (S : Nat → Bool) (Bo : Nat → Bool) (fu : Nat → Int32) (Kd : Nat → Nat) (X : Nat → Nat) (Y : Nat → Nat) (K : Nat → Nat) (Re : Nat → Bool) (hKd : ∀ j, Kd j < 4) (hX9 : ∀ j, X j < 12) (hY9 : ∀ j, Y j < 12) (hK9 : ∀ j, K j < 3) (hn : n ≤ 12) : Met l y_Mo_settle w_Mo_settle ({ frames := 8, cells := 0, slots := 0, locals := 187 }) (tH D cI cZ cJ cS aT ceT [.ref g0] sz [(g0, .inr (6, [.int co, .int (nI n), .ref m_sea, .ref m_center, .ref m_home, .ref m_borders, .int mp, .int mt, .ref m_owner, .ref m_units, .ref m_kind, .ref m_toX, .ref m_toY, .ref m_results, .ref m_known, .ref m_reached, .ref m_way, .ref m_aside, .ref m_origin, .ref m_retreats, .ref m_contested, .ref m_moved, .int msh, .ref m_past])), (m_sea, .inl (cZ, 12, .inl (fun j => bI (S j)))), (m_borders, .inl (cZ, 144, .inl (fun j => bI (Bo j)))), (m_units, .inl (cI, 12, .inl fu)), (m_kind, .inl (cI, 12, .inl (fun j => nI (Kd j)))), (m_toX, .inl (cI, 12, .inl (fun j => nI (X j)))), (m_toY, .inl (cI, 12, .inl (fun j => nI (Y j)))), (m_known, .inl (cI, 12, .inl (fun j => nI (K j)))), (m_reached, .inl (cZ, 12, .inl (fun j => bI (Re j))))]) (va_Qv (fun _ : Unit => True) (fun _ t => ∃ (Re2 : Nat → Bool), tB D (va_A [(g0, .inr (6, [.int co, .int (nI n), .ref m_sea, .ref m_center, .ref m_home, .ref m_borders, .int mp, .int mt, .ref m_owner, .ref m_units, .ref m_kind, .ref m_toX, .ref m_toY, .ref m_results, .ref m_known, .ref m_reached, .ref m_way, .ref m_aside, .ref m_origin, .ref m_retreats, .ref m_contested, .ref m_moved, .int msh, .ref m_past])), (m_sea, .inl (cZ, 12, .inl (fun j => bI (S j)))), (m_borders, .inl (cZ, 144, .inl (fun j => bI (Bo j)))), (m_units, .inl (cI, 12, .inl fu)), (m_kind, .inl (cI, 12, .inl (fun j => nI (Kd j)))), (m_toX, .inl (cI, 12, .inl (fun j => nI (X j)))), (m_toY, .inl (cI, 12, .inl (fun j => nI (Y j)))), (m_known, .inl (cI, 12, .inl (fun j => nI (K j)))), (m_reached, .inl (cZ, 12, .inl (fun j => bI (Re j))))] sz) [(g0, .inr (6, [.int co, .int (nI n), .ref m_sea, .ref m_center, .ref m_home, .ref m_borders, .int mp, .int mt, .ref m_owner, .ref m_units, .ref m_kind, .ref m_toX, .ref m_toY, .ref m_results, .ref m_known, .ref m_reached, .ref m_way, .ref m_aside, .ref m_origin, .ref m_retreats, .ref m_contested, .ref m_moved, .int msh, .ref m_past])), (m_sea, .inl (cZ, 12, .inl (fun j => bI (S j)))), (m_borders, .inl (cZ, 144, .inl (fun j => bI (Bo j)))), (m_units, .inl (cI, 12, .inl fu)), (m_kind, .inl (cI, 12, .inl (fun j => nI (Kd j)))), (m_toX, .inl (cI, 12, .inl (fun j => nI (X j)))), (m_toY, .inl (cI, 12, .inl (fun j => nI (Y j)))), (m_known, .inl (cI, 12, .inl (fun j => nI (stl fu Kd X Y S Bo n 13 K j)))), (m_reached, .inl (cZ, 12, .inl (fun j => bI (Re2 j))))] t) (va_A [(g0, .inr (6, [.int co, .int (nI n), .ref m_sea, .ref m_center, .ref m_home, .ref m_borders, .int mp, .int mt, .ref m_owner, .ref m_units, .ref m_kind, .ref m_toX, .ref m_toY, .ref m_results, .ref m_known, .ref m_reached, .ref m_way, .ref m_aside, .ref m_origin, .ref m_retreats, .ref m_contested, .ref m_moved, .int msh, .ref m_past])), (m_sea, .inl (cZ, 12, .inl (fun j => bI (S j)))), (m_borders, .inl (cZ, 144, .inl (fun j => bI (Bo j)))), (m_units, .inl (cI, 12, .inl fu)), (m_kind, .inl (cI, 12, .inl (fun j => nI (Kd j)))), (m_toX, .inl (cI, 12, .inl (fun j => nI (X j)))), (m_toY, .inl (cI, 12, .inl (fun j => nI (Y j)))), (m_known, .inl (cI, 12, .inl (fun j => nI (K j)))), (m_reached, .inl (cZ, 12, .inl (fun j => bI (Re j))))] sz)) 0 0 (va_A [(g0, .inr (6, [.int co, .int (nI n), .ref m_sea, .ref m_center, .ref m_home, .ref m_borders, .int mp, .int mt, .ref m_owner, .ref m_units, .ref m_kind, .ref m_toX, .ref m_toY, .ref m_results, .ref m_known, .ref m_reached, .ref m_way, .ref m_aside, .ref m_origin, .ref m_retreats, .ref m_contested, .ref m_moved, .int msh, .ref m_past])), (m_sea, .inl (cZ, 12, .inl (fun j => bI (S j)))), (m_borders, .inl (cZ, 144, .inl (fun j => bI (Bo j)))), (m_units, .inl (cI, 12, .inl fu)), (m_kind, .inl (cI, 12, .inl (fun j => nI (Kd j)))), (m_toX, .inl (cI, 12, .inl (fun j => nI (X j)))), (m_toY, .inl (cI, 12, .inl (fun j => nI (Y j)))), (m_known, .inl (cI, 12, .inl (fun j => nI (K j)))), (m_reached, .inl (cZ, 12, .inl (fun j => bI (Re j))))] sz) := by
  refine Met.ofW (cc := b_Mo_settle) (maxL := 3) (ret := none) (by decide) rfl ?_
  intro p e s m args below meth c s₁ B hml hv
  obtain ⟨rfl, hsz, hP, hK, hD0, hX⟩ := hv
  have hx := B.exec
  have hb := B.bytes
  have hr := B.returns
  have hts0 := atoms_spec (ws := w_Mo_settle) B.pre
  have hts : ∀ w ∈ TB, w.before _ s = true := fun w h => hts0 w (List.mem_cons_of_mem _ h)
  have hown : s.vm.findClass R_Mo = some m.cls := findClass_of_methodNamed B.named
  have hlocks := B.notSynchronized
  subst hsz
  have hXl := tx_lt hX
  have hXn := tx_far hP hX
  have hD := hD0.self (sz := s.heap.size)
  generalize hAe : va_A [(g0, .inr (6, [.int co, .int (nI n), .ref m_sea, .ref m_center, .ref m_home, .ref m_borders, .int mp, .int mt, .ref m_owner, .ref m_units, .ref m_kind, .ref m_toX, .ref m_toY, .ref m_results, .ref m_known, .ref m_reached, .ref m_way, .ref m_aside, .ref m_origin, .ref m_retreats, .ref m_contested, .ref m_moved, .int msh, .ref m_past])), (m_sea, .inl (cZ, 12, .inl (fun j => bI (S j)))), (m_borders, .inl (cZ, 144, .inl (fun j => bI (Bo j)))), (m_units, .inl (cI, 12, .inl fu)), (m_kind, .inl (cI, 12, .inl (fun j => nI (Kd j)))), (m_toX, .inl (cI, 12, .inl (fun j => nI (X j)))), (m_toY, .inl (cI, 12, .inl (fun j => nI (Y j)))), (m_known, .inl (cI, 12, .inl (fun j => nI (K j)))), (m_reached, .inl (cZ, 12, .inl (fun j => bI (Re j))))] s.heap.size = A at hD hXn ⊢
  have hA : ∀ q : Nat, s.heap.size ≤ q → A q := fun q h => by rw [← hAe]; exact Or.inr h
  have hS : va_S A s.heap s.heap [] := va_S.rf
  have hXH : s.heap[aT]? = s.heap[aT]? := rfl
  have hl := lv_entry ([.ref g0]) (n := 3) (Nat.le_of_ble_eq_true rfl)
  rw [lg_entry_eq]
  generalize (lg_sl ([.ref g0]) ++ List.replicate (3 - (lg_sl ([.ref g0])).length) Slot.unset).toArray = ls at hl ⊢
  have hl : lv_has ls 3 [(0, .ref g0)] := hl
  refine lv_iconst (v := 1) hx hb d_Mo_settle_0 (by decide) ?_
  refine lv_istore_n (lv' := [(1, .int 1), (0, .ref g0)]) hx hb d_Mo_settle_1 rfl hl (by decide) rfl (fun ls hl => ?_)
  have wh : ∀ (f : Nat) (Kx : Nat → Nat) (Rx : Nat → Bool) (ls : Array Slot) (H : Heap) (locs : List Loc), numB (isO fu Kd Kx) n < f → stl fu Kd X Y S Bo n 13 K = stl fu Kd X Y S Bo n f Kx → (∀ j, Kx j < 3) → lv_has ls 3 [(1, .int 1), (0, .ref g0)] → va_P D vwCl [(g0, .inr (6, [.int co, .int (nI n), .ref m_sea, .ref m_center, .ref m_home, .ref m_borders, .int mp, .int mt, .ref m_owner, .ref m_units, .ref m_kind, .ref m_toX, .ref m_toY, .ref m_results, .ref m_known, .ref m_reached, .ref m_way, .ref m_aside, .ref m_origin, .ref m_retreats, .ref m_contested, .ref m_moved, .int msh, .ref m_past])), (m_sea, .inl (cZ, 12, .inl (fun j => bI (S j)))), (m_borders, .inl (cZ, 144, .inl (fun j => bI (Bo j)))), (m_units, .inl (cI, 12, .inl fu)), (m_kind, .inl (cI, 12, .inl (fun j => nI (Kd j)))), (m_toX, .inl (cI, 12, .inl (fun j => nI (X j)))), (m_toY, .inl (cI, 12, .inl (fun j => nI (Y j)))), (m_known, .inl (cI, 12, .inl (fun j => nI (Kx j)))), (m_reached, .inl (cZ, 12, .inl (fun j => bI (Rx j))))] H → va_D A [(g0, .inr (6, [.int co, .int (nI n), .ref m_sea, .ref m_center, .ref m_home, .ref m_borders, .int mp, .int mt, .ref m_owner, .ref m_units, .ref m_kind, .ref m_toX, .ref m_toY, .ref m_results, .ref m_known, .ref m_reached, .ref m_way, .ref m_aside, .ref m_origin, .ref m_retreats, .ref m_contested, .ref m_moved, .int msh, .ref m_past])), (m_sea, .inl (cZ, 12, .inl (fun j => bI (S j)))), (m_borders, .inl (cZ, 144, .inl (fun j => bI (Bo j)))), (m_units, .inl (cI, 12, .inl fu)), (m_kind, .inl (cI, 12, .inl (fun j => nI (Kd j)))), (m_toX, .inl (cI, 12, .inl (fun j => nI (X j)))), (m_toY, .inl (cI, 12, .inl (fun j => nI (Y j)))), (m_known, .inl (cI, 12, .inl (fun j => nI (Kx j)))), (m_reached, .inl (cZ, 12, .inl (fun j => bI (Rx j))))] → va_S A s.heap H locs → W p l e (headSpec w_Mo_settle ({ frames := 8, cells := 0, slots := 0, locals := 187 })).room s m ([.ref g0]).toArray below meth c H locs 0 0 (MQ below (va_Qv (fun _ : Unit => True) (fun _ t => ∃ (Re2 : Nat → Bool), tB D A [(g0, .inr (6, [.int co, .int (nI n), .ref m_sea, .ref m_center, .ref m_home, .ref m_borders, .int mp, .int mt, .ref m_owner, .ref m_units, .ref m_kind, .ref m_toX, .ref m_toY, .ref m_results, .ref m_known, .ref m_reached, .ref m_way, .ref m_aside, .ref m_origin, .ref m_retreats, .ref m_contested, .ref m_moved, .int msh, .ref m_past])), (m_sea, .inl (cZ, 12, .inl (fun j => bI (S j)))), (m_borders, .inl (cZ, 144, .inl (fun j => bI (Bo j)))), (m_units, .inl (cI, 12, .inl fu)), (m_kind, .inl (cI, 12, .inl (fun j => nI (Kd j)))), (m_toX, .inl (cI, 12, .inl (fun j => nI (X j)))), (m_toY, .inl (cI, 12, .inl (fun j => nI (Y j)))), (m_known, .inl (cI, 12, .inl (fun j => nI (stl fu Kd X Y S Bo n 13 K j)))), (m_reached, .inl (cZ, 12, .inl (fun j => bI (Re2 j))))] t) A) ([.ref g0]).toArray s 0 0 A) (F0 m 2 ls []) := by
    intro f
    induction f with
    | zero => intro Kx Rx ls H locs hf; exact absurd hf (Nat.not_lt_zero _)
    | succ f ihw =>
      intro Kx Rx ls H locs hf hst hK9 hl hP hD hS
      refine lv_iload_n hx hb d_Mo_settle_2 rfl (lv_at hl 0 rfl) ?_
      refine lv_if_eq (tgt := 84) hx hb d_Mo_settle_3 (by decide) (fun h0 => absurd h0 (by decide)) (fun _ => ?_)
      refine lv_iconst (v := 0) hx hb d_Mo_settle_6 (by decide) ?_
      refine lv_istore_n (lv' := [(1, .int 0), (0, .ref g0)]) hx hb d_Mo_settle_7 rfl hl (by decide) rfl (fun ls hl => ?_)
      refine lv_iconst (v := 0) hx hb d_Mo_settle_8 (by decide) ?_
      refine lv_istore_n (lv' := [(2, .int 0), (1, .int 0), (0, .ref g0)]) hx hb d_Mo_settle_9 rfl hl (by decide) rfl (fun ls hl => ?_)
      have inn : ∀ (k i : Nat) (Ky : Nat → Nat) (Ry : Nat → Bool) (mo : Bool) (ls : Array Slot) (H : Heap) (locs : List Loc), i + k = n → Ky = psK fu Kd X Y Kx S Bo n i → mo = moK fu Kd X Y Kx S Bo n i → (∀ j, Ky j < 3) → lv_has ls 3 [(2, .int (nI i)), (1, .int (bI mo)), (0, .ref g0)] → va_P D vwCl [(g0, .inr (6, [.int co, .int (nI n), .ref m_sea, .ref m_center, .ref m_home, .ref m_borders, .int mp, .int mt, .ref m_owner, .ref m_units, .ref m_kind, .ref m_toX, .ref m_toY, .ref m_results, .ref m_known, .ref m_reached, .ref m_way, .ref m_aside, .ref m_origin, .ref m_retreats, .ref m_contested, .ref m_moved, .int msh, .ref m_past])), (m_sea, .inl (cZ, 12, .inl (fun j => bI (S j)))), (m_borders, .inl (cZ, 144, .inl (fun j => bI (Bo j)))), (m_units, .inl (cI, 12, .inl fu)), (m_kind, .inl (cI, 12, .inl (fun j => nI (Kd j)))), (m_toX, .inl (cI, 12, .inl (fun j => nI (X j)))), (m_toY, .inl (cI, 12, .inl (fun j => nI (Y j)))), (m_known, .inl (cI, 12, .inl (fun j => nI (Ky j)))), (m_reached, .inl (cZ, 12, .inl (fun j => bI (Ry j))))] H → va_D A [(g0, .inr (6, [.int co, .int (nI n), .ref m_sea, .ref m_center, .ref m_home, .ref m_borders, .int mp, .int mt, .ref m_owner, .ref m_units, .ref m_kind, .ref m_toX, .ref m_toY, .ref m_results, .ref m_known, .ref m_reached, .ref m_way, .ref m_aside, .ref m_origin, .ref m_retreats, .ref m_contested, .ref m_moved, .int msh, .ref m_past])), (m_sea, .inl (cZ, 12, .inl (fun j => bI (S j)))), (m_borders, .inl (cZ, 144, .inl (fun j => bI (Bo j)))), (m_units, .inl (cI, 12, .inl fu)), (m_kind, .inl (cI, 12, .inl (fun j => nI (Kd j)))), (m_toX, .inl (cI, 12, .inl (fun j => nI (X j)))), (m_toY, .inl (cI, 12, .inl (fun j => nI (Y j)))), (m_known, .inl (cI, 12, .inl (fun j => nI (Ky j)))), (m_reached, .inl (cZ, 12, .inl (fun j => bI (Ry j))))] → va_S A s.heap H locs → W p l e (headSpec w_Mo_settle ({ frames := 8, cells := 0, slots := 0, locals := 187 })).room s m ([.ref g0]).toArray below meth c H locs 0 0 (MQ below (va_Qv (fun _ : Unit => True) (fun _ t => ∃ (Re2 : Nat → Bool), tB D A [(g0, .inr (6, [.int co, .int (nI n), .ref m_sea, .ref m_center, .ref m_home, .ref m_borders, .int mp, .int mt, .ref m_owner, .ref m_units, .ref m_kind, .ref m_toX, .ref m_toY, .ref m_results, .ref m_known, .ref m_reached, .ref m_way, .ref m_aside, .ref m_origin, .ref m_retreats, .ref m_contested, .ref m_moved, .int msh, .ref m_past])), (m_sea, .inl (cZ, 12, .inl (fun j => bI (S j)))), (m_borders, .inl (cZ, 144, .inl (fun j => bI (Bo j)))), (m_units, .inl (cI, 12, .inl fu)), (m_kind, .inl (cI, 12, .inl (fun j => nI (Kd j)))), (m_toX, .inl (cI, 12, .inl (fun j => nI (X j)))), (m_toY, .inl (cI, 12, .inl (fun j => nI (Y j)))), (m_known, .inl (cI, 12, .inl (fun j => nI (stl fu Kd X Y S Bo n 13 K j)))), (m_reached, .inl (cZ, 12, .inl (fun j => bI (Re2 j))))] t) A) ([.ref g0]).toArray s 0 0 A) (F0 m 10 ls []) := by
        intro k
        induction k with
        | zero =>
          intro i Ky Ry mo ls H locs hi hKy hmo hK9 hl hP hD hS
          have hie : i = n := by omega
          rw [hie] at hl hKy hmo
          refine lv_iload_n hx hb d_Mo_settle_10 rfl (lv_at hl 0 rfl) ?_
          refine lv_aload_n hx hb d_Mo_settle_11 rfl (lv_at hl 2 rfl) ?_
          refine va_get (D := D) (ci := 6) (v := .int (nI n)) (C := R_Mo) (T := T_Mo) (N := 24) hx hb hts hin_Mo hown hK hP 0 rfl rfl 1 (by decide) (hts _ wd_705) (fun _ h9 => h9) rfl d_Mo_settle_12 ?_
          refine lv_icmp_ge (tgt := 81) hx hb d_Mo_settle_15 (by decide) (fun _ => ?_) (fun h0 => absurd (Int32.le_refl _) h0)
          refine lv_goto (tgt := 2) hx hb d_Mo_settle_81 (by decide) ?_
          cases mo with
          | true =>
            have ho := opn_lt fu Kd X Y Kx S Bo n hmo.symm
            rw [← hKy] at ho
            exact ihw Ky Ry ls H locs (by omega) (hst.trans (by rw [stl, if_pos hmo.symm, ← hKy])) hK9 (lv_sub hl [1, 2] rfl) hP hD hS
          | false =>
            have hfin : stl fu Kd X Y S Bo n 13 K = Ky := hst.trans (by rw [stl, if_neg (by rw [← hmo]; decide), hKy])
            have hl : lv_has ls 3 [(2, .int (nI n)), (1, .int 0), (0, .ref g0)] := hl
            rw [hfin]
            refine lv_iload_n hx hb d_Mo_settle_2 rfl (lv_at hl 1 rfl) ?_
            refine lv_if_eq (tgt := 84) hx hb d_Mo_settle_3 (by decide) (fun _ => ?_) (fun h0 => absurd (by decide) h0)
            have hP9 := hP.sub (ws' := [(g0, .inr (6, [.int co, .int (nI n), .ref m_sea, .ref m_center, .ref m_home, .ref m_borders, .int mp, .int mt, .ref m_owner, .ref m_units, .ref m_kind, .ref m_toX, .ref m_toY, .ref m_results, .ref m_known, .ref m_reached, .ref m_way, .ref m_aside, .ref m_origin, .ref m_retreats, .ref m_contested, .ref m_moved, .int msh, .ref m_past])), (m_sea, .inl (cZ, 12, .inl (fun j => bI (S j)))), (m_borders, .inl (cZ, 144, .inl (fun j => bI (Bo j)))), (m_units, .inl (cI, 12, .inl fu)), (m_kind, .inl (cI, 12, .inl (fun j => nI (Kd j)))), (m_toX, .inl (cI, 12, .inl (fun j => nI (X j)))), (m_toY, .inl (cI, 12, .inl (fun j => nI (Y j)))), (m_known, .inl (cI, 12, .inl (fun j => nI (Ky j)))), (m_reached, .inl (cZ, 12, .inl (fun j => bI (Ry j))))]) [0, 1, 2, 3, 4, 5, 6, 7, 8] rfl
            have hD9 := hD.sub (ws' := [(g0, .inr (6, [.int co, .int (nI n), .ref m_sea, .ref m_center, .ref m_home, .ref m_borders, .int mp, .int mt, .ref m_owner, .ref m_units, .ref m_kind, .ref m_toX, .ref m_toY, .ref m_results, .ref m_known, .ref m_reached, .ref m_way, .ref m_aside, .ref m_origin, .ref m_retreats, .ref m_contested, .ref m_moved, .int msh, .ref m_past])), (m_sea, .inl (cZ, 12, .inl (fun j => bI (S j)))), (m_borders, .inl (cZ, 144, .inl (fun j => bI (Bo j)))), (m_units, .inl (cI, 12, .inl fu)), (m_kind, .inl (cI, 12, .inl (fun j => nI (Kd j)))), (m_toX, .inl (cI, 12, .inl (fun j => nI (X j)))), (m_toY, .inl (cI, 12, .inl (fun j => nI (Y j)))), (m_known, .inl (cI, 12, .inl (fun j => nI (Ky j)))), (m_reached, .inl (cZ, 12, .inl (fun j => bI (Ry j))))]) [0, 1, 2, 3, 4, 5, 6, 7, 8] (by decide) rfl
            exact W.vret hx hb hr (fun t ht hW => ⟨⟨(), rfl, trivial, Ry, by rw [ht]; exact hP9, hD9⟩, hS.F ht⟩) hS.2.2 d_Mo_settle_84
        | succ k ih =>
          intro i Ky Ry mo ls H locs hi hKy hmo hK9 hl hP hD hS
          have hlt : i < n := by omega
          have hlt12 : i < 12 := by omega
          refine lv_iload_n hx hb d_Mo_settle_10 rfl (lv_at hl 0 rfl) ?_
          refine lv_aload_n hx hb d_Mo_settle_11 rfl (lv_at hl 2 rfl) ?_
          refine va_get (D := D) (ci := 6) (v := .int (nI n)) (C := R_Mo) (T := T_Mo) (N := 24) hx hb hts hin_Mo hown hK hP 0 rfl rfl 1 (by decide) (hts _ wd_705) (fun _ h9 => h9) rfl d_Mo_settle_12 ?_
          refine lv_icmp_ge (tgt := 81) hx hb d_Mo_settle_15 (by decide) (fun h0 => absurd h0 (nI_ge hlt (by omega))) (fun _ => ?_)
          refine lv_aload_n hx hb d_Mo_settle_18 rfl (lv_at hl 2 rfl) ?_
          refine lv_iload_n hx hb d_Mo_settle_19 rfl (lv_at hl 0 rfl) ?_
          have hPc := hP.sub (ws' := [(g0, .inr (6, [.int co, .int (nI n), .ref m_sea, .ref m_center, .ref m_home, .ref m_borders, .int mp, .int mt, .ref m_owner, .ref m_units, .ref m_kind, .ref m_toX, .ref m_toY, .ref m_results, .ref m_known, .ref m_reached, .ref m_way, .ref m_aside, .ref m_origin, .ref m_retreats, .ref m_contested, .ref m_moved, .int msh, .ref m_past])), (m_units, .inl (cI, 12, .inl fu)), (m_kind, .inl (cI, 12, .inl (fun j => nI (Kd j)))), (m_known, .inl (cI, 12, .inl (fun j => nI (Ky j))))]) [0, 3, 4, 7] rfl
          refine vp_callSi (va_Run.run (va_runV (As := [.int (nI i)]) (rest := []) ⟨hx, hb, hml, hown, hts⟩ (c_Mo_isOpen l D cI cZ cJ cS aT ceT  g0 m_sea m_center m_home m_borders m_owner m_units m_kind m_toX m_toY m_results m_known m_reached m_way m_aside m_origin m_retreats m_contested m_moved m_past n co mp mt msh fu Kd Ky i hKd hK9 hlt12) (cwV 1 hts (tb_4 wd_865 wd_867 wp_50 wd_8 (tb_c wd_868)) rfl rfl rfl ⟨rfl, by decide, by decide, by decide +kernel⟩ ⟨Nat.le_of_ble_eq_true rfl, Nat.le_of_ble_eq_true rfl⟩) (tP_V hK hX (hS.2.1 aT hXl hXn) hPc (q := 0) rfl rfl) rfl rfl hl.1 rfl (lv_room (Nat.le_of_ble_eq_true rfl)) d_Mo_settle_20 ⟨Nat.le_of_ble_eq_true rfl, Nat.le_of_ble_eq_true rfl⟩)) (fun r5 hr9 => ?_)
          rw [hr9]
          rcases bI_c ((mvs fu Kd i || spt fu Kd i) && decide (Ky i = 0)) with ⟨hb7, e9⟩ | ⟨hb7, e9⟩
          · refine tr_top e9 ?_
            refine lv_if_ne (tgt := 29) hx hb d_Mo_settle_23 (by decide) (fun _ => ?_) (fun h0 => absurd h0 (by decide))
            refine lv_aload_n hx hb d_Mo_settle_29 rfl (lv_at hl 2 rfl) ?_
            refine va_get (D := D) (ci := 6) (v := .ref m_known) (C := R_Mo) (T := T_Mo) (N := 24) hx hb hts hin_Mo hown hK hP 0 rfl rfl 14 (by decide) (hts _ wd_718) (fun _ h9 => h9) rfl d_Mo_settle_30 ?_
            refine lv_iload_n hx hb d_Mo_settle_33 rfl (lv_at hl 0 rfl) ?_
            refine lv_aload_n hx hb d_Mo_settle_34 rfl (lv_at hl 2 rfl) ?_
            refine lv_iload_n hx hb d_Mo_settle_35 rfl (lv_at hl 0 rfl) ?_
            have hPc := hP.sub (ws' := [(g0, .inr (6, [.int co, .int (nI n), .ref m_sea, .ref m_center, .ref m_home, .ref m_borders, .int mp, .int mt, .ref m_owner, .ref m_units, .ref m_kind, .ref m_toX, .ref m_toY, .ref m_results, .ref m_known, .ref m_reached, .ref m_way, .ref m_aside, .ref m_origin, .ref m_retreats, .ref m_contested, .ref m_moved, .int msh, .ref m_past])), (m_units, .inl (cI, 12, .inl fu)), (m_kind, .inl (cI, 12, .inl (fun j => nI (Kd j))))]) [0, 3, 4] rfl
            refine vp_callSi (va_Run.run (va_runV (As := [.int (nI i)]) (rest := [.int (nI i), .ref m_known]) ⟨hx, hb, hml, hown, hts⟩ (c_Mo_moves l D cI cZ cJ cS aT ceT  g0 m_sea m_center m_home m_borders m_owner m_units m_kind m_toX m_toY m_results m_known m_reached m_way m_aside m_origin m_retreats m_contested m_moved m_past n co mp mt msh fu Kd i hKd hlt12) (cwV 1 hts (tb_4 wd_853 wd_855 wp_47 wd_8 (tb_c wd_856)) rfl rfl rfl ⟨rfl, by decide, by decide, by decide +kernel⟩ ⟨Nat.le_of_ble_eq_true rfl, Nat.le_of_ble_eq_true rfl⟩) (tP_V hK hX (hS.2.1 aT hXl hXn) hPc (q := 0) rfl rfl) rfl rfl hl.1 rfl (lv_room (Nat.le_of_ble_eq_true rfl)) d_Mo_settle_36 ⟨Nat.le_of_ble_eq_true rfl, Nat.le_of_ble_eq_true rfl⟩)) (fun r9 hr9 => ?_)
            rw [hr9]
            rcases bI_c (mvs fu Kd i) with ⟨hb11, e9⟩ | ⟨hb11, e9⟩
            · refine tr_top e9 ?_
              refine lv_if_eq (tgt := 50) hx hb d_Mo_settle_39 (by decide) (fun h0 => absurd h0 (by decide)) (fun _ => ?_)
              refine lv_aload_n hx hb d_Mo_settle_42 rfl (lv_at hl 2 rfl) ?_
              refine lv_iload_n hx hb d_Mo_settle_43 rfl (lv_at hl 0 rfl) ?_
              have hPc := hP.sub (ws' := [(g0, .inr (6, [.int co, .int (nI n), .ref m_sea, .ref m_center, .ref m_home, .ref m_borders, .int mp, .int mt, .ref m_owner, .ref m_units, .ref m_kind, .ref m_toX, .ref m_toY, .ref m_results, .ref m_known, .ref m_reached, .ref m_way, .ref m_aside, .ref m_origin, .ref m_retreats, .ref m_contested, .ref m_moved, .int msh, .ref m_past])), (m_sea, .inl (cZ, 12, .inl (fun j => bI (S j)))), (m_borders, .inl (cZ, 144, .inl (fun j => bI (Bo j)))), (m_units, .inl (cI, 12, .inl fu)), (m_kind, .inl (cI, 12, .inl (fun j => nI (Kd j)))), (m_toX, .inl (cI, 12, .inl (fun j => nI (X j)))), (m_toY, .inl (cI, 12, .inl (fun j => nI (Y j)))), (m_known, .inl (cI, 12, .inl (fun j => nI (Ky j)))), (m_reached, .inl (cZ, 12, .inl (fun j => bI (Ry j))))]) [0, 1, 2, 3, 4, 5, 6, 7, 8] rfl
              have hDc := hD.sub (ws' := [(g0, .inr (6, [.int co, .int (nI n), .ref m_sea, .ref m_center, .ref m_home, .ref m_borders, .int mp, .int mt, .ref m_owner, .ref m_units, .ref m_kind, .ref m_toX, .ref m_toY, .ref m_results, .ref m_known, .ref m_reached, .ref m_way, .ref m_aside, .ref m_origin, .ref m_retreats, .ref m_contested, .ref m_moved, .int msh, .ref m_past])), (m_sea, .inl (cZ, 12, .inl (fun j => bI (S j)))), (m_borders, .inl (cZ, 144, .inl (fun j => bI (Bo j)))), (m_units, .inl (cI, 12, .inl fu)), (m_kind, .inl (cI, 12, .inl (fun j => nI (Kd j)))), (m_toX, .inl (cI, 12, .inl (fun j => nI (X j)))), (m_toY, .inl (cI, 12, .inl (fun j => nI (Y j)))), (m_known, .inl (cI, 12, .inl (fun j => nI (Ky j)))), (m_reached, .inl (cZ, 12, .inl (fun j => bI (Ry j))))]) [0, 1, 2, 3, 4, 5, 6, 7, 8] (by decide) rfl
              have hFc := va_free (wc := [(g0, .inr (6, [.int co, .int (nI n), .ref m_sea, .ref m_center, .ref m_home, .ref m_borders, .int mp, .int mt, .ref m_owner, .ref m_units, .ref m_kind, .ref m_toX, .ref m_toY, .ref m_results, .ref m_known, .ref m_reached, .ref m_way, .ref m_aside, .ref m_origin, .ref m_retreats, .ref m_contested, .ref m_moved, .int msh, .ref m_past])), (m_sea, .inl (cZ, 12, .inl (fun j => bI (S j)))), (m_borders, .inl (cZ, 144, .inl (fun j => bI (Bo j)))), (m_units, .inl (cI, 12, .inl fu)), (m_kind, .inl (cI, 12, .inl (fun j => nI (Kd j)))), (m_toX, .inl (cI, 12, .inl (fun j => nI (X j)))), (m_toY, .inl (cI, 12, .inl (fun j => nI (Y j)))), (m_known, .inl (cI, 12, .inl (fun j => nI (Ky j)))), (m_reached, .inl (cZ, 12, .inl (fun j => bI (Ry j))))]) hD hS hA [0, 1, 2, 3, 4, 5, 6, 7, 8] rfl
              refine va_calli (va_runV (As := [.int (nI i)]) (rest := [.int (nI i), .ref m_known]) ⟨hx, hb, hml, hown, hts⟩ (c_Mo_judgeMove l D cI cZ cJ cS aT ceT H.size g0 m_sea m_center m_home m_borders m_owner m_units m_kind m_toX m_toY m_results m_known m_reached m_way m_aside m_origin m_retreats m_contested m_moved m_past n co mp mt msh S Bo fu Kd X Y Ky Ry i hKd hX9 hY9 hK9 hlt12 hn) (cwV 1 hts (tb_4 wd_869 wd_871 wp_51 wd_8 (tb_c wd_872)) rfl rfl rfl ⟨rfl, by decide, by decide, by decide +kernel⟩ ⟨Nat.le_of_ble_eq_true rfl, Nat.le_of_ble_eq_true rfl⟩) (tH_V hK hX (hS.2.1 aT hXl hXn) hPc hDc (q := 0) rfl rfl) rfl rfl hl.1 rfl (lv_room (Nat.le_of_ble_eq_true rfl)) d_Mo_settle_44 ⟨Nat.le_of_ble_eq_true rfl, Nat.le_of_ble_eq_true rfl⟩) hS (fun q _ h => hFc q h) hFc (fun r9 u t H1 locs ht hvm h9 hB hz1 hk1 hS => ?_)
              rw [h9]
              obtain ⟨Re2_44, hP1, hD1⟩ := hB
              rw [ht] at hP1
              obtain ⟨hP, hD⟩ := va_join (wr := []) (w1 := [(g0, .inr (6, [.int co, .int (nI n), .ref m_sea, .ref m_center, .ref m_home, .ref m_borders, .int mp, .int mt, .ref m_owner, .ref m_units, .ref m_kind, .ref m_toX, .ref m_toY, .ref m_results, .ref m_known, .ref m_reached, .ref m_way, .ref m_aside, .ref m_origin, .ref m_retreats, .ref m_contested, .ref m_moved, .int msh, .ref m_past])), (m_sea, .inl (cZ, 12, .inl (fun j => bI (S j)))), (m_borders, .inl (cZ, 144, .inl (fun j => bI (Bo j)))), (m_units, .inl (cI, 12, .inl fu)), (m_kind, .inl (cI, 12, .inl (fun j => nI (Kd j)))), (m_toX, .inl (cI, 12, .inl (fun j => nI (X j)))), (m_toY, .inl (cI, 12, .inl (fun j => nI (Y j)))), (m_known, .inl (cI, 12, .inl (fun j => nI (Ky j)))), (m_reached, .inl (cZ, 12, .inl (fun j => bI (Re2_44 j))))]) hP hD [0, 1, 2, 3, 4, 5, 6, 7, 8] [] rfl rfl (by decide) (by decide) hk1 hFc hP1 hD1
              generalize H1 = H at hP hS ⊢
              have hP : va_P D vwCl [(g0, .inr (6, [.int co, .int (nI n), .ref m_sea, .ref m_center, .ref m_home, .ref m_borders, .int mp, .int mt, .ref m_owner, .ref m_units, .ref m_kind, .ref m_toX, .ref m_toY, .ref m_results, .ref m_known, .ref m_reached, .ref m_way, .ref m_aside, .ref m_origin, .ref m_retreats, .ref m_contested, .ref m_moved, .int msh, .ref m_past])), (m_sea, .inl (cZ, 12, .inl (fun j => bI (S j)))), (m_borders, .inl (cZ, 144, .inl (fun j => bI (Bo j)))), (m_units, .inl (cI, 12, .inl fu)), (m_kind, .inl (cI, 12, .inl (fun j => nI (Kd j)))), (m_toX, .inl (cI, 12, .inl (fun j => nI (X j)))), (m_toY, .inl (cI, 12, .inl (fun j => nI (Y j)))), (m_known, .inl (cI, 12, .inl (fun j => nI (Ky j)))), (m_reached, .inl (cZ, 12, .inl (fun j => bI (Re2_44 j))))] H := hP
              have hD : va_D A [(g0, .inr (6, [.int co, .int (nI n), .ref m_sea, .ref m_center, .ref m_home, .ref m_borders, .int mp, .int mt, .ref m_owner, .ref m_units, .ref m_kind, .ref m_toX, .ref m_toY, .ref m_results, .ref m_known, .ref m_reached, .ref m_way, .ref m_aside, .ref m_origin, .ref m_retreats, .ref m_contested, .ref m_moved, .int msh, .ref m_past])), (m_sea, .inl (cZ, 12, .inl (fun j => bI (S j)))), (m_borders, .inl (cZ, 144, .inl (fun j => bI (Bo j)))), (m_units, .inl (cI, 12, .inl fu)), (m_kind, .inl (cI, 12, .inl (fun j => nI (Kd j)))), (m_toX, .inl (cI, 12, .inl (fun j => nI (X j)))), (m_toY, .inl (cI, 12, .inl (fun j => nI (Y j)))), (m_known, .inl (cI, 12, .inl (fun j => nI (Ky j)))), (m_reached, .inl (cZ, 12, .inl (fun j => bI (Re2_44 j))))] := hD
              refine lv_goto (tgt := 55) hx hb d_Mo_settle_47 (by decide) ?_
              refine tr_iast (g := fun j => nI (upN Ky i (jmv fu Kd X Y Ky S Bo n i) j)) hx hb hK hP hD hS 7 0 rfl rfl i hlt12 (by decide) (upN_I Ky i (jmv fu Kd X Y Ky S Bo n i)) d_Mo_settle_55 (fun H locs hP hD hS => ?_)
              have hP : va_P D vwCl [(g0, .inr (6, [.int co, .int (nI n), .ref m_sea, .ref m_center, .ref m_home, .ref m_borders, .int mp, .int mt, .ref m_owner, .ref m_units, .ref m_kind, .ref m_toX, .ref m_toY, .ref m_results, .ref m_known, .ref m_reached, .ref m_way, .ref m_aside, .ref m_origin, .ref m_retreats, .ref m_contested, .ref m_moved, .int msh, .ref m_past])), (m_sea, .inl (cZ, 12, .inl (fun j => bI (S j)))), (m_borders, .inl (cZ, 144, .inl (fun j => bI (Bo j)))), (m_units, .inl (cI, 12, .inl fu)), (m_kind, .inl (cI, 12, .inl (fun j => nI (Kd j)))), (m_toX, .inl (cI, 12, .inl (fun j => nI (X j)))), (m_toY, .inl (cI, 12, .inl (fun j => nI (Y j)))), (m_known, .inl (cI, 12, .inl (fun j => nI (upN Ky i (jmv fu Kd X Y Ky S Bo n i) j)))), (m_reached, .inl (cZ, 12, .inl (fun j => bI (Re2_44 j))))] H := hP
              have hD : va_D A [(g0, .inr (6, [.int co, .int (nI n), .ref m_sea, .ref m_center, .ref m_home, .ref m_borders, .int mp, .int mt, .ref m_owner, .ref m_units, .ref m_kind, .ref m_toX, .ref m_toY, .ref m_results, .ref m_known, .ref m_reached, .ref m_way, .ref m_aside, .ref m_origin, .ref m_retreats, .ref m_contested, .ref m_moved, .int msh, .ref m_past])), (m_sea, .inl (cZ, 12, .inl (fun j => bI (S j)))), (m_borders, .inl (cZ, 144, .inl (fun j => bI (Bo j)))), (m_units, .inl (cI, 12, .inl fu)), (m_kind, .inl (cI, 12, .inl (fun j => nI (Kd j)))), (m_toX, .inl (cI, 12, .inl (fun j => nI (X j)))), (m_toY, .inl (cI, 12, .inl (fun j => nI (Y j)))), (m_known, .inl (cI, 12, .inl (fun j => nI (upN Ky i (jmv fu Kd X Y Ky S Bo n i) j)))), (m_reached, .inl (cZ, 12, .inl (fun j => bI (Re2_44 j))))] := hD
              refine lv_iload_n hx hb d_Mo_settle_56 rfl (lv_at hl 1 rfl) ?_
              rcases bI_c (mo) with ⟨hb14, e9⟩ | ⟨hb14, e9⟩
              · refine tr_top e9 ?_
                refine lv_if_ne (tgt := 69) hx hb d_Mo_settle_57 (by decide) (fun _ => ?_) (fun h0 => absurd h0 (by decide))
                refine lv_iconst (v := 1) hx hb d_Mo_settle_69 (by decide) ?_
                refine lv_goto (tgt := 74) hx hb d_Mo_settle_70 (by decide) ?_
                refine lv_istore_n (lv' := [(1, .int 1), (2, .int (nI i)), (0, .ref g0)]) hx hb d_Mo_settle_74 rfl hl (by decide) rfl (fun ls hl => ?_)
                refine lv_iinc (lv' := [(2, .int ((nI i) + 1)), (1, .int 1), (0, .ref g0)]) hx hb d_Mo_settle_75 hl (k := 1) rfl rfl (by decide) rfl (fun ls hl => ?_)
                refine lv_goto (tgt := 10) hx hb d_Mo_settle_78 (by decide) ?_
                have e4 : nI i + 1 = nI (i + 1) := nI_1 i
                have ho : isO fu Kd Ky i = true := hb7
                have hj : jdg fu Kd X Y Ky S Bo n i = jmv fu Kd X Y Ky S Bo n i := by simp [jdg, hb7, hb11, hb14]
                have hm2 : moK fu Kd X Y Kx S Bo n (i + 1) = true := by rw [moK, ← hKy, ho, ← hmo, hj]; simp [hb7, hb11, hb14]
                exact ih (i + 1) (upN Ky i (jmv fu Kd X Y Ky S Bo n i)) Re2_44 true ls H locs (by omega) (by rw [psK, ← hKy, stK, if_pos ho, hj]) hm2.symm (upN_lt hK9 (by first | exact jmv_lt .. | exact jsp_lt ..)) (by rw [← e4]; exact lv_sub hl [0, 1, 2] rfl) hP hD hS
              · refine tr_top e9 ?_
                refine lv_if_ne (tgt := 69) hx hb d_Mo_settle_57 (by decide) (fun h0 => absurd (by decide) h0) (fun _ => ?_)
                refine lv_aload_n hx hb d_Mo_settle_60 rfl (lv_at hl 2 rfl) ?_
                refine va_get (D := D) (ci := 6) (v := .ref m_known) (C := R_Mo) (T := T_Mo) (N := 24) hx hb hts hin_Mo hown hK hP 0 rfl rfl 14 (by decide) (hts _ wd_718) (fun _ h9 => h9) rfl d_Mo_settle_61 ?_
                refine lv_iload_n hx hb d_Mo_settle_64 rfl (lv_at hl 0 rfl) ?_
                refine tr_iald (v := nI (jmv fu Kd X Y Ky S Bo n i)) hx hb hK hP 7 0 rfl rfl i hlt12 (by decide) (congrArg nI (upN_s _ _ _)) d_Mo_settle_65 ?_
                refine lv_if_eq (tgt := 73) hx hb d_Mo_settle_66 (by decide) (fun hc17 => ?_) (fun hc17 => ?_)
                · -- 66 taken
                  have hc17 : jmv fu Kd X Y Ky S Bo n i = 0 := (nI_lit (Nat.lt_trans (jmv_lt _ _ _ _ _ _ _ _ _) (by decide)) (by decide)).mp hc17
                  refine lv_iconst (v := 0) hx hb d_Mo_settle_73 (by decide) ?_
                  refine lv_istore_n (lv' := [(1, .int 0), (2, .int (nI i)), (0, .ref g0)]) hx hb d_Mo_settle_74 rfl hl (by decide) rfl (fun ls hl => ?_)
                  refine lv_iinc (lv' := [(2, .int ((nI i) + 1)), (1, .int 0), (0, .ref g0)]) hx hb d_Mo_settle_75 hl (k := 1) rfl rfl (by decide) rfl (fun ls hl => ?_)
                  refine lv_goto (tgt := 10) hx hb d_Mo_settle_78 (by decide) ?_
                  have e4 : nI i + 1 = nI (i + 1) := nI_1 i
                  have ho : isO fu Kd Ky i = true := hb7
                  have hj : jdg fu Kd X Y Ky S Bo n i = jmv fu Kd X Y Ky S Bo n i := by simp [jdg, hb7, hb11, hb14]
                  have hm2 : moK fu Kd X Y Kx S Bo n (i + 1) = false := by rw [moK, ← hKy, ho, ← hmo, hj]; simp [hb7, hb11, hb14, hc17]
                  exact ih (i + 1) (upN Ky i (jmv fu Kd X Y Ky S Bo n i)) Re2_44 false ls H locs (by omega) (by rw [psK, ← hKy, stK, if_pos ho, hj]) hm2.symm (upN_lt hK9 (by first | exact jmv_lt .. | exact jsp_lt ..)) (by rw [← e4]; exact lv_sub hl [0, 1, 2] rfl) hP hD hS
                · -- 66 not taken
                  have hc17 : ¬ jmv fu Kd X Y Ky S Bo n i = 0 := fun h9 => hc17 (congrArg nI h9)
                  refine lv_iconst (v := 1) hx hb d_Mo_settle_69 (by decide) ?_
                  refine lv_goto (tgt := 74) hx hb d_Mo_settle_70 (by decide) ?_
                  refine lv_istore_n (lv' := [(1, .int 1), (2, .int (nI i)), (0, .ref g0)]) hx hb d_Mo_settle_74 rfl hl (by decide) rfl (fun ls hl => ?_)
                  refine lv_iinc (lv' := [(2, .int ((nI i) + 1)), (1, .int 1), (0, .ref g0)]) hx hb d_Mo_settle_75 hl (k := 1) rfl rfl (by decide) rfl (fun ls hl => ?_)
                  refine lv_goto (tgt := 10) hx hb d_Mo_settle_78 (by decide) ?_
                  have e4 : nI i + 1 = nI (i + 1) := nI_1 i
                  have ho : isO fu Kd Ky i = true := hb7
                  have hj : jdg fu Kd X Y Ky S Bo n i = jmv fu Kd X Y Ky S Bo n i := by simp [jdg, hb7, hb11, hb14]
                  have hm2 : moK fu Kd X Y Kx S Bo n (i + 1) = true := by rw [moK, ← hKy, ho, ← hmo, hj]; simp [hb7, hb11, hb14, hc17]
                  exact ih (i + 1) (upN Ky i (jmv fu Kd X Y Ky S Bo n i)) Re2_44 true ls H locs (by omega) (by rw [psK, ← hKy, stK, if_pos ho, hj]) hm2.symm (upN_lt hK9 (by first | exact jmv_lt .. | exact jsp_lt ..)) (by rw [← e4]; exact lv_sub hl [0, 1, 2] rfl) hP hD hS
            · refine tr_top e9 ?_
              refine lv_if_eq (tgt := 50) hx hb d_Mo_settle_39 (by decide) (fun _ => ?_) (fun h0 => absurd (by decide) h0)
              refine lv_aload_n hx hb d_Mo_settle_50 rfl (lv_at hl 2 rfl) ?_
              refine lv_iload_n hx hb d_Mo_settle_51 rfl (lv_at hl 0 rfl) ?_
              have hPc := hP.sub (ws' := [(g0, .inr (6, [.int co, .int (nI n), .ref m_sea, .ref m_center, .ref m_home, .ref m_borders, .int mp, .int mt, .ref m_owner, .ref m_units, .ref m_kind, .ref m_toX, .ref m_toY, .ref m_results, .ref m_known, .ref m_reached, .ref m_way, .ref m_aside, .ref m_origin, .ref m_retreats, .ref m_contested, .ref m_moved, .int msh, .ref m_past])), (m_sea, .inl (cZ, 12, .inl (fun j => bI (S j)))), (m_borders, .inl (cZ, 144, .inl (fun j => bI (Bo j)))), (m_units, .inl (cI, 12, .inl fu)), (m_kind, .inl (cI, 12, .inl (fun j => nI (Kd j)))), (m_toX, .inl (cI, 12, .inl (fun j => nI (X j)))), (m_toY, .inl (cI, 12, .inl (fun j => nI (Y j)))), (m_known, .inl (cI, 12, .inl (fun j => nI (Ky j)))), (m_reached, .inl (cZ, 12, .inl (fun j => bI (Ry j))))]) [0, 1, 2, 3, 4, 5, 6, 7, 8] rfl
              have hDc := hD.sub (ws' := [(g0, .inr (6, [.int co, .int (nI n), .ref m_sea, .ref m_center, .ref m_home, .ref m_borders, .int mp, .int mt, .ref m_owner, .ref m_units, .ref m_kind, .ref m_toX, .ref m_toY, .ref m_results, .ref m_known, .ref m_reached, .ref m_way, .ref m_aside, .ref m_origin, .ref m_retreats, .ref m_contested, .ref m_moved, .int msh, .ref m_past])), (m_sea, .inl (cZ, 12, .inl (fun j => bI (S j)))), (m_borders, .inl (cZ, 144, .inl (fun j => bI (Bo j)))), (m_units, .inl (cI, 12, .inl fu)), (m_kind, .inl (cI, 12, .inl (fun j => nI (Kd j)))), (m_toX, .inl (cI, 12, .inl (fun j => nI (X j)))), (m_toY, .inl (cI, 12, .inl (fun j => nI (Y j)))), (m_known, .inl (cI, 12, .inl (fun j => nI (Ky j)))), (m_reached, .inl (cZ, 12, .inl (fun j => bI (Ry j))))]) [0, 1, 2, 3, 4, 5, 6, 7, 8] (by decide) rfl
              have hFc := va_free (wc := [(g0, .inr (6, [.int co, .int (nI n), .ref m_sea, .ref m_center, .ref m_home, .ref m_borders, .int mp, .int mt, .ref m_owner, .ref m_units, .ref m_kind, .ref m_toX, .ref m_toY, .ref m_results, .ref m_known, .ref m_reached, .ref m_way, .ref m_aside, .ref m_origin, .ref m_retreats, .ref m_contested, .ref m_moved, .int msh, .ref m_past])), (m_sea, .inl (cZ, 12, .inl (fun j => bI (S j)))), (m_borders, .inl (cZ, 144, .inl (fun j => bI (Bo j)))), (m_units, .inl (cI, 12, .inl fu)), (m_kind, .inl (cI, 12, .inl (fun j => nI (Kd j)))), (m_toX, .inl (cI, 12, .inl (fun j => nI (X j)))), (m_toY, .inl (cI, 12, .inl (fun j => nI (Y j)))), (m_known, .inl (cI, 12, .inl (fun j => nI (Ky j)))), (m_reached, .inl (cZ, 12, .inl (fun j => bI (Ry j))))]) hD hS hA [0, 1, 2, 3, 4, 5, 6, 7, 8] rfl
              refine va_calli (va_runV (As := [.int (nI i)]) (rest := [.int (nI i), .ref m_known]) ⟨hx, hb, hml, hown, hts⟩ (c_Mo_judgeSupport l D cI cZ cJ cS aT ceT H.size g0 m_sea m_center m_home m_borders m_owner m_units m_kind m_toX m_toY m_results m_known m_reached m_way m_aside m_origin m_retreats m_contested m_moved m_past n co mp mt msh S Bo fu Kd X Y Ky Ry i hKd hX9 hY9 hK9 hlt12 hn) (cwV 1 hts (tb_4 wd_913 wd_915 wp_62 wd_8 (tb_c wd_916)) rfl rfl rfl ⟨rfl, by decide, by decide, by decide +kernel⟩ ⟨Nat.le_of_ble_eq_true rfl, Nat.le_of_ble_eq_true rfl⟩) (tH_V hK hX (hS.2.1 aT hXl hXn) hPc hDc (q := 0) rfl rfl) rfl rfl hl.1 rfl (lv_room (Nat.le_of_ble_eq_true rfl)) d_Mo_settle_52 ⟨Nat.le_of_ble_eq_true rfl, Nat.le_of_ble_eq_true rfl⟩) hS (fun q _ h => hFc q h) hFc (fun r9 u t H1 locs ht hvm h9 hB hz1 hk1 hS => ?_)
              rw [h9]
              obtain ⟨Re2_52, hP1, hD1⟩ := hB
              rw [ht] at hP1
              obtain ⟨hP, hD⟩ := va_join (wr := []) (w1 := [(g0, .inr (6, [.int co, .int (nI n), .ref m_sea, .ref m_center, .ref m_home, .ref m_borders, .int mp, .int mt, .ref m_owner, .ref m_units, .ref m_kind, .ref m_toX, .ref m_toY, .ref m_results, .ref m_known, .ref m_reached, .ref m_way, .ref m_aside, .ref m_origin, .ref m_retreats, .ref m_contested, .ref m_moved, .int msh, .ref m_past])), (m_sea, .inl (cZ, 12, .inl (fun j => bI (S j)))), (m_borders, .inl (cZ, 144, .inl (fun j => bI (Bo j)))), (m_units, .inl (cI, 12, .inl fu)), (m_kind, .inl (cI, 12, .inl (fun j => nI (Kd j)))), (m_toX, .inl (cI, 12, .inl (fun j => nI (X j)))), (m_toY, .inl (cI, 12, .inl (fun j => nI (Y j)))), (m_known, .inl (cI, 12, .inl (fun j => nI (Ky j)))), (m_reached, .inl (cZ, 12, .inl (fun j => bI (Re2_52 j))))]) hP hD [0, 1, 2, 3, 4, 5, 6, 7, 8] [] rfl rfl (by decide) (by decide) hk1 hFc hP1 hD1
              generalize H1 = H at hP hS ⊢
              have hP : va_P D vwCl [(g0, .inr (6, [.int co, .int (nI n), .ref m_sea, .ref m_center, .ref m_home, .ref m_borders, .int mp, .int mt, .ref m_owner, .ref m_units, .ref m_kind, .ref m_toX, .ref m_toY, .ref m_results, .ref m_known, .ref m_reached, .ref m_way, .ref m_aside, .ref m_origin, .ref m_retreats, .ref m_contested, .ref m_moved, .int msh, .ref m_past])), (m_sea, .inl (cZ, 12, .inl (fun j => bI (S j)))), (m_borders, .inl (cZ, 144, .inl (fun j => bI (Bo j)))), (m_units, .inl (cI, 12, .inl fu)), (m_kind, .inl (cI, 12, .inl (fun j => nI (Kd j)))), (m_toX, .inl (cI, 12, .inl (fun j => nI (X j)))), (m_toY, .inl (cI, 12, .inl (fun j => nI (Y j)))), (m_known, .inl (cI, 12, .inl (fun j => nI (Ky j)))), (m_reached, .inl (cZ, 12, .inl (fun j => bI (Re2_52 j))))] H := hP
              have hD : va_D A [(g0, .inr (6, [.int co, .int (nI n), .ref m_sea, .ref m_center, .ref m_home, .ref m_borders, .int mp, .int mt, .ref m_owner, .ref m_units, .ref m_kind, .ref m_toX, .ref m_toY, .ref m_results, .ref m_known, .ref m_reached, .ref m_way, .ref m_aside, .ref m_origin, .ref m_retreats, .ref m_contested, .ref m_moved, .int msh, .ref m_past])), (m_sea, .inl (cZ, 12, .inl (fun j => bI (S j)))), (m_borders, .inl (cZ, 144, .inl (fun j => bI (Bo j)))), (m_units, .inl (cI, 12, .inl fu)), (m_kind, .inl (cI, 12, .inl (fun j => nI (Kd j)))), (m_toX, .inl (cI, 12, .inl (fun j => nI (X j)))), (m_toY, .inl (cI, 12, .inl (fun j => nI (Y j)))), (m_known, .inl (cI, 12, .inl (fun j => nI (Ky j)))), (m_reached, .inl (cZ, 12, .inl (fun j => bI (Re2_52 j))))] := hD
              refine tr_iast (g := fun j => nI (upN Ky i (jsp fu Kd X Y Ky S Bo n i) j)) hx hb hK hP hD hS 7 0 rfl rfl i hlt12 (by decide) (upN_I Ky i (jsp fu Kd X Y Ky S Bo n i)) d_Mo_settle_55 (fun H locs hP hD hS => ?_)
              have hP : va_P D vwCl [(g0, .inr (6, [.int co, .int (nI n), .ref m_sea, .ref m_center, .ref m_home, .ref m_borders, .int mp, .int mt, .ref m_owner, .ref m_units, .ref m_kind, .ref m_toX, .ref m_toY, .ref m_results, .ref m_known, .ref m_reached, .ref m_way, .ref m_aside, .ref m_origin, .ref m_retreats, .ref m_contested, .ref m_moved, .int msh, .ref m_past])), (m_sea, .inl (cZ, 12, .inl (fun j => bI (S j)))), (m_borders, .inl (cZ, 144, .inl (fun j => bI (Bo j)))), (m_units, .inl (cI, 12, .inl fu)), (m_kind, .inl (cI, 12, .inl (fun j => nI (Kd j)))), (m_toX, .inl (cI, 12, .inl (fun j => nI (X j)))), (m_toY, .inl (cI, 12, .inl (fun j => nI (Y j)))), (m_known, .inl (cI, 12, .inl (fun j => nI (upN Ky i (jsp fu Kd X Y Ky S Bo n i) j)))), (m_reached, .inl (cZ, 12, .inl (fun j => bI (Re2_52 j))))] H := hP
              have hD : va_D A [(g0, .inr (6, [.int co, .int (nI n), .ref m_sea, .ref m_center, .ref m_home, .ref m_borders, .int mp, .int mt, .ref m_owner, .ref m_units, .ref m_kind, .ref m_toX, .ref m_toY, .ref m_results, .ref m_known, .ref m_reached, .ref m_way, .ref m_aside, .ref m_origin, .ref m_retreats, .ref m_contested, .ref m_moved, .int msh, .ref m_past])), (m_sea, .inl (cZ, 12, .inl (fun j => bI (S j)))), (m_borders, .inl (cZ, 144, .inl (fun j => bI (Bo j)))), (m_units, .inl (cI, 12, .inl fu)), (m_kind, .inl (cI, 12, .inl (fun j => nI (Kd j)))), (m_toX, .inl (cI, 12, .inl (fun j => nI (X j)))), (m_toY, .inl (cI, 12, .inl (fun j => nI (Y j)))), (m_known, .inl (cI, 12, .inl (fun j => nI (upN Ky i (jsp fu Kd X Y Ky S Bo n i) j)))), (m_reached, .inl (cZ, 12, .inl (fun j => bI (Re2_52 j))))] := hD
              refine lv_iload_n hx hb d_Mo_settle_56 rfl (lv_at hl 1 rfl) ?_
              rcases bI_c (mo) with ⟨hb20, e9⟩ | ⟨hb20, e9⟩
              · refine tr_top e9 ?_
                refine lv_if_ne (tgt := 69) hx hb d_Mo_settle_57 (by decide) (fun _ => ?_) (fun h0 => absurd h0 (by decide))
                refine lv_iconst (v := 1) hx hb d_Mo_settle_69 (by decide) ?_
                refine lv_goto (tgt := 74) hx hb d_Mo_settle_70 (by decide) ?_
                refine lv_istore_n (lv' := [(1, .int 1), (2, .int (nI i)), (0, .ref g0)]) hx hb d_Mo_settle_74 rfl hl (by decide) rfl (fun ls hl => ?_)
                refine lv_iinc (lv' := [(2, .int ((nI i) + 1)), (1, .int 1), (0, .ref g0)]) hx hb d_Mo_settle_75 hl (k := 1) rfl rfl (by decide) rfl (fun ls hl => ?_)
                refine lv_goto (tgt := 10) hx hb d_Mo_settle_78 (by decide) ?_
                have e4 : nI i + 1 = nI (i + 1) := nI_1 i
                have ho : isO fu Kd Ky i = true := hb7
                have hj : jdg fu Kd X Y Ky S Bo n i = jsp fu Kd X Y Ky S Bo n i := by simp [jdg, hb7, hb11, hb20]
                have hm2 : moK fu Kd X Y Kx S Bo n (i + 1) = true := by rw [moK, ← hKy, ho, ← hmo, hj]; simp [hb7, hb11, hb20]
                exact ih (i + 1) (upN Ky i (jsp fu Kd X Y Ky S Bo n i)) Re2_52 true ls H locs (by omega) (by rw [psK, ← hKy, stK, if_pos ho, hj]) hm2.symm (upN_lt hK9 (by first | exact jmv_lt .. | exact jsp_lt ..)) (by rw [← e4]; exact lv_sub hl [0, 1, 2] rfl) hP hD hS
              · refine tr_top e9 ?_
                refine lv_if_ne (tgt := 69) hx hb d_Mo_settle_57 (by decide) (fun h0 => absurd (by decide) h0) (fun _ => ?_)
                refine lv_aload_n hx hb d_Mo_settle_60 rfl (lv_at hl 2 rfl) ?_
                refine va_get (D := D) (ci := 6) (v := .ref m_known) (C := R_Mo) (T := T_Mo) (N := 24) hx hb hts hin_Mo hown hK hP 0 rfl rfl 14 (by decide) (hts _ wd_718) (fun _ h9 => h9) rfl d_Mo_settle_61 ?_
                refine lv_iload_n hx hb d_Mo_settle_64 rfl (lv_at hl 0 rfl) ?_
                refine tr_iald (v := nI (jsp fu Kd X Y Ky S Bo n i)) hx hb hK hP 7 0 rfl rfl i hlt12 (by decide) (congrArg nI (upN_s _ _ _)) d_Mo_settle_65 ?_
                refine lv_if_eq (tgt := 73) hx hb d_Mo_settle_66 (by decide) (fun hc23 => ?_) (fun hc23 => ?_)
                · -- 66 taken
                  have hc23 : jsp fu Kd X Y Ky S Bo n i = 0 := (nI_lit (Nat.lt_trans (jsp_lt _ _ _ _ _ _ _ _ _) (by decide)) (by decide)).mp hc23
                  refine lv_iconst (v := 0) hx hb d_Mo_settle_73 (by decide) ?_
                  refine lv_istore_n (lv' := [(1, .int 0), (2, .int (nI i)), (0, .ref g0)]) hx hb d_Mo_settle_74 rfl hl (by decide) rfl (fun ls hl => ?_)
                  refine lv_iinc (lv' := [(2, .int ((nI i) + 1)), (1, .int 0), (0, .ref g0)]) hx hb d_Mo_settle_75 hl (k := 1) rfl rfl (by decide) rfl (fun ls hl => ?_)
                  refine lv_goto (tgt := 10) hx hb d_Mo_settle_78 (by decide) ?_
                  have e4 : nI i + 1 = nI (i + 1) := nI_1 i
                  have ho : isO fu Kd Ky i = true := hb7
                  have hj : jdg fu Kd X Y Ky S Bo n i = jsp fu Kd X Y Ky S Bo n i := by simp [jdg, hb7, hb11, hb20]
                  have hm2 : moK fu Kd X Y Kx S Bo n (i + 1) = false := by rw [moK, ← hKy, ho, ← hmo, hj]; simp [hb7, hb11, hb20, hc23]
                  exact ih (i + 1) (upN Ky i (jsp fu Kd X Y Ky S Bo n i)) Re2_52 false ls H locs (by omega) (by rw [psK, ← hKy, stK, if_pos ho, hj]) hm2.symm (upN_lt hK9 (by first | exact jmv_lt .. | exact jsp_lt ..)) (by rw [← e4]; exact lv_sub hl [0, 1, 2] rfl) hP hD hS
                · -- 66 not taken
                  have hc23 : ¬ jsp fu Kd X Y Ky S Bo n i = 0 := fun h9 => hc23 (congrArg nI h9)
                  refine lv_iconst (v := 1) hx hb d_Mo_settle_69 (by decide) ?_
                  refine lv_goto (tgt := 74) hx hb d_Mo_settle_70 (by decide) ?_
                  refine lv_istore_n (lv' := [(1, .int 1), (2, .int (nI i)), (0, .ref g0)]) hx hb d_Mo_settle_74 rfl hl (by decide) rfl (fun ls hl => ?_)
                  refine lv_iinc (lv' := [(2, .int ((nI i) + 1)), (1, .int 1), (0, .ref g0)]) hx hb d_Mo_settle_75 hl (k := 1) rfl rfl (by decide) rfl (fun ls hl => ?_)
                  refine lv_goto (tgt := 10) hx hb d_Mo_settle_78 (by decide) ?_
                  have e4 : nI i + 1 = nI (i + 1) := nI_1 i
                  have ho : isO fu Kd Ky i = true := hb7
                  have hj : jdg fu Kd X Y Ky S Bo n i = jsp fu Kd X Y Ky S Bo n i := by simp [jdg, hb7, hb11, hb20]
                  have hm2 : moK fu Kd X Y Kx S Bo n (i + 1) = true := by rw [moK, ← hKy, ho, ← hmo, hj]; simp [hb7, hb11, hb20, hc23]
                  exact ih (i + 1) (upN Ky i (jsp fu Kd X Y Ky S Bo n i)) Re2_52 true ls H locs (by omega) (by rw [psK, ← hKy, stK, if_pos ho, hj]) hm2.symm (upN_lt hK9 (by first | exact jmv_lt .. | exact jsp_lt ..)) (by rw [← e4]; exact lv_sub hl [0, 1, 2] rfl) hP hD hS
          · refine tr_top e9 ?_
            refine lv_if_ne (tgt := 29) hx hb d_Mo_settle_23 (by decide) (fun h0 => absurd (by decide) h0) (fun _ => ?_)
            refine lv_goto (tgt := 75) hx hb d_Mo_settle_26 (by decide) ?_
            refine lv_iinc (lv' := [(2, .int ((nI i) + 1)), (1, .int (bI mo)), (0, .ref g0)]) hx hb d_Mo_settle_75 hl (k := 0) rfl rfl (by decide) rfl (fun ls hl => ?_)
            refine lv_goto (tgt := 10) hx hb d_Mo_settle_78 (by decide) ?_
            have e4 : nI i + 1 = nI (i + 1) := nI_1 i
            have ho : isO fu Kd Ky i = false := by simp [isO, hb7]
            exact ih (i + 1) Ky Ry mo ls H locs (by omega) (by rw [psK, ← hKy, stK, if_neg (by rw [ho]; decide)]) (by rw [moK, ← hKy, ho, ← hmo]; simp) hK9 (by rw [← e4]; exact lv_sub hl [0, 1, 2] rfl) hP hD hS
      exact inn n 0 Kx Rx false ls H locs (Nat.zero_add _) rfl rfl hK9 hl hP hD hS
  have h13 := numB_le (isO fu Kd K) n
  exact wh 13 K Re ls s.heap [] (by omega) rfl hK9 (lv_sub hl [0, 1] rfl) hP hD hS
