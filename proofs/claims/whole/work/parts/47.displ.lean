/-- those of p below i -/
def upTo (p : Nat → Bool) (i : Nat) : Nat → Bool := fun j => decide (j < i) && p j
theorem mI_up0 (p : Nat → Bool) : 0 = mI (upTo p 0) := by
  rw [← mI_0]; exact mI_congr (fun j _ => by simp [upTo])
theorem mI_upY {p : Nat → Bool} {i : Nat} (h : p i = true) : mI (fun j => upTo p i j || decide (j = i)) = mI (upTo p (i + 1)) := mI_congr (fun j _ => by
  unfold upTo
  by_cases hj : j = i
  · subst hj; simp [h]
  · have h1 : decide (j < i + 1) = decide (j < i) := by simp; omega
    rw [h1]; simp [hj])
theorem mI_upN {p : Nat → Bool} {i : Nat} (h : p i = false) : mI (upTo p i) = mI (upTo p (i + 1)) := mI_congr (fun j _ => by
  unfold upTo
  by_cases hj : j = i
  · subst hj; simp [h]
  · have h1 : decide (j < i + 1) = decide (j < i) := by simp; omega
    rw [h1])
/-- one is there that may be displaced; it surely is -/
def mdP (Mt : Nat → Nat → Bool) (St Mv Su Op : Nat → Bool) (a : Nat) : Bool := St a && !(Su a && Mv a) && anyB (fun j => Mt a j && (Su j || Op j)) 12
def sdS (Mt : Nat → Nat → Bool) (Mv Su Op : Nat → Bool) (a : Nat) : Bool := !(Op a && Mv a) && anyB (fun j => Mt a j && Su j) 12
def sdP (Mt : Nat → Nat → Bool) (St Mv Su Op : Nat → Bool) (a : Nat) : Bool := mdP Mt St Mv Su Op a && sdS Mt Mv Su Op a
def odP (Mt : Nat → Nat → Bool) (St Mv Su Op : Nat → Bool) (a : Nat) : Bool := mdP Mt St Mv Su Op a && !sdS Mt Mv Su Op a

theorem d_Se_lookForDisplaced_0 : decode b_Se_lookForDisplaced 0 = .ok (.aload_n 0, 1) := by decide +kernel
theorem d_Se_lookForDisplaced_1 : decode b_Se_lookForDisplaced 1 = .ok (.iconst 0, 1) := by decide +kernel
theorem d_Se_lookForDisplaced_2 : decode b_Se_lookForDisplaced 2 = .ok (.putfield 101, 3) := by decide +kernel
theorem d_Se_lookForDisplaced_5 : decode b_Se_lookForDisplaced 5 = .ok (.aload_n 0, 1) := by decide +kernel
theorem d_Se_lookForDisplaced_6 : decode b_Se_lookForDisplaced 6 = .ok (.iconst 0, 1) := by decide +kernel
theorem d_Se_lookForDisplaced_7 : decode b_Se_lookForDisplaced 7 = .ok (.putfield 174, 3) := by decide +kernel
theorem d_Se_lookForDisplaced_10 : decode b_Se_lookForDisplaced 10 = .ok (.iconst 0, 1) := by decide +kernel
theorem d_Se_lookForDisplaced_11 : decode b_Se_lookForDisplaced 11 = .ok (.istore_n 1, 1) := by decide +kernel
theorem d_Se_lookForDisplaced_12 : decode b_Se_lookForDisplaced 12 = .ok (.iload_n 1, 1) := by decide +kernel
theorem d_Se_lookForDisplaced_13 : decode b_Se_lookForDisplaced 13 = .ok (.aload_n 0, 1) := by decide +kernel
theorem d_Se_lookForDisplaced_14 : decode b_Se_lookForDisplaced 14 = .ok (.getfield 27, 3) := by decide +kernel
theorem d_Se_lookForDisplaced_17 : decode b_Se_lookForDisplaced 17 = .ok (.getfield 93, 3) := by decide +kernel
theorem d_Se_lookForDisplaced_20 : decode b_Se_lookForDisplaced 20 = .ok (.if_icmp .ge 121, 3) := by decide +kernel
theorem d_Se_lookForDisplaced_23 : decode b_Se_lookForDisplaced 23 = .ok (.aload_n 0, 1) := by decide +kernel
theorem d_Se_lookForDisplaced_24 : decode b_Se_lookForDisplaced 24 = .ok (.getfield 63, 3) := by decide +kernel
theorem d_Se_lookForDisplaced_27 : decode b_Se_lookForDisplaced 27 = .ok (.aload_n 0, 1) := by decide +kernel
theorem d_Se_lookForDisplaced_28 : decode b_Se_lookForDisplaced 28 = .ok (.getfield 66, 3) := by decide +kernel
theorem d_Se_lookForDisplaced_31 : decode b_Se_lookForDisplaced 31 = .ok (.iand, 1) := by decide +kernel
theorem d_Se_lookForDisplaced_32 : decode b_Se_lookForDisplaced 32 = .ok (.iload_n 1, 1) := by decide +kernel
theorem d_Se_lookForDisplaced_33 : decode b_Se_lookForDisplaced 33 = .ok (.invokestatic 83, 3) := by decide +kernel
theorem d_Se_lookForDisplaced_36 : decode b_Se_lookForDisplaced 36 = .ok (.istore_n 2, 1) := by decide +kernel
theorem d_Se_lookForDisplaced_37 : decode b_Se_lookForDisplaced 37 = .ok (.aload_n 0, 1) := by decide +kernel
theorem d_Se_lookForDisplaced_38 : decode b_Se_lookForDisplaced 38 = .ok (.getfield 53, 3) := by decide +kernel
theorem d_Se_lookForDisplaced_41 : decode b_Se_lookForDisplaced 41 = .ok (.aload_n 0, 1) := by decide +kernel
theorem d_Se_lookForDisplaced_42 : decode b_Se_lookForDisplaced 42 = .ok (.getfield 66, 3) := by decide +kernel
theorem d_Se_lookForDisplaced_45 : decode b_Se_lookForDisplaced 45 = .ok (.iand, 1) := by decide +kernel
theorem d_Se_lookForDisplaced_46 : decode b_Se_lookForDisplaced 46 = .ok (.iload_n 1, 1) := by decide +kernel
theorem d_Se_lookForDisplaced_47 : decode b_Se_lookForDisplaced 47 = .ok (.invokestatic 83, 3) := by decide +kernel
theorem d_Se_lookForDisplaced_50 : decode b_Se_lookForDisplaced 50 = .ok (.istore_n 3, 1) := by decide +kernel
theorem d_Se_lookForDisplaced_51 : decode b_Se_lookForDisplaced 51 = .ok (.aload_n 0, 1) := by decide +kernel
theorem d_Se_lookForDisplaced_52 : decode b_Se_lookForDisplaced 52 = .ok (.getfield 80, 3) := by decide +kernel
theorem d_Se_lookForDisplaced_55 : decode b_Se_lookForDisplaced 55 = .ok (.iload_n 1, 1) := by decide +kernel
theorem d_Se_lookForDisplaced_56 : decode b_Se_lookForDisplaced 56 = .ok (.invokestatic 83, 3) := by decide +kernel
theorem d_Se_lookForDisplaced_59 : decode b_Se_lookForDisplaced 59 = .ok (.ifCond .eq 76, 3) := by decide +kernel
theorem d_Se_lookForDisplaced_62 : decode b_Se_lookForDisplaced 62 = .ok (.iload_n 2, 1) := by decide +kernel
theorem d_Se_lookForDisplaced_63 : decode b_Se_lookForDisplaced 63 = .ok (.ifCond .ne 72, 3) := by decide +kernel
theorem d_Se_lookForDisplaced_66 : decode b_Se_lookForDisplaced 66 = .ok (.aload_n 0, 1) := by decide +kernel
theorem d_Se_lookForDisplaced_67 : decode b_Se_lookForDisplaced 67 = .ok (.getfield 9, 3) := by decide +kernel
theorem d_Se_lookForDisplaced_70 : decode b_Se_lookForDisplaced 70 = .ok (.iload_n 1, 1) := by decide +kernel
theorem d_Se_lookForDisplaced_71 : decode b_Se_lookForDisplaced 71 = .ok (.iaload, 1) := by decide +kernel
theorem d_Se_lookForDisplaced_72 : decode b_Se_lookForDisplaced 72 = .ok (.aload_n 0, 1) := by decide +kernel
theorem d_Se_lookForDisplaced_73 : decode b_Se_lookForDisplaced 73 = .ok (.getfield 63, 3) := by decide +kernel
theorem d_Se_lookForDisplaced_76 : decode b_Se_lookForDisplaced 76 = .ok (.aload_n 0, 1) := by decide +kernel
theorem d_Se_lookForDisplaced_77 : decode b_Se_lookForDisplaced 77 = .ok (.getfield 53, 3) := by decide +kernel
theorem d_Se_lookForDisplaced_80 : decode b_Se_lookForDisplaced 80 = .ok (.ior, 1) := by decide +kernel
theorem d_Se_lookForDisplaced_81 : decode b_Se_lookForDisplaced 81 = .ok (.iand, 1) := by decide +kernel
theorem d_Se_lookForDisplaced_82 : decode b_Se_lookForDisplaced 82 = .ok (.ifCond .ne 6, 3) := by decide +kernel
theorem d_Se_lookForDisplaced_85 : decode b_Se_lookForDisplaced 85 = .ok (.goto 50, 3) := by decide +kernel
theorem d_Se_lookForDisplaced_88 : decode b_Se_lookForDisplaced 88 = .ok (.iload_n 3, 1) := by decide +kernel
theorem d_Se_lookForDisplaced_89 : decode b_Se_lookForDisplaced 89 = .ok (.ifCond .ne 33, 3) := by decide +kernel
theorem d_Se_lookForDisplaced_92 : decode b_Se_lookForDisplaced 92 = .ok (.aload_n 0, 1) := by decide +kernel
theorem d_Se_lookForDisplaced_93 : decode b_Se_lookForDisplaced 93 = .ok (.getfield 9, 3) := by decide +kernel
theorem d_Se_lookForDisplaced_96 : decode b_Se_lookForDisplaced 96 = .ok (.iload_n 1, 1) := by decide +kernel
theorem d_Se_lookForDisplaced_97 : decode b_Se_lookForDisplaced 97 = .ok (.iaload, 1) := by decide +kernel
theorem d_Se_lookForDisplaced_98 : decode b_Se_lookForDisplaced 98 = .ok (.aload_n 0, 1) := by decide +kernel
theorem d_Se_lookForDisplaced_99 : decode b_Se_lookForDisplaced 99 = .ok (.getfield 63, 3) := by decide +kernel
theorem d_Se_lookForDisplaced_102 : decode b_Se_lookForDisplaced 102 = .ok (.iand, 1) := by decide +kernel
theorem d_Se_lookForDisplaced_103 : decode b_Se_lookForDisplaced 103 = .ok (.ifCond .eq 19, 3) := by decide +kernel
theorem d_Se_lookForDisplaced_106 : decode b_Se_lookForDisplaced 106 = .ok (.aload_n 0, 1) := by decide +kernel
theorem d_Se_lookForDisplaced_107 : decode b_Se_lookForDisplaced 107 = .ok (.dup, 1) := by decide +kernel
theorem d_Se_lookForDisplaced_108 : decode b_Se_lookForDisplaced 108 = .ok (.getfield 101, 3) := by decide +kernel
theorem d_Se_lookForDisplaced_111 : decode b_Se_lookForDisplaced 111 = .ok (.iload_n 1, 1) := by decide +kernel
theorem d_Se_lookForDisplaced_112 : decode b_Se_lookForDisplaced 112 = .ok (.invokestatic 131, 3) := by decide +kernel
theorem d_Se_lookForDisplaced_115 : decode b_Se_lookForDisplaced 115 = .ok (.ior, 1) := by decide +kernel
theorem d_Se_lookForDisplaced_116 : decode b_Se_lookForDisplaced 116 = .ok (.putfield 101, 3) := by decide +kernel
theorem d_Se_lookForDisplaced_119 : decode b_Se_lookForDisplaced 119 = .ok (.goto 16, 3) := by decide +kernel
theorem d_Se_lookForDisplaced_122 : decode b_Se_lookForDisplaced 122 = .ok (.aload_n 0, 1) := by decide +kernel
theorem d_Se_lookForDisplaced_123 : decode b_Se_lookForDisplaced 123 = .ok (.dup, 1) := by decide +kernel
theorem d_Se_lookForDisplaced_124 : decode b_Se_lookForDisplaced 124 = .ok (.getfield 174, 3) := by decide +kernel
theorem d_Se_lookForDisplaced_127 : decode b_Se_lookForDisplaced 127 = .ok (.iload_n 1, 1) := by decide +kernel
theorem d_Se_lookForDisplaced_128 : decode b_Se_lookForDisplaced 128 = .ok (.invokestatic 131, 3) := by decide +kernel
theorem d_Se_lookForDisplaced_131 : decode b_Se_lookForDisplaced 131 = .ok (.ior, 1) := by decide +kernel
theorem d_Se_lookForDisplaced_132 : decode b_Se_lookForDisplaced 132 = .ok (.putfield 174, 3) := by decide +kernel
theorem d_Se_lookForDisplaced_135 : decode b_Se_lookForDisplaced 135 = .ok (.iinc 1 1, 3) := by decide +kernel
theorem d_Se_lookForDisplaced_138 : decode b_Se_lookForDisplaced 138 = .ok (.goto (-126), 3) := by decide +kernel
theorem d_Se_lookForDisplaced_141 : decode b_Se_lookForDisplaced 141 = .ok (.return_, 1) := by decide +kernel
theorem wd_115 : (Cond.fieldLink "SheetWar$Settling" (101 : Nat) "SheetWar$Settling" "sureDisplaced" "I") ∈ TB := tb_t 115 (by decide +kernel) (by decide +kernel)
theorem wd_116 : (Cond.fieldLink "SheetWar$Settling" (174 : Nat) "SheetWar$Settling" "openDisplaced" "I") ∈ TB := tb_t 116 (by decide +kernel) (by decide +kernel)
set_option maxHeartbeats 4000000 in
set_option maxRecDepth 100000 in
theorem c_Se_lookForDisplaced (l : Launch) (D : va_G) (cI cZ cJ cS : ClassId) (aT : Nat) (ceT : Cell) (sz : Nat) (h0 qm qs q1 q2 q3 q4 q5 : Nat) (St Mv Sm Ho Su Op Sd Od Sp Oq : Nat → Bool) (qh qn n : Nat) (S Ce : Nat → Bool) (Mt : Nat → Nat → Bool) (hn : n ≤ 12) : Met l y_Se_lookForDisplaced w_Se_lookForDisplaced ({ frames := 1, cells := 0, slots := 0, locals := 21 }) (tH D cI cZ cJ cS aT ceT [.ref h0] sz [(h0, .inr (2, [.ref qm, .ref qs, .int (mI St), .int (mI Mv), .int (mI Sm), .int (mI Ho), .ref q1, .ref q2, .ref q3, .ref q4, .int (mI Su), .int (mI Op), .int (mI Sd), .int (mI Od), .int (mI Sp), .int (mI Oq), .ref q5])), (qm, .inr (4, [.int (nI n), .int (mI S), .int (mI Ce), .ref qh, .ref qn])), (q1, .inl (cI, 12, .inl (fun j => mI (Mt j))))]) (va_Qv (fun _ : Unit => True) (fun _ t => tB D (va_A [(h0, .inr (2, [.ref qm, .ref qs, .int (mI St), .int (mI Mv), .int (mI Sm), .int (mI Ho), .ref q1, .ref q2, .ref q3, .ref q4, .int (mI Su), .int (mI Op), .int (mI Sd), .int (mI Od), .int (mI Sp), .int (mI Oq), .ref q5])), (qm, .inr (4, [.int (nI n), .int (mI S), .int (mI Ce), .ref qh, .ref qn])), (q1, .inl (cI, 12, .inl (fun j => mI (Mt j))))] sz) [(h0, .inr (2, [.ref qm, .ref qs, .int (mI St), .int (mI Mv), .int (mI Sm), .int (mI Ho), .ref q1, .ref q2, .ref q3, .ref q4, .int (mI Su), .int (mI Op), .int (mI (upTo (sdP Mt St Mv Su Op) n)), .int (mI (upTo (odP Mt St Mv Su Op) n)), .int (mI Sp), .int (mI Oq), .ref q5])), (qm, .inr (4, [.int (nI n), .int (mI S), .int (mI Ce), .ref qh, .ref qn])), (q1, .inl (cI, 12, .inl (fun j => mI (Mt j))))] t) (va_A [(h0, .inr (2, [.ref qm, .ref qs, .int (mI St), .int (mI Mv), .int (mI Sm), .int (mI Ho), .ref q1, .ref q2, .ref q3, .ref q4, .int (mI Su), .int (mI Op), .int (mI Sd), .int (mI Od), .int (mI Sp), .int (mI Oq), .ref q5])), (qm, .inr (4, [.int (nI n), .int (mI S), .int (mI Ce), .ref qh, .ref qn])), (q1, .inl (cI, 12, .inl (fun j => mI (Mt j))))] sz)) 0 0 (va_A [(h0, .inr (2, [.ref qm, .ref qs, .int (mI St), .int (mI Mv), .int (mI Sm), .int (mI Ho), .ref q1, .ref q2, .ref q3, .ref q4, .int (mI Su), .int (mI Op), .int (mI Sd), .int (mI Od), .int (mI Sp), .int (mI Oq), .ref q5])), (qm, .inr (4, [.int (nI n), .int (mI S), .int (mI Ce), .ref qh, .ref qn])), (q1, .inl (cI, 12, .inl (fun j => mI (Mt j))))] sz) := by
  refine Met.ofW (cc := b_Se_lookForDisplaced) (maxL := 4) (ret := none) (by decide) rfl ?_
  intro p e s m args below meth c s₁ B hml hv
  obtain ⟨rfl, hsz, hP, hK, hD0, hX⟩ := hv
  have hx := B.exec
  have hb := B.bytes
  have hr := B.returns
  have hts0 := atoms_spec (ws := w_Se_lookForDisplaced) B.pre
  have hts : ∀ w ∈ TB, w.before _ s = true := fun w h => hts0 w (List.mem_cons_of_mem _ h)
  have hown : s.vm.findClass R_Se = some m.cls := findClass_of_methodNamed B.named
  have hlocks := B.notSynchronized
  subst hsz
  have hXl := tx_lt hX
  have hXn := tx_far hP hX
  have hD := hD0.self (sz := s.heap.size)
  generalize hAe : va_A [(h0, .inr (2, [.ref qm, .ref qs, .int (mI St), .int (mI Mv), .int (mI Sm), .int (mI Ho), .ref q1, .ref q2, .ref q3, .ref q4, .int (mI Su), .int (mI Op), .int (mI Sd), .int (mI Od), .int (mI Sp), .int (mI Oq), .ref q5])), (qm, .inr (4, [.int (nI n), .int (mI S), .int (mI Ce), .ref qh, .ref qn])), (q1, .inl (cI, 12, .inl (fun j => mI (Mt j))))] s.heap.size = A at hD hXn ⊢
  have hA : ∀ q : Nat, s.heap.size ≤ q → A q := fun q h => by rw [← hAe]; exact Or.inr h
  have hS : va_S A s.heap s.heap [] := va_S.rf
  have hXH : s.heap[aT]? = s.heap[aT]? := rfl
  have hl := lv_entry ([.ref h0]) (n := 4) (Nat.le_of_ble_eq_true rfl)
  rw [lg_entry_eq]
  generalize (lg_sl ([.ref h0]) ++ List.replicate (4 - (lg_sl ([.ref h0])).length) Slot.unset).toArray = ls at hl ⊢
  have hl : lv_has ls 4 [(0, .ref h0)] := hl
  refine lv_aload_n hx hb d_Se_lookForDisplaced_0 rfl (lv_at hl 0 rfl) ?_
  refine lv_iconst (v := 0) hx hb d_Se_lookForDisplaced_1 (by decide) ?_
  refine tr_top (y := mI (upTo (sdP Mt St Mv Su Op) 0)) (mI_up0 _) ?_
  refine va_put (D := D) (ci := 2) (v := .int (mI (upTo (sdP Mt St Mv Su Op) 0))) (ty := .int) (C := R_Se) (T := T_Se) (N := 17) hx hb hts hin_Se ty_Se tyok_Se nm_Se hown hK hP hD hS 0 rfl rfl 12 (by decide) (hts _ wd_115) (fun _ h9 => h9) rfl (by decide +kernel) rfl rfl (Nat.le_of_ble_eq_true rfl) d_Se_lookForDisplaced_2 (fun H locs hP hD hS => ?_)
  have hP : va_P D vwCl [(h0, .inr (2, [.ref qm, .ref qs, .int (mI St), .int (mI Mv), .int (mI Sm), .int (mI Ho), .ref q1, .ref q2, .ref q3, .ref q4, .int (mI Su), .int (mI Op), .int (mI (upTo (sdP Mt St Mv Su Op) 0)), .int (mI Od), .int (mI Sp), .int (mI Oq), .ref q5])), (qm, .inr (4, [.int (nI n), .int (mI S), .int (mI Ce), .ref qh, .ref qn])), (q1, .inl (cI, 12, .inl (fun j => mI (Mt j))))] H := hP
  have hD : va_D A [(h0, .inr (2, [.ref qm, .ref qs, .int (mI St), .int (mI Mv), .int (mI Sm), .int (mI Ho), .ref q1, .ref q2, .ref q3, .ref q4, .int (mI Su), .int (mI Op), .int (mI (upTo (sdP Mt St Mv Su Op) 0)), .int (mI Od), .int (mI Sp), .int (mI Oq), .ref q5])), (qm, .inr (4, [.int (nI n), .int (mI S), .int (mI Ce), .ref qh, .ref qn])), (q1, .inl (cI, 12, .inl (fun j => mI (Mt j))))] := hD
  refine lv_aload_n hx hb d_Se_lookForDisplaced_5 rfl (lv_at hl 0 rfl) ?_
  refine lv_iconst (v := 0) hx hb d_Se_lookForDisplaced_6 (by decide) ?_
  refine tr_top (y := mI (upTo (odP Mt St Mv Su Op) 0)) (mI_up0 _) ?_
  refine va_put (D := D) (ci := 2) (v := .int (mI (upTo (odP Mt St Mv Su Op) 0))) (ty := .int) (C := R_Se) (T := T_Se) (N := 17) hx hb hts hin_Se ty_Se tyok_Se nm_Se hown hK hP hD hS 0 rfl rfl 13 (by decide) (hts _ wd_116) (fun _ h9 => h9) rfl (by decide +kernel) rfl rfl (Nat.le_of_ble_eq_true rfl) d_Se_lookForDisplaced_7 (fun H locs hP hD hS => ?_)
  have hP : va_P D vwCl [(h0, .inr (2, [.ref qm, .ref qs, .int (mI St), .int (mI Mv), .int (mI Sm), .int (mI Ho), .ref q1, .ref q2, .ref q3, .ref q4, .int (mI Su), .int (mI Op), .int (mI (upTo (sdP Mt St Mv Su Op) 0)), .int (mI (upTo (odP Mt St Mv Su Op) 0)), .int (mI Sp), .int (mI Oq), .ref q5])), (qm, .inr (4, [.int (nI n), .int (mI S), .int (mI Ce), .ref qh, .ref qn])), (q1, .inl (cI, 12, .inl (fun j => mI (Mt j))))] H := hP
  have hD : va_D A [(h0, .inr (2, [.ref qm, .ref qs, .int (mI St), .int (mI Mv), .int (mI Sm), .int (mI Ho), .ref q1, .ref q2, .ref q3, .ref q4, .int (mI Su), .int (mI Op), .int (mI (upTo (sdP Mt St Mv Su Op) 0)), .int (mI (upTo (odP Mt St Mv Su Op) 0)), .int (mI Sp), .int (mI Oq), .ref q5])), (qm, .inr (4, [.int (nI n), .int (mI S), .int (mI Ce), .ref qh, .ref qn])), (q1, .inl (cI, 12, .inl (fun j => mI (Mt j))))] := hD
  refine lv_iconst (v := 0) hx hb d_Se_lookForDisplaced_10 (by decide) ?_
  refine lv_istore_n (lv' := [(1, .int 0), (0, .ref h0)]) hx hb d_Se_lookForDisplaced_11 rfl hl (by decide) rfl (fun ls hl => ?_)
  have loop : ∀ (k i : Nat) (ls : Array Slot) (H : Heap) (locs : List Loc), i + k = n → lv_has ls 4 [(1, .int (nI i)), (0, .ref h0)] → va_P D vwCl [(h0, .inr (2, [.ref qm, .ref qs, .int (mI St), .int (mI Mv), .int (mI Sm), .int (mI Ho), .ref q1, .ref q2, .ref q3, .ref q4, .int (mI Su), .int (mI Op), .int (mI (upTo (sdP Mt St Mv Su Op) i)), .int (mI (upTo (odP Mt St Mv Su Op) i)), .int (mI Sp), .int (mI Oq), .ref q5])), (qm, .inr (4, [.int (nI n), .int (mI S), .int (mI Ce), .ref qh, .ref qn])), (q1, .inl (cI, 12, .inl (fun j => mI (Mt j))))] H → va_D A [(h0, .inr (2, [.ref qm, .ref qs, .int (mI St), .int (mI Mv), .int (mI Sm), .int (mI Ho), .ref q1, .ref q2, .ref q3, .ref q4, .int (mI Su), .int (mI Op), .int (mI (upTo (sdP Mt St Mv Su Op) i)), .int (mI (upTo (odP Mt St Mv Su Op) i)), .int (mI Sp), .int (mI Oq), .ref q5])), (qm, .inr (4, [.int (nI n), .int (mI S), .int (mI Ce), .ref qh, .ref qn])), (q1, .inl (cI, 12, .inl (fun j => mI (Mt j))))] → va_S A s.heap H locs → W p l e (headSpec w_Se_lookForDisplaced ({ frames := 1, cells := 0, slots := 0, locals := 21 })).room s m ([.ref h0]).toArray below meth c H locs 0 0 (MQ below (va_Qv (fun _ : Unit => True) (fun _ t => tB D A [(h0, .inr (2, [.ref qm, .ref qs, .int (mI St), .int (mI Mv), .int (mI Sm), .int (mI Ho), .ref q1, .ref q2, .ref q3, .ref q4, .int (mI Su), .int (mI Op), .int (mI (upTo (sdP Mt St Mv Su Op) n)), .int (mI (upTo (odP Mt St Mv Su Op) n)), .int (mI Sp), .int (mI Oq), .ref q5])), (qm, .inr (4, [.int (nI n), .int (mI S), .int (mI Ce), .ref qh, .ref qn])), (q1, .inl (cI, 12, .inl (fun j => mI (Mt j))))] t) A) ([.ref h0]).toArray s 0 0 A) (F0 m 12 ls []) := by
    intro k
    induction k with
    | zero =>
      intro i ls H locs hi hl hP hD hS
      have hie : i = n := by omega
      rw [hie] at hl hP hD
      refine lv_iload_n hx hb d_Se_lookForDisplaced_12 rfl (lv_at hl 0 rfl) ?_
      refine lv_aload_n hx hb d_Se_lookForDisplaced_13 rfl (lv_at hl 1 rfl) ?_
      refine va_get (D := D) (ci := 2) (v := .ref qm) (C := R_Se) (T := T_Se) (N := 17) hx hb hts hin_Se hown hK hP 0 rfl rfl 0 (by decide) (hts _ wd_103) (fun _ h9 => h9) rfl d_Se_lookForDisplaced_14 ?_
      refine va_get (D := D) (ci := 4) (v := .int (nI n)) (C := R_Wm) (T := T_Wm) (N := 5) hx hb hts hin_Wm hown hK hP 1 rfl rfl 0 (by decide) (hts _ wd_33) (fun _ h9 => h9) rfl d_Se_lookForDisplaced_17 ?_
      refine lv_icmp_ge (tgt := 141) hx hb d_Se_lookForDisplaced_20 (by decide) (fun _ => ?_) (fun h0 => absurd (Int32.le_refl _) h0)
      have hP9 := hP.sub (ws' := [(h0, .inr (2, [.ref qm, .ref qs, .int (mI St), .int (mI Mv), .int (mI Sm), .int (mI Ho), .ref q1, .ref q2, .ref q3, .ref q4, .int (mI Su), .int (mI Op), .int (mI (upTo (sdP Mt St Mv Su Op) n)), .int (mI (upTo (odP Mt St Mv Su Op) n)), .int (mI Sp), .int (mI Oq), .ref q5])), (qm, .inr (4, [.int (nI n), .int (mI S), .int (mI Ce), .ref qh, .ref qn])), (q1, .inl (cI, 12, .inl (fun j => mI (Mt j))))]) [0, 1, 2] rfl
      have hD9 := hD.sub (ws' := [(h0, .inr (2, [.ref qm, .ref qs, .int (mI St), .int (mI Mv), .int (mI Sm), .int (mI Ho), .ref q1, .ref q2, .ref q3, .ref q4, .int (mI Su), .int (mI Op), .int (mI (upTo (sdP Mt St Mv Su Op) n)), .int (mI (upTo (odP Mt St Mv Su Op) n)), .int (mI Sp), .int (mI Oq), .ref q5])), (qm, .inr (4, [.int (nI n), .int (mI S), .int (mI Ce), .ref qh, .ref qn])), (q1, .inl (cI, 12, .inl (fun j => mI (Mt j))))]) [0, 1, 2] (by decide) rfl
      exact W.vret hx hb hr (fun t ht hW => ⟨⟨(), rfl, trivial, by rw [ht]; exact hP9, hD9⟩, hS.F ht⟩) hS.2.2 d_Se_lookForDisplaced_141
    | succ k ih =>
      intro i ls H locs hi hl hP hD hS
      have hlt : i < n := by omega
      have hlt12 : i < 12 := by omega
      refine lv_iload_n hx hb d_Se_lookForDisplaced_12 rfl (lv_at hl 0 rfl) ?_
      refine lv_aload_n hx hb d_Se_lookForDisplaced_13 rfl (lv_at hl 1 rfl) ?_
      refine va_get (D := D) (ci := 2) (v := .ref qm) (C := R_Se) (T := T_Se) (N := 17) hx hb hts hin_Se hown hK hP 0 rfl rfl 0 (by decide) (hts _ wd_103) (fun _ h9 => h9) rfl d_Se_lookForDisplaced_14 ?_
      refine va_get (D := D) (ci := 4) (v := .int (nI n)) (C := R_Wm) (T := T_Wm) (N := 5) hx hb hts hin_Wm hown hK hP 1 rfl rfl 0 (by decide) (hts _ wd_33) (fun _ h9 => h9) rfl d_Se_lookForDisplaced_17 ?_
      refine lv_icmp_ge (tgt := 141) hx hb d_Se_lookForDisplaced_20 (by decide) (fun h0 => absurd h0 (nI_ge hlt (by omega))) (fun _ => ?_)
      refine lv_aload_n hx hb d_Se_lookForDisplaced_23 rfl (lv_at hl 1 rfl) ?_
      refine va_get (D := D) (ci := 2) (v := .int (mI Su)) (C := R_Se) (T := T_Se) (N := 17) hx hb hts hin_Se hown hK hP 0 rfl rfl 10 (by decide) (hts _ wd_113) (fun _ h9 => h9) rfl d_Se_lookForDisplaced_24 ?_
      refine lv_aload_n hx hb d_Se_lookForDisplaced_27 rfl (lv_at hl 1 rfl) ?_
      refine va_get (D := D) (ci := 2) (v := .int (mI Mv)) (C := R_Se) (T := T_Se) (N := 17) hx hb hts hin_Se hown hK hP 0 rfl rfl 3 (by decide) (hts _ wd_106) (fun _ h9 => h9) rfl d_Se_lookForDisplaced_28 ?_
      refine lv_iand hx hb d_Se_lookForDisplaced_31 ?_
      refine tr_top (y := mI (fun j => Su j && Mv j)) (mI_and _ _) ?_
      refine lv_iload_n hx hb d_Se_lookForDisplaced_32 rfl (lv_at hl 0 rfl) ?_
      have hPc := hP.sub (ws' := []) [] rfl
      refine vp_callSi (va_Run.run (va_runSN (As := [.int (mI (fun j => Su j && Mv j)), .int (nI i)]) (rest := []) ⟨hx, hb, hml, hown, hts⟩ (c_Sw_in l D cI cZ cJ cS aT ceT  (fun j => Su j && Mv j) i hlt12) (⟨va_cnB 2 hts (tb_c wd_285) rfl rfl rfl hX.2.2.2.2.2.2.2.1 (hts _ wd_1) ⟨by decide, by decide, by decide +kernel⟩ ⟨Nat.le_of_ble_eq_true rfl, Nat.le_of_ble_eq_true rfl⟩, hts _ wd_284, trivial⟩) (tP_S hK hX (hS.2.1 aT hXl hXn) hPc) rfl rfl hl.1 rfl (lv_room (Nat.le_of_ble_eq_true rfl)) d_Se_lookForDisplaced_33 ⟨Nat.le_of_ble_eq_true rfl, Nat.le_of_ble_eq_true rfl⟩)) (fun r3 hr9 => ?_)
      rw [hr9]
      refine lv_istore_n (lv' := [(2, .int (bI ((fun j => Su j && Mv j) i))), (1, .int (nI i)), (0, .ref h0)]) hx hb d_Se_lookForDisplaced_36 rfl hl (by decide) rfl (fun ls hl => ?_)
      refine lv_aload_n hx hb d_Se_lookForDisplaced_37 rfl (lv_at hl 2 rfl) ?_
      refine va_get (D := D) (ci := 2) (v := .int (mI Op)) (C := R_Se) (T := T_Se) (N := 17) hx hb hts hin_Se hown hK hP 0 rfl rfl 11 (by decide) (hts _ wd_114) (fun _ h9 => h9) rfl d_Se_lookForDisplaced_38 ?_
      refine lv_aload_n hx hb d_Se_lookForDisplaced_41 rfl (lv_at hl 2 rfl) ?_
      refine va_get (D := D) (ci := 2) (v := .int (mI Mv)) (C := R_Se) (T := T_Se) (N := 17) hx hb hts hin_Se hown hK hP 0 rfl rfl 3 (by decide) (hts _ wd_106) (fun _ h9 => h9) rfl d_Se_lookForDisplaced_42 ?_
      refine lv_iand hx hb d_Se_lookForDisplaced_45 ?_
      refine tr_top (y := mI (fun j => Op j && Mv j)) (mI_and _ _) ?_
      refine lv_iload_n hx hb d_Se_lookForDisplaced_46 rfl (lv_at hl 1 rfl) ?_
      have hPc := hP.sub (ws' := []) [] rfl
      refine vp_callSi (va_Run.run (va_runSN (As := [.int (mI (fun j => Op j && Mv j)), .int (nI i)]) (rest := []) ⟨hx, hb, hml, hown, hts⟩ (c_Sw_in l D cI cZ cJ cS aT ceT  (fun j => Op j && Mv j) i hlt12) (⟨va_cnB 2 hts (tb_c wd_285) rfl rfl rfl hX.2.2.2.2.2.2.2.1 (hts _ wd_1) ⟨by decide, by decide, by decide +kernel⟩ ⟨Nat.le_of_ble_eq_true rfl, Nat.le_of_ble_eq_true rfl⟩, hts _ wd_284, trivial⟩) (tP_S hK hX (hS.2.1 aT hXl hXn) hPc) rfl rfl hl.1 rfl (lv_room (Nat.le_of_ble_eq_true rfl)) d_Se_lookForDisplaced_47 ⟨Nat.le_of_ble_eq_true rfl, Nat.le_of_ble_eq_true rfl⟩)) (fun r4 hr9 => ?_)
      rw [hr9]
      refine lv_istore_n (lv' := [(3, .int (bI ((fun j => Op j && Mv j) i))), (2, .int (bI ((fun j => Su j && Mv j) i))), (1, .int (nI i)), (0, .ref h0)]) hx hb d_Se_lookForDisplaced_50 rfl hl (by decide) rfl (fun ls hl => ?_)
      refine lv_aload_n hx hb d_Se_lookForDisplaced_51 rfl (lv_at hl 3 rfl) ?_
      refine va_get (D := D) (ci := 2) (v := .int (mI St)) (C := R_Se) (T := T_Se) (N := 17) hx hb hts hin_Se hown hK hP 0 rfl rfl 2 (by decide) (hts _ wd_105) (fun _ h9 => h9) rfl d_Se_lookForDisplaced_52 ?_
      refine lv_iload_n hx hb d_Se_lookForDisplaced_55 rfl (lv_at hl 2 rfl) ?_
      have hPc := hP.sub (ws' := []) [] rfl
      refine vp_callSi (va_Run.run (va_runSN (As := [.int (mI St), .int (nI i)]) (rest := []) ⟨hx, hb, hml, hown, hts⟩ (c_Sw_in l D cI cZ cJ cS aT ceT  St i hlt12) (⟨va_cnB 2 hts (tb_c wd_285) rfl rfl rfl hX.2.2.2.2.2.2.2.1 (hts _ wd_1) ⟨by decide, by decide, by decide +kernel⟩ ⟨Nat.le_of_ble_eq_true rfl, Nat.le_of_ble_eq_true rfl⟩, hts _ wd_284, trivial⟩) (tP_S hK hX (hS.2.1 aT hXl hXn) hPc) rfl rfl hl.1 rfl (lv_room (Nat.le_of_ble_eq_true rfl)) d_Se_lookForDisplaced_56 ⟨Nat.le_of_ble_eq_true rfl, Nat.le_of_ble_eq_true rfl⟩)) (fun r5 hr9 => ?_)
      rw [hr9]
      rcases bI_c (St i) with ⟨hb7, e9⟩ | ⟨hb7, e9⟩
      · refine tr_top e9 ?_
        refine lv_if_eq (tgt := 135) hx hb d_Se_lookForDisplaced_59 (by decide) (fun h0 => absurd h0 (by decide)) (fun _ => ?_)
        refine lv_iload_n hx hb d_Se_lookForDisplaced_62 rfl (lv_at hl 1 rfl) ?_
        rcases bI_c ((fun j => Su j && Mv j) i) with ⟨hb10, e9⟩ | ⟨hb10, e9⟩
        · refine tr_top e9 ?_
          refine lv_if_ne (tgt := 135) hx hb d_Se_lookForDisplaced_63 (by decide) (fun _ => ?_) (fun h0 => absurd h0 (by decide))
          refine lv_iinc (lv' := [(1, .int ((nI i) + 1)), (3, .int (bI ((fun j => Op j && Mv j) i))), (2, .int (bI ((fun j => Su j && Mv j) i))), (0, .ref h0)]) hx hb d_Se_lookForDisplaced_135 hl (k := 2) rfl rfl (by decide) rfl (fun ls hl => ?_)
          refine lv_goto (tgt := 12) hx hb d_Se_lookForDisplaced_138 (by decide) ?_
          have e12 : (nI i) + 1 = nI (i + 1) := nI_1 i
          have eo13 : mI (upTo (sdP Mt St Mv Su Op) i) = mI (upTo (sdP Mt St Mv Su Op) (i + 1)) := mI_upN (show (sdP Mt St Mv Su Op) i = false by simp [sdP, odP, mdP, sdS, hb7, hb10])
          have eo14 : mI (upTo (odP Mt St Mv Su Op) i) = mI (upTo (odP Mt St Mv Su Op) (i + 1)) := mI_upN (show (odP Mt St Mv Su Op) i = false by simp [sdP, odP, mdP, sdS, hb7, hb10])
          exact ih (i + 1) ls H locs (by omega) (by rw [← e12]; exact lv_sub hl [0, 3] rfl) (by rw [← eo13, ← eo14]; exact hP) (by rw [← eo13, ← eo14]; exact hD) hS
        · refine tr_top e9 ?_
          refine lv_if_ne (tgt := 135) hx hb d_Se_lookForDisplaced_63 (by decide) (fun h0 => absurd (by decide) h0) (fun _ => ?_)
          refine lv_aload_n hx hb d_Se_lookForDisplaced_66 rfl (lv_at hl 3 rfl) ?_
          refine va_get (D := D) (ci := 2) (v := .ref q1) (C := R_Se) (T := T_Se) (N := 17) hx hb hts hin_Se hown hK hP 0 rfl rfl 6 (by decide) (hts _ wd_109) (fun _ h9 => h9) rfl d_Se_lookForDisplaced_67 ?_
          refine lv_iload_n hx hb d_Se_lookForDisplaced_70 rfl (lv_at hl 2 rfl) ?_
          refine tr_iald (v := mI (Mt i)) hx hb hK hP 2 0 rfl rfl i hlt12 (by decide) rfl d_Se_lookForDisplaced_71 ?_
          refine lv_aload_n hx hb d_Se_lookForDisplaced_72 rfl (lv_at hl 3 rfl) ?_
          refine va_get (D := D) (ci := 2) (v := .int (mI Su)) (C := R_Se) (T := T_Se) (N := 17) hx hb hts hin_Se hown hK hP 0 rfl rfl 10 (by decide) (hts _ wd_113) (fun _ h9 => h9) rfl d_Se_lookForDisplaced_73 ?_
          refine lv_aload_n hx hb d_Se_lookForDisplaced_76 rfl (lv_at hl 3 rfl) ?_
          refine va_get (D := D) (ci := 2) (v := .int (mI Op)) (C := R_Se) (T := T_Se) (N := 17) hx hb hts hin_Se hown hK hP 0 rfl rfl 11 (by decide) (hts _ wd_114) (fun _ h9 => h9) rfl d_Se_lookForDisplaced_77 ?_
          refine lv_ior hx hb d_Se_lookForDisplaced_80 ?_
          refine tr_top (y := mI (fun j => Su j || Op j)) (mI_or _ _) ?_
          refine lv_iand hx hb d_Se_lookForDisplaced_81 ?_
          refine tr_top (y := mI (fun j => Mt i j && (Su j || Op j))) (mI_and _ _) ?_
          cases hm17 : anyB (fun j => Mt i j && (Su j || Op j)) 12 with
          | false =>
            refine tr_top ((mI_eq0 _).mpr hm17) ?_
            refine lv_if_ne (tgt := 88) hx hb d_Se_lookForDisplaced_82 (by decide) (fun h0 => absurd (by decide) h0) (fun _ => ?_)
            refine lv_goto (tgt := 135) hx hb d_Se_lookForDisplaced_85 (by decide) ?_
            refine lv_iinc (lv' := [(1, .int ((nI i) + 1)), (3, .int (bI ((fun j => Op j && Mv j) i))), (2, .int (bI ((fun j => Su j && Mv j) i))), (0, .ref h0)]) hx hb d_Se_lookForDisplaced_135 hl (k := 2) rfl rfl (by decide) rfl (fun ls hl => ?_)
            refine lv_goto (tgt := 12) hx hb d_Se_lookForDisplaced_138 (by decide) ?_
            have e19 : (nI i) + 1 = nI (i + 1) := nI_1 i
            have eo20 : mI (upTo (sdP Mt St Mv Su Op) i) = mI (upTo (sdP Mt St Mv Su Op) (i + 1)) := mI_upN (show (sdP Mt St Mv Su Op) i = false by simp [sdP, odP, mdP, sdS, hb7, hb10, hm17])
            have eo21 : mI (upTo (odP Mt St Mv Su Op) i) = mI (upTo (odP Mt St Mv Su Op) (i + 1)) := mI_upN (show (odP Mt St Mv Su Op) i = false by simp [sdP, odP, mdP, sdS, hb7, hb10, hm17])
            exact ih (i + 1) ls H locs (by omega) (by rw [← e19]; exact lv_sub hl [0, 3] rfl) (by rw [← eo20, ← eo21]; exact hP) (by rw [← eo20, ← eo21]; exact hD) hS
          | true =>
            refine lv_if_ne (tgt := 88) hx hb d_Se_lookForDisplaced_82 (by decide) (fun _ => ?_) (fun h0 => absurd ((mI_eq0 _).mp h0) (by rw [hm17]; decide))
            refine lv_iload_n hx hb d_Se_lookForDisplaced_88 rfl (lv_at hl 0 rfl) ?_
            rcases bI_c ((fun j => Op j && Mv j) i) with ⟨hb23, e9⟩ | ⟨hb23, e9⟩
            · refine tr_top e9 ?_
              refine lv_if_ne (tgt := 122) hx hb d_Se_lookForDisplaced_89 (by decide) (fun _ => ?_) (fun h0 => absurd h0 (by decide))
              refine lv_aload_n hx hb d_Se_lookForDisplaced_122 rfl (lv_at hl 3 rfl) ?_
              refine lv_dup hx hb d_Se_lookForDisplaced_123 rfl ?_
              refine va_get (D := D) (ci := 2) (v := .int (mI (upTo (odP Mt St Mv Su Op) i))) (C := R_Se) (T := T_Se) (N := 17) hx hb hts hin_Se hown hK hP 0 rfl rfl 13 (by decide) (hts _ wd_116) (fun _ h9 => h9) rfl d_Se_lookForDisplaced_124 ?_
              refine lv_iload_n hx hb d_Se_lookForDisplaced_127 rfl (lv_at hl 2 rfl) ?_
              have hPc := hP.sub (ws' := []) [] rfl
              refine vp_callSi (va_Run.run (va_runSN (As := [.int (nI i)]) (rest := [.int (mI (upTo (odP Mt St Mv Su Op) i)), .ref h0]) ⟨hx, hb, hml, hown, hts⟩ (c_Sw_bitN l D cI cZ cJ cS aT ceT  i hlt12) (⟨va_cnB 1 hts (tb_c wd_411) rfl rfl rfl hX.2.2.2.2.2.2.2.2.1 (hts _ wd_1) ⟨by decide, by decide, by decide +kernel⟩ ⟨Nat.le_of_ble_eq_true rfl, Nat.le_of_ble_eq_true rfl⟩, hts _ wd_410, trivial⟩) (tP_S hK hX (hS.2.1 aT hXl hXn) hPc) rfl rfl hl.1 rfl (lv_room (Nat.le_of_ble_eq_true rfl)) d_Se_lookForDisplaced_128 ⟨Nat.le_of_ble_eq_true rfl, Nat.le_of_ble_eq_true rfl⟩)) (fun r25 hr9 => ?_)
              rw [hr9]
              refine lv_ior hx hb d_Se_lookForDisplaced_131 ?_
              refine tr_top (y := mI (fun j => upTo (odP Mt St Mv Su Op) i j || decide (j = i))) (mI_or _ _) ?_
              refine va_put (D := D) (ci := 2) (v := .int (mI (fun j => upTo (odP Mt St Mv Su Op) i j || decide (j = i)))) (ty := .int) (C := R_Se) (T := T_Se) (N := 17) hx hb hts hin_Se ty_Se tyok_Se nm_Se hown hK hP hD hS 0 rfl rfl 13 (by decide) (hts _ wd_116) (fun _ h9 => h9) rfl (by decide +kernel) rfl rfl (Nat.le_of_ble_eq_true rfl) d_Se_lookForDisplaced_132 (fun H locs hP hD hS => ?_)
              have hP : va_P D vwCl [(h0, .inr (2, [.ref qm, .ref qs, .int (mI St), .int (mI Mv), .int (mI Sm), .int (mI Ho), .ref q1, .ref q2, .ref q3, .ref q4, .int (mI Su), .int (mI Op), .int (mI (upTo (sdP Mt St Mv Su Op) i)), .int (mI (fun j => upTo (odP Mt St Mv Su Op) i j || decide (j = i))), .int (mI Sp), .int (mI Oq), .ref q5])), (qm, .inr (4, [.int (nI n), .int (mI S), .int (mI Ce), .ref qh, .ref qn])), (q1, .inl (cI, 12, .inl (fun j => mI (Mt j))))] H := hP
              have hD : va_D A [(h0, .inr (2, [.ref qm, .ref qs, .int (mI St), .int (mI Mv), .int (mI Sm), .int (mI Ho), .ref q1, .ref q2, .ref q3, .ref q4, .int (mI Su), .int (mI Op), .int (mI (upTo (sdP Mt St Mv Su Op) i)), .int (mI (fun j => upTo (odP Mt St Mv Su Op) i j || decide (j = i))), .int (mI Sp), .int (mI Oq), .ref q5])), (qm, .inr (4, [.int (nI n), .int (mI S), .int (mI Ce), .ref qh, .ref qn])), (q1, .inl (cI, 12, .inl (fun j => mI (Mt j))))] := hD
              refine lv_iinc (lv' := [(1, .int ((nI i) + 1)), (3, .int (bI ((fun j => Op j && Mv j) i))), (2, .int (bI ((fun j => Su j && Mv j) i))), (0, .ref h0)]) hx hb d_Se_lookForDisplaced_135 hl (k := 2) rfl rfl (by decide) rfl (fun ls hl => ?_)
              refine lv_goto (tgt := 12) hx hb d_Se_lookForDisplaced_138 (by decide) ?_
              have e26 : (nI i) + 1 = nI (i + 1) := nI_1 i
              have eo27 : mI (upTo (sdP Mt St Mv Su Op) i) = mI (upTo (sdP Mt St Mv Su Op) (i + 1)) := mI_upN (show (sdP Mt St Mv Su Op) i = false by simp [sdP, odP, mdP, sdS, hb7, hb10, hm17, hb23])
              have eo28 : mI (fun j => upTo (odP Mt St Mv Su Op) i j || decide (j = i)) = mI (upTo (odP Mt St Mv Su Op) (i + 1)) := mI_upY (show (odP Mt St Mv Su Op) i = true by simp [sdP, odP, mdP, sdS, hb7, hb10, hm17, hb23])
              exact ih (i + 1) ls H locs (by omega) (by rw [← e26]; exact lv_sub hl [0, 3] rfl) (by rw [← eo27, ← eo28]; exact hP) (by rw [← eo27, ← eo28]; exact hD) hS
            · refine tr_top e9 ?_
              refine lv_if_ne (tgt := 122) hx hb d_Se_lookForDisplaced_89 (by decide) (fun h0 => absurd (by decide) h0) (fun _ => ?_)
              refine lv_aload_n hx hb d_Se_lookForDisplaced_92 rfl (lv_at hl 3 rfl) ?_
              refine va_get (D := D) (ci := 2) (v := .ref q1) (C := R_Se) (T := T_Se) (N := 17) hx hb hts hin_Se hown hK hP 0 rfl rfl 6 (by decide) (hts _ wd_109) (fun _ h9 => h9) rfl d_Se_lookForDisplaced_93 ?_
              refine lv_iload_n hx hb d_Se_lookForDisplaced_96 rfl (lv_at hl 2 rfl) ?_
              refine tr_iald (v := mI (Mt i)) hx hb hK hP 2 0 rfl rfl i hlt12 (by decide) rfl d_Se_lookForDisplaced_97 ?_
              refine lv_aload_n hx hb d_Se_lookForDisplaced_98 rfl (lv_at hl 3 rfl) ?_
              refine va_get (D := D) (ci := 2) (v := .int (mI Su)) (C := R_Se) (T := T_Se) (N := 17) hx hb hts hin_Se hown hK hP 0 rfl rfl 10 (by decide) (hts _ wd_113) (fun _ h9 => h9) rfl d_Se_lookForDisplaced_99 ?_
              refine lv_iand hx hb d_Se_lookForDisplaced_102 ?_
              refine tr_top (y := mI (fun j => Mt i j && Su j)) (mI_and _ _) ?_
              cases hm31 : anyB (fun j => Mt i j && Su j) 12 with
              | false =>
                refine tr_top ((mI_eq0 _).mpr hm31) ?_
                refine lv_if_eq (tgt := 122) hx hb d_Se_lookForDisplaced_103 (by decide) (fun _ => ?_) (fun h0 => absurd (by decide) h0)
                refine lv_aload_n hx hb d_Se_lookForDisplaced_122 rfl (lv_at hl 3 rfl) ?_
                refine lv_dup hx hb d_Se_lookForDisplaced_123 rfl ?_
                refine va_get (D := D) (ci := 2) (v := .int (mI (upTo (odP Mt St Mv Su Op) i))) (C := R_Se) (T := T_Se) (N := 17) hx hb hts hin_Se hown hK hP 0 rfl rfl 13 (by decide) (hts _ wd_116) (fun _ h9 => h9) rfl d_Se_lookForDisplaced_124 ?_
                refine lv_iload_n hx hb d_Se_lookForDisplaced_127 rfl (lv_at hl 2 rfl) ?_
                have hPc := hP.sub (ws' := []) [] rfl
                refine vp_callSi (va_Run.run (va_runSN (As := [.int (nI i)]) (rest := [.int (mI (upTo (odP Mt St Mv Su Op) i)), .ref h0]) ⟨hx, hb, hml, hown, hts⟩ (c_Sw_bitN l D cI cZ cJ cS aT ceT  i hlt12) (⟨va_cnB 1 hts (tb_c wd_411) rfl rfl rfl hX.2.2.2.2.2.2.2.2.1 (hts _ wd_1) ⟨by decide, by decide, by decide +kernel⟩ ⟨Nat.le_of_ble_eq_true rfl, Nat.le_of_ble_eq_true rfl⟩, hts _ wd_410, trivial⟩) (tP_S hK hX (hS.2.1 aT hXl hXn) hPc) rfl rfl hl.1 rfl (lv_room (Nat.le_of_ble_eq_true rfl)) d_Se_lookForDisplaced_128 ⟨Nat.le_of_ble_eq_true rfl, Nat.le_of_ble_eq_true rfl⟩)) (fun r33 hr9 => ?_)
                rw [hr9]
                refine lv_ior hx hb d_Se_lookForDisplaced_131 ?_
                refine tr_top (y := mI (fun j => upTo (odP Mt St Mv Su Op) i j || decide (j = i))) (mI_or _ _) ?_
                refine va_put (D := D) (ci := 2) (v := .int (mI (fun j => upTo (odP Mt St Mv Su Op) i j || decide (j = i)))) (ty := .int) (C := R_Se) (T := T_Se) (N := 17) hx hb hts hin_Se ty_Se tyok_Se nm_Se hown hK hP hD hS 0 rfl rfl 13 (by decide) (hts _ wd_116) (fun _ h9 => h9) rfl (by decide +kernel) rfl rfl (Nat.le_of_ble_eq_true rfl) d_Se_lookForDisplaced_132 (fun H locs hP hD hS => ?_)
                have hP : va_P D vwCl [(h0, .inr (2, [.ref qm, .ref qs, .int (mI St), .int (mI Mv), .int (mI Sm), .int (mI Ho), .ref q1, .ref q2, .ref q3, .ref q4, .int (mI Su), .int (mI Op), .int (mI (upTo (sdP Mt St Mv Su Op) i)), .int (mI (fun j => upTo (odP Mt St Mv Su Op) i j || decide (j = i))), .int (mI Sp), .int (mI Oq), .ref q5])), (qm, .inr (4, [.int (nI n), .int (mI S), .int (mI Ce), .ref qh, .ref qn])), (q1, .inl (cI, 12, .inl (fun j => mI (Mt j))))] H := hP
                have hD : va_D A [(h0, .inr (2, [.ref qm, .ref qs, .int (mI St), .int (mI Mv), .int (mI Sm), .int (mI Ho), .ref q1, .ref q2, .ref q3, .ref q4, .int (mI Su), .int (mI Op), .int (mI (upTo (sdP Mt St Mv Su Op) i)), .int (mI (fun j => upTo (odP Mt St Mv Su Op) i j || decide (j = i))), .int (mI Sp), .int (mI Oq), .ref q5])), (qm, .inr (4, [.int (nI n), .int (mI S), .int (mI Ce), .ref qh, .ref qn])), (q1, .inl (cI, 12, .inl (fun j => mI (Mt j))))] := hD
                refine lv_iinc (lv' := [(1, .int ((nI i) + 1)), (3, .int (bI ((fun j => Op j && Mv j) i))), (2, .int (bI ((fun j => Su j && Mv j) i))), (0, .ref h0)]) hx hb d_Se_lookForDisplaced_135 hl (k := 2) rfl rfl (by decide) rfl (fun ls hl => ?_)
                refine lv_goto (tgt := 12) hx hb d_Se_lookForDisplaced_138 (by decide) ?_
                have e34 : (nI i) + 1 = nI (i + 1) := nI_1 i
                have eo35 : mI (upTo (sdP Mt St Mv Su Op) i) = mI (upTo (sdP Mt St Mv Su Op) (i + 1)) := mI_upN (show (sdP Mt St Mv Su Op) i = false by simp [sdP, odP, mdP, sdS, hb7, hb10, hm17, hb23, hm31])
                have eo36 : mI (fun j => upTo (odP Mt St Mv Su Op) i j || decide (j = i)) = mI (upTo (odP Mt St Mv Su Op) (i + 1)) := mI_upY (show (odP Mt St Mv Su Op) i = true by simp [sdP, odP, mdP, sdS, hb7, hb10, hm17, hb23, hm31])
                exact ih (i + 1) ls H locs (by omega) (by rw [← e34]; exact lv_sub hl [0, 3] rfl) (by rw [← eo35, ← eo36]; exact hP) (by rw [← eo35, ← eo36]; exact hD) hS
              | true =>
                refine lv_if_eq (tgt := 122) hx hb d_Se_lookForDisplaced_103 (by decide) (fun h0 => absurd ((mI_eq0 _).mp h0) (by rw [hm31]; decide)) (fun _ => ?_)
                refine lv_aload_n hx hb d_Se_lookForDisplaced_106 rfl (lv_at hl 3 rfl) ?_
                refine lv_dup hx hb d_Se_lookForDisplaced_107 rfl ?_
                refine va_get (D := D) (ci := 2) (v := .int (mI (upTo (sdP Mt St Mv Su Op) i))) (C := R_Se) (T := T_Se) (N := 17) hx hb hts hin_Se hown hK hP 0 rfl rfl 12 (by decide) (hts _ wd_115) (fun _ h9 => h9) rfl d_Se_lookForDisplaced_108 ?_
                refine lv_iload_n hx hb d_Se_lookForDisplaced_111 rfl (lv_at hl 2 rfl) ?_
                have hPc := hP.sub (ws' := []) [] rfl
                refine vp_callSi (va_Run.run (va_runSN (As := [.int (nI i)]) (rest := [.int (mI (upTo (sdP Mt St Mv Su Op) i)), .ref h0]) ⟨hx, hb, hml, hown, hts⟩ (c_Sw_bitN l D cI cZ cJ cS aT ceT  i hlt12) (⟨va_cnB 1 hts (tb_c wd_411) rfl rfl rfl hX.2.2.2.2.2.2.2.2.1 (hts _ wd_1) ⟨by decide, by decide, by decide +kernel⟩ ⟨Nat.le_of_ble_eq_true rfl, Nat.le_of_ble_eq_true rfl⟩, hts _ wd_410, trivial⟩) (tP_S hK hX (hS.2.1 aT hXl hXn) hPc) rfl rfl hl.1 rfl (lv_room (Nat.le_of_ble_eq_true rfl)) d_Se_lookForDisplaced_112 ⟨Nat.le_of_ble_eq_true rfl, Nat.le_of_ble_eq_true rfl⟩)) (fun r37 hr9 => ?_)
                rw [hr9]
                refine lv_ior hx hb d_Se_lookForDisplaced_115 ?_
                refine tr_top (y := mI (fun j => upTo (sdP Mt St Mv Su Op) i j || decide (j = i))) (mI_or _ _) ?_
                refine va_put (D := D) (ci := 2) (v := .int (mI (fun j => upTo (sdP Mt St Mv Su Op) i j || decide (j = i)))) (ty := .int) (C := R_Se) (T := T_Se) (N := 17) hx hb hts hin_Se ty_Se tyok_Se nm_Se hown hK hP hD hS 0 rfl rfl 12 (by decide) (hts _ wd_115) (fun _ h9 => h9) rfl (by decide +kernel) rfl rfl (Nat.le_of_ble_eq_true rfl) d_Se_lookForDisplaced_116 (fun H locs hP hD hS => ?_)
                have hP : va_P D vwCl [(h0, .inr (2, [.ref qm, .ref qs, .int (mI St), .int (mI Mv), .int (mI Sm), .int (mI Ho), .ref q1, .ref q2, .ref q3, .ref q4, .int (mI Su), .int (mI Op), .int (mI (fun j => upTo (sdP Mt St Mv Su Op) i j || decide (j = i))), .int (mI (upTo (odP Mt St Mv Su Op) i)), .int (mI Sp), .int (mI Oq), .ref q5])), (qm, .inr (4, [.int (nI n), .int (mI S), .int (mI Ce), .ref qh, .ref qn])), (q1, .inl (cI, 12, .inl (fun j => mI (Mt j))))] H := hP
                have hD : va_D A [(h0, .inr (2, [.ref qm, .ref qs, .int (mI St), .int (mI Mv), .int (mI Sm), .int (mI Ho), .ref q1, .ref q2, .ref q3, .ref q4, .int (mI Su), .int (mI Op), .int (mI (fun j => upTo (sdP Mt St Mv Su Op) i j || decide (j = i))), .int (mI (upTo (odP Mt St Mv Su Op) i)), .int (mI Sp), .int (mI Oq), .ref q5])), (qm, .inr (4, [.int (nI n), .int (mI S), .int (mI Ce), .ref qh, .ref qn])), (q1, .inl (cI, 12, .inl (fun j => mI (Mt j))))] := hD
                refine lv_goto (tgt := 135) hx hb d_Se_lookForDisplaced_119 (by decide) ?_
                refine lv_iinc (lv' := [(1, .int ((nI i) + 1)), (3, .int (bI ((fun j => Op j && Mv j) i))), (2, .int (bI ((fun j => Su j && Mv j) i))), (0, .ref h0)]) hx hb d_Se_lookForDisplaced_135 hl (k := 2) rfl rfl (by decide) rfl (fun ls hl => ?_)
                refine lv_goto (tgt := 12) hx hb d_Se_lookForDisplaced_138 (by decide) ?_
                have e38 : (nI i) + 1 = nI (i + 1) := nI_1 i
                have eo39 : mI (fun j => upTo (sdP Mt St Mv Su Op) i j || decide (j = i)) = mI (upTo (sdP Mt St Mv Su Op) (i + 1)) := mI_upY (show (sdP Mt St Mv Su Op) i = true by simp [sdP, odP, mdP, sdS, hb7, hb10, hm17, hb23, hm31])
                have eo40 : mI (upTo (odP Mt St Mv Su Op) i) = mI (upTo (odP Mt St Mv Su Op) (i + 1)) := mI_upN (show (odP Mt St Mv Su Op) i = false by simp [sdP, odP, mdP, sdS, hb7, hb10, hm17, hb23, hm31])
                exact ih (i + 1) ls H locs (by omega) (by rw [← e38]; exact lv_sub hl [0, 3] rfl) (by rw [← eo39, ← eo40]; exact hP) (by rw [← eo39, ← eo40]; exact hD) hS
      · refine tr_top e9 ?_
        refine lv_if_eq (tgt := 135) hx hb d_Se_lookForDisplaced_59 (by decide) (fun _ => ?_) (fun h0 => absurd (by decide) h0)
        refine lv_iinc (lv' := [(1, .int ((nI i) + 1)), (3, .int (bI ((fun j => Op j && Mv j) i))), (2, .int (bI ((fun j => Su j && Mv j) i))), (0, .ref h0)]) hx hb d_Se_lookForDisplaced_135 hl (k := 2) rfl rfl (by decide) rfl (fun ls hl => ?_)
        refine lv_goto (tgt := 12) hx hb d_Se_lookForDisplaced_138 (by decide) ?_
        have e42 : (nI i) + 1 = nI (i + 1) := nI_1 i
        have eo43 : mI (upTo (sdP Mt St Mv Su Op) i) = mI (upTo (sdP Mt St Mv Su Op) (i + 1)) := mI_upN (show (sdP Mt St Mv Su Op) i = false by simp [sdP, odP, mdP, sdS, hb7])
        have eo44 : mI (upTo (odP Mt St Mv Su Op) i) = mI (upTo (odP Mt St Mv Su Op) (i + 1)) := mI_upN (show (odP Mt St Mv Su Op) i = false by simp [sdP, odP, mdP, sdS, hb7])
        exact ih (i + 1) ls H locs (by omega) (by rw [← e42]; exact lv_sub hl [0, 3] rfl) (by rw [← eo43, ← eo44]; exact hP) (by rw [← eo43, ← eo44]; exact hD) hS
  exact loop n 0 ls _ _ (Nat.zero_add _) hl hP hD hS
