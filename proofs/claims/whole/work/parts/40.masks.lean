/-! ===== Int32 by its bits: bt x i ===== -/
def bt (x : Int32) (i : Nat) : Bool := x.toBitVec.getLsbD i
theorem b_ext {x y : Int32} (h : ∀ i, i < 32 → bt x i = bt y i) : x = y := Int32.toBitVec_inj.mp (BitVec.eq_of_getLsbD_eq (fun i hi => h i hi))
theorem b_or (x y : Int32) (i : Nat) : bt (x ||| y) i = (bt x i || bt y i) := by unfold bt; rw [Int32.toBitVec_or, BitVec.getLsbD_or]
theorem b_and (x y : Int32) (i : Nat) : bt (x &&& y) i = (bt x i && bt y i) := by unfold bt; rw [Int32.toBitVec_and, BitVec.getLsbD_and]
theorem b_xor (x y : Int32) (i : Nat) : bt (x ^^^ y) i = (bt x i ^^ bt y i) := by unfold bt; rw [Int32.toBitVec_xor, BitVec.getLsbD_xor]
theorem b_big {x : Int32} {i : Nat} (h : 32 ≤ i) : bt x i = false := BitVec.getLsbD_of_ge _ _ h
theorem b_m1 : ∀ i, i < 32 → bt (-1) i = true := by decide +kernel
theorem b_0 (i : Nat) : bt 0 i = false := BitVec.getLsbD_zero
theorem s_l : ∀ n, n < 32 → ((nI n &&& 31).toBitVec.smod 32).toNat = n := by decide +kernel
theorem s_u : ∀ n, n < 32 → (((nI n).toUInt32 &&& Int32.toUInt32 31).toBitVec % 32).toNat = n := by decide +kernel
theorem b_shl (n : Nat) (hn : n < 32) (x : Int32) {i : Nat} (hi : i < 32) : bt (x <<< (nI n &&& 31)) i = (decide (n ≤ i) && bt x (i - n)) := by
  unfold bt
  rw [Int32.toBitVec_shiftLeft]
  show (x.toBitVec <<< ((nI n &&& 31).toBitVec.smod 32).toNat).getLsbD i = _
  rw [s_l n hn, BitVec.getLsbD_shiftLeft]
  rcases Nat.lt_or_ge i n with h | h
  · simp [h, Nat.not_le.mpr h]
  · simp [hi, h, Nat.not_lt.mpr h]
theorem b_ushr (n : Nat) (hn : n < 32) (x : Int32) (i : Nat) : bt ((x.toUInt32 >>> ((nI n).toUInt32 &&& Int32.toUInt32 31)).toInt32) i = bt x (n + i) := by
  show (x.toUInt32 >>> ((nI n).toUInt32 &&& Int32.toUInt32 31)).toBitVec.getLsbD i = x.toUInt32.toBitVec.getLsbD (n + i)
  rw [UInt32.toBitVec_shiftRight]
  show (x.toUInt32.toBitVec >>> (((nI n).toUInt32 &&& Int32.toUInt32 31).toBitVec % 32).toNat).getLsbD i = _
  rw [s_u n hn, BitVec.getLsbD_ushiftRight]
theorem b_sshr (n : Nat) (hn : n < 32) (x : Int32) {i : Nat} (hi : i < 32) : bt (x >>> (nI n &&& 31)) i = if n + i < 32 then bt x (n + i) else bt x 31 := by
  unfold bt
  rw [Int32.toBitVec_shiftRight]
  show (x.toBitVec.sshiftRight ((nI n &&& 31).toBitVec.smod 32).toNat).getLsbD i = _
  rw [s_l n hn, BitVec.getLsbD_sshiftRight, BitVec.msb_eq_getLsbD_last]
  simp [hi]
/-! Sets of areas as the bits of an int. Mine. -/
def mB (S : Nat → Bool) : Nat → BitVec 32
  | 0 => 0#32
  | k + 1 => mB S k ||| (if S k = true then BitVec.twoPow 32 k else 0#32)
def mI (S : Nat → Bool) : Int32 := Int32.ofBitVec (mB S 12)
theorem mB_bit (S : Nat → Bool) (i : Nat) : ∀ k, k ≤ 32 → (mB S k).getLsbD i = (decide (i < k) && S i)
  | 0, _ => by simp [mB]
  | k + 1, hk => by
    have h := mB_bit S i k (by omega)
    rw [mB, BitVec.getLsbD_or, h]
    by_cases hs : S k = true
    · rw [if_pos hs, BitVec.getLsbD_twoPow]
      by_cases hik : k = i
      · subst hik; simp [hs]; omega
      · have h1 : decide (i < k + 1) = decide (i < k) := by simp; omega
        rw [h1]; simp [hik]
    · rw [if_neg hs, BitVec.getLsbD_zero, Bool.or_false]
      by_cases hik : k = i
      · subst hik; simp [hs]
      · have h1 : decide (i < k + 1) = decide (i < k) := by simp; omega
        rw [h1]
theorem mI_bt (S : Nat → Bool) (i : Nat) : bt (mI S) i = (decide (i < 12) && S i) := mB_bit S i 12 (by decide)
theorem mI_or (S T : Nat → Bool) : mI S ||| mI T = mI (fun j => S j || T j) := b_ext (fun i hi => by
  rw [b_or, mI_bt, mI_bt, mI_bt]
  cases decide (i < 12) <;> simp)
theorem mI_and (S T : Nat → Bool) : mI S &&& mI T = mI (fun j => S j && T j) := b_ext (fun i hi => by
  rw [b_and, mI_bt, mI_bt, mI_bt]
  cases decide (i < 12) <;> simp)
theorem mI_diff (S T : Nat → Bool) : mI S &&& (mI T ^^^ (-1)) = mI (fun j => S j && !T j) := b_ext (fun i hi => by
  rw [b_and, b_xor, b_m1 i hi, mI_bt, mI_bt, mI_bt]
  cases decide (i < 12) <;> simp)
theorem bt_1 (i : Nat) (hi : i < 32) : bt 1 i = decide (i = 0) := (by decide +kernel : ∀ i, i < 32 → bt 1 i = decide (i = 0)) i hi
theorem bt_bI (b : Bool) (i : Nat) (hi : i < 32) : bt (bI b) i = (b && decide (i = 0)) := by
  cases b
  · exact b_0 i
  · show bt 1 i = _
    rw [bt_1 i hi]; rfl
theorem mI_in (S : Nat → Bool) {a : Nat} (ha : a < 12) : (mI S >>> (nI a &&& 31)) &&& 1 = bI (S a) := b_ext (fun i hi => by
  rw [b_and, b_sshr a (by omega) _ hi, bt_1 i hi, bt_bI _ i hi]
  by_cases h0 : i = 0
  · subst h0
    rw [if_pos (by omega), mI_bt]
    simp [ha]
  · simp [h0])
theorem mI_one {a : Nat} (ha : a < 12) : (1 : Int32) <<< (nI a &&& 31) = mI (fun j => decide (j = a)) := b_ext (fun i hi => by
  rw [b_shl a (by omega) _ hi, bt_1 _ (by omega), mI_bt]
  by_cases h : i = a
  · subst h; simp [ha]
  · by_cases h1 : a ≤ i
    · simp [h, h1]; omega
    · simp [h, h1])
theorem mI_congr {S T : Nat → Bool} (h : ∀ j, j < 12 → S j = T j) : mI S = mI T := b_ext (fun i hi => by
  rw [mI_bt, mI_bt]
  by_cases h1 : i < 12
  · rw [h i h1]
  · simp [h1])
theorem mI_0 : mI (fun _ => false) = 0 := b_ext (fun i hi => by rw [mI_bt, b_0]; simp)
theorem mI_eq0 (S : Nat → Bool) : mI S = 0 ↔ anyB S 12 = false := by
  constructor
  · intro h
    cases hb : anyB S 12 with
    | false => rfl
    | true =>
      obtain ⟨b, h1, h2⟩ := (anyB_iff S 12).mp hb
      have h3 := mI_bt S b
      rw [h, b_0, h2] at h3
      simp [h1] at h3
  · intro h
    rw [← mI_0]
    refine mI_congr (fun j hj => ?_)
    cases hs : S j with
    | false => rfl
    | true =>
      have := (anyB_iff S 12).mpr ⟨j, hj, hs⟩
      rw [h] at this; cases this
