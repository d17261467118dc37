/-! bytes and masks: pure -/
section
theorem hn_nI_u {n : Nat} (h : n < 4294967296) : hn_u (nI n) = n := pk_tn h
theorem hn_of_u (x : Int32) : x = nI (hn_u x) := by
  apply hn_u_inj
  rw [hn_nI_u (hn_u_lt x)]
/-- the high bits alone -/
theorem hn_and_hi (a k : Nat) (h : a < 2 ^ 32) (hk : k ≤ 32) : a &&& (2 ^ 32 - 2 ^ k) = a / 2 ^ k * 2 ^ k := by
  have e : 2 ^ 32 - 2 ^ k = (2 ^ (32 - k) - 1) <<< k := by
    rw [Nat.shiftLeft_eq, Nat.sub_mul, ← Nat.pow_add, Nat.one_mul, Nat.sub_add_cancel hk]
  rw [e, ← Nat.shiftRight_eq_div_pow, ← Nat.shiftLeft_eq]
  apply Nat.eq_of_testBit_eq
  intro i
  rw [Nat.testBit_and, Nat.testBit_shiftLeft, Nat.testBit_shiftLeft, Nat.testBit_shiftRight, Nat.testBit_two_pow_sub_one]
  by_cases hi : k ≤ i
  · rw [show k + (i - k) = i by omega]
    by_cases h2 : i < 32
    · simp [hi, show i - k < 32 - k by omega]
    · rw [Nat.testBit_lt_two_pow (show a < 2 ^ i from Nat.lt_of_lt_of_le h (Nat.pow_le_pow_right (by decide) (by omega)))]
      simp
  · simp [hi]
/-- the mask of an int's first c bytes, as the class has it -/
def hn_mask (c : Int32) : Int32 := if c ≤ 0 then 0 else if 4 ≤ c then -1 else (-1) <<< ((8 * (4 - c)) &&& 31)
theorem hn_u_and (x y : Int32) : hn_u (x &&& y) = hn_u x &&& hn_u y := UInt32.toNat_and _ _
theorem hn_mask_0 {c : Int32} (h : c ≤ 0) (x : Int32) : hn_u (x &&& hn_mask c) = 0 := by
  unfold hn_mask
  rw [if_pos h, hn_u_and]
  exact Nat.and_zero _
theorem hn_mask_4 {c : Int32} (h : 4 ≤ c) (x : Int32) : hn_u (x &&& hn_mask c) = hn_u x := by
  have h0 : ¬ c ≤ 0 := fun z => absurd (Int32.le_trans h z) (by decide)
  unfold hn_mask
  rw [if_neg h0, if_pos h, hn_u_and]
  have e : hn_u (-1) = 2 ^ 32 - 2 ^ 0 := by decide +kernel
  rw [e, hn_and_hi _ 0 (hn_u_lt x) (by decide)]
  simp
theorem hn_mask_k {k : Nat} (h1 : 1 ≤ k) (h2 : k ≤ 3) (x : Int32) : hn_u (x &&& hn_mask (nI k)) = hn_u x / 2 ^ (8 * (4 - k)) * 2 ^ (8 * (4 - k)) := by
  rw [hn_u_and]
  have e : hn_u (hn_mask (nI k)) = 2 ^ 32 - 2 ^ (8 * (4 - k)) := by
    rcases (show k = 1 ∨ k = 2 ∨ k = 3 by omega) with rfl | rfl | rfl <;> decide +kernel
  rw [e]
  exact hn_and_hi _ _ (hn_u_lt x) (by omega)
/-- the words of a name of n bytes: those at hand, cut off behind byte n -/
def hn_cut (w : Nat → Int32) (n : Nat) : Nat → Int32 := fun i => w i &&& hn_mask (nI n - nI (4 * i))
theorem hn_cut_u (w : Nat → Int32) {n i : Nat} (hn : n ≤ 20) (hi : i < 5) : hn_u (hn_cut w n i) = if n ≤ 4 * i then 0 else if 4 * i + 4 ≤ n then hn_u (w i) else hn_u (w i) / 2 ^ (8 * (4 * i + 4 - n)) * 2 ^ (8 * (4 * i + 4 - n)) := by
  unfold hn_cut
  by_cases h : n ≤ 4 * i
  · rw [if_pos h]
    refine hn_mask_0 ?_ _
    rw [Int32.le_iff_toInt_le, pk_sub_toInt (by omega) (by omega)]
    show (n : Int) - (4 * i : Nat) ≤ 0
    omega
  · rw [if_neg h, pk_sub (by omega)]
    by_cases h2 : 4 * i + 4 ≤ n
    · rw [if_pos h2]
      exact hn_mask_4 (show (4 : Int32) ≤ nI (n - 4 * i) from nI_le (a := 4) (by omega) (by omega)) _
    · rw [if_neg h2, hn_mask_k (by omega) (by omega)]
      rw [show 4 - (n - 4 * i) = 4 * i + 4 - n by omega]
/-- a name's number: that of the bytes at hand, cut off -/
theorem hn_cut_nm (w : Nat → Int32) {n : Nat} (hn : n ≤ 20) : hn_nm (hn_cut w n) 0 = hn_nm w 0 / 256 ^ (20 - n) * 256 ^ (20 - n) := by
  have a0 := hn_u_lt (w 0); have a1 := hn_u_lt (w 1); have a2 := hn_u_lt (w 2); have a3 := hn_u_lt (w 3); have a4 := hn_u_lt (w 4)
  unfold hn_nm
  simp only [Nat.zero_add]
  rw [hn_cut_u w hn (i := 0) (by decide), hn_cut_u w hn (i := 1) (by decide), hn_cut_u w hn (i := 2) (by decide), hn_cut_u w hn (i := 3) (by decide), hn_cut_u w hn (i := 4) (by decide)]
  generalize hn_u (w 0) = b0 at *
  generalize hn_u (w 1) = b1 at *
  generalize hn_u (w 2) = b2 at *
  generalize hn_u (w 3) = b3 at *
  generalize hn_u (w 4) = b4 at *
  rcases (show n = 0 ∨ n = 1 ∨ n = 2 ∨ n = 3 ∨ n = 4 ∨ n = 5 ∨ n = 6 ∨ n = 7 ∨ n = 8 ∨ n = 9 ∨ n = 10 ∨ n = 11 ∨ n = 12 ∨ n = 13 ∨ n = 14 ∨ n = 15 ∨ n = 16 ∨ n = 17 ∨ n = 18 ∨ n = 19 ∨ n = 20 by omega) with rfl | rfl | rfl | rfl | rfl | rfl | rfl | rfl | rfl | rfl | rfl | rfl | rfl | rfl | rfl | rfl | rfl | rfl | rfl | rfl | rfl <;> simp <;> omega
/-- byte i of the words -/
def hn_by (w : Nat → Int32) (i : Nat) : Nat := hn_u (w (i / 4)) / 2 ^ (24 - 8 * (i % 4)) % 256
theorem hn_by_lt (w : Nat → Int32) (i : Nat) : hn_by w i < 256 := Nat.mod_lt _ (by decide)
theorem hn_shu : ∀ k, k < 4 → (((nI (24 - 8 * k)).toUInt32 &&& Int32.toUInt32 31).toBitVec % 32).toNat = 24 - 8 * k := by decide +kernel
theorem hn_by_row (x : Int32) {k : Nat} (hk : k < 4) : (x.toUInt32 >>> ((nI (24 - 8 * k)).toUInt32 &&& Int32.toUInt32 31)).toInt32 &&& 255 = nI (hn_u x / 2 ^ (24 - 8 * k) % 256) := by
  rw [pk_and _ (m := 255) 8 (by decide +kernel), pk_ushr x _ _ (hn_shu k hk)]
  rfl
end
