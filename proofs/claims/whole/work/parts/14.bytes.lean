/-! bytes and masks: pure -/
section
theorem hn_nI_u {n : Nat} (h : n < 4294967296) : hn_u (nI n) = n := pk_tn h
theorem hn_of_u (x : Int32) : x = nI (hn_u x) := by
  apply hn_u_inj
  rw [hn_nI_u (hn_u_lt x)]
/-- the high bits alone -/
theorem hn_and_hi (a k : Nat) (h : a < 2 ^ 32) (hk : k ≤ 32) : a &&& (2 ^ 32 - 2 ^ k) = a / 2 ^ k * 2 ^ k := by
  have e : 2 ^ 32 - 2 ^ k = (2 ^ (32 - k) - 1) <<< k := by
    rw [Nat.shiftLeft_eq, Nat.sub_mul, ← Nat.pow_add, Nat.one_mul, Nat.sub_add_cancel hk]
  rw [e, ← Nat.shiftRight_eq_div_pow, ← Nat.shiftLeft_eq]
  apply Nat.eq_of_testBit_eq
  intro i
  rw [Nat.testBit_and, Nat.testBit_shiftLeft, Nat.testBit_shiftLeft, Nat.testBit_shiftRight, Nat.testBit_two_pow_sub_one]
  by_cases hi : k ≤ i
  · rw [show k + (i - k) = i by omega]
    by_cases h2 : i < 32
    · simp [hi, show i - k < 32 - k by omega]
    · rw [Nat.testBit_lt_two_pow (show a < 2 ^ i from Nat.lt_of_lt_of_le h (Nat.pow_le_pow_right (by decide) (by omega)))]
      simp
  · simp [hi]
/-- the mask of an int's first c bytes, as the class has it -/
def hn_mask (c : Int32) : Int32 := if c ≤ 0 then 0 else if 4 ≤ c then -1 else (-1) <<< ((8 * (4 - c)) &&& 31)
theorem hn_u_and (x y : Int32) : hn_u (x &&& y) = hn_u x &&& hn_u y := UInt32.toNat_and _ _
theorem hn_mask_0 {c : Int32} (h : c ≤ 0) (x : Int32) : hn_u (x &&& hn_mask c) = 0 := by
  unfold hn_mask
  rw [if_pos h, hn_u_and]
  exact Nat.and_zero _
theorem hn_mask_4 {c : Int32} (h : 4 ≤ c) (x : Int32) : hn_u (x &&& hn_mask c) = hn_u x := by
  have h0 : ¬ c ≤ 0 := fun z => absurd (Int32.le_trans h z) (by decide)
  unfold hn_mask
  rw [if_neg h0, if_pos h, hn_u_and]
  have e : hn_u (-1) = 2 ^ 32 - 2 ^ 0 := by decide +kernel
  rw [e, hn_and_hi _ 0 (hn_u_lt x) (by decide)]
  simp
theorem hn_mask_k {k : Nat} (h1 : 1 ≤ k) (h2 : k ≤ 3) (x : Int32) : hn_u (x &&& hn_mask (nI k)) = hn_u x / 2 ^ (8 * (4 - k)) * 2 ^ (8 * (4 - k)) := by
  rw [hn_u_and]
  have e : hn_u (hn_mask (nI k)) = 2 ^ 32 - 2 ^ (8 * (4 - k)) := by
    rcases (show k = 1 ∨ k = 2 ∨ k = 3 by omega) with rfl | rfl | rfl <;> decide +kernel
  rw [e]
  exact hn_and_hi _ _ (hn_u_lt x) (by omega)
/-- the words of a name of n bytes: those at hand, cut off behind byte n -/
def hn_cut (w : Nat → Int32) (n : Nat) : Nat → Int32 := fun i => w i &&& hn_mask (nI n - nI (4 * i))
theorem hn_cut_u (w : Nat → Int32) {n i : Nat} (hn : n ≤ 20) (hi : i < 5) : hn_u (hn_cut w n i) = if n ≤ 4 * i then 0 else if 4 * i + 4 ≤ n then hn_u (w i) else hn_u (w i) / 2 ^ (8 * (4 * i + 4 - n)) * 2 ^ (8 * (4 * i + 4 - n)) := by
  unfold hn_cut
  by_cases h : n ≤ 4 * i
  · rw [if_pos h]
    refine hn_mask_0 ?_ _
    rw [Int32.le_iff_toInt_le, pk_sub_toInt (by omega) (by omega)]
    show (n : Int) - (4 * i : Nat) ≤ 0
    omega
  · rw [if_neg h, pk_sub (by omega)]
    by_cases h2 : 4 * i + 4 ≤ n
    · rw [if_pos h2]
      exact hn_mask_4 (show (4 : Int32) ≤ nI (n - 4 * i) from nI_le (a := 4) (by omega) (by omega)) _
    · rw [if_neg h2, hn_mask_k (by omega) (by omega)]
      rw [show 4 - (n - 4 * i) = 4 * i + 4 - n by omega]
/-- byte i of the words -/
def hn_by (w : Nat → Int32) (i : Nat) : Nat := hn_u (w (i / 4)) / 2 ^ (24 - 8 * (i % 4)) % 256
theorem hn_by_lt (w : Nat → Int32) (i : Nat) : hn_by w i < 256 := Nat.mod_lt _ (by decide)
theorem hn_shu : ∀ k, k < 4 → (((nI (24 - 8 * k)).toUInt32 &&& Int32.toUInt32 31).toBitVec % 32).toNat = 24 - 8 * k := by decide +kernel
theorem hn_by_row (x : Int32) {k : Nat} (hk : k < 4) : (x.toUInt32 >>> ((nI (24 - 8 * k)).toUInt32 &&& Int32.toUInt32 31)).toInt32 &&& 255 = nI (hn_u x / 2 ^ (24 - 8 * k) % 256) := by
  rw [pk_and _ (m := 255) 8 (by decide +kernel), pk_ushr x _ _ (hn_shu k hk)]
  rfl
/-- the number of n bytes -/
def hn_bn (f : Nat → Nat) : Nat → Nat
  | 0 => 0
  | n + 1 => hn_bn f n * 256 + f n
theorem hn_bn_of {f g : Nat → Nat} : ∀ n, (∀ k, k < n → f k = g k) → hn_bn f n = hn_bn g n
  | 0, _ => rfl
  | n + 1, h => by
    show hn_bn f n * 256 + f n = hn_bn g n * 256 + g n
    rw [hn_bn_of n (fun k hk => h k (by omega)), h n (by omega)]
theorem hn_bn_lt0 {f g : Nat → Nat} (hf : ∀ k, f k < 256) {n : Nat} (h : hn_bn f n < hn_bn g n) : ∀ m, hn_bn f (n + m) < hn_bn g (n + m)
  | 0 => h
  | m + 1 => by
    have := hn_bn_lt0 hf h m
    have h2 := hf (n + m)
    show hn_bn f (n + m) * 256 + f (n + m) < hn_bn g (n + m) * 256 + g (n + m)
    omega
/-- the first byte that differs decides -/
theorem hn_bn_lt {f g : Nat → Nat} (hf : ∀ k, f k < 256) {k n : Nat} (hk : k < n) (h : ∀ j, j < k → f j = g j) (hl : f k < g k) : hn_bn f n < hn_bn g n := by
  have h1 : hn_bn f (k + 1) < hn_bn g (k + 1) := by
    show hn_bn f k * 256 + f k < hn_bn g k * 256 + g k
    rw [hn_bn_of k h]
    omega
  have := hn_bn_lt0 hf h1 (n - (k + 1))
  rw [show k + 1 + (n - (k + 1)) = n by omega] at this
  exact this
theorem hn_bn_4 (f : Nat → Nat) (k : Nat) : hn_bn f (k + 4) = hn_bn f k * 4294967296 + (((f k * 256 + f (k + 1)) * 256 + f (k + 2)) * 256 + f (k + 3)) := by
  show ((((hn_bn f k * 256 + f k) * 256 + f (k + 1)) * 256 + f (k + 2)) * 256 + f (k + 3)) = _
  omega
theorem hn_by_w (w : Nat → Int32) (i : Nat) : ((hn_by w (4 * i) * 256 + hn_by w (4 * i + 1)) * 256 + hn_by w (4 * i + 2)) * 256 + hn_by w (4 * i + 3) = hn_u (w i) := by
  have := hn_u_lt (w i)
  unfold hn_by
  rw [show 4 * i / 4 = i by omega, show (4 * i + 1) / 4 = i by omega, show (4 * i + 2) / 4 = i by omega, show (4 * i + 3) / 4 = i by omega,
    show 4 * i % 4 = 0 by omega, show (4 * i + 1) % 4 = 1 by omega, show (4 * i + 2) % 4 = 2 by omega, show (4 * i + 3) % 4 = 3 by omega]
  show ((hn_u (w i) / 16777216 % 256 * 256 + hn_u (w i) / 65536 % 256) * 256 + hn_u (w i) / 256 % 256) * 256 + hn_u (w i) / 1 % 256 = hn_u (w i)
  omega
/-- the number of five words is that of their twenty bytes -/
theorem hn_nm_bn (w : Nat → Int32) : hn_nm w 0 = hn_bn (hn_by w) 20 := by
  have h0 := hn_by_w w 0
  have h1 := hn_by_w w 1
  have h2 := hn_by_w w 2
  have h3 := hn_by_w w 3
  have h4 := hn_by_w w 4
  have e := hn_bn_4 (hn_by w)
  rw [show (20 : Nat) = 16 + 4 from rfl, e 16, show (16 : Nat) = 12 + 4 from rfl, e 12, show (12 : Nat) = 8 + 4 from rfl, e 8, show (8 : Nat) = 4 + 4 from rfl, e 4, show (4 : Nat) = 0 + 4 from rfl, e 0]
  unfold hn_nm
  simp only [Nat.zero_add]
  rw [← h0, ← h1, ← h2, ← h3, ← h4]
  show _ = ((((0 * 4294967296 + _) * 4294967296 + _) * 4294967296 + _) * 4294967296 + _) * 4294967296 + _
  rw [Nat.zero_mul]
  simp only [Nat.zero_add]
/-- the bytes of a cut name -/
theorem hn_cut_by (w : Nat → Int32) {n k : Nat} (hn : n ≤ 20) (hk : k < 20) : hn_by (hn_cut w n) k = if k < n then hn_by w k else 0 := by
  have hu := hn_u_lt (w (k / 4))
  unfold hn_by
  rw [hn_cut_u w hn (i := k / 4) (by omega)]
  generalize hn_u (w (k / 4)) = u at hu ⊢
  by_cases h1 : n ≤ 4 * (k / 4)
  · rw [if_pos h1, if_neg (by omega), Nat.zero_div, Nat.zero_mod]
  · rw [if_neg h1]
    by_cases h2 : 4 * (k / 4) + 4 ≤ n
    · rw [if_pos h2, if_pos (by omega)]
    · rw [if_neg h2]
      obtain ⟨c, hc⟩ : ∃ c, c = 4 * (k / 4) + 4 - n := ⟨_, rfl⟩
      obtain ⟨j, hj⟩ : ∃ j, j = k % 4 := ⟨_, rfl⟩
      have hd : k < n ↔ j + c < 4 := by omega
      rw [← hc, ← hj]
      have hc3 : c = 1 ∨ c = 2 ∨ c = 3 := by omega
      have hj3 : j = 0 ∨ j = 1 ∨ j = 2 ∨ j = 3 := by omega
      by_cases hlt : k < n
      · rw [if_pos hlt]
        have hd := hd.mp hlt
        rcases hc3 with e | e | e <;> rcases hj3 with e2 | e2 | e2 | e2 <;> rw [e, e2] at hd <;> rw [e, e2] <;> first | omega | (exfalso; revert hd; decide)
      · rw [if_neg hlt]
        have hd : ¬ j + c < 4 := fun z => hlt (hd.mpr z)
        rcases hc3 with e | e | e <;> rcases hj3 with e2 | e2 | e2 | e2 <;> rw [e, e2] at hd <;> rw [e, e2] <;> first | omega | (exfalso; revert hd; decide)
end
