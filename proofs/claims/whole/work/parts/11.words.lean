/-! words without a sign, and the number that five of them are: pure -/
section
def hn_u (x : Int32) : Nat := x.toUInt32.toNat
theorem hn_u_lt (x : Int32) : hn_u x < 4294967296 := x.toUInt32.toNat_lt
theorem hn_u_bv (x : Int32) : x.toBitVec.toNat = hn_u x := rfl
theorem hn_u_inj {x y : Int32} (h : hn_u x = hn_u y) : x = y := Int32.toBitVec_inj.mp (BitVec.eq_of_toNat_eq h)
theorem hn_nat_xor {a : Nat} (h : a < 4294967296) : a ^^^ 2 ^ 31 = (a + 2147483648) % 4294967296 := by
  have h1 : (a ^^^ 2 ^ 31) % 2 ^ 31 = a % 2 ^ 31 := by rw [Nat.xor_mod_two_pow, Nat.mod_self, Nat.xor_zero]
  have h2 : (a ^^^ 2 ^ 31) / 2 ^ 31 = (a / 2 ^ 31) ^^^ 1 := by rw [Nat.xor_div_two_pow, Nat.div_self (Nat.two_pow_pos 31)]
  have h3 : a / 2 ^ 31 = 0 ∨ a / 2 ^ 31 = 1 := by omega
  generalize a ^^^ 2 ^ 31 = t at h1 h2
  rcases h3 with h3 | h3
  · rw [h3] at h2
    have h2 : t / 2 ^ 31 = 1 := h2
    omega
  · rw [h3] at h2
    have h2 : t / 2 ^ 31 = 0 := h2
    omega
theorem hn_u_xor (x : Int32) : hn_u (x ^^^ (-2147483648)) = (hn_u x + 2147483648) % 4294967296 := by
  rw [← hn_nat_xor (hn_u_lt x)]
  exact UInt32.toNat_xor _ _
theorem hn_u_int (x : Int32) : x.toInt = if 2 * hn_u x < 4294967296 then (hn_u x : Int) else (hn_u x : Int) - 4294967296 := BitVec.toInt_eq_toNat_cond _
/-- compared without a sign -/
theorem hn_u_le (x y : Int32) : (x ^^^ (-2147483648)) ≤ (y ^^^ (-2147483648)) ↔ hn_u x ≤ hn_u y := by
  have hx := hn_u_lt x
  have hy := hn_u_lt y
  rw [Int32.le_iff_toInt_le, hn_u_int, hn_u_int, hn_u_xor, hn_u_xor]
  omega
theorem hn_u_ltx (x y : Int32) : (x ^^^ (-2147483648)) < (y ^^^ (-2147483648)) ↔ hn_u x < hn_u y := by
  have hx := hn_u_lt x
  have hy := hn_u_lt y
  rw [Int32.lt_iff_toInt_lt, hn_u_int, hn_u_int, hn_u_xor, hn_u_xor]
  omega
/-- the number of the five words from b on -/
def hn_nm (w : Nat → Int32) (b : Nat) : Nat := (((hn_u (w b) * 4294967296 + hn_u (w (b + 1))) * 4294967296 + hn_u (w (b + 2))) * 4294967296 + hn_u (w (b + 3))) * 4294967296 + hn_u (w (b + 4))
theorem hn_nm_eq {w v : Nat → Int32} {b c : Nat} (h : hn_nm w b = hn_nm v c) : ∀ i, i < 5 → w (b + i) = v (c + i) := by
  have a0 := hn_u_lt (w b); have a1 := hn_u_lt (w (b + 1)); have a2 := hn_u_lt (w (b + 2)); have a3 := hn_u_lt (w (b + 3)); have a4 := hn_u_lt (w (b + 4))
  have c0 := hn_u_lt (v c); have c1 := hn_u_lt (v (c + 1)); have c2 := hn_u_lt (v (c + 2)); have c3 := hn_u_lt (v (c + 3)); have c4 := hn_u_lt (v (c + 4))
  unfold hn_nm at h
  intro i hi
  apply hn_u_inj
  rcases (show i = 0 ∨ i = 1 ∨ i = 2 ∨ i = 3 ∨ i = 4 by omega) with rfl | rfl | rfl | rfl | rfl
  · show hn_u (w b) = hn_u (v c); omega
  · omega
  · omega
  · omega
  · omega
theorem hn_nm_of {w v : Nat → Int32} {b c : Nat} (h : ∀ i, i < 5 → w (b + i) = v (c + i)) : hn_nm w b = hn_nm v c := by
  unfold hn_nm
  have h0 : w b = v c := h 0 (by decide)
  rw [h0, h 1 (by decide), h 2 (by decide), h 3 (by decide), h 4 (by decide)]
/-- the first word that differs decides -/
theorem hn_nm_lt {w v : Nat → Int32} {b c : Nat} {i : Nat} (hi : i < 5) (h : ∀ j, j < i → w (b + j) = v (c + j)) (hl : hn_u (w (b + i)) < hn_u (v (c + i))) : hn_nm w b < hn_nm v c := by
  have a0 := hn_u_lt (w b); have a1 := hn_u_lt (w (b + 1)); have a2 := hn_u_lt (w (b + 2)); have a3 := hn_u_lt (w (b + 3)); have a4 := hn_u_lt (w (b + 4))
  have c0 := hn_u_lt (v c); have c1 := hn_u_lt (v (c + 1)); have c2 := hn_u_lt (v (c + 2)); have c3 := hn_u_lt (v (c + 3)); have c4 := hn_u_lt (v (c + 4))
  unfold hn_nm
  rcases (show i = 0 ∨ i = 1 ∨ i = 2 ∨ i = 3 ∨ i = 4 by omega) with rfl | rfl | rfl | rfl | rfl
  · have hl : hn_u (w b) < hn_u (v c) := hl
    omega
  · have e0 : w b = v c := h 0 (by decide)
    rw [e0]; omega
  · have e0 : w b = v c := h 0 (by decide)
    have e1 := h 1 (by decide)
    rw [e0, e1]; omega
  · have e0 : w b = v c := h 0 (by decide)
    have e1 := h 1 (by decide)
    have e2 := h 2 (by decide)
    rw [e0, e1, e2]; omega
  · have e0 : w b = v c := h 0 (by decide)
    have e1 := h 1 (by decide)
    have e2 := h 2 (by decide)
    have e3 := h 3 (by decide)
    rw [e0, e1, e2, e3]; omega
/-- what compareWithKey answers -/
def hn_cmp (a k : Nat) : Int32 := if a < k then -1 else if a = k then 0 else 1
end
