/-! what the readers answer: pure -/
section
def hn_isl (x : Int32) : Int32 := if x < 0 then 0 else if 384 ≤ x then 0 else 1
theorem hn_isl_m1 : hn_isl (-1) = 0 := by decide +kernel
theorem hn_isl_n {s : Nat} (h : s < 384) : hn_isl (nI s) = 1 := by
  unfold hn_isl
  rw [if_neg (nI_pos (by omega)), if_neg (show ¬ (384 : Int32) ≤ nI s from nI_ge (a := s) (b := 384) h (by decide))]
theorem hn_cmp_lt {a k : Nat} (h : a < k) : hn_cmp a k = -1 := if_pos h
theorem hn_cmp_eq {a k : Nat} (h : a = k) : hn_cmp a k = 0 := by
  unfold hn_cmp
  rw [if_neg (by omega), if_pos h]
theorem hn_cmp_gt {a k : Nat} (h : k < a) : hn_cmp a k = 1 := by
  unfold hn_cmp
  rw [if_neg (by omega), if_neg (by omega)]
theorem hn_cmp_neg {a k : Nat} : hn_cmp a k < 0 ↔ a < k := by
  rcases Nat.lt_trichotomy a k with h | h | h
  · rw [hn_cmp_lt h]; exact ⟨fun _ => h, fun _ => by decide⟩
  · rw [hn_cmp_eq h]; exact ⟨fun z => absurd z (by decide), fun z => by omega⟩
  · rw [hn_cmp_gt h]; exact ⟨fun z => absurd z (by decide), fun z => by omega⟩
theorem hn_cmp_zero {a k : Nat} : hn_cmp a k = 0 ↔ a = k := by
  rcases Nat.lt_trichotomy a k with h | h | h
  · rw [hn_cmp_lt h]; exact ⟨fun z => absurd z (by decide), fun z => by omega⟩
  · rw [hn_cmp_eq h]; exact ⟨fun _ => h, fun _ => rfl⟩
  · rw [hn_cmp_gt h]; exact ⟨fun z => absurd z (by decide), fun z => by omega⟩
theorem hn_z {v : Nat → Int32} {w : Nat → Int32} {b i : Nat} (h : ∀ j, j < i → w (b + j) = v j) : ∀ j, j < i → w (b + j) = v (0 + j) := fun j hj => by rw [Nat.zero_add]; exact h j hj
theorem hn_cw0 {w v : Nat → Int32} {b : Nat} (h : ∀ j, j < 5 → w (b + j) = v j) : hn_cmp (hn_nm w b) (hn_nm v 0) = 0 := hn_cmp_eq (hn_nm_of (hn_z h))
theorem hn_cw1 {w v : Nat → Int32} {b i : Nat} (hi : i < 5) (h : ∀ j, j < i → w (b + j) = v j) (c : ¬ (v i ^^^ (-2147483648)) ≤ (w (b + i) ^^^ (-2147483648))) : hn_cmp (hn_nm w b) (hn_nm v 0) = -1 := by
  rw [hn_u_le] at c
  exact hn_cmp_lt (hn_nm_lt hi (hn_z h) (by rw [Nat.zero_add]; omega))
theorem hn_cw2 {w v : Nat → Int32} {b i : Nat} (hi : i < 5) (h : ∀ j, j < i → w (b + j) = v j) (ne : ¬ w (b + i) = v i) (c : (v i ^^^ (-2147483648)) ≤ (w (b + i) ^^^ (-2147483648))) : hn_cmp (hn_nm w b) (hn_nm v 0) = 1 := by
  rw [hn_u_le] at c
  have hne : hn_u (w (b + i)) ≠ hn_u (v i) := fun z => ne (hn_u_inj z)
  exact hn_cmp_gt (hn_nm_lt hi (fun j hj => (hn_z h j hj).symm) (by rw [Nat.zero_add]; omega))
theorem hn_ush28 (x : Int32) : (x.toUInt32 >>> ((28 : Int32).toUInt32 &&& Int32.toUInt32 31)).toInt32 = nI (hn_u x / 268435456) := by
  apply hn_u_inj
  have := hn_u_lt x
  rw [hn_nI_u (by omega)]
  exact pk_ushr x 28 28 (by decide +kernel)
/-- what slotOfKey answers of a bucket's slots -/
def hn_find (nm : Nat → Nat) (K : Nat) (l : List Nat) : Int32 := match hn_fst nm K l with
  | none => -1
  | some s => if nm s = K then nI s else -1
theorem hn_find_in {nm : Nat → Nat} {K s : Nat} {l : List Nat} (h : hn_srt nm l) (hs : s ∈ l) (hK : nm s = K) : hn_find nm K l = nI s := by
  unfold hn_find
  rw [hn_fst_srt h hs hK]
  exact if_pos hK
theorem hn_find_no {nm : Nat → Nat} {K : Nat} {l : List Nat} (h : ∀ s ∈ l, nm s ≠ K) : hn_find nm K l = -1 := by
  unfold hn_find
  cases hf : hn_fst nm K l with
  | none => rfl
  | some s => exact if_neg (h s (hn_fst_mem hf))
/-- what freeSlot answers: the first free one of k from s on -/
def hn_fr (f : Nat → Int32) : Nat → Nat → Int32
  | _, 0 => -1
  | s, k + 1 => if f s = 0 then nI s else hn_fr f (s + 1) k
theorem hn_fr_no {f : Nat → Int32} : ∀ (k s : Nat), (∀ t, s ≤ t → t < s + k → f t ≠ 0) → hn_fr f s k = -1
  | 0, _, _ => rfl
  | k + 1, s, h => by
    unfold hn_fr
    rw [if_neg (h s (Nat.le_refl _) (by omega))]
    exact hn_fr_no k (s + 1) (fun t h1 h2 => h t (by omega) (by omega))
theorem hn_fr_yes {f : Nat → Int32} : ∀ (k s : Nat), (∃ t, s ≤ t ∧ t < s + k ∧ f t = 0) → ∃ t, s ≤ t ∧ t < s + k ∧ f t = 0 ∧ hn_fr f s k = nI t
  | 0, s, ⟨t, h1, h2, _⟩ => absurd h2 (by omega)
  | k + 1, s, ⟨t, h1, h2, h3⟩ => by
    unfold hn_fr
    by_cases h : f s = 0
    · exact ⟨s, Nat.le_refl _, by omega, h, if_pos h⟩
    · have hne : t ≠ s := fun e => h (by rw [← e]; exact h3)
      obtain ⟨u, g1, g2, g3, g4⟩ := hn_fr_yes k (s + 1) ⟨t, by omega, by omega, h3⟩
      exact ⟨u, by omega, by omega, g3, by rw [if_neg h]; exact g4⟩
/-- the k-th of a chain -/
theorem hn_ch_hd {ln : Nat → Int32} : ∀ {l : List Nat} {p : Nat}, hn_ch ln p l → 0 < l.length → ln p = nI (l.getD 0 0)
  | [], _, _, h => absurd h (Nat.lt_irrefl 0)
  | s :: l, _, ⟨h1, _, _⟩, _ => h1
theorem hn_ch_nx {ln : Nat → Int32} : ∀ {l : List Nat} {p : Nat}, hn_ch ln p l → ∀ i, i + 1 < l.length → ln (l.getD i 0) = nI (l.getD (i + 1) 0)
  | [], _, _, i, h => absurd h (Nat.not_lt_zero _)
  | s :: l, _, ⟨_, _, h3⟩, 0, h => hn_ch_hd h3 (by have : 0 + 1 < l.length + 1 := h; omega)
  | s :: l, _, ⟨_, _, h3⟩, i + 1, h => hn_ch_nx h3 i (by have : i + 1 + 1 < l.length + 1 := h; omega)
theorem hn_ch_gl {ln : Nat → Int32} : ∀ {l : List Nat} {p : Nat}, hn_ch ln p l → ∀ i, i < l.length → l.getD i 0 < 384
  | [], _, _, i, h => absurd h (Nat.not_lt_zero _)
  | s :: l, _, ⟨_, h2, h3⟩, 0, _ => h2
  | s :: l, _, ⟨_, h2, h3⟩, i + 1, h => hn_ch_gl h3 i (by have : i + 1 < l.length + 1 := h; omega)
/-- the slot of the k-th name -/
def hn_nth (l : List Nat) (k : Nat) : Int32 := if l.length ≤ k then -1 else nI (l.getD k 0)
end
