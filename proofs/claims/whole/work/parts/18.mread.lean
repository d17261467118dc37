/-! what the reference's readers answer: pure -/
section
def hn_dir (x : Int32) : Prop := ∃ j, j < 8 ∧ x = nI j
def hn_isid (x : Int32) : Prop := 0 < x ∧ x < 65536
def hn_tf (P : Prop) (r : Int32) : Prop := (r = 1 ∧ P) ∨ (r = 0 ∧ ¬ P)
theorem hn_dir_no1 {x : Int32} (h : x < 0) : ¬ hn_dir x := fun ⟨j, hj, e⟩ => by
  rw [e] at h
  exact absurd h (nI_pos (by omega))
theorem hn_dir_no2 {x : Int32} (h : 8 ≤ x) : ¬ hn_dir x := fun ⟨j, hj, e⟩ => by
  rw [e] at h
  exact absurd h (nI_ge (a := j) (b := 8) hj (by decide))
theorem hn_dir_yes {x : Int32} (h1 : ¬ x < 0) (h2 : ¬ 8 ≤ x) : hn_dir x := by
  rcases pk_ix x (n := 8) (by decide) with h | h | ⟨j, h3, h4⟩
  · exact absurd h h1
  · exact absurd h h2
  · exact ⟨j, h3, h4⟩
theorem hn_name_no1 {h : Nat → Nat} {x : Int32} (h9 : x ≤ 0) : ¬ hn_name h x := fun ⟨j, e, h1, h2, _⟩ => by
  rw [e] at h9
  exact absurd h9 (nI_nle (by omega) (by omega))
theorem hn_name_no2 {h : Nat → Nat} {x : Int32} (h9 : 21 ≤ x) : ¬ hn_name h x := fun ⟨j, e, h1, h2, _⟩ => by
  rw [e] at h9
  exact absurd h9 (nI_ge (a := j) (b := 21) (by omega) (by decide))
theorem hn_name_r {x : Int32} (h1 : ¬ x ≤ 0) (h2 : ¬ 21 ≤ x) : ∃ j, x = nI j ∧ 1 ≤ j ∧ j ≤ 20 := by
  rcases pk_ix x (n := 21) (by decide) with h | h | ⟨j, h3, h4⟩
  · exact absurd (Int32.le_of_lt h) h1
  · exact absurd h h2
  · refine ⟨j, h4, ?_, by omega⟩
    rcases Nat.eq_zero_or_pos j with z | z
    · rw [h4, z] at h1; exact absurd (show nI 0 ≤ 0 by decide) h1
    · exact z
theorem hn_name_no3 {h : Nat → Nat} {j k : Nat} (hj : j ≤ 20) (hk : k < j) (hb : h k = 0 ∨ h k = 47) : ¬ hn_name h (nI j) := fun ⟨i, e, _, h2, h3⟩ => by
  have e : j = i := (nI_eq (by omega) (by omega)).mp e
  subst e
  rcases hb with z | z
  · exact (h3 k hk).1 z
  · exact (h3 k hk).2 z
theorem hn_b0 {b : Nat} (h : b < 256) : nI b = 0 ↔ b = 0 := nI_eq (a := b) (b := 0) (by omega) (by decide)
theorem hn_b47 {b : Nat} (h : b < 256) : nI b = 47 ↔ b = 47 := nI_eq (a := b) (b := 47) (by omega) (by decide)
/-- what compare answers -/
def hn_cmpP (K Kh : Nat) (r : Int32) : Prop := (0 < r ↔ K < Kh) ∧ (r = 0 ↔ K = Kh)
theorem hn_cp {a b K Kh : Nat} (ha : a < 256) (hb : b < 256) (h1 : a < b → Kh < K) (h2 : a = b → Kh = K) (h3 : b < a → K < Kh) : hn_cmpP K Kh (nI a - nI b) := by
  have e : (nI a - nI b).toInt = (a : Int) - b := pk_sub_toInt (by omega) (by omega)
  have p1 : 0 < nI a - nI b ↔ b < a := by
    rw [Int32.lt_iff_toInt_lt, e]
    show (0 : Int) < (a : Int) - b ↔ b < a
    omega
  refine ⟨p1.trans ?_, (hn_eq (by omega) (by omega)).trans ?_⟩
  · rcases Nat.lt_trichotomy a b with h | h | h
    · have := h1 h; omega
    · have := h2 h; omega
    · have := h3 h; omega
  · rcases Nat.lt_trichotomy a b with h | h | h
    · have := h1 h; omega
    · have := h2 h; omega
    · have := h3 h; omega
theorem hn_pc_step {K : Nat} : ∀ {l : List hn_E} {j : Nat}, (∀ i, i < j → (l.getD i hn_e0).1 < K) → j ≤ l.length → (j = l.length ∨ ¬ (l.getD j hn_e0).1 < K) → hn_pc K l = j
  | [], j, _, h2, _ => by
    have h2 : j ≤ 0 := h2
    have : j = 0 := by omega
    rw [this]; rfl
  | e :: l, 0, _, _, h3 => by
    unfold hn_pc
    rcases h3 with h3 | h3
    · exact absurd h3 (by show 0 ≠ l.length + 1; omega)
    · exact if_neg h3
  | e :: l, j + 1, h1, h2, h3 => by
    unfold hn_pc
    rw [if_pos (show e.1 < K from h1 0 (by omega))]
    have h2 : j + 1 ≤ l.length + 1 := h2
    have := hn_pc_step (K := K) (l := l) (j := j) (fun i hi => h1 (i + 1) (by omega)) (by omega) (by
      rcases h3 with h3 | h3
      · have h3 : j + 1 = l.length + 1 := h3
        exact Or.inl (by omega)
      · exact Or.inr h3)
    omega
end
