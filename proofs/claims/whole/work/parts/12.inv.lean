/-! the state of the class, and what holds of it: pure -/
section
/-- row k of the state gets other contents -/
def hn_up (σ : Nat → Nat → Int32) (k : Nat) (f : Nat → Int32) : Nat → Nat → Int32 := fun j => if j = k then f else σ j
theorem hn_up_s {σ : Nat → Nat → Int32} {k : Nat} {f : Nat → Int32} : hn_up σ k f k = f := if_pos rfl
theorem hn_up_n {σ : Nat → Nat → Int32} {k j : Nat} {f : Nat → Int32} (h : j ≠ k) : hn_up σ k f j = σ j := if_neg h
/-- the hash of the words from b on, i of them -/
def hn_h (w : Nat → Int32) (b : Nat) : Nat → Int32
  | 0 => 0
  | i + 1 => (hn_h w b i ^^^ w (b + i)) * (-1640531535)
def hn_bk (w : Nat → Int32) (b : Nat) : Nat := hn_u (hn_h w b 5) / 268435456
theorem hn_bk_lt (w : Nat → Int32) (b : Nat) : hn_bk w b < 16 := by
  have := hn_u_lt (hn_h w b 5)
  unfold hn_bk
  omega
theorem hn_h_of {w v : Nat → Int32} {b c : Nat} (h : ∀ i, i < 5 → w (b + i) = v (c + i)) : ∀ n, n ≤ 5 → hn_h w b n = hn_h v c n
  | 0, _ => rfl
  | n + 1, hn => by
    show (hn_h w b n ^^^ w (b + n)) * _ = (hn_h v c n ^^^ v (c + n)) * _
    rw [hn_h_of h n (by omega), h n (by omega)]
theorem hn_bk_of {w v : Nat → Int32} {b c : Nat} (h : ∀ i, i < 5 → w (b + i) = v (c + i)) : hn_bk w b = hn_bk v c := by
  unfold hn_bk
  rw [hn_h_of h 5 (Nat.le_refl _)]
theorem hn_bk_nm {w v : Nat → Int32} {b c : Nat} (h : hn_nm w b = hn_nm v c) : hn_bk w b = hn_bk v c := hn_bk_of (hn_nm_eq h)
/-- the number of the name in slot s -/
abbrev hn_ns (σ : Nat → Nat → Int32) (s : Nat) : Nat := hn_nm (σ 4) (5 * s)
/-- the invariant: L d: the slots of directory d in order; B j: those of bucket j -/
def hn_I (σ : Nat → Nat → Int32) (L B : Nat → List Nat) : Prop :=
  (∀ d, d < 8 → hn_ch (σ 9) (384 + d) (L d) ∧ hn_srt (hn_ns σ) (L d) ∧ (∀ s ∈ L d, 48 * d ≤ s ∧ s < 48 * d + 48) ∧ σ 7 d = nI (L d).length) ∧
  (∀ j, j < 128 → hn_ch (σ 8) (384 + j) (B j) ∧ hn_srt (hn_ns σ) (B j) ∧ ∀ s, s ∈ B j ↔ s ∈ L (j / 16) ∧ hn_bk (σ 4) (5 * s) = j % 16) ∧
  (∀ s, s < 384 → (σ 5 s = 0 ↔ s ∉ L (s / 48)))
/-- a list of different numbers below n has at most n of them -/
theorem hn_ph : ∀ (n : Nat) (l : List Nat), hn_nd l → (∀ x ∈ l, x < n) → l.length ≤ n
  | 0, [], _, _ => Nat.le_refl _
  | 0, x :: l, _, h => absurd (h x List.mem_cons_self) (Nat.not_lt_zero _)
  | n + 1, l, hd, h => by
    by_cases hm : n ∈ l
    · have h1 := hn_rmv_len hm
      have hd' : hn_nd (hn_rmv n l) := hn_rmv_nd hd
      have := hn_ph n (hn_rmv n l) hd' (fun x hx => by
        obtain ⟨h3, h4⟩ := (hn_rmv_mem hd).mp hx
        have := h x h3
        omega)
      omega
    · have := hn_ph n l hd (fun x hx => by
        have h3 := h x hx
        have h4 : x ≠ n := fun e => hm (by rw [← e]; exact hx)
        omega)
      omega
/-- .. and if it has n of them, it has all -/
theorem hn_pf : ∀ (n : Nat) (l : List Nat), hn_nd l → (∀ x ∈ l, x < n) → l.length = n → ∀ x, x < n → x ∈ l
  | 0, _, _, _, _ => fun x h => absurd h (Nat.not_lt_zero _)
  | n + 1, l, hd, h, hl => by
    by_cases hm : n ∈ l
    · have h1 := hn_rmv_len hm
      have hd' : hn_nd (hn_rmv n l) := hn_rmv_nd hd
      have ih := hn_pf n (hn_rmv n l) hd' (fun x hx => by
        obtain ⟨h3, h4⟩ := (hn_rmv_mem hd).mp hx
        have := h x h3
        omega) (by omega)
      intro x hx
      by_cases e : x = n
      · rw [e]; exact hm
      · exact ((hn_rmv_mem hd).mp (ih x (by omega))).1
    · have := hn_ph n l hd (fun x hx => by
        have h3 := h x hx
        have h4 : x ≠ n := fun e => hm (by rw [← e]; exact hx)
        omega)
      omega
end
