/-! names as numbers, the entries of a directory, the reference's state: pure -/
section
/-- a name: its number, its length, its id -/
abbrev hn_E : Type := Nat × Nat × Int32
def hn_e0 : hn_E := (0, 0, 0)
def hn_kb (K k : Nat) : Nat := K / 256 ^ (19 - k) % 256
theorem hn_kb_lt (K k : Nat) : hn_kb K k < 256 := Nat.mod_lt _ (by decide)
def hn_wf (e : hn_E) : Prop := 1 ≤ e.2.1 ∧ e.2.1 ≤ 20 ∧ e.1 < 256 ^ 20 ∧ (∀ k, k < e.2.1 → hn_kb e.1 k ≠ 0) ∧ (∀ k, e.2.1 ≤ k → k < 20 → hn_kb e.1 k = 0)
/-- the first n bytes, zeros behind -/
def hn_hc (h : Nat → Nat) (n : Nat) : Nat → Nat := fun k => if k < n then h k else 0
theorem hn_hc_lt {h : Nat → Nat} (hh : ∀ k, h k < 256) (n k : Nat) : hn_hc h n k < 256 := by
  unfold hn_hc
  by_cases hk : k < n
  · rw [if_pos hk]; exact hh k
  · rw [if_neg hk]; decide
def hn_num (h : Nat → Nat) (n : Nat) : Nat := hn_bn (hn_hc h n) 20
def hn_name (h : Nat → Nat) (n : Int32) : Prop := ∃ j, n = nI j ∧ 1 ≤ j ∧ j ≤ 20 ∧ ∀ k, k < j → h k ≠ 0 ∧ h k ≠ 47
theorem hn_bn_b {f : Nat → Nat} (hf : ∀ k, f k < 256) : ∀ n, hn_bn f n < 256 ^ n
  | 0 => by show 0 < 1; decide
  | n + 1 => by
    have := hn_bn_b hf n
    have h2 := hf n
    show hn_bn f n * 256 + f n < 256 ^ n * 256
    omega
theorem hn_bn_d {f : Nat → Nat} (hf : ∀ k, f k < 256) : ∀ (n k : Nat), k < n → hn_bn f n / 256 ^ (n - 1 - k) % 256 = f k
  | 0, k, h => absurd h (Nat.not_lt_zero _)
  | n + 1, k, h => by
    have h2 := hf n
    show (hn_bn f n * 256 + f n) / 256 ^ (n + 1 - 1 - k) % 256 = f k
    by_cases e : k = n
    · subst e
      rw [show k + 1 - 1 - k = 0 by omega, Nat.pow_zero, Nat.div_one]
      omega
    · have ih := hn_bn_d hf n k (by omega)
      rw [show n + 1 - 1 - k = (n - 1 - k) + 1 by omega, Nat.pow_succ, Nat.mul_comm (256 ^ (n - 1 - k)) 256, ← Nat.div_div_eq_div_mul]
      rw [show (hn_bn f n * 256 + f n) / 256 = hn_bn f n by omega]
      exact ih
theorem hn_kb_bn {f : Nat → Nat} (hf : ∀ k, f k < 256) {k : Nat} (hk : k < 20) : hn_kb (hn_bn f 20) k = f k := hn_bn_d hf 20 k hk
theorem hn_bn_kb0 (K : Nat) : ∀ n, n ≤ 20 → hn_bn (hn_kb K) n = K / 256 ^ (20 - n) % 256 ^ n
  | 0, _ => by rw [Nat.pow_zero, Nat.mod_one]; rfl
  | n + 1, h => by
    have ih := hn_bn_kb0 K n (by omega)
    show hn_bn (hn_kb K) n * 256 + K / 256 ^ (19 - n) % 256 = _
    rw [ih, show 20 - (n + 1) = 19 - n by omega, show 20 - n = (19 - n) + 1 by omega, Nat.pow_succ, ← Nat.div_div_eq_div_mul, Nat.pow_succ, Nat.mul_comm (256 ^ n) 256, Nat.mod_mul, Nat.mul_comm]
    omega
theorem hn_bn_kb {K : Nat} (h : K < 256 ^ 20) : hn_bn (hn_kb K) 20 = K := by
  rw [hn_bn_kb0 K 20 (by decide), show 20 - 20 = 0 from rfl, Nat.pow_zero, Nat.div_one, Nat.mod_eq_of_lt h]
theorem hn_num_lt {h : Nat → Nat} (hh : ∀ k, h k < 256) (n : Nat) : hn_num h n < 256 ^ 20 := hn_bn_b (hn_hc_lt hh n) 20
theorem hn_num_wf {h : Nat → Nat} (hh : ∀ k, h k < 256) {n : Nat} (h1 : 1 ≤ n) (h2 : n ≤ 20) (hz : ∀ k, k < n → h k ≠ 0) (x : Int32) : hn_wf (hn_num h n, n, x) := by
  refine ⟨h1, h2, hn_num_lt hh n, fun k hk => ?_, fun k h3 h4 => ?_⟩
  · show hn_kb (hn_num h n) k ≠ 0
    have hk : k < n := hk
    rw [show hn_kb (hn_num h n) k = hn_hc h n k from hn_kb_bn (hn_hc_lt hh n) (by omega)]
    unfold hn_hc
    rw [if_pos hk]
    exact hz k hk
  · show hn_kb (hn_num h n) k = 0
    have h3 : n ≤ k := h3
    rw [show hn_kb (hn_num h n) k = hn_hc h n k from hn_kb_bn (hn_hc_lt hh n) h4]
    exact if_neg (by omega)
/-- how the reference's comparison tells two names' numbers apart -/
theorem hn_ce_lt {h : Nat → Nat} {n k : Nat} {e : hn_E} (hh : ∀ k, h k < 256) (hw : hn_wf e) (hn : n ≤ 20) (hk : k < n) (hj : ∀ j, j < k → h j = hn_kb e.1 j) (hl : h k < hn_kb e.1 k) : hn_num h n < e.1 := by
  have := hn_bn_lt (f := hn_hc h n) (g := hn_kb e.1) (hn_hc_lt hh n) (k := k) (n := 20) (by omega) (fun j hj2 => by rw [← hj j hj2]; exact if_pos (by omega)) (by rw [show hn_hc h n k = h k from if_pos hk]; exact hl)
  rw [hn_bn_kb hw.2.2.1] at this
  exact this
theorem hn_ce_gt {h : Nat → Nat} {n k : Nat} {e : hn_E} (hw : hn_wf e) (hn : n ≤ 20) (hk : k < n) (hj : ∀ j, j < k → h j = hn_kb e.1 j) (hl : hn_kb e.1 k < h k) : e.1 < hn_num h n := by
  have := hn_bn_lt (f := hn_kb e.1) (g := hn_hc h n) (hn_kb_lt e.1) (k := k) (n := 20) (by omega) (fun j hj2 => by rw [← hj j hj2]; exact (if_pos (by omega)).symm) (by rw [show hn_hc h n k = h k from if_pos hk]; exact hl)
  rw [hn_bn_kb hw.2.2.1] at this
  exact this
theorem hn_ce_end {h : Nat → Nat} {n : Nat} {e : hn_E} (hh : ∀ k, h k < 256) (hw : hn_wf e) (h1 : 1 ≤ n) (hn : n ≤ 20) (hz : ∀ k, k < n → h k ≠ 0) (hj : ∀ j, j < n → j < e.2.1 → h j = hn_kb e.1 j) :
    (n < e.2.1 → hn_num h n < e.1) ∧ (n = e.2.1 → hn_num h n = e.1) ∧ (e.2.1 < n → e.1 < hn_num h n) := by
  refine ⟨fun hl => ?_, fun he => ?_, fun hl => ?_⟩
  · have := hn_bn_lt (f := hn_hc h n) (g := hn_kb e.1) (hn_hc_lt hh n) (k := n) (n := 20) (by have := hw.2.1; omega) (fun j hj2 => by rw [← hj j hj2 (by omega)]; exact if_pos (by omega)) (by
      rw [show hn_hc h n n = 0 from if_neg (Nat.lt_irrefl _)]
      have := hw.2.2.2.1 n hl
      omega)
    rw [hn_bn_kb hw.2.2.1] at this
    exact this
  · have := hn_bn_of (f := hn_hc h n) (g := hn_kb e.1) 20 (fun j hj2 => by
      by_cases hjn : j < n
      · rw [← hj j hjn (by omega)]; exact if_pos hjn
      · rw [hw.2.2.2.2 j (by omega) hj2]; exact if_neg hjn)
    rw [hn_bn_kb hw.2.2.1] at this
    exact this
  · have := hn_bn_lt (f := hn_kb e.1) (g := hn_hc h n) (hn_kb_lt e.1) (k := e.2.1) (n := 20) (by omega) (fun j hj2 => by rw [← hj j (by omega) hj2]; exact (if_pos (by omega)).symm) (by
      rw [show hn_hc h n e.2.1 = h e.2.1 from if_pos hl, hw.2.2.2.2 e.2.1 (Nat.le_refl _) (by omega)]
      have := hz e.2.1 hl
      omega)
    rw [hn_bn_kb hw.2.2.1] at this
    exact this
/-- names in order -/
def hn_es : List hn_E → Prop
  | [] => True
  | e :: l => (∀ x ∈ l, e.1 < x.1) ∧ hn_es l
def hn_DO (D : Nat → List hn_E) : Prop := ∀ d, d < 8 → hn_es (D d) ∧ (D d).length ≤ 48 ∧ ∀ e ∈ D d, hn_wf e
/-- how many stand ahead of K -/
def hn_pc (K : Nat) : List hn_E → Nat
  | [] => 0
  | e :: l => if e.1 < K then hn_pc K l + 1 else 0
theorem hn_pc_le (K : Nat) : ∀ l : List hn_E, hn_pc K l ≤ l.length
  | [] => Nat.le_refl _
  | e :: l => by
    unfold hn_pc
    by_cases h : e.1 < K
    · rw [if_pos h]; exact Nat.succ_le_succ (hn_pc_le K l)
    · rw [if_neg h]; exact Nat.zero_le _
theorem hn_pc_below {K : Nat} : ∀ {l : List hn_E} {j : Nat}, j < hn_pc K l → (l.getD j hn_e0).1 < K
  | [], j, h => absurd h (Nat.not_lt_zero _)
  | e :: l, j, h => by
    unfold hn_pc at h
    by_cases h1 : e.1 < K
    · rw [if_pos h1] at h
      cases j with
      | zero => exact h1
      | succ j => exact hn_pc_below (l := l) (j := j) (by omega)
    · rw [if_neg h1] at h; exact absurd h (Nat.not_lt_zero _)
theorem hn_pc_at {K : Nat} : ∀ {l : List hn_E}, hn_pc K l < l.length → ¬ (l.getD (hn_pc K l) hn_e0).1 < K
  | [], h => absurd h (Nat.not_lt_zero _)
  | e :: l, h => by
    unfold hn_pc at h ⊢
    by_cases h1 : e.1 < K
    · rw [if_pos h1] at h ⊢
      exact hn_pc_at (l := l) (by have : hn_pc K l + 1 < l.length + 1 := h; omega)
    · rw [if_neg h1]; exact h1
/-- the reference's state: h the bytes at hand, D the directories, told: tn bytes tb -/
def hn_MR (τ : Nat → Nat → Int32) (h : Nat → Nat) (D : Nat → List hn_E) (tn : Nat) (tb : Nat → Nat) : Prop :=
  (∀ k, k < 20 → τ 1 k = nI (h k)) ∧ (∀ k, h k < 256) ∧
  (∀ d, d < 8 → τ 2 d = nI (D d).length ∧ ∀ j, j < (D d).length → τ 3 (48 * d + j) = ((D d).getD j hn_e0).2.2 ∧ τ 4 (48 * d + j) = nI ((D d).getD j hn_e0).2.1 ∧
    ∀ k, k < ((D d).getD j hn_e0).2.1 → τ 5 (20 * (48 * d + j) + k) = nI (hn_kb ((D d).getD j hn_e0).1 k)) ∧
  τ 0 1 = nI tn ∧ tn ≤ 20 ∧ (∀ k, k < tn → τ 6 k = nI (tb k))
abbrev hn_wM (am : Nat → Nat) (cI : ClassId) (τ : Nat → Nat → Int32) : va_W :=
  [(am 0, .inr (1, [.int (τ 0 0), .ref (am 1), .ref (am 2), .ref (am 3), .ref (am 4), .ref (am 5), .ref (am 6), .int (τ 0 1)])),
   (am 1, .inl (cI, 20, .inl (τ 1))), (am 2, .inl (cI, 8, .inl (τ 2))), (am 3, .inl (cI, 384, .inl (τ 3))), (am 4, .inl (cI, 384, .inl (τ 4))), (am 5, .inl (cI, 7680, .inl (τ 5))), (am 6, .inl (cI, 20, .inl (τ 6)))]
theorem hn_getD_mem {l : List hn_E} {j : Nat} (h : j < l.length) : l.getD j hn_e0 ∈ l := by
  rw [List.getD_eq_getElem?_getD, List.getElem?_eq_getElem h]
  exact List.getElem_mem h
theorem hn_eq {i j : Nat} (h1 : i < 2147483648) (h2 : j < 2147483648) : nI i - nI j = 0 ↔ i = j := by
  constructor
  · intro z
    have z2 : nI i = nI j := by
      have := congrArg (· + nI j) z
      simpa using this
    exact (nI_eq h1 h2).mp z2
  · intro z
    rw [z]
    simp
/-- a reader whose answer is one of some -/
def hn_QE (P : Int32 → Prop) : Array Value → State → Outcome → State → Prop := fun _ st o t => ∃ r : Int32, P r ∧ o = .returned (some (.int r)) ∧ t.heap = st.heap
theorem hn_callE {p : Program} {l : Launch} {e : Env} {R : Room} {s : State} {m : MethodId} {args : Array Value} {below : List Frame} {meth : Method} {c : Code} {H : Heap} {locs : List Loc} {cells slots : Nat} {Q : State → Prop} {g : JFrame} {rest : List Value} {a : Array Value} {P : Int32 → Prop}
    (hr : CallRun p l e R s m args below meth c H locs cells slots 0 0 g rest (hn_QE P a) (fun _ => False)) (kk : ∀ z : Int32, P z → W p l e R s m args below meth c H locs cells slots Q { g with pc := g.pc + 3, stack := .int z :: rest }) : W p l e R s m args below meth c H locs cells slots Q g := by
  intro T hT X
  obtain ⟨v, st₀, t, T', L, h0, X', hL, e1, ⟨z, hz, hv, hh⟩, st⟩ := hr T hT X
  cases hv
  obtain ⟨t2, a1, b1⟩ := kk z hz T' (by rw [e1, hh, h0]) (Stand.forget X' (fun q h => (hL q h).elim))
  exact ⟨t2, st t2 a1, b1⟩
end
