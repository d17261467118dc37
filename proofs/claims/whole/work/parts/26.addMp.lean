/-! a name comes into the reference's rows, a name goes: pure -/
section
/-- what move(a, b) leaves -/
def hn_mvd (τ τ9 : Nat → Nat → Int32) (a b : Nat) : Prop := τ9 0 = τ 0 ∧ τ9 1 = τ 1 ∧ τ9 2 = τ 2 ∧ τ9 6 = τ 6 ∧ τ9 3 = upd (τ 3) b (τ 3 a) ∧ τ9 4 = upd (τ 4) b (τ 4 a) ∧ (∀ j, j < 20 → τ9 5 (20 * b + j) = τ 5 (20 * a + j)) ∧ ∀ q, ¬ (20 * b ≤ q ∧ q < 20 * b + 20) → τ9 5 q = τ 5 q
theorem hn_mvd_to {τ τ9 : Nat → Nat → Int32} {a b : Nat} {e : hn_E} (h : hn_mvd τ τ9 a b) (hs : hn_sl τ a e) (hn : e.2.1 ≤ 20) : hn_sl τ9 b e := by
  obtain ⟨-, -, -, -, h3, h4, h5, -⟩ := h
  exact ⟨by rw [h3, pk_us]; exact hs.1, by rw [h4, pk_us]; exact hs.2.1, fun k hk => (h5 k (by omega)).trans (hs.2.2 k hk)⟩
theorem hn_mvd_keep {τ τ9 : Nat → Nat → Int32} {a b i : Nat} {e : hn_E} (h : hn_mvd τ τ9 a b) (hs : hn_sl τ i e) (hn : e.2.1 ≤ 20) (hi : i ≠ b) : hn_sl τ9 i e := by
  obtain ⟨-, -, -, -, h3, h4, -, h6⟩ := h
  exact hn_sl_keep hs hn (by rw [h3, pk_un hi]) (by rw [h4, pk_un hi]) (fun k hk => h6 _ (by omega))
/-- the reference's add, its first loop: from place t on all stand one further -/
def hn_iv1 (τ1 τ3 : Nat → Nat → Int32) (d : Nat) (l : List hn_E) (t : Nat) : Prop :=
  τ3 0 = τ1 0 ∧ τ3 1 = τ1 1 ∧ τ3 2 = τ1 2 ∧ τ3 6 = τ1 6 ∧ (∀ j, j < t → hn_sl τ3 (48 * d + j) (l.getD j hn_e0)) ∧ (∀ j, t < j → j ≤ l.length → hn_sl τ3 (48 * d + j) (l.getD (j - 1) hn_e0)) ∧
  ∀ i e, (i < 48 * d ∨ 48 * d + 48 ≤ i) → e.2.1 ≤ 20 → hn_sl τ1 i e → hn_sl τ3 i e
theorem hn_iv1_0 {τ1 : Nat → Nat → Int32} {D : Nat → List hn_E} {d : Nat} (hM : hn_MD τ1 D) (hd : d < 8) : hn_iv1 τ1 τ1 d (D d) (D d).length :=
  ⟨rfl, rfl, rfl, rfl, (hM d hd).2, fun j h1 h2 => absurd h1 (by omega), fun _ _ _ _ h => h⟩
theorem hn_iv1_s {τ1 τ3 τ4 : Nat → Nat → Int32} {d t : Nat} {l : List hn_E} (h : hn_iv1 τ1 τ3 d l (t + 1)) (hm : hn_mvd τ3 τ4 (48 * d + t) (48 * d + t + 1)) (ht : t < l.length) (hl : l.length < 48) (hw : ∀ e ∈ l, hn_wf e) : hn_iv1 τ1 τ4 d l t := by
  obtain ⟨a0, a1, a2, a6, b1, b2, b3⟩ := h
  have wl : ∀ j, j < l.length → (l.getD j hn_e0).2.1 ≤ 20 := fun j hj => (hw _ (hn_getD_mem hj)).2.1
  refine ⟨hm.1.trans a0, hm.2.1.trans a1, hm.2.2.1.trans a2, hm.2.2.2.1.trans a6, fun j hj => ?_, fun j h1 h2 => ?_, fun i e hi hn hs => ?_⟩
  · exact hn_mvd_keep hm (b1 j (by omega)) (wl j (by omega)) (by omega)
  · by_cases e : j = t + 1
    · subst e
      exact hn_mvd_to hm (b1 t (by omega)) (wl t ht)
    · exact hn_mvd_keep hm (b2 j (by omega) h2) (wl _ (by omega)) (by omega)
  · exact hn_mvd_keep hm (b3 i e hi hn hs) hn (by omega)
theorem hn_add_M {τ1 τ3 τF : Nat → Nat → Int32} {D : Nat → List hn_E} {d n K : Nat} {h : Nat → Nat} {x : Int32} (hO : hn_DO D) (hM : hn_MD τ1 D) (hd : d < 8) (hh : ∀ k, h k < 256) (h1 : 1 ≤ n) (h2 : n ≤ 20) (hz : ∀ k, k < n → h k ≠ 0) (hK : K = hn_num h n)
    (hno : ¬ hn_has K (D d)) (hfull : ¬ (D d).length = 48) (hI : hn_iv1 τ1 τ3 d (D d) (hn_pc K (D d)))
    (f2 : τF 2 = upd (τ1 2) d (nI ((D d).length + 1))) (f3 : τF 3 = upd (τ3 3) (48 * d + hn_pc K (D d)) x) (f4 : τF 4 = upd (τ3 4) (48 * d + hn_pc K (D d)) (nI n))
    (f5 : ∀ j, j < n → τF 5 (20 * (48 * d + hn_pc K (D d)) + j) = nI (h j)) (f6 : ∀ q, ¬ (20 * (48 * d + hn_pc K (D d)) ≤ q ∧ q < 20 * (48 * d + hn_pc K (D d)) + 20) → τF 5 q = τ3 5 q) :
    hn_MD τF (hn_ud D d (hn_ei (K, n, x) (D d))) ∧ hn_DO (hn_ud D d (hn_ei (K, n, x) (D d))) := by
  have hlen := (hO d hd).2.1
  have hpc := hn_pc_le K (D d)
  have hnew : hn_wf (K, n, x) := by rw [hK]; exact hn_num_wf hh h1 h2 hz x
  have wl : ∀ j, j < (D d).length → ((D d).getD j hn_e0).2.1 ≤ 20 := fun j hj => ((hO d hd).2.2 _ (hn_getD_mem hj)).2.1
  obtain ⟨a0, a1, a2, a6, b1, b2, b3⟩ := hI
  have keep : ∀ i e, i ≠ 48 * d + hn_pc K (D d) → e.2.1 ≤ 20 → hn_sl τ3 i e → hn_sl τF i e := fun i e hi hn hs =>
    hn_sl_keep hs hn (by rw [f3, pk_un hi]) (by rw [f4, pk_un hi]) (fun k hk => f6 _ (by omega))
  refine ⟨hn_MD_put hO hM hd (by rw [f2, hn_ei_len]) (by rw [hn_ei_len]; omega) (fun i e hi hn hs => keep i e (by omega) hn (b3 i e hi hn hs)) (fun j hj => ?_), hn_DO_put hO (hn_ei_es (hO d hd).1 hno) (by rw [hn_ei_len]; omega) (fun e he => ?_)⟩
  · rw [hn_ei_len] at hj
    rw [hn_ei_at (D d) j]
    show hn_sl τF (48 * d + j) (if j < hn_pc K (D d) then (D d).getD j hn_e0 else if j = hn_pc K (D d) then (K, n, x) else (D d).getD (j - 1) hn_e0)
    by_cases g1 : j < hn_pc K (D d)
    · rw [if_pos g1]
      exact keep _ _ (by omega) (wl j (by omega)) (b1 j g1)
    · rw [if_neg g1]
      by_cases g2 : j = hn_pc K (D d)
      · rw [if_pos g2, g2]
        refine ⟨by rw [f3, pk_us], by rw [f4, pk_us], fun k hk => ?_⟩
        have hk : k < n := hk
        rw [f5 k hk]
        show nI (h k) = nI (hn_kb K k)
        rw [hK, show hn_kb (hn_num h n) k = hn_hc h n k from hn_kb_bn (hn_hc_lt hh n) (by omega)]
        unfold hn_hc
        rw [if_pos hk]
      · rw [if_neg g2]
        exact keep _ _ (by omega) (wl _ (by omega)) (b2 j (by omega) (by omega))
  · rcases hn_ei_mem he with e1 | e1
    · rw [e1]; exact hnew
    · exact (hO d hd).2.2 e e1
/-- the reference's remove, its loop -/
def hn_iv3 (τ1 τ3 : Nat → Nat → Int32) (d K : Nat) (l : List hn_E) (t : Nat) : Prop :=
  τ3 0 = τ1 0 ∧ τ3 1 = τ1 1 ∧ τ3 2 = τ1 2 ∧ τ3 6 = τ1 6 ∧ (∀ j, j < t → hn_sl τ3 (48 * d + j) ((hn_er K l).getD j hn_e0)) ∧ (∀ j, t < j → j < l.length → hn_sl τ3 (48 * d + j) (l.getD j hn_e0)) ∧
  ∀ i e, (i < 48 * d ∨ 48 * d + 48 ≤ i) → e.2.1 ≤ 20 → hn_sl τ1 i e → hn_sl τ3 i e
theorem hn_iv3_0 {τ1 : Nat → Nat → Int32} {l : List hn_E} {d K : Nat} (hM : ∀ j, j < l.length → hn_sl τ1 (48 * d + j) (l.getD j hn_e0)) (hs : hn_es l) (hh : hn_has K l) : hn_iv3 τ1 τ1 d K l (hn_pc K l) := by
  have hp := (hn_has_pc hs hh).1
  refine ⟨rfl, rfl, rfl, rfl, fun j hj => ?_, fun j _ h2 => hM j h2, fun _ _ _ _ h => h⟩
  rw [hn_er_at hs hh j, if_pos hj]
  exact hM j (by omega)
theorem hn_iv3_s {τ1 τ3 τ4 : Nat → Nat → Int32} {d t K : Nat} {l : List hn_E} (h : hn_iv3 τ1 τ3 d K l t) (hm : hn_mvd τ3 τ4 (48 * d + t + 1) (48 * d + t)) (hs : hn_es l) (hh : hn_has K l) (hp : hn_pc K l ≤ t) (ht : t + 1 < l.length) (hl : l.length ≤ 48) (hw : ∀ e ∈ l, hn_wf e) : hn_iv3 τ1 τ4 d K l (t + 1) := by
  obtain ⟨a0, a1, a2, a6, b1, b2, b3⟩ := h
  have wl : ∀ j, j < l.length → (l.getD j hn_e0).2.1 ≤ 20 := fun j hj => (hw _ (hn_getD_mem hj)).2.1
  have we : ∀ j, j + 1 < l.length → ((hn_er K l).getD j hn_e0).2.1 ≤ 20 := fun j hj => by
    have := hn_er_len hh
    exact (hw _ (hn_er_mem (hn_getD_mem (by omega)))).2.1
  refine ⟨hm.1.trans a0, hm.2.1.trans a1, hm.2.2.1.trans a2, hm.2.2.2.1.trans a6, fun j hj => ?_, fun j h1 h2 => ?_, fun i e hi hn hs => ?_⟩
  · by_cases e : j = t
    · subst e
      rw [hn_er_at hs hh j, if_neg (by omega)]
      exact hn_mvd_to hm (b2 (j + 1) (by omega) ht) (wl _ ht)
    · exact hn_mvd_keep hm (b1 j (by omega)) (we j (by omega)) (by omega)
  · exact hn_mvd_keep hm (b2 j (by omega) h2) (wl j h2) (by omega)
  · exact hn_mvd_keep hm (b3 i e hi hn hs) hn (by omega)
theorem hn_rem_M {τ1 τ2 τF : Nat → Nat → Int32} {D : Nat → List hn_E} {d K : Nat} (hO : hn_DO D) (hM : hn_MD τ1 D) (hd : d < 8) (hh : hn_has K (D d)) (g2 : τ2 2 = upd (τ1 2) d (nI ((D d).length - 1))) (g3 : τ2 3 = τ1 3) (g4 : τ2 4 = τ1 4) (g5 : τ2 5 = τ1 5)
    (hI : hn_iv3 τ2 τF d K (D d) ((D d).length - 1)) : hn_MD τF (hn_ud D d (hn_er K (D d))) ∧ hn_DO (hn_ud D d (hn_er K (D d))) := by
  obtain ⟨a0, a1, a2, a6, b1, b2, b3⟩ := hI
  have hlen := (hO d hd).2.1
  have hel := hn_er_len hh
  refine ⟨hn_MD_put hO hM hd (by rw [a2, g2, show (D d).length - 1 = (hn_er K (D d)).length by omega]) (by omega) (fun i e hi hn hs => b3 i e hi hn (hn_sl_keep hs hn (by rw [g3]) (by rw [g4]) (fun k _ => by rw [g5]))) (fun j hj => b1 j (by omega)), hn_DO_put hO (hn_er_es (hO d hd).1) (by omega) (fun e he => (hO d hd).2.2 e (hn_er_mem he))⟩
end
