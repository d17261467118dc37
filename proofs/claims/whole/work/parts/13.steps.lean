/-! a name comes, a name goes: what holds of the state stays: pure -/
section
def hn_ul (L : Nat → List Nat) (d : Nat) (l : List Nat) : Nat → List Nat := fun j => if j = d then l else L j
theorem hn_ul_s {L : Nat → List Nat} {d : Nat} {l : List Nat} : hn_ul L d l d = l := if_pos rfl
theorem hn_ul_n {L : Nat → List Nat} {d j : Nat} {l : List Nat} (h : j ≠ d) : hn_ul L d l j = L j := if_neg h
theorem hn_srt_cg {nm nm' : Nat → Nat} : ∀ {l : List Nat}, hn_srt nm l → (∀ t ∈ l, nm' t = nm t) → hn_srt nm' l
  | [], _, _ => trivial
  | s :: l, ⟨h1, h2⟩, e => ⟨fun t ht => by rw [e s List.mem_cons_self, e t (List.mem_cons_of_mem _ ht)]; exact h1 t ht, hn_srt_cg h2 (fun t ht => e t (List.mem_cons_of_mem _ ht))⟩
theorem hn_head {L : List Nat} {d p : Nat} (h : ∀ s ∈ L, 48 * d ≤ s ∧ s < 48 * d + 48) (hd : d < 8) (hp : 384 ≤ p) : p ∉ L := fun z => by
  have := h p z
  omega
theorem hn_I.L {σ : Nat → Nat → Int32} {L B : Nat → List Nat} (h : hn_I σ L B) {d : Nat} (hd : d < 8) : ∀ s ∈ L d, s / 48 = d ∧ s < 384 := fun s hs => by
  have := (h.1 d hd).2.2.1 s hs
  omega
theorem hn_I.B {σ : Nat → Nat → Int32} {L B : Nat → List Nat} (h : hn_I σ L B) {j : Nat} (hj : j < 128) : ∀ s ∈ B j, s / 48 = j / 16 ∧ s < 384 ∧ hn_bk (σ 4) (5 * s) = j % 16 := fun s hs => by
  obtain ⟨h1, h2⟩ := ((h.2.1 j hj).2.2 s).mp hs
  have := h.L (d := j / 16) (by omega) s h1
  exact ⟨this.1, this.2, h2⟩
theorem hn_add_I {σ σ' : Nat → Nat → Int32} {L B : Nat → List Nat} {d s K j : Nat} {key : Nat → Int32} {n : Int32} (hI : hn_I σ L B) (hd : d < 8) (hs : 48 * d ≤ s ∧ s < 48 * d + 48) (hsL : s ∉ L d)
    (hK : hn_nm key 0 = K) (hno : ∀ t ∈ L d, hn_ns σ t ≠ K) (hj : j = 16 * d + hn_bk key 0) (hn : n ≠ 0)
    (h4a : ∀ i, i < 5 → σ' 4 (5 * s + i) = key i) (h4b : ∀ t, t ≠ s → ∀ i, i < 5 → σ' 4 (5 * t + i) = σ 4 (5 * t + i)) (h5 : σ' 5 = upd (σ 5) s n)
    (h7 : σ' 7 = upd (σ 7) d (nI ((L d).length + 1)))
    (h8 : σ' 8 = upd (upd (σ 8) s (σ 8 (hn_pl (hn_ns σ') K (384 + j) (B j)))) (hn_pl (hn_ns σ') K (384 + j) (B j)) (nI s))
    (h9 : σ' 9 = upd (upd (σ 9) s (σ 9 (hn_pl (hn_ns σ') K (384 + d) (L d)))) (hn_pl (hn_ns σ') K (384 + d) (L d)) (nI s)) :
    hn_I σ' (hn_ul L d (hn_ins (hn_ns σ') K s (L d))) (hn_ul B j (hn_ins (hn_ns σ') K s (B j))) := by
  have hb := hn_bk_lt key 0
  have hj8 : j < 128 := by omega
  have hjd : j / 16 = d := by omega
  have hs384 : s < 384 := by omega
  have hs48 : s / 48 = d := by omega
  have hws : ∀ i, i < 5 → σ' 4 (5 * s + i) = key (0 + i) := fun i hi => by rw [Nat.zero_add]; exact h4a i hi
  have hns : hn_ns σ' s = K := (hn_nm_of hws).trans hK
  have hbs : hn_bk (σ' 4) (5 * s) = hn_bk key 0 := hn_bk_of hws
  have hnt : ∀ t, t ≠ s → hn_ns σ' t = hn_ns σ t := fun t ht => hn_nm_of (h4b t ht)
  have hbt : ∀ t, t ≠ s → hn_bk (σ' 4) (5 * t) = hn_bk (σ 4) (5 * t) := fun t ht => hn_bk_of (h4b t ht)
  have hsL' : ∀ d', d' < 8 → s ∉ L d' := fun d' h' z => by
    have := hI.L h' s z
    have e : d' = d := by omega
    rw [e] at z
    exact hsL z
  have hsB' : ∀ j', j' < 128 → s ∉ B j' := fun j' h' z => hsL' (j' / 16) (by omega) (((hI.2.1 j' h').2.2 s).mp z).1
  have hneL : ∀ d', d' < 8 → ∀ t ∈ L d', t ≠ s := fun d' h' t ht e => hsL' d' h' (by rw [← e]; exact ht)
  have hneB : ∀ j', j' < 128 → ∀ t ∈ B j', t ≠ s := fun j' h' t ht e => hsB' j' h' (by rw [← e]; exact ht)
  have srtL : ∀ d', d' < 8 → hn_srt (hn_ns σ') (L d') := fun d' h' => hn_srt_cg (hI.1 d' h').2.1 (fun t ht => hnt t (hneL d' h' t ht))
  have srtB : ∀ j', j' < 128 → hn_srt (hn_ns σ') (B j') := fun j' h' => hn_srt_cg (hI.2.1 j' h').2.1 (fun t ht => hnt t (hneB j' h' t ht))
  have hnoL : ∀ t ∈ L d, hn_ns σ' t ≠ K := fun t ht => by rw [hnt t (hneL d hd t ht)]; exact hno t ht
  have hnoB : ∀ t ∈ B j, hn_ns σ' t ≠ K := fun t ht => hnoL t (by have := (((hI.2.1 j hj8).2.2 t).mp ht).1; rw [hjd] at this; exact this)
  have q9 := hn_pl_mem (hn_ns σ') K (L d) (384 + d)
  have q8 := hn_pl_mem (hn_ns σ') K (B j) (384 + j)
  refine ⟨fun d' h' => ?_, fun j' h' => ?_, fun t ht => ?_⟩
  · by_cases e : d' = d
    · subst e
      rw [hn_ul_s]
      refine ⟨?_, hn_ins_srt hns (srtL _ hd) hnoL, fun t ht => ?_, ?_⟩
      · rw [h9]
        exact hn_ch_ins hs384 (hI.1 _ hd).1 (hn_head (hI.1 _ hd).2.2.1 hd (by omega)) (hn_srt_nd (hI.1 _ hd).2.1) (by omega) hsL
      · rcases hn_ins_mem.mp ht with rfl | ht
        · exact hs
        · exact (hI.1 _ hd).2.2.1 t ht
      · rw [h7, pk_us, hn_ins_len]
    · rw [hn_ul_n e]
      refine ⟨?_, srtL d' h', (hI.1 d' h').2.2.1, ?_⟩
      · rw [h9]
        refine hn_ch_keep (hI.1 d' h').1 ?_ (fun t ht => ?_)
        · rw [pk_un, pk_un (by omega)]
          rcases q9 with z | z
          · rw [z]; omega
          · have := hI.L hd _ z
            omega
        · have ht' := hI.L h' t ht
          rw [pk_un, pk_un (hneL d' h' t ht)]
          rcases q9 with z | z
          · rw [z]; omega
          · have := hI.L hd _ z
            intro e2
            rw [← e2] at this
            omega
      · rw [h7, pk_un e]
        exact (hI.1 d' h').2.2.2
  · have mem : ∀ t, t ∈ hn_ul L d (hn_ins (hn_ns σ') K s (L d)) (j' / 16) ↔ (t = s ∧ j' / 16 = d) ∨ t ∈ L (j' / 16) := fun t => by
      by_cases e : j' / 16 = d
      · rw [e, hn_ul_s, hn_ins_mem]; simp
      · rw [hn_ul_n e]; simp [e]
    by_cases e : j' = j
    · subst e
      rw [hn_ul_s]
      refine ⟨?_, hn_ins_srt hns (srtB _ hj8) hnoB, fun t => ?_⟩
      · rw [h8]
        exact hn_ch_ins hs384 (hI.2.1 _ hj8).1 (fun z => by have := hI.B hj8 _ z; omega) (hn_srt_nd (hI.2.1 _ hj8).2.1) (by omega) (hsB' _ hj8)
      · rw [hn_ins_mem, mem t]
        by_cases ets : t = s
        · subst ets
          rw [hbs]
          constructor
          · intro _; exact ⟨Or.inl ⟨rfl, hjd⟩, by omega⟩
          · intro _; exact Or.inl rfl
        · rw [hbt t ets, (hI.2.1 _ hj8).2.2 t]
          constructor
          · rintro (z | ⟨z1, z2⟩)
            · exact absurd z ets
            · exact ⟨Or.inr z1, z2⟩
          · rintro ⟨z | z, z2⟩
            · exact absurd z.1 ets
            · exact Or.inr ⟨z, z2⟩
    · rw [hn_ul_n e]
      refine ⟨?_, srtB j' h', fun t => ?_⟩
      · rw [h8]
        refine hn_ch_keep (hI.2.1 j' h').1 ?_ (fun t ht => ?_)
        · rw [pk_un, pk_un (by omega)]
          rcases q8 with z | z
          · rw [z]; omega
          · have := hI.B hj8 _ z
            omega
        · have ht' := hI.B h' t ht
          rw [pk_un, pk_un (hneB j' h' t ht)]
          rcases q8 with z | z
          · rw [z]; omega
          · have := hI.B hj8 _ z
            intro e2
            rw [← e2] at this
            omega
      · rw [mem t, (hI.2.1 j' h').2.2 t]
        by_cases ets : t = s
        · subst ets
          rw [hbs]
          constructor
          · rintro ⟨z, -⟩
            exact absurd z (hsL' _ (by omega))
          · rintro ⟨z | z, z2⟩
            · exact absurd (show j' = j by omega) e
            · exact absurd z (hsL' _ (by omega))
        · rw [hbt t ets]
          constructor
          · rintro ⟨z1, z2⟩; exact ⟨Or.inr z1, z2⟩
          · rintro ⟨z | z, z2⟩
            · exact absurd z.1 ets
            · exact ⟨z, z2⟩
  · rw [h5]
    by_cases e : t = s
    · subst e
      rw [pk_us, hs48, hn_ul_s]
      constructor
      · intro z; exact absurd z hn
      · intro z; exact absurd (hn_ins_mem.mpr (Or.inl rfl)) z
    · rw [pk_un e, hI.2.2 t ht]
      by_cases e2 : t / 48 = d
      · rw [e2, hn_ul_s, hn_ins_mem]
        constructor
        · rintro z (z2 | z2)
          · exact e z2
          · exact z z2
        · intro z z2; exact z (Or.inr z2)
      · rw [hn_ul_n e2]
theorem hn_rem_I {σ σ' : Nat → Nat → Int32} {L B : Nat → List Nat} {d s K j : Nat} (hI : hn_I σ L B) (hd : d < 8) (hsL : s ∈ L d)
    (hK : hn_ns σ s = K) (hj : j = 16 * d + hn_bk (σ 4) (5 * s)) (h4 : σ' 4 = σ 4) (h5 : σ' 5 = upd (σ 5) s 0)
    (h7 : σ' 7 = upd (σ 7) d (nI ((L d).length - 1)))
    (h8 : σ' 8 = upd (σ 8) (hn_pl (hn_ns σ) K (384 + j) (B j)) (σ 8 s))
    (h9 : σ' 9 = upd (σ 9) (hn_pl (hn_ns σ) K (384 + d) (L d)) (σ 9 s)) :
    hn_I σ' (hn_ul L d (hn_rmv s (L d))) (hn_ul B j (hn_rmv s (B j))) := by
  have hb := hn_bk_lt (σ 4) (5 * s)
  have hj8 : j < 128 := by omega
  have hjd : j / 16 = d := by omega
  have hjm : hn_bk (σ 4) (5 * s) = j % 16 := by omega
  have hs0 := hI.L hd s hsL
  have hsB : s ∈ B j := ((hI.2.1 j hj8).2.2 s).mpr ⟨by rw [hjd]; exact hsL, hjm⟩
  have hns : ∀ t, hn_ns σ' t = hn_ns σ t := fun t => by show hn_nm (σ' 4) (5 * t) = _; rw [h4]
  have q9 := hn_pl_mem (hn_ns σ) K (L d) (384 + d)
  have q8 := hn_pl_mem (hn_ns σ) K (B j) (384 + j)
  have ndL := hn_srt_nd (hI.1 d hd).2.1
  have ndB := hn_srt_nd (hI.2.1 j hj8).2.1
  have cg : ∀ l, hn_srt (hn_ns σ) l → hn_srt (hn_ns σ') l := fun l h => hn_srt_cg h (fun t _ => hns t)
  refine ⟨fun d' h' => ?_, fun j' h' => ?_, fun t ht => ?_⟩
  · by_cases e : d' = d
    · subst e
      rw [hn_ul_s]
      refine ⟨?_, cg _ (hn_rmv_srt (hI.1 _ hd).2.1), fun t ht => (hI.1 _ hd).2.2.1 t ((hn_rmv_mem ndL).mp ht).1, ?_⟩
      · rw [h9]
        exact (hn_ch_rmv hK (hI.1 _ hd).1 (hI.1 _ hd).2.1 (hn_head (hI.1 _ hd).2.2.1 hd (by omega)) hsL).2
      · have := hn_rmv_len hsL
        rw [h7, pk_us, ← this, Nat.add_sub_cancel]
    · rw [hn_ul_n e]
      refine ⟨?_, cg _ (hI.1 d' h').2.1, (hI.1 d' h').2.2.1, ?_⟩
      · rw [h9]
        refine hn_ch_keep (hI.1 d' h').1 ?_ (fun t ht => ?_)
        · rw [pk_un]
          rcases q9 with z | z
          · rw [z]; omega
          · have := hI.L hd _ z
            omega
        · have ht' := hI.L h' t ht
          rw [pk_un]
          rcases q9 with z | z
          · rw [z]; omega
          · have := hI.L hd _ z
            intro e2
            rw [← e2] at this
            omega
      · rw [h7, pk_un e]
        exact (hI.1 d' h').2.2.2
  · have mem : ∀ t, t ∈ hn_ul L d (hn_rmv s (L d)) (j' / 16) ↔ t ≠ s ∧ t ∈ L (j' / 16) := fun t => by
      by_cases e : j' / 16 = d
      · rw [e, hn_ul_s, hn_rmv_mem ndL]
        exact ⟨fun h => ⟨h.2, h.1⟩, fun h => ⟨h.2, h.1⟩⟩
      · rw [hn_ul_n e]
        refine ⟨fun h => ⟨fun e2 => ?_, h⟩, fun h => h.2⟩
        have := hI.L (d := j' / 16) (by omega) t h
        rw [e2] at this
        omega
    by_cases e : j' = j
    · subst e
      rw [hn_ul_s]
      refine ⟨?_, cg _ (hn_rmv_srt (hI.2.1 _ hj8).2.1), fun t => ?_⟩
      · rw [h8]
        exact (hn_ch_rmv hK (hI.2.1 _ hj8).1 (hI.2.1 _ hj8).2.1 (fun z => by have := hI.B hj8 _ z; omega) hsB).2
      · rw [hn_rmv_mem ndB, mem t, h4, (hI.2.1 _ hj8).2.2 t]
        constructor
        · rintro ⟨⟨z1, z2⟩, z3⟩; exact ⟨⟨z3, z1⟩, z2⟩
        · rintro ⟨⟨z1, z2⟩, z3⟩; exact ⟨⟨z2, z3⟩, z1⟩
    · rw [hn_ul_n e]
      refine ⟨?_, cg _ (hI.2.1 j' h').2.1, fun t => ?_⟩
      · rw [h8]
        refine hn_ch_keep (hI.2.1 j' h').1 ?_ (fun t ht => ?_)
        · rw [pk_un]
          rcases q8 with z | z
          · rw [z]; omega
          · have := hI.B hj8 _ z
            omega
        · have ht' := hI.B h' t ht
          rw [pk_un]
          rcases q8 with z | z
          · rw [z]; omega
          · have := hI.B hj8 _ z
            intro e2
            rw [← e2] at this
            omega
      · rw [mem t, h4, (hI.2.1 j' h').2.2 t]
        constructor
        · rintro ⟨z1, z2⟩
          refine ⟨⟨fun e2 => ?_, z1⟩, z2⟩
          have := hI.L (d := j' / 16) (by omega) t z1
          rw [e2] at this z2
          omega
        · rintro ⟨⟨z1, z2⟩, z3⟩; exact ⟨z2, z3⟩
  · rw [h5]
    by_cases e : t = s
    · subst e
      rw [pk_us, hs0.1, hn_ul_s, hn_rmv_mem ndL]
      simp
    · rw [pk_un e, hI.2.2 t ht]
      by_cases e2 : t / 48 = d
      · rw [e2, hn_ul_s, hn_rmv_mem ndL]
        simp [e]
      · rw [hn_ul_n e2]
end
