/-! the class's state and the directories: pure -/
section
def hn_ent (σ : Nat → Nat → Int32) (s : Nat) : hn_E := (hn_ns σ s, (σ 5 s).toNatClampNeg, σ 6 s)
def hn_XR (σ : Nat → Nat → Int32) (h : Nat → Nat) (D : Nat → List hn_E) (tn TK : Nat) : Prop :=
  ∃ L B, hn_I σ L B ∧ (∀ d, d < 8 → D d = (L d).map (hn_ent σ) ∧ ∀ s ∈ L d, σ 5 s = nI (σ 5 s).toNatClampNeg) ∧ (∀ k, k < 20 → hn_by (σ 1) k = h k) ∧ σ 0 0 = nI tn ∧ tn ≤ 20 ∧ (∀ k, k < tn → hn_by (σ 3) k = hn_kb TK k)
theorem hn_phr (a : Nat) : ∀ (n : Nat) (l : List Nat), hn_nd l → (∀ x ∈ l, a ≤ x ∧ x < a + n) → l.length ≤ n
  | 0, [], _, _ => Nat.le_refl _
  | 0, x :: l, _, h => absurd (h x List.mem_cons_self) (by omega)
  | n + 1, l, hd, h => by
    by_cases hm : a + n ∈ l
    · have h1 := hn_rmv_len hm
      have := hn_phr a n (hn_rmv (a + n) l) (hn_rmv_nd hd) (fun x hx => by
        obtain ⟨h3, h4⟩ := (hn_rmv_mem hd).mp hx
        have := h x h3
        omega)
      omega
    · have := hn_phr a n l hd (fun x hx => by
        have h3 := h x hx
        have h4 : x ≠ a + n := fun e => hm (by rw [← e]; exact hx)
        omega)
      omega
theorem hn_pfr (a : Nat) : ∀ (n : Nat) (l : List Nat), hn_nd l → (∀ x ∈ l, a ≤ x ∧ x < a + n) → l.length = n → ∀ x, a ≤ x → x < a + n → x ∈ l
  | 0, _, _, _, _ => fun x h1 h2 => absurd h2 (by omega)
  | n + 1, l, hd, h, hl => by
    by_cases hm : a + n ∈ l
    · have h1 := hn_rmv_len hm
      have ih := hn_pfr a n (hn_rmv (a + n) l) (hn_rmv_nd hd) (fun x hx => by
        obtain ⟨h3, h4⟩ := (hn_rmv_mem hd).mp hx
        have := h x h3
        omega) (by omega)
      intro x hx1 hx2
      by_cases e : x = a + n
      · rw [e]; exact hm
      · exact ((hn_rmv_mem hd).mp (ih x hx1 (by omega))).1
    · have := hn_phr a n l hd (fun x hx => by
        have h3 := h x hx
        have h4 : x ≠ a + n := fun e => hm (by rw [← e]; exact hx)
        omega)
      omega
theorem hn_rmv_in {s t : Nat} : ∀ {l : List Nat}, t ∈ l → t ≠ s → t ∈ hn_rmv s l
  | x :: l, h, hn => by
    unfold hn_rmv
    by_cases e : x = s
    · rw [if_pos e]
      rcases List.mem_cons.mp h with z | z
      · exact absurd (z.trans e) hn
      · exact z
    · rw [if_neg e]
      rcases List.mem_cons.mp h with z | z
      · rw [z]; exact List.mem_cons_self
      · exact List.mem_cons_of_mem _ (hn_rmv_in z hn)
theorem hn_all (a : Nat) : ∀ (n : Nat) (l : List Nat), (∀ x, a ≤ x → x < a + n → x ∈ l) → n ≤ l.length
  | 0, _, _ => Nat.zero_le _
  | n + 1, l, h => by
    have hm := h (a + n) (by omega) (by omega)
    have h1 := hn_rmv_len hm
    have := hn_all a n (hn_rmv (a + n) l) (fun x h2 h3 => hn_rmv_in (h x h2 (by omega)) (by omega))
    omega
theorem hn_I.lenL {σ : Nat → Nat → Int32} {L B : Nat → List Nat} (h : hn_I σ L B) {d : Nat} (hd : d < 8) : (L d).length ≤ 48 := hn_phr (48 * d) 48 _ (hn_srt_nd (h.1 d hd).2.1) (h.1 d hd).2.2.1
theorem hn_I.lenB {σ : Nat → Nat → Int32} {L B : Nat → List Nat} (h : hn_I σ L B) {j : Nat} (hj : j < 128) : (B j).length ≤ 48 := hn_phr (48 * (j / 16)) 48 _ (hn_srt_nd (h.2.1 j hj).2.1) (fun x hx => (h.1 (j / 16) (by omega)).2.2.1 x (((h.2.1 j hj).2.2 x).mp hx).1)
theorem hn_I_keep {σ σ' : Nat → Nat → Int32} {L B : Nat → List Nat} (h : hn_I σ L B) (h4 : σ' 4 = σ 4) (h5 : σ' 5 = σ 5) (h7 : σ' 7 = σ 7) (h8 : σ' 8 = σ 8) (h9 : σ' 9 = σ 9) : hn_I σ' L B := by
  unfold hn_I hn_ns at *
  rw [h4, h5, h7, h8, h9]
  exact h
theorem hn_XR_keep {σ σ' : Nat → Nat → Int32} {h : Nat → Nat} {D : Nat → List hn_E} {tn TK : Nat} (hx : hn_XR σ h D tn TK) (h0 : σ' 0 = σ 0) (h1 : σ' 1 = σ 1) (h3 : σ' 3 = σ 3) (h4 : σ' 4 = σ 4) (h5 : σ' 5 = σ 5) (h6 : σ' 6 = σ 6) (h7 : σ' 7 = σ 7) (h8 : σ' 8 = σ 8) (h9 : σ' 9 = σ 9) : hn_XR σ' h D tn TK := by
  obtain ⟨L, B, hI, hD, a1, a2, a3, a4⟩ := hx
  refine ⟨L, B, hn_I_keep hI h4 h5 h7 h8 h9, ?_, by rw [h1]; exact a1, by rw [h0]; exact a2, a3, by rw [h3]; exact a4⟩
  intro d hd
  have e : hn_ent σ' = hn_ent σ := by
    funext s
    unfold hn_ent hn_ns
    rw [h4, h5, h6]
  rw [e, h5]
  exact hD d hd
theorem hn_map_has {nm : Nat → Nat} {en : Nat → hn_E} (he : ∀ s, (en s).1 = nm s) {K : Nat} {l : List Nat} : hn_has K (l.map en) ↔ ∃ s ∈ l, nm s = K := by
  constructor
  · rintro ⟨e, h1, h2⟩
    obtain ⟨s, hs, rfl⟩ := List.mem_map.mp h1
    exact ⟨s, hs, by rw [← he]; exact h2⟩
  · rintro ⟨s, hs, h2⟩
    exact ⟨en s, List.mem_map.mpr ⟨s, hs, rfl⟩, by rw [he]; exact h2⟩
theorem hn_map_getD {en : Nat → hn_E} : ∀ {l : List Nat} {j : Nat}, j < l.length → (l.map en).getD j hn_e0 = en (l.getD j 0)
  | s :: l, 0, _ => rfl
  | s :: l, j + 1, h => hn_map_getD (l := l) (j := j) (by have : j + 1 < l.length + 1 := h; omega)
theorem hn_map_es {nm : Nat → Nat} {en : Nat → hn_E} (he : ∀ s, (en s).1 = nm s) : ∀ {l : List Nat}, hn_srt nm l → hn_es (l.map en)
  | [], _ => trivial
  | s :: l, ⟨h1, h2⟩ => ⟨fun x hx => by
      obtain ⟨t, ht, rfl⟩ := List.mem_map.mp hx
      rw [he, he]
      exact h1 t ht, hn_map_es he h2⟩
/-- the entry of the slot that has the key -/
theorem hn_map_at {nm : Nat → Nat} {en : Nat → hn_E} (he : ∀ s, (en s).1 = nm s) {K s : Nat} {l : List Nat} (hs : hn_srt nm l) (hm : s ∈ l) (hK : nm s = K) : (l.map en).getD (hn_pc K (l.map en)) hn_e0 = en s := by
  obtain ⟨h1, h2⟩ := hn_has_pc (hn_map_es he hs) ((hn_map_has he).mpr ⟨s, hm, hK⟩)
  rw [List.length_map] at h1
  have e := hn_map_getD (en := en) h1
  rw [e] at h2 ⊢
  rw [he] at h2
  have hmem : l.getD (hn_pc K (l.map en)) 0 ∈ l := by
    rw [List.getD_eq_getElem?_getD, List.getElem?_eq_getElem h1]
    exact List.getElem_mem h1
  rw [hn_srt_inj hs hmem hm (h2.trans hK.symm)]
theorem hn_map_ins {nm : Nat → Nat} {en en' : Nat → hn_E} (he : ∀ s, (en' s).1 = nm s) {K s : Nat} (hK : nm s = K) : ∀ {l : List Nat}, (∀ t ∈ l, en' t = en t) → (hn_ins nm K s l).map en' = hn_ei (en' s) (l.map en)
  | [], _ => rfl
  | x :: l, hl => by
    have hx := hl x List.mem_cons_self
    unfold hn_ins
    show _ = if (en x).1 < (en' s).1 then en x :: hn_ei (en' s) (l.map en) else en' s :: en x :: l.map en
    rw [← hx, he, he, hK]
    have hm : l.map en' = l.map en := List.map_congr_left (fun t ht => hl t (List.mem_cons_of_mem _ ht))
    by_cases h : nm x < K
    · rw [if_pos h, if_pos h, List.map_cons, hn_map_ins he hK (fun t ht => hl t (List.mem_cons_of_mem _ ht))]
    · rw [if_neg h, if_neg h, List.map_cons, List.map_cons, hm]
theorem hn_map_rmv {nm : Nat → Nat} {en : Nat → hn_E} (he : ∀ s, (en s).1 = nm s) {K s : Nat} (hK : nm s = K) : ∀ {l : List Nat}, hn_srt nm l → s ∈ l → (hn_rmv s l).map en = hn_er K (l.map en)
  | x :: l, ⟨h1, h2⟩, hm => by
    unfold hn_rmv
    show _ = if (en x).1 = K then l.map en else en x :: hn_er K (l.map en)
    rw [he]
    by_cases h : x = s
    · rw [if_pos h, if_pos (by rw [h]; exact hK)]
    · rcases List.mem_cons.mp hm with z | hm'
      · exact absurd z.symm h
      · have := h1 s hm'
        rw [if_neg h, if_neg (show ¬ nm x = K by omega), List.map_cons, hn_map_rmv he hK h2 hm']
theorem hn_map_chg {nm : Nat → Nat} {en en' : Nat → hn_E} {x : Int32} (he : ∀ s, (en s).1 = nm s) {K s : Nat} (hK : nm s = K) (hs' : en' s = ((en s).1, (en s).2.1, x)) (ht' : ∀ t, t ≠ s → en' t = en t) : ∀ {l : List Nat}, hn_srt nm l → s ∈ l → l.map en' = hn_ec K x (l.map en)
  | y :: l, ⟨h1, h2⟩, hm => by
    show en' y :: l.map en' = if (en y).1 = K then ((en y).1, (en y).2.1, x) :: l.map en else en y :: hn_ec K x (l.map en)
    by_cases h : y = s
    · subst h
      rw [if_pos (by rw [he]; exact hK), hs']
      congr 1
      refine List.map_congr_left (fun t ht => ht' t (fun e => ?_))
      have := h1 t ht
      rw [e] at this
      exact absurd this (Nat.lt_irrefl _)
    · rcases List.mem_cons.mp hm with z | hm'
      · exact absurd z.symm h
      · have := h1 s hm'
        rw [he, if_neg (show ¬ nm y = K by omega), ht' y h, hn_map_chg he hK hs' ht' h2 hm']
theorem hn_ent1 (σ : Nat → Nat → Int32) : ∀ s, (hn_ent σ s).1 = hn_ns σ s := fun _ => rfl
/-- the key in its bucket, the key in its directory -/
theorem hn_I.bucket {σ : Nat → Nat → Int32} {L B : Nat → List Nat} (h : hn_I σ L B) {d : Nat} (hd : d < 8) (key : Nat → Int32) : ∀ s, (s ∈ B (16 * d + hn_bk key 0) ∧ hn_ns σ s = hn_nm key 0) ↔ (s ∈ L d ∧ hn_ns σ s = hn_nm key 0) := by
  intro s
  have hb := hn_bk_lt key 0
  have hm := (h.2.1 (16 * d + hn_bk key 0) (by omega)).2.2 s
  rw [show (16 * d + hn_bk key 0) / 16 = d by omega, show (16 * d + hn_bk key 0) % 16 = hn_bk key 0 by omega] at hm
  constructor
  · rintro ⟨h1, h2⟩; exact ⟨(hm.mp h1).1, h2⟩
  · rintro ⟨h1, h2⟩; exact ⟨hm.mpr ⟨h1, hn_bk_nm h2⟩, h2⟩
/-- what slotOfKey answers, in the directory's words -/
theorem hn_slot {σ : Nat → Nat → Int32} {L B : Nat → List Nat} (h : hn_I σ L B) {d : Nat} (hd : d < 8) (key : Nat → Int32) :
    (∃ s, s ∈ L d ∧ hn_ns σ s = hn_nm key 0 ∧ s < 384 ∧ hn_find (hn_ns σ) (hn_nm key 0) (B (16 * d + hn_bk key 0)) = nI s) ∨ ((∀ s ∈ L d, hn_ns σ s ≠ hn_nm key 0) ∧ hn_find (hn_ns σ) (hn_nm key 0) (B (16 * d + hn_bk key 0)) = -1) := by
  have hb := hn_bk_lt key 0
  by_cases hx : ∃ s, s ∈ L d ∧ hn_ns σ s = hn_nm key 0
  · obtain ⟨s, h1, h2⟩ := hx
    exact Or.inl ⟨s, h1, h2, (h.L hd s h1).2, hn_find_in (h.2.1 _ (by omega)).2.1 ((h.bucket hd key s).mpr ⟨h1, h2⟩).1 h2⟩
  · exact Or.inr ⟨fun s h1 h2 => hx ⟨s, h1, h2⟩, hn_find_no (fun s h1 h2 => hx ⟨s, ((h.bucket hd key s).mp ⟨h1, h2⟩).1, h2⟩)⟩
/-- what freeSlot answers -/
theorem hn_free {σ : Nat → Nat → Int32} {L B : Nat → List Nat} (h : hn_I σ L B) {d : Nat} (hd : d < 8) :
    ((L d).length = 48 ∧ hn_fr (σ 5) (d * 48) 48 = -1) ∨ (¬ (L d).length = 48 ∧ ∃ s, 48 * d ≤ s ∧ s < 48 * d + 48 ∧ s ∉ L d ∧ hn_fr (σ 5) (d * 48) 48 = nI s) := by
  have hz : ∀ t, 48 * d ≤ t → t < 48 * d + 48 → (σ 5 t = 0 ↔ t ∉ L d) := fun t h1 h2 => by
    have := h.2.2 t (by omega)
    rw [show t / 48 = d by omega] at this
    exact this
  by_cases hl : (L d).length = 48
  · refine Or.inl ⟨hl, hn_fr_no 48 (d * 48) (fun t h1 h2 z => ?_)⟩
    exact (hz t (by omega) (by omega)).mp z (hn_pfr (48 * d) 48 _ (hn_srt_nd (h.1 d hd).2.1) (h.1 d hd).2.2.1 hl t (by omega) (by omega))
  · refine Or.inr ⟨hl, ?_⟩
    have hex : ∃ t, d * 48 ≤ t ∧ t < d * 48 + 48 ∧ σ 5 t = 0 := by
      refine Classical.byContradiction (fun hn => hl ?_)
      have hall : ∀ t, 48 * d ≤ t → t < 48 * d + 48 → t ∈ L d := fun t h1 h2 => Classical.byContradiction (fun z => hn ⟨t, by omega, by omega, (hz t h1 h2).mpr z⟩)
      have h1 := h.lenL hd
      have h2 := hn_all (48 * d) 48 (L d) hall
      omega
    obtain ⟨t, h1, h2, h3, h4⟩ := hn_fr_yes 48 (d * 48) hex
    exact ⟨t, by omega, by omega, (hz t (by omega) (by omega)).mp h3, h4⟩
end
