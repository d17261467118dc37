/-! chains of slots in a row of links: pure -/
section
/-- the links from place p on lead through the slots of the list, and end -/
def hn_ch (ln : Nat → Int32) : Nat → List Nat → Prop
  | p, [] => ln p = -1
  | p, s :: l => ln p = nI s ∧ s < 384 ∧ hn_ch ln s l
/-- the last place whose slot is below K -/
def hn_pl (nm : Nat → Nat) (K : Nat) : Nat → List Nat → Nat
  | p, [] => p
  | p, s :: l => if nm s < K then hn_pl nm K s l else p
/-- put in, in order -/
def hn_ins (nm : Nat → Nat) (K s : Nat) : List Nat → List Nat
  | [] => [s]
  | t :: l => if nm t < K then t :: hn_ins nm K s l else s :: t :: l
/-- strictly rising -/
def hn_srt (nm : Nat → Nat) : List Nat → Prop
  | [] => True
  | s :: l => (∀ t ∈ l, nm s < nm t) ∧ hn_srt nm l
/-- the first that is not below K -/
def hn_fst (nm : Nat → Nat) (K : Nat) : List Nat → Option Nat
  | [] => none
  | s :: l => if nm s < K then hn_fst nm K l else some s

theorem hn_ch_lt {ln : Nat → Int32} : ∀ {l : List Nat} {p : Nat}, hn_ch ln p l → ∀ t ∈ l, t < 384
  | [], _, _, _, h => by cases h
  | s :: l, _, ⟨_, h2, h3⟩, t, h => by
    rcases List.mem_cons.mp h with rfl | h
    · exact h2
    · exact hn_ch_lt h3 t h
theorem hn_ch_keep {ln ln' : Nat → Int32} : ∀ {l : List Nat} {p : Nat}, hn_ch ln p l → ln' p = ln p → (∀ t ∈ l, ln' t = ln t) → hn_ch ln' p l
  | [], _, h, e, _ => e.trans h
  | s :: l, _, ⟨h1, h2, h3⟩, e, k => ⟨e.trans h1, h2, hn_ch_keep h3 (k s List.mem_cons_self) (fun t ht => k t (List.mem_cons_of_mem _ ht))⟩
theorem hn_pl_mem (nm : Nat → Nat) (K : Nat) : ∀ (l : List Nat) (p : Nat), hn_pl nm K p l = p ∨ hn_pl nm K p l ∈ l
  | [], _ => Or.inl rfl
  | s :: l, p => by
    unfold hn_pl
    by_cases h : nm s < K
    · rw [if_pos h]
      rcases hn_pl_mem nm K l s with e | e
      · rw [e]; exact Or.inr List.mem_cons_self
      · exact Or.inr (List.mem_cons_of_mem _ e)
    · rw [if_neg h]; exact Or.inl rfl
/-- what stands behind the place -/
theorem hn_pl_next {ln : Nat → Int32} {nm : Nat → Nat} {K : Nat} : ∀ {l : List Nat} {p : Nat}, hn_ch ln p l → (hn_fst nm K l = none ∧ ln (hn_pl nm K p l) = -1) ∨ ∃ s, hn_fst nm K l = some s ∧ ln (hn_pl nm K p l) = nI s ∧ s ∈ l ∧ ¬ nm s < K
  | [], _, h => Or.inl ⟨rfl, h⟩
  | s :: l, p, ⟨h1, h2, h3⟩ => by
    unfold hn_pl hn_fst
    by_cases h : nm s < K
    · rw [if_pos h, if_pos h]
      rcases hn_pl_next (nm := nm) (K := K) h3 with ⟨a, b⟩ | ⟨t, a, b, c, d⟩
      · exact Or.inl ⟨a, b⟩
      · exact Or.inr ⟨t, a, b, List.mem_cons_of_mem _ c, d⟩
    · rw [if_neg h, if_neg h]
      exact Or.inr ⟨s, rfl, h1, List.mem_cons_self, h⟩
theorem hn_ins_mem {nm : Nat → Nat} {K s t : Nat} : ∀ {l : List Nat}, t ∈ hn_ins nm K s l ↔ t = s ∨ t ∈ l
  | [] => by unfold hn_ins; simp
  | x :: l => by
    unfold hn_ins
    by_cases h : nm x < K
    · rw [if_pos h]
      simp only [List.mem_cons, hn_ins_mem]
      constructor
      · rintro (h | h | h)
        · exact Or.inr (Or.inl h)
        · exact Or.inl h
        · exact Or.inr (Or.inr h)
      · rintro (h | h | h)
        · exact Or.inr (Or.inl h)
        · exact Or.inl h
        · exact Or.inr (Or.inr h)
    · rw [if_neg h]; simp
theorem hn_ins_len {nm : Nat → Nat} {K s : Nat} : ∀ {l : List Nat}, (hn_ins nm K s l).length = l.length + 1
  | [] => rfl
  | x :: l => by
    unfold hn_ins
    by_cases h : nm x < K
    · rw [if_pos h]; simp [hn_ins_len]
    · rw [if_neg h]; rfl
theorem hn_ins_srt {nm : Nat → Nat} {K s : Nat} (hs : nm s = K) : ∀ {l : List Nat}, hn_srt nm l → (∀ t ∈ l, nm t ≠ K) → hn_srt nm (hn_ins nm K s l)
  | [], _, _ => ⟨fun _ h => (by cases h), trivial⟩
  | x :: l, ⟨h1, h2⟩, hn => by
    unfold hn_ins
    by_cases h : nm x < K
    · rw [if_pos h]
      refine ⟨fun t ht => ?_, hn_ins_srt hs h2 (fun t ht => hn t (List.mem_cons_of_mem _ ht))⟩
      rcases hn_ins_mem.mp ht with rfl | ht
      · omega
      · exact h1 t ht
    · rw [if_neg h]
      have hx := hn x List.mem_cons_self
      refine ⟨fun t ht => ?_, h1, h2⟩
      rcases List.mem_cons.mp ht with rfl | ht
      · omega
      · have := h1 t ht
        omega
/-- no slot stands twice -/
def hn_nd : List Nat → Prop
  | [] => True
  | s :: l => s ∉ l ∧ hn_nd l
theorem hn_srt_nd {nm : Nat → Nat} : ∀ {l : List Nat}, hn_srt nm l → hn_nd l
  | [], _ => trivial
  | s :: l, ⟨h1, h2⟩ => ⟨fun h => absurd (h1 s h) (Nat.lt_irrefl _), hn_srt_nd h2⟩
theorem hn_srt_inj {nm : Nat → Nat} : ∀ {l : List Nat}, hn_srt nm l → ∀ {s t : Nat}, s ∈ l → t ∈ l → nm s = nm t → s = t
  | x :: l, ⟨h1, h2⟩, s, t, hs, ht, e => by
    rcases List.mem_cons.mp hs with e1 | hs'
    · rcases List.mem_cons.mp ht with e2 | ht'
      · rw [e1, e2]
      · rw [e1] at e
        exact absurd e (Nat.ne_of_lt (h1 t ht'))
    · rcases List.mem_cons.mp ht with e2 | ht'
      · rw [e2] at e
        exact absurd e.symm (Nat.ne_of_lt (h1 s hs'))
      · exact hn_srt_inj h2 hs' ht' e
/-- the first that is not below K is the one that is K, if there is one -/
theorem hn_fst_srt {nm : Nat → Nat} {K : Nat} : ∀ {l : List Nat}, hn_srt nm l → ∀ {s : Nat}, s ∈ l → nm s = K → hn_fst nm K l = some s
  | x :: l, ⟨h1, h2⟩, s, hs, e => by
    unfold hn_fst
    rcases List.mem_cons.mp hs with rfl | hs
    · rw [if_neg (by omega)]
    · have := h1 s hs
      rw [if_pos (by omega)]
      exact hn_fst_srt h2 hs e
theorem hn_fst_mem {nm : Nat → Nat} {K : Nat} : ∀ {l : List Nat} {s : Nat}, hn_fst nm K l = some s → s ∈ l
  | x :: l, s, h => by
    unfold hn_fst at h
    by_cases hx : nm x < K
    · rw [if_pos hx] at h; exact List.mem_cons_of_mem _ (hn_fst_mem h)
    · rw [if_neg hx] at h; cases h; exact List.mem_cons_self
/-- a slot is put into its chain -/
theorem hn_ch_ins {ln : Nat → Int32} {nm : Nat → Nat} {K s : Nat} (hs : s < 384) : ∀ {l : List Nat} {p : Nat}, hn_ch ln p l → p ∉ l → hn_nd l → s ≠ p → s ∉ l →
    hn_ch (upd (upd ln s (ln (hn_pl nm K p l))) (hn_pl nm K p l) (nI s)) p (hn_ins nm K s l)
  | [], p, h, _, _, hsp, _ => by
    unfold hn_pl hn_ins
    refine ⟨pk_us, hs, ?_⟩
    show upd (upd ln s (ln p)) p (nI s) s = -1
    rw [pk_un hsp, pk_us]; exact h
  | x :: l, p, ⟨h1, h2, h3⟩, hp, ⟨n1, n2⟩, hsp, hsl => by
    have hpx : p ≠ x := fun e => hp (by rw [e]; exact List.mem_cons_self)
    have hsx : s ≠ x := fun e => hsl (by rw [e]; exact List.mem_cons_self)
    have hsl' : s ∉ l := fun e => hsl (List.mem_cons_of_mem _ e)
    have hpl : p ∉ l := fun e => hp (List.mem_cons_of_mem _ e)
    unfold hn_pl hn_ins
    by_cases h : nm x < K
    · rw [if_pos h, if_pos h]
      refine ⟨?_, h2, hn_ch_ins hs h3 n1 n2 hsx hsl'⟩
      have hq : p ≠ hn_pl nm K x l := by
        rcases hn_pl_mem nm K l x with e | e
        · rw [e]; exact hpx
        · intro z; exact hpl (by rw [z]; exact e)
      rw [pk_un hq, pk_un (Ne.symm hsp)]; exact h1
    · rw [if_neg h, if_neg h]
      refine ⟨pk_us, hs, ?_, h2, ?_⟩
      · show upd (upd ln s (ln p)) p (nI s) s = nI x
        rw [pk_un hsp, pk_us]; exact h1
      · refine hn_ch_keep h3 ?_ (fun t ht => ?_)
        · rw [pk_un (Ne.symm hpx), pk_un (Ne.symm hsx)]
        · rw [pk_un (fun e => hpl (by rw [← e]; exact ht)), pk_un (fun e => hsl' (by rw [← e]; exact ht))]
/-- a slot is taken out of its chain -/
def hn_rmv (s : Nat) : List Nat → List Nat
  | [] => []
  | t :: l => if t = s then l else t :: hn_rmv s l
theorem hn_rmv_mem {s t : Nat} : ∀ {l : List Nat}, hn_nd l → (t ∈ hn_rmv s l ↔ t ∈ l ∧ t ≠ s)
  | [], _ => by unfold hn_rmv; simp
  | x :: l, ⟨h1, h2⟩ => by
    unfold hn_rmv
    by_cases h : x = s
    · rw [if_pos h]
      subst h
      simp only [List.mem_cons]
      constructor
      · intro ht; exact ⟨Or.inr ht, fun e => h1 (by rw [← e]; exact ht)⟩
      · rintro ⟨h3 | h3, h4⟩
        · exact absurd h3 h4
        · exact h3
    · rw [if_neg h]
      simp only [List.mem_cons, hn_rmv_mem h2]
      constructor
      · rintro (h3 | ⟨h3, h4⟩)
        · exact ⟨Or.inl h3, by rw [h3]; exact h⟩
        · exact ⟨Or.inr h3, h4⟩
      · rintro ⟨h3 | h3, h4⟩
        · exact Or.inl h3
        · exact Or.inr ⟨h3, h4⟩
theorem hn_rmv_nd {s : Nat} : ∀ {l : List Nat}, hn_nd l → hn_nd (hn_rmv s l)
  | [], _ => trivial
  | x :: l, ⟨h1, h2⟩ => by
    unfold hn_rmv
    by_cases h : x = s
    · rw [if_pos h]; exact h2
    · rw [if_neg h]
      exact ⟨fun hx => h1 ((hn_rmv_mem h2).mp hx).1, hn_rmv_nd h2⟩
theorem hn_rmv_srt {nm : Nat → Nat} {s : Nat} : ∀ {l : List Nat}, hn_srt nm l → hn_srt nm (hn_rmv s l)
  | [], _ => trivial
  | x :: l, ⟨h1, h2⟩ => by
    unfold hn_rmv
    by_cases h : x = s
    · rw [if_pos h]; exact h2
    · rw [if_neg h]
      exact ⟨fun t ht => h1 t ((hn_rmv_mem (hn_srt_nd h2)).mp ht).1, hn_rmv_srt h2⟩
theorem hn_rmv_len {s : Nat} : ∀ {l : List Nat}, s ∈ l → (hn_rmv s l).length + 1 = l.length
  | x :: l, hs => by
    unfold hn_rmv
    by_cases h : x = s
    · rw [if_pos h]; rfl
    · rw [if_neg h]
      rcases List.mem_cons.mp hs with e | hs
      · exact absurd e.symm h
      · simp [hn_rmv_len hs]
theorem hn_ch_rmv {ln : Nat → Int32} {nm : Nat → Nat} {K s : Nat} (hK : nm s = K) : ∀ {l : List Nat} {p : Nat}, hn_ch ln p l → hn_srt nm l → p ∉ l → s ∈ l →
    ln (hn_pl nm K p l) = nI s ∧ hn_ch (upd ln (hn_pl nm K p l) (ln s)) p (hn_rmv s l)
  | x :: l, p, ⟨h1, h2, h3⟩, ⟨s1, s2⟩, hp, hs => by
    have hpx : p ≠ x := fun e => hp (by rw [e]; exact List.mem_cons_self)
    have hpl : p ∉ l := fun e => hp (List.mem_cons_of_mem _ e)
    have hxl : x ∉ l := fun h => absurd (s1 x h) (Nat.lt_irrefl _)
    unfold hn_pl hn_rmv
    by_cases h : x = s
    · rw [if_neg (show ¬ nm x < K by rw [h, hK]; exact Nat.lt_irrefl _), if_pos h]
      refine ⟨by rw [h1, h], ?_⟩
      subst h
      cases l with
      | nil => show upd ln p (ln x) p = -1; rw [pk_us]; exact h3
      | cons y l =>
        obtain ⟨g1, g2, g3⟩ := h3
        refine ⟨by rw [pk_us]; exact g1, g2, hn_ch_keep g3 ?_ (fun t ht => ?_)⟩
        · exact pk_un (fun e => hpl (by rw [← e]; exact List.mem_cons_self))
        · exact pk_un (fun e => hpl (by rw [← e]; exact List.mem_cons_of_mem _ ht))
    · have hs' : s ∈ l := by
        rcases List.mem_cons.mp hs with e | hs
        · exact absurd e.symm h
        · exact hs
      have hlt : nm x < K := by have := s1 s hs'; omega
      rw [if_pos hlt, if_neg h]
      obtain ⟨g1, g2⟩ := hn_ch_rmv hK h3 s2 hxl hs'
      refine ⟨g1, ?_, h2, g2⟩
      have hq : p ≠ hn_pl nm K x l := by
        rcases hn_pl_mem nm K l x with e | e
        · rw [e]; exact hpx
        · intro z; exact hpl (by rw [z]; exact e)
      rw [pk_un hq]; exact h1
end
