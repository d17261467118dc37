/-! what the operations do to the directories: pure -/
section
def hn_has (K : Nat) (l : List hn_E) : Prop := ∃ e ∈ l, e.1 = K
def hn_ud (D : Nat → List hn_E) (d : Nat) (l : List hn_E) : Nat → List hn_E := fun j => if j = d then l else D j
theorem hn_ud_s {D : Nat → List hn_E} {d : Nat} {l : List hn_E} : hn_ud D d l d = l := if_pos rfl
theorem hn_ud_n {D : Nat → List hn_E} {d j : Nat} {l : List hn_E} (h : j ≠ d) : hn_ud D d l j = D j := if_neg h
/-- a name is put in -/
def hn_ei (e : hn_E) : List hn_E → List hn_E
  | [] => [e]
  | x :: l => if x.1 < e.1 then x :: hn_ei e l else e :: x :: l
/-- a name is taken out -/
def hn_er (K : Nat) : List hn_E → List hn_E
  | [] => []
  | x :: l => if x.1 = K then l else x :: hn_er K l
/-- a name gets another id -/
def hn_ec (K : Nat) (i : Int32) : List hn_E → List hn_E
  | [] => []
  | x :: l => if x.1 = K then (x.1, x.2.1, i) :: l else x :: hn_ec K i l
theorem hn_ei_len (e : hn_E) : ∀ l : List hn_E, (hn_ei e l).length = l.length + 1
  | [] => rfl
  | x :: l => by
    unfold hn_ei
    by_cases h : x.1 < e.1
    · rw [if_pos h]; simp [hn_ei_len e l]
    · rw [if_neg h]; rfl
theorem hn_ei_mem {e y : hn_E} : ∀ {l : List hn_E}, y ∈ hn_ei e l → y = e ∨ y ∈ l
  | [], h => Or.inl (List.mem_singleton.mp h)
  | x :: l, h => by
    unfold hn_ei at h
    by_cases h1 : x.1 < e.1
    · rw [if_pos h1] at h
      rcases List.mem_cons.mp h with h | h
      · exact Or.inr (by rw [h]; exact List.mem_cons_self)
      · rcases hn_ei_mem h with h | h
        · exact Or.inl h
        · exact Or.inr (List.mem_cons_of_mem _ h)
    · rw [if_neg h1] at h
      rcases List.mem_cons.mp h with h | h
      · exact Or.inl h
      · exact Or.inr h
theorem hn_ei_es {e : hn_E} : ∀ {l : List hn_E}, hn_es l → ¬ hn_has e.1 l → hn_es (hn_ei e l)
  | [], _, _ => ⟨fun _ h => (nomatch h), trivial⟩
  | x :: l, ⟨h1, h2⟩, hn => by
    unfold hn_ei
    have hx : x.1 ≠ e.1 := fun z => hn ⟨x, List.mem_cons_self, z⟩
    have hl : ¬ hn_has e.1 l := fun ⟨y, hy, z⟩ => hn ⟨y, List.mem_cons_of_mem _ hy, z⟩
    by_cases h : x.1 < e.1
    · rw [if_pos h]
      refine ⟨fun y hy => ?_, hn_ei_es h2 hl⟩
      rcases hn_ei_mem hy with rfl | hy
      · exact h
      · exact h1 y hy
    · rw [if_neg h]
      refine ⟨fun y hy => ?_, h1, h2⟩
      rcases List.mem_cons.mp hy with rfl | hy
      · omega
      · have := h1 y hy
        omega
theorem hn_ei_at {e : hn_E} : ∀ (l : List hn_E) (j : Nat), (hn_ei e l).getD j hn_e0 = if j < hn_pc e.1 l then l.getD j hn_e0 else if j = hn_pc e.1 l then e else l.getD (j - 1) hn_e0
  | [], j => by
    unfold hn_ei hn_pc
    cases j with
    | zero => rfl
    | succ j => simp
  | x :: l, j => by
    unfold hn_ei hn_pc
    by_cases h : x.1 < e.1
    · rw [if_pos h, if_pos h]
      cases j with
      | zero => simp
      | succ j =>
        have ih := hn_ei_at (e := e) l j
        show (hn_ei e l).getD j hn_e0 = _
        rw [ih]
        by_cases h1 : j < hn_pc e.1 l
        · rw [if_pos h1, if_pos (show j + 1 < hn_pc e.1 l + 1 by omega)]; rfl
        · rw [if_neg h1, if_neg (show ¬ j + 1 < hn_pc e.1 l + 1 by omega)]
          by_cases h2 : j = hn_pc e.1 l
          · rw [if_pos h2, if_pos (show j + 1 = hn_pc e.1 l + 1 by omega)]
          · rw [if_neg h2, if_neg (show ¬ j + 1 = hn_pc e.1 l + 1 by omega)]
            obtain ⟨i, rfl⟩ : ∃ i, j = i + 1 := ⟨j - 1, by omega⟩
            rfl
    · rw [if_neg h, if_neg h]
      cases j with
      | zero => simp
      | succ j => simp
theorem hn_er_len {K : Nat} : ∀ {l : List hn_E}, hn_has K l → (hn_er K l).length + 1 = l.length
  | [], ⟨_, h, _⟩ => nomatch h
  | x :: l, ⟨y, hy, e⟩ => by
    unfold hn_er
    by_cases h : x.1 = K
    · rw [if_pos h]; rfl
    · rw [if_neg h]
      rcases List.mem_cons.mp hy with z | hy
      · rw [z] at e; exact absurd e h
      · simp [hn_er_len ⟨y, hy, e⟩]
theorem hn_er_mem {K : Nat} {y : hn_E} : ∀ {l : List hn_E}, y ∈ hn_er K l → y ∈ l
  | [], h => nomatch h
  | x :: l, h => by
    unfold hn_er at h
    by_cases h1 : x.1 = K
    · rw [if_pos h1] at h; exact List.mem_cons_of_mem _ h
    · rw [if_neg h1] at h
      rcases List.mem_cons.mp h with h | h
      · rw [h]; exact List.mem_cons_self
      · exact List.mem_cons_of_mem _ (hn_er_mem h)
theorem hn_er_es {K : Nat} : ∀ {l : List hn_E}, hn_es l → hn_es (hn_er K l)
  | [], _ => trivial
  | x :: l, ⟨h1, h2⟩ => by
    unfold hn_er
    by_cases h : x.1 = K
    · rw [if_pos h]; exact h2
    · rw [if_neg h]
      exact ⟨fun y hy => h1 y (hn_er_mem hy), hn_er_es h2⟩
/-- where K stands, if it is there -/
theorem hn_has_pc {K : Nat} : ∀ {l : List hn_E}, hn_es l → hn_has K l → hn_pc K l < l.length ∧ (l.getD (hn_pc K l) hn_e0).1 = K
  | [], _, ⟨_, h, _⟩ => nomatch h
  | x :: l, ⟨h1, h2⟩, ⟨y, hy, e⟩ => by
    unfold hn_pc
    rcases List.mem_cons.mp hy with z | hy
    · rw [← z, e, if_neg (Nat.lt_irrefl _)]
      exact ⟨Nat.succ_pos _, e⟩
    · have h3 := h1 y hy
      rw [if_pos (show x.1 < K by omega)]
      obtain ⟨g1, g2⟩ := hn_has_pc h2 ⟨y, hy, e⟩
      exact ⟨Nat.succ_lt_succ g1, g2⟩
theorem hn_has_iff {K : Nat} {l : List hn_E} (h : hn_es l) : hn_has K l ↔ hn_pc K l < l.length ∧ (l.getD (hn_pc K l) hn_e0).1 = K :=
  ⟨hn_has_pc h, fun ⟨h1, h2⟩ => ⟨_, hn_getD_mem h1, h2⟩⟩
theorem hn_er_at {K : Nat} : ∀ {l : List hn_E}, hn_es l → hn_has K l → ∀ j, (hn_er K l).getD j hn_e0 = if j < hn_pc K l then l.getD j hn_e0 else l.getD (j + 1) hn_e0
  | [], _, ⟨_, h, _⟩, _ => nomatch h
  | x :: l, ⟨h1, h2⟩, ⟨y, hy, e⟩, j => by
    unfold hn_er hn_pc
    rcases List.mem_cons.mp hy with z | hy
    · rw [← z, e, if_pos rfl, if_neg (Nat.lt_irrefl _), if_neg (Nat.not_lt_zero _)]
      rfl
    · have h3 := h1 y hy
      rw [if_neg (show ¬ x.1 = K by omega), if_pos (show x.1 < K by omega)]
      cases j with
      | zero => simp
      | succ j =>
        have ih := hn_er_at h2 ⟨y, hy, e⟩ j
        show (hn_er K l).getD j hn_e0 = _
        rw [ih]
        by_cases h4 : j < hn_pc K l
        · rw [if_pos h4, if_pos (show j + 1 < hn_pc K l + 1 by omega)]; rfl
        · rw [if_neg h4, if_neg (show ¬ j + 1 < hn_pc K l + 1 by omega)]; rfl
theorem hn_ec_len (K : Nat) (i : Int32) : ∀ l : List hn_E, (hn_ec K i l).length = l.length
  | [] => rfl
  | x :: l => by
    unfold hn_ec
    by_cases h : x.1 = K
    · rw [if_pos h]; rfl
    · rw [if_neg h]; simp [hn_ec_len K i l]
theorem hn_ec_mem {K : Nat} {i : Int32} {y : hn_E} : ∀ {l : List hn_E}, y ∈ hn_ec K i l → ∃ x ∈ l, y.1 = x.1 ∧ y.2.1 = x.2.1
  | [], h => nomatch h
  | x :: l, h => by
    unfold hn_ec at h
    by_cases h1 : x.1 = K
    · rw [if_pos h1] at h
      rcases List.mem_cons.mp h with h | h
      · exact ⟨x, List.mem_cons_self, by rw [h], by rw [h]⟩
      · exact ⟨y, List.mem_cons_of_mem _ h, rfl, rfl⟩
    · rw [if_neg h1] at h
      rcases List.mem_cons.mp h with h | h
      · exact ⟨x, List.mem_cons_self, by rw [h], by rw [h]⟩
      · obtain ⟨z, hz, e⟩ := hn_ec_mem h
        exact ⟨z, List.mem_cons_of_mem _ hz, e⟩
theorem hn_ec_es {K : Nat} {i : Int32} : ∀ {l : List hn_E}, hn_es l → hn_es (hn_ec K i l)
  | [], _ => trivial
  | x :: l, ⟨h1, h2⟩ => by
    unfold hn_ec
    by_cases h : x.1 = K
    · rw [if_pos h]; exact ⟨h1, h2⟩
    · rw [if_neg h]
      refine ⟨fun y hy => ?_, hn_ec_es h2⟩
      obtain ⟨z, hz, e, _⟩ := hn_ec_mem hy
      rw [e]
      exact h1 z hz
theorem hn_ec_at {K : Nat} {i : Int32} : ∀ {l : List hn_E}, hn_es l → hn_has K l → ∀ j, (hn_ec K i l).getD j hn_e0 = if j = hn_pc K l then ((l.getD j hn_e0).1, (l.getD j hn_e0).2.1, i) else l.getD j hn_e0
  | [], _, ⟨_, h, _⟩, _ => nomatch h
  | x :: l, ⟨h1, h2⟩, ⟨y, hy, e⟩, j => by
    unfold hn_ec hn_pc
    rcases List.mem_cons.mp hy with z | hy
    · rw [← z, e, if_pos rfl, if_neg (Nat.lt_irrefl _)]
      cases j with
      | zero => simp [e]
      | succ j => simp
    · have h3 := h1 y hy
      rw [if_neg (show ¬ x.1 = K by omega), if_pos (show x.1 < K by omega)]
      cases j with
      | zero => simp
      | succ j =>
        have ih := hn_ec_at (i := i) h2 ⟨y, hy, e⟩ j
        show (hn_ec K i l).getD j hn_e0 = _
        rw [ih]
        by_cases h4 : j = hn_pc K l
        · rw [if_pos h4, if_pos (show j + 1 = hn_pc K l + 1 by omega)]; rfl
        · rw [if_neg h4, if_neg (show ¬ j + 1 = hn_pc K l + 1 by omega)]; rfl
/-- slot i of the reference holds the entry e -/
def hn_sl (τ : Nat → Nat → Int32) (i : Nat) (e : hn_E) : Prop := τ 3 i = e.2.2 ∧ τ 4 i = nI e.2.1 ∧ ∀ k, k < e.2.1 → τ 5 (20 * i + k) = nI (hn_kb e.1 k)
theorem hn_sl_keep {τ τ' : Nat → Nat → Int32} {i : Nat} {e : hn_E} (h : hn_sl τ i e) (hn : e.2.1 ≤ 20) (h3 : τ' 3 i = τ 3 i) (h4 : τ' 4 i = τ 4 i) (h5 : ∀ k, k < 20 → τ' 5 (20 * i + k) = τ 5 (20 * i + k)) : hn_sl τ' i e :=
  ⟨h3.trans h.1, h4.trans h.2.1, fun k hk => (h5 k (by omega)).trans (h.2.2 k hk)⟩
/-- the reference's rows beside the entries -/
def hn_MH (τ : Nat → Nat → Int32) (h : Nat → Nat) (tn TK : Nat) : Prop := (∀ k, k < 20 → τ 1 k = nI (h k)) ∧ (∀ k, h k < 256) ∧ τ 0 1 = nI tn ∧ tn ≤ 20 ∧ (∀ k, k < tn → τ 6 k = nI (hn_kb TK k))
def hn_MD (τ : Nat → Nat → Int32) (D : Nat → List hn_E) : Prop := ∀ d, d < 8 → τ 2 d = nI (D d).length ∧ ∀ j, j < (D d).length → hn_sl τ (48 * d + j) ((D d).getD j hn_e0)
theorem hn_MR_iff {τ : Nat → Nat → Int32} {h : Nat → Nat} {D : Nat → List hn_E} {tn TK : Nat} : hn_MR τ h D tn (hn_kb TK) ↔ hn_MH τ h tn TK ∧ hn_MD τ D :=
  ⟨fun ⟨a, b, c, d, e, f⟩ => ⟨⟨a, b, d, e, f⟩, c⟩, fun ⟨⟨a, b, d, e, f⟩, c⟩ => ⟨a, b, c, d, e, f⟩⟩
theorem hn_MH_keep {τ τ' : Nat → Nat → Int32} {h : Nat → Nat} {tn TK : Nat} (hm : hn_MH τ h tn TK) (h0 : τ' 0 1 = τ 0 1) (h1 : τ' 1 = τ 1) (h6 : τ' 6 = τ 6) : hn_MH τ' h tn TK := by
  obtain ⟨a, b, d, e, f⟩ := hm
  exact ⟨by rw [h1]; exact a, b, h0.trans d, e, by rw [h6]; exact f⟩
theorem hn_MD_keep {τ τ' : Nat → Nat → Int32} {D : Nat → List hn_E} (hm : hn_MD τ D) (h2 : τ' 2 = τ 2) (h3 : τ' 3 = τ 3) (h4 : τ' 4 = τ 4) (h5 : τ' 5 = τ 5) : hn_MD τ' D := by
  intro d hd
  obtain ⟨a, b⟩ := hm d hd
  refine ⟨by rw [h2]; exact a, fun j hj => ?_⟩
  obtain ⟨g1, g2, g3⟩ := b j hj
  exact ⟨by rw [h3]; exact g1, by rw [h4]; exact g2, by rw [h5]; exact g3⟩
/-- an entry's slot of another directory is elsewhere -/
theorem hn_MD_put {τ τ' : Nat → Nat → Int32} {D : Nat → List hn_E} {d : Nat} {l : List hn_E} (hO : hn_DO D) (hm : hn_MD τ D) (hd : d < 8) (h2 : τ' 2 = upd (τ 2) d (nI l.length)) (hl : l.length ≤ 48)
    (hk : ∀ i e, (i < 48 * d ∨ 48 * d + 48 ≤ i) → e.2.1 ≤ 20 → hn_sl τ i e → hn_sl τ' i e) (hn : ∀ j, j < l.length → hn_sl τ' (48 * d + j) (l.getD j hn_e0)) : hn_MD τ' (hn_ud D d l) := by
  intro d' hd'
  by_cases e : d' = d
  · subst e
    rw [hn_ud_s, h2, pk_us]
    exact ⟨rfl, hn⟩
  · rw [hn_ud_n e, h2, pk_un e]
    obtain ⟨a, b⟩ := hm d' hd'
    refine ⟨a, fun j hj => ?_⟩
    have := (hO d' hd').2.1
    exact hk _ _ (by omega) ((hO d' hd').2.2 _ (hn_getD_mem hj)).2.1 (b j hj)
theorem hn_DO_put {D : Nat → List hn_E} {d : Nat} {l : List hn_E} (hO : hn_DO D) (h1 : hn_es l) (h2 : l.length ≤ 48) (h3 : ∀ e ∈ l, hn_wf e) : hn_DO (hn_ud D d l) := by
  intro d' hd'
  by_cases e : d' = d
  · subst e
    rw [hn_ud_s]
    exact ⟨h1, h2, h3⟩
  · rw [hn_ud_n e]
    exact hO d' hd'
/-- five words -/
def hn_w5 (a b c d e : Int32) : Nat → Int32 := fun i => if i = 0 then a else if i = 1 then b else if i = 2 then c else if i = 3 then d else e
theorem hn_shs : ∀ k, k < 4 → ((nI (24 - 8 * k) &&& 31).toBitVec.smod 32).toNat = 24 - 8 * k := by decide +kernel
theorem hn_sby (x : Int32) {k : Nat} (hk : k < 4) : (x >>> (nI (24 - 8 * k) &&& 31)) &&& 255 = nI (hn_u x / 2 ^ (24 - 8 * k) % 256) := by
  rw [pk_and _ (m := 255) 8 (by decide +kernel)]
  have e := pk_shr x (nI (24 - 8 * k) &&& 31) (24 - 8 * k) (hn_shs k hk)
  generalize x >>> (nI (24 - 8 * k) &&& 31) = y at e ⊢
  rw [hn_u_int, hn_u_int, Int.shiftRight_eq_div_pow] at e
  have hx := hn_u_lt x
  have hy := hn_u_lt y
  show nI (hn_u y % 2 ^ 8) = _
  congr 1
  rcases (show k = 0 ∨ k = 1 ∨ k = 2 ∨ k = 3 by omega) with rfl | rfl | rfl | rfl
  · show hn_u y % 256 = hn_u x / 16777216 % 256
    have e : (if 2 * hn_u y < 4294967296 then (hn_u y : Int) else (hn_u y : Int) - 4294967296) = (if 2 * hn_u x < 4294967296 then (hn_u x : Int) else (hn_u x : Int) - 4294967296) / 16777216 := e
    omega
  · show hn_u y % 256 = hn_u x / 65536 % 256
    have e : (if 2 * hn_u y < 4294967296 then (hn_u y : Int) else (hn_u y : Int) - 4294967296) = (if 2 * hn_u x < 4294967296 then (hn_u x : Int) else (hn_u x : Int) - 4294967296) / 65536 := e
    omega
  · show hn_u y % 256 = hn_u x / 256 % 256
    have e : (if 2 * hn_u y < 4294967296 then (hn_u y : Int) else (hn_u y : Int) - 4294967296) = (if 2 * hn_u x < 4294967296 then (hn_u x : Int) else (hn_u x : Int) - 4294967296) / 256 := e
    omega
  · show hn_u y % 256 = hn_u x / 1 % 256
    have e : (if 2 * hn_u y < 4294967296 then (hn_u y : Int) else (hn_u y : Int) - 4294967296) = (if 2 * hn_u x < 4294967296 then (hn_u x : Int) else (hn_u x : Int) - 4294967296) / 1 := e
    omega
end
