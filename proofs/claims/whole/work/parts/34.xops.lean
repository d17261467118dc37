/-! the class's operations on the directories: pure -/
section
def hn_exc (E : String) (c : Nat) : Prop := (E = "java/lang/IllegalArgumentException" ∧ c = 1) ∨ (E = "java/lang/IllegalStateException" ∧ c = 2)
def hn_XL (σ : Nat → Nat → Int32) (D : Nat → List hn_E) (L : Nat → List Nat) : Prop := ∀ d, d < 8 → D d = (L d).map (hn_ent σ) ∧ ∀ s ∈ L d, σ 5 s = nI (σ 5 s).toNatClampNeg
def hn_XH (σ : Nat → Nat → Int32) (h : Nat → Nat) (tn TK : Nat) : Prop := (∀ k, k < 20 → hn_by (σ 1) k = h k) ∧ σ 0 0 = nI tn ∧ tn ≤ 20 ∧ (∀ k, k < tn → hn_by (σ 3) k = hn_kb TK k)
theorem hn_XR_of {σ : Nat → Nat → Int32} {h : Nat → Nat} {D : Nat → List hn_E} {tn TK : Nat} {L B : Nat → List Nat} (hI : hn_I σ L B) (hL : hn_XL σ D L) (hH : hn_XH σ h tn TK) : hn_XR σ h D tn TK := ⟨L, B, hI, hL, hH⟩
theorem hn_XR_to {σ : Nat → Nat → Int32} {h : Nat → Nat} {D : Nat → List hn_E} {tn TK : Nat} (hx : hn_XR σ h D tn TK) : ∃ L B, hn_I σ L B ∧ hn_XL σ D L ∧ hn_XH σ h tn TK := by
  obtain ⟨L, B, hI, hL, a1, a2, a3, a4⟩ := hx
  exact ⟨L, B, hI, hL, a1, a2, a3, a4⟩
theorem hn_XH_keep {σ σ' : Nat → Nat → Int32} {h : Nat → Nat} {tn TK : Nat} (hx : hn_XH σ h tn TK) (h0 : σ' 0 = σ 0) (h1 : σ' 1 = σ 1) (h3 : σ' 3 = σ 3) : hn_XH σ' h tn TK := by
  unfold hn_XH at *
  rw [h0, h1, h3]
  exact hx
theorem hn_XL_len {σ : Nat → Nat → Int32} {D : Nat → List hn_E} {L : Nat → List Nat} (h : hn_XL σ D L) {d : Nat} (hd : d < 8) : (D d).length = (L d).length := by rw [(h d hd).1, List.length_map]
theorem hn_XR_cnt {σ : Nat → Nat → Int32} {h : Nat → Nat} {D : Nat → List hn_E} {tn TK : Nat} (hx : hn_XR σ h D tn TK) {d : Nat} (hd : d < 8) : σ 7 d = nI (D d).length := by
  obtain ⟨L, B, hI, hL, -⟩ := hn_XR_to hx
  rw [hn_XL_len hL hd]
  exact (hI.1 d hd).2.2.2
theorem hn_XL_has {σ : Nat → Nat → Int32} {D : Nat → List hn_E} {L : Nat → List Nat} (h : hn_XL σ D L) {d K : Nat} (hd : d < 8) : hn_has K (D d) ↔ ∃ s ∈ L d, hn_ns σ s = K := by
  rw [(h d hd).1]
  exact hn_map_has (hn_ent1 σ)
theorem hn_XL_at {σ : Nat → Nat → Int32} {D : Nat → List hn_E} {L B : Nat → List Nat} (hI : hn_I σ L B) (h : hn_XL σ D L) {d K s : Nat} (hd : d < 8) (hs : s ∈ L d) (hK : hn_ns σ s = K) : (D d).getD (hn_pc K (D d)) hn_e0 = hn_ent σ s := by
  rw [(h d hd).1]
  exact hn_map_at (hn_ent1 σ) (hI.1 d hd).2.1 hs hK
theorem hn_XL_keep {σ σ' : Nat → Nat → Int32} {D : Nat → List hn_E} {L : Nat → List Nat} (h : hn_XL σ D L) (h4 : σ' 4 = σ 4) (h5 : σ' 5 = σ 5) (h6 : σ' 6 = σ 6) : hn_XL σ' D L := by
  intro d hd
  have e : hn_ent σ' = hn_ent σ := by
    funext s
    unfold hn_ent hn_ns
    rw [h4, h5, h6]
  rw [e, h5]
  exact h d hd
theorem hn_chg_X {σ σ' : Nat → Nat → Int32} {D : Nat → List hn_E} {L B : Nat → List Nat} {d t K : Nat} {x : Int32} (hI : hn_I σ L B) (hL : hn_XL σ D L) (hd : d < 8) (ht : t ∈ L d) (hK : hn_ns σ t = K) (h4 : σ' 4 = σ 4) (h5 : σ' 5 = σ 5) (h6 : σ' 6 = upd (σ 6) t x) (h7 : σ' 7 = σ 7) (h8 : σ' 8 = σ 8) (h9 : σ' 9 = σ 9) :
    hn_I σ' L B ∧ hn_XL σ' (hn_ud D d (hn_ec K x (D d))) L := by
  refine ⟨hn_I_keep hI h4 h5 h7 h8 h9, fun d' hd' => ⟨?_, by rw [h5]; exact (hL d' hd').2⟩⟩
  have e1 : ∀ s, s ≠ t → hn_ent σ' s = hn_ent σ s := fun s hs => by
    unfold hn_ent hn_ns
    rw [h4, h5, h6, pk_un hs]
  by_cases e : d' = d
  · subst e
    rw [hn_ud_s, (hL d' hd).1]
    refine (hn_map_chg (hn_ent1 σ) hK ?_ e1 (hI.1 d' hd).2.1 ht).symm
    unfold hn_ent hn_ns
    rw [h4, h5, h6, pk_us]
  · rw [hn_ud_n e, (hL d' hd').1]
    refine List.map_congr_left (fun s hs => (e1 s (fun z => ?_)).symm)
    have a := hI.L hd' s hs
    have b := hI.L hd t ht
    rw [z] at a
    omega
theorem hn_rem_X {σ σ' : Nat → Nat → Int32} {D : Nat → List hn_E} {L B : Nat → List Nat} {d t K j : Nat} (hI : hn_I σ L B) (hL : hn_XL σ D L) (hd : d < 8) (ht : t ∈ L d) (hK : hn_ns σ t = K) (hj : j = 16 * d + hn_bk (σ 4) (5 * t)) (h4 : σ' 4 = σ 4) (h5 : σ' 5 = upd (σ 5) t 0) (h6 : σ' 6 = σ 6)
    (h7 : σ' 7 = upd (σ 7) d (nI ((L d).length - 1))) (h8 : σ' 8 = upd (σ 8) (hn_pl (hn_ns σ) K (384 + j) (B j)) (σ 8 t)) (h9 : σ' 9 = upd (σ 9) (hn_pl (hn_ns σ) K (384 + d) (L d)) (σ 9 t)) :
    hn_I σ' (hn_ul L d (hn_rmv t (L d))) (hn_ul B j (hn_rmv t (B j))) ∧ hn_XL σ' (hn_ud D d (hn_er K (D d))) (hn_ul L d (hn_rmv t (L d))) := by
  refine ⟨hn_rem_I hI hd ht hK hj h4 h5 h7 h8 h9, fun d' hd' => ?_⟩
  have e1 : ∀ s, s ≠ t → hn_ent σ' s = hn_ent σ s := fun s hs => by
    unfold hn_ent hn_ns
    rw [h4, h5, h6, pk_un hs]
  have e5 : ∀ s, s ≠ t → σ' 5 s = σ 5 s := fun s hs => by rw [h5, pk_un hs]
  by_cases e : d' = d
  · subst e
    rw [hn_ud_s, hn_ul_s, (hL d' hd).1, ← hn_map_rmv (hn_ent1 σ) hK (hI.1 d' hd).2.1 ht]
    have nd := hn_srt_nd (hI.1 d' hd).2.1
    refine ⟨List.map_congr_left (fun s hs => (e1 s ((hn_rmv_mem nd).mp hs).2).symm), fun s hs => ?_⟩
    obtain ⟨g1, g2⟩ := (hn_rmv_mem nd).mp hs
    rw [e5 s g2]
    exact (hL d' hd).2 s g1
  · have hne : ∀ s ∈ L d', s ≠ t := fun s hs z => by
      have a := hI.L hd' s hs
      have b := hI.L hd t ht
      rw [z] at a
      omega
    rw [hn_ud_n e, hn_ul_n e, (hL d' hd').1]
    refine ⟨List.map_congr_left (fun s hs => (e1 s (hne s hs)).symm), fun s hs => ?_⟩
    rw [e5 s (hne s hs)]
    exact (hL d' hd').2 s hs
theorem hn_add_X {σ σ' : Nat → Nat → Int32} {D : Nat → List hn_E} {L B : Nat → List Nat} {d t K j n : Nat} {key : Nat → Int32} {x : Int32} (hI : hn_I σ L B) (hL : hn_XL σ D L) (hd : d < 8) (hs : 48 * d ≤ t ∧ t < 48 * d + 48) (htL : t ∉ L d) (hK : hn_nm key 0 = K) (hno : ∀ s ∈ L d, hn_ns σ s ≠ K) (hj : j = 16 * d + hn_bk key 0) (hn1 : 1 ≤ n) (hn2 : n ≤ 20)
    (h4a : ∀ i, i < 5 → σ' 4 (5 * t + i) = key i) (h4b : ∀ q, ¬ (5 * t ≤ q ∧ q < 5 * t + 5) → σ' 4 q = σ 4 q) (h5 : σ' 5 = upd (σ 5) t (nI n)) (h6 : σ' 6 = upd (σ 6) t x)
    (h7 : σ' 7 = upd (σ 7) d (nI ((L d).length + 1)))
    (h8 : σ' 8 = upd (upd (σ 8) t (σ 8 (hn_pl (hn_ns σ') K (384 + j) (B j)))) (hn_pl (hn_ns σ') K (384 + j) (B j)) (nI t))
    (h9 : σ' 9 = upd (upd (σ 9) t (σ 9 (hn_pl (hn_ns σ') K (384 + d) (L d)))) (hn_pl (hn_ns σ') K (384 + d) (L d)) (nI t)) :
    hn_I σ' (hn_ul L d (hn_ins (hn_ns σ') K t (L d))) (hn_ul B j (hn_ins (hn_ns σ') K t (B j))) ∧ hn_XL σ' (hn_ud D d (hn_ei (K, n, x) (D d))) (hn_ul L d (hn_ins (hn_ns σ') K t (L d))) := by
  have hw : ∀ s, s ≠ t → ∀ i, i < 5 → σ' 4 (5 * s + i) = σ 4 (5 * s + i) := fun s hs2 i hi => h4b _ (by omega)
  have hns : hn_ns σ' t = K := (hn_nm_of (w := σ' 4) (v := key) (b := 5 * t) (c := 0) (fun i hi => by rw [Nat.zero_add]; exact h4a i hi)).trans hK
  refine ⟨hn_add_I hI hd hs htL hK hno hj (nI_ne0 (by omega) (by omega)) h4a hw h5 h7 h8 h9, fun d' hd' => ?_⟩
  have e1 : ∀ s, s ≠ t → hn_ent σ' s = hn_ent σ s := fun s hs2 => by
    unfold hn_ent hn_ns
    rw [hn_nm_of (hw s hs2), h5, h6, pk_un hs2, pk_un hs2]
  have et : hn_ent σ' t = (K, n, x) := by
    unfold hn_ent
    rw [hns, h5, h6, pk_us, pk_us, nI_clamp (by omega)]
  have e5 : ∀ s, s ≠ t → σ' 5 s = σ 5 s := fun s hs2 => by rw [h5, pk_un hs2]
  have hne : ∀ s ∈ L d, s ≠ t := fun s hs2 z => htL (by rw [← z]; exact hs2)
  by_cases e : d' = d
  · subst e
    rw [hn_ud_s, hn_ul_s, (hL d' hd).1, hn_map_ins (en := hn_ent σ) (en' := hn_ent σ') (hn_ent1 σ') hns (fun s hs2 => e1 s (hne s hs2)), et]
    refine ⟨rfl, fun s hs2 => ?_⟩
    rcases hn_ins_mem.mp hs2 with z | hs2
    · rw [z, h5, pk_us, nI_clamp (by omega)]
    · rw [e5 s (hne s hs2)]
      exact (hL d' hd).2 s hs2
  · have hne2 : ∀ s ∈ L d', s ≠ t := fun s hs2 z => by
      have a := hI.L hd' s hs2
      rw [z] at a
      omega
    rw [hn_ud_n e, hn_ul_n e, (hL d' hd').1]
    refine ⟨List.map_congr_left (fun s hs2 => (e1 s (hne2 s hs2)).symm), fun s hs2 => ?_⟩
    rw [e5 s (hne2 s hs2)]
    exact (hL d' hd').2 s hs2
end
