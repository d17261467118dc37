/-! what each call asks and gives; what a writer asks -/
section
/-- a good name of a good directory: its place, its length -/
def hn_ok (h : Nat → Nat) (d n : Int32) (j n' : Nat) : Prop := d = nI j ∧ j < 8 ∧ n = nI n' ∧ 1 ≤ n' ∧ n' ≤ 20 ∧ ∀ k, k < n' → h k ≠ 0 ∧ h k ≠ 47
theorem hn_ok_of {h : Nat → Nat} {d n : Int32} (h1 : hn_dir d) (h2 : hn_name h n) : ∃ j n', hn_ok h d n j n' := by
  obtain ⟨j, hj, e⟩ := h1
  obtain ⟨n', e2, g1, g2, g3⟩ := h2
  exact ⟨j, n', e, hj, e2, g1, g2, g3⟩
theorem hn_ok_dir {h : Nat → Nat} {d n : Int32} {j n' : Nat} (h1 : hn_ok h d n j n') : hn_dir d := ⟨j, h1.2.1, h1.1⟩
theorem hn_ok_name {h : Nat → Nat} {d n : Int32} {j n' : Nat} (h1 : hn_ok h d n j n') : hn_name h n := ⟨n', h1.2.2.1, h1.2.2.2⟩
theorem hn_ok_inj {h : Nat → Nat} {d n : Int32} {j n' j2 n2 : Nat} (h1 : hn_ok h d n j n') (h2 : hn_ok h d n j2 n2) : j = j2 ∧ n' = n2 := by
  obtain ⟨a1, a2, a3, a4, a5, -⟩ := h1
  obtain ⟨b1, b2, b3, b4, b5, -⟩ := h2
  exact ⟨(nI_eq (by omega) (by omega)).mp (a1.symm.trans b1), (nI_eq (by omega) (by omega)).mp (a3.symm.trans b3)⟩
def hn_addS (h : Nat → Nat) (D : Nat → List hn_E) (d n x : Int32) (c : Nat) (r : Int32) (D' : Nat → List hn_E) : Prop :=
  (c = 1 ∧ D' = D ∧ ¬ (hn_dir d ∧ hn_name h n ∧ hn_isid x)) ∨
  (∃ j n', hn_ok h d n j n' ∧ hn_isid x ∧ ((c = 2 ∧ D' = D ∧ (hn_has (hn_num h n') (D j) ∨ (D j).length = 48)) ∨
    (c = 0 ∧ ¬ hn_has (hn_num h n') (D j) ∧ ¬ (D j).length = 48 ∧ D' = hn_ud D j (hn_ei (hn_num h n', n', x) (D j)) ∧ r = nI ((D j).length + 1))))
def hn_findS (h : Nat → Nat) (D : Nat → List hn_E) (d n : Int32) (c : Nat) (r : Int32) : Prop :=
  (c = 1 ∧ ¬ (hn_dir d ∧ hn_name h n)) ∨
  (∃ j n', hn_ok h d n j n' ∧ c = 0 ∧ ((hn_has (hn_num h n') (D j) ∧ r = ((D j).getD (hn_pc (hn_num h n') (D j)) hn_e0).2.2) ∨ (¬ hn_has (hn_num h n') (D j) ∧ r = -1)))
def hn_removeS (h : Nat → Nat) (D : Nat → List hn_E) (d n : Int32) (c : Nat) (r : Int32) (D' : Nat → List hn_E) : Prop :=
  (c = 1 ∧ D' = D ∧ ¬ (hn_dir d ∧ hn_name h n)) ∨
  (∃ j n', hn_ok h d n j n' ∧ ((c = 2 ∧ D' = D ∧ ¬ hn_has (hn_num h n') (D j)) ∨
    (c = 0 ∧ hn_has (hn_num h n') (D j) ∧ D' = hn_ud D j (hn_er (hn_num h n') (D j)) ∧ r = ((D j).getD (hn_pc (hn_num h n') (D j)) hn_e0).2.2)))
def hn_changeS (h : Nat → Nat) (D : Nat → List hn_E) (d n x : Int32) (c : Nat) (r : Int32) (D' : Nat → List hn_E) : Prop :=
  (c = 1 ∧ D' = D ∧ ¬ (hn_dir d ∧ hn_name h n ∧ hn_isid x)) ∨
  (∃ j n', hn_ok h d n j n' ∧ hn_isid x ∧ ((c = 2 ∧ D' = D ∧ ¬ hn_has (hn_num h n') (D j)) ∨
    (c = 0 ∧ hn_has (hn_num h n') (D j) ∧ D' = hn_ud D j (hn_ec (hn_num h n') x (D j)) ∧ r = ((D j).getD (hn_pc (hn_num h n') (D j)) hn_e0).2.2)))
def hn_sizeS (D : Nat → List hn_E) (d : Int32) (c : Nat) (r : Int32) : Prop := (c = 1 ∧ ¬ hn_dir d) ∨ (∃ j, d = nI j ∧ j < 8 ∧ c = 0 ∧ r = nI (D j).length)
def hn_nthS (D : Nat → List hn_E) (tn TK : Nat) (d k : Int32) (c : Nat) (r : Int32) (tn' TK' : Nat) : Prop :=
  (c = 1 ∧ tn' = tn ∧ TK' = TK ∧ ¬ (hn_dir d ∧ ¬ k < 0)) ∨
  (∃ j k', d = nI j ∧ j < 8 ∧ k = nI k' ∧ k' < 2 ^ 31 ∧ c = 0 ∧ (((D j).length ≤ k' ∧ r = -1 ∧ tn' = 0 ∧ TK' = 0) ∨
    (k' < (D j).length ∧ r = nI ((D j).getD k' hn_e0).2.1 ∧ tn' = ((D j).getD k' hn_e0).2.1 ∧ TK' = ((D j).getD k' hn_e0).1)))
def hn_byteS (tn TK : Nat) (i : Int32) (c : Nat) (r : Int32) : Prop := (c = 1 ∧ i < 0) ∨ (∃ i', i = nI i' ∧ i' < 2 ^ 31 ∧ c = 0 ∧ ((i' < tn ∧ r = nI (hn_kb TK i')) ∨ (tn ≤ i' ∧ r = -1)))
/-! one answer alone -/
theorem hn_add1 {h : Nat → Nat} {D D1 D2 : Nat → List hn_E} {d n x r1 r2 : Int32} {c1 c2 : Nat} (a : hn_addS h D d n x c1 r1 D1) (b : hn_addS h D d n x c2 r2 D2) : c1 = c2 ∧ D1 = D2 ∧ (c1 = 0 → r1 = r2) := by
  rcases a with ⟨a1, a2, a3⟩ | ⟨j, n', ho, hi, a⟩
  · rcases b with ⟨b1, b2, b3⟩ | ⟨j2, n2, ho2, hi2, b⟩
    · exact ⟨a1.trans b1.symm, a2.trans b2.symm, fun z => by omega⟩
    · exact absurd ⟨hn_ok_dir ho2, hn_ok_name ho2, hi2⟩ a3
  · rcases b with ⟨b1, b2, b3⟩ | ⟨j2, n2, ho2, hi2, b⟩
    · exact absurd ⟨hn_ok_dir ho, hn_ok_name ho, hi⟩ b3
    · obtain ⟨e1, e2⟩ := hn_ok_inj ho ho2
      subst e1; subst e2
      rcases a with ⟨a1, a2, a3⟩ | ⟨a1, a2, a3, a4, a5⟩
      · rcases b with ⟨b1, b2, b3⟩ | ⟨b1, b2, b3, b4, b5⟩
        · exact ⟨a1.trans b1.symm, a2.trans b2.symm, fun z => by omega⟩
        · rcases a3 with z | z
          · exact absurd z b2
          · exact absurd z b3
      · rcases b with ⟨b1, b2, b3⟩ | ⟨b1, b2, b3, b4, b5⟩
        · rcases b3 with z | z
          · exact absurd z a2
          · exact absurd z a3
        · exact ⟨a1.trans b1.symm, a4.trans b4.symm, fun _ => a5.trans b5.symm⟩
theorem hn_find1 {h : Nat → Nat} {D : Nat → List hn_E} {d n r1 r2 : Int32} {c1 c2 : Nat} (a : hn_findS h D d n c1 r1) (b : hn_findS h D d n c2 r2) : c1 = c2 ∧ (c1 = 0 → r1 = r2) := by
  rcases a with ⟨a1, a3⟩ | ⟨j, n', ho, a0, a⟩
  · rcases b with ⟨b1, b3⟩ | ⟨j2, n2, ho2, b0, b⟩
    · exact ⟨a1.trans b1.symm, fun z => by omega⟩
    · exact absurd ⟨hn_ok_dir ho2, hn_ok_name ho2⟩ a3
  · rcases b with ⟨b1, b3⟩ | ⟨j2, n2, ho2, b0, b⟩
    · exact absurd ⟨hn_ok_dir ho, hn_ok_name ho⟩ b3
    · obtain ⟨e1, e2⟩ := hn_ok_inj ho ho2
      subst e1; subst e2
      refine ⟨a0.trans b0.symm, fun _ => ?_⟩
      rcases a with ⟨a1, a2⟩ | ⟨a1, a2⟩
      · rcases b with ⟨b1, b2⟩ | ⟨b1, b2⟩
        · exact a2.trans b2.symm
        · exact absurd a1 b1
      · rcases b with ⟨b1, b2⟩ | ⟨b1, b2⟩
        · exact absurd b1 a1
        · exact a2.trans b2.symm
theorem hn_remove1 {h : Nat → Nat} {D D1 D2 : Nat → List hn_E} {d n r1 r2 : Int32} {c1 c2 : Nat} (a : hn_removeS h D d n c1 r1 D1) (b : hn_removeS h D d n c2 r2 D2) : c1 = c2 ∧ D1 = D2 ∧ (c1 = 0 → r1 = r2) := by
  rcases a with ⟨a1, a2, a3⟩ | ⟨j, n', ho, a⟩
  · rcases b with ⟨b1, b2, b3⟩ | ⟨j2, n2, ho2, b⟩
    · exact ⟨a1.trans b1.symm, a2.trans b2.symm, fun z => by omega⟩
    · exact absurd ⟨hn_ok_dir ho2, hn_ok_name ho2⟩ a3
  · rcases b with ⟨b1, b2, b3⟩ | ⟨j2, n2, ho2, b⟩
    · exact absurd ⟨hn_ok_dir ho, hn_ok_name ho⟩ b3
    · obtain ⟨e1, e2⟩ := hn_ok_inj ho ho2
      subst e1; subst e2
      rcases a with ⟨a1, a2, a3⟩ | ⟨a1, a2, a3, a4⟩
      · rcases b with ⟨b1, b2, b3⟩ | ⟨b1, b2, b3, b4⟩
        · exact ⟨a1.trans b1.symm, a2.trans b2.symm, fun z => by omega⟩
        · exact absurd b2 a3
      · rcases b with ⟨b1, b2, b3⟩ | ⟨b1, b2, b3, b4⟩
        · exact absurd a2 b3
        · exact ⟨a1.trans b1.symm, a3.trans b3.symm, fun _ => a4.trans b4.symm⟩
theorem hn_change1 {h : Nat → Nat} {D D1 D2 : Nat → List hn_E} {d n x r1 r2 : Int32} {c1 c2 : Nat} (a : hn_changeS h D d n x c1 r1 D1) (b : hn_changeS h D d n x c2 r2 D2) : c1 = c2 ∧ D1 = D2 ∧ (c1 = 0 → r1 = r2) := by
  rcases a with ⟨a1, a2, a3⟩ | ⟨j, n', ho, hi, a⟩
  · rcases b with ⟨b1, b2, b3⟩ | ⟨j2, n2, ho2, hi2, b⟩
    · exact ⟨a1.trans b1.symm, a2.trans b2.symm, fun z => by omega⟩
    · exact absurd ⟨hn_ok_dir ho2, hn_ok_name ho2, hi2⟩ a3
  · rcases b with ⟨b1, b2, b3⟩ | ⟨j2, n2, ho2, hi2, b⟩
    · exact absurd ⟨hn_ok_dir ho, hn_ok_name ho, hi⟩ b3
    · obtain ⟨e1, e2⟩ := hn_ok_inj ho ho2
      subst e1; subst e2
      rcases a with ⟨a1, a2, a3⟩ | ⟨a1, a2, a3, a4⟩
      · rcases b with ⟨b1, b2, b3⟩ | ⟨b1, b2, b3, b4⟩
        · exact ⟨a1.trans b1.symm, a2.trans b2.symm, fun z => by omega⟩
        · exact absurd b2 a3
      · rcases b with ⟨b1, b2, b3⟩ | ⟨b1, b2, b3, b4⟩
        · exact absurd a2 b3
        · exact ⟨a1.trans b1.symm, a3.trans b3.symm, fun _ => a4.trans b4.symm⟩
theorem hn_size1 {D : Nat → List hn_E} {d r1 r2 : Int32} {c1 c2 : Nat} (a : hn_sizeS D d c1 r1) (b : hn_sizeS D d c2 r2) : c1 = c2 ∧ (c1 = 0 → r1 = r2) := by
  rcases a with ⟨a1, a2⟩ | ⟨j, a1, a2, a3, a4⟩
  · rcases b with ⟨b1, b2⟩ | ⟨j2, b1, b2, b3, b4⟩
    · exact ⟨a1.trans b1.symm, fun z => by omega⟩
    · exact absurd ⟨j2, b2, b1⟩ a2
  · rcases b with ⟨b1, b2⟩ | ⟨j2, b1, b2, b3, b4⟩
    · exact absurd ⟨j, a2, a1⟩ b2
    · have e : j = j2 := (nI_eq (by omega) (by omega)).mp (a1.symm.trans b1)
      subst e
      exact ⟨a3.trans b3.symm, fun _ => a4.trans b4.symm⟩
theorem hn_nth1 {D : Nat → List hn_E} {tn TK t1 t2 K1 K2 : Nat} {d k r1 r2 : Int32} {c1 c2 : Nat} (a : hn_nthS D tn TK d k c1 r1 t1 K1) (b : hn_nthS D tn TK d k c2 r2 t2 K2) : c1 = c2 ∧ t1 = t2 ∧ K1 = K2 ∧ (c1 = 0 → r1 = r2) := by
  rcases a with ⟨a1, a2, a3, a4⟩ | ⟨j, k', a1, a2, a3, a4, a5, a⟩
  · rcases b with ⟨b1, b2, b3, b4⟩ | ⟨j2, k2, b1, b2, b3, b4, b5, b⟩
    · exact ⟨a1.trans b1.symm, a2.trans b2.symm, a3.trans b3.symm, fun z => by omega⟩
    · exact absurd ⟨⟨j2, b2, b1⟩, by rw [b3]; exact nI_pos b4⟩ a4
  · rcases b with ⟨b1, b2, b3, b4⟩ | ⟨j2, k2, b1, b2, b3, b4, b5, b⟩
    · exact absurd ⟨⟨j, a2, a1⟩, by rw [a3]; exact nI_pos a4⟩ b4
    · have e : j = j2 := (nI_eq (by omega) (by omega)).mp (a1.symm.trans b1)
      have e2 : k' = k2 := (nI_eq a4 b4).mp (a3.symm.trans b3)
      subst e; subst e2
      refine ⟨a5.trans b5.symm, ?_⟩
      rcases a with ⟨x1, x2, x3, x4⟩ | ⟨x1, x2, x3, x4⟩
      · rcases b with ⟨y1, y2, y3, y4⟩ | ⟨y1, y2, y3, y4⟩
        · exact ⟨x3.trans y3.symm, x4.trans y4.symm, fun _ => x2.trans y2.symm⟩
        · exact absurd y1 (by omega)
      · rcases b with ⟨y1, y2, y3, y4⟩ | ⟨y1, y2, y3, y4⟩
        · exact absurd y1 (by omega)
        · exact ⟨x3.trans y3.symm, x4.trans y4.symm, fun _ => x2.trans y2.symm⟩
theorem hn_byte1 {tn TK : Nat} {i r1 r2 : Int32} {c1 c2 : Nat} (a : hn_byteS tn TK i c1 r1) (b : hn_byteS tn TK i c2 r2) : c1 = c2 ∧ (c1 = 0 → r1 = r2) := by
  rcases a with ⟨a1, a2⟩ | ⟨j, a1, a2, a3, a⟩
  · rcases b with ⟨b1, b2⟩ | ⟨j2, b1, b2, b3, b⟩
    · exact ⟨a1.trans b1.symm, fun z => by omega⟩
    · rw [b1] at a2; exact absurd a2 (nI_pos b2)
  · rcases b with ⟨b1, b2⟩ | ⟨j2, b1, b2, b3, b⟩
    · rw [a1] at b2; exact absurd b2 (nI_pos a2)
    · have e : j = j2 := (nI_eq a2 b2).mp (a1.symm.trans b1)
      subst e
      refine ⟨a3.trans b3.symm, fun _ => ?_⟩
      rcases a with ⟨x1, x2⟩ | ⟨x1, x2⟩
      · rcases b with ⟨y1, y2⟩ | ⟨y1, y2⟩
        · exact x2.trans y2.symm
        · exact absurd y1 (by omega)
      · rcases b with ⟨y1, y2⟩ | ⟨y1, y2⟩
        · exact absurd y1 (by omega)
        · exact x2.trans y2.symm
/-! what a writer asks, and what it leaves -/
def hn_PW (D : va_G) (tys : List (ClassId × FieldType)) (w : va_W) (sz : Nat) (As : List Value) : Array Value → State → Prop := va_Pc As (fun U => U.heap.size = sz ∧ va_P D vwCl w U.heap ∧ va_K D vwCl tys U ∧ va_D (fun _ => True) w)
abbrev hn_at (D : va_G) (tys : List (ClassId × FieldType)) (A : Nat → Prop) (w : va_W) (t : State) : Prop := va_P D vwCl w t.heap ∧ va_K D vwCl tys t ∧ va_D A w
theorem hn_preVW {D : va_G} {tys : List (ClassId × FieldType)} {w : va_W} {As : List Value} {s : State} {H : Heap} {b ci q0 : Nat} {q : vw_C} {fs : List Value} {A : Nat → Prop} (hP : va_P D vwCl w H) (hK : va_K D vwCl tys s) (hD : va_D A w) (hc : vwCl[ci]? = some q) (he : w[q0]? = some (b, .inr (ci, fs))) : PreV s H q.1 b (hn_PW D tys w H.size (.ref b :: As)) As :=
  ⟨fun a U g mk z => by obtain ⟨z0, z1, zP, zK, zD⟩ := z; exact ⟨z0, z1, zP, va_K.moved (u := U) (U := U.calling g mk a) (Vm.Alike.refl U.vm) zK, zD⟩, va_recv hK hP hc he, fun U hU hW => ⟨rfl, by rw [hU], by rw [hU]; exact hP, va_K.moved hW.alike hK, hD.weaken (fun _ _ _ _ => trivial)⟩⟩
theorem hn_preIW {D : va_G} {tys : List (ClassId × FieldType)} {w : va_W} {As : List Value} {s : State} {H : Heap} {A : Nat → Prop} (hP : va_P D vwCl w H) (hK : va_K D vwCl tys s) (hD : va_D A w) : PreS s H (hn_PW D tys w H.size As) As :=
  ⟨fun a U g mk z => by obtain ⟨z0, z1, zP, zK, zD⟩ := z; exact ⟨z0, z1, zP, va_K.moved (u := U) (U := U.calling g mk a) (Vm.Alike.refl U.vm) zK, zD⟩, fun U hU hW => ⟨rfl, by rw [hU], by rw [hU]; exact hP, va_K.moved hW.alike hK, hD.weaken (fun _ _ _ _ => trivial)⟩⟩
end
