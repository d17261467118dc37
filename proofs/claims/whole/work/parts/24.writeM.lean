section
theorem hn_mv1 {t5 o5 : Nat → Int32} {a b k j : Nat} (h1 : ∀ j, j < k → t5 (20 * b + j) = o5 (20 * a + j)) (h2 : ∀ q, ¬ (20 * b ≤ q ∧ q < 20 * b + 20) → t5 q = o5 q) (hj : j < k + 1) (hab : a ≠ b) (hk : k < 20) : upd t5 (20 * b + k) (t5 (20 * a + k)) (20 * b + j) = o5 (20 * a + j) := by
  by_cases e : j = k
  · subst e
    rw [pk_us]
    exact h2 _ (by omega)
  · rw [pk_un (by omega)]
    exact h1 j (by omega)
theorem hn_mv2 {t5 o5 : Nat → Int32} {b k q : Nat} {x : Int32} (h2 : ∀ q, ¬ (20 * b ≤ q ∧ q < 20 * b + 20) → t5 q = o5 q) (hq : ¬ (20 * b ≤ q ∧ q < 20 * b + 20)) (hk : k < 20) : upd t5 (20 * b + k) x q = o5 q := by
  rw [pk_un (by omega)]
  exact h2 q hq
theorem hn_sy1 {t1 : Nat → Int32} {k : Nat} {f : Nat → Int32} (h1 : ∀ j, j < k → t1 j = f j) {j : Nat} (hj : j < k + 1) : upd t1 k (f k) j = f j := by
  by_cases e : j = k
  · rw [e, pk_us]
  · rw [pk_un e]; exact h1 j (by omega)
end
set_option maxHeartbeats 4000000 in
set_option maxRecDepth 100000 in
theorem cM_throwing_ok (l : Launch) (D : va_G) (cI cL : ClassId) (am : Nat → Nat) (τ : Nat → Nat → Int32) (x y : Int32) (sz : Nat) : Met l yM_throwing wM_throwing ({ frames := 0, cells := 0, slots := 0, locals := 0 }) (hn_PW D (hn_ty cI cL) (hn_wM am cI (τ)) sz [.ref (am 0), .int x, .int y]) (va_Qi (fun (r : Int32) (τ9 : Nat → Nat → Int32) => (¬ x = 0 ∧ r = 1 ∧ τ9 = hn_up τ 0 (upd (τ 0) 0 1)) ∨ (x = 0 ∧ ¬ y = 0 ∧ r = 1 ∧ τ9 = hn_up τ 0 (upd (τ 0) 0 2)) ∨ (x = 0 ∧ y = 0 ∧ r = 0 ∧ τ9 = hn_up τ 0 (upd (τ 0) 0 0))) (fun (τ9 : Nat → Nat → Int32) t => hn_at D (hn_ty cI cL) (va_A (hn_wM am cI (τ)) sz) (hn_wM am cI (τ9)) t) (va_A (hn_wM am cI (τ)) sz)) 0 0 (va_A (hn_wM am cI (τ)) sz) := by
  refine Met.ofW (cc := cM_throwing) (maxL := 3) (ret := (some .boolean)) (by decide) rfl ?_
  intro p e s m args below meth c s₁ B hml hv
  obtain ⟨rfl, hsz, hP, hK, hD0⟩ := hv
  subst hsz
  have hD := hD0.self (sz := s.heap.size)
  generalize hAe : va_A (hn_wM am cI (τ)) s.heap.size = A at hD ⊢
  have hA : ∀ q : Nat, s.heap.size ≤ q → A q := fun q h => by rw [← hAe]; exact Or.inr h
  have hS : va_S A s.heap s.heap [] := va_S.rf
  have hP : va_P D vwCl (hn_wM am cI (τ)) s.heap := hP
  have hx := B.exec
  have hb := B.bytes
  have hr := B.returns
  have hts0 := atoms_spec (ws := wM_throwing) B.pre
  have hts : ∀ w ∈ hn_tb, w.before _ s = true := fun w hw => hts0 w (List.mem_cons_of_mem _ hw)
  have hown : s.vm.findClass RM = some m.cls := findClass_of_methodNamed B.named
  have hlocks := B.notSynchronized
  have hl := lv_entry [.ref (am 0), .int x, .int y] (n := 3) (Nat.le_of_ble_eq_true rfl)
  rw [lg_entry_eq]
  generalize (lg_sl [.ref (am 0), .int x, .int y] ++ List.replicate (3 - (lg_sl [.ref (am 0), .int x, .int y]).length) Slot.unset).toArray = ls at hl ⊢
  have hl : lv_has ls 3 [(0, .ref (am 0)), (1, .int x), (2, .int y)] := hl
  refine lv_aload_n hx hb dM_throwing_0 rfl (lv_at hl 0 rfl) ?_
  refine lv_iload_n hx hb dM_throwing_1 rfl (lv_at hl 1 rfl) ?_
  refine lv_if_eq (tgt := 9) hx hb dM_throwing_2 (by decide) (fun c_1 => ?_) (fun c_1 => ?_)
  · skip
    refine lv_iload_n hx hb dM_throwing_9 rfl (lv_at hl 2 rfl) ?_
    refine lv_if_eq (tgt := 17) hx hb dM_throwing_10 (by decide) (fun c_2 => ?_) (fun c_2 => ?_)
    · skip
      refine lv_iconst (v := 0) hx hb dM_throwing_17 (by decide) ?_
      refine va_put (D := D) (ci := 1) (v := .int 0) (ty := .int) (C := RM) (T := FM) (N := 8) hx hb hts iM tM tM_ok nM hown hK hP hD hS 0 rfl rfl 0 (by decide) (hts _ mM_f_thrown) (fun _ h9 => h9) rfl (by decide +kernel) rfl rfl (Nat.le_of_ble_eq_true rfl) dM_throwing_18 (fun H locs hP hD hS => ?_)
      obtain ⟨τ1, eτ1⟩ : ∃ z : Nat → Nat → Int32, z = hn_up (τ) 0 (upd (τ 0) 0 0) := ⟨_, rfl⟩
      have hP : va_P D vwCl (hn_wM am cI (τ1)) H := by rw [eτ1]; exact hP
      have hD : va_D A (hn_wM am cI (τ1)) := by rw [eτ1]; exact hD
      refine lv_aload_n hx hb dM_throwing_21 rfl (lv_at hl 0 rfl) ?_
      refine va_get (D := D) (ci := 1) (v := .int (τ1 0 0)) (C := RM) (T := FM) (N := 8) hx hb hts iM hown hK hP 0 rfl rfl 0 (by decide) (hts _ mM_f_thrown) (fun _ h9 => h9) rfl dM_throwing_22 ?_
      refine lv_if_le (tgt := 32) hx hb dM_throwing_25 (by decide) (fun c_3 => ?_) (fun c_3 => absurd (show τ1 0 0 ≤ 0 by rw [eτ1]; show upd (τ 0) 0 0 0 ≤ 0; rw [pk_us]; decide) c_3)
      refine lv_iconst (v := 0) hx hb dM_throwing_32 (by decide) ?_
      exact W.zret (v := 0) hx hb hr rfl (fun t9 ht9 hW9 => ⟨⟨0, τ1, rfl, Or.inr (Or.inr ⟨c_1, c_2, rfl, eτ1⟩), by rw [ht9]; exact hP, va_K.moved hW9.alike hK, hD⟩, hS.F ht9⟩) hS.2.2 dM_throwing_33
    · skip
      refine lv_iconst (v := 2) hx hb dM_throwing_13 (by decide) ?_
      refine lv_goto (tgt := 18) hx hb dM_throwing_14 (by decide) ?_
      refine va_put (D := D) (ci := 1) (v := .int 2) (ty := .int) (C := RM) (T := FM) (N := 8) hx hb hts iM tM tM_ok nM hown hK hP hD hS 0 rfl rfl 0 (by decide) (hts _ mM_f_thrown) (fun _ h9 => h9) rfl (by decide +kernel) rfl rfl (Nat.le_of_ble_eq_true rfl) dM_throwing_18 (fun H locs hP hD hS => ?_)
      obtain ⟨τ1, eτ1⟩ : ∃ z : Nat → Nat → Int32, z = hn_up (τ) 0 (upd (τ 0) 0 2) := ⟨_, rfl⟩
      have hP : va_P D vwCl (hn_wM am cI (τ1)) H := by rw [eτ1]; exact hP
      have hD : va_D A (hn_wM am cI (τ1)) := by rw [eτ1]; exact hD
      refine lv_aload_n hx hb dM_throwing_21 rfl (lv_at hl 0 rfl) ?_
      refine va_get (D := D) (ci := 1) (v := .int (τ1 0 0)) (C := RM) (T := FM) (N := 8) hx hb hts iM hown hK hP 0 rfl rfl 0 (by decide) (hts _ mM_f_thrown) (fun _ h9 => h9) rfl dM_throwing_22 ?_
      refine lv_if_le (tgt := 32) hx hb dM_throwing_25 (by decide) (fun c_4 => absurd (show upd (τ 0) 0 2 0 ≤ 0 by rw [eτ1] at c_4; exact c_4) (by rw [pk_us]; decide)) (fun c_4 => ?_)
      refine lv_iconst (v := 1) hx hb dM_throwing_28 (by decide) ?_
      refine lv_goto (tgt := 33) hx hb dM_throwing_29 (by decide) ?_
      exact W.zret (v := 1) hx hb hr rfl (fun t9 ht9 hW9 => ⟨⟨1, τ1, rfl, Or.inr (Or.inl ⟨c_1, c_2, rfl, eτ1⟩), by rw [ht9]; exact hP, va_K.moved hW9.alike hK, hD⟩, hS.F ht9⟩) hS.2.2 dM_throwing_33
  · skip
    refine lv_iconst (v := 1) hx hb dM_throwing_5 (by decide) ?_
    refine lv_goto (tgt := 18) hx hb dM_throwing_6 (by decide) ?_
    refine va_put (D := D) (ci := 1) (v := .int 1) (ty := .int) (C := RM) (T := FM) (N := 8) hx hb hts iM tM tM_ok nM hown hK hP hD hS 0 rfl rfl 0 (by decide) (hts _ mM_f_thrown) (fun _ h9 => h9) rfl (by decide +kernel) rfl rfl (Nat.le_of_ble_eq_true rfl) dM_throwing_18 (fun H locs hP hD hS => ?_)
    obtain ⟨τ1, eτ1⟩ : ∃ z : Nat → Nat → Int32, z = hn_up (τ) 0 (upd (τ 0) 0 1) := ⟨_, rfl⟩
    have hP : va_P D vwCl (hn_wM am cI (τ1)) H := by rw [eτ1]; exact hP
    have hD : va_D A (hn_wM am cI (τ1)) := by rw [eτ1]; exact hD
    refine lv_aload_n hx hb dM_throwing_21 rfl (lv_at hl 0 rfl) ?_
    refine va_get (D := D) (ci := 1) (v := .int (τ1 0 0)) (C := RM) (T := FM) (N := 8) hx hb hts iM hown hK hP 0 rfl rfl 0 (by decide) (hts _ mM_f_thrown) (fun _ h9 => h9) rfl dM_throwing_22 ?_
    refine lv_if_le (tgt := 32) hx hb dM_throwing_25 (by decide) (fun c_5 => absurd (show upd (τ 0) 0 1 0 ≤ 0 by rw [eτ1] at c_5; exact c_5) (by rw [pk_us]; decide)) (fun c_5 => ?_)
    refine lv_iconst (v := 1) hx hb dM_throwing_28 (by decide) ?_
    refine lv_goto (tgt := 33) hx hb dM_throwing_29 (by decide) ?_
    exact W.zret (v := 1) hx hb hr rfl (fun t9 ht9 hW9 => ⟨⟨1, τ1, rfl, Or.inl ⟨c_1, rfl, eτ1⟩, by rw [ht9]; exact hP, va_K.moved hW9.alike hK, hD⟩, hS.F ht9⟩) hS.2.2 dM_throwing_33

set_option maxHeartbeats 4000000 in
set_option maxRecDepth 100000 in
theorem cM_move_ok (l : Launch) (D : va_G) (cI cL : ClassId) (am : Nat → Nat) (τ : Nat → Nat → Int32) (a b : Nat) (ha : a < 384) (hb9 : b < 384) (hab : a ≠ b) (sz : Nat) : Met l yM_move wM_move ({ frames := 0, cells := 0, slots := 0, locals := 0 }) (hn_PW D (hn_ty cI cL) (hn_wM am cI (τ)) sz [.ref (am 0), .int (nI a), .int (nI b)]) (va_Qv (fun (τ9 : Nat → Nat → Int32) => τ9 0 = τ 0 ∧ τ9 1 = τ 1 ∧ τ9 2 = τ 2 ∧ τ9 6 = τ 6 ∧ τ9 3 = upd (τ 3) b (τ 3 a) ∧ τ9 4 = upd (τ 4) b (τ 4 a) ∧ (∀ j, j < 20 → τ9 5 (20 * b + j) = τ 5 (20 * a + j)) ∧ ∀ q, ¬ (20 * b ≤ q ∧ q < 20 * b + 20) → τ9 5 q = τ 5 q) (fun (τ9 : Nat → Nat → Int32) t => hn_at D (hn_ty cI cL) (va_A (hn_wM am cI (τ)) sz) (hn_wM am cI (τ9)) t) (va_A (hn_wM am cI (τ)) sz)) 0 0 (va_A (hn_wM am cI (τ)) sz) := by
  refine Met.ofW (cc := cM_move) (maxL := 4) (ret := none) (by decide) rfl ?_
  intro p e s m args below meth c s₁ B hml hv
  obtain ⟨rfl, hsz, hP, hK, hD0⟩ := hv
  subst hsz
  have hD := hD0.self (sz := s.heap.size)
  generalize hAe : va_A (hn_wM am cI (τ)) s.heap.size = A at hD ⊢
  have hA : ∀ q : Nat, s.heap.size ≤ q → A q := fun q h => by rw [← hAe]; exact Or.inr h
  have hS : va_S A s.heap s.heap [] := va_S.rf
  have hP : va_P D vwCl (hn_wM am cI (τ)) s.heap := hP
  have hx := B.exec
  have hb := B.bytes
  have hr := B.returns
  have hts0 := atoms_spec (ws := wM_move) B.pre
  have hts : ∀ w ∈ hn_tb, w.before _ s = true := fun w hw => hts0 w (List.mem_cons_of_mem _ hw)
  have hown : s.vm.findClass RM = some m.cls := findClass_of_methodNamed B.named
  have hlocks := B.notSynchronized
  have hl := lv_entry [.ref (am 0), .int (nI a), .int (nI b)] (n := 4) (Nat.le_of_ble_eq_true rfl)
  rw [lg_entry_eq]
  generalize (lg_sl [.ref (am 0), .int (nI a), .int (nI b)] ++ List.replicate (4 - (lg_sl [.ref (am 0), .int (nI a), .int (nI b)]).length) Slot.unset).toArray = ls at hl ⊢
  have hl : lv_has ls 4 [(0, .ref (am 0)), (1, .int (nI a)), (2, .int (nI b))] := hl
  refine lv_aload_n hx hb dM_move_0 rfl (lv_at hl 0 rfl) ?_
  refine va_get (D := D) (ci := 1) (v := .ref (am 3)) (C := RM) (T := FM) (N := 8) hx hb hts iM hown hK hP 0 rfl rfl 3 (by decide) (hts _ mM_f_id) (fun _ h9 => h9) rfl dM_move_1 ?_
  refine lv_iload_n hx hb dM_move_4 rfl (lv_at hl 2 rfl) ?_
  refine lv_aload_n hx hb dM_move_5 rfl (lv_at hl 0 rfl) ?_
  refine va_get (D := D) (ci := 1) (v := .ref (am 3)) (C := RM) (T := FM) (N := 8) hx hb hts iM hown hK hP 0 rfl rfl 3 (by decide) (hts _ mM_f_id) (fun _ h9 => h9) rfl dM_move_6 ?_
  refine lv_iload_n hx hb dM_move_9 rfl (lv_at hl 1 rfl) ?_
  refine va_iald hx hb hK hP 3 0 rfl rfl (vp_in_nI (show a < 384 from ha) (by omega)) dM_move_10 ?_
  rw [nI_clamp (show a < 2 ^ 31 by omega)]
  refine va_iast hx hb hK hP hD hS 3 0 rfl rfl (vp_in_nI (show b < 384 from hb9) (by omega)) dM_move_11 (fun H locs hP hD hS => ?_)
  rw [nI_clamp (show b < 2 ^ 31 by omega)] at hP hD
  obtain ⟨τ1, eτ1⟩ : ∃ z : Nat → Nat → Int32, z = hn_up (τ) 3 (upd (τ 3) b (τ 3 a)) := ⟨_, rfl⟩
  have hP : va_P D vwCl (hn_wM am cI (τ1)) H := by rw [eτ1]; exact hP
  have hD : va_D A (hn_wM am cI (τ1)) := by rw [eτ1]; exact hD
  refine lv_aload_n hx hb dM_move_12 rfl (lv_at hl 0 rfl) ?_
  refine va_get (D := D) (ci := 1) (v := .ref (am 4)) (C := RM) (T := FM) (N := 8) hx hb hts iM hown hK hP 0 rfl rfl 4 (by decide) (hts _ mM_f_length) (fun _ h9 => h9) rfl dM_move_13 ?_
  refine lv_iload_n hx hb dM_move_16 rfl (lv_at hl 2 rfl) ?_
  refine lv_aload_n hx hb dM_move_17 rfl (lv_at hl 0 rfl) ?_
  refine va_get (D := D) (ci := 1) (v := .ref (am 4)) (C := RM) (T := FM) (N := 8) hx hb hts iM hown hK hP 0 rfl rfl 4 (by decide) (hts _ mM_f_length) (fun _ h9 => h9) rfl dM_move_18 ?_
  refine lv_iload_n hx hb dM_move_21 rfl (lv_at hl 1 rfl) ?_
  refine va_iald hx hb hK hP 4 0 rfl rfl (vp_in_nI (show a < 384 from ha) (by omega)) dM_move_22 ?_
  rw [nI_clamp (show a < 2 ^ 31 by omega)]
  refine va_iast hx hb hK hP hD hS 4 0 rfl rfl (vp_in_nI (show b < 384 from hb9) (by omega)) dM_move_23 (fun H locs hP hD hS => ?_)
  rw [nI_clamp (show b < 2 ^ 31 by omega)] at hP hD
  obtain ⟨τ2, eτ2⟩ : ∃ z : Nat → Nat → Int32, z = hn_up (τ1) 4 (upd (τ1 4) b (τ1 4 a)) := ⟨_, rfl⟩
  have hP : va_P D vwCl (hn_wM am cI (τ2)) H := by rw [eτ2]; exact hP
  have hD : va_D A (hn_wM am cI (τ2)) := by rw [eτ2]; exact hD
  refine lv_iconst (v := 0) hx hb dM_move_24 (by decide) ?_
  refine lv_istore_n (lv' := [(3, .int 0), (0, .ref (am 0)), (1, .int (nI a)), (2, .int (nI b))]) hx hb dM_move_25 rfl hl (by decide) rfl (fun ls hl => ?_)
  have hI : τ2 0 = τ 0 ∧ τ2 1 = τ 1 ∧ τ2 2 = τ 2 ∧ τ2 6 = τ 6 ∧ τ2 3 = upd (τ 3) b (τ 3 a) ∧ τ2 4 = upd (τ 4) b (τ 4 a) ∧ (∀ j, j < 0 → τ2 5 (20 * b + j) = τ 5 (20 * a + j)) ∧ ∀ q, ¬ (20 * b ≤ q ∧ q < 20 * b + 20) → τ2 5 q = τ 5 q := by rw [eτ2, eτ1]; exact ⟨rfl, rfl, rfl, rfl, rfl, rfl, fun j z => absurd z (Nat.not_lt_zero _), fun q _ => rfl⟩
  suffices loop : ∀ (f k : Nat) (τ3 : Nat → Nat → Int32) (H : Heap) (locs : List Loc), k + f = 20 → va_P D vwCl (hn_wM am cI τ3) H → va_D A (hn_wM am cI τ3) → va_S A s.heap H locs → (τ3 0 = τ 0 ∧ τ3 1 = τ 1 ∧ τ3 2 = τ 2 ∧ τ3 6 = τ 6 ∧ τ3 3 = upd (τ 3) b (τ 3 a) ∧ τ3 4 = upd (τ 4) b (τ 4 a) ∧ (∀ j, j < k → τ3 5 (20 * b + j) = τ 5 (20 * a + j)) ∧ ∀ q, ¬ (20 * b ≤ q ∧ q < 20 * b + 20) → τ3 5 q = τ 5 q) → ∀ ls : Array Slot, lv_has ls 4 [(0, .ref (am 0)), (1, .int (nI a)), (2, .int (nI b)), (3, .int (nI k))] → W p l e (headSpec wM_move ({ frames := 0, cells := 0, slots := 0, locals := 0 })).room s m [.ref (am 0), .int (nI a), .int (nI b)].toArray below meth c H locs 0 0 (MQ below (va_Qv (fun (τ9 : Nat → Nat → Int32) => τ9 0 = τ 0 ∧ τ9 1 = τ 1 ∧ τ9 2 = τ 2 ∧ τ9 6 = τ 6 ∧ τ9 3 = upd (τ 3) b (τ 3 a) ∧ τ9 4 = upd (τ 4) b (τ 4 a) ∧ (∀ j, j < 20 → τ9 5 (20 * b + j) = τ 5 (20 * a + j)) ∧ ∀ q, ¬ (20 * b ≤ q ∧ q < 20 * b + 20) → τ9 5 q = τ 5 q) (fun (τ9 : Nat → Nat → Int32) t => hn_at D (hn_ty cI cL) A (hn_wM am cI (τ9)) t) A) [.ref (am 0), .int (nI a), .int (nI b)].toArray s 0 0 A) (F0 m 26 ls []) from loop 20 0 τ2 _ _ rfl hP hD hS hI ls (lv_sub hl [1, 2, 3, 0] rfl)
  intro f
  induction f with
  | zero =>
    intro k τ3 H locs hf hP hD hS hI ls hl
    have hf : k = 20 := hf
    subst hf
    refine lv_iload_n hx hb dM_move_26 rfl (lv_at hl 3 rfl) ?_
    refine lv_bipush (v := 20) hx hb dM_move_27 (by decide) ?_
    refine lv_icmp_ge (tgt := 60) hx hb dM_move_29 (by decide) (fun c_6 => ?_) (fun c_6 => absurd (show (20 : Int32) ≤ nI 20 by decide) c_6)
    exact W.vret hx hb hr (fun t9 ht9 hW9 => ⟨⟨τ3, rfl, hI, by rw [ht9]; exact hP, va_K.moved hW9.alike hK, hD⟩, hS.F ht9⟩) hS.2.2 dM_move_60
  | succ f ih =>
    intro k τ3 H locs hf hP hD hS hI ls hl
    refine lv_iload_n hx hb dM_move_26 rfl (lv_at hl 3 rfl) ?_
    refine lv_bipush (v := 20) hx hb dM_move_27 (by decide) ?_
    refine lv_icmp_ge (tgt := 60) hx hb dM_move_29 (by decide) (fun c_7 => absurd c_7 (nI_ge (a := k) (b := 20) (by omega) (by decide))) (fun c_7 => ?_)
    refine lv_aload_n hx hb dM_move_32 rfl (lv_at hl 0 rfl) ?_
    refine va_get (D := D) (ci := 1) (v := .ref (am 5)) (C := RM) (T := FM) (N := 8) hx hb hts iM hown hK hP 0 rfl rfl 5 (by decide) (hts _ mM_f_bytes) (fun _ h9 => h9) rfl dM_move_33 ?_
    refine lv_bipush (v := 20) hx hb dM_move_36 (by decide) ?_
    refine lv_iload_n hx hb dM_move_38 rfl (lv_at hl 2 rfl) ?_
    refine lv_imul hx hb dM_move_39 ?_
    refine lv_iload_n hx hb dM_move_40 rfl (lv_at hl 3 rfl) ?_
    refine lv_iadd hx hb dM_move_41 ?_
    rw [show ((20 * (nI b)) + (nI k) : Int32) = nI (20 * b + k) from by rw [show (20 : Int32) = nI 20 from rfl, pk_mul, nI_add]]
    refine lv_aload_n hx hb dM_move_42 rfl (lv_at hl 0 rfl) ?_
    refine va_get (D := D) (ci := 1) (v := .ref (am 5)) (C := RM) (T := FM) (N := 8) hx hb hts iM hown hK hP 0 rfl rfl 5 (by decide) (hts _ mM_f_bytes) (fun _ h9 => h9) rfl dM_move_43 ?_
    refine lv_bipush (v := 20) hx hb dM_move_46 (by decide) ?_
    refine lv_iload_n hx hb dM_move_48 rfl (lv_at hl 1 rfl) ?_
    refine lv_imul hx hb dM_move_49 ?_
    refine lv_iload_n hx hb dM_move_50 rfl (lv_at hl 3 rfl) ?_
    refine lv_iadd hx hb dM_move_51 ?_
    rw [show ((20 * (nI a)) + (nI k) : Int32) = nI (20 * a + k) from by rw [show (20 : Int32) = nI 20 from rfl, pk_mul, nI_add]]
    refine va_iald hx hb hK hP 5 0 rfl rfl (vp_in_nI (show 20 * a + k < 7680 from by omega) (by omega)) dM_move_52 ?_
    rw [nI_clamp (show 20 * a + k < 2 ^ 31 by omega)]
    refine va_iast hx hb hK hP hD hS 5 0 rfl rfl (vp_in_nI (show 20 * b + k < 7680 from by omega) (by omega)) dM_move_53 (fun H locs hP hD hS => ?_)
    rw [nI_clamp (show 20 * b + k < 2 ^ 31 by omega)] at hP hD
    obtain ⟨τ4, eτ4⟩ : ∃ z : Nat → Nat → Int32, z = hn_up (τ3) 5 (upd (τ3 5) (20 * b + k) (τ3 5 (20 * a + k))) := ⟨_, rfl⟩
    have hP : va_P D vwCl (hn_wM am cI (τ4)) H := by rw [eτ4]; exact hP
    have hD : va_D A (hn_wM am cI (τ4)) := by rw [eτ4]; exact hD
    refine lv_iinc (v := nI (k + 1)) (lv' := [(3, .int (nI (k + 1))), (0, .ref (am 0)), (1, .int (nI a)), (2, .int (nI b))]) hx hb dM_move_54 hl (k := 3) rfl (nI_1 k) (by decide) rfl (fun ls hl => ?_)
    refine lv_goto (tgt := 26) hx hb dM_move_57 (by decide) ?_
    obtain ⟨i0, i1, i2, i6, i3, i4, i5, i7⟩ := hI
    exact ih (k + 1) τ4 H locs (by omega) hP hD hS (by rw [eτ4]; exact ⟨i0, i1, i2, i6, i3, i4, fun j hj => hn_mv1 i5 i7 hj hab (by omega), fun q hq => hn_mv2 i7 hq (by omega)⟩) ls (lv_sub hl [1, 2, 3, 0] rfl)

set_option maxHeartbeats 4000000 in
set_option maxRecDepth 100000 in
theorem cM_say_ok (l : Launch) (D : va_G) (cI cL : ClassId) (am : Nat → Nat) (τ : Nat → Nat → Int32) (a b c9 d e9 : Int32) (sz : Nat) : Met l yM_say wM_say ({ frames := 0, cells := 0, slots := 0, locals := 0 }) (hn_PW D (hn_ty cI cL) (hn_wM am cI (τ)) sz [.ref (am 0), .int a, .int b, .int c9, .int d, .int e9]) (va_Qv (fun (τ9 : Nat → Nat → Int32) => τ9 0 = upd (τ 0) 0 0 ∧ τ9 2 = τ 2 ∧ τ9 3 = τ 3 ∧ τ9 4 = τ 4 ∧ τ9 5 = τ 5 ∧ τ9 6 = τ 6 ∧ ∀ j, j < 20 → τ9 1 j = nI (hn_by (hn_w5 a b c9 d e9) j)) (fun (τ9 : Nat → Nat → Int32) t => hn_at D (hn_ty cI cL) (va_A (hn_wM am cI (τ)) sz) (hn_wM am cI (τ9)) t) (va_A (hn_wM am cI (τ)) sz)) 0 0 (va_A (hn_wM am cI (τ)) sz) := by
  refine Met.ofW (cc := cM_say) (maxL := 8) (ret := none) (by decide) rfl ?_
  intro p e s m args below meth c s₁ B hml hv
  obtain ⟨rfl, hsz, hP, hK, hD0⟩ := hv
  subst hsz
  have hD := hD0.self (sz := s.heap.size)
  generalize hAe : va_A (hn_wM am cI (τ)) s.heap.size = A at hD ⊢
  have hA : ∀ q : Nat, s.heap.size ≤ q → A q := fun q h => by rw [← hAe]; exact Or.inr h
  have hS : va_S A s.heap s.heap [] := va_S.rf
  have hP : va_P D vwCl (hn_wM am cI (τ)) s.heap := hP
  have hx := B.exec
  have hb := B.bytes
  have hr := B.returns
  have hts0 := atoms_spec (ws := wM_say) B.pre
  have hts : ∀ w ∈ hn_tb, w.before _ s = true := fun w hw => hts0 w (List.mem_cons_of_mem _ hw)
  have hown : s.vm.findClass RM = some m.cls := findClass_of_methodNamed B.named
  have hlocks := B.notSynchronized
  have hl := lv_entry [.ref (am 0), .int a, .int b, .int c9, .int d, .int e9] (n := 8) (Nat.le_of_ble_eq_true rfl)
  rw [lg_entry_eq]
  generalize (lg_sl [.ref (am 0), .int a, .int b, .int c9, .int d, .int e9] ++ List.replicate (8 - (lg_sl [.ref (am 0), .int a, .int b, .int c9, .int d, .int e9]).length) Slot.unset).toArray = ls at hl ⊢
  have hl : lv_has ls 8 [(0, .ref (am 0)), (1, .int a), (2, .int b), (3, .int c9), (4, .int d), (5, .int e9)] := hl
  refine lv_aload_n hx hb dM_say_0 rfl (lv_at hl 0 rfl) ?_
  refine lv_iconst (v := 0) hx hb dM_say_1 (by decide) ?_
  refine va_put (D := D) (ci := 1) (v := .int 0) (ty := .int) (C := RM) (T := FM) (N := 8) hx hb hts iM tM tM_ok nM hown hK hP hD hS 0 rfl rfl 0 (by decide) (hts _ mM_f_thrown) (fun _ h9 => h9) rfl (by decide +kernel) rfl rfl (Nat.le_of_ble_eq_true rfl) dM_say_2 (fun H locs hP hD hS => ?_)
  obtain ⟨τ1, eτ1⟩ : ∃ z : Nat → Nat → Int32, z = hn_up (τ) 0 (upd (τ 0) 0 0) := ⟨_, rfl⟩
  have hP : va_P D vwCl (hn_wM am cI (τ1)) H := by rw [eτ1]; exact hP
  have hD : va_D A (hn_wM am cI (τ1)) := by rw [eτ1]; exact hD
  refine lv_iconst (v := 0) hx hb dM_say_5 (by decide) ?_
  refine lv_istore (lv' := [(6, .int 0), (0, .ref (am 0)), (1, .int a), (2, .int b), (3, .int c9), (4, .int d), (5, .int e9)]) hx hb dM_say_6 hl (by decide) rfl (fun ls hl => ?_)
  have hI : τ1 0 = upd (τ 0) 0 0 ∧ τ1 2 = τ 2 ∧ τ1 3 = τ 3 ∧ τ1 4 = τ 4 ∧ τ1 5 = τ 5 ∧ τ1 6 = τ 6 ∧ ∀ j, j < 0 → τ1 1 j = nI (hn_by (hn_w5 a b c9 d e9) j) := by rw [eτ1]; exact ⟨rfl, rfl, rfl, rfl, rfl, rfl, fun j z => absurd z (Nat.not_lt_zero _)⟩
  suffices loop : ∀ (f k : Nat) (τ3 : Nat → Nat → Int32) (H : Heap) (locs : List Loc), k + f = 20 → va_P D vwCl (hn_wM am cI τ3) H → va_D A (hn_wM am cI τ3) → va_S A s.heap H locs → (τ3 0 = upd (τ 0) 0 0 ∧ τ3 2 = τ 2 ∧ τ3 3 = τ 3 ∧ τ3 4 = τ 4 ∧ τ3 5 = τ 5 ∧ τ3 6 = τ 6 ∧ ∀ j, j < k → τ3 1 j = nI (hn_by (hn_w5 a b c9 d e9) j)) → ∀ ls : Array Slot, lv_has ls 8 [(0, .ref (am 0)), (1, .int a), (2, .int b), (3, .int c9), (4, .int d), (5, .int e9), (6, .int (nI k))] → W p l e (headSpec wM_say ({ frames := 0, cells := 0, slots := 0, locals := 0 })).room s m [.ref (am 0), .int a, .int b, .int c9, .int d, .int e9].toArray below meth c H locs 0 0 (MQ below (va_Qv (fun (τ9 : Nat → Nat → Int32) => τ9 0 = upd (τ 0) 0 0 ∧ τ9 2 = τ 2 ∧ τ9 3 = τ 3 ∧ τ9 4 = τ 4 ∧ τ9 5 = τ 5 ∧ τ9 6 = τ 6 ∧ ∀ j, j < 20 → τ9 1 j = nI (hn_by (hn_w5 a b c9 d e9) j)) (fun (τ9 : Nat → Nat → Int32) t => hn_at D (hn_ty cI cL) A (hn_wM am cI (τ9)) t) A) [.ref (am 0), .int a, .int b, .int c9, .int d, .int e9].toArray s 0 0 A) (F0 m 8 ls []) from loop 20 0 τ1 _ _ rfl hP hD hS hI ls (lv_sub hl [1, 2, 3, 4, 5, 6, 0] rfl)
  intro f
  induction f with
  | zero =>
    intro k τ3 H locs hf hP hD hS hI ls hl
    have hf : k = 20 := hf
    subst hf
    refine lv_iload hx hb dM_say_8 (lv_at hl 6 rfl) ?_
    refine lv_bipush (v := 20) hx hb dM_say_10 (by decide) ?_
    refine lv_icmp_ge (tgt := 93) hx hb dM_say_12 (by decide) (fun c_8 => ?_) (fun c_8 => absurd (show (20 : Int32) ≤ nI 20 by decide) c_8)
    exact W.vret hx hb hr (fun t9 ht9 hW9 => ⟨⟨τ3, rfl, hI, by rw [ht9]; exact hP, va_K.moved hW9.alike hK, hD⟩, hS.F ht9⟩) hS.2.2 dM_say_93
  | succ f ih =>
    intro k τ3 H locs hf hP hD hS hI ls hl
    refine lv_iload hx hb dM_say_8 (lv_at hl 6 rfl) ?_
    refine lv_bipush (v := 20) hx hb dM_say_10 (by decide) ?_
    refine lv_icmp_ge (tgt := 93) hx hb dM_say_12 (by decide) (fun c_9 => absurd c_9 (nI_ge (a := k) (b := 20) (by omega) (by decide))) (fun c_9 => ?_)
    refine lv_iload hx hb dM_say_15 (lv_at hl 6 rfl) ?_
    refine lv_iconst (v := 4) hx hb dM_say_17 (by decide) ?_
    refine lv_icmp_ge (tgt := 25) hx hb dM_say_18 (by decide) (fun c_10 => ?_) (fun c_10 => ?_)
    · skip
      have h_c_10 : 4 ≤ k := (nI_leI (a := 4) (by decide) (by omega)).mp c_10
      refine lv_iload hx hb dM_say_25 (lv_at hl 6 rfl) ?_
      refine lv_bipush (v := 8) hx hb dM_say_27 (by decide) ?_
      refine lv_icmp_ge (tgt := 36) hx hb dM_say_29 (by decide) (fun c_11 => ?_) (fun c_11 => ?_)
      · skip
        have h_c_11 : 8 ≤ k := (nI_leI (a := 8) (by decide) (by omega)).mp c_11
        refine lv_iload hx hb dM_say_36 (lv_at hl 6 rfl) ?_
        refine lv_bipush (v := 12) hx hb dM_say_38 (by decide) ?_
        refine lv_icmp_ge (tgt := 47) hx hb dM_say_40 (by decide) (fun c_12 => ?_) (fun c_12 => ?_)
        · skip
          have h_c_12 : 12 ≤ k := (nI_leI (a := 12) (by decide) (by omega)).mp c_12
          refine lv_iload hx hb dM_say_47 (lv_at hl 6 rfl) ?_
          refine lv_bipush (v := 16) hx hb dM_say_49 (by decide) ?_
          refine lv_icmp_ge (tgt := 59) hx hb dM_say_51 (by decide) (fun c_13 => ?_) (fun c_13 => ?_)
          · skip
            have h_c_13 : 16 ≤ k := (nI_leI (a := 16) (by decide) (by omega)).mp c_13
            have hq4 : k / 4 = 4 := by omega
            refine lv_iload hx hb dM_say_59 (lv_at hl 5 rfl) ?_
            refine lv_istore (lv' := [(7, .int e9), (0, .ref (am 0)), (1, .int a), (2, .int b), (3, .int c9), (4, .int d), (5, .int e9), (6, .int (nI k))]) hx hb dM_say_61 hl (by decide) rfl (fun ls hl => ?_)
            refine lv_aload_n hx hb dM_say_63 rfl (lv_at hl 1 rfl) ?_
            refine va_get (D := D) (ci := 1) (v := .ref (am 1)) (C := RM) (T := FM) (N := 8) hx hb hts iM hown hK hP 0 rfl rfl 1 (by decide) (hts _ mM_f_hand) (fun _ h9 => h9) rfl dM_say_64 ?_
            refine lv_iload hx hb dM_say_67 (lv_at hl 7 rfl) ?_
            refine lv_iload hx hb dM_say_69 (lv_at hl 0 rfl) ?_
            refine lv_bipush (v := 24) hx hb dM_say_71 (by decide) ?_
            refine lv_bipush (v := 8) hx hb dM_say_73 (by decide) ?_
            refine lv_iload hx hb dM_say_75 (lv_at hl 7 rfl) ?_
            refine lv_iconst (v := 4) hx hb dM_say_77 (by decide) ?_
            refine lv_irem hx hb dM_say_78 (by decide) ?_
            rw [show ((nI k) - (nI k) / 4 * 4 : Int32) = nI (k % 4) from pk_rem (d := 4) (by omega) (by decide) (by decide)]
            refine lv_imul hx hb dM_say_79 ?_
            rw [show (8 * (nI (k % 4)) : Int32) = nI (8 * (k % 4)) from pk_mul 8 (k % 4)]
            refine lv_isub hx hb dM_say_80 ?_
            rw [show (24 - (nI (8 * (k % 4))) : Int32) = nI (24 - 8 * (k % 4)) from pk_sub (a := 24) (by omega)]
            refine lv_ishr hx hb dM_say_81 ?_
            refine lv_sipush (v := 255) hx hb dM_say_82 (by decide) ?_
            refine lv_iand hx hb dM_say_85 ?_
            rw [show ((e9 >>> ((nI (24 - 8 * (k % 4))) &&& 31)) &&& 255 : Int32) = nI (hn_by (hn_w5 a b c9 d e9) k) from by rw [hn_sby e9 (k := k % 4) (by omega)]; unfold hn_by; rw [hq4]; rfl]
            refine va_iast hx hb hK hP hD hS 1 0 rfl rfl (vp_in_nI (show k < 20 from by omega) (by omega)) dM_say_86 (fun H locs hP hD hS => ?_)
            rw [nI_clamp (show k < 2 ^ 31 by omega)] at hP hD
            obtain ⟨τ4, eτ4⟩ : ∃ z : Nat → Nat → Int32, z = hn_up (τ3) 1 (upd (τ3 1) k (nI (hn_by (hn_w5 a b c9 d e9) k))) := ⟨_, rfl⟩
            have hP : va_P D vwCl (hn_wM am cI (τ4)) H := by rw [eτ4]; exact hP
            have hD : va_D A (hn_wM am cI (τ4)) := by rw [eτ4]; exact hD
            refine lv_iinc (v := nI (k + 1)) (lv' := [(6, .int (nI (k + 1))), (7, .int e9), (0, .ref (am 0)), (1, .int a), (2, .int b), (3, .int c9), (4, .int d), (5, .int e9)]) hx hb dM_say_87 hl (k := 7) rfl (nI_1 k) (by decide) rfl (fun ls hl => ?_)
            refine lv_goto (tgt := 8) hx hb dM_say_90 (by decide) ?_
            obtain ⟨i0, i2, i3, i4, i5, i6, i1⟩ := hI
            exact ih (k + 1) τ4 H locs (by omega) hP hD hS (by rw [eτ4]; exact ⟨i0, i2, i3, i4, i5, i6, fun j hj => hn_sy1 i1 hj⟩) ls (lv_sub hl [2, 3, 4, 5, 6, 7, 0] rfl)
          · skip
            have h_c_13 : k < 16 := Nat.lt_of_not_le (fun z => c_13 (nI_le (b := k) (a := 16) z (by omega)))
            have hq4 : k / 4 = 3 := by omega
            refine lv_iload hx hb dM_say_54 (lv_at hl 4 rfl) ?_
            refine lv_goto (tgt := 61) hx hb dM_say_56 (by decide) ?_
            refine lv_istore (lv' := [(7, .int d), (0, .ref (am 0)), (1, .int a), (2, .int b), (3, .int c9), (4, .int d), (5, .int e9), (6, .int (nI k))]) hx hb dM_say_61 hl (by decide) rfl (fun ls hl => ?_)
            refine lv_aload_n hx hb dM_say_63 rfl (lv_at hl 1 rfl) ?_
            refine va_get (D := D) (ci := 1) (v := .ref (am 1)) (C := RM) (T := FM) (N := 8) hx hb hts iM hown hK hP 0 rfl rfl 1 (by decide) (hts _ mM_f_hand) (fun _ h9 => h9) rfl dM_say_64 ?_
            refine lv_iload hx hb dM_say_67 (lv_at hl 7 rfl) ?_
            refine lv_iload hx hb dM_say_69 (lv_at hl 0 rfl) ?_
            refine lv_bipush (v := 24) hx hb dM_say_71 (by decide) ?_
            refine lv_bipush (v := 8) hx hb dM_say_73 (by decide) ?_
            refine lv_iload hx hb dM_say_75 (lv_at hl 7 rfl) ?_
            refine lv_iconst (v := 4) hx hb dM_say_77 (by decide) ?_
            refine lv_irem hx hb dM_say_78 (by decide) ?_
            rw [show ((nI k) - (nI k) / 4 * 4 : Int32) = nI (k % 4) from pk_rem (d := 4) (by omega) (by decide) (by decide)]
            refine lv_imul hx hb dM_say_79 ?_
            rw [show (8 * (nI (k % 4)) : Int32) = nI (8 * (k % 4)) from pk_mul 8 (k % 4)]
            refine lv_isub hx hb dM_say_80 ?_
            rw [show (24 - (nI (8 * (k % 4))) : Int32) = nI (24 - 8 * (k % 4)) from pk_sub (a := 24) (by omega)]
            refine lv_ishr hx hb dM_say_81 ?_
            refine lv_sipush (v := 255) hx hb dM_say_82 (by decide) ?_
            refine lv_iand hx hb dM_say_85 ?_
            rw [show ((d >>> ((nI (24 - 8 * (k % 4))) &&& 31)) &&& 255 : Int32) = nI (hn_by (hn_w5 a b c9 d e9) k) from by rw [hn_sby d (k := k % 4) (by omega)]; unfold hn_by; rw [hq4]; rfl]
            refine va_iast hx hb hK hP hD hS 1 0 rfl rfl (vp_in_nI (show k < 20 from by omega) (by omega)) dM_say_86 (fun H locs hP hD hS => ?_)
            rw [nI_clamp (show k < 2 ^ 31 by omega)] at hP hD
            obtain ⟨τ4, eτ4⟩ : ∃ z : Nat → Nat → Int32, z = hn_up (τ3) 1 (upd (τ3 1) k (nI (hn_by (hn_w5 a b c9 d e9) k))) := ⟨_, rfl⟩
            have hP : va_P D vwCl (hn_wM am cI (τ4)) H := by rw [eτ4]; exact hP
            have hD : va_D A (hn_wM am cI (τ4)) := by rw [eτ4]; exact hD
            refine lv_iinc (v := nI (k + 1)) (lv' := [(6, .int (nI (k + 1))), (7, .int d), (0, .ref (am 0)), (1, .int a), (2, .int b), (3, .int c9), (4, .int d), (5, .int e9)]) hx hb dM_say_87 hl (k := 7) rfl (nI_1 k) (by decide) rfl (fun ls hl => ?_)
            refine lv_goto (tgt := 8) hx hb dM_say_90 (by decide) ?_
            obtain ⟨i0, i2, i3, i4, i5, i6, i1⟩ := hI
            exact ih (k + 1) τ4 H locs (by omega) hP hD hS (by rw [eτ4]; exact ⟨i0, i2, i3, i4, i5, i6, fun j hj => hn_sy1 i1 hj⟩) ls (lv_sub hl [2, 3, 4, 5, 6, 7, 0] rfl)
        · skip
          have h_c_12 : k < 12 := Nat.lt_of_not_le (fun z => c_12 (nI_le (b := k) (a := 12) z (by omega)))
          have hq4 : k / 4 = 2 := by omega
          refine lv_iload_n hx hb dM_say_43 rfl (lv_at hl 3 rfl) ?_
          refine lv_goto (tgt := 61) hx hb dM_say_44 (by decide) ?_
          refine lv_istore (lv' := [(7, .int c9), (0, .ref (am 0)), (1, .int a), (2, .int b), (3, .int c9), (4, .int d), (5, .int e9), (6, .int (nI k))]) hx hb dM_say_61 hl (by decide) rfl (fun ls hl => ?_)
          refine lv_aload_n hx hb dM_say_63 rfl (lv_at hl 1 rfl) ?_
          refine va_get (D := D) (ci := 1) (v := .ref (am 1)) (C := RM) (T := FM) (N := 8) hx hb hts iM hown hK hP 0 rfl rfl 1 (by decide) (hts _ mM_f_hand) (fun _ h9 => h9) rfl dM_say_64 ?_
          refine lv_iload hx hb dM_say_67 (lv_at hl 7 rfl) ?_
          refine lv_iload hx hb dM_say_69 (lv_at hl 0 rfl) ?_
          refine lv_bipush (v := 24) hx hb dM_say_71 (by decide) ?_
          refine lv_bipush (v := 8) hx hb dM_say_73 (by decide) ?_
          refine lv_iload hx hb dM_say_75 (lv_at hl 7 rfl) ?_
          refine lv_iconst (v := 4) hx hb dM_say_77 (by decide) ?_
          refine lv_irem hx hb dM_say_78 (by decide) ?_
          rw [show ((nI k) - (nI k) / 4 * 4 : Int32) = nI (k % 4) from pk_rem (d := 4) (by omega) (by decide) (by decide)]
          refine lv_imul hx hb dM_say_79 ?_
          rw [show (8 * (nI (k % 4)) : Int32) = nI (8 * (k % 4)) from pk_mul 8 (k % 4)]
          refine lv_isub hx hb dM_say_80 ?_
          rw [show (24 - (nI (8 * (k % 4))) : Int32) = nI (24 - 8 * (k % 4)) from pk_sub (a := 24) (by omega)]
          refine lv_ishr hx hb dM_say_81 ?_
          refine lv_sipush (v := 255) hx hb dM_say_82 (by decide) ?_
          refine lv_iand hx hb dM_say_85 ?_
          rw [show ((c9 >>> ((nI (24 - 8 * (k % 4))) &&& 31)) &&& 255 : Int32) = nI (hn_by (hn_w5 a b c9 d e9) k) from by rw [hn_sby c9 (k := k % 4) (by omega)]; unfold hn_by; rw [hq4]; rfl]
          refine va_iast hx hb hK hP hD hS 1 0 rfl rfl (vp_in_nI (show k < 20 from by omega) (by omega)) dM_say_86 (fun H locs hP hD hS => ?_)
          rw [nI_clamp (show k < 2 ^ 31 by omega)] at hP hD
          obtain ⟨τ4, eτ4⟩ : ∃ z : Nat → Nat → Int32, z = hn_up (τ3) 1 (upd (τ3 1) k (nI (hn_by (hn_w5 a b c9 d e9) k))) := ⟨_, rfl⟩
          have hP : va_P D vwCl (hn_wM am cI (τ4)) H := by rw [eτ4]; exact hP
          have hD : va_D A (hn_wM am cI (τ4)) := by rw [eτ4]; exact hD
          refine lv_iinc (v := nI (k + 1)) (lv' := [(6, .int (nI (k + 1))), (7, .int c9), (0, .ref (am 0)), (1, .int a), (2, .int b), (3, .int c9), (4, .int d), (5, .int e9)]) hx hb dM_say_87 hl (k := 7) rfl (nI_1 k) (by decide) rfl (fun ls hl => ?_)
          refine lv_goto (tgt := 8) hx hb dM_say_90 (by decide) ?_
          obtain ⟨i0, i2, i3, i4, i5, i6, i1⟩ := hI
          exact ih (k + 1) τ4 H locs (by omega) hP hD hS (by rw [eτ4]; exact ⟨i0, i2, i3, i4, i5, i6, fun j hj => hn_sy1 i1 hj⟩) ls (lv_sub hl [2, 3, 4, 5, 6, 7, 0] rfl)
      · skip
        have h_c_11 : k < 8 := Nat.lt_of_not_le (fun z => c_11 (nI_le (b := k) (a := 8) z (by omega)))
        have hq4 : k / 4 = 1 := by omega
        refine lv_iload_n hx hb dM_say_32 rfl (lv_at hl 2 rfl) ?_
        refine lv_goto (tgt := 61) hx hb dM_say_33 (by decide) ?_
        refine lv_istore (lv' := [(7, .int b), (0, .ref (am 0)), (1, .int a), (2, .int b), (3, .int c9), (4, .int d), (5, .int e9), (6, .int (nI k))]) hx hb dM_say_61 hl (by decide) rfl (fun ls hl => ?_)
        refine lv_aload_n hx hb dM_say_63 rfl (lv_at hl 1 rfl) ?_
        refine va_get (D := D) (ci := 1) (v := .ref (am 1)) (C := RM) (T := FM) (N := 8) hx hb hts iM hown hK hP 0 rfl rfl 1 (by decide) (hts _ mM_f_hand) (fun _ h9 => h9) rfl dM_say_64 ?_
        refine lv_iload hx hb dM_say_67 (lv_at hl 7 rfl) ?_
        refine lv_iload hx hb dM_say_69 (lv_at hl 0 rfl) ?_
        refine lv_bipush (v := 24) hx hb dM_say_71 (by decide) ?_
        refine lv_bipush (v := 8) hx hb dM_say_73 (by decide) ?_
        refine lv_iload hx hb dM_say_75 (lv_at hl 7 rfl) ?_
        refine lv_iconst (v := 4) hx hb dM_say_77 (by decide) ?_
        refine lv_irem hx hb dM_say_78 (by decide) ?_
        rw [show ((nI k) - (nI k) / 4 * 4 : Int32) = nI (k % 4) from pk_rem (d := 4) (by omega) (by decide) (by decide)]
        refine lv_imul hx hb dM_say_79 ?_
        rw [show (8 * (nI (k % 4)) : Int32) = nI (8 * (k % 4)) from pk_mul 8 (k % 4)]
        refine lv_isub hx hb dM_say_80 ?_
        rw [show (24 - (nI (8 * (k % 4))) : Int32) = nI (24 - 8 * (k % 4)) from pk_sub (a := 24) (by omega)]
        refine lv_ishr hx hb dM_say_81 ?_
        refine lv_sipush (v := 255) hx hb dM_say_82 (by decide) ?_
        refine lv_iand hx hb dM_say_85 ?_
        rw [show ((b >>> ((nI (24 - 8 * (k % 4))) &&& 31)) &&& 255 : Int32) = nI (hn_by (hn_w5 a b c9 d e9) k) from by rw [hn_sby b (k := k % 4) (by omega)]; unfold hn_by; rw [hq4]; rfl]
        refine va_iast hx hb hK hP hD hS 1 0 rfl rfl (vp_in_nI (show k < 20 from by omega) (by omega)) dM_say_86 (fun H locs hP hD hS => ?_)
        rw [nI_clamp (show k < 2 ^ 31 by omega)] at hP hD
        obtain ⟨τ4, eτ4⟩ : ∃ z : Nat → Nat → Int32, z = hn_up (τ3) 1 (upd (τ3 1) k (nI (hn_by (hn_w5 a b c9 d e9) k))) := ⟨_, rfl⟩
        have hP : va_P D vwCl (hn_wM am cI (τ4)) H := by rw [eτ4]; exact hP
        have hD : va_D A (hn_wM am cI (τ4)) := by rw [eτ4]; exact hD
        refine lv_iinc (v := nI (k + 1)) (lv' := [(6, .int (nI (k + 1))), (7, .int b), (0, .ref (am 0)), (1, .int a), (2, .int b), (3, .int c9), (4, .int d), (5, .int e9)]) hx hb dM_say_87 hl (k := 7) rfl (nI_1 k) (by decide) rfl (fun ls hl => ?_)
        refine lv_goto (tgt := 8) hx hb dM_say_90 (by decide) ?_
        obtain ⟨i0, i2, i3, i4, i5, i6, i1⟩ := hI
        exact ih (k + 1) τ4 H locs (by omega) hP hD hS (by rw [eτ4]; exact ⟨i0, i2, i3, i4, i5, i6, fun j hj => hn_sy1 i1 hj⟩) ls (lv_sub hl [2, 3, 4, 5, 6, 7, 0] rfl)
    · skip
      have h_c_10 : k < 4 := Nat.lt_of_not_le (fun z => c_10 (nI_le (b := k) (a := 4) z (by omega)))
      have hq4 : k / 4 = 0 := by omega
      refine lv_iload_n hx hb dM_say_21 rfl (lv_at hl 1 rfl) ?_
      refine lv_goto (tgt := 61) hx hb dM_say_22 (by decide) ?_
      refine lv_istore (lv' := [(7, .int a), (0, .ref (am 0)), (1, .int a), (2, .int b), (3, .int c9), (4, .int d), (5, .int e9), (6, .int (nI k))]) hx hb dM_say_61 hl (by decide) rfl (fun ls hl => ?_)
      refine lv_aload_n hx hb dM_say_63 rfl (lv_at hl 1 rfl) ?_
      refine va_get (D := D) (ci := 1) (v := .ref (am 1)) (C := RM) (T := FM) (N := 8) hx hb hts iM hown hK hP 0 rfl rfl 1 (by decide) (hts _ mM_f_hand) (fun _ h9 => h9) rfl dM_say_64 ?_
      refine lv_iload hx hb dM_say_67 (lv_at hl 7 rfl) ?_
      refine lv_iload hx hb dM_say_69 (lv_at hl 0 rfl) ?_
      refine lv_bipush (v := 24) hx hb dM_say_71 (by decide) ?_
      refine lv_bipush (v := 8) hx hb dM_say_73 (by decide) ?_
      refine lv_iload hx hb dM_say_75 (lv_at hl 7 rfl) ?_
      refine lv_iconst (v := 4) hx hb dM_say_77 (by decide) ?_
      refine lv_irem hx hb dM_say_78 (by decide) ?_
      rw [show ((nI k) - (nI k) / 4 * 4 : Int32) = nI (k % 4) from pk_rem (d := 4) (by omega) (by decide) (by decide)]
      refine lv_imul hx hb dM_say_79 ?_
      rw [show (8 * (nI (k % 4)) : Int32) = nI (8 * (k % 4)) from pk_mul 8 (k % 4)]
      refine lv_isub hx hb dM_say_80 ?_
      rw [show (24 - (nI (8 * (k % 4))) : Int32) = nI (24 - 8 * (k % 4)) from pk_sub (a := 24) (by omega)]
      refine lv_ishr hx hb dM_say_81 ?_
      refine lv_sipush (v := 255) hx hb dM_say_82 (by decide) ?_
      refine lv_iand hx hb dM_say_85 ?_
      rw [show ((a >>> ((nI (24 - 8 * (k % 4))) &&& 31)) &&& 255 : Int32) = nI (hn_by (hn_w5 a b c9 d e9) k) from by rw [hn_sby a (k := k % 4) (by omega)]; unfold hn_by; rw [hq4]; rfl]
      refine va_iast hx hb hK hP hD hS 1 0 rfl rfl (vp_in_nI (show k < 20 from by omega) (by omega)) dM_say_86 (fun H locs hP hD hS => ?_)
      rw [nI_clamp (show k < 2 ^ 31 by omega)] at hP hD
      obtain ⟨τ4, eτ4⟩ : ∃ z : Nat → Nat → Int32, z = hn_up (τ3) 1 (upd (τ3 1) k (nI (hn_by (hn_w5 a b c9 d e9) k))) := ⟨_, rfl⟩
      have hP : va_P D vwCl (hn_wM am cI (τ4)) H := by rw [eτ4]; exact hP
      have hD : va_D A (hn_wM am cI (τ4)) := by rw [eτ4]; exact hD
      refine lv_iinc (v := nI (k + 1)) (lv' := [(6, .int (nI (k + 1))), (7, .int a), (0, .ref (am 0)), (1, .int a), (2, .int b), (3, .int c9), (4, .int d), (5, .int e9)]) hx hb dM_say_87 hl (k := 7) rfl (nI_1 k) (by decide) rfl (fun ls hl => ?_)
      refine lv_goto (tgt := 8) hx hb dM_say_90 (by decide) ?_
      obtain ⟨i0, i2, i3, i4, i5, i6, i1⟩ := hI
      exact ih (k + 1) τ4 H locs (by omega) hP hD hS (by rw [eτ4]; exact ⟨i0, i2, i3, i4, i5, i6, fun j hj => hn_sy1 i1 hj⟩) ls (lv_sub hl [2, 3, 4, 5, 6, 7, 0] rfl)
