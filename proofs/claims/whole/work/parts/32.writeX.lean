section
theorem hn_sayw (f : Nat → Int32) (a b c d e : Int32) : ∀ i, i < 5 → upd (upd (upd (upd (upd f 0 a) 1 b) 2 c) 3 d) 4 e i = hn_w5 a b c d e i := fun i hi => by
  rcases (show i = 0 ∨ i = 1 ∨ i = 2 ∨ i = 3 ∨ i = 4 by omega) with rfl | rfl | rfl | rfl | rfl <;> rfl
theorem hn_kk1 {t4 : Nat → Int32} {b i : Nat} {k2 : Nat → Int32} (h1 : ∀ j, j < i → t4 (b + j) = k2 j) {j : Nat} (hj : j < i + 1) : upd t4 (b + i) (k2 i) (b + j) = k2 j := by
  by_cases e : j = i
  · rw [e, pk_us]
  · rw [pk_un (by omega)]; exact h1 j (by omega)
theorem hn_upup (σ : Nat → Nat → Int32) (q : Nat) (f g : Nat → Int32) : hn_up (hn_up σ q f) q g = hn_up σ q g := by
  funext j
  unfold hn_up
  by_cases e : j = q
  · rw [if_pos e, if_pos e]
  · rw [if_neg e, if_neg e, if_neg e]
end
set_option maxHeartbeats 4000000 in
set_option maxRecDepth 100000 in
theorem cX_say_ok (l : Launch) (D : va_G) (cI cL : ClassId) (ad : Nat → Nat) (σ : Nat → Nat → Int32) (a b c9 d e9 : Int32) (sz : Nat) : Met l yX_say wX_say ({ frames := 0, cells := 0, slots := 0, locals := 0 }) (hn_PW D (hn_ty cI cL) (hn_wX ad cI (σ)) sz [.ref (ad 0), .int a, .int b, .int c9, .int d, .int e9]) (va_Qv (fun (τ9 : Nat → Nat → Int32) => τ9 0 = σ 0 ∧ τ9 2 = σ 2 ∧ τ9 3 = σ 3 ∧ τ9 4 = σ 4 ∧ τ9 5 = σ 5 ∧ τ9 6 = σ 6 ∧ τ9 7 = σ 7 ∧ τ9 8 = σ 8 ∧ τ9 9 = σ 9 ∧ ∀ i, i < 5 → τ9 1 i = hn_w5 a b c9 d e9 i) (fun (τ9 : Nat → Nat → Int32) t => hn_at D (hn_ty cI cL) (va_A (hn_wX ad cI (σ)) sz) (hn_wX ad cI (τ9)) t) (va_A (hn_wX ad cI (σ)) sz)) 0 0 (va_A (hn_wX ad cI (σ)) sz) := by
  refine Met.ofW (cc := cX_say) (maxL := 6) (ret := none) (by decide) rfl ?_
  intro p e s m args below meth c s₁ B hml hv
  obtain ⟨rfl, hsz, hP, hK, hD0⟩ := hv
  subst hsz
  have hD := hD0.self (sz := s.heap.size)
  generalize hAe : va_A (hn_wX ad cI (σ)) s.heap.size = A at hD ⊢
  have hA : ∀ q : Nat, s.heap.size ≤ q → A q := fun q h => by rw [← hAe]; exact Or.inr h
  have hS : va_S A s.heap s.heap [] := va_S.rf
  have hP : va_P D vwCl (hn_wX ad cI (σ)) s.heap := hP
  have hx := B.exec
  have hb := B.bytes
  have hr := B.returns
  have hts0 := atoms_spec (ws := wX_say) B.pre
  have hts : ∀ w ∈ hn_tb, w.before _ s = true := fun w hw => hts0 w (List.mem_cons_of_mem _ hw)
  have hown : s.vm.findClass RX = some m.cls := findClass_of_methodNamed B.named
  have hlocks := B.notSynchronized
  have hl := lv_entry [.ref (ad 0), .int a, .int b, .int c9, .int d, .int e9] (n := 6) (Nat.le_of_ble_eq_true rfl)
  rw [lg_entry_eq]
  generalize (lg_sl [.ref (ad 0), .int a, .int b, .int c9, .int d, .int e9] ++ List.replicate (6 - (lg_sl [.ref (ad 0), .int a, .int b, .int c9, .int d, .int e9]).length) Slot.unset).toArray = ls at hl ⊢
  have hl : lv_has ls 6 [(0, .ref (ad 0)), (1, .int a), (2, .int b), (3, .int c9), (4, .int d), (5, .int e9)] := hl
  refine lv_aload_n hx hb dX_say_0 rfl (lv_at hl 0 rfl) ?_
  refine va_get (D := D) (ci := 0) (v := .ref (ad 1)) (C := RX) (T := FX) (N := 10) hx hb hts iX hown hK hP 0 rfl rfl 0 (by decide) (hts _ mX_f_hand) (fun _ h9 => h9) rfl dX_say_1 ?_
  refine lv_iconst (v := 0) hx hb dX_say_4 (by decide) ?_
  refine lv_iload_n hx hb dX_say_5 rfl (lv_at hl 1 rfl) ?_
  refine va_iast hx hb hK hP hD hS 1 0 rfl rfl (i := 0) (vp_in_nI (n := 0) (N := 5) (by omega) (by omega)) dX_say_6 (fun H locs hP hD hS => ?_)
  rw [show ((0 : Int32)).toNatClampNeg = 0 from rfl] at hP hD
  obtain ⟨σ1, eσ1⟩ : ∃ z : Nat → Nat → Int32, z = hn_up (σ) 1 (upd (σ 1) 0 a) := ⟨_, rfl⟩
  have hP : va_P D vwCl (hn_wX ad cI (σ1)) H := by rw [eσ1]; exact hP
  have hD : va_D A (hn_wX ad cI (σ1)) := by rw [eσ1]; exact hD
  refine lv_aload_n hx hb dX_say_7 rfl (lv_at hl 0 rfl) ?_
  refine va_get (D := D) (ci := 0) (v := .ref (ad 1)) (C := RX) (T := FX) (N := 10) hx hb hts iX hown hK hP 0 rfl rfl 0 (by decide) (hts _ mX_f_hand) (fun _ h9 => h9) rfl dX_say_8 ?_
  refine lv_iconst (v := 1) hx hb dX_say_11 (by decide) ?_
  refine lv_iload_n hx hb dX_say_12 rfl (lv_at hl 2 rfl) ?_
  refine va_iast hx hb hK hP hD hS 1 0 rfl rfl (i := 1) (vp_in_nI (n := 1) (N := 5) (by omega) (by omega)) dX_say_13 (fun H locs hP hD hS => ?_)
  rw [show ((1 : Int32)).toNatClampNeg = 1 from rfl] at hP hD
  obtain ⟨σ2, eσ2⟩ : ∃ z : Nat → Nat → Int32, z = hn_up (σ1) 1 (upd (σ1 1) 1 b) := ⟨_, rfl⟩
  have hP : va_P D vwCl (hn_wX ad cI (σ2)) H := by rw [eσ2]; exact hP
  have hD : va_D A (hn_wX ad cI (σ2)) := by rw [eσ2]; exact hD
  refine lv_aload_n hx hb dX_say_14 rfl (lv_at hl 0 rfl) ?_
  refine va_get (D := D) (ci := 0) (v := .ref (ad 1)) (C := RX) (T := FX) (N := 10) hx hb hts iX hown hK hP 0 rfl rfl 0 (by decide) (hts _ mX_f_hand) (fun _ h9 => h9) rfl dX_say_15 ?_
  refine lv_iconst (v := 2) hx hb dX_say_18 (by decide) ?_
  refine lv_iload_n hx hb dX_say_19 rfl (lv_at hl 3 rfl) ?_
  refine va_iast hx hb hK hP hD hS 1 0 rfl rfl (i := 2) (vp_in_nI (n := 2) (N := 5) (by omega) (by omega)) dX_say_20 (fun H locs hP hD hS => ?_)
  rw [show ((2 : Int32)).toNatClampNeg = 2 from rfl] at hP hD
  obtain ⟨σ3, eσ3⟩ : ∃ z : Nat → Nat → Int32, z = hn_up (σ2) 1 (upd (σ2 1) 2 c9) := ⟨_, rfl⟩
  have hP : va_P D vwCl (hn_wX ad cI (σ3)) H := by rw [eσ3]; exact hP
  have hD : va_D A (hn_wX ad cI (σ3)) := by rw [eσ3]; exact hD
  refine lv_aload_n hx hb dX_say_21 rfl (lv_at hl 0 rfl) ?_
  refine va_get (D := D) (ci := 0) (v := .ref (ad 1)) (C := RX) (T := FX) (N := 10) hx hb hts iX hown hK hP 0 rfl rfl 0 (by decide) (hts _ mX_f_hand) (fun _ h9 => h9) rfl dX_say_22 ?_
  refine lv_iconst (v := 3) hx hb dX_say_25 (by decide) ?_
  refine lv_iload hx hb dX_say_26 (lv_at hl 4 rfl) ?_
  refine va_iast hx hb hK hP hD hS 1 0 rfl rfl (i := 3) (vp_in_nI (n := 3) (N := 5) (by omega) (by omega)) dX_say_28 (fun H locs hP hD hS => ?_)
  rw [show ((3 : Int32)).toNatClampNeg = 3 from rfl] at hP hD
  obtain ⟨σ4, eσ4⟩ : ∃ z : Nat → Nat → Int32, z = hn_up (σ3) 1 (upd (σ3 1) 3 d) := ⟨_, rfl⟩
  have hP : va_P D vwCl (hn_wX ad cI (σ4)) H := by rw [eσ4]; exact hP
  have hD : va_D A (hn_wX ad cI (σ4)) := by rw [eσ4]; exact hD
  refine lv_aload_n hx hb dX_say_29 rfl (lv_at hl 0 rfl) ?_
  refine va_get (D := D) (ci := 0) (v := .ref (ad 1)) (C := RX) (T := FX) (N := 10) hx hb hts iX hown hK hP 0 rfl rfl 0 (by decide) (hts _ mX_f_hand) (fun _ h9 => h9) rfl dX_say_30 ?_
  refine lv_iconst (v := 4) hx hb dX_say_33 (by decide) ?_
  refine lv_iload hx hb dX_say_34 (lv_at hl 5 rfl) ?_
  refine va_iast hx hb hK hP hD hS 1 0 rfl rfl (i := 4) (vp_in_nI (n := 4) (N := 5) (by omega) (by omega)) dX_say_36 (fun H locs hP hD hS => ?_)
  rw [show ((4 : Int32)).toNatClampNeg = 4 from rfl] at hP hD
  obtain ⟨σ5, eσ5⟩ : ∃ z : Nat → Nat → Int32, z = hn_up (σ4) 1 (upd (σ4 1) 4 e9) := ⟨_, rfl⟩
  have hP : va_P D vwCl (hn_wX ad cI (σ5)) H := by rw [eσ5]; exact hP
  have hD : va_D A (hn_wX ad cI (σ5)) := by rw [eσ5]; exact hD
  exact W.vret hx hb hr (fun t9 ht9 hW9 => ⟨⟨σ5, rfl, by rw [eσ5, eσ4, eσ3, eσ2, eσ1]; exact ⟨rfl, rfl, rfl, rfl, rfl, rfl, rfl, rfl, rfl, hn_sayw _ a b c9 d e9⟩, by rw [ht9]; exact hP, va_K.moved hW9.alike hK, hD⟩, hS.F ht9⟩) hS.2.2 dX_say_37

set_option maxHeartbeats 4000000 in
set_option maxRecDepth 100000 in
theorem cX_keepKey_ok (l : Launch) (D : va_G) (cI cL : ClassId) (ad : Nat → Nat) (σ : Nat → Nat → Int32) (t : Nat) (ht : t < 384) (n9 : Int32) (sz : Nat) : Met l yX_keepKey wX_keepKey ({ frames := 0, cells := 0, slots := 0, locals := 0 }) (hn_PW D (hn_ty cI cL) (hn_wX ad cI (σ)) sz [.ref (ad 0), .int (nI t), .int n9]) (va_Qv (fun (τ9 : Nat → Nat → Int32) => (τ9 0 = σ 0 ∧ τ9 1 = σ 1 ∧ τ9 2 = σ 2 ∧ τ9 3 = σ 3 ∧ τ9 6 = σ 6 ∧ τ9 7 = σ 7 ∧ τ9 8 = σ 8 ∧ τ9 9 = σ 9) ∧ τ9 5 = upd (σ 5) t n9 ∧ (∀ j, j < 5 → τ9 4 (5 * t + j) = σ 2 j) ∧ ∀ q, ¬ (5 * t ≤ q ∧ q < 5 * t + 5) → τ9 4 q = σ 4 q) (fun (τ9 : Nat → Nat → Int32) t => hn_at D (hn_ty cI cL) (va_A (hn_wX ad cI (σ)) sz) (hn_wX ad cI (τ9)) t) (va_A (hn_wX ad cI (σ)) sz)) 0 0 (va_A (hn_wX ad cI (σ)) sz) := by
  refine Met.ofW (cc := cX_keepKey) (maxL := 4) (ret := none) (by decide) rfl ?_
  intro p e s m args below meth c s₁ B hml hv
  obtain ⟨rfl, hsz, hP, hK, hD0⟩ := hv
  subst hsz
  have hD := hD0.self (sz := s.heap.size)
  generalize hAe : va_A (hn_wX ad cI (σ)) s.heap.size = A at hD ⊢
  have hA : ∀ q : Nat, s.heap.size ≤ q → A q := fun q h => by rw [← hAe]; exact Or.inr h
  have hS : va_S A s.heap s.heap [] := va_S.rf
  have hP : va_P D vwCl (hn_wX ad cI (σ)) s.heap := hP
  have hx := B.exec
  have hb := B.bytes
  have hr := B.returns
  have hts0 := atoms_spec (ws := wX_keepKey) B.pre
  have hts : ∀ w ∈ hn_tb, w.before _ s = true := fun w hw => hts0 w (List.mem_cons_of_mem _ hw)
  have hown : s.vm.findClass RX = some m.cls := findClass_of_methodNamed B.named
  have hlocks := B.notSynchronized
  have hl := lv_entry [.ref (ad 0), .int (nI t), .int n9] (n := 4) (Nat.le_of_ble_eq_true rfl)
  rw [lg_entry_eq]
  generalize (lg_sl [.ref (ad 0), .int (nI t), .int n9] ++ List.replicate (4 - (lg_sl [.ref (ad 0), .int (nI t), .int n9]).length) Slot.unset).toArray = ls at hl ⊢
  have hl : lv_has ls 4 [(0, .ref (ad 0)), (1, .int (nI t)), (2, .int n9)] := hl
  refine lv_iconst (v := 0) hx hb dX_keepKey_0 (by decide) ?_
  refine lv_istore_n (lv' := [(3, .int 0), (0, .ref (ad 0)), (1, .int (nI t)), (2, .int n9)]) hx hb dX_keepKey_1 rfl hl (by decide) rfl (fun ls hl => ?_)
  suffices loop : ∀ (f i : Nat) (σ3 : Nat → Nat → Int32) (H : Heap) (locs : List Loc), i + f = 5 → va_P D vwCl (hn_wX ad cI σ3) H → va_D A (hn_wX ad cI σ3) → va_S A s.heap H locs → ((σ3 0 = σ 0 ∧ σ3 1 = σ 1 ∧ σ3 2 = σ 2 ∧ σ3 3 = σ 3 ∧ σ3 6 = σ 6 ∧ σ3 7 = σ 7 ∧ σ3 8 = σ 8 ∧ σ3 9 = σ 9) ∧ σ3 5 = σ 5 ∧ (∀ j, j < i → σ3 4 (5 * t + j) = σ 2 j) ∧ ∀ q, ¬ (5 * t ≤ q ∧ q < 5 * t + 5) → σ3 4 q = σ 4 q) → ∀ ls : Array Slot, lv_has ls 4 [(0, .ref (ad 0)), (1, .int (nI t)), (2, .int n9), (3, .int (nI i))] → W p l e (headSpec wX_keepKey ({ frames := 0, cells := 0, slots := 0, locals := 0 })).room s m [.ref (ad 0), .int (nI t), .int n9].toArray below meth c H locs 0 0 (MQ below (va_Qv (fun (τ9 : Nat → Nat → Int32) => (τ9 0 = σ 0 ∧ τ9 1 = σ 1 ∧ τ9 2 = σ 2 ∧ τ9 3 = σ 3 ∧ τ9 6 = σ 6 ∧ τ9 7 = σ 7 ∧ τ9 8 = σ 8 ∧ τ9 9 = σ 9) ∧ τ9 5 = upd (σ 5) t n9 ∧ (∀ j, j < 5 → τ9 4 (5 * t + j) = σ 2 j) ∧ ∀ q, ¬ (5 * t ≤ q ∧ q < 5 * t + 5) → τ9 4 q = σ 4 q) (fun (τ9 : Nat → Nat → Int32) t => hn_at D (hn_ty cI cL) A (hn_wX ad cI (τ9)) t) A) [.ref (ad 0), .int (nI t), .int n9].toArray s 0 0 A) (F0 m 2 ls []) from loop 5 0 σ _ _ rfl hP hD hS ⟨⟨rfl, rfl, rfl, rfl, rfl, rfl, rfl, rfl⟩, rfl, fun j z => absurd z (Nat.not_lt_zero _), fun q _ => rfl⟩ ls (lv_sub hl [1, 2, 3, 0] rfl)
  intro f
  induction f with
  | zero =>
    intro i σ3 H locs hf hP hD hS hI ls hl
    have hf : i = 5 := hf
    subst hf
    refine lv_iload_n hx hb dX_keepKey_2 rfl (lv_at hl 3 rfl) ?_
    refine lv_iconst (v := 5) hx hb dX_keepKey_3 (by decide) ?_
    refine lv_icmp_ge (tgt := 29) hx hb dX_keepKey_4 (by decide) (fun c_1 => ?_) (fun c_1 => absurd (show (5 : Int32) ≤ nI 5 by decide) c_1)
    refine lv_aload_n hx hb dX_keepKey_29 rfl (lv_at hl 0 rfl) ?_
    refine va_get (D := D) (ci := 0) (v := .ref (ad 5)) (C := RX) (T := FX) (N := 10) hx hb hts iX hown hK hP 0 rfl rfl 5 (by decide) (hts _ mX_f_lengths) (fun _ h9 => h9) rfl dX_keepKey_30 ?_
    refine lv_iload_n hx hb dX_keepKey_33 rfl (lv_at hl 1 rfl) ?_
    refine lv_iload_n hx hb dX_keepKey_34 rfl (lv_at hl 2 rfl) ?_
    refine va_iast hx hb hK hP hD hS 5 0 rfl rfl (vp_in_nI (show t < 384 from ht) (by omega)) dX_keepKey_35 (fun H locs hP hD hS => ?_)
    rw [nI_clamp (show t < 2 ^ 31 by omega)] at hP hD
    obtain ⟨σ4, eσ4⟩ : ∃ z : Nat → Nat → Int32, z = hn_up (σ3) 5 (upd (σ3 5) t n9) := ⟨_, rfl⟩
    have hP : va_P D vwCl (hn_wX ad cI (σ4)) H := by rw [eσ4]; exact hP
    have hD : va_D A (hn_wX ad cI (σ4)) := by rw [eσ4]; exact hD
    obtain ⟨hk9, h5, h4, h6⟩ := hI
    exact W.vret hx hb hr (fun t9 ht9 hW9 => ⟨⟨σ4, rfl, by rw [eσ4]; exact ⟨hk9, by show upd (σ3 5) t n9 = _; rw [h5], h4, h6⟩, by rw [ht9]; exact hP, va_K.moved hW9.alike hK, hD⟩, hS.F ht9⟩) hS.2.2 dX_keepKey_36
  | succ f ih =>
    intro i σ3 H locs hf hP hD hS hI ls hl
    refine lv_iload_n hx hb dX_keepKey_2 rfl (lv_at hl 3 rfl) ?_
    refine lv_iconst (v := 5) hx hb dX_keepKey_3 (by decide) ?_
    refine lv_icmp_ge (tgt := 29) hx hb dX_keepKey_4 (by decide) (fun c_2 => absurd c_2 (nI_ge (a := i) (b := 5) (by omega) (by decide))) (fun c_2 => ?_)
    obtain ⟨hk9, h5, h4, h6⟩ := hI
    refine lv_aload_n hx hb dX_keepKey_7 rfl (lv_at hl 0 rfl) ?_
    refine va_get (D := D) (ci := 0) (v := .ref (ad 4)) (C := RX) (T := FX) (N := 10) hx hb hts iX hown hK hP 0 rfl rfl 4 (by decide) (hts _ mX_f_words) (fun _ h9 => h9) rfl dX_keepKey_8 ?_
    refine lv_iload_n hx hb dX_keepKey_11 rfl (lv_at hl 1 rfl) ?_
    refine lv_iconst (v := 5) hx hb dX_keepKey_12 (by decide) ?_
    refine lv_imul hx hb dX_keepKey_13 ?_
    refine lv_iload_n hx hb dX_keepKey_14 rfl (lv_at hl 3 rfl) ?_
    refine lv_iadd hx hb dX_keepKey_15 ?_
    rw [show (((nI t) * 5) + (nI i) : Int32) = nI (5 * t + i) from by rw [show (5 : Int32) = nI 5 from rfl, pk_mul, nI_add, Nat.mul_comm]]
    refine lv_aload_n hx hb dX_keepKey_16 rfl (lv_at hl 0 rfl) ?_
    refine va_get (D := D) (ci := 0) (v := .ref (ad 2)) (C := RX) (T := FX) (N := 10) hx hb hts iX hown hK hP 0 rfl rfl 1 (by decide) (hts _ mX_f_key) (fun _ h9 => h9) rfl dX_keepKey_17 ?_
    refine lv_iload_n hx hb dX_keepKey_20 rfl (lv_at hl 3 rfl) ?_
    refine va_iald hx hb hK hP 2 0 rfl rfl (vp_in_nI (show i < 5 from by omega) (by omega)) dX_keepKey_21 ?_
    rw [nI_clamp (show i < 2 ^ 31 by omega)]
    rw [show σ3 2 i = σ 2 i from by rw [hk9.2.2.1]]
    refine va_iast hx hb hK hP hD hS 4 0 rfl rfl (vp_in_nI (show 5 * t + i < 1920 from by omega) (by omega)) dX_keepKey_22 (fun H locs hP hD hS => ?_)
    rw [nI_clamp (show 5 * t + i < 2 ^ 31 by omega)] at hP hD
    obtain ⟨σ5, eσ5⟩ : ∃ z : Nat → Nat → Int32, z = hn_up (σ3) 4 (upd (σ3 4) (5 * t + i) (σ 2 i)) := ⟨_, rfl⟩
    have hP : va_P D vwCl (hn_wX ad cI (σ5)) H := by rw [eσ5]; exact hP
    have hD : va_D A (hn_wX ad cI (σ5)) := by rw [eσ5]; exact hD
    refine lv_iinc (v := nI (i + 1)) (lv' := [(3, .int (nI (i + 1))), (0, .ref (ad 0)), (1, .int (nI t)), (2, .int n9)]) hx hb dX_keepKey_23 hl (k := 3) rfl (nI_1 i) (by decide) rfl (fun ls hl => ?_)
    refine lv_goto (tgt := 2) hx hb dX_keepKey_26 (by decide) ?_
    exact ih (i + 1) σ5 H locs (by omega) hP hD hS (by rw [eσ5]; exact ⟨hk9, h5, fun j hj => hn_kk1 h4 hj, fun q hq => by show upd (σ3 4) _ _ q = _; rw [pk_un (by omega)]; exact h6 q hq⟩) ls (lv_sub hl [1, 2, 3, 0] rfl)

set_option maxHeartbeats 4000000 in
set_option maxRecDepth 100000 in
theorem cX_link8_ok (l : Launch) (D : va_G) (cI cL : ClassId) (ad : Nat → Nat) (σ : Nat → Nat → Int32) (h : Nat) (hh : h < 512) (l9 : List Nat) (hlen : l9.length ≤ 48) (hch : hn_ch (σ 8) h l9) (t : Nat) (ht : t < 384) (sz : Nat) : Met l yX_link wX_link ({ frames := 2, cells := 0, slots := 0, locals := 48 }) (hn_PW D (hn_ty cI cL) (hn_wX ad cI (σ)) sz [.ref (ad 0), .ref (ad 8), .int (nI h), .int (nI t)]) (va_Qv (fun (τ9 : Nat → Nat → Int32) => τ9 = hn_up σ 8 (upd (upd (σ 8) t (σ 8 (hn_pl (hn_ns σ) (hn_nm (σ 2) 0) h l9))) (hn_pl (hn_ns σ) (hn_nm (σ 2) 0) h l9) (nI t))) (fun (τ9 : Nat → Nat → Int32) t => hn_at D (hn_ty cI cL) (va_A (hn_wX ad cI (σ)) sz) (hn_wX ad cI (τ9)) t) (va_A (hn_wX ad cI (σ)) sz)) 0 0 (va_A (hn_wX ad cI (σ)) sz) := by
  refine Met.ofW (cc := cX_link) (maxL := 5) (ret := none) (by decide) rfl ?_
  intro p e s m args below meth c s₁ B hml hv
  obtain ⟨rfl, hsz, hP, hK, hD0⟩ := hv
  subst hsz
  have hD := hD0.self (sz := s.heap.size)
  generalize hAe : va_A (hn_wX ad cI (σ)) s.heap.size = A at hD ⊢
  have hA : ∀ q : Nat, s.heap.size ≤ q → A q := fun q h => by rw [← hAe]; exact Or.inr h
  have hS : va_S A s.heap s.heap [] := va_S.rf
  have hP : va_P D vwCl (hn_wX ad cI (σ)) s.heap := hP
  have hx := B.exec
  have hb := B.bytes
  have hr := B.returns
  have hts0 := atoms_spec (ws := wX_link) B.pre
  have hts : ∀ w ∈ hn_tb, w.before _ s = true := fun w hw => hts0 w (List.mem_cons_of_mem _ hw)
  have hown : s.vm.findClass RX = some m.cls := findClass_of_methodNamed B.named
  have hlocks := B.notSynchronized
  have hl := lv_entry [.ref (ad 0), .ref (ad 8), .int (nI h), .int (nI t)] (n := 5) (Nat.le_of_ble_eq_true rfl)
  rw [lg_entry_eq]
  generalize (lg_sl [.ref (ad 0), .ref (ad 8), .int (nI h), .int (nI t)] ++ List.replicate (5 - (lg_sl [.ref (ad 0), .ref (ad 8), .int (nI h), .int (nI t)]).length) Slot.unset).toArray = ls at hl ⊢
  have hl : lv_has ls 5 [(0, .ref (ad 0)), (1, .ref (ad 8)), (2, .int (nI h)), (3, .int (nI t))] := hl
  refine lv_aload_n hx hb dX_link_0 rfl (lv_at hl 0 rfl) ?_
  refine lv_aload_n hx hb dX_link_1 rfl (lv_at hl 1 rfl) ?_
  refine lv_iload_n hx hb dX_link_2 rfl (lv_at hl 2 rfl) ?_
  refine W.callR (W.runV (As := [.ref (ad 8), .int (nI h)]) (rest := []) ⟨hx, hb, hml, hown, hts⟩ (cX_placeBeforeKey_ok l D cI cL ad σ 8 512 (ad 8) (σ 8) rfl (by decide) (by decide) h hh l9 hlen hch) (cwV 2 hts gX_X_placeBeforeKey rfl rfl rfl (by decide +kernel) ⟨Nat.le_of_ble_eq_true rfl, Nat.le_of_ble_eq_true rfl⟩) (hn_preV hP hK (ci := 0) (q0 := 0) rfl rfl) rfl rfl hl.1 rfl (lv_room (Nat.le_of_ble_eq_true rfl)) dX_link_3 ⟨Nat.zero_le _, Nat.zero_le _⟩) ?_
  refine W.eq (g2 := F0 m 6 ls [.int (nI (hn_pl (hn_ns σ) (hn_nm (σ 2) 0) h l9))]) rfl ?_
  have hpl : (hn_pl (hn_ns σ) (hn_nm (σ 2) 0) h l9) < 512 := by
    rcases hn_pl_mem (hn_ns σ) (hn_nm (σ 2) 0) l9 h with z | z
    · rw [z]; exact hh
    · exact Nat.lt_trans (hn_ch_lt hch _ z) (by decide)
  refine lv_istore (lv' := [(4, .int (nI (hn_pl (hn_ns σ) (hn_nm (σ 2) 0) h l9))), (0, .ref (ad 0)), (1, .ref (ad 8)), (2, .int (nI h)), (3, .int (nI t))]) hx hb dX_link_6 hl (by decide) rfl (fun ls hl => ?_)
  refine lv_aload_n hx hb dX_link_8 rfl (lv_at hl 2 rfl) ?_
  refine lv_iload_n hx hb dX_link_9 rfl (lv_at hl 4 rfl) ?_
  refine lv_aload_n hx hb dX_link_10 rfl (lv_at hl 2 rfl) ?_
  refine lv_iload hx hb dX_link_11 (lv_at hl 0 rfl) ?_
  refine va_iald hx hb hK hP 8 0 rfl rfl (vp_in_nI (show (hn_pl (hn_ns σ) (hn_nm (σ 2) 0) h l9) < 512 from hpl) (by omega)) dX_link_13 ?_
  rw [nI_clamp (show (hn_pl (hn_ns σ) (hn_nm (σ 2) 0) h l9) < 2 ^ 31 by omega)]
  refine va_iast hx hb hK hP hD hS 8 0 rfl rfl (vp_in_nI (show t < 512 from by omega) (by omega)) dX_link_14 (fun H locs hP hD hS => ?_)
  rw [nI_clamp (show t < 2 ^ 31 by omega)] at hP hD
  obtain ⟨σ1, eσ1⟩ : ∃ z : Nat → Nat → Int32, z = hn_up (σ) 8 (upd (σ 8) t (σ 8 (hn_pl (hn_ns σ) (hn_nm (σ 2) 0) h l9))) := ⟨_, rfl⟩
  have hP : va_P D vwCl (hn_wX ad cI (σ1)) H := by rw [eσ1]; exact hP
  have hD : va_D A (hn_wX ad cI (σ1)) := by rw [eσ1]; exact hD
  refine lv_aload_n hx hb dX_link_15 rfl (lv_at hl 2 rfl) ?_
  refine lv_iload hx hb dX_link_16 (lv_at hl 0 rfl) ?_
  refine lv_iload_n hx hb dX_link_18 rfl (lv_at hl 4 rfl) ?_
  refine va_iast hx hb hK hP hD hS 8 0 rfl rfl (vp_in_nI (show (hn_pl (hn_ns σ) (hn_nm (σ 2) 0) h l9) < 512 from hpl) (by omega)) dX_link_19 (fun H locs hP hD hS => ?_)
  rw [nI_clamp (show (hn_pl (hn_ns σ) (hn_nm (σ 2) 0) h l9) < 2 ^ 31 by omega)] at hP hD
  obtain ⟨σ2, eσ2⟩ : ∃ z : Nat → Nat → Int32, z = hn_up (σ1) 8 (upd (σ1 8) (hn_pl (hn_ns σ) (hn_nm (σ 2) 0) h l9) (nI t)) := ⟨_, rfl⟩
  have hP : va_P D vwCl (hn_wX ad cI (σ2)) H := by rw [eσ2]; exact hP
  have hD : va_D A (hn_wX ad cI (σ2)) := by rw [eσ2]; exact hD
  exact W.vret hx hb hr (fun t9 ht9 hW9 => ⟨⟨σ2, rfl, by rw [eσ2, eσ1]; exact hn_upup _ _ _ _, by rw [ht9]; exact hP, va_K.moved hW9.alike hK, hD⟩, hS.F ht9⟩) hS.2.2 dX_link_20

set_option maxHeartbeats 4000000 in
set_option maxRecDepth 100000 in
theorem cX_unlink8_ok (l : Launch) (D : va_G) (cI cL : ClassId) (ad : Nat → Nat) (σ : Nat → Nat → Int32) (h : Nat) (hh : h < 512) (l9 : List Nat) (hlen : l9.length ≤ 48) (hch : hn_ch (σ 8) h l9) (t : Nat) (hsrt : hn_srt (hn_ns σ) l9) (hhl : h ∉ l9) (hmem : t ∈ l9) (hK9 : hn_ns σ t = hn_nm (σ 2) 0) (sz : Nat) : Met l yX_unlinkKey wX_unlinkKey ({ frames := 2, cells := 0, slots := 0, locals := 48 }) (hn_PW D (hn_ty cI cL) (hn_wX ad cI (σ)) sz [.ref (ad 0), .ref (ad 8), .int (nI h)]) (va_Qv (fun (τ9 : Nat → Nat → Int32) => τ9 = hn_up σ 8 (upd (σ 8) (hn_pl (hn_ns σ) (hn_nm (σ 2) 0) h l9) (σ 8 t))) (fun (τ9 : Nat → Nat → Int32) t => hn_at D (hn_ty cI cL) (va_A (hn_wX ad cI (σ)) sz) (hn_wX ad cI (τ9)) t) (va_A (hn_wX ad cI (σ)) sz)) 0 0 (va_A (hn_wX ad cI (σ)) sz) := by
  refine Met.ofW (cc := cX_unlinkKey) (maxL := 5) (ret := none) (by decide) rfl ?_
  intro p e s m args below meth c s₁ B hml hv
  obtain ⟨rfl, hsz, hP, hK, hD0⟩ := hv
  subst hsz
  have hD := hD0.self (sz := s.heap.size)
  generalize hAe : va_A (hn_wX ad cI (σ)) s.heap.size = A at hD ⊢
  have hA : ∀ q : Nat, s.heap.size ≤ q → A q := fun q h => by rw [← hAe]; exact Or.inr h
  have hS : va_S A s.heap s.heap [] := va_S.rf
  have hP : va_P D vwCl (hn_wX ad cI (σ)) s.heap := hP
  have hx := B.exec
  have hb := B.bytes
  have hr := B.returns
  have hts0 := atoms_spec (ws := wX_unlinkKey) B.pre
  have hts : ∀ w ∈ hn_tb, w.before _ s = true := fun w hw => hts0 w (List.mem_cons_of_mem _ hw)
  have hown : s.vm.findClass RX = some m.cls := findClass_of_methodNamed B.named
  have hlocks := B.notSynchronized
  have hl := lv_entry [.ref (ad 0), .ref (ad 8), .int (nI h)] (n := 5) (Nat.le_of_ble_eq_true rfl)
  rw [lg_entry_eq]
  generalize (lg_sl [.ref (ad 0), .ref (ad 8), .int (nI h)] ++ List.replicate (5 - (lg_sl [.ref (ad 0), .ref (ad 8), .int (nI h)]).length) Slot.unset).toArray = ls at hl ⊢
  have hl : lv_has ls 5 [(0, .ref (ad 0)), (1, .ref (ad 8)), (2, .int (nI h))] := hl
  refine lv_aload_n hx hb dX_unlinkKey_0 rfl (lv_at hl 0 rfl) ?_
  refine lv_aload_n hx hb dX_unlinkKey_1 rfl (lv_at hl 1 rfl) ?_
  refine lv_iload_n hx hb dX_unlinkKey_2 rfl (lv_at hl 2 rfl) ?_
  refine W.callR (W.runV (As := [.ref (ad 8), .int (nI h)]) (rest := []) ⟨hx, hb, hml, hown, hts⟩ (cX_placeBeforeKey_ok l D cI cL ad σ 8 512 (ad 8) (σ 8) rfl (by decide) (by decide) h hh l9 hlen hch) (cwV 2 hts gX_X_placeBeforeKey rfl rfl rfl (by decide +kernel) ⟨Nat.le_of_ble_eq_true rfl, Nat.le_of_ble_eq_true rfl⟩) (hn_preV hP hK (ci := 0) (q0 := 0) rfl rfl) rfl rfl hl.1 rfl (lv_room (Nat.le_of_ble_eq_true rfl)) dX_unlinkKey_3 ⟨Nat.zero_le _, Nat.zero_le _⟩) ?_
  refine W.eq (g2 := F0 m 6 ls [.int (nI (hn_pl (hn_ns σ) (hn_nm (σ 2) 0) h l9))]) rfl ?_
  have hpl : (hn_pl (hn_ns σ) (hn_nm (σ 2) 0) h l9) < 512 := by
    rcases hn_pl_mem (hn_ns σ) (hn_nm (σ 2) 0) l9 h with z | z
    · rw [z]; exact hh
    · exact Nat.lt_trans (hn_ch_lt hch _ z) (by decide)
  refine lv_istore_n (lv' := [(3, .int (nI (hn_pl (hn_ns σ) (hn_nm (σ 2) 0) h l9))), (0, .ref (ad 0)), (1, .ref (ad 8)), (2, .int (nI h))]) hx hb dX_unlinkKey_6 rfl hl (by decide) rfl (fun ls hl => ?_)
  refine lv_aload_n hx hb dX_unlinkKey_7 rfl (lv_at hl 2 rfl) ?_
  refine lv_iload_n hx hb dX_unlinkKey_8 rfl (lv_at hl 0 rfl) ?_
  refine va_iald hx hb hK hP 8 0 rfl rfl (vp_in_nI (show (hn_pl (hn_ns σ) (hn_nm (σ 2) 0) h l9) < 512 from hpl) (by omega)) dX_unlinkKey_9 ?_
  rw [nI_clamp (show (hn_pl (hn_ns σ) (hn_nm (σ 2) 0) h l9) < 2 ^ 31 by omega)]
  rw [show σ 8 (hn_pl (hn_ns σ) (hn_nm (σ 2) 0) h l9) = nI t from (hn_ch_rmv hK9 hch hsrt hhl hmem).1]
  have ht := hn_ch_lt hch t hmem
  refine lv_istore (lv' := [(4, .int (nI t)), (3, .int (nI (hn_pl (hn_ns σ) (hn_nm (σ 2) 0) h l9))), (0, .ref (ad 0)), (1, .ref (ad 8)), (2, .int (nI h))]) hx hb dX_unlinkKey_10 hl (by decide) rfl (fun ls hl => ?_)
  refine lv_iload hx hb dX_unlinkKey_12 (lv_at hl 0 rfl) ?_
  refine W.callR (W.runS (As := [.int (nI t)]) (rest := []) ⟨hx, hb, hml, hown, hts⟩ (cX_isSlot_ok l (nI t)) (cwS 1 hts gX_X_isSlot rfl rfl rfl (by decide +kernel) ⟨Nat.le_of_ble_eq_true rfl, Nat.le_of_ble_eq_true rfl⟩) hn_pre0 rfl rfl hl.1 rfl (lv_room (Nat.le_of_ble_eq_true rfl)) dX_unlinkKey_14 ⟨Nat.zero_le _, Nat.zero_le _⟩) ?_
  refine W.eq (g2 := F0 m 17 ls [.int (hn_isl (nI t))]) rfl ?_
  rw [show (hn_isl (nI t) : Int32) = 1 from hn_isl_n ht]
  refine lv_if_eq (tgt := 27) hx hb dX_unlinkKey_17 (by decide) (fun c_3 => absurd c_3 (by decide)) (fun c_3 => ?_)
  refine lv_aload_n hx hb dX_unlinkKey_20 rfl (lv_at hl 3 rfl) ?_
  refine lv_iload_n hx hb dX_unlinkKey_21 rfl (lv_at hl 1 rfl) ?_
  refine lv_aload_n hx hb dX_unlinkKey_22 rfl (lv_at hl 3 rfl) ?_
  refine lv_iload hx hb dX_unlinkKey_23 (lv_at hl 0 rfl) ?_
  refine va_iald hx hb hK hP 8 0 rfl rfl (vp_in_nI (show t < 512 from by omega) (by omega)) dX_unlinkKey_25 ?_
  rw [nI_clamp (show t < 2 ^ 31 by omega)]
  refine va_iast hx hb hK hP hD hS 8 0 rfl rfl (vp_in_nI (show (hn_pl (hn_ns σ) (hn_nm (σ 2) 0) h l9) < 512 from hpl) (by omega)) dX_unlinkKey_26 (fun H locs hP hD hS => ?_)
  rw [nI_clamp (show (hn_pl (hn_ns σ) (hn_nm (σ 2) 0) h l9) < 2 ^ 31 by omega)] at hP hD
  obtain ⟨σ1, eσ1⟩ : ∃ z : Nat → Nat → Int32, z = hn_up (σ) 8 (upd (σ 8) (hn_pl (hn_ns σ) (hn_nm (σ 2) 0) h l9) (σ 8 t)) := ⟨_, rfl⟩
  have hP : va_P D vwCl (hn_wX ad cI (σ1)) H := by rw [eσ1]; exact hP
  have hD : va_D A (hn_wX ad cI (σ1)) := by rw [eσ1]; exact hD
  exact W.vret hx hb hr (fun t9 ht9 hW9 => ⟨⟨σ1, rfl, eσ1, by rw [ht9]; exact hP, va_K.moved hW9.alike hK, hD⟩, hS.F ht9⟩) hS.2.2 dX_unlinkKey_27

set_option maxHeartbeats 4000000 in
set_option maxRecDepth 100000 in
theorem cX_link9_ok (l : Launch) (D : va_G) (cI cL : ClassId) (ad : Nat → Nat) (σ : Nat → Nat → Int32) (h : Nat) (hh : h < 392) (l9 : List Nat) (hlen : l9.length ≤ 48) (hch : hn_ch (σ 9) h l9) (t : Nat) (ht : t < 384) (sz : Nat) : Met l yX_link wX_link ({ frames := 2, cells := 0, slots := 0, locals := 48 }) (hn_PW D (hn_ty cI cL) (hn_wX ad cI (σ)) sz [.ref (ad 0), .ref (ad 9), .int (nI h), .int (nI t)]) (va_Qv (fun (τ9 : Nat → Nat → Int32) => τ9 = hn_up σ 9 (upd (upd (σ 9) t (σ 9 (hn_pl (hn_ns σ) (hn_nm (σ 2) 0) h l9))) (hn_pl (hn_ns σ) (hn_nm (σ 2) 0) h l9) (nI t))) (fun (τ9 : Nat → Nat → Int32) t => hn_at D (hn_ty cI cL) (va_A (hn_wX ad cI (σ)) sz) (hn_wX ad cI (τ9)) t) (va_A (hn_wX ad cI (σ)) sz)) 0 0 (va_A (hn_wX ad cI (σ)) sz) := by
  refine Met.ofW (cc := cX_link) (maxL := 5) (ret := none) (by decide) rfl ?_
  intro p e s m args below meth c s₁ B hml hv
  obtain ⟨rfl, hsz, hP, hK, hD0⟩ := hv
  subst hsz
  have hD := hD0.self (sz := s.heap.size)
  generalize hAe : va_A (hn_wX ad cI (σ)) s.heap.size = A at hD ⊢
  have hA : ∀ q : Nat, s.heap.size ≤ q → A q := fun q h => by rw [← hAe]; exact Or.inr h
  have hS : va_S A s.heap s.heap [] := va_S.rf
  have hP : va_P D vwCl (hn_wX ad cI (σ)) s.heap := hP
  have hx := B.exec
  have hb := B.bytes
  have hr := B.returns
  have hts0 := atoms_spec (ws := wX_link) B.pre
  have hts : ∀ w ∈ hn_tb, w.before _ s = true := fun w hw => hts0 w (List.mem_cons_of_mem _ hw)
  have hown : s.vm.findClass RX = some m.cls := findClass_of_methodNamed B.named
  have hlocks := B.notSynchronized
  have hl := lv_entry [.ref (ad 0), .ref (ad 9), .int (nI h), .int (nI t)] (n := 5) (Nat.le_of_ble_eq_true rfl)
  rw [lg_entry_eq]
  generalize (lg_sl [.ref (ad 0), .ref (ad 9), .int (nI h), .int (nI t)] ++ List.replicate (5 - (lg_sl [.ref (ad 0), .ref (ad 9), .int (nI h), .int (nI t)]).length) Slot.unset).toArray = ls at hl ⊢
  have hl : lv_has ls 5 [(0, .ref (ad 0)), (1, .ref (ad 9)), (2, .int (nI h)), (3, .int (nI t))] := hl
  refine lv_aload_n hx hb dX_link_0 rfl (lv_at hl 0 rfl) ?_
  refine lv_aload_n hx hb dX_link_1 rfl (lv_at hl 1 rfl) ?_
  refine lv_iload_n hx hb dX_link_2 rfl (lv_at hl 2 rfl) ?_
  refine W.callR (W.runV (As := [.ref (ad 9), .int (nI h)]) (rest := []) ⟨hx, hb, hml, hown, hts⟩ (cX_placeBeforeKey_ok l D cI cL ad σ 9 392 (ad 9) (σ 9) rfl (by decide) (by decide) h hh l9 hlen hch) (cwV 2 hts gX_X_placeBeforeKey rfl rfl rfl (by decide +kernel) ⟨Nat.le_of_ble_eq_true rfl, Nat.le_of_ble_eq_true rfl⟩) (hn_preV hP hK (ci := 0) (q0 := 0) rfl rfl) rfl rfl hl.1 rfl (lv_room (Nat.le_of_ble_eq_true rfl)) dX_link_3 ⟨Nat.zero_le _, Nat.zero_le _⟩) ?_
  refine W.eq (g2 := F0 m 6 ls [.int (nI (hn_pl (hn_ns σ) (hn_nm (σ 2) 0) h l9))]) rfl ?_
  have hpl : (hn_pl (hn_ns σ) (hn_nm (σ 2) 0) h l9) < 392 := by
    rcases hn_pl_mem (hn_ns σ) (hn_nm (σ 2) 0) l9 h with z | z
    · rw [z]; exact hh
    · exact Nat.lt_trans (hn_ch_lt hch _ z) (by decide)
  refine lv_istore (lv' := [(4, .int (nI (hn_pl (hn_ns σ) (hn_nm (σ 2) 0) h l9))), (0, .ref (ad 0)), (1, .ref (ad 9)), (2, .int (nI h)), (3, .int (nI t))]) hx hb dX_link_6 hl (by decide) rfl (fun ls hl => ?_)
  refine lv_aload_n hx hb dX_link_8 rfl (lv_at hl 2 rfl) ?_
  refine lv_iload_n hx hb dX_link_9 rfl (lv_at hl 4 rfl) ?_
  refine lv_aload_n hx hb dX_link_10 rfl (lv_at hl 2 rfl) ?_
  refine lv_iload hx hb dX_link_11 (lv_at hl 0 rfl) ?_
  refine va_iald hx hb hK hP 9 0 rfl rfl (vp_in_nI (show (hn_pl (hn_ns σ) (hn_nm (σ 2) 0) h l9) < 392 from hpl) (by omega)) dX_link_13 ?_
  rw [nI_clamp (show (hn_pl (hn_ns σ) (hn_nm (σ 2) 0) h l9) < 2 ^ 31 by omega)]
  refine va_iast hx hb hK hP hD hS 9 0 rfl rfl (vp_in_nI (show t < 392 from by omega) (by omega)) dX_link_14 (fun H locs hP hD hS => ?_)
  rw [nI_clamp (show t < 2 ^ 31 by omega)] at hP hD
  obtain ⟨σ1, eσ1⟩ : ∃ z : Nat → Nat → Int32, z = hn_up (σ) 9 (upd (σ 9) t (σ 9 (hn_pl (hn_ns σ) (hn_nm (σ 2) 0) h l9))) := ⟨_, rfl⟩
  have hP : va_P D vwCl (hn_wX ad cI (σ1)) H := by rw [eσ1]; exact hP
  have hD : va_D A (hn_wX ad cI (σ1)) := by rw [eσ1]; exact hD
  refine lv_aload_n hx hb dX_link_15 rfl (lv_at hl 2 rfl) ?_
  refine lv_iload hx hb dX_link_16 (lv_at hl 0 rfl) ?_
  refine lv_iload_n hx hb dX_link_18 rfl (lv_at hl 4 rfl) ?_
  refine va_iast hx hb hK hP hD hS 9 0 rfl rfl (vp_in_nI (show (hn_pl (hn_ns σ) (hn_nm (σ 2) 0) h l9) < 392 from hpl) (by omega)) dX_link_19 (fun H locs hP hD hS => ?_)
  rw [nI_clamp (show (hn_pl (hn_ns σ) (hn_nm (σ 2) 0) h l9) < 2 ^ 31 by omega)] at hP hD
  obtain ⟨σ2, eσ2⟩ : ∃ z : Nat → Nat → Int32, z = hn_up (σ1) 9 (upd (σ1 9) (hn_pl (hn_ns σ) (hn_nm (σ 2) 0) h l9) (nI t)) := ⟨_, rfl⟩
  have hP : va_P D vwCl (hn_wX ad cI (σ2)) H := by rw [eσ2]; exact hP
  have hD : va_D A (hn_wX ad cI (σ2)) := by rw [eσ2]; exact hD
  exact W.vret hx hb hr (fun t9 ht9 hW9 => ⟨⟨σ2, rfl, by rw [eσ2, eσ1]; exact hn_upup _ _ _ _, by rw [ht9]; exact hP, va_K.moved hW9.alike hK, hD⟩, hS.F ht9⟩) hS.2.2 dX_link_20

set_option maxHeartbeats 4000000 in
set_option maxRecDepth 100000 in
theorem cX_unlink9_ok (l : Launch) (D : va_G) (cI cL : ClassId) (ad : Nat → Nat) (σ : Nat → Nat → Int32) (h : Nat) (hh : h < 392) (l9 : List Nat) (hlen : l9.length ≤ 48) (hch : hn_ch (σ 9) h l9) (t : Nat) (hsrt : hn_srt (hn_ns σ) l9) (hhl : h ∉ l9) (hmem : t ∈ l9) (hK9 : hn_ns σ t = hn_nm (σ 2) 0) (sz : Nat) : Met l yX_unlinkKey wX_unlinkKey ({ frames := 2, cells := 0, slots := 0, locals := 48 }) (hn_PW D (hn_ty cI cL) (hn_wX ad cI (σ)) sz [.ref (ad 0), .ref (ad 9), .int (nI h)]) (va_Qv (fun (τ9 : Nat → Nat → Int32) => τ9 = hn_up σ 9 (upd (σ 9) (hn_pl (hn_ns σ) (hn_nm (σ 2) 0) h l9) (σ 9 t))) (fun (τ9 : Nat → Nat → Int32) t => hn_at D (hn_ty cI cL) (va_A (hn_wX ad cI (σ)) sz) (hn_wX ad cI (τ9)) t) (va_A (hn_wX ad cI (σ)) sz)) 0 0 (va_A (hn_wX ad cI (σ)) sz) := by
  refine Met.ofW (cc := cX_unlinkKey) (maxL := 5) (ret := none) (by decide) rfl ?_
  intro p e s m args below meth c s₁ B hml hv
  obtain ⟨rfl, hsz, hP, hK, hD0⟩ := hv
  subst hsz
  have hD := hD0.self (sz := s.heap.size)
  generalize hAe : va_A (hn_wX ad cI (σ)) s.heap.size = A at hD ⊢
  have hA : ∀ q : Nat, s.heap.size ≤ q → A q := fun q h => by rw [← hAe]; exact Or.inr h
  have hS : va_S A s.heap s.heap [] := va_S.rf
  have hP : va_P D vwCl (hn_wX ad cI (σ)) s.heap := hP
  have hx := B.exec
  have hb := B.bytes
  have hr := B.returns
  have hts0 := atoms_spec (ws := wX_unlinkKey) B.pre
  have hts : ∀ w ∈ hn_tb, w.before _ s = true := fun w hw => hts0 w (List.mem_cons_of_mem _ hw)
  have hown : s.vm.findClass RX = some m.cls := findClass_of_methodNamed B.named
  have hlocks := B.notSynchronized
  have hl := lv_entry [.ref (ad 0), .ref (ad 9), .int (nI h)] (n := 5) (Nat.le_of_ble_eq_true rfl)
  rw [lg_entry_eq]
  generalize (lg_sl [.ref (ad 0), .ref (ad 9), .int (nI h)] ++ List.replicate (5 - (lg_sl [.ref (ad 0), .ref (ad 9), .int (nI h)]).length) Slot.unset).toArray = ls at hl ⊢
  have hl : lv_has ls 5 [(0, .ref (ad 0)), (1, .ref (ad 9)), (2, .int (nI h))] := hl
  refine lv_aload_n hx hb dX_unlinkKey_0 rfl (lv_at hl 0 rfl) ?_
  refine lv_aload_n hx hb dX_unlinkKey_1 rfl (lv_at hl 1 rfl) ?_
  refine lv_iload_n hx hb dX_unlinkKey_2 rfl (lv_at hl 2 rfl) ?_
  refine W.callR (W.runV (As := [.ref (ad 9), .int (nI h)]) (rest := []) ⟨hx, hb, hml, hown, hts⟩ (cX_placeBeforeKey_ok l D cI cL ad σ 9 392 (ad 9) (σ 9) rfl (by decide) (by decide) h hh l9 hlen hch) (cwV 2 hts gX_X_placeBeforeKey rfl rfl rfl (by decide +kernel) ⟨Nat.le_of_ble_eq_true rfl, Nat.le_of_ble_eq_true rfl⟩) (hn_preV hP hK (ci := 0) (q0 := 0) rfl rfl) rfl rfl hl.1 rfl (lv_room (Nat.le_of_ble_eq_true rfl)) dX_unlinkKey_3 ⟨Nat.zero_le _, Nat.zero_le _⟩) ?_
  refine W.eq (g2 := F0 m 6 ls [.int (nI (hn_pl (hn_ns σ) (hn_nm (σ 2) 0) h l9))]) rfl ?_
  have hpl : (hn_pl (hn_ns σ) (hn_nm (σ 2) 0) h l9) < 392 := by
    rcases hn_pl_mem (hn_ns σ) (hn_nm (σ 2) 0) l9 h with z | z
    · rw [z]; exact hh
    · exact Nat.lt_trans (hn_ch_lt hch _ z) (by decide)
  refine lv_istore_n (lv' := [(3, .int (nI (hn_pl (hn_ns σ) (hn_nm (σ 2) 0) h l9))), (0, .ref (ad 0)), (1, .ref (ad 9)), (2, .int (nI h))]) hx hb dX_unlinkKey_6 rfl hl (by decide) rfl (fun ls hl => ?_)
  refine lv_aload_n hx hb dX_unlinkKey_7 rfl (lv_at hl 2 rfl) ?_
  refine lv_iload_n hx hb dX_unlinkKey_8 rfl (lv_at hl 0 rfl) ?_
  refine va_iald hx hb hK hP 9 0 rfl rfl (vp_in_nI (show (hn_pl (hn_ns σ) (hn_nm (σ 2) 0) h l9) < 392 from hpl) (by omega)) dX_unlinkKey_9 ?_
  rw [nI_clamp (show (hn_pl (hn_ns σ) (hn_nm (σ 2) 0) h l9) < 2 ^ 31 by omega)]
  rw [show σ 9 (hn_pl (hn_ns σ) (hn_nm (σ 2) 0) h l9) = nI t from (hn_ch_rmv hK9 hch hsrt hhl hmem).1]
  have ht := hn_ch_lt hch t hmem
  refine lv_istore (lv' := [(4, .int (nI t)), (3, .int (nI (hn_pl (hn_ns σ) (hn_nm (σ 2) 0) h l9))), (0, .ref (ad 0)), (1, .ref (ad 9)), (2, .int (nI h))]) hx hb dX_unlinkKey_10 hl (by decide) rfl (fun ls hl => ?_)
  refine lv_iload hx hb dX_unlinkKey_12 (lv_at hl 0 rfl) ?_
  refine W.callR (W.runS (As := [.int (nI t)]) (rest := []) ⟨hx, hb, hml, hown, hts⟩ (cX_isSlot_ok l (nI t)) (cwS 1 hts gX_X_isSlot rfl rfl rfl (by decide +kernel) ⟨Nat.le_of_ble_eq_true rfl, Nat.le_of_ble_eq_true rfl⟩) hn_pre0 rfl rfl hl.1 rfl (lv_room (Nat.le_of_ble_eq_true rfl)) dX_unlinkKey_14 ⟨Nat.zero_le _, Nat.zero_le _⟩) ?_
  refine W.eq (g2 := F0 m 17 ls [.int (hn_isl (nI t))]) rfl ?_
  rw [show (hn_isl (nI t) : Int32) = 1 from hn_isl_n ht]
  refine lv_if_eq (tgt := 27) hx hb dX_unlinkKey_17 (by decide) (fun c_4 => absurd c_4 (by decide)) (fun c_4 => ?_)
  refine lv_aload_n hx hb dX_unlinkKey_20 rfl (lv_at hl 3 rfl) ?_
  refine lv_iload_n hx hb dX_unlinkKey_21 rfl (lv_at hl 1 rfl) ?_
  refine lv_aload_n hx hb dX_unlinkKey_22 rfl (lv_at hl 3 rfl) ?_
  refine lv_iload hx hb dX_unlinkKey_23 (lv_at hl 0 rfl) ?_
  refine va_iald hx hb hK hP 9 0 rfl rfl (vp_in_nI (show t < 392 from by omega) (by omega)) dX_unlinkKey_25 ?_
  rw [nI_clamp (show t < 2 ^ 31 by omega)]
  refine va_iast hx hb hK hP hD hS 9 0 rfl rfl (vp_in_nI (show (hn_pl (hn_ns σ) (hn_nm (σ 2) 0) h l9) < 392 from hpl) (by omega)) dX_unlinkKey_26 (fun H locs hP hD hS => ?_)
  rw [nI_clamp (show (hn_pl (hn_ns σ) (hn_nm (σ 2) 0) h l9) < 2 ^ 31 by omega)] at hP hD
  obtain ⟨σ1, eσ1⟩ : ∃ z : Nat → Nat → Int32, z = hn_up (σ) 9 (upd (σ 9) (hn_pl (hn_ns σ) (hn_nm (σ 2) 0) h l9) (σ 9 t)) := ⟨_, rfl⟩
  have hP : va_P D vwCl (hn_wX ad cI (σ1)) H := by rw [eσ1]; exact hP
  have hD : va_D A (hn_wX ad cI (σ1)) := by rw [eσ1]; exact hD
  exact W.vret hx hb hr (fun t9 ht9 hW9 => ⟨⟨σ1, rfl, eσ1, by rw [ht9]; exact hP, va_K.moved hW9.alike hK, hD⟩, hS.F ht9⟩) hS.2.2 dX_unlinkKey_27
