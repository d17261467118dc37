set_option maxHeartbeats 4000000 in
set_option maxRecDepth 100000 in
theorem cX_size_ok (l : Launch) (hl0 : l.stackTraces = false) (D : va_G) (cI cL : ClassId) (z0 : Nat) (sa : Nat → Nat) (ad : Nat → Nat) (σ : Nat → Nat → Int32) (d9 : Int32) (h : Nat → Nat) (D9 : Nat → List hn_E) (tn TK : Nat) (hXR : hn_XR σ h D9 tn TK) (hO : hn_DO D9)  (sz : Nat) : vx_Met l yX_size wX_size ({ frames := 7, cells := 1, slots := 6, locals := 102 }) (hn_PX D (hn_ty cI cL) (hn_wX ad cI (σ) : va_W) sz z0 sa [.ref (ad 0), .int d9]) (va_Qi (fun (r : Int32) (τ9 : Nat → Nat → Int32) => hn_sizeS D9 d9 0 r ∧ hn_XR τ9 h D9 tn TK) (fun (τ9 : Nat → Nat → Int32) t => hn_at D (hn_ty cI cL) (va_A (hn_wX ad cI (σ) : va_W) sz) (hn_wX ad cI (τ9)) t) (va_A (hn_wX ad cI (σ) : va_W) sz)) (vx_X (fun _ : Nat → Nat → Int32 => True) (fun E (τ9 : Nat → Nat → Int32) t => (∃ c : Nat, hn_exc E c ∧ hn_sizeS D9 d9 c 0 ∧ hn_XR τ9 h D9 tn TK) ∧ hn_at D (hn_ty cI cL) (va_A (hn_wX ad cI (σ) : va_W) sz) (hn_wX ad cI (τ9)) t) (va_A (hn_wX ad cI (σ) : va_W) sz)) 1 6 (va_A (hn_wX ad cI (σ) : va_W) sz) := by
  refine vx_ofW (cc := cX_size) (maxL := 2) (ret := (some .int)) (by decide) rfl ?_
  intro p e s m args below meth c s₁ B hml htab hv
  obtain ⟨rfl, hsz, hP, hK, hD0, hz0, hG⟩ := hv
  subst hsz
  have hD := hD0.self (sz := s.heap.size)
  have hAz := hn_Az hD0 hz0
  generalize hAe : va_A (hn_wX ad cI (σ) : va_W) s.heap.size = A at hD hAz ⊢
  have hA : ∀ q : Nat, s.heap.size ≤ q → A q := fun q h => by rw [← hAe]; exact Or.inr h
  have hS : va_S A s.heap s.heap [] := va_S.rf
  have hP : va_P D vwCl (hn_wX ad cI (σ) : va_W) s.heap := hP
  have hx := B.exec
  have hb := B.bytes
  have hr := B.returns
  have hts0 := atoms_spec (ws := wX_size) B.pre
  have hts : ∀ w ∈ hn_tb, w.before _ s = true := fun w hw => hts0 w (List.mem_cons_of_mem _ hw)
  have hown : s.vm.findClass RX = some m.cls := findClass_of_methodNamed B.named
  have hlocks := B.notSynchronized
  have hl := lv_entry [.ref (ad 0), .int d9] (n := 2) (Nat.le_of_ble_eq_true rfl)
  rw [lg_entry_eq]
  generalize (lg_sl [.ref (ad 0), .int d9] ++ List.replicate (2 - (lg_sl [.ref (ad 0), .int d9]).length) Slot.unset).toArray = ls at hl ⊢
  have hl : lv_has ls 2 [(0, .ref (ad 0)), (1, .int d9)] := hl
  have hhd : ∀ k, k < 20 → hn_by (σ 1) k = h k := by obtain ⟨L, B, -, -, hH⟩ := hn_XR_to hXR; exact hH.1
  refine lv_iload_n hx hb dX_size_0 rfl (lv_at hl 1 rfl) ?_
  have hP0 : va_P D vwCl ([] : va_W) s.heap := fun k q h => by cases h
  have hD00 : va_D (fun q => z0 ≤ q) ([] : va_W) := ⟨fun i j p q h => (by cases h), fun k q h => (by cases h)⟩
  refine vx_callv (vx_runS (As := [.int d9]) (rest := []) ⟨hx, hb, hml, hown, hts⟩ (cX_requireDirectory_ok l hl0 D cI cL z0 sa d9 _) (cwS 1 hts gX_X_requireDirectory rfl rfl rfl (by decide +kernel) ⟨(Nat.le_of_ble_eq_true rfl), (Nat.le_of_ble_eq_true rfl)⟩) (hn_preXS hP0 hK hD00 hz0 hG hS hAz) rfl rfl hl.1 rfl (lv_room (Nat.le_of_ble_eq_true rfl)) dX_size_1 ⟨(Nat.le_of_ble_eq_true rfl), (Nat.le_of_ble_eq_true rfl)⟩) hS (fun q h1 h2 => (hn_A0 h1 h2).elim) (fun q h => hn_A1 hA hS h) (fun q h1 h2 => (hn_A0 h1 h2).elim) (fun E ce q9 u t8 H1 locs ht hvm hpx hBX hz1 hk1 hS hce hcv hcl => ?_) (fun u t8 H1 locs ht hvm hw hB hz1 hk1 hS => ?_)
  · have hP : va_P D vwCl (hn_wX ad cI (σ)) H1 := hn_kept0 hP hk1
    obtain ⟨hx1, -⟩ := hBX
    exact vx_out (fun x hx => (htab x hx).elim) hlocks hce hcv hcl (fun t9 ht9 ha9 => ⟨σ, trivial, ⟨⟨1, Or.inl ⟨hx1.1, rfl⟩, Or.inl ⟨rfl, hx1.2⟩, hXR⟩, by rw [ht9]; exact hP, va_K.moved ha9 hK, hD⟩, hS.F ht9⟩) hS.2.2 (Nat.le_of_ble_eq_true rfl) (Nat.le_of_ble_eq_true rfl)
  have hP : va_P D vwCl (hn_wX ad cI (σ)) H1 := hn_kept0 hP hk1
  generalize H1 = H at hP hS ⊢
  have hd9 : hn_dir d9 := hw
  obtain ⟨d, hd, ed⟩ := hd9
  subst ed
  refine lv_aload_n hx hb dX_size_4 rfl (lv_at hl 0 rfl) ?_
  refine va_get (D := D) (ci := 0) (v := .ref (ad 7)) (C := RX) (T := FX) (N := 10) hx hb hts iX hown hK hP 0 rfl rfl 7 (by decide) (hts _ mX_f_counts) (fun _ h9 => h9) rfl dX_size_5 ?_
  refine lv_iload_n hx hb dX_size_8 rfl (lv_at hl 1 rfl) ?_
  refine va_iald hx hb hK hP 7 0 rfl rfl (vp_in_nI (show d < 8 from hd) (by omega)) dX_size_9 ?_
  rw [nI_clamp (show d < 2 ^ 31 by omega)]
  rw [show σ 7 d = nI (D9 d).length from hn_XR_cnt hXR hd]
  refine vx_ret ?_
  refine W.widen (k := 1) (n := 6) (Nat.le_of_ble_eq_true rfl) (Nat.le_of_ble_eq_true rfl) ?_
  exact W.iret (v := (nI (D9 d).length)) hx hb hr (fun t9 ht9 hW9 => ⟨⟨nI (D9 d).length, σ, rfl, ⟨Or.inr ⟨d, rfl, hd, rfl, rfl⟩, hXR⟩, by rw [ht9]; exact hP, va_K.moved hW9.alike hK, hD⟩, hS.F ht9⟩) hS.2.2 dX_size_10

set_option maxHeartbeats 4000000 in
set_option maxRecDepth 100000 in
theorem cX_byteAt_ok (l : Launch) (hl0 : l.stackTraces = false) (D : va_G) (cI cL : ClassId) (z0 : Nat) (sa : Nat → Nat) (ad : Nat → Nat) (σ : Nat → Nat → Int32) (i9 : Int32) (h : Nat → Nat) (D9 : Nat → List hn_E) (tn TK : Nat) (hXR : hn_XR σ h D9 tn TK) (hO : hn_DO D9)  (sz : Nat) : vx_Met l yX_byteAt wX_byteAt ({ frames := 6, cells := 1, slots := 6, locals := 82 }) (hn_PX D (hn_ty cI cL) (hn_wX ad cI (σ) : va_W) sz z0 sa [.ref (ad 0), .int i9]) (va_Qi (fun (r : Int32) (τ9 : Nat → Nat → Int32) => hn_byteS tn TK i9 0 r ∧ hn_XR τ9 h D9 tn TK) (fun (τ9 : Nat → Nat → Int32) t => hn_at D (hn_ty cI cL) (va_A (hn_wX ad cI (σ) : va_W) sz) (hn_wX ad cI (τ9)) t) (va_A (hn_wX ad cI (σ) : va_W) sz)) (vx_X (fun _ : Nat → Nat → Int32 => True) (fun E (τ9 : Nat → Nat → Int32) t => (∃ c : Nat, hn_exc E c ∧ hn_byteS tn TK i9 c 0 ∧ hn_XR τ9 h D9 tn TK) ∧ hn_at D (hn_ty cI cL) (va_A (hn_wX ad cI (σ) : va_W) sz) (hn_wX ad cI (τ9)) t) (va_A (hn_wX ad cI (σ) : va_W) sz)) 1 6 (va_A (hn_wX ad cI (σ) : va_W) sz) := by
  refine vx_ofW (cc := cX_byteAt) (maxL := 2) (ret := (some .int)) (by decide) rfl ?_
  intro p e s m args below meth c s₁ B hml htab hv
  obtain ⟨rfl, hsz, hP, hK, hD0, hz0, hG⟩ := hv
  subst hsz
  have hD := hD0.self (sz := s.heap.size)
  have hAz := hn_Az hD0 hz0
  generalize hAe : va_A (hn_wX ad cI (σ) : va_W) s.heap.size = A at hD hAz ⊢
  have hA : ∀ q : Nat, s.heap.size ≤ q → A q := fun q h => by rw [← hAe]; exact Or.inr h
  have hS : va_S A s.heap s.heap [] := va_S.rf
  have hP : va_P D vwCl (hn_wX ad cI (σ) : va_W) s.heap := hP
  have hx := B.exec
  have hb := B.bytes
  have hr := B.returns
  have hts0 := atoms_spec (ws := wX_byteAt) B.pre
  have hts : ∀ w ∈ hn_tb, w.before _ s = true := fun w hw => hts0 w (List.mem_cons_of_mem _ hw)
  have hown : s.vm.findClass RX = some m.cls := findClass_of_methodNamed B.named
  have hlocks := B.notSynchronized
  have hl := lv_entry [.ref (ad 0), .int i9] (n := 2) (Nat.le_of_ble_eq_true rfl)
  rw [lg_entry_eq]
  generalize (lg_sl [.ref (ad 0), .int i9] ++ List.replicate (2 - (lg_sl [.ref (ad 0), .int i9]).length) Slot.unset).toArray = ls at hl ⊢
  have hl : lv_has ls 2 [(0, .ref (ad 0)), (1, .int i9)] := hl
  have hhd : ∀ k, k < 20 → hn_by (σ 1) k = h k := by obtain ⟨L, B, -, -, hH⟩ := hn_XR_to hXR; exact hH.1
  refine lv_iload_n hx hb dX_byteAt_0 rfl (lv_at hl 1 rfl) ?_
  refine lv_if_ge (tgt := 14) hx hb dX_byteAt_1 (by decide) (fun c_13 => ?_) (fun c_13 => ?_)
  · skip
    obtain ⟨i, hi, ei⟩ := nI_of (Int32.not_lt.mpr c_13)
    subst ei
    obtain ⟨L, B, -, -, hH⟩ := hn_XR_to hXR
    have htn := hH.2.2.1
    refine lv_iload_n hx hb dX_byteAt_14 rfl (lv_at hl 1 rfl) ?_
    refine lv_aload_n hx hb dX_byteAt_15 rfl (lv_at hl 0 rfl) ?_
    refine va_get (D := D) (ci := 0) (v := .int (σ 0 0)) (C := RX) (T := FX) (N := 10) hx hb hts iX hown hK hP 0 rfl rfl 3 (by decide) (hts _ mX_f_toldLength) (fun _ h9 => h9) rfl dX_byteAt_16 ?_
    rw [hH.2.1]
    refine lv_icmp_ge (tgt := 33) hx hb dX_byteAt_19 (by decide) (fun c_14 => ?_) (fun c_14 => ?_)
    · skip
      refine lv_iconst (v := (-1)) hx hb dX_byteAt_33 (by decide) ?_
      refine vx_ret ?_
      refine W.widen (k := 1) (n := 6) (Nat.le_of_ble_eq_true rfl) (Nat.le_of_ble_eq_true rfl) ?_
      exact W.iret (v := (-1)) hx hb hr (fun t9 ht9 hW9 => ⟨⟨(-1), σ, rfl, ⟨Or.inr ⟨i, rfl, hi, rfl, Or.inr ⟨(nI_leI (by omega) hi).mp c_14, rfl⟩⟩, hXR⟩, by rw [ht9]; exact hP, va_K.moved hW9.alike hK, hD⟩, hS.F ht9⟩) hS.2.2 dX_byteAt_34
    · skip
      have hit : i < tn := Nat.lt_of_not_le (fun z => c_14 (nI_le z hi))
      refine lv_aload_n hx hb dX_byteAt_22 rfl (lv_at hl 0 rfl) ?_
      refine va_get (D := D) (ci := 0) (v := .ref (ad 3)) (C := RX) (T := FX) (N := 10) hx hb hts iX hown hK hP 0 rfl rfl 2 (by decide) (hts _ mX_f_told) (fun _ h9 => h9) rfl dX_byteAt_23 ?_
      refine lv_iload_n hx hb dX_byteAt_26 rfl (lv_at hl 1 rfl) ?_
      refine W.callR (W.runS (As := [.ref (ad 3), .int (nI i)]) (rest := []) ⟨hx, hb, hml, hown, hts⟩ (cX_byteOf_ok l D cI cL (hn_wX ad cI σ) 3 5 (ad 3) (σ 3) rfl (by decide) (by decide) i (by omega)) (cwS 2 hts gX_X_byteOf rfl rfl rfl (by decide +kernel) ⟨Nat.le_of_ble_eq_true rfl, Nat.le_of_ble_eq_true rfl⟩) (hn_preS hP hK) rfl rfl hl.1 rfl (lv_room (Nat.le_of_ble_eq_true rfl)) dX_byteAt_27 ⟨Nat.le_of_ble_eq_true rfl, Nat.le_of_ble_eq_true rfl⟩) ?_
      refine W.eq (g2 := F0 m 30 ls [.int (nI (hn_by (σ 3) i))]) rfl ?_
      rw [show (nI (hn_by (σ 3) i) : Int32) = nI (hn_kb TK i) from congrArg nI (hH.2.2.2 i hit)]
      refine lv_goto (tgt := 34) hx hb dX_byteAt_30 (by decide) ?_
      refine vx_ret ?_
      refine W.widen (k := 1) (n := 6) (Nat.le_of_ble_eq_true rfl) (Nat.le_of_ble_eq_true rfl) ?_
      exact W.iret (v := (nI (hn_kb TK i))) hx hb hr (fun t9 ht9 hW9 => ⟨⟨nI (hn_kb TK i), σ, rfl, ⟨Or.inr ⟨i, rfl, hi, rfl, Or.inl ⟨hit, rfl⟩⟩, hXR⟩, by rw [ht9]; exact hP, va_K.moved hW9.alike hK, hD⟩, hS.F ht9⟩) hS.2.2 dX_byteAt_34
  · skip
    exact hn_throwA hx hb hl0 hts hown hG hAz hS (hl.1.trans hml.symm) (is := 100) (text := "i is below 0") (by decide +kernel) dX_byteAt_4 dX_byteAt_7 dX_byteAt_8 dX_byteAt_10 dX_byteAt_13 htab (Nat.le_of_ble_eq_true rfl) (Nat.le_of_ble_eq_true rfl) (Nat.le_of_ble_eq_true rfl) (Nat.le_of_ble_eq_true rfl) hlocks (fun t9 ha9 g1 g2 => ⟨σ, trivial, ⟨⟨1, Or.inl ⟨rfl, rfl⟩, Or.inl ⟨rfl, Int32.not_le.mp c_13⟩, hXR⟩, (hn_xcT hP hK hD hS ha9 g1 g2).1⟩, (hn_xcT hP hK hD hS ha9 g1 g2).2⟩) hS.2.2 (Nat.le_of_ble_eq_true rfl) (Nat.le_of_ble_eq_true rfl)

set_option maxHeartbeats 4000000 in
set_option maxRecDepth 100000 in
theorem cX_find_ok (l : Launch) (hl0 : l.stackTraces = false) (D : va_G) (cI cL : ClassId) (z0 : Nat) (sa : Nat → Nat) (ad : Nat → Nat) (σ : Nat → Nat → Int32) (d9 n9 : Int32) (h : Nat → Nat) (D9 : Nat → List hn_E) (tn TK : Nat) (hXR : hn_XR σ h D9 tn TK) (hO : hn_DO D9)  (sz : Nat) : vx_Met l yX_find wX_find ({ frames := 7, cells := 2, slots := 12, locals := 105 }) (hn_PX D (hn_ty cI cL) (hn_wX ad cI (σ) : va_W) sz z0 sa [.ref (ad 0), .int d9, .int n9]) (va_Qi (fun (r : Int32) (τ9 : Nat → Nat → Int32) => hn_findS h D9 d9 n9 0 r ∧ hn_XR τ9 h D9 tn TK) (fun (τ9 : Nat → Nat → Int32) t => hn_at D (hn_ty cI cL) (va_A (hn_wX ad cI (σ) : va_W) sz) (hn_wX ad cI (τ9)) t) (va_A (hn_wX ad cI (σ) : va_W) sz)) (vx_X (fun _ : Nat → Nat → Int32 => True) (fun E (τ9 : Nat → Nat → Int32) t => (∃ c : Nat, hn_exc E c ∧ hn_findS h D9 d9 n9 c 0 ∧ hn_XR τ9 h D9 tn TK) ∧ hn_at D (hn_ty cI cL) (va_A (hn_wX ad cI (σ) : va_W) sz) (hn_wX ad cI (τ9)) t) (va_A (hn_wX ad cI (σ) : va_W) sz)) 2 12 (va_A (hn_wX ad cI (σ) : va_W) sz) := by
  refine vx_ofW (cc := cX_find) (maxL := 4) (ret := (some .int)) (by decide) rfl ?_
  intro p e s m args below meth c s₁ B hml htab hv
  obtain ⟨rfl, hsz, hP, hK, hD0, hz0, hG⟩ := hv
  subst hsz
  have hD := hD0.self (sz := s.heap.size)
  have hAz := hn_Az hD0 hz0
  generalize hAe : va_A (hn_wX ad cI (σ) : va_W) s.heap.size = A at hD hAz ⊢
  have hA : ∀ q : Nat, s.heap.size ≤ q → A q := fun q h => by rw [← hAe]; exact Or.inr h
  have hS : va_S A s.heap s.heap [] := va_S.rf
  have hP : va_P D vwCl (hn_wX ad cI (σ) : va_W) s.heap := hP
  have hx := B.exec
  have hb := B.bytes
  have hr := B.returns
  have hts0 := atoms_spec (ws := wX_find) B.pre
  have hts : ∀ w ∈ hn_tb, w.before _ s = true := fun w hw => hts0 w (List.mem_cons_of_mem _ hw)
  have hown : s.vm.findClass RX = some m.cls := findClass_of_methodNamed B.named
  have hlocks := B.notSynchronized
  have hl := lv_entry [.ref (ad 0), .int d9, .int n9] (n := 4) (Nat.le_of_ble_eq_true rfl)
  rw [lg_entry_eq]
  generalize (lg_sl [.ref (ad 0), .int d9, .int n9] ++ List.replicate (4 - (lg_sl [.ref (ad 0), .int d9, .int n9]).length) Slot.unset).toArray = ls at hl ⊢
  have hl : lv_has ls 4 [(0, .ref (ad 0)), (1, .int d9), (2, .int n9)] := hl
  have hhd : ∀ k, k < 20 → hn_by (σ 1) k = h k := by obtain ⟨L, B, -, -, hH⟩ := hn_XR_to hXR; exact hH.1
  refine lv_iload_n hx hb dX_find_0 rfl (lv_at hl 1 rfl) ?_
  have hP0 : va_P D vwCl ([] : va_W) s.heap := fun k q h => by cases h
  have hD00 : va_D (fun q => z0 ≤ q) ([] : va_W) := ⟨fun i j p q h => (by cases h), fun k q h => (by cases h)⟩
  refine vx_callv (vx_runS (As := [.int d9]) (rest := []) ⟨hx, hb, hml, hown, hts⟩ (cX_requireDirectory_ok l hl0 D cI cL z0 sa d9 _) (cwS 1 hts gX_X_requireDirectory rfl rfl rfl (by decide +kernel) ⟨(Nat.le_of_ble_eq_true rfl), (Nat.le_of_ble_eq_true rfl)⟩) (hn_preXS hP0 hK hD00 hz0 hG hS hAz) rfl rfl hl.1 rfl (lv_room (Nat.le_of_ble_eq_true rfl)) dX_find_1 ⟨(Nat.le_of_ble_eq_true rfl), (Nat.le_of_ble_eq_true rfl)⟩) hS (fun q h1 h2 => (hn_A0 h1 h2).elim) (fun q h => hn_A1 hA hS h) (fun q h1 h2 => (hn_A0 h1 h2).elim) (fun E ce q9 u t8 H1 locs ht hvm hpx hBX hz1 hk1 hS hce hcv hcl => ?_) (fun u t8 H1 locs ht hvm hw hB hz1 hk1 hS => ?_)
  · have hP : va_P D vwCl (hn_wX ad cI (σ)) H1 := hn_kept0 hP hk1
    obtain ⟨hx1, -⟩ := hBX
    exact vx_out (fun x hx => (htab x hx).elim) hlocks hce hcv hcl (fun t9 ht9 ha9 => ⟨σ, trivial, ⟨⟨1, Or.inl ⟨hx1.1, rfl⟩, Or.inl ⟨rfl, fun z => hx1.2 z.1⟩, hXR⟩, by rw [ht9]; exact hP, va_K.moved ha9 hK, hD⟩, hS.F ht9⟩) hS.2.2 (Nat.le_of_ble_eq_true rfl) (Nat.le_of_ble_eq_true rfl)
  have hP : va_P D vwCl (hn_wX ad cI (σ)) H1 := hn_kept0 hP hk1
  generalize H1 = H at hP hS ⊢
  have hd9 : hn_dir d9 := hw
  refine lv_aload_n hx hb dX_find_4 rfl (lv_at hl 0 rfl) ?_
  refine lv_iload_n hx hb dX_find_5 rfl (lv_at hl 2 rfl) ?_
  have hFc := va_free (wc := hn_wX ad cI (σ)) hD hS hA [0, 1, 2, 3, 4, 5, 6, 7, 8, 9] rfl
  refine vx_callv (vx_runV (As := [.int n9]) (rest := []) ⟨hx, hb, hml, hown, hts⟩ (cX_takeKey_ok l hl0 D cI cL z0 sa ad σ h hhd n9 _) (cwV 1 hts gX_X_takeKey rfl rfl rfl (by decide +kernel) ⟨(Nat.le_of_ble_eq_true rfl), (Nat.le_of_ble_eq_true rfl)⟩) (hn_preXV hP hK (hD.weaken (fun _ q _ h => hAz q.1 h)) hz0 hG hS hAz (ci := 0) (q0 := 0) rfl rfl) rfl rfl hl.1 rfl (lv_room (Nat.le_of_ble_eq_true rfl)) dX_find_6 ⟨(Nat.le_of_ble_eq_true rfl), (Nat.le_of_ble_eq_true rfl)⟩) hS (fun q _ h => hFc q h) hFc (fun q _ h => hFc q h) (fun E ce q9 σ2 t8 H1 locs ht hvm hpx hBX hz1 hk1 hS hce hcv hcl => ?_) (fun σ1 t8 H1 locs ht hvm hw hB hz1 hk1 hS => ?_)
  · obtain ⟨⟨hx1, hx2, hx3⟩, hP1, hK1, hD1⟩ := hBX
    rw [ht] at hP1
    rw [hx3] at hP1 hD1
    have hD : va_D A (hn_wX ad cI (σ)) := hD1.weaken (fun _ q _ h => hFc q.1 h)
    have hP : va_P D vwCl (hn_wX ad cI (σ)) H1 := hP1
    exact vx_out (fun x hx => (htab x hx).elim) hlocks hce hcv hcl (fun t9 ht9 ha9 => ⟨σ, trivial, ⟨⟨1, Or.inl ⟨hx1, rfl⟩, Or.inl ⟨rfl, fun z => hx2 z.2⟩, hXR⟩, by rw [ht9]; exact hP, va_K.moved ha9 hK, hD⟩, hS.F ht9⟩) hS.2.2 (Nat.le_of_ble_eq_true rfl) (Nat.le_of_ble_eq_true rfl)
  obtain ⟨hP1, hK1, hD1⟩ := hB
  rw [ht] at hP1
  have hD : va_D A (hn_wX ad cI (σ1)) := hD1.weaken (fun _ q _ h => hFc q.1 h)
  have hP : va_P D vwCl (hn_wX ad cI (σ1)) H1 := hP1
  generalize H1 = H at hP hS ⊢
  try dsimp only at hw
  obtain ⟨n, k9, en, h1, h2, hz, es1, hkey⟩ := hw
  obtain ⟨d, hd, ed⟩ := hd9
  subst ed
  subst en
  have hok : hn_ok h (nI d) (nI n) d n := ⟨rfl, hd, rfl, h1, h2, hz⟩
  have hX1 : hn_XR σ1 h D9 tn TK := by rw [es1]; exact hn_XR_keep hXR rfl rfl rfl rfl rfl rfl rfl rfl rfl
  have hkn : hn_nm (σ1 2) 0 = hn_num h n := by rw [es1]; exact hkey
  obtain ⟨L, B, hI1, hL1, hH1⟩ := hn_XR_to hX1
  have hb16 := hn_bk_lt (σ1 2) 0
  have hch8 : hn_ch (σ1 8) (384 + d * 16 + hn_bk (σ1 2) 0) (B (16 * d + hn_bk (σ1 2) 0)) := by rw [show 384 + d * 16 + hn_bk (σ1 2) 0 = 384 + (16 * d + hn_bk (σ1 2) 0) by omega]; exact (hI1.2.1 _ (by omega)).1
  refine lv_aload_n hx hb dX_find_9 rfl (lv_at hl 0 rfl) ?_
  refine lv_iload_n hx hb dX_find_10 rfl (lv_at hl 1 rfl) ?_
  refine W.callR (W.runV (As := [.int (nI d)]) (rest := []) ⟨hx, hb, hml, hown, hts⟩ (cX_slotOfKey_ok l D cI cL ad σ1 d hd (B (16 * d + hn_bk (σ1 2) 0)) (hI1.lenB (by omega)) hch8) (cwV 1 hts gX_X_slotOfKey rfl rfl rfl (by decide +kernel) ⟨Nat.le_of_ble_eq_true rfl, Nat.le_of_ble_eq_true rfl⟩) (hn_preV hP hK (ci := 0) (q0 := 0) rfl rfl) rfl rfl hl.1 rfl (lv_room (Nat.le_of_ble_eq_true rfl)) dX_find_11 ⟨Nat.le_of_ble_eq_true rfl, Nat.le_of_ble_eq_true rfl⟩) ?_
  refine W.eq (g2 := F0 m 14 ls [.int (hn_find (hn_ns σ1) (hn_nm (σ1 2) 0) (B (16 * d + hn_bk (σ1 2) 0)))]) rfl ?_
  rcases hn_slot hI1 hd (σ1 2) with ⟨t, ht1, ht2, ht3, ht4⟩ | ⟨hno, ht4⟩
  · rw [ht4]
    have htK : hn_ns σ1 t = hn_num h n := ht2.trans hkn
    have hhas : hn_has (hn_num h n) (D9 d) := (hn_XL_has hL1 hd).mpr ⟨t, ht1, htK⟩
    refine lv_istore_n (lv' := [(3, .int (nI t)), (0, .ref (ad 0)), (1, .int (nI d)), (2, .int (nI n))]) hx hb dX_find_14 rfl hl (by decide) rfl (fun ls hl => ?_)
    refine lv_iload_n hx hb dX_find_15 rfl (lv_at hl 0 rfl) ?_
    refine W.callR (W.runS (As := [.int (nI t)]) (rest := []) ⟨hx, hb, hml, hown, hts⟩ (cX_isSlot_ok l (nI t)) (cwS 1 hts gX_X_isSlot rfl rfl rfl (by decide +kernel) ⟨Nat.le_of_ble_eq_true rfl, Nat.le_of_ble_eq_true rfl⟩) hn_pre0 rfl rfl hl.1 rfl (lv_room (Nat.le_of_ble_eq_true rfl)) dX_find_16 ⟨Nat.le_of_ble_eq_true rfl, Nat.le_of_ble_eq_true rfl⟩) ?_
    refine W.eq (g2 := F0 m 19 ls [.int (hn_isl (nI t))]) rfl ?_
    rw [show (hn_isl (nI t) : Int32) = 1 from hn_isl_n ht3]
    refine lv_if_eq (tgt := 31) hx hb dX_find_19 (by decide) (fun c_15 => absurd c_15 (by decide)) (fun c_15 => ?_)
    refine lv_aload_n hx hb dX_find_22 rfl (lv_at hl 1 rfl) ?_
    refine va_get (D := D) (ci := 0) (v := .ref (ad 6)) (C := RX) (T := FX) (N := 10) hx hb hts iX hown hK hP 0 rfl rfl 6 (by decide) (hts _ mX_f_ids) (fun _ h9 => h9) rfl dX_find_23 ?_
    refine lv_iload_n hx hb dX_find_26 rfl (lv_at hl 0 rfl) ?_
    refine va_iald hx hb hK hP 6 0 rfl rfl (vp_in_nI (show t < 384 from by omega) (by omega)) dX_find_27 ?_
    rw [nI_clamp (show t < 2 ^ 31 by omega)]
    refine lv_goto (tgt := 32) hx hb dX_find_28 (by decide) ?_
    refine vx_ret ?_
    refine W.widen (k := 2) (n := 12) (Nat.le_of_ble_eq_true rfl) (Nat.le_of_ble_eq_true rfl) ?_
    exact W.iret (v := (σ1 6 t)) hx hb hr (fun t9 ht9 hW9 => ⟨⟨σ1 6 t, σ1, rfl, ⟨Or.inr ⟨d, n, hok, rfl, Or.inl ⟨hhas, by rw [hn_XL_at hI1 hL1 hd ht1 htK]; rfl⟩⟩, hX1⟩, by rw [ht9]; exact hP, va_K.moved hW9.alike hK, hD⟩, hS.F ht9⟩) hS.2.2 dX_find_32
  · rw [ht4]
    have hnh : ¬ hn_has (hn_num h n) (D9 d) := fun z => by obtain ⟨t, g1, g2⟩ := (hn_XL_has hL1 hd).mp z; exact hno t g1 (g2.trans hkn.symm)
    refine lv_istore_n (lv' := [(3, .int (-1)), (0, .ref (ad 0)), (1, .int (nI d)), (2, .int (nI n))]) hx hb dX_find_14 rfl hl (by decide) rfl (fun ls hl => ?_)
    refine lv_iload_n hx hb dX_find_15 rfl (lv_at hl 0 rfl) ?_
    refine W.callR (W.runS (As := [.int (-1)]) (rest := []) ⟨hx, hb, hml, hown, hts⟩ (cX_isSlot_ok l (-1)) (cwS 1 hts gX_X_isSlot rfl rfl rfl (by decide +kernel) ⟨Nat.le_of_ble_eq_true rfl, Nat.le_of_ble_eq_true rfl⟩) hn_pre0 rfl rfl hl.1 rfl (lv_room (Nat.le_of_ble_eq_true rfl)) dX_find_16 ⟨Nat.le_of_ble_eq_true rfl, Nat.le_of_ble_eq_true rfl⟩) ?_
    refine W.eq (g2 := F0 m 19 ls [.int (hn_isl (-1))]) rfl ?_
    rw [show (hn_isl (-1) : Int32) = 0 from hn_isl_m1]
    refine lv_if_eq (tgt := 31) hx hb dX_find_19 (by decide) (fun c_16 => ?_) (fun c_16 => absurd rfl c_16)
    refine lv_iconst (v := (-1)) hx hb dX_find_31 (by decide) ?_
    refine vx_ret ?_
    refine W.widen (k := 2) (n := 12) (Nat.le_of_ble_eq_true rfl) (Nat.le_of_ble_eq_true rfl) ?_
    exact W.iret (v := (-1)) hx hb hr (fun t9 ht9 hW9 => ⟨⟨(-1), σ1, rfl, ⟨Or.inr ⟨d, n, hok, rfl, Or.inr ⟨hnh, rfl⟩⟩, hX1⟩, by rw [ht9]; exact hP, va_K.moved hW9.alike hK, hD⟩, hS.F ht9⟩) hS.2.2 dX_find_32

set_option maxHeartbeats 4000000 in
set_option maxRecDepth 100000 in
theorem cX_change_ok (l : Launch) (hl0 : l.stackTraces = false) (D : va_G) (cI cL : ClassId) (z0 : Nat) (sa : Nat → Nat) (ad : Nat → Nat) (σ : Nat → Nat → Int32) (d9 n9 x9 : Int32) (h : Nat → Nat) (D9 : Nat → List hn_E) (tn TK : Nat) (hXR : hn_XR σ h D9 tn TK) (hO : hn_DO D9)  (sz : Nat) : vx_Met l yX_change wX_change ({ frames := 7, cells := 4, slots := 24, locals := 105 }) (hn_PX D (hn_ty cI cL) (hn_wX ad cI (σ) : va_W) sz z0 sa [.ref (ad 0), .int d9, .int n9, .int x9]) (va_Qi (fun (r : Int32) (τ9 : Nat → Nat → Int32) => ∃ D8, hn_changeS h D9 d9 n9 x9 0 r D8 ∧ hn_XR τ9 h D8 tn TK) (fun (τ9 : Nat → Nat → Int32) t => hn_at D (hn_ty cI cL) (va_A (hn_wX ad cI (σ) : va_W) sz) (hn_wX ad cI (τ9)) t) (va_A (hn_wX ad cI (σ) : va_W) sz)) (vx_X (fun _ : Nat → Nat → Int32 => True) (fun E (τ9 : Nat → Nat → Int32) t => (∃ c : Nat, hn_exc E c ∧ hn_changeS h D9 d9 n9 x9 c 0 D9 ∧ hn_XR τ9 h D9 tn TK) ∧ hn_at D (hn_ty cI cL) (va_A (hn_wX ad cI (σ) : va_W) sz) (hn_wX ad cI (τ9)) t) (va_A (hn_wX ad cI (σ) : va_W) sz)) 4 24 (va_A (hn_wX ad cI (σ) : va_W) sz) := by
  refine vx_ofW (cc := cX_change) (maxL := 6) (ret := (some .int)) (by decide) rfl ?_
  intro p e s m args below meth c s₁ B hml htab hv
  obtain ⟨rfl, hsz, hP, hK, hD0, hz0, hG⟩ := hv
  subst hsz
  have hD := hD0.self (sz := s.heap.size)
  have hAz := hn_Az hD0 hz0
  generalize hAe : va_A (hn_wX ad cI (σ) : va_W) s.heap.size = A at hD hAz ⊢
  have hA : ∀ q : Nat, s.heap.size ≤ q → A q := fun q h => by rw [← hAe]; exact Or.inr h
  have hS : va_S A s.heap s.heap [] := va_S.rf
  have hP : va_P D vwCl (hn_wX ad cI (σ) : va_W) s.heap := hP
  have hx := B.exec
  have hb := B.bytes
  have hr := B.returns
  have hts0 := atoms_spec (ws := wX_change) B.pre
  have hts : ∀ w ∈ hn_tb, w.before _ s = true := fun w hw => hts0 w (List.mem_cons_of_mem _ hw)
  have hown : s.vm.findClass RX = some m.cls := findClass_of_methodNamed B.named
  have hlocks := B.notSynchronized
  have hl := lv_entry [.ref (ad 0), .int d9, .int n9, .int x9] (n := 6) (Nat.le_of_ble_eq_true rfl)
  rw [lg_entry_eq]
  generalize (lg_sl [.ref (ad 0), .int d9, .int n9, .int x9] ++ List.replicate (6 - (lg_sl [.ref (ad 0), .int d9, .int n9, .int x9]).length) Slot.unset).toArray = ls at hl ⊢
  have hl : lv_has ls 6 [(0, .ref (ad 0)), (1, .int d9), (2, .int n9), (3, .int x9)] := hl
  have hhd : ∀ k, k < 20 → hn_by (σ 1) k = h k := by obtain ⟨L, B, -, -, hH⟩ := hn_XR_to hXR; exact hH.1
  refine lv_iload_n hx hb dX_change_0 rfl (lv_at hl 1 rfl) ?_
  have hP0 : va_P D vwCl ([] : va_W) s.heap := fun k q h => by cases h
  have hD00 : va_D (fun q => z0 ≤ q) ([] : va_W) := ⟨fun i j p q h => (by cases h), fun k q h => (by cases h)⟩
  refine vx_callv (vx_runS (As := [.int d9]) (rest := []) ⟨hx, hb, hml, hown, hts⟩ (cX_requireDirectory_ok l hl0 D cI cL z0 sa d9 _) (cwS 1 hts gX_X_requireDirectory rfl rfl rfl (by decide +kernel) ⟨(Nat.le_of_ble_eq_true rfl), (Nat.le_of_ble_eq_true rfl)⟩) (hn_preXS hP0 hK hD00 hz0 hG hS hAz) rfl rfl hl.1 rfl (lv_room (Nat.le_of_ble_eq_true rfl)) dX_change_1 ⟨(Nat.le_of_ble_eq_true rfl), (Nat.le_of_ble_eq_true rfl)⟩) hS (fun q h1 h2 => (hn_A0 h1 h2).elim) (fun q h => hn_A1 hA hS h) (fun q h1 h2 => (hn_A0 h1 h2).elim) (fun E ce q9 u t8 H1 locs ht hvm hpx hBX hz1 hk1 hS hce hcv hcl => ?_) (fun u t8 H1 locs ht hvm hw hB hz1 hk1 hS => ?_)
  · have hP : va_P D vwCl (hn_wX ad cI (σ)) H1 := hn_kept0 hP hk1
    obtain ⟨hx1, -⟩ := hBX
    exact vx_out (fun x hx => (htab x hx).elim) hlocks hce hcv hcl (fun t9 ht9 ha9 => ⟨σ, trivial, ⟨⟨1, Or.inl ⟨hx1.1, rfl⟩, Or.inl ⟨rfl, rfl, fun z => hx1.2 z.1⟩, hXR⟩, by rw [ht9]; exact hP, va_K.moved ha9 hK, hD⟩, hS.F ht9⟩) hS.2.2 (Nat.le_of_ble_eq_true rfl) (Nat.le_of_ble_eq_true rfl)
  have hP : va_P D vwCl (hn_wX ad cI (σ)) H1 := hn_kept0 hP hk1
  generalize H1 = H at hP hS ⊢
  have hd9 : hn_dir d9 := hw
  refine lv_iload_n hx hb dX_change_4 rfl (lv_at hl 3 rfl) ?_
  have hP0 : va_P D vwCl ([] : va_W) H := fun k q h => by cases h
  have hD00 : va_D (fun q => z0 ≤ q) ([] : va_W) := ⟨fun i j p q h => (by cases h), fun k q h => (by cases h)⟩
  refine vx_callv (vx_runS (As := [.int x9]) (rest := []) ⟨hx, hb, hml, hown, hts⟩ (cX_requireId_ok l hl0 D cI cL z0 sa x9 _) (cwS 1 hts gX_X_requireId rfl rfl rfl (by decide +kernel) ⟨(Nat.le_of_ble_eq_true rfl), (Nat.le_of_ble_eq_true rfl)⟩) (hn_preXS hP0 hK hD00 hz0 hG hS hAz) rfl rfl hl.1 rfl (lv_room (Nat.le_of_ble_eq_true rfl)) dX_change_5 ⟨(Nat.le_of_ble_eq_true rfl), (Nat.le_of_ble_eq_true rfl)⟩) hS (fun q h1 h2 => (hn_A0 h1 h2).elim) (fun q h => hn_A1 hA hS h) (fun q h1 h2 => (hn_A0 h1 h2).elim) (fun E ce q9 u t8 H1 locs ht hvm hpx hBX hz1 hk1 hS hce hcv hcl => ?_) (fun u t8 H1 locs ht hvm hw hB hz1 hk1 hS => ?_)
  · have hP : va_P D vwCl (hn_wX ad cI (σ)) H1 := hn_kept0 hP hk1
    obtain ⟨hx1, -⟩ := hBX
    exact vx_out (fun x hx => (htab x hx).elim) hlocks hce hcv hcl (fun t9 ht9 ha9 => ⟨σ, trivial, ⟨⟨1, Or.inl ⟨hx1.1, rfl⟩, Or.inl ⟨rfl, rfl, fun z => hx1.2 z.2.2⟩, hXR⟩, by rw [ht9]; exact hP, va_K.moved ha9 hK, hD⟩, hS.F ht9⟩) hS.2.2 (Nat.le_of_ble_eq_true rfl) (Nat.le_of_ble_eq_true rfl)
  have hP : va_P D vwCl (hn_wX ad cI (σ)) H1 := hn_kept0 hP hk1
  generalize H1 = H at hP hS ⊢
  have hi9 : hn_isid x9 := hw
  refine lv_aload_n hx hb dX_change_8 rfl (lv_at hl 0 rfl) ?_
  refine lv_iload_n hx hb dX_change_9 rfl (lv_at hl 2 rfl) ?_
  have hFc := va_free (wc := hn_wX ad cI (σ)) hD hS hA [0, 1, 2, 3, 4, 5, 6, 7, 8, 9] rfl
  refine vx_callv (vx_runV (As := [.int n9]) (rest := []) ⟨hx, hb, hml, hown, hts⟩ (cX_takeKey_ok l hl0 D cI cL z0 sa ad σ h hhd n9 _) (cwV 1 hts gX_X_takeKey rfl rfl rfl (by decide +kernel) ⟨(Nat.le_of_ble_eq_true rfl), (Nat.le_of_ble_eq_true rfl)⟩) (hn_preXV hP hK (hD.weaken (fun _ q _ h => hAz q.1 h)) hz0 hG hS hAz (ci := 0) (q0 := 0) rfl rfl) rfl rfl hl.1 rfl (lv_room (Nat.le_of_ble_eq_true rfl)) dX_change_10 ⟨(Nat.le_of_ble_eq_true rfl), (Nat.le_of_ble_eq_true rfl)⟩) hS (fun q _ h => hFc q h) hFc (fun q _ h => hFc q h) (fun E ce q9 σ2 t8 H1 locs ht hvm hpx hBX hz1 hk1 hS hce hcv hcl => ?_) (fun σ1 t8 H1 locs ht hvm hw hB hz1 hk1 hS => ?_)
  · obtain ⟨⟨hx1, hx2, hx3⟩, hP1, hK1, hD1⟩ := hBX
    rw [ht] at hP1
    rw [hx3] at hP1 hD1
    have hD : va_D A (hn_wX ad cI (σ)) := hD1.weaken (fun _ q _ h => hFc q.1 h)
    have hP : va_P D vwCl (hn_wX ad cI (σ)) H1 := hP1
    exact vx_out (fun x hx => (htab x hx).elim) hlocks hce hcv hcl (fun t9 ht9 ha9 => ⟨σ, trivial, ⟨⟨1, Or.inl ⟨hx1, rfl⟩, Or.inl ⟨rfl, rfl, fun z => hx2 z.2.1⟩, hXR⟩, by rw [ht9]; exact hP, va_K.moved ha9 hK, hD⟩, hS.F ht9⟩) hS.2.2 (Nat.le_of_ble_eq_true rfl) (Nat.le_of_ble_eq_true rfl)
  obtain ⟨hP1, hK1, hD1⟩ := hB
  rw [ht] at hP1
  have hD : va_D A (hn_wX ad cI (σ1)) := hD1.weaken (fun _ q _ h => hFc q.1 h)
  have hP : va_P D vwCl (hn_wX ad cI (σ1)) H1 := hP1
  generalize H1 = H at hP hS ⊢
  try dsimp only at hw
  obtain ⟨n, k9, en, h1, h2, hz, es1, hkey⟩ := hw
  obtain ⟨d, hd, ed⟩ := hd9
  subst ed
  subst en
  have hok : hn_ok h (nI d) (nI n) d n := ⟨rfl, hd, rfl, h1, h2, hz⟩
  have hX1 : hn_XR σ1 h D9 tn TK := by rw [es1]; exact hn_XR_keep hXR rfl rfl rfl rfl rfl rfl rfl rfl rfl
  have hkn : hn_nm (σ1 2) 0 = hn_num h n := by rw [es1]; exact hkey
  obtain ⟨L, B, hI1, hL1, hH1⟩ := hn_XR_to hX1
  have hb16 := hn_bk_lt (σ1 2) 0
  have hch8 : hn_ch (σ1 8) (384 + d * 16 + hn_bk (σ1 2) 0) (B (16 * d + hn_bk (σ1 2) 0)) := by rw [show 384 + d * 16 + hn_bk (σ1 2) 0 = 384 + (16 * d + hn_bk (σ1 2) 0) by omega]; exact (hI1.2.1 _ (by omega)).1
  refine lv_aload_n hx hb dX_change_13 rfl (lv_at hl 0 rfl) ?_
  refine lv_iload_n hx hb dX_change_14 rfl (lv_at hl 1 rfl) ?_
  refine W.callR (W.runV (As := [.int (nI d)]) (rest := []) ⟨hx, hb, hml, hown, hts⟩ (cX_slotOfKey_ok l D cI cL ad σ1 d hd (B (16 * d + hn_bk (σ1 2) 0)) (hI1.lenB (by omega)) hch8) (cwV 1 hts gX_X_slotOfKey rfl rfl rfl (by decide +kernel) ⟨Nat.le_of_ble_eq_true rfl, Nat.le_of_ble_eq_true rfl⟩) (hn_preV hP hK (ci := 0) (q0 := 0) rfl rfl) rfl rfl hl.1 rfl (lv_room (Nat.le_of_ble_eq_true rfl)) dX_change_15 ⟨Nat.le_of_ble_eq_true rfl, Nat.le_of_ble_eq_true rfl⟩) ?_
  refine W.eq (g2 := F0 m 18 ls [.int (hn_find (hn_ns σ1) (hn_nm (σ1 2) 0) (B (16 * d + hn_bk (σ1 2) 0)))]) rfl ?_
  rcases hn_slot hI1 hd (σ1 2) with ⟨t, ht1, ht2, ht3, ht4⟩ | ⟨hno, ht4⟩
  · rw [ht4]
    have htK : hn_ns σ1 t = hn_num h n := ht2.trans hkn
    have hhas : hn_has (hn_num h n) (D9 d) := (hn_XL_has hL1 hd).mpr ⟨t, ht1, htK⟩
    refine lv_istore (lv' := [(4, .int (nI t)), (0, .ref (ad 0)), (1, .int (nI d)), (2, .int (nI n)), (3, .int x9)]) hx hb dX_change_18 hl (by decide) rfl (fun ls hl => ?_)
    refine lv_iload hx hb dX_change_20 (lv_at hl 0 rfl) ?_
    refine W.callR (W.runS (As := [.int (nI t)]) (rest := []) ⟨hx, hb, hml, hown, hts⟩ (cX_isSlot_ok l (nI t)) (cwS 1 hts gX_X_isSlot rfl rfl rfl (by decide +kernel) ⟨Nat.le_of_ble_eq_true rfl, Nat.le_of_ble_eq_true rfl⟩) hn_pre0 rfl rfl hl.1 rfl (lv_room (Nat.le_of_ble_eq_true rfl)) dX_change_22 ⟨Nat.le_of_ble_eq_true rfl, Nat.le_of_ble_eq_true rfl⟩) ?_
    refine W.eq (g2 := F0 m 25 ls [.int (hn_isl (nI t))]) rfl ?_
    rw [show (hn_isl (nI t) : Int32) = 1 from hn_isl_n ht3]
    refine lv_if_ne (tgt := 38) hx hb dX_change_25 (by decide) (fun c_17 => ?_) (fun c_17 => absurd c_17 (by decide))
    refine lv_aload_n hx hb dX_change_38 rfl (lv_at hl 1 rfl) ?_
    refine va_get (D := D) (ci := 0) (v := .ref (ad 6)) (C := RX) (T := FX) (N := 10) hx hb hts iX hown hK hP 0 rfl rfl 6 (by decide) (hts _ mX_f_ids) (fun _ h9 => h9) rfl dX_change_39 ?_
    refine lv_iload hx hb dX_change_42 (lv_at hl 0 rfl) ?_
    refine va_iald hx hb hK hP 6 0 rfl rfl (vp_in_nI (show t < 384 from by omega) (by omega)) dX_change_44 ?_
    rw [nI_clamp (show t < 2 ^ 31 by omega)]
    refine lv_istore (lv' := [(5, .int (σ1 6 t)), (4, .int (nI t)), (0, .ref (ad 0)), (1, .int (nI d)), (2, .int (nI n)), (3, .int x9)]) hx hb dX_change_45 hl (by decide) rfl (fun ls hl => ?_)
    refine lv_aload_n hx hb dX_change_47 rfl (lv_at hl 2 rfl) ?_
    refine va_get (D := D) (ci := 0) (v := .ref (ad 6)) (C := RX) (T := FX) (N := 10) hx hb hts iX hown hK hP 0 rfl rfl 6 (by decide) (hts _ mX_f_ids) (fun _ h9 => h9) rfl dX_change_48 ?_
    refine lv_iload hx hb dX_change_51 (lv_at hl 1 rfl) ?_
    refine lv_iload_n hx hb dX_change_53 rfl (lv_at hl 5 rfl) ?_
    refine va_iast hx hb hK hP hD hS 6 0 rfl rfl (vp_in_nI (show t < 384 from by omega) (by omega)) dX_change_54 (fun H locs hP hD hS => ?_)
    rw [nI_clamp (show t < 2 ^ 31 by omega)] at hP hD
    obtain ⟨σ2, eσ2⟩ : ∃ z : Nat → Nat → Int32, z = hn_up (σ1) 6 (upd (σ1 6) t x9) := ⟨_, rfl⟩
    have hP : va_P D vwCl (hn_wX ad cI (σ2)) H := by rw [eσ2]; exact hP
    have hD : va_D A (hn_wX ad cI (σ2)) := by rw [eσ2]; exact hD
    refine lv_iload hx hb dX_change_55 (lv_at hl 0 rfl) ?_
    obtain ⟨g1, g2⟩ := hn_chg_X (σ' := σ2) (x := x9) hI1 hL1 hd ht1 htK (by rw [eσ2]; rfl) (by rw [eσ2]; rfl) (by rw [eσ2]; rfl) (by rw [eσ2]; rfl) (by rw [eσ2]; rfl) (by rw [eσ2]; rfl)
    refine vx_ret ?_
    refine W.widen (k := 4) (n := 24) (Nat.le_of_ble_eq_true rfl) (Nat.le_of_ble_eq_true rfl) ?_
    exact W.iret (v := (σ1 6 t)) hx hb hr (fun t9 ht9 hW9 => ⟨⟨σ1 6 t, σ2, rfl, ⟨hn_ud D9 d (hn_ec (hn_num h n) x9 (D9 d)), Or.inr ⟨d, n, hok, hi9, Or.inr ⟨rfl, hhas, rfl, by rw [hn_XL_at hI1 hL1 hd ht1 htK]; rfl⟩⟩, hn_XR_of g1 g2 (by rw [eσ2]; exact hn_XH_keep hH1 rfl rfl rfl)⟩, by rw [ht9]; exact hP, va_K.moved hW9.alike hK, hD⟩, hS.F ht9⟩) hS.2.2 dX_change_57
  · rw [ht4]
    have hnh : ¬ hn_has (hn_num h n) (D9 d) := fun z => by obtain ⟨t, g1, g2⟩ := (hn_XL_has hL1 hd).mp z; exact hno t g1 (g2.trans hkn.symm)
    refine lv_istore (lv' := [(4, .int (-1)), (0, .ref (ad 0)), (1, .int (nI d)), (2, .int (nI n)), (3, .int x9)]) hx hb dX_change_18 hl (by decide) rfl (fun ls hl => ?_)
    refine lv_iload hx hb dX_change_20 (lv_at hl 0 rfl) ?_
    refine W.callR (W.runS (As := [.int (-1)]) (rest := []) ⟨hx, hb, hml, hown, hts⟩ (cX_isSlot_ok l (-1)) (cwS 1 hts gX_X_isSlot rfl rfl rfl (by decide +kernel) ⟨Nat.le_of_ble_eq_true rfl, Nat.le_of_ble_eq_true rfl⟩) hn_pre0 rfl rfl hl.1 rfl (lv_room (Nat.le_of_ble_eq_true rfl)) dX_change_22 ⟨Nat.le_of_ble_eq_true rfl, Nat.le_of_ble_eq_true rfl⟩) ?_
    refine W.eq (g2 := F0 m 25 ls [.int (hn_isl (-1))]) rfl ?_
    rw [show (hn_isl (-1) : Int32) = 0 from hn_isl_m1]
    refine lv_if_ne (tgt := 38) hx hb dX_change_25 (by decide) (fun c_18 => absurd rfl c_18) (fun c_18 => ?_)
    exact hn_throwB hx hb hl0 hts hown hG hAz hS (hl.1.trans hml.symm) (is := 85) (text := "the name is not there") (by decide +kernel) dX_change_28 dX_change_31 dX_change_32 dX_change_34 dX_change_37 htab (Nat.le_of_ble_eq_true rfl) (Nat.le_of_ble_eq_true rfl) (Nat.le_of_ble_eq_true rfl) (Nat.le_of_ble_eq_true rfl) hlocks (fun t9 ha9 g1 g2 => ⟨σ1, trivial, ⟨⟨2, Or.inr ⟨rfl, rfl⟩, Or.inr ⟨d, n, hok, hi9, Or.inl ⟨rfl, rfl, hnh⟩⟩, hX1⟩, (hn_xcT hP hK hD hS ha9 g1 g2).1⟩, (hn_xcT hP hK hD hS ha9 g1 g2).2⟩) hS.2.2 (Nat.le_of_ble_eq_true rfl) (Nat.le_of_ble_eq_true rfl)
