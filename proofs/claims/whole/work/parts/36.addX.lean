set_option maxHeartbeats 4000000 in
set_option maxRecDepth 100000 in
theorem cX_remove_ok (l : Launch) (hl0 : l.stackTraces = false) (D : va_G) (cI cL : ClassId) (z0 : Nat) (sa : Nat → Nat) (ad : Nat → Nat) (σ : Nat → Nat → Int32) (d9 n9 : Int32) (h : Nat → Nat) (D9 : Nat → List hn_E) (tn TK : Nat) (hXR : hn_XR σ h D9 tn TK) (hO : hn_DO D9)  (sz : Nat) : vx_Met l yX_remove wX_remove ({ frames := 7, cells := 3, slots := 18, locals := 105 }) (hn_PX D (hn_ty cI cL) (hn_wX ad cI (σ) : va_W) sz z0 sa [.ref (ad 0), .int d9, .int n9]) (va_Qi (fun (r : Int32) (τ9 : Nat → Nat → Int32) => ∃ D8, hn_removeS h D9 d9 n9 0 r D8 ∧ hn_XR τ9 h D8 tn TK) (fun (τ9 : Nat → Nat → Int32) t => hn_at D (hn_ty cI cL) (va_A (hn_wX ad cI (σ) : va_W) sz) (hn_wX ad cI (τ9)) t) (va_A (hn_wX ad cI (σ) : va_W) sz)) (vx_X (fun _ : Nat → Nat → Int32 => True) (fun E (τ9 : Nat → Nat → Int32) t => (∃ c : Nat, hn_exc E c ∧ hn_removeS h D9 d9 n9 c 0 D9 ∧ hn_XR τ9 h D9 tn TK) ∧ hn_at D (hn_ty cI cL) (va_A (hn_wX ad cI (σ) : va_W) sz) (hn_wX ad cI (τ9)) t) (va_A (hn_wX ad cI (σ) : va_W) sz)) 3 18 (va_A (hn_wX ad cI (σ) : va_W) sz) := by
  refine vx_ofW (cc := cX_remove) (maxL := 4) (ret := (some .int)) (by decide) rfl ?_
  intro p e s m args below meth c s₁ B hml htab hv
  obtain ⟨rfl, hsz, hP, hK, hD0, hz0, hG⟩ := hv
  subst hsz
  have hD := hD0.self (sz := s.heap.size)
  have hAz := hn_Az hD0 hz0
  generalize hAe : va_A (hn_wX ad cI (σ) : va_W) s.heap.size = A at hD hAz ⊢
  have hA : ∀ q : Nat, s.heap.size ≤ q → A q := fun q h => by rw [← hAe]; exact Or.inr h
  have hS : va_S A s.heap s.heap [] := va_S.rf
  have hP : va_P D vwCl (hn_wX ad cI (σ) : va_W) s.heap := hP
  have hx := B.exec
  have hb := B.bytes
  have hr := B.returns
  have hts0 := atoms_spec (ws := wX_remove) B.pre
  have hts : ∀ w ∈ hn_tb, w.before _ s = true := fun w hw => hts0 w (List.mem_cons_of_mem _ hw)
  have hown : s.vm.findClass RX = some m.cls := findClass_of_methodNamed B.named
  have hlocks := B.notSynchronized
  have hl := lv_entry [.ref (ad 0), .int d9, .int n9] (n := 4) (Nat.le_of_ble_eq_true rfl)
  rw [lg_entry_eq]
  generalize (lg_sl [.ref (ad 0), .int d9, .int n9] ++ List.replicate (4 - (lg_sl [.ref (ad 0), .int d9, .int n9]).length) Slot.unset).toArray = ls at hl ⊢
  have hl : lv_has ls 4 [(0, .ref (ad 0)), (1, .int d9), (2, .int n9)] := hl
  have hhd : ∀ k, k < 20 → hn_by (σ 1) k = h k := by obtain ⟨L, B, -, -, hH⟩ := hn_XR_to hXR; exact hH.1
  refine lv_iload_n hx hb dX_remove_0 rfl (lv_at hl 1 rfl) ?_
  have hP0 : va_P D vwCl ([] : va_W) s.heap := fun k q h => by cases h
  have hD00 : va_D (fun q => z0 ≤ q) ([] : va_W) := ⟨fun i j p q h => (by cases h), fun k q h => (by cases h)⟩
  refine vx_callv (vx_runS (As := [.int d9]) (rest := []) ⟨hx, hb, hml, hown, hts⟩ (cX_requireDirectory_ok l hl0 D cI cL z0 sa d9 _) (cwS 1 hts gX_X_requireDirectory rfl rfl rfl (by decide +kernel) ⟨(Nat.le_of_ble_eq_true rfl), (Nat.le_of_ble_eq_true rfl)⟩) (hn_preXS hP0 hK hD00 hz0 hG hS hAz) rfl rfl hl.1 rfl (lv_room (Nat.le_of_ble_eq_true rfl)) dX_remove_1 ⟨(Nat.le_of_ble_eq_true rfl), (Nat.le_of_ble_eq_true rfl)⟩) hS (fun q h1 h2 => (hn_A0 h1 h2).elim) (fun q h => hn_A1 hA hS h) (fun q h1 h2 => (hn_A0 h1 h2).elim) (fun E ce q9 u t8 H1 locs ht hvm hpx hBX hz1 hk1 hS hce hcv hcl => ?_) (fun u t8 H1 locs ht hvm hw hB hz1 hk1 hS => ?_)
  · have hP : va_P D vwCl (hn_wX ad cI (σ)) H1 := hn_kept0 hP hk1
    obtain ⟨hx1, -⟩ := hBX
    exact vx_out (fun x hx => (htab x hx).elim) hlocks hce hcv hcl (fun t9 ht9 ha9 => ⟨σ, trivial, ⟨⟨1, Or.inl ⟨hx1.1, rfl⟩, Or.inl ⟨rfl, rfl, fun z => hx1.2 z.1⟩, hXR⟩, by rw [ht9]; exact hP, va_K.moved ha9 hK, hD⟩, hS.F ht9⟩) hS.2.2 (Nat.le_of_ble_eq_true rfl) (Nat.le_of_ble_eq_true rfl)
  have hP : va_P D vwCl (hn_wX ad cI (σ)) H1 := hn_kept0 hP hk1
  generalize H1 = H at hP hS ⊢
  have hd9 : hn_dir d9 := hw
  refine lv_aload_n hx hb dX_remove_4 rfl (lv_at hl 0 rfl) ?_
  refine lv_iload_n hx hb dX_remove_5 rfl (lv_at hl 2 rfl) ?_
  have hFc := va_free (wc := hn_wX ad cI (σ)) hD hS hA [0, 1, 2, 3, 4, 5, 6, 7, 8, 9] rfl
  refine vx_callv (vx_runV (As := [.int n9]) (rest := []) ⟨hx, hb, hml, hown, hts⟩ (cX_takeKey_ok l hl0 D cI cL z0 sa ad σ h hhd n9 _) (cwV 1 hts gX_X_takeKey rfl rfl rfl (by decide +kernel) ⟨(Nat.le_of_ble_eq_true rfl), (Nat.le_of_ble_eq_true rfl)⟩) (hn_preXV hP hK (hD.weaken (fun _ q _ h => hAz q.1 h)) hz0 hG hS hAz (ci := 0) (q0 := 0) rfl rfl) rfl rfl hl.1 rfl (lv_room (Nat.le_of_ble_eq_true rfl)) dX_remove_6 ⟨(Nat.le_of_ble_eq_true rfl), (Nat.le_of_ble_eq_true rfl)⟩) hS (fun q _ h => hFc q h) hFc (fun q _ h => hFc q h) (fun E ce q9 σ2 t8 H1 locs ht hvm hpx hBX hz1 hk1 hS hce hcv hcl => ?_) (fun σ1 t8 H1 locs ht hvm hw hB hz1 hk1 hS => ?_)
  · obtain ⟨⟨hx1, hx2, hx3⟩, hP1, hK1, hD1⟩ := hBX
    rw [ht] at hP1
    rw [hx3] at hP1 hD1
    have hD : va_D A (hn_wX ad cI (σ)) := hD1.weaken (fun _ q _ h => hFc q.1 h)
    have hP : va_P D vwCl (hn_wX ad cI (σ)) H1 := hP1
    exact vx_out (fun x hx => (htab x hx).elim) hlocks hce hcv hcl (fun t9 ht9 ha9 => ⟨σ, trivial, ⟨⟨1, Or.inl ⟨hx1, rfl⟩, Or.inl ⟨rfl, rfl, fun z => hx2 z.2⟩, hXR⟩, by rw [ht9]; exact hP, va_K.moved ha9 hK, hD⟩, hS.F ht9⟩) hS.2.2 (Nat.le_of_ble_eq_true rfl) (Nat.le_of_ble_eq_true rfl)
  obtain ⟨hP1, hK1, hD1⟩ := hB
  rw [ht] at hP1
  have hD : va_D A (hn_wX ad cI (σ1)) := hD1.weaken (fun _ q _ h => hFc q.1 h)
  have hP : va_P D vwCl (hn_wX ad cI (σ1)) H1 := hP1
  generalize H1 = H at hP hS ⊢
  try dsimp only at hw
  obtain ⟨n, k9, en, h1, h2, hz, es1, hkey⟩ := hw
  obtain ⟨d, hd, ed⟩ := hd9
  subst ed
  subst en
  have hok : hn_ok h (nI d) (nI n) d n := ⟨rfl, hd, rfl, h1, h2, hz⟩
  have hX1 : hn_XR σ1 h D9 tn TK := by rw [es1]; exact hn_XR_keep hXR rfl rfl rfl rfl rfl rfl rfl rfl rfl
  have hkn : hn_nm (σ1 2) 0 = hn_num h n := by rw [es1]; exact hkey
  obtain ⟨L, B, hI1, hL1, hH1⟩ := hn_XR_to hX1
  have hb16 := hn_bk_lt (σ1 2) 0
  have hch8 : hn_ch (σ1 8) (384 + d * 16 + hn_bk (σ1 2) 0) (B (16 * d + hn_bk (σ1 2) 0)) := by rw [show 384 + d * 16 + hn_bk (σ1 2) 0 = 384 + (16 * d + hn_bk (σ1 2) 0) by omega]; exact (hI1.2.1 _ (by omega)).1
  refine lv_aload_n hx hb dX_remove_9 rfl (lv_at hl 0 rfl) ?_
  refine lv_iload_n hx hb dX_remove_10 rfl (lv_at hl 1 rfl) ?_
  refine W.callR (W.runV (As := [.int (nI d)]) (rest := []) ⟨hx, hb, hml, hown, hts⟩ (cX_slotOfKey_ok l D cI cL ad σ1 d hd (B (16 * d + hn_bk (σ1 2) 0)) (hI1.lenB (by omega)) hch8) (cwV 1 hts gX_X_slotOfKey rfl rfl rfl (by decide +kernel) ⟨Nat.le_of_ble_eq_true rfl, Nat.le_of_ble_eq_true rfl⟩) (hn_preV hP hK (ci := 0) (q0 := 0) rfl rfl) rfl rfl hl.1 rfl (lv_room (Nat.le_of_ble_eq_true rfl)) dX_remove_11 ⟨Nat.le_of_ble_eq_true rfl, Nat.le_of_ble_eq_true rfl⟩) ?_
  refine W.eq (g2 := F0 m 14 ls [.int (hn_find (hn_ns σ1) (hn_nm (σ1 2) 0) (B (16 * d + hn_bk (σ1 2) 0)))]) rfl ?_
  rcases hn_slot hI1 hd (σ1 2) with ⟨t, ht1, ht2, ht3, ht4⟩ | ⟨hno, ht4⟩
  · rw [ht4]
    have htK : hn_ns σ1 t = hn_num h n := ht2.trans hkn
    have hhas : hn_has (hn_num h n) (D9 d) := (hn_XL_has hL1 hd).mpr ⟨t, ht1, htK⟩
    refine lv_istore_n (lv' := [(3, .int (nI t)), (0, .ref (ad 0)), (1, .int (nI d)), (2, .int (nI n))]) hx hb dX_remove_14 rfl hl (by decide) rfl (fun ls hl => ?_)
    refine lv_iload_n hx hb dX_remove_15 rfl (lv_at hl 0 rfl) ?_
    refine W.callR (W.runS (As := [.int (nI t)]) (rest := []) ⟨hx, hb, hml, hown, hts⟩ (cX_isSlot_ok l (nI t)) (cwS 1 hts gX_X_isSlot rfl rfl rfl (by decide +kernel) ⟨Nat.le_of_ble_eq_true rfl, Nat.le_of_ble_eq_true rfl⟩) hn_pre0 rfl rfl hl.1 rfl (lv_room (Nat.le_of_ble_eq_true rfl)) dX_remove_16 ⟨Nat.le_of_ble_eq_true rfl, Nat.le_of_ble_eq_true rfl⟩) ?_
    refine W.eq (g2 := F0 m 19 ls [.int (hn_isl (nI t))]) rfl ?_
    rw [show (hn_isl (nI t) : Int32) = 1 from hn_isl_n ht3]
    refine lv_if_ne (tgt := 32) hx hb dX_remove_19 (by decide) (fun c_19 => ?_) (fun c_19 => absurd c_19 (by decide))
    have hhead : 384 + d * 16 + hn_bk (σ1 2) 0 = 384 + (16 * d + hn_bk (σ1 2) 0) := by omega
    rw [hhead] at hch8
    have hmemB : t ∈ B (16 * d + hn_bk (σ1 2) 0) := ((hI1.bucket hd (σ1 2) t).mpr ⟨ht1, ht2⟩).1
    refine lv_aload_n hx hb dX_remove_32 rfl (lv_at hl 1 rfl) ?_
    refine lv_aload_n hx hb dX_remove_33 rfl (lv_at hl 1 rfl) ?_
    refine va_get (D := D) (ci := 0) (v := .ref (ad 8)) (C := RX) (T := FX) (N := 10) hx hb hts iX hown hK hP 0 rfl rfl 8 (by decide) (hts _ mX_f_bucketLinks) (fun _ h9 => h9) rfl dX_remove_34 ?_
    refine lv_aload_n hx hb dX_remove_37 rfl (lv_at hl 1 rfl) ?_
    refine lv_iload_n hx hb dX_remove_38 rfl (lv_at hl 2 rfl) ?_
    refine W.callR (W.runV (As := [.int (nI d)]) (rest := [.ref (ad 8), .ref (ad 0)]) ⟨hx, hb, hml, hown, hts⟩ (cX_bucketHead_ok l D cI cL ad σ1 d hd) (cwV 1 hts gX_X_bucketHead rfl rfl rfl (by decide +kernel) ⟨Nat.le_of_ble_eq_true rfl, Nat.le_of_ble_eq_true rfl⟩) (hn_preV hP hK (ci := 0) (q0 := 0) rfl rfl) rfl rfl hl.1 rfl (lv_room (Nat.le_of_ble_eq_true rfl)) dX_remove_39 ⟨Nat.le_of_ble_eq_true rfl, Nat.le_of_ble_eq_true rfl⟩) ?_
    refine W.eq (g2 := F0 m 42 ls [.int (nI (384 + d * 16 + hn_bk (σ1 2) 0)), .ref (ad 8), .ref (ad 0)]) rfl ?_
    rw [hhead]
    have hFc := va_free (wc := hn_wX ad cI (σ1)) hD hS hA [0, 1, 2, 3, 4, 5, 6, 7, 8, 9] rfl
    refine va_callv (va_runV (As := [.ref (ad 8), .int (nI (384 + (16 * d + hn_bk (σ1 2) 0)))]) (rest := []) ⟨hx, hb, hml, hown, hts⟩ (cX_unlink8_ok l D cI cL ad σ1 (384 + (16 * d + hn_bk (σ1 2) 0)) (by omega) (B (16 * d + hn_bk (σ1 2) 0)) (hI1.lenB (by omega)) hch8 t (hI1.2.1 _ (by omega)).2.1 (fun z => by have := hI1.B (by omega) _ z; omega) hmemB ht2 _) (cwV 2 hts gX_X_unlinkKey rfl rfl rfl (by decide +kernel) ⟨Nat.le_of_ble_eq_true rfl, Nat.le_of_ble_eq_true rfl⟩) (hn_preVW hP hK hD (ci := 0) (q0 := 0) rfl rfl) rfl rfl hl.1 rfl (lv_room (Nat.le_of_ble_eq_true rfl)) dX_remove_42 ⟨Nat.le_of_ble_eq_true rfl, Nat.le_of_ble_eq_true rfl⟩) hS (fun q _ h => hFc q h) hFc (fun σ2 t8 H1 locs ht hvm hw2 hB hz1 hk1 hS => ?_)
    obtain ⟨hP1, hK1, hD1⟩ := hB
    rw [ht] at hP1
    have hD : va_D A (hn_wX ad cI (σ2)) := hD1.weaken (fun _ q _ h => hFc q.1 h)
    have hP : va_P D vwCl (hn_wX ad cI (σ2)) H1 := hP1
    generalize H1 = H at hP hS ⊢
    try dsimp only at hw2
    refine lv_aload_n hx hb dX_remove_45 rfl (lv_at hl 1 rfl) ?_
    refine lv_aload_n hx hb dX_remove_46 rfl (lv_at hl 1 rfl) ?_
    refine va_get (D := D) (ci := 0) (v := .ref (ad 9)) (C := RX) (T := FX) (N := 10) hx hb hts iX hown hK hP 0 rfl rfl 9 (by decide) (hts _ mX_f_orderLinks) (fun _ h9 => h9) rfl dX_remove_47 ?_
    refine lv_iload_n hx hb dX_remove_50 rfl (lv_at hl 2 rfl) ?_
    refine W.callR (W.runS (As := [.int (nI d)]) (rest := [.ref (ad 9), .ref (ad 0)]) ⟨hx, hb, hml, hown, hts⟩ (cX_orderHead_ok l (nI d)) (cwS 1 hts gX_X_orderHead rfl rfl rfl (by decide +kernel) ⟨Nat.le_of_ble_eq_true rfl, Nat.le_of_ble_eq_true rfl⟩) hn_pre0 rfl rfl hl.1 rfl (lv_room (Nat.le_of_ble_eq_true rfl)) dX_remove_51 ⟨Nat.le_of_ble_eq_true rfl, Nat.le_of_ble_eq_true rfl⟩) ?_
    refine W.eq (g2 := F0 m 54 ls [.int (384 + nI d), .ref (ad 9), .ref (ad 0)]) rfl ?_
    rw [show (384 + nI d : Int32) = nI (384 + d) from nI_add 384 d]
    have hFc := va_free (wc := hn_wX ad cI (σ2)) hD hS hA [0, 1, 2, 3, 4, 5, 6, 7, 8, 9] rfl
    refine va_callv (va_runV (As := [.ref (ad 9), .int (nI (384 + d))]) (rest := []) ⟨hx, hb, hml, hown, hts⟩ (cX_unlink9_ok l D cI cL ad σ2 (384 + d) (by omega) (L d) (hI1.lenL hd) (by rw [hw2]; exact (hI1.1 d hd).1) t (by rw [hw2]; exact (hI1.1 d hd).2.1) (hn_head (hI1.1 d hd).2.2.1 hd (by omega)) ht1 (by rw [hw2]; exact ht2) _) (cwV 2 hts gX_X_unlinkKey rfl rfl rfl (by decide +kernel) ⟨Nat.le_of_ble_eq_true rfl, Nat.le_of_ble_eq_true rfl⟩) (hn_preVW hP hK hD (ci := 0) (q0 := 0) rfl rfl) rfl rfl hl.1 rfl (lv_room (Nat.le_of_ble_eq_true rfl)) dX_remove_54 ⟨Nat.le_of_ble_eq_true rfl, Nat.le_of_ble_eq_true rfl⟩) hS (fun q _ h => hFc q h) hFc (fun σ3 t8 H1 locs ht hvm hw3 hB hz1 hk1 hS => ?_)
    obtain ⟨hP1, hK1, hD1⟩ := hB
    rw [ht] at hP1
    have hD : va_D A (hn_wX ad cI (σ3)) := hD1.weaken (fun _ q _ h => hFc q.1 h)
    have hP : va_P D vwCl (hn_wX ad cI (σ3)) H1 := hP1
    generalize H1 = H at hP hS ⊢
    try dsimp only at hw3
    refine lv_aload_n hx hb dX_remove_57 rfl (lv_at hl 1 rfl) ?_
    refine va_get (D := D) (ci := 0) (v := .ref (ad 5)) (C := RX) (T := FX) (N := 10) hx hb hts iX hown hK hP 0 rfl rfl 5 (by decide) (hts _ mX_f_lengths) (fun _ h9 => h9) rfl dX_remove_58 ?_
    refine lv_iload_n hx hb dX_remove_61 rfl (lv_at hl 0 rfl) ?_
    refine lv_iconst (v := 0) hx hb dX_remove_62 (by decide) ?_
    refine va_iast hx hb hK hP hD hS 5 0 rfl rfl (vp_in_nI (show t < 384 from by omega) (by omega)) dX_remove_63 (fun H locs hP hD hS => ?_)
    rw [nI_clamp (show t < 2 ^ 31 by omega)] at hP hD
    obtain ⟨σ4, eσ4⟩ : ∃ z : Nat → Nat → Int32, z = hn_up (σ3) 5 (upd (σ3 5) t 0) := ⟨_, rfl⟩
    have hP : va_P D vwCl (hn_wX ad cI (σ4)) H := by rw [eσ4]; exact hP
    have hD : va_D A (hn_wX ad cI (σ4)) := by rw [eσ4]; exact hD
    have hpos : 0 < (L d).length := List.length_pos_of_mem ht1
    refine lv_aload_n hx hb dX_remove_64 rfl (lv_at hl 1 rfl) ?_
    refine va_get (D := D) (ci := 0) (v := .ref (ad 7)) (C := RX) (T := FX) (N := 10) hx hb hts iX hown hK hP 0 rfl rfl 7 (by decide) (hts _ mX_f_counts) (fun _ h9 => h9) rfl dX_remove_65 ?_
    refine lv_iload_n hx hb dX_remove_68 rfl (lv_at hl 2 rfl) ?_
    refine lv_dup2_11 hx hb dX_remove_69 rfl rfl ?_
    refine va_iald hx hb hK hP 7 0 rfl rfl (vp_in_nI (show d < 8 from hd) (by omega)) dX_remove_70 ?_
    rw [nI_clamp (show d < 2 ^ 31 by omega)]
    rw [show σ4 7 d = nI (L d).length from by rw [eσ4, hw3, hw2]; exact (hI1.1 d hd).2.2.2]
    refine lv_iconst (v := 1) hx hb dX_remove_71 (by decide) ?_
    refine lv_isub hx hb dX_remove_72 ?_
    rw [show ((nI (L d).length) - 1 : Int32) = nI ((L d).length - 1) from pk_sub (b := 1) (by omega)]
    refine va_iast hx hb hK hP hD hS 7 0 rfl rfl (vp_in_nI (show d < 8 from hd) (by omega)) dX_remove_73 (fun H locs hP hD hS => ?_)
    rw [nI_clamp (show d < 2 ^ 31 by omega)] at hP hD
    obtain ⟨σ5, eσ5⟩ : ∃ z : Nat → Nat → Int32, z = hn_up (σ4) 7 (upd (σ4 7) d (nI ((L d).length - 1))) := ⟨_, rfl⟩
    have hP : va_P D vwCl (hn_wX ad cI (σ5)) H := by rw [eσ5]; exact hP
    have hD : va_D A (hn_wX ad cI (σ5)) := by rw [eσ5]; exact hD
    refine lv_aload_n hx hb dX_remove_74 rfl (lv_at hl 1 rfl) ?_
    refine va_get (D := D) (ci := 0) (v := .ref (ad 6)) (C := RX) (T := FX) (N := 10) hx hb hts iX hown hK hP 0 rfl rfl 6 (by decide) (hts _ mX_f_ids) (fun _ h9 => h9) rfl dX_remove_75 ?_
    refine lv_iload_n hx hb dX_remove_78 rfl (lv_at hl 0 rfl) ?_
    refine va_iald hx hb hK hP 6 0 rfl rfl (vp_in_nI (show t < 384 from by omega) (by omega)) dX_remove_79 ?_
    rw [nI_clamp (show t < 2 ^ 31 by omega)]
    rw [show σ5 6 t = σ1 6 t from by rw [eσ5, eσ4, hw3, hw2]; rfl]
    obtain ⟨g1, g2⟩ := hn_rem_X (σ' := σ5) hI1 hL1 hd ht1 ht2 (j := 16 * d + hn_bk (σ1 2) 0) (by rw [hn_bk_nm ht2]) (by rw [eσ5, eσ4, hw3, hw2]; rfl) (by rw [eσ5, eσ4, hw3, hw2]; rfl) (by rw [eσ5, eσ4, hw3, hw2]; rfl) (by rw [eσ5, eσ4, hw3, hw2]; rfl) (by rw [eσ5, eσ4, hw3, hw2]; rfl) (by rw [eσ5, eσ4, hw3, hw2]; rfl)
    refine vx_ret ?_
    refine W.widen (k := 3) (n := 18) (Nat.le_of_ble_eq_true rfl) (Nat.le_of_ble_eq_true rfl) ?_
    exact W.iret (v := (σ1 6 t)) hx hb hr (fun t9 ht9 hW9 => ⟨⟨σ1 6 t, σ5, rfl, ⟨hn_ud D9 d (hn_er (hn_nm (σ1 2) 0) (D9 d)), Or.inr ⟨d, n, hok, Or.inr ⟨rfl, hhas, by rw [hkn], by rw [hn_XL_at hI1 hL1 hd ht1 htK]; rfl⟩⟩, hn_XR_of g1 g2 (by rw [eσ5, eσ4, hw3, hw2]; exact hn_XH_keep hH1 rfl rfl rfl)⟩, by rw [ht9]; exact hP, va_K.moved hW9.alike hK, hD⟩, hS.F ht9⟩) hS.2.2 dX_remove_80
  · rw [ht4]
    have hnh : ¬ hn_has (hn_num h n) (D9 d) := fun z => by obtain ⟨t, g1, g2⟩ := (hn_XL_has hL1 hd).mp z; exact hno t g1 (g2.trans hkn.symm)
    refine lv_istore_n (lv' := [(3, .int (-1)), (0, .ref (ad 0)), (1, .int (nI d)), (2, .int (nI n))]) hx hb dX_remove_14 rfl hl (by decide) rfl (fun ls hl => ?_)
    refine lv_iload_n hx hb dX_remove_15 rfl (lv_at hl 0 rfl) ?_
    refine W.callR (W.runS (As := [.int (-1)]) (rest := []) ⟨hx, hb, hml, hown, hts⟩ (cX_isSlot_ok l (-1)) (cwS 1 hts gX_X_isSlot rfl rfl rfl (by decide +kernel) ⟨Nat.le_of_ble_eq_true rfl, Nat.le_of_ble_eq_true rfl⟩) hn_pre0 rfl rfl hl.1 rfl (lv_room (Nat.le_of_ble_eq_true rfl)) dX_remove_16 ⟨Nat.le_of_ble_eq_true rfl, Nat.le_of_ble_eq_true rfl⟩) ?_
    refine W.eq (g2 := F0 m 19 ls [.int (hn_isl (-1))]) rfl ?_
    rw [show (hn_isl (-1) : Int32) = 0 from hn_isl_m1]
    refine lv_if_ne (tgt := 32) hx hb dX_remove_19 (by decide) (fun c_20 => absurd rfl c_20) (fun c_20 => ?_)
    exact hn_throwB hx hb hl0 hts hown hG hAz hS (hl.1.trans hml.symm) (is := 85) (text := "the name is not there") (by decide +kernel) dX_remove_22 dX_remove_25 dX_remove_26 dX_remove_28 dX_remove_31 htab (Nat.le_of_ble_eq_true rfl) (Nat.le_of_ble_eq_true rfl) (Nat.le_of_ble_eq_true rfl) (Nat.le_of_ble_eq_true rfl) hlocks (fun t9 ha9 g1 g2 => ⟨σ1, trivial, ⟨⟨2, Or.inr ⟨rfl, rfl⟩, Or.inr ⟨d, n, hok, Or.inl ⟨rfl, rfl, hnh⟩⟩, hX1⟩, (hn_xcT hP hK hD hS ha9 g1 g2).1⟩, (hn_xcT hP hK hD hS ha9 g1 g2).2⟩) hS.2.2 (Nat.le_of_ble_eq_true rfl) (Nat.le_of_ble_eq_true rfl)

set_option maxHeartbeats 4000000 in
set_option maxRecDepth 100000 in
theorem cX_add_ok (l : Launch) (hl0 : l.stackTraces = false) (D : va_G) (cI cL : ClassId) (z0 : Nat) (sa : Nat → Nat) (ad : Nat → Nat) (σ : Nat → Nat → Int32) (d9 n9 x9 : Int32) (h : Nat → Nat) (D9 : Nat → List hn_E) (tn TK : Nat) (hXR : hn_XR σ h D9 tn TK) (hO : hn_DO D9)  (sz : Nat) : vx_Met l yX_add wX_add ({ frames := 7, cells := 4, slots := 24, locals := 105 }) (hn_PX D (hn_ty cI cL) (hn_wX ad cI (σ) : va_W) sz z0 sa [.ref (ad 0), .int d9, .int n9, .int x9]) (va_Qi (fun (r : Int32) (τ9 : Nat → Nat → Int32) => ∃ D8, hn_addS h D9 d9 n9 x9 0 r D8 ∧ hn_XR τ9 h D8 tn TK) (fun (τ9 : Nat → Nat → Int32) t => hn_at D (hn_ty cI cL) (va_A (hn_wX ad cI (σ) : va_W) sz) (hn_wX ad cI (τ9)) t) (va_A (hn_wX ad cI (σ) : va_W) sz)) (vx_X (fun _ : Nat → Nat → Int32 => True) (fun E (τ9 : Nat → Nat → Int32) t => (∃ c : Nat, hn_exc E c ∧ hn_addS h D9 d9 n9 x9 c 0 D9 ∧ hn_XR τ9 h D9 tn TK) ∧ hn_at D (hn_ty cI cL) (va_A (hn_wX ad cI (σ) : va_W) sz) (hn_wX ad cI (τ9)) t) (va_A (hn_wX ad cI (σ) : va_W) sz)) 4 24 (va_A (hn_wX ad cI (σ) : va_W) sz) := by
  refine vx_ofW (cc := cX_add) (maxL := 5) (ret := (some .int)) (by decide) rfl ?_
  intro p e s m args below meth c s₁ B hml htab hv
  obtain ⟨rfl, hsz, hP, hK, hD0, hz0, hG⟩ := hv
  subst hsz
  have hD := hD0.self (sz := s.heap.size)
  have hAz := hn_Az hD0 hz0
  generalize hAe : va_A (hn_wX ad cI (σ) : va_W) s.heap.size = A at hD hAz ⊢
  have hA : ∀ q : Nat, s.heap.size ≤ q → A q := fun q h => by rw [← hAe]; exact Or.inr h
  have hS : va_S A s.heap s.heap [] := va_S.rf
  have hP : va_P D vwCl (hn_wX ad cI (σ) : va_W) s.heap := hP
  have hx := B.exec
  have hb := B.bytes
  have hr := B.returns
  have hts0 := atoms_spec (ws := wX_add) B.pre
  have hts : ∀ w ∈ hn_tb, w.before _ s = true := fun w hw => hts0 w (List.mem_cons_of_mem _ hw)
  have hown : s.vm.findClass RX = some m.cls := findClass_of_methodNamed B.named
  have hlocks := B.notSynchronized
  have hl := lv_entry [.ref (ad 0), .int d9, .int n9, .int x9] (n := 5) (Nat.le_of_ble_eq_true rfl)
  rw [lg_entry_eq]
  generalize (lg_sl [.ref (ad 0), .int d9, .int n9, .int x9] ++ List.replicate (5 - (lg_sl [.ref (ad 0), .int d9, .int n9, .int x9]).length) Slot.unset).toArray = ls at hl ⊢
  have hl : lv_has ls 5 [(0, .ref (ad 0)), (1, .int d9), (2, .int n9), (3, .int x9)] := hl
  have hhd : ∀ k, k < 20 → hn_by (σ 1) k = h k := by obtain ⟨L, B, -, -, hH⟩ := hn_XR_to hXR; exact hH.1
  refine lv_iload_n hx hb dX_add_0 rfl (lv_at hl 1 rfl) ?_
  have hP0 : va_P D vwCl ([] : va_W) s.heap := fun k q h => by cases h
  have hD00 : va_D (fun q => z0 ≤ q) ([] : va_W) := ⟨fun i j p q h => (by cases h), fun k q h => (by cases h)⟩
  refine vx_callv (vx_runS (As := [.int d9]) (rest := []) ⟨hx, hb, hml, hown, hts⟩ (cX_requireDirectory_ok l hl0 D cI cL z0 sa d9 _) (cwS 1 hts gX_X_requireDirectory rfl rfl rfl (by decide +kernel) ⟨(Nat.le_of_ble_eq_true rfl), (Nat.le_of_ble_eq_true rfl)⟩) (hn_preXS hP0 hK hD00 hz0 hG hS hAz) rfl rfl hl.1 rfl (lv_room (Nat.le_of_ble_eq_true rfl)) dX_add_1 ⟨(Nat.le_of_ble_eq_true rfl), (Nat.le_of_ble_eq_true rfl)⟩) hS (fun q h1 h2 => (hn_A0 h1 h2).elim) (fun q h => hn_A1 hA hS h) (fun q h1 h2 => (hn_A0 h1 h2).elim) (fun E ce q9 u t8 H1 locs ht hvm hpx hBX hz1 hk1 hS hce hcv hcl => ?_) (fun u t8 H1 locs ht hvm hw hB hz1 hk1 hS => ?_)
  · have hP : va_P D vwCl (hn_wX ad cI (σ)) H1 := hn_kept0 hP hk1
    obtain ⟨hx1, -⟩ := hBX
    exact vx_out (fun x hx => (htab x hx).elim) hlocks hce hcv hcl (fun t9 ht9 ha9 => ⟨σ, trivial, ⟨⟨1, Or.inl ⟨hx1.1, rfl⟩, Or.inl ⟨rfl, rfl, fun z => hx1.2 z.1⟩, hXR⟩, by rw [ht9]; exact hP, va_K.moved ha9 hK, hD⟩, hS.F ht9⟩) hS.2.2 (Nat.le_of_ble_eq_true rfl) (Nat.le_of_ble_eq_true rfl)
  have hP : va_P D vwCl (hn_wX ad cI (σ)) H1 := hn_kept0 hP hk1
  generalize H1 = H at hP hS ⊢
  have hd9 : hn_dir d9 := hw
  refine lv_iload_n hx hb dX_add_4 rfl (lv_at hl 3 rfl) ?_
  have hP0 : va_P D vwCl ([] : va_W) H := fun k q h => by cases h
  have hD00 : va_D (fun q => z0 ≤ q) ([] : va_W) := ⟨fun i j p q h => (by cases h), fun k q h => (by cases h)⟩
  refine vx_callv (vx_runS (As := [.int x9]) (rest := []) ⟨hx, hb, hml, hown, hts⟩ (cX_requireId_ok l hl0 D cI cL z0 sa x9 _) (cwS 1 hts gX_X_requireId rfl rfl rfl (by decide +kernel) ⟨(Nat.le_of_ble_eq_true rfl), (Nat.le_of_ble_eq_true rfl)⟩) (hn_preXS hP0 hK hD00 hz0 hG hS hAz) rfl rfl hl.1 rfl (lv_room (Nat.le_of_ble_eq_true rfl)) dX_add_5 ⟨(Nat.le_of_ble_eq_true rfl), (Nat.le_of_ble_eq_true rfl)⟩) hS (fun q h1 h2 => (hn_A0 h1 h2).elim) (fun q h => hn_A1 hA hS h) (fun q h1 h2 => (hn_A0 h1 h2).elim) (fun E ce q9 u t8 H1 locs ht hvm hpx hBX hz1 hk1 hS hce hcv hcl => ?_) (fun u t8 H1 locs ht hvm hw hB hz1 hk1 hS => ?_)
  · have hP : va_P D vwCl (hn_wX ad cI (σ)) H1 := hn_kept0 hP hk1
    obtain ⟨hx1, -⟩ := hBX
    exact vx_out (fun x hx => (htab x hx).elim) hlocks hce hcv hcl (fun t9 ht9 ha9 => ⟨σ, trivial, ⟨⟨1, Or.inl ⟨hx1.1, rfl⟩, Or.inl ⟨rfl, rfl, fun z => hx1.2 z.2.2⟩, hXR⟩, by rw [ht9]; exact hP, va_K.moved ha9 hK, hD⟩, hS.F ht9⟩) hS.2.2 (Nat.le_of_ble_eq_true rfl) (Nat.le_of_ble_eq_true rfl)
  have hP : va_P D vwCl (hn_wX ad cI (σ)) H1 := hn_kept0 hP hk1
  generalize H1 = H at hP hS ⊢
  have hi9 : hn_isid x9 := hw
  refine lv_aload_n hx hb dX_add_8 rfl (lv_at hl 0 rfl) ?_
  refine lv_iload_n hx hb dX_add_9 rfl (lv_at hl 2 rfl) ?_
  have hFc := va_free (wc := hn_wX ad cI (σ)) hD hS hA [0, 1, 2, 3, 4, 5, 6, 7, 8, 9] rfl
  refine vx_callv (vx_runV (As := [.int n9]) (rest := []) ⟨hx, hb, hml, hown, hts⟩ (cX_takeKey_ok l hl0 D cI cL z0 sa ad σ h hhd n9 _) (cwV 1 hts gX_X_takeKey rfl rfl rfl (by decide +kernel) ⟨(Nat.le_of_ble_eq_true rfl), (Nat.le_of_ble_eq_true rfl)⟩) (hn_preXV hP hK (hD.weaken (fun _ q _ h => hAz q.1 h)) hz0 hG hS hAz (ci := 0) (q0 := 0) rfl rfl) rfl rfl hl.1 rfl (lv_room (Nat.le_of_ble_eq_true rfl)) dX_add_10 ⟨(Nat.le_of_ble_eq_true rfl), (Nat.le_of_ble_eq_true rfl)⟩) hS (fun q _ h => hFc q h) hFc (fun q _ h => hFc q h) (fun E ce q9 σ2 t8 H1 locs ht hvm hpx hBX hz1 hk1 hS hce hcv hcl => ?_) (fun σ1 t8 H1 locs ht hvm hw hB hz1 hk1 hS => ?_)
  · obtain ⟨⟨hx1, hx2, hx3⟩, hP1, hK1, hD1⟩ := hBX
    rw [ht] at hP1
    rw [hx3] at hP1 hD1
    have hD : va_D A (hn_wX ad cI (σ)) := hD1.weaken (fun _ q _ h => hFc q.1 h)
    have hP : va_P D vwCl (hn_wX ad cI (σ)) H1 := hP1
    exact vx_out (fun x hx => (htab x hx).elim) hlocks hce hcv hcl (fun t9 ht9 ha9 => ⟨σ, trivial, ⟨⟨1, Or.inl ⟨hx1, rfl⟩, Or.inl ⟨rfl, rfl, fun z => hx2 z.2.1⟩, hXR⟩, by rw [ht9]; exact hP, va_K.moved ha9 hK, hD⟩, hS.F ht9⟩) hS.2.2 (Nat.le_of_ble_eq_true rfl) (Nat.le_of_ble_eq_true rfl)
  obtain ⟨hP1, hK1, hD1⟩ := hB
  rw [ht] at hP1
  have hD : va_D A (hn_wX ad cI (σ1)) := hD1.weaken (fun _ q _ h => hFc q.1 h)
  have hP : va_P D vwCl (hn_wX ad cI (σ1)) H1 := hP1
  generalize H1 = H at hP hS ⊢
  try dsimp only at hw
  obtain ⟨n, k9, en, h1, h2, hz, es1, hkey⟩ := hw
  obtain ⟨d, hd, ed⟩ := hd9
  subst ed
  subst en
  have hok : hn_ok h (nI d) (nI n) d n := ⟨rfl, hd, rfl, h1, h2, hz⟩
  have hX1 : hn_XR σ1 h D9 tn TK := by rw [es1]; exact hn_XR_keep hXR rfl rfl rfl rfl rfl rfl rfl rfl rfl
  have hkn : hn_nm (σ1 2) 0 = hn_num h n := by rw [es1]; exact hkey
  obtain ⟨L, B, hI1, hL1, hH1⟩ := hn_XR_to hX1
  have hb16 := hn_bk_lt (σ1 2) 0
  have hch8 : hn_ch (σ1 8) (384 + d * 16 + hn_bk (σ1 2) 0) (B (16 * d + hn_bk (σ1 2) 0)) := by rw [show 384 + d * 16 + hn_bk (σ1 2) 0 = 384 + (16 * d + hn_bk (σ1 2) 0) by omega]; exact (hI1.2.1 _ (by omega)).1
  refine lv_aload_n hx hb dX_add_13 rfl (lv_at hl 0 rfl) ?_
  refine lv_iload_n hx hb dX_add_14 rfl (lv_at hl 1 rfl) ?_
  refine W.callR (W.runV (As := [.int (nI d)]) (rest := []) ⟨hx, hb, hml, hown, hts⟩ (cX_slotOfKey_ok l D cI cL ad σ1 d hd (B (16 * d + hn_bk (σ1 2) 0)) (hI1.lenB (by omega)) hch8) (cwV 1 hts gX_X_slotOfKey rfl rfl rfl (by decide +kernel) ⟨Nat.le_of_ble_eq_true rfl, Nat.le_of_ble_eq_true rfl⟩) (hn_preV hP hK (ci := 0) (q0 := 0) rfl rfl) rfl rfl hl.1 rfl (lv_room (Nat.le_of_ble_eq_true rfl)) dX_add_15 ⟨Nat.le_of_ble_eq_true rfl, Nat.le_of_ble_eq_true rfl⟩) ?_
  refine W.eq (g2 := F0 m 18 ls [.int (hn_find (hn_ns σ1) (hn_nm (σ1 2) 0) (B (16 * d + hn_bk (σ1 2) 0)))]) rfl ?_
  rcases hn_slot hI1 hd (σ1 2) with ⟨t, ht1, ht2, ht3, ht4⟩ | ⟨hno, ht4⟩
  · rw [ht4]
    have htK : hn_ns σ1 t = hn_num h n := ht2.trans hkn
    have hhas : hn_has (hn_num h n) (D9 d) := (hn_XL_has hL1 hd).mpr ⟨t, ht1, htK⟩
    refine W.callR (W.runS (As := [.int (nI t)]) (rest := []) ⟨hx, hb, hml, hown, hts⟩ (cX_isSlot_ok l (nI t)) (cwS 1 hts gX_X_isSlot rfl rfl rfl (by decide +kernel) ⟨Nat.le_of_ble_eq_true rfl, Nat.le_of_ble_eq_true rfl⟩) hn_pre0 rfl rfl hl.1 rfl (lv_room (Nat.le_of_ble_eq_true rfl)) dX_add_18 ⟨Nat.le_of_ble_eq_true rfl, Nat.le_of_ble_eq_true rfl⟩) ?_
    refine W.eq (g2 := F0 m 21 ls [.int (hn_isl (nI t))]) rfl ?_
    rw [show (hn_isl (nI t) : Int32) = 1 from hn_isl_n ht3]
    refine lv_if_eq (tgt := 34) hx hb dX_add_21 (by decide) (fun c_21 => absurd c_21 (by decide)) (fun c_21 => ?_)
    exact hn_throwB hx hb hl0 hts hown hG hAz hS (hl.1.trans hml.symm) (is := 61) (text := "the name is there") (by decide +kernel) dX_add_24 dX_add_27 dX_add_28 dX_add_30 dX_add_33 htab (Nat.le_of_ble_eq_true rfl) (Nat.le_of_ble_eq_true rfl) (Nat.le_of_ble_eq_true rfl) (Nat.le_of_ble_eq_true rfl) hlocks (fun t9 ha9 g1 g2 => ⟨σ1, trivial, ⟨⟨2, Or.inr ⟨rfl, rfl⟩, Or.inr ⟨d, n, hok, hi9, Or.inl ⟨rfl, rfl, Or.inl hhas⟩⟩, hX1⟩, (hn_xcT hP hK hD hS ha9 g1 g2).1⟩, (hn_xcT hP hK hD hS ha9 g1 g2).2⟩) hS.2.2 (Nat.le_of_ble_eq_true rfl) (Nat.le_of_ble_eq_true rfl)
  · rw [ht4]
    have hnh : ¬ hn_has (hn_num h n) (D9 d) := fun z => by obtain ⟨t, g1, g2⟩ := (hn_XL_has hL1 hd).mp z; exact hno t g1 (g2.trans hkn.symm)
    refine W.callR (W.runS (As := [.int (-1)]) (rest := []) ⟨hx, hb, hml, hown, hts⟩ (cX_isSlot_ok l (-1)) (cwS 1 hts gX_X_isSlot rfl rfl rfl (by decide +kernel) ⟨Nat.le_of_ble_eq_true rfl, Nat.le_of_ble_eq_true rfl⟩) hn_pre0 rfl rfl hl.1 rfl (lv_room (Nat.le_of_ble_eq_true rfl)) dX_add_18 ⟨Nat.le_of_ble_eq_true rfl, Nat.le_of_ble_eq_true rfl⟩) ?_
    refine W.eq (g2 := F0 m 21 ls [.int (hn_isl (-1))]) rfl ?_
    rw [show (hn_isl (-1) : Int32) = 0 from hn_isl_m1]
    refine lv_if_eq (tgt := 34) hx hb dX_add_21 (by decide) (fun c_22 => ?_) (fun c_22 => absurd rfl c_22)
    refine lv_aload_n hx hb dX_add_34 rfl (lv_at hl 0 rfl) ?_
    refine lv_iload_n hx hb dX_add_35 rfl (lv_at hl 1 rfl) ?_
    refine W.callR (W.runV (As := [.int (nI d)]) (rest := []) ⟨hx, hb, hml, hown, hts⟩ (cX_freeSlot_ok l D cI cL ad σ1 d hd) (cwV 1 hts gX_X_freeSlot rfl rfl rfl (by decide +kernel) ⟨Nat.le_of_ble_eq_true rfl, Nat.le_of_ble_eq_true rfl⟩) (hn_preV hP hK (ci := 0) (q0 := 0) rfl rfl) rfl rfl hl.1 rfl (lv_room (Nat.le_of_ble_eq_true rfl)) dX_add_36 ⟨Nat.le_of_ble_eq_true rfl, Nat.le_of_ble_eq_true rfl⟩) ?_
    refine W.eq (g2 := F0 m 39 ls [.int (hn_fr (σ1 5) (d * 48) 48)]) rfl ?_
    rcases hn_free hI1 hd with ⟨hfull, hf9⟩ | ⟨hnf, t, g1, g2, g3, hf9⟩
    · rw [hf9]
      refine lv_istore (lv' := [(4, .int (-1)), (0, .ref (ad 0)), (1, .int (nI d)), (2, .int (nI n)), (3, .int x9)]) hx hb dX_add_39 hl (by decide) rfl (fun ls hl => ?_)
      refine lv_iload hx hb dX_add_41 (lv_at hl 0 rfl) ?_
      refine W.callR (W.runS (As := [.int (-1)]) (rest := []) ⟨hx, hb, hml, hown, hts⟩ (cX_isSlot_ok l (-1)) (cwS 1 hts gX_X_isSlot rfl rfl rfl (by decide +kernel) ⟨Nat.le_of_ble_eq_true rfl, Nat.le_of_ble_eq_true rfl⟩) hn_pre0 rfl rfl hl.1 rfl (lv_room (Nat.le_of_ble_eq_true rfl)) dX_add_43 ⟨Nat.le_of_ble_eq_true rfl, Nat.le_of_ble_eq_true rfl⟩) ?_
      refine W.eq (g2 := F0 m 46 ls [.int (hn_isl (-1))]) rfl ?_
      rw [show (hn_isl (-1) : Int32) = 0 from hn_isl_m1]
      refine lv_if_ne (tgt := 59) hx hb dX_add_46 (by decide) (fun c_23 => absurd rfl c_23) (fun c_23 => ?_)
      exact hn_throwB hx hb hl0 hts hown hG hAz hS (hl.1.trans hml.symm) (is := 69) (text := "the directory is full") (by decide +kernel) dX_add_49 dX_add_52 dX_add_53 dX_add_55 dX_add_58 htab (Nat.le_of_ble_eq_true rfl) (Nat.le_of_ble_eq_true rfl) (Nat.le_of_ble_eq_true rfl) (Nat.le_of_ble_eq_true rfl) hlocks (fun t9 ha9 g1 g2 => ⟨σ1, trivial, ⟨⟨2, Or.inr ⟨rfl, rfl⟩, Or.inr ⟨d, n, hok, hi9, Or.inl ⟨rfl, rfl, Or.inr (by rw [hn_XL_len hL1 hd]; exact hfull)⟩⟩, hX1⟩, (hn_xcT hP hK hD hS ha9 g1 g2).1⟩, (hn_xcT hP hK hD hS ha9 g1 g2).2⟩) hS.2.2 (Nat.le_of_ble_eq_true rfl) (Nat.le_of_ble_eq_true rfl)
    · rw [hf9]
      have ht3 : t < 384 := by omega
      refine lv_istore (lv' := [(4, .int (nI t)), (0, .ref (ad 0)), (1, .int (nI d)), (2, .int (nI n)), (3, .int x9)]) hx hb dX_add_39 hl (by decide) rfl (fun ls hl => ?_)
      refine lv_iload hx hb dX_add_41 (lv_at hl 0 rfl) ?_
      refine W.callR (W.runS (As := [.int (nI t)]) (rest := []) ⟨hx, hb, hml, hown, hts⟩ (cX_isSlot_ok l (nI t)) (cwS 1 hts gX_X_isSlot rfl rfl rfl (by decide +kernel) ⟨Nat.le_of_ble_eq_true rfl, Nat.le_of_ble_eq_true rfl⟩) hn_pre0 rfl rfl hl.1 rfl (lv_room (Nat.le_of_ble_eq_true rfl)) dX_add_43 ⟨Nat.le_of_ble_eq_true rfl, Nat.le_of_ble_eq_true rfl⟩) ?_
      refine W.eq (g2 := F0 m 46 ls [.int (hn_isl (nI t))]) rfl ?_
      rw [show (hn_isl (nI t) : Int32) = 1 from hn_isl_n ht3]
      refine lv_if_ne (tgt := 59) hx hb dX_add_46 (by decide) (fun c_24 => ?_) (fun c_24 => absurd c_24 (by decide))
      have hhead : 384 + d * 16 + hn_bk (σ1 2) 0 = 384 + (16 * d + hn_bk (σ1 2) 0) := by omega
      rw [hhead] at hch8
      refine lv_aload_n hx hb dX_add_59 rfl (lv_at hl 1 rfl) ?_
      refine lv_iload hx hb dX_add_60 (lv_at hl 0 rfl) ?_
      refine lv_iload_n hx hb dX_add_62 rfl (lv_at hl 3 rfl) ?_
      have hFc := va_free (wc := hn_wX ad cI (σ1)) hD hS hA [0, 1, 2, 3, 4, 5, 6, 7, 8, 9] rfl
      refine va_callv (va_runV (As := [.int (nI t), .int (nI n)]) (rest := []) ⟨hx, hb, hml, hown, hts⟩ (cX_keepKey_ok l D cI cL ad σ1 t ht3 (nI n) _) (cwV 2 hts gX_X_keepKey rfl rfl rfl (by decide +kernel) ⟨Nat.le_of_ble_eq_true rfl, Nat.le_of_ble_eq_true rfl⟩) (hn_preVW hP hK hD (ci := 0) (q0 := 0) rfl rfl) rfl rfl hl.1 rfl (lv_room (Nat.le_of_ble_eq_true rfl)) dX_add_63 ⟨Nat.le_of_ble_eq_true rfl, Nat.le_of_ble_eq_true rfl⟩) hS (fun q _ h => hFc q h) hFc (fun σ2 t8 H1 locs ht hvm hw2 hB hz1 hk1 hS => ?_)
      obtain ⟨hP1, hK1, hD1⟩ := hB
      rw [ht] at hP1
      have hD : va_D A (hn_wX ad cI (σ2)) := hD1.weaken (fun _ q _ h => hFc q.1 h)
      have hP : va_P D vwCl (hn_wX ad cI (σ2)) H1 := hP1
      generalize H1 = H at hP hS ⊢
      try dsimp only at hw2
      obtain ⟨⟨k0, k1, k2, k3, k6, k7, k8, k9'⟩, k5, k4a, k4b⟩ := hw2
      refine lv_aload_n hx hb dX_add_66 rfl (lv_at hl 1 rfl) ?_
      refine va_get (D := D) (ci := 0) (v := .ref (ad 6)) (C := RX) (T := FX) (N := 10) hx hb hts iX hown hK hP 0 rfl rfl 6 (by decide) (hts _ mX_f_ids) (fun _ h9 => h9) rfl dX_add_67 ?_
      refine lv_iload hx hb dX_add_70 (lv_at hl 0 rfl) ?_
      refine lv_iload_n hx hb dX_add_72 rfl (lv_at hl 4 rfl) ?_
      refine va_iast hx hb hK hP hD hS 6 0 rfl rfl (vp_in_nI (show t < 384 from ht3) (by omega)) dX_add_73 (fun H locs hP hD hS => ?_)
      rw [nI_clamp (show t < 2 ^ 31 by omega)] at hP hD
      obtain ⟨σ3, eσ3⟩ : ∃ z : Nat → Nat → Int32, z = hn_up (σ2) 6 (upd (σ2 6) t x9) := ⟨_, rfl⟩
      have hP : va_P D vwCl (hn_wX ad cI (σ3)) H := by rw [eσ3]; exact hP
      have hD : va_D A (hn_wX ad cI (σ3)) := by rw [eσ3]; exact hD
      have r30 : σ3 0 = σ1 0 := by rw [eσ3]; exact k0
      have r31 : σ3 1 = σ1 1 := by rw [eσ3]; exact k1
      have r32 : σ3 2 = σ1 2 := by rw [eσ3]; exact k2
      have r33 : σ3 3 = σ1 3 := by rw [eσ3]; exact k3
      have r37 : σ3 7 = σ1 7 := by rw [eσ3]; exact k7
      have r38 : σ3 8 = σ1 8 := by rw [eσ3]; exact k8
      have r39 : σ3 9 = σ1 9 := by rw [eσ3]; exact k9'
      have r35 : σ3 5 = upd (σ1 5) t (nI n) := by rw [eσ3]; exact k5
      have r36 : σ3 6 = upd (σ1 6) t x9 := by rw [eσ3]; show upd (σ2 6) t x9 = _; rw [k6]
      have r34 : σ3 4 = σ2 4 := by rw [eσ3]; rfl
      refine lv_aload_n hx hb dX_add_74 rfl (lv_at hl 1 rfl) ?_
      refine lv_aload_n hx hb dX_add_75 rfl (lv_at hl 1 rfl) ?_
      refine va_get (D := D) (ci := 0) (v := .ref (ad 8)) (C := RX) (T := FX) (N := 10) hx hb hts iX hown hK hP 0 rfl rfl 8 (by decide) (hts _ mX_f_bucketLinks) (fun _ h9 => h9) rfl dX_add_76 ?_
      refine lv_aload_n hx hb dX_add_79 rfl (lv_at hl 1 rfl) ?_
      refine lv_iload_n hx hb dX_add_80 rfl (lv_at hl 2 rfl) ?_
      refine W.callR (W.runV (As := [.int (nI d)]) (rest := [.ref (ad 8), .ref (ad 0)]) ⟨hx, hb, hml, hown, hts⟩ (cX_bucketHead_ok l D cI cL ad σ3 d hd) (cwV 1 hts gX_X_bucketHead rfl rfl rfl (by decide +kernel) ⟨Nat.le_of_ble_eq_true rfl, Nat.le_of_ble_eq_true rfl⟩) (hn_preV hP hK (ci := 0) (q0 := 0) rfl rfl) rfl rfl hl.1 rfl (lv_room (Nat.le_of_ble_eq_true rfl)) dX_add_81 ⟨Nat.le_of_ble_eq_true rfl, Nat.le_of_ble_eq_true rfl⟩) ?_
      refine W.eq (g2 := F0 m 84 ls [.int (nI (384 + d * 16 + hn_bk (σ3 2) 0)), .ref (ad 8), .ref (ad 0)]) rfl ?_
      rw [r32, hhead]
      refine lv_iload hx hb dX_add_84 (lv_at hl 0 rfl) ?_
      have hFc := va_free (wc := hn_wX ad cI (σ3)) hD hS hA [0, 1, 2, 3, 4, 5, 6, 7, 8, 9] rfl
      refine va_callv (va_runV (As := [.ref (ad 8), .int (nI (384 + (16 * d + hn_bk (σ1 2) 0))), .int (nI t)]) (rest := []) ⟨hx, hb, hml, hown, hts⟩ (cX_link8_ok l D cI cL ad σ3 (384 + (16 * d + hn_bk (σ1 2) 0)) (by omega) (B (16 * d + hn_bk (σ1 2) 0)) (hI1.lenB (by omega)) (by rw [r38]; exact hch8) t ht3 _) (cwV 3 hts gX_X_link rfl rfl rfl (by decide +kernel) ⟨Nat.le_of_ble_eq_true rfl, Nat.le_of_ble_eq_true rfl⟩) (hn_preVW hP hK hD (ci := 0) (q0 := 0) rfl rfl) rfl rfl hl.1 rfl (lv_room (Nat.le_of_ble_eq_true rfl)) dX_add_86 ⟨Nat.le_of_ble_eq_true rfl, Nat.le_of_ble_eq_true rfl⟩) hS (fun q _ h => hFc q h) hFc (fun σ4 t8 H1 locs ht hvm hw4 hB hz1 hk1 hS => ?_)
      obtain ⟨hP1, hK1, hD1⟩ := hB
      rw [ht] at hP1
      have hD : va_D A (hn_wX ad cI (σ4)) := hD1.weaken (fun _ q _ h => hFc q.1 h)
      have hP : va_P D vwCl (hn_wX ad cI (σ4)) H1 := hP1
      generalize H1 = H at hP hS ⊢
      try dsimp only at hw4
      refine lv_aload_n hx hb dX_add_89 rfl (lv_at hl 1 rfl) ?_
      refine lv_aload_n hx hb dX_add_90 rfl (lv_at hl 1 rfl) ?_
      refine va_get (D := D) (ci := 0) (v := .ref (ad 9)) (C := RX) (T := FX) (N := 10) hx hb hts iX hown hK hP 0 rfl rfl 9 (by decide) (hts _ mX_f_orderLinks) (fun _ h9 => h9) rfl dX_add_91 ?_
      refine lv_iload_n hx hb dX_add_94 rfl (lv_at hl 2 rfl) ?_
      refine W.callR (W.runS (As := [.int (nI d)]) (rest := [.ref (ad 9), .ref (ad 0)]) ⟨hx, hb, hml, hown, hts⟩ (cX_orderHead_ok l (nI d)) (cwS 1 hts gX_X_orderHead rfl rfl rfl (by decide +kernel) ⟨Nat.le_of_ble_eq_true rfl, Nat.le_of_ble_eq_true rfl⟩) hn_pre0 rfl rfl hl.1 rfl (lv_room (Nat.le_of_ble_eq_true rfl)) dX_add_95 ⟨Nat.le_of_ble_eq_true rfl, Nat.le_of_ble_eq_true rfl⟩) ?_
      refine W.eq (g2 := F0 m 98 ls [.int (384 + nI d), .ref (ad 9), .ref (ad 0)]) rfl ?_
      rw [show (384 + nI d : Int32) = nI (384 + d) from nI_add 384 d]
      refine lv_iload hx hb dX_add_98 (lv_at hl 0 rfl) ?_
      have hFc := va_free (wc := hn_wX ad cI (σ4)) hD hS hA [0, 1, 2, 3, 4, 5, 6, 7, 8, 9] rfl
      refine va_callv (va_runV (As := [.ref (ad 9), .int (nI (384 + d)), .int (nI t)]) (rest := []) ⟨hx, hb, hml, hown, hts⟩ (cX_link9_ok l D cI cL ad σ4 (384 + d) (by omega) (L d) (hI1.lenL hd) (by rw [hw4]; show hn_ch (σ3 9) _ _; rw [r39]; exact (hI1.1 d hd).1) t ht3 _) (cwV 3 hts gX_X_link rfl rfl rfl (by decide +kernel) ⟨Nat.le_of_ble_eq_true rfl, Nat.le_of_ble_eq_true rfl⟩) (hn_preVW hP hK hD (ci := 0) (q0 := 0) rfl rfl) rfl rfl hl.1 rfl (lv_room (Nat.le_of_ble_eq_true rfl)) dX_add_100 ⟨Nat.le_of_ble_eq_true rfl, Nat.le_of_ble_eq_true rfl⟩) hS (fun q _ h => hFc q h) hFc (fun σ5 t8 H1 locs ht hvm hw5 hB hz1 hk1 hS => ?_)
      obtain ⟨hP1, hK1, hD1⟩ := hB
      rw [ht] at hP1
      have hD : va_D A (hn_wX ad cI (σ5)) := hD1.weaken (fun _ q _ h => hFc q.1 h)
      have hP : va_P D vwCl (hn_wX ad cI (σ5)) H1 := hP1
      generalize H1 = H at hP hS ⊢
      try dsimp only at hw5
      refine lv_aload_n hx hb dX_add_103 rfl (lv_at hl 1 rfl) ?_
      refine va_get (D := D) (ci := 0) (v := .ref (ad 7)) (C := RX) (T := FX) (N := 10) hx hb hts iX hown hK hP 0 rfl rfl 7 (by decide) (hts _ mX_f_counts) (fun _ h9 => h9) rfl dX_add_104 ?_
      refine lv_iload_n hx hb dX_add_107 rfl (lv_at hl 2 rfl) ?_
      refine lv_dup2_11 hx hb dX_add_108 rfl rfl ?_
      refine va_iald hx hb hK hP 7 0 rfl rfl (vp_in_nI (show d < 8 from hd) (by omega)) dX_add_109 ?_
      rw [nI_clamp (show d < 2 ^ 31 by omega)]
      rw [show σ5 7 d = nI (L d).length from by rw [hw5, hw4]; show σ3 7 d = _; rw [r37]; exact (hI1.1 d hd).2.2.2]
      refine lv_iconst (v := 1) hx hb dX_add_110 (by decide) ?_
      refine lv_iadd hx hb dX_add_111 ?_
      rw [show ((nI (L d).length) + 1 : Int32) = nI ((L d).length + 1) from nI_1 _]
      refine va_iast hx hb hK hP hD hS 7 0 rfl rfl (vp_in_nI (show d < 8 from hd) (by omega)) dX_add_112 (fun H locs hP hD hS => ?_)
      rw [nI_clamp (show d < 2 ^ 31 by omega)] at hP hD
      obtain ⟨σ6, eσ6⟩ : ∃ z : Nat → Nat → Int32, z = hn_up (σ5) 7 (upd (σ5 7) d (nI ((L d).length + 1))) := ⟨_, rfl⟩
      have hP : va_P D vwCl (hn_wX ad cI (σ6)) H := by rw [eσ6]; exact hP
      have hD : va_D A (hn_wX ad cI (σ6)) := by rw [eσ6]; exact hD
      refine lv_aload_n hx hb dX_add_113 rfl (lv_at hl 1 rfl) ?_
      refine va_get (D := D) (ci := 0) (v := .ref (ad 7)) (C := RX) (T := FX) (N := 10) hx hb hts iX hown hK hP 0 rfl rfl 7 (by decide) (hts _ mX_f_counts) (fun _ h9 => h9) rfl dX_add_114 ?_
      refine lv_iload_n hx hb dX_add_117 rfl (lv_at hl 2 rfl) ?_
      refine va_iald hx hb hK hP 7 0 rfl rfl (vp_in_nI (show d < 8 from hd) (by omega)) dX_add_118 ?_
      rw [nI_clamp (show d < 2 ^ 31 by omega)]
      rw [show σ6 7 d = nI ((L d).length + 1) from by rw [eσ6]; exact pk_us]
      have hns6 : hn_ns σ6 = hn_ns σ3 := by funext z; show hn_nm (σ6 4) _ = hn_nm (σ3 4) _; rw [eσ6, hw5, hw4]; rfl
      have hns4 : hn_ns σ4 = hn_ns σ3 := by funext z; show hn_nm (σ4 4) _ = hn_nm (σ3 4) _; rw [hw4]; rfl
      have q8 : σ6 8 = upd (upd (σ3 8) t (σ3 8 (hn_pl (hn_ns σ3) (hn_nm (σ3 2) 0) (384 + (16 * d + hn_bk (σ1 2) 0)) (B (16 * d + hn_bk (σ1 2) 0))))) (hn_pl (hn_ns σ3) (hn_nm (σ3 2) 0) (384 + (16 * d + hn_bk (σ1 2) 0)) (B (16 * d + hn_bk (σ1 2) 0))) (nI t) := by rw [eσ6, hw5, hw4]; rfl
      have q9 : σ6 9 = upd (upd (σ4 9) t (σ4 9 (hn_pl (hn_ns σ4) (hn_nm (σ4 2) 0) (384 + d) (L d)))) (hn_pl (hn_ns σ4) (hn_nm (σ4 2) 0) (384 + d) (L d)) (nI t) := by rw [eσ6, hw5]; rfl
      have r42 : σ4 2 = σ1 2 := by rw [hw4]; exact r32
      have r49 : σ4 9 = σ1 9 := by rw [hw4]; exact r39
      rw [r38, r32] at q8
      rw [r49, r42, hns4] at q9
      obtain ⟨g4, g5⟩ := hn_add_X (σ' := σ6) (key := σ1 2) (K := hn_nm (σ1 2) 0) (j := 16 * d + hn_bk (σ1 2) 0) (n := n) (x := x9) hI1 hL1 hd ⟨g1, g2⟩ g3 rfl (fun z hz9 hz8 => hno z hz9 hz8) rfl h1 h2 (fun i hi => by rw [eσ6, hw5, hw4]; show σ3 4 _ = _; rw [r34]; exact k4a i hi) (fun q hq => by rw [eσ6, hw5, hw4]; show σ3 4 _ = _; rw [r34]; exact k4b q hq) (by rw [eσ6, hw5, hw4]; exact r35) (by rw [eσ6, hw5, hw4]; exact r36) (by rw [eσ6, hw5, hw4]; show upd (σ3 7) d _ = _; rw [r37]) (by rw [hns6]; exact q8) (by rw [hns6]; exact q9)
      refine vx_ret ?_
      refine W.widen (k := 4) (n := 24) (Nat.le_of_ble_eq_true rfl) (Nat.le_of_ble_eq_true rfl) ?_
      exact W.iret (v := (nI ((L d).length + 1))) hx hb hr (fun t9 ht9 hW9 => ⟨⟨nI ((L d).length + 1), σ6, rfl, ⟨hn_ud D9 d (hn_ei (hn_nm (σ1 2) 0, n, x9) (D9 d)), Or.inr ⟨d, n, hok, hi9, Or.inr ⟨rfl, hnh, by rw [hn_XL_len hL1 hd]; exact hnf, by rw [hkn], by rw [hn_XL_len hL1 hd]⟩⟩, hn_XR_of g4 g5 (hn_XH_keep hH1 (by rw [eσ6, hw5, hw4]; exact r30) (by rw [eσ6, hw5, hw4]; exact r31) (by rw [eσ6, hw5, hw4]; exact r33))⟩, by rw [ht9]; exact hP, va_K.moved hW9.alike hK, hD⟩, hS.F ht9⟩) hS.2.2 dX_add_119

set_option maxHeartbeats 4000000 in
set_option maxRecDepth 100000 in
theorem cX_nth_ok (l : Launch) (hl0 : l.stackTraces = false) (D : va_G) (cI cL : ClassId) (z0 : Nat) (sa : Nat → Nat) (ad : Nat → Nat) (σ : Nat → Nat → Int32) (d9 k9 : Int32) (h : Nat → Nat) (D9 : Nat → List hn_E) (tn TK : Nat) (hXR : hn_XR σ h D9 tn TK) (hO : hn_DO D9)  (sz : Nat) : vx_Met l yX_nth wX_nth ({ frames := 7, cells := 2, slots := 12, locals := 102 }) (hn_PX D (hn_ty cI cL) (hn_wX ad cI (σ) : va_W) sz z0 sa [.ref (ad 0), .int d9, .int k9]) (va_Qi (fun (r : Int32) (τ9 : Nat → Nat → Int32) => ∃ tn' TK' : Nat, hn_nthS D9 tn TK d9 k9 0 r tn' TK' ∧ hn_XR τ9 h D9 tn' TK') (fun (τ9 : Nat → Nat → Int32) t => hn_at D (hn_ty cI cL) (va_A (hn_wX ad cI (σ) : va_W) sz) (hn_wX ad cI (τ9)) t) (va_A (hn_wX ad cI (σ) : va_W) sz)) (vx_X (fun _ : Nat → Nat → Int32 => True) (fun E (τ9 : Nat → Nat → Int32) t => (∃ c : Nat, hn_exc E c ∧ hn_nthS D9 tn TK d9 k9 c 0 tn TK ∧ hn_XR τ9 h D9 tn TK) ∧ hn_at D (hn_ty cI cL) (va_A (hn_wX ad cI (σ) : va_W) sz) (hn_wX ad cI (τ9)) t) (va_A (hn_wX ad cI (σ) : va_W) sz)) 2 12 (va_A (hn_wX ad cI (σ) : va_W) sz) := by
  refine vx_ofW (cc := cX_nth) (maxL := 5) (ret := (some .int)) (by decide) rfl ?_
  intro p e s m args below meth c s₁ B hml htab hv
  obtain ⟨rfl, hsz, hP, hK, hD0, hz0, hG⟩ := hv
  subst hsz
  have hD := hD0.self (sz := s.heap.size)
  have hAz := hn_Az hD0 hz0
  generalize hAe : va_A (hn_wX ad cI (σ) : va_W) s.heap.size = A at hD hAz ⊢
  have hA : ∀ q : Nat, s.heap.size ≤ q → A q := fun q h => by rw [← hAe]; exact Or.inr h
  have hS : va_S A s.heap s.heap [] := va_S.rf
  have hP : va_P D vwCl (hn_wX ad cI (σ) : va_W) s.heap := hP
  have hx := B.exec
  have hb := B.bytes
  have hr := B.returns
  have hts0 := atoms_spec (ws := wX_nth) B.pre
  have hts : ∀ w ∈ hn_tb, w.before _ s = true := fun w hw => hts0 w (List.mem_cons_of_mem _ hw)
  have hown : s.vm.findClass RX = some m.cls := findClass_of_methodNamed B.named
  have hlocks := B.notSynchronized
  have hl := lv_entry [.ref (ad 0), .int d9, .int k9] (n := 5) (Nat.le_of_ble_eq_true rfl)
  rw [lg_entry_eq]
  generalize (lg_sl [.ref (ad 0), .int d9, .int k9] ++ List.replicate (5 - (lg_sl [.ref (ad 0), .int d9, .int k9]).length) Slot.unset).toArray = ls at hl ⊢
  have hl : lv_has ls 5 [(0, .ref (ad 0)), (1, .int d9), (2, .int k9)] := hl
  have hhd : ∀ k, k < 20 → hn_by (σ 1) k = h k := by obtain ⟨L, B, -, -, hH⟩ := hn_XR_to hXR; exact hH.1
  refine lv_iload_n hx hb dX_nth_0 rfl (lv_at hl 1 rfl) ?_
  have hP0 : va_P D vwCl ([] : va_W) s.heap := fun k q h => by cases h
  have hD00 : va_D (fun q => z0 ≤ q) ([] : va_W) := ⟨fun i j p q h => (by cases h), fun k q h => (by cases h)⟩
  refine vx_callv (vx_runS (As := [.int d9]) (rest := []) ⟨hx, hb, hml, hown, hts⟩ (cX_requireDirectory_ok l hl0 D cI cL z0 sa d9 _) (cwS 1 hts gX_X_requireDirectory rfl rfl rfl (by decide +kernel) ⟨(Nat.le_of_ble_eq_true rfl), (Nat.le_of_ble_eq_true rfl)⟩) (hn_preXS hP0 hK hD00 hz0 hG hS hAz) rfl rfl hl.1 rfl (lv_room (Nat.le_of_ble_eq_true rfl)) dX_nth_1 ⟨(Nat.le_of_ble_eq_true rfl), (Nat.le_of_ble_eq_true rfl)⟩) hS (fun q h1 h2 => (hn_A0 h1 h2).elim) (fun q h => hn_A1 hA hS h) (fun q h1 h2 => (hn_A0 h1 h2).elim) (fun E ce q9 u t8 H1 locs ht hvm hpx hBX hz1 hk1 hS hce hcv hcl => ?_) (fun u t8 H1 locs ht hvm hw hB hz1 hk1 hS => ?_)
  · have hP : va_P D vwCl (hn_wX ad cI (σ)) H1 := hn_kept0 hP hk1
    obtain ⟨hx1, -⟩ := hBX
    exact vx_out (fun x hx => (htab x hx).elim) hlocks hce hcv hcl (fun t9 ht9 ha9 => ⟨σ, trivial, ⟨⟨1, Or.inl ⟨hx1.1, rfl⟩, Or.inl ⟨rfl, rfl, rfl, fun z => hx1.2 z.1⟩, hXR⟩, by rw [ht9]; exact hP, va_K.moved ha9 hK, hD⟩, hS.F ht9⟩) hS.2.2 (Nat.le_of_ble_eq_true rfl) (Nat.le_of_ble_eq_true rfl)
  have hP : va_P D vwCl (hn_wX ad cI (σ)) H1 := hn_kept0 hP hk1
  generalize H1 = H at hP hS ⊢
  have hd9 : hn_dir d9 := hw
  refine lv_iload_n hx hb dX_nth_4 rfl (lv_at hl 2 rfl) ?_
  refine lv_if_ge (tgt := 18) hx hb dX_nth_5 (by decide) (fun c_25 => ?_) (fun c_25 => ?_)
  · skip
    obtain ⟨d, hd, ed⟩ := hd9
    subst ed
    obtain ⟨k, hk, ek⟩ := nI_of (Int32.not_lt.mpr c_25)
    subst ek
    obtain ⟨L, B, hI1, hL1, hH1⟩ := hn_XR_to hXR
    have hlen := hI1.lenL hd
    have hDl := hn_XL_len hL1 hd
    refine lv_aload_n hx hb dX_nth_18 rfl (lv_at hl 0 rfl) ?_
    refine lv_iload_n hx hb dX_nth_19 rfl (lv_at hl 1 rfl) ?_
    refine lv_iload_n hx hb dX_nth_20 rfl (lv_at hl 2 rfl) ?_
    refine W.callR (W.runV (As := [.int (nI d), .int (nI k)]) (rest := []) ⟨hx, hb, hml, hown, hts⟩ (cX_slotInOrder_ok l D cI cL ad σ d hd (L d) (hI1.lenL hd) (hI1.1 d hd).2.2.2 (hI1.1 d hd).1 k hk) (cwV 2 hts gX_X_slotInOrder rfl rfl rfl (by decide +kernel) ⟨Nat.le_of_ble_eq_true rfl, Nat.le_of_ble_eq_true rfl⟩) (hn_preV hP hK (ci := 0) (q0 := 0) rfl rfl) rfl rfl hl.1 rfl (lv_room (Nat.le_of_ble_eq_true rfl)) dX_nth_21 ⟨Nat.le_of_ble_eq_true rfl, Nat.le_of_ble_eq_true rfl⟩) ?_
    refine W.eq (g2 := F0 m 24 ls [.int (hn_nth (L d) k)]) rfl ?_
    by_cases hkl : (L d).length ≤ k
    · rw [show hn_nth (L d) k = -1 from if_pos hkl]
      refine lv_istore_n (lv' := [(3, .int (-1)), (0, .ref (ad 0)), (1, .int (nI d)), (2, .int (nI k))]) hx hb dX_nth_24 rfl hl (by decide) rfl (fun ls hl => ?_)
      refine lv_iload_n hx hb dX_nth_25 rfl (lv_at hl 0 rfl) ?_
      refine W.callR (W.runS (As := [.int (-1)]) (rest := []) ⟨hx, hb, hml, hown, hts⟩ (cX_isSlot_ok l (-1)) (cwS 1 hts gX_X_isSlot rfl rfl rfl (by decide +kernel) ⟨Nat.le_of_ble_eq_true rfl, Nat.le_of_ble_eq_true rfl⟩) hn_pre0 rfl rfl hl.1 rfl (lv_room (Nat.le_of_ble_eq_true rfl)) dX_nth_26 ⟨Nat.le_of_ble_eq_true rfl, Nat.le_of_ble_eq_true rfl⟩) ?_
      refine W.eq (g2 := F0 m 29 ls [.int (hn_isl (-1))]) rfl ?_
      rw [show (hn_isl (-1) : Int32) = 0 from hn_isl_m1]
      refine lv_if_ne (tgt := 39) hx hb dX_nth_29 (by decide) (fun c_26 => absurd rfl c_26) (fun c_26 => ?_)
      refine lv_aload_n hx hb dX_nth_32 rfl (lv_at hl 1 rfl) ?_
      refine lv_iconst (v := 0) hx hb dX_nth_33 (by decide) ?_
      refine va_put (D := D) (ci := 0) (v := .int 0) (ty := .int) (C := RX) (T := FX) (N := 10) hx hb hts iX tX tX_ok nX hown hK hP hD hS 0 rfl rfl 3 (by decide) (hts _ mX_f_toldLength) (fun _ h9 => h9) rfl (by decide +kernel) rfl rfl (Nat.le_of_ble_eq_true rfl) dX_nth_34 (fun H locs hP hD hS => ?_)
      obtain ⟨σ2, eσ2⟩ : ∃ z : Nat → Nat → Int32, z = hn_up (σ) 0 (upd (σ 0) 0 0) := ⟨_, rfl⟩
      have hP : va_P D vwCl (hn_wX ad cI (σ2)) H := by rw [eσ2]; exact hP
      have hD : va_D A (hn_wX ad cI (σ2)) := by rw [eσ2]; exact hD
      refine lv_iconst (v := (-1)) hx hb dX_nth_37 (by decide) ?_
      refine vx_ret ?_
      refine W.widen (k := 2) (n := 12) (Nat.le_of_ble_eq_true rfl) (Nat.le_of_ble_eq_true rfl) ?_
      exact W.iret (v := (-1)) hx hb hr (fun t9 ht9 hW9 => ⟨⟨(-1), σ2, rfl, ⟨0, 0, Or.inr ⟨d, k, rfl, hd, rfl, hk, rfl, Or.inl ⟨by omega, rfl, rfl, rfl⟩⟩, hn_XR_of (by rw [eσ2]; exact hn_I_keep hI1 rfl rfl rfl rfl rfl) (by rw [eσ2]; exact hn_XL_keep hL1 rfl rfl rfl) (by rw [eσ2]; exact ⟨hH1.1, (by show upd (σ 0) 0 0 0 = nI 0; rw [pk_us]; rfl), by decide, fun j z => absurd z (Nat.not_lt_zero _)⟩)⟩, by rw [ht9]; exact hP, va_K.moved hW9.alike hK, hD⟩, hS.F ht9⟩) hS.2.2 dX_nth_38
    · rw [show hn_nth (L d) k = nI ((L d).getD k 0) from if_neg hkl]
      obtain ⟨t, et⟩ : ∃ t, t = (L d).getD k 0 := ⟨_, rfl⟩
      rw [← et]
      have ht1 : t ∈ L d := by rw [et, List.getD_eq_getElem?_getD, List.getElem?_eq_getElem (by omega)]; exact List.getElem_mem _
      have ht3 := (hI1.L hd t ht1).2
      have hent : (D9 d).getD k hn_e0 = hn_ent σ t := by rw [(hL1 d hd).1, hn_map_getD (by omega), et]
      have ht5 := (hL1 d hd).2 t ht1
      have hwf := (hO d hd).2.2 _ (hn_getD_mem (l := D9 d) (j := k) (by omega))
      rw [hent] at hwf
      refine lv_istore_n (lv' := [(3, .int (nI t)), (0, .ref (ad 0)), (1, .int (nI d)), (2, .int (nI k))]) hx hb dX_nth_24 rfl hl (by decide) rfl (fun ls hl => ?_)
      refine lv_iload_n hx hb dX_nth_25 rfl (lv_at hl 0 rfl) ?_
      refine W.callR (W.runS (As := [.int (nI t)]) (rest := []) ⟨hx, hb, hml, hown, hts⟩ (cX_isSlot_ok l (nI t)) (cwS 1 hts gX_X_isSlot rfl rfl rfl (by decide +kernel) ⟨Nat.le_of_ble_eq_true rfl, Nat.le_of_ble_eq_true rfl⟩) hn_pre0 rfl rfl hl.1 rfl (lv_room (Nat.le_of_ble_eq_true rfl)) dX_nth_26 ⟨Nat.le_of_ble_eq_true rfl, Nat.le_of_ble_eq_true rfl⟩) ?_
      refine W.eq (g2 := F0 m 29 ls [.int (hn_isl (nI t))]) rfl ?_
      rw [show (hn_isl (nI t) : Int32) = 1 from hn_isl_n ht3]
      refine lv_if_ne (tgt := 39) hx hb dX_nth_29 (by decide) (fun c_27 => ?_) (fun c_27 => absurd c_27 (by decide))
      refine lv_iconst (v := 0) hx hb dX_nth_39 (by decide) ?_
      refine lv_istore (lv' := [(4, .int 0), (3, .int (nI t)), (0, .ref (ad 0)), (1, .int (nI d)), (2, .int (nI k))]) hx hb dX_nth_40 hl (by decide) rfl (fun ls hl => ?_)
      suffices loop : ∀ (f i : Nat) (σ3 : Nat → Nat → Int32) (H : Heap) (locs : List Loc), i + f = 5 → va_P D vwCl (hn_wX ad cI σ3) H → va_D A (hn_wX ad cI σ3) → va_S A s.heap H locs → (∃ g9 : Nat → Int32, σ3 = hn_up σ 3 g9 ∧ ∀ j, j < i → g9 j = σ 4 (5 * t + j)) → ∀ ls : Array Slot, lv_has ls 5 [(0, .ref (ad 0)), (3, .int (nI t)), (4, .int (nI i))] → W p l e (headSpec wX_nth ({ frames := 7, cells := 2, slots := 12, locals := 102 })).room s m [.ref (ad 0), .int (nI d), .int (nI k)].toArray below meth c H locs (0 + 1) (0 + 6) (vx_MQ below (va_Qi (fun (r : Int32) (τ9 : Nat → Nat → Int32) => ∃ tn' TK' : Nat, hn_nthS D9 tn TK (nI d) (nI k) 0 r tn' TK' ∧ hn_XR τ9 h D9 tn' TK') (fun (τ9 : Nat → Nat → Int32) t => hn_at D (hn_ty cI cL) A (hn_wX ad cI (τ9)) t) A) (vx_X (fun _ : Nat → Nat → Int32 => True) (fun E (τ9 : Nat → Nat → Int32) t => (∃ c : Nat, hn_exc E c ∧ hn_nthS D9 tn TK (nI d) (nI k) c 0 tn TK ∧ hn_XR τ9 h D9 tn TK) ∧ hn_at D (hn_ty cI cL) A (hn_wX ad cI (τ9)) t) A) [.ref (ad 0), .int (nI d), .int (nI k)].toArray s 2 12 A) (F0 m 42 ls []) from loop 5 0 σ _ _ rfl hP hD hS ⟨σ 3, hn_upself σ 3, fun j z => absurd z (Nat.not_lt_zero _)⟩ ls (lv_sub hl [2, 1, 0] rfl)
      intro f
      induction f with
      | zero =>
        intro i σ3 H locs hf hP hD hS hI ls hl
        have hf : i = 5 := hf
        subst hf
        refine lv_iload hx hb dX_nth_42 (lv_at hl 2 rfl) ?_
        refine lv_iconst (v := 5) hx hb dX_nth_44 (by decide) ?_
        refine lv_icmp_ge (tgt := 72) hx hb dX_nth_45 (by decide) (fun c_28 => ?_) (fun c_28 => absurd (show (5 : Int32) ≤ nI 5 by decide) c_28)
        obtain ⟨g9, e9, hc9⟩ := hI
        refine lv_aload_n hx hb dX_nth_72 rfl (lv_at hl 0 rfl) ?_
        refine lv_aload_n hx hb dX_nth_73 rfl (lv_at hl 0 rfl) ?_
        refine va_get (D := D) (ci := 0) (v := .ref (ad 5)) (C := RX) (T := FX) (N := 10) hx hb hts iX hown hK hP 0 rfl rfl 5 (by decide) (hts _ mX_f_lengths) (fun _ h9 => h9) rfl dX_nth_74 ?_
        refine lv_iload_n hx hb dX_nth_77 rfl (lv_at hl 1 rfl) ?_
        refine va_iald hx hb hK hP 5 0 rfl rfl (vp_in_nI (show t < 384 from by omega) (by omega)) dX_nth_78 ?_
        rw [nI_clamp (show t < 2 ^ 31 by omega)]
        rw [show σ3 5 t = nI (σ 5 t).toNatClampNeg from by rw [e9]; exact ht5]
        refine va_put (D := D) (ci := 0) (v := .int (nI (σ 5 t).toNatClampNeg)) (ty := .int) (C := RX) (T := FX) (N := 10) hx hb hts iX tX tX_ok nX hown hK hP hD hS 0 rfl rfl 3 (by decide) (hts _ mX_f_toldLength) (fun _ h9 => h9) rfl (by decide +kernel) rfl rfl (Nat.le_of_ble_eq_true rfl) dX_nth_79 (fun H locs hP hD hS => ?_)
        obtain ⟨σ4, eσ4⟩ : ∃ z : Nat → Nat → Int32, z = hn_up (σ3) 0 (upd (σ3 0) 0 (nI (σ 5 t).toNatClampNeg)) := ⟨_, rfl⟩
        have hP : va_P D vwCl (hn_wX ad cI (σ4)) H := by rw [eσ4]; exact hP
        have hD : va_D A (hn_wX ad cI (σ4)) := by rw [eσ4]; exact hD
        refine lv_aload_n hx hb dX_nth_82 rfl (lv_at hl 0 rfl) ?_
        refine va_get (D := D) (ci := 0) (v := .int (σ4 0 0)) (C := RX) (T := FX) (N := 10) hx hb hts iX hown hK hP 0 rfl rfl 3 (by decide) (hts _ mX_f_toldLength) (fun _ h9 => h9) rfl dX_nth_83 ?_
        have htl : σ4 0 0 = nI (σ 5 t).toNatClampNeg := by rw [eσ4]; show upd (σ3 0) 0 _ 0 = _; exact pk_us
        rw [htl]
        have hnum : hn_nm g9 0 = hn_ns σ t := hn_nm_of (w := g9) (v := σ 4) (b := 0) (c := 5 * t) (fun j hj => by rw [Nat.zero_add]; exact hc9 j hj)
        have hkb9 : ∀ j, j < 20 → hn_by g9 j = hn_kb (hn_ns σ t) j := fun j hj => by rw [← hnum, hn_nm_bn]; exact (hn_kb_bn (hn_by_lt g9) hj).symm
        refine vx_ret ?_
        refine W.widen (k := 2) (n := 12) (Nat.le_of_ble_eq_true rfl) (Nat.le_of_ble_eq_true rfl) ?_
        exact W.iret (v := (nI (σ 5 t).toNatClampNeg)) hx hb hr (fun t9 ht9 hW9 => ⟨⟨nI (σ 5 t).toNatClampNeg, σ4, rfl, ⟨(σ 5 t).toNatClampNeg, hn_ns σ t, Or.inr ⟨d, k, rfl, hd, rfl, hk, rfl, Or.inr ⟨by omega, by rw [hent]; rfl, by rw [hent]; rfl, by rw [hent]; rfl⟩⟩, hn_XR_of (by rw [eσ4, e9]; exact hn_I_keep hI1 rfl rfl rfl rfl rfl) (by rw [eσ4, e9]; exact hn_XL_keep hL1 rfl rfl rfl) ⟨by rw [eσ4, e9]; exact hH1.1, htl, hwf.2.1, fun j hj => by rw [eσ4, e9]; exact hkb9 j (Nat.lt_of_lt_of_le hj hwf.2.1)⟩⟩, by rw [ht9]; exact hP, va_K.moved hW9.alike hK, hD⟩, hS.F ht9⟩) hS.2.2 dX_nth_86
      | succ f ih =>
        intro i σ3 H locs hf hP hD hS hI ls hl
        refine lv_iload hx hb dX_nth_42 (lv_at hl 2 rfl) ?_
        refine lv_iconst (v := 5) hx hb dX_nth_44 (by decide) ?_
        refine lv_icmp_ge (tgt := 72) hx hb dX_nth_45 (by decide) (fun c_29 => absurd c_29 (nI_ge (a := i) (b := 5) (by omega) (by decide))) (fun c_29 => ?_)
        obtain ⟨g9, e9, hc9⟩ := hI
        refine lv_aload_n hx hb dX_nth_48 rfl (lv_at hl 0 rfl) ?_
        refine va_get (D := D) (ci := 0) (v := .ref (ad 3)) (C := RX) (T := FX) (N := 10) hx hb hts iX hown hK hP 0 rfl rfl 2 (by decide) (hts _ mX_f_told) (fun _ h9 => h9) rfl dX_nth_49 ?_
        refine lv_iload hx hb dX_nth_52 (lv_at hl 2 rfl) ?_
        refine lv_aload_n hx hb dX_nth_54 rfl (lv_at hl 0 rfl) ?_
        refine va_get (D := D) (ci := 0) (v := .ref (ad 4)) (C := RX) (T := FX) (N := 10) hx hb hts iX hown hK hP 0 rfl rfl 4 (by decide) (hts _ mX_f_words) (fun _ h9 => h9) rfl dX_nth_55 ?_
        refine lv_iload_n hx hb dX_nth_58 rfl (lv_at hl 1 rfl) ?_
        refine lv_iconst (v := 5) hx hb dX_nth_59 (by decide) ?_
        refine lv_imul hx hb dX_nth_60 ?_
        refine lv_iload hx hb dX_nth_61 (lv_at hl 2 rfl) ?_
        refine lv_iadd hx hb dX_nth_63 ?_
        rw [show (((nI t) * 5) + (nI i) : Int32) = nI (5 * t + i) from by rw [show (5 : Int32) = nI 5 from rfl, pk_mul, nI_add, Nat.mul_comm]]
        refine va_iald hx hb hK hP 4 0 rfl rfl (vp_in_nI (show 5 * t + i < 1920 from by omega) (by omega)) dX_nth_64 ?_
        rw [nI_clamp (show 5 * t + i < 2 ^ 31 by omega)]
        rw [show σ3 4 (5 * t + i) = σ 4 (5 * t + i) from by rw [e9]; rfl]
        refine va_iast hx hb hK hP hD hS 3 0 rfl rfl (vp_in_nI (show i < 5 from by omega) (by omega)) dX_nth_65 (fun H locs hP hD hS => ?_)
        rw [nI_clamp (show i < 2 ^ 31 by omega)] at hP hD
        obtain ⟨σ4, eσ4⟩ : ∃ z : Nat → Nat → Int32, z = hn_up (σ3) 3 (upd (σ3 3) i (σ 4 (5 * t + i))) := ⟨_, rfl⟩
        have hP : va_P D vwCl (hn_wX ad cI (σ4)) H := by rw [eσ4]; exact hP
        have hD : va_D A (hn_wX ad cI (σ4)) := by rw [eσ4]; exact hD
        refine lv_iinc (v := nI (i + 1)) (lv' := [(4, .int (nI (i + 1))), (0, .ref (ad 0)), (3, .int (nI t))]) hx hb dX_nth_66 hl (k := 2) rfl (nI_1 i) (by decide) rfl (fun ls hl => ?_)
        refine lv_goto (tgt := 42) hx hb dX_nth_69 (by decide) ?_
        exact ih (i + 1) σ4 H locs (by omega) hP hD hS ⟨upd g9 i (σ 4 (5 * t + i)), by rw [eσ4, e9]; exact hn_upup _ _ _ _, fun j hj => hn_sy1 (f := fun j => σ 4 (5 * t + j)) hc9 hj⟩ ls (lv_sub hl [1, 2, 0] rfl)
  · skip
    exact hn_throwA hx hb hl0 hts hown hG hAz hS (hl.1.trans hml.symm) (is := 93) (text := "k is below 0") (by decide +kernel) dX_nth_8 dX_nth_11 dX_nth_12 dX_nth_14 dX_nth_17 htab (Nat.le_of_ble_eq_true rfl) (Nat.le_of_ble_eq_true rfl) (Nat.le_of_ble_eq_true rfl) (Nat.le_of_ble_eq_true rfl) hlocks (fun t9 ha9 g1 g2 => ⟨σ, trivial, ⟨⟨1, Or.inl ⟨rfl, rfl⟩, Or.inl ⟨rfl, rfl, rfl, fun z => z.2 (Int32.not_le.mp c_25)⟩, hXR⟩, (hn_xcT hP hK hD hS ha9 g1 g2).1⟩, (hn_xcT hP hK hD hS ha9 g1 g2).2⟩) hS.2.2 (Nat.le_of_ble_eq_true rfl) (Nat.le_of_ble_eq_true rfl)
