set_option maxHeartbeats 4000000 in
set_option maxRecDepth 100000 in
theorem hn_case_change {p : Program} {e : Env} {s : State} {m : MethodId} {below : List Frame} {meth : Method} {c : Code} (l : Launch) (hl0 : l.stackTraces = false) {b L : Nat} {xs : Nat → Int32} (hL : L ≤ 3072) (C0 : lw_At p s m meth c b L xs) {D : va_G} {cI cL : ClassId} {sa ad am : Nat → Nat} {ao : Nat} (hG : hn_G s.heap.size sa s s.heap) (hNc : va_Nc hn_xS hn_xA s) (hK : va_K D vwCl (hn_ty cI cL) s) {i cs ss : Nat} (hi : i + 6 ≤ L) (hc : cs + 4 ≤ 601024) (hs : ss + 24 ≤ 7293034) {Q : State → Prop} (kk : ∀ (σ τ : Nat → Nat → Int32) (f : Nat → Int64) (h : Nat → Nat) (D9 : Nat → List hn_E) (tn TK : Nat) (H : Heap) (locs : List Loc) (ls : Array Slot), hn_LI σ τ h D9 tn TK → va_P D vwCl (hn_wL ad cI σ ao cL f am τ) H → va_D (fun q : Nat => s.heap.size ≤ q) (hn_wL ad cI σ ao cL f am τ) → va_S (fun q : Nat => s.heap.size ≤ q) s.heap H locs → lv_has ls 7 [(0, .ref b), (1, .ref (ad 0)), (2, .ref (am 0)), (3, .ref ao), (4, .int (nI i))] → W p l e room_1 s m #[Value.ref b] below meth c H locs (cs + 4) (ss + 24) Q (F0 m 635 ls [])) (σ τ : Nat → Nat → Int32) (f : Nat → Int64) (h : Nat → Nat) (D9 : Nat → List hn_E) (tn TK : Nat) (H : Heap) (locs : List Loc) (ls : Array Slot) : hn_LI σ τ h D9 tn TK → va_P D vwCl (hn_wL ad cI σ ao cL f am τ) H → va_D (fun q : Nat => s.heap.size ≤ q) (hn_wL ad cI σ ao cL f am τ) → va_S (fun q : Nat => s.heap.size ≤ q) s.heap H locs → lv_has ls 7 [(0, .ref b), (1, .ref (ad 0)), (2, .ref (am 0)), (3, .ref ao), (4, .int (nI i))] → W p l e room_1 s m #[Value.ref b] below meth c H locs cs ss Q (F0 m 375 ls []) := by
  obtain ⟨hx, hb, hr, hml, hown, hts0, hX, hbl, hlocks, hgv⟩ := id C0
  have hown : s.vm.findClass RL = some m.cls := hown
  have hts : ∀ w ∈ hn_tb, w.before #[Value.ref b] s = true := fun w h => hts0 w (List.mem_filter.mp h).1
  have hA : ∀ q : Nat, s.heap.size ≤ q → (fun q : Nat => s.heap.size ≤ q) q := fun _ h => h
  have hbA : ¬ (fun q : Nat => s.heap.size ≤ q) b := Nat.not_le.mpr hbl
  intro hI hP hD hS hl
  obtain ⟨hXR, hMH, hMD, hO⟩ := hI
  refine lv_aload_n hx hb dL_law_375 rfl (lv_at hl 1 rfl) ?_
  refine lv_aload_n hx hb dL_law_376 rfl (lv_at hl 0 rfl) ?_
  refine lv_iload hx hb dL_law_377 (lv_at hl 4 rfl) ?_
  refine lv_iconst (v := 1) hx hb dL_law_379 (by decide) ?_
  refine lv_iadd hx hb dL_law_380 ?_
  rw [show ((nI i) + 1 : Int32) = nI (i + 1) from nI_add i 1]
  refine va_sld hx hb hX hbl hbA hS (vp_in_nI (show i + 1 < L by omega) (by omega)) dL_law_381 ?_
  rw [nI_clamp (show i + 1 < 2 ^ 31 by omega)]
  refine lv_aload_n hx hb dL_law_382 rfl (lv_at hl 0 rfl) ?_
  refine lv_iload hx hb dL_law_383 (lv_at hl 4 rfl) ?_
  refine lv_iconst (v := 2) hx hb dL_law_385 (by decide) ?_
  refine lv_iadd hx hb dL_law_386 ?_
  rw [show ((nI i) + 2 : Int32) = nI (i + 2) from nI_add i 2]
  refine va_sld hx hb hX hbl hbA hS (vp_in_nI (show i + 2 < L by omega) (by omega)) dL_law_387 ?_
  rw [nI_clamp (show i + 2 < 2 ^ 31 by omega)]
  refine lv_aload_n hx hb dL_law_388 rfl (lv_at hl 0 rfl) ?_
  refine lv_iload hx hb dL_law_389 (lv_at hl 4 rfl) ?_
  refine lv_iconst (v := 3) hx hb dL_law_391 (by decide) ?_
  refine lv_iadd hx hb dL_law_392 ?_
  rw [show ((nI i) + 3 : Int32) = nI (i + 3) from nI_add i 3]
  refine va_sld hx hb hX hbl hbA hS (vp_in_nI (show i + 3 < L by omega) (by omega)) dL_law_393 ?_
  rw [nI_clamp (show i + 3 < 2 ^ 31 by omega)]
  refine lv_aload_n hx hb dL_law_394 rfl (lv_at hl 3 rfl) ?_
  have hPc := hP.sub (ws' := hn_wH ad cI σ ao cL f) [0, 1, 2, 3, 4, 5, 6, 7, 8, 9, 10] rfl
  have hDc := hD.sub (ws' := hn_wH ad cI σ ao cL f) [0, 1, 2, 3, 4, 5, 6, 7, 8, 9, 10] (by decide) rfl
  have hFc := va_free (wc := hn_wH ad cI σ ao cL f) hD hS hA [0, 1, 2, 3, 4, 5, 6, 7, 8, 9, 10] rfl
  refine va_calli (vx_runSW (As := [.ref (ad 0), .int (xs (i + 1)), .int (xs (i + 2)), .int (xs (i + 3)), .ref ao]) (rest := []) ⟨hx, hb, hml, hown, hts⟩ (cL_change_ok l hl0 D cI cL s.heap.size sa ad σ ao f h D9 tn TK hXR hO (xs (i + 1)) (xs (i + 2)) (xs (i + 3)) _) (vx_cwSW 5 hts gL_L_change rfl rfl rfl (by decide +kernel) ⟨(Nat.le_of_ble_eq_true rfl), (Nat.le_of_ble_eq_true rfl)⟩) (hn_preH hPc hK hDc (Nat.le_refl _) hG hS (fun _ h => h) hNc) rfl rfl hl.1 rfl (lv_room (Nat.le_of_ble_eq_true rfl)) dL_law_395 ⟨show cs + 4 ≤ 601024 by omega, show ss + 24 ≤ 7293034 by omega⟩) hS (fun q _ h => hFc q h) hFc (fun r1 u t8 H1 locs ht hvm hw hB hz1 hk1 hS => ?_)
  obtain ⟨σ2, f2⟩ := u
  obtain ⟨hP1, hK1, hD1⟩ := hB
  rw [ht] at hP1
  obtain ⟨hP, hD⟩ := va_join (wr := hn_wM am cI τ) (w1 := hn_wH ad cI σ2 ao cL f2) hP hD [0, 1, 2, 3, 4, 5, 6, 7, 8, 9, 10] [11, 12, 13, 14, 15, 16, 17] rfl rfl (by decide) (by decide) hk1 hFc hP1 hD1
  have hP := hP.sub (ws' := hn_wL ad cI σ2 ao cL f2 am τ) [7, 8, 9, 10, 11, 12, 13, 14, 15, 16, 17, 0, 1, 2, 3, 4, 5, 6] rfl
  have hD := hD.sub (ws' := hn_wL ad cI σ2 ao cL f2 am τ) [7, 8, 9, 10, 11, 12, 13, 14, 15, 16, 17, 0, 1, 2, 3, 4, 5, 6] (by decide) rfl
  clear hPc hDc hFc hP1 hD1 hK1 hk1
  generalize H1 = H at hP hS ⊢
  try dsimp only at hw
  obtain ⟨c9, a9, D8, hc3, er1, hop, ha9, hX2⟩ := hw
  subst er1
  refine lv_istore (lv' := [(5, .int (nI c9)), (0, .ref b), (1, .ref (ad 0)), (2, .ref (am 0)), (3, .ref ao), (4, .int (nI i))]) hx hb dL_law_398 hl (by decide) rfl (fun ls hl => ?_)
  refine lv_aload_n hx hb dL_law_400 rfl (lv_at hl 3 rfl) ?_
  refine lv_aload_n hx hb dL_law_401 rfl (lv_at hl 1 rfl) ?_
  refine lv_iload hx hb dL_law_402 (lv_at hl 5 rfl) ?_
  refine lv_iconst (v := 1) hx hb dL_law_404 (by decide) ?_
  refine lv_iadd hx hb dL_law_405 ?_
  rw [show ((nI i) + 1 : Int32) = nI (i + 1) from nI_add i 1]
  refine va_sld hx hb hX hbl hbA hS (vp_in_nI (show i + 1 < L by omega) (by omega)) dL_law_406 ?_
  rw [nI_clamp (show i + 1 < 2 ^ 31 by omega)]
  refine lv_aload_n hx hb dL_law_407 rfl (lv_at hl 1 rfl) ?_
  refine lv_iload hx hb dL_law_408 (lv_at hl 5 rfl) ?_
  refine lv_iconst (v := 2) hx hb dL_law_410 (by decide) ?_
  refine lv_iadd hx hb dL_law_411 ?_
  rw [show ((nI i) + 2 : Int32) = nI (i + 2) from nI_add i 2]
  refine va_sld hx hb hX hbl hbA hS (vp_in_nI (show i + 2 < L by omega) (by omega)) dL_law_412 ?_
  rw [nI_clamp (show i + 2 < 2 ^ 31 by omega)]
  refine lv_aload_n hx hb dL_law_413 rfl (lv_at hl 1 rfl) ?_
  refine lv_iload hx hb dL_law_414 (lv_at hl 5 rfl) ?_
  refine lv_iconst (v := 3) hx hb dL_law_416 (by decide) ?_
  refine lv_iadd hx hb dL_law_417 ?_
  rw [show ((nI i) + 3 : Int32) = nI (i + 3) from nI_add i 3]
  refine va_sld hx hb hX hbl hbA hS (vp_in_nI (show i + 3 < L by omega) (by omega)) dL_law_418 ?_
  rw [nI_clamp (show i + 3 < 2 ^ 31 by omega)]
  have hPc := hP.sub (ws' := hn_wM am cI τ) [11, 12, 13, 14, 15, 16, 17] rfl
  have hDc := hD.sub (ws' := hn_wM am cI τ) [11, 12, 13, 14, 15, 16, 17] (by decide) rfl
  have hFc := va_free (wc := hn_wM am cI τ) hD hS hA [11, 12, 13, 14, 15, 16, 17] rfl
  refine va_calli (va_runV (As := [.int (xs (i + 1)), .int (xs (i + 2)), .int (xs (i + 3))]) (rest := []) ⟨hx, hb, hml, hown, hts⟩ (cM_change_ok l D cI cL am τ (xs (i + 1)) (xs (i + 2)) (xs (i + 3)) h D9 tn TK hMH hMD hO _) (cwV 3 hts gL_M_change rfl rfl rfl (by decide +kernel) ⟨(Nat.le_of_ble_eq_true rfl), (Nat.le_of_ble_eq_true rfl)⟩) (hn_preVW hPc hK hDc (ci := 1) (q0 := 0) rfl rfl) rfl rfl hl.1 rfl (lv_room (Nat.le_of_ble_eq_true rfl)) dL_law_419 ⟨show cs + 4 + 0 ≤ 601024 by omega, show ss + 24 + 0 ≤ 7293034 by omega⟩) hS (fun q _ h => hFc q h) hFc (fun r2 τ2 t8 H1 locs ht hvm hw hB hz1 hk1 hS => ?_)
  obtain ⟨hP1, hK1, hD1⟩ := hB
  rw [ht] at hP1
  obtain ⟨hP, hD⟩ := va_join (wr := hn_wH ad cI σ2 ao cL f2) (w1 := hn_wM am cI τ2) hP hD [11, 12, 13, 14, 15, 16, 17] [0, 1, 2, 3, 4, 5, 6, 7, 8, 9, 10] rfl rfl (by decide) (by decide) hk1 hFc hP1 hD1
  have hP := hP.sub (ws' := hn_wL ad cI σ2 ao cL f2 am τ2) [0, 1, 2, 3, 4, 5, 6, 7, 8, 9, 10, 11, 12, 13, 14, 15, 16, 17] rfl
  have hD := hD.sub (ws' := hn_wL ad cI σ2 ao cL f2 am τ2) [0, 1, 2, 3, 4, 5, 6, 7, 8, 9, 10, 11, 12, 13, 14, 15, 16, 17] (by decide) rfl
  clear hPc hDc hFc hP1 hD1 hK1 hk1
  generalize H1 = H at hP hS ⊢
  try dsimp only at hw
  obtain ⟨c8, D7, hop2, ethr, hMH2, hMD2, hO2⟩ := hw
  obtain ⟨z1, z2, z3⟩ := hn_change1 hop hop2
  subst z1
  subst z2
  refine lv_istore (lv' := [(6, .int r2), (5, .int (nI c9)), (0, .ref b), (1, .ref (ad 0)), (2, .ref (am 0)), (3, .ref ao), (4, .int (nI i))]) hx hb dL_law_422 hl (by decide) rfl (fun ls hl => ?_)
  refine lv_aload_n hx hb dL_law_424 rfl (lv_at hl 4 rfl) ?_
  have hPm := hP.sub (ws' := hn_wM am cI τ2) [11, 12, 13, 14, 15, 16, 17] rfl
  refine W.callR (W.runV (As := []) (rest := []) ⟨hx, hb, hml, hown, hts⟩ (cM_thrown_ok l D cI cL am τ2) (cwV 0 hts gL_M_thrown rfl rfl rfl (by decide +kernel) ⟨(Nat.le_of_ble_eq_true rfl), (Nat.le_of_ble_eq_true rfl)⟩) (hn_preV hPm hK (ci := 1) (q0 := 0) rfl rfl) rfl rfl hl.1 rfl (lv_room (Nat.le_of_ble_eq_true rfl)) dL_law_425 ⟨show cs + 4 + 0 + 0 ≤ 601024 by omega, show ss + 24 + 0 + 0 ≤ 7293034 by omega⟩) ?_
  refine W.eq (g2 := F0 m 428 ls [.int (τ2 0 0)]) rfl ?_
  rw [ethr]
  refine lv_iload hx hb dL_law_428 (lv_at hl 1 rfl) ?_
  refine lv_icmp_eq (tgt := 435) hx hb dL_law_430 (by decide) (fun c_10 => ?_) (fun c_10 => absurd rfl c_10)
  refine lv_iload hx hb dL_law_435 (lv_at hl 1 rfl) ?_
  refine lv_if_ne (tgt := 452) hx hb dL_law_437 (by decide) (fun c_11 => ?_) (fun c_11 => ?_)
  · skip
    refine lv_goto (tgt := 635) hx hb dL_law_452 (by decide) ?_
    refine W.widen (k := cs + 4) (n := ss + 24) (by omega) (by omega) ?_
    exact kk σ2 τ2 f2 h D8 tn TK _ _ ls ⟨hX2, hMH2, hMD2, hO2⟩ hP hD hS (lv_sub hl [2, 3, 4, 5, 6] rfl)
  · skip
    have hc0 : c9 = 0 := (nI_eq (by omega) (by decide)).mp (show nI c9 = nI 0 from c_11)
    refine lv_aload_n hx hb dL_law_440 rfl (lv_at hl 5 rfl) ?_
    refine lv_iconst (v := 0) hx hb dL_law_441 (by decide) ?_
    refine va_lald hx hb hK hP 10 1 rfl rfl (i := 0) (vp_in_nI (n := 0) (N := 1) (by omega) (by omega)) dL_law_442 ?_
    rw [show f2 ((0 : Int32)).toNatClampNeg = r2.toInt64 from (ha9 hc0).trans (congrArg Int32.toInt64 (z3 hc0))]
    refine lv_iload hx hb dL_law_443 (lv_at hl 0 rfl) ?_
    refine lv_i2l hx hb dL_law_445 rfl ?_
    refine W.lcmp hx hb dL_law_446 ?_
    rw [show lg_cmp r2.toInt64 r2.toInt64 = 0 from by simp [lg_cmp]]
    refine lv_if_eq (tgt := 452) hx hb dL_law_447 (by decide) (fun c_12 => ?_) (fun c_12 => absurd rfl c_12)
    refine lv_goto (tgt := 635) hx hb dL_law_452 (by decide) ?_
    refine W.widen (k := cs + 4) (n := ss + 24) (by omega) (by omega) ?_
    exact kk σ2 τ2 f2 h D8 tn TK _ _ ls ⟨hX2, hMH2, hMD2, hO2⟩ hP hD hS (lv_sub hl [2, 3, 4, 5, 6] rfl)

set_option maxHeartbeats 4000000 in
set_option maxRecDepth 100000 in
theorem hn_case_size {p : Program} {e : Env} {s : State} {m : MethodId} {below : List Frame} {meth : Method} {c : Code} (l : Launch) (hl0 : l.stackTraces = false) {b L : Nat} {xs : Nat → Int32} (hL : L ≤ 3072) (C0 : lw_At p s m meth c b L xs) {D : va_G} {cI cL : ClassId} {sa ad am : Nat → Nat} {ao : Nat} (hG : hn_G s.heap.size sa s s.heap) (hNc : va_Nc hn_xS hn_xA s) (hK : va_K D vwCl (hn_ty cI cL) s) {i cs ss : Nat} (hi : i + 6 ≤ L) (hc : cs + 4 ≤ 601024) (hs : ss + 24 ≤ 7293034) {Q : State → Prop} (kk : ∀ (σ τ : Nat → Nat → Int32) (f : Nat → Int64) (h : Nat → Nat) (D9 : Nat → List hn_E) (tn TK : Nat) (H : Heap) (locs : List Loc) (ls : Array Slot), hn_LI σ τ h D9 tn TK → va_P D vwCl (hn_wL ad cI σ ao cL f am τ) H → va_D (fun q : Nat => s.heap.size ≤ q) (hn_wL ad cI σ ao cL f am τ) → va_S (fun q : Nat => s.heap.size ≤ q) s.heap H locs → lv_has ls 7 [(0, .ref b), (1, .ref (ad 0)), (2, .ref (am 0)), (3, .ref ao), (4, .int (nI i))] → W p l e room_1 s m #[Value.ref b] below meth c H locs (cs + 4) (ss + 24) Q (F0 m 635 ls [])) (σ τ : Nat → Nat → Int32) (f : Nat → Int64) (h : Nat → Nat) (D9 : Nat → List hn_E) (tn TK : Nat) (H : Heap) (locs : List Loc) (ls : Array Slot) : hn_LI σ τ h D9 tn TK → va_P D vwCl (hn_wL ad cI σ ao cL f am τ) H → va_D (fun q : Nat => s.heap.size ≤ q) (hn_wL ad cI σ ao cL f am τ) → va_S (fun q : Nat => s.heap.size ≤ q) s.heap H locs → lv_has ls 7 [(0, .ref b), (1, .ref (ad 0)), (2, .ref (am 0)), (3, .ref ao), (4, .int (nI i))] → W p l e room_1 s m #[Value.ref b] below meth c H locs cs ss Q (F0 m 455 ls []) := by
  obtain ⟨hx, hb, hr, hml, hown, hts0, hX, hbl, hlocks, hgv⟩ := id C0
  have hown : s.vm.findClass RL = some m.cls := hown
  have hts : ∀ w ∈ hn_tb, w.before #[Value.ref b] s = true := fun w h => hts0 w (List.mem_filter.mp h).1
  have hA : ∀ q : Nat, s.heap.size ≤ q → (fun q : Nat => s.heap.size ≤ q) q := fun _ h => h
  have hbA : ¬ (fun q : Nat => s.heap.size ≤ q) b := Nat.not_le.mpr hbl
  intro hI hP hD hS hl
  obtain ⟨hXR, hMH, hMD, hO⟩ := hI
  refine lv_aload_n hx hb dL_law_455 rfl (lv_at hl 1 rfl) ?_
  refine lv_aload_n hx hb dL_law_456 rfl (lv_at hl 0 rfl) ?_
  refine lv_iload hx hb dL_law_457 (lv_at hl 4 rfl) ?_
  refine lv_iconst (v := 1) hx hb dL_law_459 (by decide) ?_
  refine lv_iadd hx hb dL_law_460 ?_
  rw [show ((nI i) + 1 : Int32) = nI (i + 1) from nI_add i 1]
  refine va_sld hx hb hX hbl hbA hS (vp_in_nI (show i + 1 < L by omega) (by omega)) dL_law_461 ?_
  rw [nI_clamp (show i + 1 < 2 ^ 31 by omega)]
  refine lv_aload_n hx hb dL_law_462 rfl (lv_at hl 3 rfl) ?_
  have hPc := hP.sub (ws' := hn_wH ad cI σ ao cL f) [0, 1, 2, 3, 4, 5, 6, 7, 8, 9, 10] rfl
  have hDc := hD.sub (ws' := hn_wH ad cI σ ao cL f) [0, 1, 2, 3, 4, 5, 6, 7, 8, 9, 10] (by decide) rfl
  have hFc := va_free (wc := hn_wH ad cI σ ao cL f) hD hS hA [0, 1, 2, 3, 4, 5, 6, 7, 8, 9, 10] rfl
  refine va_calli (vx_runSW (As := [.ref (ad 0), .int (xs (i + 1)), .ref ao]) (rest := []) ⟨hx, hb, hml, hown, hts⟩ (cL_size_ok l hl0 D cI cL s.heap.size sa ad σ ao f h D9 tn TK hXR hO (xs (i + 1)) _) (vx_cwSW 3 hts gL_L_size rfl rfl rfl (by decide +kernel) ⟨(Nat.le_of_ble_eq_true rfl), (Nat.le_of_ble_eq_true rfl)⟩) (hn_preH hPc hK hDc (Nat.le_refl _) hG hS (fun _ h => h) hNc) rfl rfl hl.1 rfl (lv_room (Nat.le_of_ble_eq_true rfl)) dL_law_463 ⟨show cs + 1 ≤ 601024 by omega, show ss + 6 ≤ 7293034 by omega⟩) hS (fun q _ h => hFc q h) hFc (fun r1 u t8 H1 locs ht hvm hw hB hz1 hk1 hS => ?_)
  obtain ⟨σ2, f2⟩ := u
  obtain ⟨hP1, hK1, hD1⟩ := hB
  rw [ht] at hP1
  obtain ⟨hP, hD⟩ := va_join (wr := hn_wM am cI τ) (w1 := hn_wH ad cI σ2 ao cL f2) hP hD [0, 1, 2, 3, 4, 5, 6, 7, 8, 9, 10] [11, 12, 13, 14, 15, 16, 17] rfl rfl (by decide) (by decide) hk1 hFc hP1 hD1
  have hP := hP.sub (ws' := hn_wL ad cI σ2 ao cL f2 am τ) [7, 8, 9, 10, 11, 12, 13, 14, 15, 16, 17, 0, 1, 2, 3, 4, 5, 6] rfl
  have hD := hD.sub (ws' := hn_wL ad cI σ2 ao cL f2 am τ) [7, 8, 9, 10, 11, 12, 13, 14, 15, 16, 17, 0, 1, 2, 3, 4, 5, 6] (by decide) rfl
  clear hPc hDc hFc hP1 hD1 hK1 hk1
  generalize H1 = H at hP hS ⊢
  try dsimp only at hw
  obtain ⟨c9, a9, hc3, er1, hop, ha9, hX2⟩ := hw
  subst er1
  refine lv_istore (lv' := [(5, .int (nI c9)), (0, .ref b), (1, .ref (ad 0)), (2, .ref (am 0)), (3, .ref ao), (4, .int (nI i))]) hx hb dL_law_466 hl (by decide) rfl (fun ls hl => ?_)
  refine lv_aload_n hx hb dL_law_468 rfl (lv_at hl 3 rfl) ?_
  refine lv_aload_n hx hb dL_law_469 rfl (lv_at hl 1 rfl) ?_
  refine lv_iload hx hb dL_law_470 (lv_at hl 5 rfl) ?_
  refine lv_iconst (v := 1) hx hb dL_law_472 (by decide) ?_
  refine lv_iadd hx hb dL_law_473 ?_
  rw [show ((nI i) + 1 : Int32) = nI (i + 1) from nI_add i 1]
  refine va_sld hx hb hX hbl hbA hS (vp_in_nI (show i + 1 < L by omega) (by omega)) dL_law_474 ?_
  rw [nI_clamp (show i + 1 < 2 ^ 31 by omega)]
  have hPc := hP.sub (ws' := hn_wM am cI τ) [11, 12, 13, 14, 15, 16, 17] rfl
  have hDc := hD.sub (ws' := hn_wM am cI τ) [11, 12, 13, 14, 15, 16, 17] (by decide) rfl
  have hFc := va_free (wc := hn_wM am cI τ) hD hS hA [11, 12, 13, 14, 15, 16, 17] rfl
  refine va_calli (va_runV (As := [.int (xs (i + 1))]) (rest := []) ⟨hx, hb, hml, hown, hts⟩ (cM_size_ok l D cI cL am τ (xs (i + 1)) h D9 tn TK hMH hMD hO _) (cwV 1 hts gL_M_size rfl rfl rfl (by decide +kernel) ⟨(Nat.le_of_ble_eq_true rfl), (Nat.le_of_ble_eq_true rfl)⟩) (hn_preVW hPc hK hDc (ci := 1) (q0 := 0) rfl rfl) rfl rfl hl.1 rfl (lv_room (Nat.le_of_ble_eq_true rfl)) dL_law_475 ⟨show cs + 1 + 0 ≤ 601024 by omega, show ss + 6 + 0 ≤ 7293034 by omega⟩) hS (fun q _ h => hFc q h) hFc (fun r2 τ2 t8 H1 locs ht hvm hw hB hz1 hk1 hS => ?_)
  obtain ⟨hP1, hK1, hD1⟩ := hB
  rw [ht] at hP1
  obtain ⟨hP, hD⟩ := va_join (wr := hn_wH ad cI σ2 ao cL f2) (w1 := hn_wM am cI τ2) hP hD [11, 12, 13, 14, 15, 16, 17] [0, 1, 2, 3, 4, 5, 6, 7, 8, 9, 10] rfl rfl (by decide) (by decide) hk1 hFc hP1 hD1
  have hP := hP.sub (ws' := hn_wL ad cI σ2 ao cL f2 am τ2) [0, 1, 2, 3, 4, 5, 6, 7, 8, 9, 10, 11, 12, 13, 14, 15, 16, 17] rfl
  have hD := hD.sub (ws' := hn_wL ad cI σ2 ao cL f2 am τ2) [0, 1, 2, 3, 4, 5, 6, 7, 8, 9, 10, 11, 12, 13, 14, 15, 16, 17] (by decide) rfl
  clear hPc hDc hFc hP1 hD1 hK1 hk1
  generalize H1 = H at hP hS ⊢
  try dsimp only at hw
  obtain ⟨c8, hop2, ethr, hMH2, hMD2⟩ := hw
  obtain ⟨z1, z3⟩ := hn_size1 hop hop2
  subst z1
  refine lv_istore (lv' := [(6, .int r2), (5, .int (nI c9)), (0, .ref b), (1, .ref (ad 0)), (2, .ref (am 0)), (3, .ref ao), (4, .int (nI i))]) hx hb dL_law_478 hl (by decide) rfl (fun ls hl => ?_)
  refine lv_aload_n hx hb dL_law_480 rfl (lv_at hl 4 rfl) ?_
  have hPm := hP.sub (ws' := hn_wM am cI τ2) [11, 12, 13, 14, 15, 16, 17] rfl
  refine W.callR (W.runV (As := []) (rest := []) ⟨hx, hb, hml, hown, hts⟩ (cM_thrown_ok l D cI cL am τ2) (cwV 0 hts gL_M_thrown rfl rfl rfl (by decide +kernel) ⟨(Nat.le_of_ble_eq_true rfl), (Nat.le_of_ble_eq_true rfl)⟩) (hn_preV hPm hK (ci := 1) (q0 := 0) rfl rfl) rfl rfl hl.1 rfl (lv_room (Nat.le_of_ble_eq_true rfl)) dL_law_481 ⟨show cs + 1 + 0 + 0 ≤ 601024 by omega, show ss + 6 + 0 + 0 ≤ 7293034 by omega⟩) ?_
  refine W.eq (g2 := F0 m 484 ls [.int (τ2 0 0)]) rfl ?_
  rw [ethr]
  refine lv_iload hx hb dL_law_484 (lv_at hl 1 rfl) ?_
  refine lv_icmp_eq (tgt := 491) hx hb dL_law_486 (by decide) (fun c_13 => ?_) (fun c_13 => absurd rfl c_13)
  refine lv_iload hx hb dL_law_491 (lv_at hl 1 rfl) ?_
  refine lv_if_ne (tgt := 508) hx hb dL_law_493 (by decide) (fun c_14 => ?_) (fun c_14 => ?_)
  · skip
    refine lv_goto (tgt := 635) hx hb dL_law_508 (by decide) ?_
    refine W.widen (k := cs + 4) (n := ss + 24) (by omega) (by omega) ?_
    exact kk σ2 τ2 f2 h D9 tn TK _ _ ls ⟨hX2, hMH2, hMD2, hO⟩ hP hD hS (lv_sub hl [2, 3, 4, 5, 6] rfl)
  · skip
    have hc0 : c9 = 0 := (nI_eq (by omega) (by decide)).mp (show nI c9 = nI 0 from c_14)
    refine lv_aload_n hx hb dL_law_496 rfl (lv_at hl 5 rfl) ?_
    refine lv_iconst (v := 0) hx hb dL_law_497 (by decide) ?_
    refine va_lald hx hb hK hP 10 1 rfl rfl (i := 0) (vp_in_nI (n := 0) (N := 1) (by omega) (by omega)) dL_law_498 ?_
    rw [show f2 ((0 : Int32)).toNatClampNeg = r2.toInt64 from (ha9 hc0).trans (congrArg Int32.toInt64 (z3 hc0))]
    refine lv_iload hx hb dL_law_499 (lv_at hl 0 rfl) ?_
    refine lv_i2l hx hb dL_law_501 rfl ?_
    refine W.lcmp hx hb dL_law_502 ?_
    rw [show lg_cmp r2.toInt64 r2.toInt64 = 0 from by simp [lg_cmp]]
    refine lv_if_eq (tgt := 508) hx hb dL_law_503 (by decide) (fun c_15 => ?_) (fun c_15 => absurd rfl c_15)
    refine lv_goto (tgt := 635) hx hb dL_law_508 (by decide) ?_
    refine W.widen (k := cs + 4) (n := ss + 24) (by omega) (by omega) ?_
    exact kk σ2 τ2 f2 h D9 tn TK _ _ ls ⟨hX2, hMH2, hMD2, hO⟩ hP hD hS (lv_sub hl [2, 3, 4, 5, 6] rfl)

set_option maxHeartbeats 4000000 in
set_option maxRecDepth 100000 in
theorem hn_case_nth {p : Program} {e : Env} {s : State} {m : MethodId} {below : List Frame} {meth : Method} {c : Code} (l : Launch) (hl0 : l.stackTraces = false) {b L : Nat} {xs : Nat → Int32} (hL : L ≤ 3072) (C0 : lw_At p s m meth c b L xs) {D : va_G} {cI cL : ClassId} {sa ad am : Nat → Nat} {ao : Nat} (hG : hn_G s.heap.size sa s s.heap) (hNc : va_Nc hn_xS hn_xA s) (hK : va_K D vwCl (hn_ty cI cL) s) {i cs ss : Nat} (hi : i + 6 ≤ L) (hc : cs + 4 ≤ 601024) (hs : ss + 24 ≤ 7293034) {Q : State → Prop} (kk : ∀ (σ τ : Nat → Nat → Int32) (f : Nat → Int64) (h : Nat → Nat) (D9 : Nat → List hn_E) (tn TK : Nat) (H : Heap) (locs : List Loc) (ls : Array Slot), hn_LI σ τ h D9 tn TK → va_P D vwCl (hn_wL ad cI σ ao cL f am τ) H → va_D (fun q : Nat => s.heap.size ≤ q) (hn_wL ad cI σ ao cL f am τ) → va_S (fun q : Nat => s.heap.size ≤ q) s.heap H locs → lv_has ls 7 [(0, .ref b), (1, .ref (ad 0)), (2, .ref (am 0)), (3, .ref ao), (4, .int (nI i))] → W p l e room_1 s m #[Value.ref b] below meth c H locs (cs + 4) (ss + 24) Q (F0 m 635 ls [])) (σ τ : Nat → Nat → Int32) (f : Nat → Int64) (h : Nat → Nat) (D9 : Nat → List hn_E) (tn TK : Nat) (H : Heap) (locs : List Loc) (ls : Array Slot) : hn_LI σ τ h D9 tn TK → va_P D vwCl (hn_wL ad cI σ ao cL f am τ) H → va_D (fun q : Nat => s.heap.size ≤ q) (hn_wL ad cI σ ao cL f am τ) → va_S (fun q : Nat => s.heap.size ≤ q) s.heap H locs → lv_has ls 7 [(0, .ref b), (1, .ref (ad 0)), (2, .ref (am 0)), (3, .ref ao), (4, .int (nI i))] → W p l e room_1 s m #[Value.ref b] below meth c H locs cs ss Q (F0 m 511 ls []) := by
  obtain ⟨hx, hb, hr, hml, hown, hts0, hX, hbl, hlocks, hgv⟩ := id C0
  have hown : s.vm.findClass RL = some m.cls := hown
  have hts : ∀ w ∈ hn_tb, w.before #[Value.ref b] s = true := fun w h => hts0 w (List.mem_filter.mp h).1
  have hA : ∀ q : Nat, s.heap.size ≤ q → (fun q : Nat => s.heap.size ≤ q) q := fun _ h => h
  have hbA : ¬ (fun q : Nat => s.heap.size ≤ q) b := Nat.not_le.mpr hbl
  intro hI hP hD hS hl
  obtain ⟨hXR, hMH, hMD, hO⟩ := hI
  refine lv_aload_n hx hb dL_law_511 rfl (lv_at hl 1 rfl) ?_
  refine lv_aload_n hx hb dL_law_512 rfl (lv_at hl 0 rfl) ?_
  refine lv_iload hx hb dL_law_513 (lv_at hl 4 rfl) ?_
  refine lv_iconst (v := 1) hx hb dL_law_515 (by decide) ?_
  refine lv_iadd hx hb dL_law_516 ?_
  rw [show ((nI i) + 1 : Int32) = nI (i + 1) from nI_add i 1]
  refine va_sld hx hb hX hbl hbA hS (vp_in_nI (show i + 1 < L by omega) (by omega)) dL_law_517 ?_
  rw [nI_clamp (show i + 1 < 2 ^ 31 by omega)]
  refine lv_aload_n hx hb dL_law_518 rfl (lv_at hl 0 rfl) ?_
  refine lv_iload hx hb dL_law_519 (lv_at hl 4 rfl) ?_
  refine lv_iconst (v := 2) hx hb dL_law_521 (by decide) ?_
  refine lv_iadd hx hb dL_law_522 ?_
  rw [show ((nI i) + 2 : Int32) = nI (i + 2) from nI_add i 2]
  refine va_sld hx hb hX hbl hbA hS (vp_in_nI (show i + 2 < L by omega) (by omega)) dL_law_523 ?_
  rw [nI_clamp (show i + 2 < 2 ^ 31 by omega)]
  refine lv_aload_n hx hb dL_law_524 rfl (lv_at hl 3 rfl) ?_
  have hPc := hP.sub (ws' := hn_wH ad cI σ ao cL f) [0, 1, 2, 3, 4, 5, 6, 7, 8, 9, 10] rfl
  have hDc := hD.sub (ws' := hn_wH ad cI σ ao cL f) [0, 1, 2, 3, 4, 5, 6, 7, 8, 9, 10] (by decide) rfl
  have hFc := va_free (wc := hn_wH ad cI σ ao cL f) hD hS hA [0, 1, 2, 3, 4, 5, 6, 7, 8, 9, 10] rfl
  refine va_calli (vx_runSW (As := [.ref (ad 0), .int (xs (i + 1)), .int (xs (i + 2)), .ref ao]) (rest := []) ⟨hx, hb, hml, hown, hts⟩ (cL_nth_ok l hl0 D cI cL s.heap.size sa ad σ ao f h D9 tn TK hXR hO (xs (i + 1)) (xs (i + 2)) _) (vx_cwSW 4 hts gL_L_nth rfl rfl rfl (by decide +kernel) ⟨(Nat.le_of_ble_eq_true rfl), (Nat.le_of_ble_eq_true rfl)⟩) (hn_preH hPc hK hDc (Nat.le_refl _) hG hS (fun _ h => h) hNc) rfl rfl hl.1 rfl (lv_room (Nat.le_of_ble_eq_true rfl)) dL_law_525 ⟨show cs + 2 ≤ 601024 by omega, show ss + 12 ≤ 7293034 by omega⟩) hS (fun q _ h => hFc q h) hFc (fun r1 u t8 H1 locs ht hvm hw hB hz1 hk1 hS => ?_)
  obtain ⟨σ2, f2⟩ := u
  obtain ⟨hP1, hK1, hD1⟩ := hB
  rw [ht] at hP1
  obtain ⟨hP, hD⟩ := va_join (wr := hn_wM am cI τ) (w1 := hn_wH ad cI σ2 ao cL f2) hP hD [0, 1, 2, 3, 4, 5, 6, 7, 8, 9, 10] [11, 12, 13, 14, 15, 16, 17] rfl rfl (by decide) (by decide) hk1 hFc hP1 hD1
  have hP := hP.sub (ws' := hn_wL ad cI σ2 ao cL f2 am τ) [7, 8, 9, 10, 11, 12, 13, 14, 15, 16, 17, 0, 1, 2, 3, 4, 5, 6] rfl
  have hD := hD.sub (ws' := hn_wL ad cI σ2 ao cL f2 am τ) [7, 8, 9, 10, 11, 12, 13, 14, 15, 16, 17, 0, 1, 2, 3, 4, 5, 6] (by decide) rfl
  clear hPc hDc hFc hP1 hD1 hK1 hk1
  generalize H1 = H at hP hS ⊢
  try dsimp only at hw
  obtain ⟨c9, a9, tn8, TK8, hc3, er1, hop, ha9, hX2⟩ := hw
  subst er1
  refine lv_istore (lv' := [(5, .int (nI c9)), (0, .ref b), (1, .ref (ad 0)), (2, .ref (am 0)), (3, .ref ao), (4, .int (nI i))]) hx hb dL_law_528 hl (by decide) rfl (fun ls hl => ?_)
  refine lv_aload_n hx hb dL_law_530 rfl (lv_at hl 3 rfl) ?_
  refine lv_aload_n hx hb dL_law_531 rfl (lv_at hl 1 rfl) ?_
  refine lv_iload hx hb dL_law_532 (lv_at hl 5 rfl) ?_
  refine lv_iconst (v := 1) hx hb dL_law_534 (by decide) ?_
  refine lv_iadd hx hb dL_law_535 ?_
  rw [show ((nI i) + 1 : Int32) = nI (i + 1) from nI_add i 1]
  refine va_sld hx hb hX hbl hbA hS (vp_in_nI (show i + 1 < L by omega) (by omega)) dL_law_536 ?_
  rw [nI_clamp (show i + 1 < 2 ^ 31 by omega)]
  refine lv_aload_n hx hb dL_law_537 rfl (lv_at hl 1 rfl) ?_
  refine lv_iload hx hb dL_law_538 (lv_at hl 5 rfl) ?_
  refine lv_iconst (v := 2) hx hb dL_law_540 (by decide) ?_
  refine lv_iadd hx hb dL_law_541 ?_
  rw [show ((nI i) + 2 : Int32) = nI (i + 2) from nI_add i 2]
  refine va_sld hx hb hX hbl hbA hS (vp_in_nI (show i + 2 < L by omega) (by omega)) dL_law_542 ?_
  rw [nI_clamp (show i + 2 < 2 ^ 31 by omega)]
  have hPc := hP.sub (ws' := hn_wM am cI τ) [11, 12, 13, 14, 15, 16, 17] rfl
  have hDc := hD.sub (ws' := hn_wM am cI τ) [11, 12, 13, 14, 15, 16, 17] (by decide) rfl
  have hFc := va_free (wc := hn_wM am cI τ) hD hS hA [11, 12, 13, 14, 15, 16, 17] rfl
  refine va_calli (va_runV (As := [.int (xs (i + 1)), .int (xs (i + 2))]) (rest := []) ⟨hx, hb, hml, hown, hts⟩ (cM_nth_ok l D cI cL am τ (xs (i + 1)) (xs (i + 2)) h D9 tn TK hMH hMD hO _) (cwV 2 hts gL_M_nth rfl rfl rfl (by decide +kernel) ⟨(Nat.le_of_ble_eq_true rfl), (Nat.le_of_ble_eq_true rfl)⟩) (hn_preVW hPc hK hDc (ci := 1) (q0 := 0) rfl rfl) rfl rfl hl.1 rfl (lv_room (Nat.le_of_ble_eq_true rfl)) dL_law_543 ⟨show cs + 2 + 0 ≤ 601024 by omega, show ss + 12 + 0 ≤ 7293034 by omega⟩) hS (fun q _ h => hFc q h) hFc (fun r2 τ2 t8 H1 locs ht hvm hw hB hz1 hk1 hS => ?_)
  obtain ⟨hP1, hK1, hD1⟩ := hB
  rw [ht] at hP1
  obtain ⟨hP, hD⟩ := va_join (wr := hn_wH ad cI σ2 ao cL f2) (w1 := hn_wM am cI τ2) hP hD [11, 12, 13, 14, 15, 16, 17] [0, 1, 2, 3, 4, 5, 6, 7, 8, 9, 10] rfl rfl (by decide) (by decide) hk1 hFc hP1 hD1
  have hP := hP.sub (ws' := hn_wL ad cI σ2 ao cL f2 am τ2) [0, 1, 2, 3, 4, 5, 6, 7, 8, 9, 10, 11, 12, 13, 14, 15, 16, 17] rfl
  have hD := hD.sub (ws' := hn_wL ad cI σ2 ao cL f2 am τ2) [0, 1, 2, 3, 4, 5, 6, 7, 8, 9, 10, 11, 12, 13, 14, 15, 16, 17] (by decide) rfl
  clear hPc hDc hFc hP1 hD1 hK1 hk1
  generalize H1 = H at hP hS ⊢
  try dsimp only at hw
  obtain ⟨c8, t7, T7, hop2, ethr, hMH2, hMD2⟩ := hw
  obtain ⟨z1, z2, z4, z3⟩ := hn_nth1 hop hop2
  subst z1
  subst z2
  subst z4
  refine lv_istore (lv' := [(6, .int r2), (5, .int (nI c9)), (0, .ref b), (1, .ref (ad 0)), (2, .ref (am 0)), (3, .ref ao), (4, .int (nI i))]) hx hb dL_law_546 hl (by decide) rfl (fun ls hl => ?_)
  refine lv_aload_n hx hb dL_law_548 rfl (lv_at hl 4 rfl) ?_
  have hPm := hP.sub (ws' := hn_wM am cI τ2) [11, 12, 13, 14, 15, 16, 17] rfl
  refine W.callR (W.runV (As := []) (rest := []) ⟨hx, hb, hml, hown, hts⟩ (cM_thrown_ok l D cI cL am τ2) (cwV 0 hts gL_M_thrown rfl rfl rfl (by decide +kernel) ⟨(Nat.le_of_ble_eq_true rfl), (Nat.le_of_ble_eq_true rfl)⟩) (hn_preV hPm hK (ci := 1) (q0 := 0) rfl rfl) rfl rfl hl.1 rfl (lv_room (Nat.le_of_ble_eq_true rfl)) dL_law_549 ⟨show cs + 2 + 0 + 0 ≤ 601024 by omega, show ss + 12 + 0 + 0 ≤ 7293034 by omega⟩) ?_
  refine W.eq (g2 := F0 m 552 ls [.int (τ2 0 0)]) rfl ?_
  rw [ethr]
  refine lv_iload hx hb dL_law_552 (lv_at hl 1 rfl) ?_
  refine lv_icmp_eq (tgt := 559) hx hb dL_law_554 (by decide) (fun c_16 => ?_) (fun c_16 => absurd rfl c_16)
  refine lv_iload hx hb dL_law_559 (lv_at hl 1 rfl) ?_
  refine lv_if_ne (tgt := 576) hx hb dL_law_561 (by decide) (fun c_17 => ?_) (fun c_17 => ?_)
  · skip
    refine lv_goto (tgt := 635) hx hb dL_law_576 (by decide) ?_
    refine W.widen (k := cs + 4) (n := ss + 24) (by omega) (by omega) ?_
    exact kk σ2 τ2 f2 h D9 tn8 TK8 _ _ ls ⟨hX2, hMH2, hMD2, hO⟩ hP hD hS (lv_sub hl [2, 3, 4, 5, 6] rfl)
  · skip
    have hc0 : c9 = 0 := (nI_eq (by omega) (by decide)).mp (show nI c9 = nI 0 from c_17)
    refine lv_aload_n hx hb dL_law_564 rfl (lv_at hl 5 rfl) ?_
    refine lv_iconst (v := 0) hx hb dL_law_565 (by decide) ?_
    refine va_lald hx hb hK hP 10 1 rfl rfl (i := 0) (vp_in_nI (n := 0) (N := 1) (by omega) (by omega)) dL_law_566 ?_
    rw [show f2 ((0 : Int32)).toNatClampNeg = r2.toInt64 from (ha9 hc0).trans (congrArg Int32.toInt64 (z3 hc0))]
    refine lv_iload hx hb dL_law_567 (lv_at hl 0 rfl) ?_
    refine lv_i2l hx hb dL_law_569 rfl ?_
    refine W.lcmp hx hb dL_law_570 ?_
    rw [show lg_cmp r2.toInt64 r2.toInt64 = 0 from by simp [lg_cmp]]
    refine lv_if_eq (tgt := 576) hx hb dL_law_571 (by decide) (fun c_18 => ?_) (fun c_18 => absurd rfl c_18)
    refine lv_goto (tgt := 635) hx hb dL_law_576 (by decide) ?_
    refine W.widen (k := cs + 4) (n := ss + 24) (by omega) (by omega) ?_
    exact kk σ2 τ2 f2 h D9 tn8 TK8 _ _ ls ⟨hX2, hMH2, hMD2, hO⟩ hP hD hS (lv_sub hl [2, 3, 4, 5, 6] rfl)

set_option maxHeartbeats 4000000 in
set_option maxRecDepth 100000 in
theorem hn_case_byteAt {p : Program} {e : Env} {s : State} {m : MethodId} {below : List Frame} {meth : Method} {c : Code} (l : Launch) (hl0 : l.stackTraces = false) {b L : Nat} {xs : Nat → Int32} (hL : L ≤ 3072) (C0 : lw_At p s m meth c b L xs) {D : va_G} {cI cL : ClassId} {sa ad am : Nat → Nat} {ao : Nat} (hG : hn_G s.heap.size sa s s.heap) (hNc : va_Nc hn_xS hn_xA s) (hK : va_K D vwCl (hn_ty cI cL) s) {i cs ss : Nat} (hi : i + 6 ≤ L) (hc : cs + 4 ≤ 601024) (hs : ss + 24 ≤ 7293034) {Q : State → Prop} (kk : ∀ (σ τ : Nat → Nat → Int32) (f : Nat → Int64) (h : Nat → Nat) (D9 : Nat → List hn_E) (tn TK : Nat) (H : Heap) (locs : List Loc) (ls : Array Slot), hn_LI σ τ h D9 tn TK → va_P D vwCl (hn_wL ad cI σ ao cL f am τ) H → va_D (fun q : Nat => s.heap.size ≤ q) (hn_wL ad cI σ ao cL f am τ) → va_S (fun q : Nat => s.heap.size ≤ q) s.heap H locs → lv_has ls 7 [(0, .ref b), (1, .ref (ad 0)), (2, .ref (am 0)), (3, .ref ao), (4, .int (nI i))] → W p l e room_1 s m #[Value.ref b] below meth c H locs (cs + 4) (ss + 24) Q (F0 m 635 ls [])) (σ τ : Nat → Nat → Int32) (f : Nat → Int64) (h : Nat → Nat) (D9 : Nat → List hn_E) (tn TK : Nat) (H : Heap) (locs : List Loc) (ls : Array Slot) : hn_LI σ τ h D9 tn TK → va_P D vwCl (hn_wL ad cI σ ao cL f am τ) H → va_D (fun q : Nat => s.heap.size ≤ q) (hn_wL ad cI σ ao cL f am τ) → va_S (fun q : Nat => s.heap.size ≤ q) s.heap H locs → lv_has ls 7 [(0, .ref b), (1, .ref (ad 0)), (2, .ref (am 0)), (3, .ref ao), (4, .int (nI i))] → W p l e room_1 s m #[Value.ref b] below meth c H locs cs ss Q (F0 m 579 ls []) := by
  obtain ⟨hx, hb, hr, hml, hown, hts0, hX, hbl, hlocks, hgv⟩ := id C0
  have hown : s.vm.findClass RL = some m.cls := hown
  have hts : ∀ w ∈ hn_tb, w.before #[Value.ref b] s = true := fun w h => hts0 w (List.mem_filter.mp h).1
  have hA : ∀ q : Nat, s.heap.size ≤ q → (fun q : Nat => s.heap.size ≤ q) q := fun _ h => h
  have hbA : ¬ (fun q : Nat => s.heap.size ≤ q) b := Nat.not_le.mpr hbl
  intro hI hP hD hS hl
  obtain ⟨hXR, hMH, hMD, hO⟩ := hI
  refine lv_aload_n hx hb dL_law_579 rfl (lv_at hl 1 rfl) ?_
  refine lv_aload_n hx hb dL_law_580 rfl (lv_at hl 0 rfl) ?_
  refine lv_iload hx hb dL_law_581 (lv_at hl 4 rfl) ?_
  refine lv_iconst (v := 1) hx hb dL_law_583 (by decide) ?_
  refine lv_iadd hx hb dL_law_584 ?_
  rw [show ((nI i) + 1 : Int32) = nI (i + 1) from nI_add i 1]
  refine va_sld hx hb hX hbl hbA hS (vp_in_nI (show i + 1 < L by omega) (by omega)) dL_law_585 ?_
  rw [nI_clamp (show i + 1 < 2 ^ 31 by omega)]
  refine lv_aload_n hx hb dL_law_586 rfl (lv_at hl 3 rfl) ?_
  have hPc := hP.sub (ws' := hn_wH ad cI σ ao cL f) [0, 1, 2, 3, 4, 5, 6, 7, 8, 9, 10] rfl
  have hDc := hD.sub (ws' := hn_wH ad cI σ ao cL f) [0, 1, 2, 3, 4, 5, 6, 7, 8, 9, 10] (by decide) rfl
  have hFc := va_free (wc := hn_wH ad cI σ ao cL f) hD hS hA [0, 1, 2, 3, 4, 5, 6, 7, 8, 9, 10] rfl
  refine va_calli (vx_runSW (As := [.ref (ad 0), .int (xs (i + 1)), .ref ao]) (rest := []) ⟨hx, hb, hml, hown, hts⟩ (cL_byteAt_ok l hl0 D cI cL s.heap.size sa ad σ ao f h D9 tn TK hXR hO (xs (i + 1)) _) (vx_cwSW 3 hts gL_L_byteAt rfl rfl rfl (by decide +kernel) ⟨(Nat.le_of_ble_eq_true rfl), (Nat.le_of_ble_eq_true rfl)⟩) (hn_preH hPc hK hDc (Nat.le_refl _) hG hS (fun _ h => h) hNc) rfl rfl hl.1 rfl (lv_room (Nat.le_of_ble_eq_true rfl)) dL_law_587 ⟨show cs + 1 ≤ 601024 by omega, show ss + 6 ≤ 7293034 by omega⟩) hS (fun q _ h => hFc q h) hFc (fun r1 u t8 H1 locs ht hvm hw hB hz1 hk1 hS => ?_)
  obtain ⟨σ2, f2⟩ := u
  obtain ⟨hP1, hK1, hD1⟩ := hB
  rw [ht] at hP1
  obtain ⟨hP, hD⟩ := va_join (wr := hn_wM am cI τ) (w1 := hn_wH ad cI σ2 ao cL f2) hP hD [0, 1, 2, 3, 4, 5, 6, 7, 8, 9, 10] [11, 12, 13, 14, 15, 16, 17] rfl rfl (by decide) (by decide) hk1 hFc hP1 hD1
  have hP := hP.sub (ws' := hn_wL ad cI σ2 ao cL f2 am τ) [7, 8, 9, 10, 11, 12, 13, 14, 15, 16, 17, 0, 1, 2, 3, 4, 5, 6] rfl
  have hD := hD.sub (ws' := hn_wL ad cI σ2 ao cL f2 am τ) [7, 8, 9, 10, 11, 12, 13, 14, 15, 16, 17, 0, 1, 2, 3, 4, 5, 6] (by decide) rfl
  clear hPc hDc hFc hP1 hD1 hK1 hk1
  generalize H1 = H at hP hS ⊢
  try dsimp only at hw
  obtain ⟨c9, a9, hc3, er1, hop, ha9, hX2⟩ := hw
  subst er1
  refine lv_istore (lv' := [(5, .int (nI c9)), (0, .ref b), (1, .ref (ad 0)), (2, .ref (am 0)), (3, .ref ao), (4, .int (nI i))]) hx hb dL_law_590 hl (by decide) rfl (fun ls hl => ?_)
  refine lv_aload_n hx hb dL_law_592 rfl (lv_at hl 3 rfl) ?_
  refine lv_aload_n hx hb dL_law_593 rfl (lv_at hl 1 rfl) ?_
  refine lv_iload hx hb dL_law_594 (lv_at hl 5 rfl) ?_
  refine lv_iconst (v := 1) hx hb dL_law_596 (by decide) ?_
  refine lv_iadd hx hb dL_law_597 ?_
  rw [show ((nI i) + 1 : Int32) = nI (i + 1) from nI_add i 1]
  refine va_sld hx hb hX hbl hbA hS (vp_in_nI (show i + 1 < L by omega) (by omega)) dL_law_598 ?_
  rw [nI_clamp (show i + 1 < 2 ^ 31 by omega)]
  have hPc := hP.sub (ws' := hn_wM am cI τ) [11, 12, 13, 14, 15, 16, 17] rfl
  have hDc := hD.sub (ws' := hn_wM am cI τ) [11, 12, 13, 14, 15, 16, 17] (by decide) rfl
  have hFc := va_free (wc := hn_wM am cI τ) hD hS hA [11, 12, 13, 14, 15, 16, 17] rfl
  refine va_calli (va_runV (As := [.int (xs (i + 1))]) (rest := []) ⟨hx, hb, hml, hown, hts⟩ (cM_byteAt_ok l D cI cL am τ (xs (i + 1)) h D9 tn TK hMH hMD hO _) (cwV 1 hts gL_M_byteAt rfl rfl rfl (by decide +kernel) ⟨(Nat.le_of_ble_eq_true rfl), (Nat.le_of_ble_eq_true rfl)⟩) (hn_preVW hPc hK hDc (ci := 1) (q0 := 0) rfl rfl) rfl rfl hl.1 rfl (lv_room (Nat.le_of_ble_eq_true rfl)) dL_law_599 ⟨show cs + 1 + 0 ≤ 601024 by omega, show ss + 6 + 0 ≤ 7293034 by omega⟩) hS (fun q _ h => hFc q h) hFc (fun r2 τ2 t8 H1 locs ht hvm hw hB hz1 hk1 hS => ?_)
  obtain ⟨hP1, hK1, hD1⟩ := hB
  rw [ht] at hP1
  obtain ⟨hP, hD⟩ := va_join (wr := hn_wH ad cI σ2 ao cL f2) (w1 := hn_wM am cI τ2) hP hD [11, 12, 13, 14, 15, 16, 17] [0, 1, 2, 3, 4, 5, 6, 7, 8, 9, 10] rfl rfl (by decide) (by decide) hk1 hFc hP1 hD1
  have hP := hP.sub (ws' := hn_wL ad cI σ2 ao cL f2 am τ2) [0, 1, 2, 3, 4, 5, 6, 7, 8, 9, 10, 11, 12, 13, 14, 15, 16, 17] rfl
  have hD := hD.sub (ws' := hn_wL ad cI σ2 ao cL f2 am τ2) [0, 1, 2, 3, 4, 5, 6, 7, 8, 9, 10, 11, 12, 13, 14, 15, 16, 17] (by decide) rfl
  clear hPc hDc hFc hP1 hD1 hK1 hk1
  generalize H1 = H at hP hS ⊢
  try dsimp only at hw
  obtain ⟨c8, hop2, ethr, hMH2, hMD2⟩ := hw
  obtain ⟨z1, z3⟩ := hn_byte1 hop hop2
  subst z1
  refine lv_istore (lv' := [(6, .int r2), (5, .int (nI c9)), (0, .ref b), (1, .ref (ad 0)), (2, .ref (am 0)), (3, .ref ao), (4, .int (nI i))]) hx hb dL_law_602 hl (by decide) rfl (fun ls hl => ?_)
  refine lv_aload_n hx hb dL_law_604 rfl (lv_at hl 4 rfl) ?_
  have hPm := hP.sub (ws' := hn_wM am cI τ2) [11, 12, 13, 14, 15, 16, 17] rfl
  refine W.callR (W.runV (As := []) (rest := []) ⟨hx, hb, hml, hown, hts⟩ (cM_thrown_ok l D cI cL am τ2) (cwV 0 hts gL_M_thrown rfl rfl rfl (by decide +kernel) ⟨(Nat.le_of_ble_eq_true rfl), (Nat.le_of_ble_eq_true rfl)⟩) (hn_preV hPm hK (ci := 1) (q0 := 0) rfl rfl) rfl rfl hl.1 rfl (lv_room (Nat.le_of_ble_eq_true rfl)) dL_law_605 ⟨show cs + 1 + 0 + 0 ≤ 601024 by omega, show ss + 6 + 0 + 0 ≤ 7293034 by omega⟩) ?_
  refine W.eq (g2 := F0 m 608 ls [.int (τ2 0 0)]) rfl ?_
  rw [ethr]
  refine lv_iload hx hb dL_law_608 (lv_at hl 1 rfl) ?_
  refine lv_icmp_eq (tgt := 615) hx hb dL_law_610 (by decide) (fun c_19 => ?_) (fun c_19 => absurd rfl c_19)
  refine lv_iload hx hb dL_law_615 (lv_at hl 1 rfl) ?_
  refine lv_if_ne (tgt := 632) hx hb dL_law_617 (by decide) (fun c_20 => ?_) (fun c_20 => ?_)
  · skip
    refine lv_goto (tgt := 635) hx hb dL_law_632 (by decide) ?_
    refine W.widen (k := cs + 4) (n := ss + 24) (by omega) (by omega) ?_
    exact kk σ2 τ2 f2 h D9 tn TK _ _ ls ⟨hX2, hMH2, hMD2, hO⟩ hP hD hS (lv_sub hl [2, 3, 4, 5, 6] rfl)
  · skip
    have hc0 : c9 = 0 := (nI_eq (by omega) (by decide)).mp (show nI c9 = nI 0 from c_20)
    refine lv_aload_n hx hb dL_law_620 rfl (lv_at hl 5 rfl) ?_
    refine lv_iconst (v := 0) hx hb dL_law_621 (by decide) ?_
    refine va_lald hx hb hK hP 10 1 rfl rfl (i := 0) (vp_in_nI (n := 0) (N := 1) (by omega) (by omega)) dL_law_622 ?_
    rw [show f2 ((0 : Int32)).toNatClampNeg = r2.toInt64 from (ha9 hc0).trans (congrArg Int32.toInt64 (z3 hc0))]
    refine lv_iload hx hb dL_law_623 (lv_at hl 0 rfl) ?_
    refine lv_i2l hx hb dL_law_625 rfl ?_
    refine W.lcmp hx hb dL_law_626 ?_
    rw [show lg_cmp r2.toInt64 r2.toInt64 = 0 from by simp [lg_cmp]]
    refine lv_if_eq (tgt := 632) hx hb dL_law_627 (by decide) (fun c_21 => ?_) (fun c_21 => absurd rfl c_21)
    refine lv_goto (tgt := 635) hx hb dL_law_632 (by decide) ?_
    refine W.widen (k := cs + 4) (n := ss + 24) (by omega) (by omega) ?_
    exact kk σ2 τ2 f2 h D9 tn TK _ _ ls ⟨hX2, hMH2, hMD2, hO⟩ hP hD hS (lv_sub hl [2, 3, 4, 5, 6] rfl)
