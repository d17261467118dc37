section
abbrev hn_wH (ad : Nat → Nat) (cI : ClassId) (σ : Nat → Nat → Int32) (ao : Nat) (cL : ClassId) (f : Nat → Int64) : va_W :=
  [(ad 0, .inr (0, [.ref (ad 1), .ref (ad 2), .ref (ad 3), .int (σ 0 0), .ref (ad 4), .ref (ad 5), .ref (ad 6), .ref (ad 7), .ref (ad 8), .ref (ad 9)])),
   (ad 1, .inl (cI, 5, .inl (σ 1))), (ad 2, .inl (cI, 5, .inl (σ 2))), (ad 3, .inl (cI, 5, .inl (σ 3))), (ad 4, .inl (cI, 1920, .inl (σ 4))), (ad 5, .inl (cI, 384, .inl (σ 5))),
   (ad 6, .inl (cI, 384, .inl (σ 6))), (ad 7, .inl (cI, 8, .inl (σ 7))), (ad 8, .inl (cI, 512, .inl (σ 8))), (ad 9, .inl (cI, 392, .inl (σ 9))), (ao, .inl (cL, 1, .inr (.inl f)))]
abbrev hn_xA : String := "java/lang/IllegalArgumentException"
abbrev hn_xS : String := "java/lang/IllegalStateException"
/-- what a helper asks -/
def hn_PH (D : va_G) (tys : List (ClassId × FieldType)) (w : va_W) (sz z0 : Nat) (sa : Nat → Nat) (As : List Value) : Array Value → State → Prop := fun a U => hn_PX D tys w sz z0 sa As a U ∧ va_Nc hn_xS hn_xA U
theorem hn_preH {D : va_G} {tys : List (ClassId × FieldType)} {w : va_W} {z0 : Nat} {sa : Nat → Nat} {As : List Value} {s : State} {H : Heap} {A : Nat → Prop} {locs : List Loc} (hP : va_P D vwCl w H) (hK : va_K D vwCl tys s) (hD : va_D (fun q => z0 ≤ q) w) (hz : z0 ≤ s.heap.size) (hG : hn_G z0 sa s s.heap) (hS : va_S A s.heap H locs) (hAz : ∀ q, A q → z0 ≤ q) (hN : va_Nc hn_xS hn_xA s) : PreS s H (hn_PH D tys w H.size z0 sa As) As :=
  ⟨fun a U g mk z => ⟨hn_PX_blind a U g mk z.1, va_Nc.moved (u := U) (U := U.calling g mk a) (Vm.Alike.refl U.vm) z.2⟩, fun U hU hW => ⟨(hn_preXS hP hK hD hz hG hS hAz).2 U hU hW, va_Nc.moved hW.alike hN⟩⟩
theorem hn_find_2 {h : Nat → Nat} {D : Nat → List hn_E} {d n r : Int32} (a : hn_findS h D d n 2 r) : False := by
  rcases a with ⟨a, -⟩ | ⟨j, n', -, a, -⟩ <;> omega
theorem hn_size_2 {D : Nat → List hn_E} {d r : Int32} (a : hn_sizeS D d 2 r) : False := by
  rcases a with ⟨a, -⟩ | ⟨j, -, -, a, -⟩ <;> omega
theorem hn_nth_2 {D : Nat → List hn_E} {tn TK t2 T2 : Nat} {d k r : Int32} (a : hn_nthS D tn TK d k 2 r t2 T2) : False := by
  rcases a with ⟨a, -⟩ | ⟨j, k', -, -, -, -, a, -⟩ <;> omega
theorem hn_byte_2 {tn TK : Nat} {i r : Int32} (a : hn_byteS tn TK i 2 r) : False := by
  rcases a with ⟨a, -⟩ | ⟨i', -, -, a, -⟩ <;> omega
theorem hn_cA : Cond.castable hn_xA hn_xA ∈ hn_Bw := by decide +kernel
theorem hn_cS : Cond.castable hn_xS hn_xS ∈ hn_Bw := by decide +kernel
end
set_option maxHeartbeats 4000000 in
set_option maxRecDepth 100000 in
theorem cL_add_ok (l : Launch) (hl0 : l.stackTraces = false) (D : va_G) (cI cL : ClassId) (z0 : Nat) (sa : Nat → Nat) (ad : Nat → Nat) (σ : Nat → Nat → Int32) (ao : Nat) (f : Nat → Int64) (h : Nat → Nat) (D9 : Nat → List hn_E) (tn TK : Nat) (hXR : hn_XR σ h D9 tn TK) (hO : hn_DO D9) (d9 n9 x9 : Int32) (sz : Nat) : Met l yL_add wL_add ({ frames := 8, cells := 4, slots := 24, locals := 129 }) (hn_PH D (hn_ty cI cL) (hn_wH ad cI σ ao cL f) sz z0 sa [.ref (ad 0), .int d9, .int n9, .int x9, .ref ao]) (va_Qi (fun (r : Int32) (u : ((Nat → Nat → Int32) × (Nat → Int64))) => ∃ (c : Nat) (a : Int32) (D8 : Nat → List hn_E), c < 3 ∧ r = nI c ∧ hn_addS h D9 d9 n9 x9 c a D8 ∧ (c = 0 → u.2 0 = a.toInt64) ∧ hn_XR u.1 h D8 tn TK) (fun (u : ((Nat → Nat → Int32) × (Nat → Int64))) t => hn_at D (hn_ty cI cL) (va_A (hn_wH ad cI σ ao cL f) sz) (hn_wH ad cI u.1 ao cL u.2) t) (va_A (hn_wH ad cI σ ao cL f) sz)) 4 24 (va_A (hn_wH ad cI σ ao cL f) sz) := by
  refine va_MetW (cc := cL_add) (maxL := 6) (ret := (some .int)) (hh := [(0, 12, 15, 13), (0, 12, 19, 15)]) (by decide) rfl ?_
  intro p e s m args below meth c s₁ B hml hv
  obtain ⟨⟨rfl, hsz, hP, hK, hD0, hz0, hG⟩, hNc⟩ := hv
  subst hsz
  have hD := hD0.self (sz := s.heap.size)
  have hAz := hn_Az hD0 hz0
  generalize hAe : va_A (hn_wH ad cI σ ao cL f) s.heap.size = A at hD hAz ⊢
  have hA : ∀ q : Nat, s.heap.size ≤ q → A q := fun q h => by rw [← hAe]; exact Or.inr h
  have hS : va_S A s.heap s.heap [] := va_S.rf
  have hP : va_P D vwCl (hn_wH ad cI σ ao cL f) s.heap := hP
  have hx := B.exec
  have hb := B.bytes
  have hr := B.returns
  have hts0 := atoms_spec (ws := wL_add) B.pre
  have hts : ∀ w ∈ hn_tb, w.before _ s = true := fun w hw => hts0 w (List.mem_cons_of_mem _ hw)
  have hown : s.vm.findClass RL = some m.cls := findClass_of_methodNamed B.named
  have hlocks := B.notSynchronized
  have hl := lv_entry [.ref (ad 0), .int d9, .int n9, .int x9, .ref ao] (n := 6) (Nat.le_of_ble_eq_true rfl)
  rw [lg_entry_eq]
  generalize (lg_sl [.ref (ad 0), .int d9, .int n9, .int x9, .ref ao] ++ List.replicate (6 - (lg_sl [.ref (ad 0), .int d9, .int n9, .int x9, .ref ao]).length) Slot.unset).toArray = ls at hl ⊢
  have hl : lv_has ls 6 [(0, .ref (ad 0)), (1, .int d9), (2, .int n9), (3, .int x9), (4, .ref ao)] := hl
  have htb := vx_table (x := yL_add) B (hts0 (Cond.codeWith yL_add cL_add 6 (some .int) [(0, 12, 15, 13), (0, 12, 19, 15)]) List.mem_cons_self)
  refine lv_aload hx hb dL_add_0 (lv_at hl 4 rfl) ?_
  refine lv_iconst (v := 0) hx hb dL_add_2 (by decide) ?_
  refine lv_aload_n hx hb dL_add_3 rfl (lv_at hl 0 rfl) ?_
  refine lv_iload_n hx hb dL_add_4 rfl (lv_at hl 1 rfl) ?_
  refine lv_iload_n hx hb dL_add_5 rfl (lv_at hl 2 rfl) ?_
  refine lv_iload_n hx hb dL_add_6 rfl (lv_at hl 3 rfl) ?_
  have hPc := hP.sub (ws' := hn_wX ad cI σ) [0, 1, 2, 3, 4, 5, 6, 7, 8, 9] rfl
  have hDc := hD.sub (ws' := hn_wX ad cI σ) [0, 1, 2, 3, 4, 5, 6, 7, 8, 9] (by decide) rfl
  have hFc := va_free (wc := hn_wX ad cI σ) hD hS hA [0, 1, 2, 3, 4, 5, 6, 7, 8, 9] rfl
  refine vx_calli (vx_runV (As := [.int d9, .int n9, .int x9]) (rest := [.int 0, .ref ao]) ⟨hx, hb, hml, hown, hts⟩ (cX_add_ok l hl0 D cI cL z0 sa ad σ d9 n9 x9 h D9 tn TK hXR hO _) (cwV 3 hts gL_X_add rfl rfl rfl (by decide +kernel) ⟨(Nat.le_of_ble_eq_true rfl), (Nat.le_of_ble_eq_true rfl)⟩) (hn_preXV hPc hK (hDc.weaken (fun _ q _ h => hAz q.1 h)) hz0 hG hS hAz (ci := 0) (q0 := 0) rfl rfl) rfl rfl hl.1 rfl (lv_room (Nat.le_of_ble_eq_true rfl)) dL_add_7 ⟨(Nat.le_of_ble_eq_true rfl), (Nat.le_of_ble_eq_true rfl)⟩) hS (fun q _ h => hFc q h) hFc (fun q _ h => hFc q h) (fun E ce q9 σ2 t8 H1 locs ht hvm hpx hBX hz1 hk1 hS hce hcv hcl => ?_) (fun r1 σ2 t8 H1 locs ht hvm hw hB hz1 hk1 hS => ?_)
  · obtain ⟨⟨c9, hx1, hx2, hx3⟩, hP1, hK1, hD1⟩ := hBX
    rw [ht] at hP1
    obtain ⟨hP, hD⟩ := va_join (wr := [(ao, .inl (cL, 1, .inr (.inl f)))]) (w1 := hn_wX ad cI σ2) hP hD [0, 1, 2, 3, 4, 5, 6, 7, 8, 9] [10] rfl rfl (by decide) (by decide) hk1 hFc hP1 hD1
    have hP := hP.sub (ws' := hn_wH ad cI σ2 ao cL f) [1, 2, 3, 4, 5, 6, 7, 8, 9, 10, 0] rfl
    have hD := hD.sub (ws' := hn_wH ad cI σ2 ao cL f) [1, 2, 3, 4, 5, 6, 7, 8, 9, 10, 0] (by decide) rfl
    rcases hx1 with ⟨rfl, rfl⟩ | ⟨rfl, rfl⟩
    · refine vx_catch (name := hn_xA) hown [] ⟨0, 12, 15, 13⟩ [⟨0, 12, 19, 15⟩] htb (fun z h => nomatch h) rfl (by decide) (hts _ mL_c_13) (va_tabs (hn_Bw_on _ hn_cA) rfl (hG.1 _ hn_cA)) hce hcv hcl ?_
      refine lv_astore (lv' := [(5, .ref q9), (0, .ref (ad 0)), (1, .int d9), (2, .int n9), (3, .int x9), (4, .ref ao)]) hx hb dL_add_15 hl (by decide) rfl (fun ls hl => ?_)
      refine lv_iconst (v := 1) hx hb dL_add_17 (by decide) ?_
      refine W.widen (k := 4) (n := 24) (Nat.le_of_ble_eq_true rfl) (Nat.le_of_ble_eq_true rfl) ?_
      exact W.iret (v := 1) hx hb hr (fun t9 ht9 hW9 => ⟨⟨1, (σ2, f), rfl, ⟨1, 0, D9, by decide, rfl, hx2, fun z => absurd z (by decide), hx3⟩, by rw [ht9]; exact hP, va_K.moved hW9.alike hK, hD⟩, hS.F ht9⟩) hS.2.2 dL_add_18
    · refine vx_catch (name := hn_xS) hown [⟨0, 12, 15, 13⟩] ⟨0, 12, 19, 15⟩ [] htb (fun z h => Or.inr (by rw [List.mem_singleton.mp h]; exact ⟨by decide, hn_xA, hts _ mL_c_13, hNc⟩)) rfl (by decide) (hts _ mL_c_15) (va_tabs (hn_Bw_on _ hn_cS) rfl (hG.1 _ hn_cS)) hce hcv hcl ?_
      refine lv_astore (lv' := [(5, .ref q9), (0, .ref (ad 0)), (1, .int d9), (2, .int n9), (3, .int x9), (4, .ref ao)]) hx hb dL_add_19 hl (by decide) rfl (fun ls hl => ?_)
      refine lv_iconst (v := 2) hx hb dL_add_21 (by decide) ?_
      refine W.widen (k := 4) (n := 24) (Nat.le_of_ble_eq_true rfl) (Nat.le_of_ble_eq_true rfl) ?_
      exact W.iret (v := 2) hx hb hr (fun t9 ht9 hW9 => ⟨⟨2, (σ2, f), rfl, ⟨2, 0, D9, by decide, rfl, hx2, fun z => absurd z (by decide), hx3⟩, by rw [ht9]; exact hP, va_K.moved hW9.alike hK, hD⟩, hS.F ht9⟩) hS.2.2 dL_add_22
  obtain ⟨hP1, hK1, hD1⟩ := hB
  rw [ht] at hP1
  obtain ⟨hP, hD⟩ := va_join (wr := [(ao, .inl (cL, 1, .inr (.inl f)))]) (w1 := hn_wX ad cI σ2) hP hD [0, 1, 2, 3, 4, 5, 6, 7, 8, 9] [10] rfl rfl (by decide) (by decide) hk1 hFc hP1 hD1
  have hP := hP.sub (ws' := hn_wH ad cI σ2 ao cL f) [1, 2, 3, 4, 5, 6, 7, 8, 9, 10, 0] rfl
  have hD := hD.sub (ws' := hn_wH ad cI σ2 ao cL f) [1, 2, 3, 4, 5, 6, 7, 8, 9, 10, 0] (by decide) rfl
  try dsimp only at hw
  refine lv_i2l hx hb dL_add_10 rfl ?_
  refine va_last hx hb hK hP hD hS 10 1 rfl rfl (i := 0) (vp_in_nI (n := 0) (N := 1) (by omega) (by omega)) dL_add_11 (fun H locs hP hD hS => ?_)
  obtain ⟨f2, ef2⟩ : ∃ z : Nat → Int64, z = vp_updL f 0 r1.toInt64 := ⟨_, rfl⟩
  have hf2 : f2 0 = r1.toInt64 := by rw [ef2]; exact if_pos rfl
  have hP : va_P D vwCl (hn_wH ad cI σ2 ao cL f2) H := by rw [ef2]; exact hP
  have hD : va_D A (hn_wH ad cI σ2 ao cL f2) := by rw [ef2]; exact hD
  refine lv_goto (tgt := 23) hx hb dL_add_12 (by decide) ?_
  refine lv_iconst (v := 0) hx hb dL_add_23 (by decide) ?_
  obtain ⟨D8, g1, g2⟩ := hw
  refine W.widen (k := 4) (n := 24) (Nat.le_of_ble_eq_true rfl) (Nat.le_of_ble_eq_true rfl) ?_
  exact W.iret (v := 0) hx hb hr (fun t9 ht9 hW9 => ⟨⟨0, (σ2, f2), rfl, ⟨0, r1, D8, by decide, rfl, g1, fun _ => hf2, g2⟩, by rw [ht9]; exact hP, va_K.moved hW9.alike hK, hD⟩, hS.F ht9⟩) hS.2.2 dL_add_24

set_option maxHeartbeats 4000000 in
set_option maxRecDepth 100000 in
theorem cL_find_ok (l : Launch) (hl0 : l.stackTraces = false) (D : va_G) (cI cL : ClassId) (z0 : Nat) (sa : Nat → Nat) (ad : Nat → Nat) (σ : Nat → Nat → Int32) (ao : Nat) (f : Nat → Int64) (h : Nat → Nat) (D9 : Nat → List hn_E) (tn TK : Nat) (hXR : hn_XR σ h D9 tn TK) (hO : hn_DO D9) (d9 n9 : Int32) (sz : Nat) : Met l yL_find wL_find ({ frames := 8, cells := 2, slots := 12, locals := 128 }) (hn_PH D (hn_ty cI cL) (hn_wH ad cI σ ao cL f) sz z0 sa [.ref (ad 0), .int d9, .int n9, .ref ao]) (va_Qi (fun (r : Int32) (u : ((Nat → Nat → Int32) × (Nat → Int64))) => ∃ (c : Nat) (a : Int32) , c < 3 ∧ r = nI c ∧ hn_findS h D9 d9 n9 c a ∧ (c = 0 → u.2 0 = a.toInt64) ∧ hn_XR u.1 h D9 tn TK) (fun (u : ((Nat → Nat → Int32) × (Nat → Int64))) t => hn_at D (hn_ty cI cL) (va_A (hn_wH ad cI σ ao cL f) sz) (hn_wH ad cI u.1 ao cL u.2) t) (va_A (hn_wH ad cI σ ao cL f) sz)) 2 12 (va_A (hn_wH ad cI σ ao cL f) sz) := by
  refine va_MetW (cc := cL_find) (maxL := 5) (ret := (some .int)) (hh := [(0, 10, 13, 13)]) (by decide) rfl ?_
  intro p e s m args below meth c s₁ B hml hv
  obtain ⟨⟨rfl, hsz, hP, hK, hD0, hz0, hG⟩, hNc⟩ := hv
  subst hsz
  have hD := hD0.self (sz := s.heap.size)
  have hAz := hn_Az hD0 hz0
  generalize hAe : va_A (hn_wH ad cI σ ao cL f) s.heap.size = A at hD hAz ⊢
  have hA : ∀ q : Nat, s.heap.size ≤ q → A q := fun q h => by rw [← hAe]; exact Or.inr h
  have hS : va_S A s.heap s.heap [] := va_S.rf
  have hP : va_P D vwCl (hn_wH ad cI σ ao cL f) s.heap := hP
  have hx := B.exec
  have hb := B.bytes
  have hr := B.returns
  have hts0 := atoms_spec (ws := wL_find) B.pre
  have hts : ∀ w ∈ hn_tb, w.before _ s = true := fun w hw => hts0 w (List.mem_cons_of_mem _ hw)
  have hown : s.vm.findClass RL = some m.cls := findClass_of_methodNamed B.named
  have hlocks := B.notSynchronized
  have hl := lv_entry [.ref (ad 0), .int d9, .int n9, .ref ao] (n := 5) (Nat.le_of_ble_eq_true rfl)
  rw [lg_entry_eq]
  generalize (lg_sl [.ref (ad 0), .int d9, .int n9, .ref ao] ++ List.replicate (5 - (lg_sl [.ref (ad 0), .int d9, .int n9, .ref ao]).length) Slot.unset).toArray = ls at hl ⊢
  have hl : lv_has ls 5 [(0, .ref (ad 0)), (1, .int d9), (2, .int n9), (3, .ref ao)] := hl
  have htb := vx_table (x := yL_find) B (hts0 (Cond.codeWith yL_find cL_find 5 (some .int) [(0, 10, 13, 13)]) List.mem_cons_self)
  refine lv_aload_n hx hb dL_find_0 rfl (lv_at hl 3 rfl) ?_
  refine lv_iconst (v := 0) hx hb dL_find_1 (by decide) ?_
  refine lv_aload_n hx hb dL_find_2 rfl (lv_at hl 0 rfl) ?_
  refine lv_iload_n hx hb dL_find_3 rfl (lv_at hl 1 rfl) ?_
  refine lv_iload_n hx hb dL_find_4 rfl (lv_at hl 2 rfl) ?_
  have hPc := hP.sub (ws' := hn_wX ad cI σ) [0, 1, 2, 3, 4, 5, 6, 7, 8, 9] rfl
  have hDc := hD.sub (ws' := hn_wX ad cI σ) [0, 1, 2, 3, 4, 5, 6, 7, 8, 9] (by decide) rfl
  have hFc := va_free (wc := hn_wX ad cI σ) hD hS hA [0, 1, 2, 3, 4, 5, 6, 7, 8, 9] rfl
  refine vx_calli (vx_runV (As := [.int d9, .int n9]) (rest := [.int 0, .ref ao]) ⟨hx, hb, hml, hown, hts⟩ (cX_find_ok l hl0 D cI cL z0 sa ad σ d9 n9 h D9 tn TK hXR hO _) (cwV 2 hts gL_X_find rfl rfl rfl (by decide +kernel) ⟨(Nat.le_of_ble_eq_true rfl), (Nat.le_of_ble_eq_true rfl)⟩) (hn_preXV hPc hK (hDc.weaken (fun _ q _ h => hAz q.1 h)) hz0 hG hS hAz (ci := 0) (q0 := 0) rfl rfl) rfl rfl hl.1 rfl (lv_room (Nat.le_of_ble_eq_true rfl)) dL_find_5 ⟨(Nat.le_of_ble_eq_true rfl), (Nat.le_of_ble_eq_true rfl)⟩) hS (fun q _ h => hFc q h) hFc (fun q _ h => hFc q h) (fun E ce q9 σ2 t8 H1 locs ht hvm hpx hBX hz1 hk1 hS hce hcv hcl => ?_) (fun r1 σ2 t8 H1 locs ht hvm hw hB hz1 hk1 hS => ?_)
  · obtain ⟨⟨c9, hx1, hx2, hx3⟩, hP1, hK1, hD1⟩ := hBX
    rw [ht] at hP1
    obtain ⟨hP, hD⟩ := va_join (wr := [(ao, .inl (cL, 1, .inr (.inl f)))]) (w1 := hn_wX ad cI σ2) hP hD [0, 1, 2, 3, 4, 5, 6, 7, 8, 9] [10] rfl rfl (by decide) (by decide) hk1 hFc hP1 hD1
    have hP := hP.sub (ws' := hn_wH ad cI σ2 ao cL f) [1, 2, 3, 4, 5, 6, 7, 8, 9, 10, 0] rfl
    have hD := hD.sub (ws' := hn_wH ad cI σ2 ao cL f) [1, 2, 3, 4, 5, 6, 7, 8, 9, 10, 0] (by decide) rfl
    rcases hx1 with ⟨rfl, rfl⟩ | ⟨rfl, rfl⟩
    · refine vx_catch (name := hn_xA) hown [] ⟨0, 10, 13, 13⟩ [] htb (fun z h => nomatch h) rfl (by decide) (hts _ mL_c_13) (va_tabs (hn_Bw_on _ hn_cA) rfl (hG.1 _ hn_cA)) hce hcv hcl ?_
      refine lv_astore (lv' := [(4, .ref q9), (0, .ref (ad 0)), (1, .int d9), (2, .int n9), (3, .ref ao)]) hx hb dL_find_13 hl (by decide) rfl (fun ls hl => ?_)
      refine lv_iconst (v := 1) hx hb dL_find_15 (by decide) ?_
      refine W.widen (k := 2) (n := 12) (Nat.le_of_ble_eq_true rfl) (Nat.le_of_ble_eq_true rfl) ?_
      exact W.iret (v := 1) hx hb hr (fun t9 ht9 hW9 => ⟨⟨1, (σ2, f), rfl, ⟨1, 0, by decide, rfl, hx2, fun z => absurd z (by decide), hx3⟩, by rw [ht9]; exact hP, va_K.moved hW9.alike hK, hD⟩, hS.F ht9⟩) hS.2.2 dL_find_16
    · exact (hn_find_2 hx2).elim
  obtain ⟨hP1, hK1, hD1⟩ := hB
  rw [ht] at hP1
  obtain ⟨hP, hD⟩ := va_join (wr := [(ao, .inl (cL, 1, .inr (.inl f)))]) (w1 := hn_wX ad cI σ2) hP hD [0, 1, 2, 3, 4, 5, 6, 7, 8, 9] [10] rfl rfl (by decide) (by decide) hk1 hFc hP1 hD1
  have hP := hP.sub (ws' := hn_wH ad cI σ2 ao cL f) [1, 2, 3, 4, 5, 6, 7, 8, 9, 10, 0] rfl
  have hD := hD.sub (ws' := hn_wH ad cI σ2 ao cL f) [1, 2, 3, 4, 5, 6, 7, 8, 9, 10, 0] (by decide) rfl
  try dsimp only at hw
  refine lv_i2l hx hb dL_find_8 rfl ?_
  refine va_last hx hb hK hP hD hS 10 1 rfl rfl (i := 0) (vp_in_nI (n := 0) (N := 1) (by omega) (by omega)) dL_find_9 (fun H locs hP hD hS => ?_)
  obtain ⟨f2, ef2⟩ : ∃ z : Nat → Int64, z = vp_updL f 0 r1.toInt64 := ⟨_, rfl⟩
  have hf2 : f2 0 = r1.toInt64 := by rw [ef2]; exact if_pos rfl
  have hP : va_P D vwCl (hn_wH ad cI σ2 ao cL f2) H := by rw [ef2]; exact hP
  have hD : va_D A (hn_wH ad cI σ2 ao cL f2) := by rw [ef2]; exact hD
  refine lv_goto (tgt := 17) hx hb dL_find_10 (by decide) ?_
  refine lv_iconst (v := 0) hx hb dL_find_17 (by decide) ?_
  obtain ⟨g1, g2⟩ := hw
  refine W.widen (k := 2) (n := 12) (Nat.le_of_ble_eq_true rfl) (Nat.le_of_ble_eq_true rfl) ?_
  exact W.iret (v := 0) hx hb hr (fun t9 ht9 hW9 => ⟨⟨0, (σ2, f2), rfl, ⟨0, r1, by decide, rfl, g1, fun _ => hf2, g2⟩, by rw [ht9]; exact hP, va_K.moved hW9.alike hK, hD⟩, hS.F ht9⟩) hS.2.2 dL_find_18

set_option maxHeartbeats 4000000 in
set_option maxRecDepth 100000 in
theorem cL_remove_ok (l : Launch) (hl0 : l.stackTraces = false) (D : va_G) (cI cL : ClassId) (z0 : Nat) (sa : Nat → Nat) (ad : Nat → Nat) (σ : Nat → Nat → Int32) (ao : Nat) (f : Nat → Int64) (h : Nat → Nat) (D9 : Nat → List hn_E) (tn TK : Nat) (hXR : hn_XR σ h D9 tn TK) (hO : hn_DO D9) (d9 n9 : Int32) (sz : Nat) : Met l yL_remove wL_remove ({ frames := 8, cells := 3, slots := 18, locals := 128 }) (hn_PH D (hn_ty cI cL) (hn_wH ad cI σ ao cL f) sz z0 sa [.ref (ad 0), .int d9, .int n9, .ref ao]) (va_Qi (fun (r : Int32) (u : ((Nat → Nat → Int32) × (Nat → Int64))) => ∃ (c : Nat) (a : Int32) (D8 : Nat → List hn_E), c < 3 ∧ r = nI c ∧ hn_removeS h D9 d9 n9 c a D8 ∧ (c = 0 → u.2 0 = a.toInt64) ∧ hn_XR u.1 h D8 tn TK) (fun (u : ((Nat → Nat → Int32) × (Nat → Int64))) t => hn_at D (hn_ty cI cL) (va_A (hn_wH ad cI σ ao cL f) sz) (hn_wH ad cI u.1 ao cL u.2) t) (va_A (hn_wH ad cI σ ao cL f) sz)) 3 18 (va_A (hn_wH ad cI σ ao cL f) sz) := by
  refine va_MetW (cc := cL_remove) (maxL := 5) (ret := (some .int)) (hh := [(0, 10, 13, 13), (0, 10, 17, 15)]) (by decide) rfl ?_
  intro p e s m args below meth c s₁ B hml hv
  obtain ⟨⟨rfl, hsz, hP, hK, hD0, hz0, hG⟩, hNc⟩ := hv
  subst hsz
  have hD := hD0.self (sz := s.heap.size)
  have hAz := hn_Az hD0 hz0
  generalize hAe : va_A (hn_wH ad cI σ ao cL f) s.heap.size = A at hD hAz ⊢
  have hA : ∀ q : Nat, s.heap.size ≤ q → A q := fun q h => by rw [← hAe]; exact Or.inr h
  have hS : va_S A s.heap s.heap [] := va_S.rf
  have hP : va_P D vwCl (hn_wH ad cI σ ao cL f) s.heap := hP
  have hx := B.exec
  have hb := B.bytes
  have hr := B.returns
  have hts0 := atoms_spec (ws := wL_remove) B.pre
  have hts : ∀ w ∈ hn_tb, w.before _ s = true := fun w hw => hts0 w (List.mem_cons_of_mem _ hw)
  have hown : s.vm.findClass RL = some m.cls := findClass_of_methodNamed B.named
  have hlocks := B.notSynchronized
  have hl := lv_entry [.ref (ad 0), .int d9, .int n9, .ref ao] (n := 5) (Nat.le_of_ble_eq_true rfl)
  rw [lg_entry_eq]
  generalize (lg_sl [.ref (ad 0), .int d9, .int n9, .ref ao] ++ List.replicate (5 - (lg_sl [.ref (ad 0), .int d9, .int n9, .ref ao]).length) Slot.unset).toArray = ls at hl ⊢
  have hl : lv_has ls 5 [(0, .ref (ad 0)), (1, .int d9), (2, .int n9), (3, .ref ao)] := hl
  have htb := vx_table (x := yL_remove) B (hts0 (Cond.codeWith yL_remove cL_remove 5 (some .int) [(0, 10, 13, 13), (0, 10, 17, 15)]) List.mem_cons_self)
  refine lv_aload_n hx hb dL_remove_0 rfl (lv_at hl 3 rfl) ?_
  refine lv_iconst (v := 0) hx hb dL_remove_1 (by decide) ?_
  refine lv_aload_n hx hb dL_remove_2 rfl (lv_at hl 0 rfl) ?_
  refine lv_iload_n hx hb dL_remove_3 rfl (lv_at hl 1 rfl) ?_
  refine lv_iload_n hx hb dL_remove_4 rfl (lv_at hl 2 rfl) ?_
  have hPc := hP.sub (ws' := hn_wX ad cI σ) [0, 1, 2, 3, 4, 5, 6, 7, 8, 9] rfl
  have hDc := hD.sub (ws' := hn_wX ad cI σ) [0, 1, 2, 3, 4, 5, 6, 7, 8, 9] (by decide) rfl
  have hFc := va_free (wc := hn_wX ad cI σ) hD hS hA [0, 1, 2, 3, 4, 5, 6, 7, 8, 9] rfl
  refine vx_calli (vx_runV (As := [.int d9, .int n9]) (rest := [.int 0, .ref ao]) ⟨hx, hb, hml, hown, hts⟩ (cX_remove_ok l hl0 D cI cL z0 sa ad σ d9 n9 h D9 tn TK hXR hO _) (cwV 2 hts gL_X_remove rfl rfl rfl (by decide +kernel) ⟨(Nat.le_of_ble_eq_true rfl), (Nat.le_of_ble_eq_true rfl)⟩) (hn_preXV hPc hK (hDc.weaken (fun _ q _ h => hAz q.1 h)) hz0 hG hS hAz (ci := 0) (q0 := 0) rfl rfl) rfl rfl hl.1 rfl (lv_room (Nat.le_of_ble_eq_true rfl)) dL_remove_5 ⟨(Nat.le_of_ble_eq_true rfl), (Nat.le_of_ble_eq_true rfl)⟩) hS (fun q _ h => hFc q h) hFc (fun q _ h => hFc q h) (fun E ce q9 σ2 t8 H1 locs ht hvm hpx hBX hz1 hk1 hS hce hcv hcl => ?_) (fun r1 σ2 t8 H1 locs ht hvm hw hB hz1 hk1 hS => ?_)
  · obtain ⟨⟨c9, hx1, hx2, hx3⟩, hP1, hK1, hD1⟩ := hBX
    rw [ht] at hP1
    obtain ⟨hP, hD⟩ := va_join (wr := [(ao, .inl (cL, 1, .inr (.inl f)))]) (w1 := hn_wX ad cI σ2) hP hD [0, 1, 2, 3, 4, 5, 6, 7, 8, 9] [10] rfl rfl (by decide) (by decide) hk1 hFc hP1 hD1
    have hP := hP.sub (ws' := hn_wH ad cI σ2 ao cL f) [1, 2, 3, 4, 5, 6, 7, 8, 9, 10, 0] rfl
    have hD := hD.sub (ws' := hn_wH ad cI σ2 ao cL f) [1, 2, 3, 4, 5, 6, 7, 8, 9, 10, 0] (by decide) rfl
    rcases hx1 with ⟨rfl, rfl⟩ | ⟨rfl, rfl⟩
    · refine vx_catch (name := hn_xA) hown [] ⟨0, 10, 13, 13⟩ [⟨0, 10, 17, 15⟩] htb (fun z h => nomatch h) rfl (by decide) (hts _ mL_c_13) (va_tabs (hn_Bw_on _ hn_cA) rfl (hG.1 _ hn_cA)) hce hcv hcl ?_
      refine lv_astore (lv' := [(4, .ref q9), (0, .ref (ad 0)), (1, .int d9), (2, .int n9), (3, .ref ao)]) hx hb dL_remove_13 hl (by decide) rfl (fun ls hl => ?_)
      refine lv_iconst (v := 1) hx hb dL_remove_15 (by decide) ?_
      refine W.widen (k := 3) (n := 18) (Nat.le_of_ble_eq_true rfl) (Nat.le_of_ble_eq_true rfl) ?_
      exact W.iret (v := 1) hx hb hr (fun t9 ht9 hW9 => ⟨⟨1, (σ2, f), rfl, ⟨1, 0, D9, by decide, rfl, hx2, fun z => absurd z (by decide), hx3⟩, by rw [ht9]; exact hP, va_K.moved hW9.alike hK, hD⟩, hS.F ht9⟩) hS.2.2 dL_remove_16
    · refine vx_catch (name := hn_xS) hown [⟨0, 10, 13, 13⟩] ⟨0, 10, 17, 15⟩ [] htb (fun z h => Or.inr (by rw [List.mem_singleton.mp h]; exact ⟨by decide, hn_xA, hts _ mL_c_13, hNc⟩)) rfl (by decide) (hts _ mL_c_15) (va_tabs (hn_Bw_on _ hn_cS) rfl (hG.1 _ hn_cS)) hce hcv hcl ?_
      refine lv_astore (lv' := [(4, .ref q9), (0, .ref (ad 0)), (1, .int d9), (2, .int n9), (3, .ref ao)]) hx hb dL_remove_17 hl (by decide) rfl (fun ls hl => ?_)
      refine lv_iconst (v := 2) hx hb dL_remove_19 (by decide) ?_
      refine W.widen (k := 3) (n := 18) (Nat.le_of_ble_eq_true rfl) (Nat.le_of_ble_eq_true rfl) ?_
      exact W.iret (v := 2) hx hb hr (fun t9 ht9 hW9 => ⟨⟨2, (σ2, f), rfl, ⟨2, 0, D9, by decide, rfl, hx2, fun z => absurd z (by decide), hx3⟩, by rw [ht9]; exact hP, va_K.moved hW9.alike hK, hD⟩, hS.F ht9⟩) hS.2.2 dL_remove_20
  obtain ⟨hP1, hK1, hD1⟩ := hB
  rw [ht] at hP1
  obtain ⟨hP, hD⟩ := va_join (wr := [(ao, .inl (cL, 1, .inr (.inl f)))]) (w1 := hn_wX ad cI σ2) hP hD [0, 1, 2, 3, 4, 5, 6, 7, 8, 9] [10] rfl rfl (by decide) (by decide) hk1 hFc hP1 hD1
  have hP := hP.sub (ws' := hn_wH ad cI σ2 ao cL f) [1, 2, 3, 4, 5, 6, 7, 8, 9, 10, 0] rfl
  have hD := hD.sub (ws' := hn_wH ad cI σ2 ao cL f) [1, 2, 3, 4, 5, 6, 7, 8, 9, 10, 0] (by decide) rfl
  try dsimp only at hw
  refine lv_i2l hx hb dL_remove_8 rfl ?_
  refine va_last hx hb hK hP hD hS 10 1 rfl rfl (i := 0) (vp_in_nI (n := 0) (N := 1) (by omega) (by omega)) dL_remove_9 (fun H locs hP hD hS => ?_)
  obtain ⟨f2, ef2⟩ : ∃ z : Nat → Int64, z = vp_updL f 0 r1.toInt64 := ⟨_, rfl⟩
  have hf2 : f2 0 = r1.toInt64 := by rw [ef2]; exact if_pos rfl
  have hP : va_P D vwCl (hn_wH ad cI σ2 ao cL f2) H := by rw [ef2]; exact hP
  have hD : va_D A (hn_wH ad cI σ2 ao cL f2) := by rw [ef2]; exact hD
  refine lv_goto (tgt := 21) hx hb dL_remove_10 (by decide) ?_
  refine lv_iconst (v := 0) hx hb dL_remove_21 (by decide) ?_
  obtain ⟨D8, g1, g2⟩ := hw
  refine W.widen (k := 3) (n := 18) (Nat.le_of_ble_eq_true rfl) (Nat.le_of_ble_eq_true rfl) ?_
  exact W.iret (v := 0) hx hb hr (fun t9 ht9 hW9 => ⟨⟨0, (σ2, f2), rfl, ⟨0, r1, D8, by decide, rfl, g1, fun _ => hf2, g2⟩, by rw [ht9]; exact hP, va_K.moved hW9.alike hK, hD⟩, hS.F ht9⟩) hS.2.2 dL_remove_22

set_option maxHeartbeats 4000000 in
set_option maxRecDepth 100000 in
theorem cL_change_ok (l : Launch) (hl0 : l.stackTraces = false) (D : va_G) (cI cL : ClassId) (z0 : Nat) (sa : Nat → Nat) (ad : Nat → Nat) (σ : Nat → Nat → Int32) (ao : Nat) (f : Nat → Int64) (h : Nat → Nat) (D9 : Nat → List hn_E) (tn TK : Nat) (hXR : hn_XR σ h D9 tn TK) (hO : hn_DO D9) (d9 n9 x9 : Int32) (sz : Nat) : Met l yL_change wL_change ({ frames := 8, cells := 4, slots := 24, locals := 130 }) (hn_PH D (hn_ty cI cL) (hn_wH ad cI σ ao cL f) sz z0 sa [.ref (ad 0), .int d9, .int n9, .int x9, .ref ao]) (va_Qi (fun (r : Int32) (u : ((Nat → Nat → Int32) × (Nat → Int64))) => ∃ (c : Nat) (a : Int32) (D8 : Nat → List hn_E), c < 3 ∧ r = nI c ∧ hn_changeS h D9 d9 n9 x9 c a D8 ∧ (c = 0 → u.2 0 = a.toInt64) ∧ hn_XR u.1 h D8 tn TK) (fun (u : ((Nat → Nat → Int32) × (Nat → Int64))) t => hn_at D (hn_ty cI cL) (va_A (hn_wH ad cI σ ao cL f) sz) (hn_wH ad cI u.1 ao cL u.2) t) (va_A (hn_wH ad cI σ ao cL f) sz)) 4 24 (va_A (hn_wH ad cI σ ao cL f) sz) := by
  refine va_MetW (cc := cL_change) (maxL := 6) (ret := (some .int)) (hh := [(0, 12, 15, 13), (0, 12, 19, 15)]) (by decide) rfl ?_
  intro p e s m args below meth c s₁ B hml hv
  obtain ⟨⟨rfl, hsz, hP, hK, hD0, hz0, hG⟩, hNc⟩ := hv
  subst hsz
  have hD := hD0.self (sz := s.heap.size)
  have hAz := hn_Az hD0 hz0
  generalize hAe : va_A (hn_wH ad cI σ ao cL f) s.heap.size = A at hD hAz ⊢
  have hA : ∀ q : Nat, s.heap.size ≤ q → A q := fun q h => by rw [← hAe]; exact Or.inr h
  have hS : va_S A s.heap s.heap [] := va_S.rf
  have hP : va_P D vwCl (hn_wH ad cI σ ao cL f) s.heap := hP
  have hx := B.exec
  have hb := B.bytes
  have hr := B.returns
  have hts0 := atoms_spec (ws := wL_change) B.pre
  have hts : ∀ w ∈ hn_tb, w.before _ s = true := fun w hw => hts0 w (List.mem_cons_of_mem _ hw)
  have hown : s.vm.findClass RL = some m.cls := findClass_of_methodNamed B.named
  have hlocks := B.notSynchronized
  have hl := lv_entry [.ref (ad 0), .int d9, .int n9, .int x9, .ref ao] (n := 6) (Nat.le_of_ble_eq_true rfl)
  rw [lg_entry_eq]
  generalize (lg_sl [.ref (ad 0), .int d9, .int n9, .int x9, .ref ao] ++ List.replicate (6 - (lg_sl [.ref (ad 0), .int d9, .int n9, .int x9, .ref ao]).length) Slot.unset).toArray = ls at hl ⊢
  have hl : lv_has ls 6 [(0, .ref (ad 0)), (1, .int d9), (2, .int n9), (3, .int x9), (4, .ref ao)] := hl
  have htb := vx_table (x := yL_change) B (hts0 (Cond.codeWith yL_change cL_change 6 (some .int) [(0, 12, 15, 13), (0, 12, 19, 15)]) List.mem_cons_self)
  refine lv_aload hx hb dL_change_0 (lv_at hl 4 rfl) ?_
  refine lv_iconst (v := 0) hx hb dL_change_2 (by decide) ?_
  refine lv_aload_n hx hb dL_change_3 rfl (lv_at hl 0 rfl) ?_
  refine lv_iload_n hx hb dL_change_4 rfl (lv_at hl 1 rfl) ?_
  refine lv_iload_n hx hb dL_change_5 rfl (lv_at hl 2 rfl) ?_
  refine lv_iload_n hx hb dL_change_6 rfl (lv_at hl 3 rfl) ?_
  have hPc := hP.sub (ws' := hn_wX ad cI σ) [0, 1, 2, 3, 4, 5, 6, 7, 8, 9] rfl
  have hDc := hD.sub (ws' := hn_wX ad cI σ) [0, 1, 2, 3, 4, 5, 6, 7, 8, 9] (by decide) rfl
  have hFc := va_free (wc := hn_wX ad cI σ) hD hS hA [0, 1, 2, 3, 4, 5, 6, 7, 8, 9] rfl
  refine vx_calli (vx_runV (As := [.int d9, .int n9, .int x9]) (rest := [.int 0, .ref ao]) ⟨hx, hb, hml, hown, hts⟩ (cX_change_ok l hl0 D cI cL z0 sa ad σ d9 n9 x9 h D9 tn TK hXR hO _) (cwV 3 hts gL_X_change rfl rfl rfl (by decide +kernel) ⟨(Nat.le_of_ble_eq_true rfl), (Nat.le_of_ble_eq_true rfl)⟩) (hn_preXV hPc hK (hDc.weaken (fun _ q _ h => hAz q.1 h)) hz0 hG hS hAz (ci := 0) (q0 := 0) rfl rfl) rfl rfl hl.1 rfl (lv_room (Nat.le_of_ble_eq_true rfl)) dL_change_7 ⟨(Nat.le_of_ble_eq_true rfl), (Nat.le_of_ble_eq_true rfl)⟩) hS (fun q _ h => hFc q h) hFc (fun q _ h => hFc q h) (fun E ce q9 σ2 t8 H1 locs ht hvm hpx hBX hz1 hk1 hS hce hcv hcl => ?_) (fun r1 σ2 t8 H1 locs ht hvm hw hB hz1 hk1 hS => ?_)
  · obtain ⟨⟨c9, hx1, hx2, hx3⟩, hP1, hK1, hD1⟩ := hBX
    rw [ht] at hP1
    obtain ⟨hP, hD⟩ := va_join (wr := [(ao, .inl (cL, 1, .inr (.inl f)))]) (w1 := hn_wX ad cI σ2) hP hD [0, 1, 2, 3, 4, 5, 6, 7, 8, 9] [10] rfl rfl (by decide) (by decide) hk1 hFc hP1 hD1
    have hP := hP.sub (ws' := hn_wH ad cI σ2 ao cL f) [1, 2, 3, 4, 5, 6, 7, 8, 9, 10, 0] rfl
    have hD := hD.sub (ws' := hn_wH ad cI σ2 ao cL f) [1, 2, 3, 4, 5, 6, 7, 8, 9, 10, 0] (by decide) rfl
    rcases hx1 with ⟨rfl, rfl⟩ | ⟨rfl, rfl⟩
    · refine vx_catch (name := hn_xA) hown [] ⟨0, 12, 15, 13⟩ [⟨0, 12, 19, 15⟩] htb (fun z h => nomatch h) rfl (by decide) (hts _ mL_c_13) (va_tabs (hn_Bw_on _ hn_cA) rfl (hG.1 _ hn_cA)) hce hcv hcl ?_
      refine lv_astore (lv' := [(5, .ref q9), (0, .ref (ad 0)), (1, .int d9), (2, .int n9), (3, .int x9), (4, .ref ao)]) hx hb dL_change_15 hl (by decide) rfl (fun ls hl => ?_)
      refine lv_iconst (v := 1) hx hb dL_change_17 (by decide) ?_
      refine W.widen (k := 4) (n := 24) (Nat.le_of_ble_eq_true rfl) (Nat.le_of_ble_eq_true rfl) ?_
      exact W.iret (v := 1) hx hb hr (fun t9 ht9 hW9 => ⟨⟨1, (σ2, f), rfl, ⟨1, 0, D9, by decide, rfl, hx2, fun z => absurd z (by decide), hx3⟩, by rw [ht9]; exact hP, va_K.moved hW9.alike hK, hD⟩, hS.F ht9⟩) hS.2.2 dL_change_18
    · refine vx_catch (name := hn_xS) hown [⟨0, 12, 15, 13⟩] ⟨0, 12, 19, 15⟩ [] htb (fun z h => Or.inr (by rw [List.mem_singleton.mp h]; exact ⟨by decide, hn_xA, hts _ mL_c_13, hNc⟩)) rfl (by decide) (hts _ mL_c_15) (va_tabs (hn_Bw_on _ hn_cS) rfl (hG.1 _ hn_cS)) hce hcv hcl ?_
      refine lv_astore (lv' := [(5, .ref q9), (0, .ref (ad 0)), (1, .int d9), (2, .int n9), (3, .int x9), (4, .ref ao)]) hx hb dL_change_19 hl (by decide) rfl (fun ls hl => ?_)
      refine lv_iconst (v := 2) hx hb dL_change_21 (by decide) ?_
      refine W.widen (k := 4) (n := 24) (Nat.le_of_ble_eq_true rfl) (Nat.le_of_ble_eq_true rfl) ?_
      exact W.iret (v := 2) hx hb hr (fun t9 ht9 hW9 => ⟨⟨2, (σ2, f), rfl, ⟨2, 0, D9, by decide, rfl, hx2, fun z => absurd z (by decide), hx3⟩, by rw [ht9]; exact hP, va_K.moved hW9.alike hK, hD⟩, hS.F ht9⟩) hS.2.2 dL_change_22
  obtain ⟨hP1, hK1, hD1⟩ := hB
  rw [ht] at hP1
  obtain ⟨hP, hD⟩ := va_join (wr := [(ao, .inl (cL, 1, .inr (.inl f)))]) (w1 := hn_wX ad cI σ2) hP hD [0, 1, 2, 3, 4, 5, 6, 7, 8, 9] [10] rfl rfl (by decide) (by decide) hk1 hFc hP1 hD1
  have hP := hP.sub (ws' := hn_wH ad cI σ2 ao cL f) [1, 2, 3, 4, 5, 6, 7, 8, 9, 10, 0] rfl
  have hD := hD.sub (ws' := hn_wH ad cI σ2 ao cL f) [1, 2, 3, 4, 5, 6, 7, 8, 9, 10, 0] (by decide) rfl
  try dsimp only at hw
  refine lv_i2l hx hb dL_change_10 rfl ?_
  refine va_last hx hb hK hP hD hS 10 1 rfl rfl (i := 0) (vp_in_nI (n := 0) (N := 1) (by omega) (by omega)) dL_change_11 (fun H locs hP hD hS => ?_)
  obtain ⟨f2, ef2⟩ : ∃ z : Nat → Int64, z = vp_updL f 0 r1.toInt64 := ⟨_, rfl⟩
  have hf2 : f2 0 = r1.toInt64 := by rw [ef2]; exact if_pos rfl
  have hP : va_P D vwCl (hn_wH ad cI σ2 ao cL f2) H := by rw [ef2]; exact hP
  have hD : va_D A (hn_wH ad cI σ2 ao cL f2) := by rw [ef2]; exact hD
  refine lv_goto (tgt := 23) hx hb dL_change_12 (by decide) ?_
  refine lv_iconst (v := 0) hx hb dL_change_23 (by decide) ?_
  obtain ⟨D8, g1, g2⟩ := hw
  refine W.widen (k := 4) (n := 24) (Nat.le_of_ble_eq_true rfl) (Nat.le_of_ble_eq_true rfl) ?_
  exact W.iret (v := 0) hx hb hr (fun t9 ht9 hW9 => ⟨⟨0, (σ2, f2), rfl, ⟨0, r1, D8, by decide, rfl, g1, fun _ => hf2, g2⟩, by rw [ht9]; exact hP, va_K.moved hW9.alike hK, hD⟩, hS.F ht9⟩) hS.2.2 dL_change_24

set_option maxHeartbeats 4000000 in
set_option maxRecDepth 100000 in
theorem cL_size_ok (l : Launch) (hl0 : l.stackTraces = false) (D : va_G) (cI cL : ClassId) (z0 : Nat) (sa : Nat → Nat) (ad : Nat → Nat) (σ : Nat → Nat → Int32) (ao : Nat) (f : Nat → Int64) (h : Nat → Nat) (D9 : Nat → List hn_E) (tn TK : Nat) (hXR : hn_XR σ h D9 tn TK) (hO : hn_DO D9) (d9 : Int32) (sz : Nat) : Met l yL_size wL_size ({ frames := 8, cells := 1, slots := 6, locals := 123 }) (hn_PH D (hn_ty cI cL) (hn_wH ad cI σ ao cL f) sz z0 sa [.ref (ad 0), .int d9, .ref ao]) (va_Qi (fun (r : Int32) (u : ((Nat → Nat → Int32) × (Nat → Int64))) => ∃ (c : Nat) (a : Int32) , c < 3 ∧ r = nI c ∧ hn_sizeS D9 d9 c a ∧ (c = 0 → u.2 0 = a.toInt64) ∧ hn_XR u.1 h D9 tn TK) (fun (u : ((Nat → Nat → Int32) × (Nat → Int64))) t => hn_at D (hn_ty cI cL) (va_A (hn_wH ad cI σ ao cL f) sz) (hn_wH ad cI u.1 ao cL u.2) t) (va_A (hn_wH ad cI σ ao cL f) sz)) 1 6 (va_A (hn_wH ad cI σ ao cL f) sz) := by
  refine va_MetW (cc := cL_size) (maxL := 4) (ret := (some .int)) (hh := [(0, 9, 12, 13)]) (by decide) rfl ?_
  intro p e s m args below meth c s₁ B hml hv
  obtain ⟨⟨rfl, hsz, hP, hK, hD0, hz0, hG⟩, hNc⟩ := hv
  subst hsz
  have hD := hD0.self (sz := s.heap.size)
  have hAz := hn_Az hD0 hz0
  generalize hAe : va_A (hn_wH ad cI σ ao cL f) s.heap.size = A at hD hAz ⊢
  have hA : ∀ q : Nat, s.heap.size ≤ q → A q := fun q h => by rw [← hAe]; exact Or.inr h
  have hS : va_S A s.heap s.heap [] := va_S.rf
  have hP : va_P D vwCl (hn_wH ad cI σ ao cL f) s.heap := hP
  have hx := B.exec
  have hb := B.bytes
  have hr := B.returns
  have hts0 := atoms_spec (ws := wL_size) B.pre
  have hts : ∀ w ∈ hn_tb, w.before _ s = true := fun w hw => hts0 w (List.mem_cons_of_mem _ hw)
  have hown : s.vm.findClass RL = some m.cls := findClass_of_methodNamed B.named
  have hlocks := B.notSynchronized
  have hl := lv_entry [.ref (ad 0), .int d9, .ref ao] (n := 4) (Nat.le_of_ble_eq_true rfl)
  rw [lg_entry_eq]
  generalize (lg_sl [.ref (ad 0), .int d9, .ref ao] ++ List.replicate (4 - (lg_sl [.ref (ad 0), .int d9, .ref ao]).length) Slot.unset).toArray = ls at hl ⊢
  have hl : lv_has ls 4 [(0, .ref (ad 0)), (1, .int d9), (2, .ref ao)] := hl
  have htb := vx_table (x := yL_size) B (hts0 (Cond.codeWith yL_size cL_size 4 (some .int) [(0, 9, 12, 13)]) List.mem_cons_self)
  refine lv_aload_n hx hb dL_size_0 rfl (lv_at hl 2 rfl) ?_
  refine lv_iconst (v := 0) hx hb dL_size_1 (by decide) ?_
  refine lv_aload_n hx hb dL_size_2 rfl (lv_at hl 0 rfl) ?_
  refine lv_iload_n hx hb dL_size_3 rfl (lv_at hl 1 rfl) ?_
  have hPc := hP.sub (ws' := hn_wX ad cI σ) [0, 1, 2, 3, 4, 5, 6, 7, 8, 9] rfl
  have hDc := hD.sub (ws' := hn_wX ad cI σ) [0, 1, 2, 3, 4, 5, 6, 7, 8, 9] (by decide) rfl
  have hFc := va_free (wc := hn_wX ad cI σ) hD hS hA [0, 1, 2, 3, 4, 5, 6, 7, 8, 9] rfl
  refine vx_calli (vx_runV (As := [.int d9]) (rest := [.int 0, .ref ao]) ⟨hx, hb, hml, hown, hts⟩ (cX_size_ok l hl0 D cI cL z0 sa ad σ d9 h D9 tn TK hXR hO _) (cwV 1 hts gL_X_size rfl rfl rfl (by decide +kernel) ⟨(Nat.le_of_ble_eq_true rfl), (Nat.le_of_ble_eq_true rfl)⟩) (hn_preXV hPc hK (hDc.weaken (fun _ q _ h => hAz q.1 h)) hz0 hG hS hAz (ci := 0) (q0 := 0) rfl rfl) rfl rfl hl.1 rfl (lv_room (Nat.le_of_ble_eq_true rfl)) dL_size_4 ⟨(Nat.le_of_ble_eq_true rfl), (Nat.le_of_ble_eq_true rfl)⟩) hS (fun q _ h => hFc q h) hFc (fun q _ h => hFc q h) (fun E ce q9 σ2 t8 H1 locs ht hvm hpx hBX hz1 hk1 hS hce hcv hcl => ?_) (fun r1 σ2 t8 H1 locs ht hvm hw hB hz1 hk1 hS => ?_)
  · obtain ⟨⟨c9, hx1, hx2, hx3⟩, hP1, hK1, hD1⟩ := hBX
    rw [ht] at hP1
    obtain ⟨hP, hD⟩ := va_join (wr := [(ao, .inl (cL, 1, .inr (.inl f)))]) (w1 := hn_wX ad cI σ2) hP hD [0, 1, 2, 3, 4, 5, 6, 7, 8, 9] [10] rfl rfl (by decide) (by decide) hk1 hFc hP1 hD1
    have hP := hP.sub (ws' := hn_wH ad cI σ2 ao cL f) [1, 2, 3, 4, 5, 6, 7, 8, 9, 10, 0] rfl
    have hD := hD.sub (ws' := hn_wH ad cI σ2 ao cL f) [1, 2, 3, 4, 5, 6, 7, 8, 9, 10, 0] (by decide) rfl
    rcases hx1 with ⟨rfl, rfl⟩ | ⟨rfl, rfl⟩
    · refine vx_catch (name := hn_xA) hown [] ⟨0, 9, 12, 13⟩ [] htb (fun z h => nomatch h) rfl (by decide) (hts _ mL_c_13) (va_tabs (hn_Bw_on _ hn_cA) rfl (hG.1 _ hn_cA)) hce hcv hcl ?_
      refine lv_astore_n (lv' := [(3, .ref q9), (0, .ref (ad 0)), (1, .int d9), (2, .ref ao)]) hx hb dL_size_12 rfl hl (by decide) rfl (fun ls hl => ?_)
      refine lv_iconst (v := 1) hx hb dL_size_13 (by decide) ?_
      refine W.widen (k := 1) (n := 6) (Nat.le_of_ble_eq_true rfl) (Nat.le_of_ble_eq_true rfl) ?_
      exact W.iret (v := 1) hx hb hr (fun t9 ht9 hW9 => ⟨⟨1, (σ2, f), rfl, ⟨1, 0, by decide, rfl, hx2, fun z => absurd z (by decide), hx3⟩, by rw [ht9]; exact hP, va_K.moved hW9.alike hK, hD⟩, hS.F ht9⟩) hS.2.2 dL_size_14
    · exact (hn_size_2 hx2).elim
  obtain ⟨hP1, hK1, hD1⟩ := hB
  rw [ht] at hP1
  obtain ⟨hP, hD⟩ := va_join (wr := [(ao, .inl (cL, 1, .inr (.inl f)))]) (w1 := hn_wX ad cI σ2) hP hD [0, 1, 2, 3, 4, 5, 6, 7, 8, 9] [10] rfl rfl (by decide) (by decide) hk1 hFc hP1 hD1
  have hP := hP.sub (ws' := hn_wH ad cI σ2 ao cL f) [1, 2, 3, 4, 5, 6, 7, 8, 9, 10, 0] rfl
  have hD := hD.sub (ws' := hn_wH ad cI σ2 ao cL f) [1, 2, 3, 4, 5, 6, 7, 8, 9, 10, 0] (by decide) rfl
  try dsimp only at hw
  refine lv_i2l hx hb dL_size_7 rfl ?_
  refine va_last hx hb hK hP hD hS 10 1 rfl rfl (i := 0) (vp_in_nI (n := 0) (N := 1) (by omega) (by omega)) dL_size_8 (fun H locs hP hD hS => ?_)
  obtain ⟨f2, ef2⟩ : ∃ z : Nat → Int64, z = vp_updL f 0 r1.toInt64 := ⟨_, rfl⟩
  have hf2 : f2 0 = r1.toInt64 := by rw [ef2]; exact if_pos rfl
  have hP : va_P D vwCl (hn_wH ad cI σ2 ao cL f2) H := by rw [ef2]; exact hP
  have hD : va_D A (hn_wH ad cI σ2 ao cL f2) := by rw [ef2]; exact hD
  refine lv_goto (tgt := 15) hx hb dL_size_9 (by decide) ?_
  refine lv_iconst (v := 0) hx hb dL_size_15 (by decide) ?_
  obtain ⟨g1, g2⟩ := hw
  refine W.widen (k := 1) (n := 6) (Nat.le_of_ble_eq_true rfl) (Nat.le_of_ble_eq_true rfl) ?_
  exact W.iret (v := 0) hx hb hr (fun t9 ht9 hW9 => ⟨⟨0, (σ2, f2), rfl, ⟨0, r1, by decide, rfl, g1, fun _ => hf2, g2⟩, by rw [ht9]; exact hP, va_K.moved hW9.alike hK, hD⟩, hS.F ht9⟩) hS.2.2 dL_size_16

set_option maxHeartbeats 4000000 in
set_option maxRecDepth 100000 in
theorem cL_nth_ok (l : Launch) (hl0 : l.stackTraces = false) (D : va_G) (cI cL : ClassId) (z0 : Nat) (sa : Nat → Nat) (ad : Nat → Nat) (σ : Nat → Nat → Int32) (ao : Nat) (f : Nat → Int64) (h : Nat → Nat) (D9 : Nat → List hn_E) (tn TK : Nat) (hXR : hn_XR σ h D9 tn TK) (hO : hn_DO D9) (d9 k9 : Int32) (sz : Nat) : Met l yL_nth wL_nth ({ frames := 8, cells := 2, slots := 12, locals := 126 }) (hn_PH D (hn_ty cI cL) (hn_wH ad cI σ ao cL f) sz z0 sa [.ref (ad 0), .int d9, .int k9, .ref ao]) (va_Qi (fun (r : Int32) (u : ((Nat → Nat → Int32) × (Nat → Int64))) => ∃ (c : Nat) (a : Int32) (t8 T8 : Nat), c < 3 ∧ r = nI c ∧ hn_nthS D9 tn TK d9 k9 c a t8 T8 ∧ (c = 0 → u.2 0 = a.toInt64) ∧ hn_XR u.1 h D9 t8 T8) (fun (u : ((Nat → Nat → Int32) × (Nat → Int64))) t => hn_at D (hn_ty cI cL) (va_A (hn_wH ad cI σ ao cL f) sz) (hn_wH ad cI u.1 ao cL u.2) t) (va_A (hn_wH ad cI σ ao cL f) sz)) 2 12 (va_A (hn_wH ad cI σ ao cL f) sz) := by
  refine va_MetW (cc := cL_nth) (maxL := 5) (ret := (some .int)) (hh := [(0, 10, 13, 13)]) (by decide) rfl ?_
  intro p e s m args below meth c s₁ B hml hv
  obtain ⟨⟨rfl, hsz, hP, hK, hD0, hz0, hG⟩, hNc⟩ := hv
  subst hsz
  have hD := hD0.self (sz := s.heap.size)
  have hAz := hn_Az hD0 hz0
  generalize hAe : va_A (hn_wH ad cI σ ao cL f) s.heap.size = A at hD hAz ⊢
  have hA : ∀ q : Nat, s.heap.size ≤ q → A q := fun q h => by rw [← hAe]; exact Or.inr h
  have hS : va_S A s.heap s.heap [] := va_S.rf
  have hP : va_P D vwCl (hn_wH ad cI σ ao cL f) s.heap := hP
  have hx := B.exec
  have hb := B.bytes
  have hr := B.returns
  have hts0 := atoms_spec (ws := wL_nth) B.pre
  have hts : ∀ w ∈ hn_tb, w.before _ s = true := fun w hw => hts0 w (List.mem_cons_of_mem _ hw)
  have hown : s.vm.findClass RL = some m.cls := findClass_of_methodNamed B.named
  have hlocks := B.notSynchronized
  have hl := lv_entry [.ref (ad 0), .int d9, .int k9, .ref ao] (n := 5) (Nat.le_of_ble_eq_true rfl)
  rw [lg_entry_eq]
  generalize (lg_sl [.ref (ad 0), .int d9, .int k9, .ref ao] ++ List.replicate (5 - (lg_sl [.ref (ad 0), .int d9, .int k9, .ref ao]).length) Slot.unset).toArray = ls at hl ⊢
  have hl : lv_has ls 5 [(0, .ref (ad 0)), (1, .int d9), (2, .int k9), (3, .ref ao)] := hl
  have htb := vx_table (x := yL_nth) B (hts0 (Cond.codeWith yL_nth cL_nth 5 (some .int) [(0, 10, 13, 13)]) List.mem_cons_self)
  refine lv_aload_n hx hb dL_nth_0 rfl (lv_at hl 3 rfl) ?_
  refine lv_iconst (v := 0) hx hb dL_nth_1 (by decide) ?_
  refine lv_aload_n hx hb dL_nth_2 rfl (lv_at hl 0 rfl) ?_
  refine lv_iload_n hx hb dL_nth_3 rfl (lv_at hl 1 rfl) ?_
  refine lv_iload_n hx hb dL_nth_4 rfl (lv_at hl 2 rfl) ?_
  have hPc := hP.sub (ws' := hn_wX ad cI σ) [0, 1, 2, 3, 4, 5, 6, 7, 8, 9] rfl
  have hDc := hD.sub (ws' := hn_wX ad cI σ) [0, 1, 2, 3, 4, 5, 6, 7, 8, 9] (by decide) rfl
  have hFc := va_free (wc := hn_wX ad cI σ) hD hS hA [0, 1, 2, 3, 4, 5, 6, 7, 8, 9] rfl
  refine vx_calli (vx_runV (As := [.int d9, .int k9]) (rest := [.int 0, .ref ao]) ⟨hx, hb, hml, hown, hts⟩ (cX_nth_ok l hl0 D cI cL z0 sa ad σ d9 k9 h D9 tn TK hXR hO _) (cwV 2 hts gL_X_nth rfl rfl rfl (by decide +kernel) ⟨(Nat.le_of_ble_eq_true rfl), (Nat.le_of_ble_eq_true rfl)⟩) (hn_preXV hPc hK (hDc.weaken (fun _ q _ h => hAz q.1 h)) hz0 hG hS hAz (ci := 0) (q0 := 0) rfl rfl) rfl rfl hl.1 rfl (lv_room (Nat.le_of_ble_eq_true rfl)) dL_nth_5 ⟨(Nat.le_of_ble_eq_true rfl), (Nat.le_of_ble_eq_true rfl)⟩) hS (fun q _ h => hFc q h) hFc (fun q _ h => hFc q h) (fun E ce q9 σ2 t8 H1 locs ht hvm hpx hBX hz1 hk1 hS hce hcv hcl => ?_) (fun r1 σ2 t8 H1 locs ht hvm hw hB hz1 hk1 hS => ?_)
  · obtain ⟨⟨c9, hx1, hx2, hx3⟩, hP1, hK1, hD1⟩ := hBX
    rw [ht] at hP1
    obtain ⟨hP, hD⟩ := va_join (wr := [(ao, .inl (cL, 1, .inr (.inl f)))]) (w1 := hn_wX ad cI σ2) hP hD [0, 1, 2, 3, 4, 5, 6, 7, 8, 9] [10] rfl rfl (by decide) (by decide) hk1 hFc hP1 hD1
    have hP := hP.sub (ws' := hn_wH ad cI σ2 ao cL f) [1, 2, 3, 4, 5, 6, 7, 8, 9, 10, 0] rfl
    have hD := hD.sub (ws' := hn_wH ad cI σ2 ao cL f) [1, 2, 3, 4, 5, 6, 7, 8, 9, 10, 0] (by decide) rfl
    rcases hx1 with ⟨rfl, rfl⟩ | ⟨rfl, rfl⟩
    · refine vx_catch (name := hn_xA) hown [] ⟨0, 10, 13, 13⟩ [] htb (fun z h => nomatch h) rfl (by decide) (hts _ mL_c_13) (va_tabs (hn_Bw_on _ hn_cA) rfl (hG.1 _ hn_cA)) hce hcv hcl ?_
      refine lv_astore (lv' := [(4, .ref q9), (0, .ref (ad 0)), (1, .int d9), (2, .int k9), (3, .ref ao)]) hx hb dL_nth_13 hl (by decide) rfl (fun ls hl => ?_)
      refine lv_iconst (v := 1) hx hb dL_nth_15 (by decide) ?_
      refine W.widen (k := 2) (n := 12) (Nat.le_of_ble_eq_true rfl) (Nat.le_of_ble_eq_true rfl) ?_
      exact W.iret (v := 1) hx hb hr (fun t9 ht9 hW9 => ⟨⟨1, (σ2, f), rfl, ⟨1, 0, tn, TK, by decide, rfl, hx2, fun z => absurd z (by decide), hx3⟩, by rw [ht9]; exact hP, va_K.moved hW9.alike hK, hD⟩, hS.F ht9⟩) hS.2.2 dL_nth_16
    · exact (hn_nth_2 hx2).elim
  obtain ⟨hP1, hK1, hD1⟩ := hB
  rw [ht] at hP1
  obtain ⟨hP, hD⟩ := va_join (wr := [(ao, .inl (cL, 1, .inr (.inl f)))]) (w1 := hn_wX ad cI σ2) hP hD [0, 1, 2, 3, 4, 5, 6, 7, 8, 9] [10] rfl rfl (by decide) (by decide) hk1 hFc hP1 hD1
  have hP := hP.sub (ws' := hn_wH ad cI σ2 ao cL f) [1, 2, 3, 4, 5, 6, 7, 8, 9, 10, 0] rfl
  have hD := hD.sub (ws' := hn_wH ad cI σ2 ao cL f) [1, 2, 3, 4, 5, 6, 7, 8, 9, 10, 0] (by decide) rfl
  try dsimp only at hw
  refine lv_i2l hx hb dL_nth_8 rfl ?_
  refine va_last hx hb hK hP hD hS 10 1 rfl rfl (i := 0) (vp_in_nI (n := 0) (N := 1) (by omega) (by omega)) dL_nth_9 (fun H locs hP hD hS => ?_)
  obtain ⟨f2, ef2⟩ : ∃ z : Nat → Int64, z = vp_updL f 0 r1.toInt64 := ⟨_, rfl⟩
  have hf2 : f2 0 = r1.toInt64 := by rw [ef2]; exact if_pos rfl
  have hP : va_P D vwCl (hn_wH ad cI σ2 ao cL f2) H := by rw [ef2]; exact hP
  have hD : va_D A (hn_wH ad cI σ2 ao cL f2) := by rw [ef2]; exact hD
  refine lv_goto (tgt := 17) hx hb dL_nth_10 (by decide) ?_
  refine lv_iconst (v := 0) hx hb dL_nth_17 (by decide) ?_
  obtain ⟨t8, T8, g1, g2⟩ := hw
  refine W.widen (k := 2) (n := 12) (Nat.le_of_ble_eq_true rfl) (Nat.le_of_ble_eq_true rfl) ?_
  exact W.iret (v := 0) hx hb hr (fun t9 ht9 hW9 => ⟨⟨0, (σ2, f2), rfl, ⟨0, r1, t8, T8, by decide, rfl, g1, fun _ => hf2, g2⟩, by rw [ht9]; exact hP, va_K.moved hW9.alike hK, hD⟩, hS.F ht9⟩) hS.2.2 dL_nth_18

set_option maxHeartbeats 4000000 in
set_option maxRecDepth 100000 in
theorem cL_byteAt_ok (l : Launch) (hl0 : l.stackTraces = false) (D : va_G) (cI cL : ClassId) (z0 : Nat) (sa : Nat → Nat) (ad : Nat → Nat) (σ : Nat → Nat → Int32) (ao : Nat) (f : Nat → Int64) (h : Nat → Nat) (D9 : Nat → List hn_E) (tn TK : Nat) (hXR : hn_XR σ h D9 tn TK) (hO : hn_DO D9) (i9 : Int32) (sz : Nat) : Met l yL_byteAt wL_byteAt ({ frames := 7, cells := 1, slots := 6, locals := 103 }) (hn_PH D (hn_ty cI cL) (hn_wH ad cI σ ao cL f) sz z0 sa [.ref (ad 0), .int i9, .ref ao]) (va_Qi (fun (r : Int32) (u : ((Nat → Nat → Int32) × (Nat → Int64))) => ∃ (c : Nat) (a : Int32) , c < 3 ∧ r = nI c ∧ hn_byteS tn TK i9 c a ∧ (c = 0 → u.2 0 = a.toInt64) ∧ hn_XR u.1 h D9 tn TK) (fun (u : ((Nat → Nat → Int32) × (Nat → Int64))) t => hn_at D (hn_ty cI cL) (va_A (hn_wH ad cI σ ao cL f) sz) (hn_wH ad cI u.1 ao cL u.2) t) (va_A (hn_wH ad cI σ ao cL f) sz)) 1 6 (va_A (hn_wH ad cI σ ao cL f) sz) := by
  refine va_MetW (cc := cL_byteAt) (maxL := 4) (ret := (some .int)) (hh := [(0, 9, 12, 13)]) (by decide) rfl ?_
  intro p e s m args below meth c s₁ B hml hv
  obtain ⟨⟨rfl, hsz, hP, hK, hD0, hz0, hG⟩, hNc⟩ := hv
  subst hsz
  have hD := hD0.self (sz := s.heap.size)
  have hAz := hn_Az hD0 hz0
  generalize hAe : va_A (hn_wH ad cI σ ao cL f) s.heap.size = A at hD hAz ⊢
  have hA : ∀ q : Nat, s.heap.size ≤ q → A q := fun q h => by rw [← hAe]; exact Or.inr h
  have hS : va_S A s.heap s.heap [] := va_S.rf
  have hP : va_P D vwCl (hn_wH ad cI σ ao cL f) s.heap := hP
  have hx := B.exec
  have hb := B.bytes
  have hr := B.returns
  have hts0 := atoms_spec (ws := wL_byteAt) B.pre
  have hts : ∀ w ∈ hn_tb, w.before _ s = true := fun w hw => hts0 w (List.mem_cons_of_mem _ hw)
  have hown : s.vm.findClass RL = some m.cls := findClass_of_methodNamed B.named
  have hlocks := B.notSynchronized
  have hl := lv_entry [.ref (ad 0), .int i9, .ref ao] (n := 4) (Nat.le_of_ble_eq_true rfl)
  rw [lg_entry_eq]
  generalize (lg_sl [.ref (ad 0), .int i9, .ref ao] ++ List.replicate (4 - (lg_sl [.ref (ad 0), .int i9, .ref ao]).length) Slot.unset).toArray = ls at hl ⊢
  have hl : lv_has ls 4 [(0, .ref (ad 0)), (1, .int i9), (2, .ref ao)] := hl
  have htb := vx_table (x := yL_byteAt) B (hts0 (Cond.codeWith yL_byteAt cL_byteAt 4 (some .int) [(0, 9, 12, 13)]) List.mem_cons_self)
  refine lv_aload_n hx hb dL_byteAt_0 rfl (lv_at hl 2 rfl) ?_
  refine lv_iconst (v := 0) hx hb dL_byteAt_1 (by decide) ?_
  refine lv_aload_n hx hb dL_byteAt_2 rfl (lv_at hl 0 rfl) ?_
  refine lv_iload_n hx hb dL_byteAt_3 rfl (lv_at hl 1 rfl) ?_
  have hPc := hP.sub (ws' := hn_wX ad cI σ) [0, 1, 2, 3, 4, 5, 6, 7, 8, 9] rfl
  have hDc := hD.sub (ws' := hn_wX ad cI σ) [0, 1, 2, 3, 4, 5, 6, 7, 8, 9] (by decide) rfl
  have hFc := va_free (wc := hn_wX ad cI σ) hD hS hA [0, 1, 2, 3, 4, 5, 6, 7, 8, 9] rfl
  refine vx_calli (vx_runV (As := [.int i9]) (rest := [.int 0, .ref ao]) ⟨hx, hb, hml, hown, hts⟩ (cX_byteAt_ok l hl0 D cI cL z0 sa ad σ i9 h D9 tn TK hXR hO _) (cwV 1 hts gL_X_byteAt rfl rfl rfl (by decide +kernel) ⟨(Nat.le_of_ble_eq_true rfl), (Nat.le_of_ble_eq_true rfl)⟩) (hn_preXV hPc hK (hDc.weaken (fun _ q _ h => hAz q.1 h)) hz0 hG hS hAz (ci := 0) (q0 := 0) rfl rfl) rfl rfl hl.1 rfl (lv_room (Nat.le_of_ble_eq_true rfl)) dL_byteAt_4 ⟨(Nat.le_of_ble_eq_true rfl), (Nat.le_of_ble_eq_true rfl)⟩) hS (fun q _ h => hFc q h) hFc (fun q _ h => hFc q h) (fun E ce q9 σ2 t8 H1 locs ht hvm hpx hBX hz1 hk1 hS hce hcv hcl => ?_) (fun r1 σ2 t8 H1 locs ht hvm hw hB hz1 hk1 hS => ?_)
  · obtain ⟨⟨c9, hx1, hx2, hx3⟩, hP1, hK1, hD1⟩ := hBX
    rw [ht] at hP1
    obtain ⟨hP, hD⟩ := va_join (wr := [(ao, .inl (cL, 1, .inr (.inl f)))]) (w1 := hn_wX ad cI σ2) hP hD [0, 1, 2, 3, 4, 5, 6, 7, 8, 9] [10] rfl rfl (by decide) (by decide) hk1 hFc hP1 hD1
    have hP := hP.sub (ws' := hn_wH ad cI σ2 ao cL f) [1, 2, 3, 4, 5, 6, 7, 8, 9, 10, 0] rfl
    have hD := hD.sub (ws' := hn_wH ad cI σ2 ao cL f) [1, 2, 3, 4, 5, 6, 7, 8, 9, 10, 0] (by decide) rfl
    rcases hx1 with ⟨rfl, rfl⟩ | ⟨rfl, rfl⟩
    · refine vx_catch (name := hn_xA) hown [] ⟨0, 9, 12, 13⟩ [] htb (fun z h => nomatch h) rfl (by decide) (hts _ mL_c_13) (va_tabs (hn_Bw_on _ hn_cA) rfl (hG.1 _ hn_cA)) hce hcv hcl ?_
      refine lv_astore_n (lv' := [(3, .ref q9), (0, .ref (ad 0)), (1, .int i9), (2, .ref ao)]) hx hb dL_byteAt_12 rfl hl (by decide) rfl (fun ls hl => ?_)
      refine lv_iconst (v := 1) hx hb dL_byteAt_13 (by decide) ?_
      refine W.widen (k := 1) (n := 6) (Nat.le_of_ble_eq_true rfl) (Nat.le_of_ble_eq_true rfl) ?_
      exact W.iret (v := 1) hx hb hr (fun t9 ht9 hW9 => ⟨⟨1, (σ2, f), rfl, ⟨1, 0, by decide, rfl, hx2, fun z => absurd z (by decide), hx3⟩, by rw [ht9]; exact hP, va_K.moved hW9.alike hK, hD⟩, hS.F ht9⟩) hS.2.2 dL_byteAt_14
    · exact (hn_byte_2 hx2).elim
  obtain ⟨hP1, hK1, hD1⟩ := hB
  rw [ht] at hP1
  obtain ⟨hP, hD⟩ := va_join (wr := [(ao, .inl (cL, 1, .inr (.inl f)))]) (w1 := hn_wX ad cI σ2) hP hD [0, 1, 2, 3, 4, 5, 6, 7, 8, 9] [10] rfl rfl (by decide) (by decide) hk1 hFc hP1 hD1
  have hP := hP.sub (ws' := hn_wH ad cI σ2 ao cL f) [1, 2, 3, 4, 5, 6, 7, 8, 9, 10, 0] rfl
  have hD := hD.sub (ws' := hn_wH ad cI σ2 ao cL f) [1, 2, 3, 4, 5, 6, 7, 8, 9, 10, 0] (by decide) rfl
  try dsimp only at hw
  refine lv_i2l hx hb dL_byteAt_7 rfl ?_
  refine va_last hx hb hK hP hD hS 10 1 rfl rfl (i := 0) (vp_in_nI (n := 0) (N := 1) (by omega) (by omega)) dL_byteAt_8 (fun H locs hP hD hS => ?_)
  obtain ⟨f2, ef2⟩ : ∃ z : Nat → Int64, z = vp_updL f 0 r1.toInt64 := ⟨_, rfl⟩
  have hf2 : f2 0 = r1.toInt64 := by rw [ef2]; exact if_pos rfl
  have hP : va_P D vwCl (hn_wH ad cI σ2 ao cL f2) H := by rw [ef2]; exact hP
  have hD : va_D A (hn_wH ad cI σ2 ao cL f2) := by rw [ef2]; exact hD
  refine lv_goto (tgt := 15) hx hb dL_byteAt_9 (by decide) ?_
  refine lv_iconst (v := 0) hx hb dL_byteAt_15 (by decide) ?_
  obtain ⟨g1, g2⟩ := hw
  refine W.widen (k := 1) (n := 6) (Nat.le_of_ble_eq_true rfl) (Nat.le_of_ble_eq_true rfl) ?_
  exact W.iret (v := 0) hx hb hr (fun t9 ht9 hW9 => ⟨⟨0, (σ2, f2), rfl, ⟨0, r1, by decide, rfl, g1, fun _ => hf2, g2⟩, by rw [ht9]; exact hP, va_K.moved hW9.alike hK, hD⟩, hS.F ht9⟩) hS.2.2 dL_byteAt_16
