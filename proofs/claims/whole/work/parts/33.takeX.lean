section
theorem hn_i1 (x : Int32) : x < 1 ↔ x.toInt < 1 := by rw [Int32.lt_iff_toInt_lt]; rfl
theorem hn_lt1 {x : Int32} (h : x < 1) : x ≤ 0 := by
  rw [hn_i1] at h
  rw [Int32.le_iff_toInt_le]
  show x.toInt ≤ 0
  omega
theorem hn_nle0 {x : Int32} (h : ¬ x < 1) : ¬ x ≤ 0 := fun z => by
  rw [hn_i1] at h
  rw [Int32.le_iff_toInt_le] at z
  have z : x.toInt ≤ 0 := z
  omega
theorem hn_lt21 {x : Int32} (h : ¬ x ≤ 20) : 21 ≤ x := by
  rw [Int32.le_iff_toInt_le] at h ⊢
  have h : ¬ x.toInt ≤ 20 := h
  show 21 ≤ x.toInt
  omega
theorem hn_nge21 {x : Int32} (h : x ≤ 20) : ¬ 21 ≤ x := fun z => by
  rw [Int32.le_iff_toInt_le] at h z
  have h : x.toInt ≤ 20 := h
  have z : 21 ≤ x.toInt := z
  omega
theorem hn_id_yes {x : Int32} (h1 : ¬ x < 1) (h2 : x ≤ 65535) : hn_isid x := by
  rw [hn_i1] at h1
  rw [Int32.le_iff_toInt_le] at h2
  have h2 : x.toInt ≤ 65535 := h2
  refine ⟨?_, ?_⟩
  · rw [Int32.lt_iff_toInt_lt]; show 0 < x.toInt; omega
  · rw [Int32.lt_iff_toInt_lt]; show x.toInt < 65536; omega
theorem hn_id_no1 {x : Int32} (h1 : x < 1) (z : hn_isid x) : False := by
  rw [hn_i1] at h1
  have z := z.1
  rw [Int32.lt_iff_toInt_lt] at z
  have z : 0 < x.toInt := z
  omega
theorem hn_id_no2 {x : Int32} (h1 : ¬ x ≤ 65535) (z : hn_isid x) : False := by
  rw [Int32.le_iff_toInt_le] at h1
  have h1 : ¬ x.toInt ≤ 65535 := h1
  have z := z.2
  rw [Int32.lt_iff_toInt_lt] at z
  have z : x.toInt < 65536 := z
  omega
theorem hn_upself (σ : Nat → Nat → Int32) (q : Nat) : σ = hn_up σ q (σ q) := by
  funext j
  unfold hn_up
  by_cases e : j = q
  · rw [if_pos e, e]
  · rw [if_neg e]
/-- the key's number is the name's -/
theorem hn_key {w k9 : Nat → Int32} {h : Nat → Nat} {n : Nat} (hh : ∀ k, k < 20 → hn_by w k = h k) (hn : n ≤ 20) (hk : ∀ j, j < 5 → k9 j = hn_cut w n j) : hn_nm k9 0 = hn_num h n := by
  rw [hn_nm_of (w := k9) (v := hn_cut w n) (b := 0) (c := 0) (fun i hi => by rw [Nat.zero_add]; exact hk i hi), hn_nm_bn]
  refine hn_bn_of 20 (fun k hk2 => ?_)
  rw [hn_cut_by w hn hk2]
  unfold hn_hc
  by_cases e : k < n
  · rw [if_pos e, if_pos e, hh k hk2]
  · rw [if_neg e, if_neg e]
end
set_option maxHeartbeats 4000000 in
set_option maxRecDepth 100000 in
theorem cX_requireDirectory_ok (l : Launch) (hl0 : l.stackTraces = false) (D : va_G) (cI cL : ClassId) (z0 : Nat) (sa : Nat → Nat) (x : Int32) (sz : Nat) : vx_Met l yX_requireDirectory wX_requireDirectory ({ frames := 6, cells := 1, slots := 6, locals := 82 }) (hn_PX D (hn_ty cI cL) ([] : va_W) sz z0 sa [.int x]) (va_Qv (fun (τ9 : Nat → Nat → Int32) => hn_dir x) (fun (τ9 : Nat → Nat → Int32) t => hn_at D (hn_ty cI cL) (va_A ([] : va_W) sz) ([]) t) (va_A ([] : va_W) sz)) (vx_X (fun _ : Nat → Nat → Int32 => True) (fun E (τ9 : Nat → Nat → Int32) t => (E = "java/lang/IllegalArgumentException" ∧ ¬ hn_dir x) ∧ hn_at D (hn_ty cI cL) (va_A ([] : va_W) sz) ([]) t) (va_A ([] : va_W) sz)) 1 6 (va_A ([] : va_W) sz) := by
  refine vx_ofW (cc := cX_requireDirectory) (maxL := 1) (ret := none) (by decide) rfl ?_
  intro p e s m args below meth c s₁ B hml htab hv
  obtain ⟨rfl, hsz, hP, hK, hD0, hz0, hG⟩ := hv
  subst hsz
  have hD := hD0.self (sz := s.heap.size)
  have hAz := hn_Az hD0 hz0
  generalize hAe : va_A ([] : va_W) s.heap.size = A at hD hAz ⊢
  have hA : ∀ q : Nat, s.heap.size ≤ q → A q := fun q h => by rw [← hAe]; exact Or.inr h
  have hS : va_S A s.heap s.heap [] := va_S.rf
  have hP : va_P D vwCl ([] : va_W) s.heap := hP
  have hx := B.exec
  have hb := B.bytes
  have hr := B.returns
  have hts0 := atoms_spec (ws := wX_requireDirectory) B.pre
  have hts : ∀ w ∈ hn_tb, w.before _ s = true := fun w hw => hts0 w (List.mem_cons_of_mem _ hw)
  have hown : s.vm.findClass RX = some m.cls := findClass_of_methodNamed B.named
  have hlocks := B.notSynchronized
  have hl := lv_entry [.int x] (n := 1) (Nat.le_of_ble_eq_true rfl)
  rw [lg_entry_eq]
  generalize (lg_sl [.int x] ++ List.replicate (1 - (lg_sl [.int x]).length) Slot.unset).toArray = ls at hl ⊢
  have hl : lv_has ls 1 [(0, .int x)] := hl
  refine lv_iload_n hx hb dX_requireDirectory_0 rfl (lv_at hl 0 rfl) ?_
  refine lv_if_lt (tgt := 10) hx hb dX_requireDirectory_1 (by decide) (fun c_1 => ?_) (fun c_1 => ?_)
  · skip
    exact hn_throwA hx hb hl0 hts hown hG hAz hS (hl.1.trans hml.symm) (is := 106) (text := "no such directory") (by decide +kernel) dX_requireDirectory_10 dX_requireDirectory_13 dX_requireDirectory_14 dX_requireDirectory_16 dX_requireDirectory_19 htab (Nat.le_of_ble_eq_true rfl) (Nat.le_of_ble_eq_true rfl) (Nat.le_of_ble_eq_true rfl) (Nat.le_of_ble_eq_true rfl) hlocks (fun t9 ha9 g1 g2 => ⟨(fun _ _ => 0), trivial, ⟨⟨rfl, hn_dir_no1 c_1⟩, (hn_xcT hP hK hD hS ha9 g1 g2).1⟩, (hn_xcT hP hK hD hS ha9 g1 g2).2⟩) hS.2.2 (Nat.le_of_ble_eq_true rfl) (Nat.le_of_ble_eq_true rfl)
  · skip
    refine lv_iload_n hx hb dX_requireDirectory_4 rfl (lv_at hl 0 rfl) ?_
    refine lv_bipush (v := 8) hx hb dX_requireDirectory_5 (by decide) ?_
    refine lv_icmp_lt (tgt := 20) hx hb dX_requireDirectory_7 (by decide) (fun c_2 => ?_) (fun c_2 => ?_)
    · skip
      refine vx_ret ?_
      refine W.widen (k := 1) (n := 6) (Nat.le_of_ble_eq_true rfl) (Nat.le_of_ble_eq_true rfl) ?_
      exact W.vret hx hb hr (fun t9 ht9 hW9 => ⟨⟨(fun _ _ => 0), rfl, hn_dir_yes c_1 (Int32.not_le.mpr c_2), by rw [ht9]; exact hP, va_K.moved hW9.alike hK, hD⟩, hS.F ht9⟩) hS.2.2 dX_requireDirectory_20
    · skip
      exact hn_throwA hx hb hl0 hts hown hG hAz hS (hl.1.trans hml.symm) (is := 106) (text := "no such directory") (by decide +kernel) dX_requireDirectory_10 dX_requireDirectory_13 dX_requireDirectory_14 dX_requireDirectory_16 dX_requireDirectory_19 htab (Nat.le_of_ble_eq_true rfl) (Nat.le_of_ble_eq_true rfl) (Nat.le_of_ble_eq_true rfl) (Nat.le_of_ble_eq_true rfl) hlocks (fun t9 ha9 g1 g2 => ⟨(fun _ _ => 0), trivial, ⟨⟨rfl, hn_dir_no2 (Int32.not_lt.mp c_2)⟩, (hn_xcT hP hK hD hS ha9 g1 g2).1⟩, (hn_xcT hP hK hD hS ha9 g1 g2).2⟩) hS.2.2 (Nat.le_of_ble_eq_true rfl) (Nat.le_of_ble_eq_true rfl)

set_option maxHeartbeats 4000000 in
set_option maxRecDepth 100000 in
theorem cX_requireId_ok (l : Launch) (hl0 : l.stackTraces = false) (D : va_G) (cI cL : ClassId) (z0 : Nat) (sa : Nat → Nat) (x : Int32) (sz : Nat) : vx_Met l yX_requireId wX_requireId ({ frames := 6, cells := 1, slots := 6, locals := 82 }) (hn_PX D (hn_ty cI cL) ([] : va_W) sz z0 sa [.int x]) (va_Qv (fun (τ9 : Nat → Nat → Int32) => hn_isid x) (fun (τ9 : Nat → Nat → Int32) t => hn_at D (hn_ty cI cL) (va_A ([] : va_W) sz) ([]) t) (va_A ([] : va_W) sz)) (vx_X (fun _ : Nat → Nat → Int32 => True) (fun E (τ9 : Nat → Nat → Int32) t => (E = "java/lang/IllegalArgumentException" ∧ ¬ hn_isid x) ∧ hn_at D (hn_ty cI cL) (va_A ([] : va_W) sz) ([]) t) (va_A ([] : va_W) sz)) 1 6 (va_A ([] : va_W) sz) := by
  refine vx_ofW (cc := cX_requireId) (maxL := 1) (ret := none) (by decide) rfl ?_
  intro p e s m args below meth c s₁ B hml htab hv
  obtain ⟨rfl, hsz, hP, hK, hD0, hz0, hG⟩ := hv
  subst hsz
  have hD := hD0.self (sz := s.heap.size)
  have hAz := hn_Az hD0 hz0
  generalize hAe : va_A ([] : va_W) s.heap.size = A at hD hAz ⊢
  have hA : ∀ q : Nat, s.heap.size ≤ q → A q := fun q h => by rw [← hAe]; exact Or.inr h
  have hS : va_S A s.heap s.heap [] := va_S.rf
  have hP : va_P D vwCl ([] : va_W) s.heap := hP
  have hx := B.exec
  have hb := B.bytes
  have hr := B.returns
  have hts0 := atoms_spec (ws := wX_requireId) B.pre
  have hts : ∀ w ∈ hn_tb, w.before _ s = true := fun w hw => hts0 w (List.mem_cons_of_mem _ hw)
  have hown : s.vm.findClass RX = some m.cls := findClass_of_methodNamed B.named
  have hlocks := B.notSynchronized
  have hl := lv_entry [.int x] (n := 1) (Nat.le_of_ble_eq_true rfl)
  rw [lg_entry_eq]
  generalize (lg_sl [.int x] ++ List.replicate (1 - (lg_sl [.int x]).length) Slot.unset).toArray = ls at hl ⊢
  have hl : lv_has ls 1 [(0, .int x)] := hl
  refine lv_iload_n hx hb dX_requireId_0 rfl (lv_at hl 0 rfl) ?_
  refine lv_iconst (v := 1) hx hb dX_requireId_1 (by decide) ?_
  refine lv_icmp_lt (tgt := 11) hx hb dX_requireId_2 (by decide) (fun c_3 => ?_) (fun c_3 => ?_)
  · skip
    exact hn_throwA hx hb hl0 hts hown hG hAz hS (hl.1.trans hml.symm) (is := 109) (text := "no such id") (by decide +kernel) dX_requireId_11 dX_requireId_14 dX_requireId_15 dX_requireId_17 dX_requireId_20 htab (Nat.le_of_ble_eq_true rfl) (Nat.le_of_ble_eq_true rfl) (Nat.le_of_ble_eq_true rfl) (Nat.le_of_ble_eq_true rfl) hlocks (fun t9 ha9 g1 g2 => ⟨(fun _ _ => 0), trivial, ⟨⟨rfl, fun z => hn_id_no1 c_3 z⟩, (hn_xcT hP hK hD hS ha9 g1 g2).1⟩, (hn_xcT hP hK hD hS ha9 g1 g2).2⟩) hS.2.2 (Nat.le_of_ble_eq_true rfl) (Nat.le_of_ble_eq_true rfl)
  · skip
    refine lv_iload_n hx hb dX_requireId_5 rfl (lv_at hl 0 rfl) ?_
    refine lv_ldc (v := 65535) hx hb hown (hts _ mX_k_65535) dX_requireId_6 ?_
    refine lv_icmp_le (tgt := 21) hx hb dX_requireId_8 (by decide) (fun c_4 => ?_) (fun c_4 => ?_)
    · skip
      refine vx_ret ?_
      refine W.widen (k := 1) (n := 6) (Nat.le_of_ble_eq_true rfl) (Nat.le_of_ble_eq_true rfl) ?_
      exact W.vret hx hb hr (fun t9 ht9 hW9 => ⟨⟨(fun _ _ => 0), rfl, hn_id_yes c_3 c_4, by rw [ht9]; exact hP, va_K.moved hW9.alike hK, hD⟩, hS.F ht9⟩) hS.2.2 dX_requireId_21
    · skip
      exact hn_throwA hx hb hl0 hts hown hG hAz hS (hl.1.trans hml.symm) (is := 109) (text := "no such id") (by decide +kernel) dX_requireId_11 dX_requireId_14 dX_requireId_15 dX_requireId_17 dX_requireId_20 htab (Nat.le_of_ble_eq_true rfl) (Nat.le_of_ble_eq_true rfl) (Nat.le_of_ble_eq_true rfl) (Nat.le_of_ble_eq_true rfl) hlocks (fun t9 ha9 g1 g2 => ⟨(fun _ _ => 0), trivial, ⟨⟨rfl, fun z => hn_id_no2 c_4 z⟩, (hn_xcT hP hK hD hS ha9 g1 g2).1⟩, (hn_xcT hP hK hD hS ha9 g1 g2).2⟩) hS.2.2 (Nat.le_of_ble_eq_true rfl) (Nat.le_of_ble_eq_true rfl)

set_option maxHeartbeats 4000000 in
set_option maxRecDepth 100000 in
theorem cX_takeKey_ok (l : Launch) (hl0 : l.stackTraces = false) (D : va_G) (cI cL : ClassId) (z0 : Nat) (sa : Nat → Nat) (ad : Nat → Nat) (σ : Nat → Nat → Int32) (h : Nat → Nat) (hhd : ∀ k, k < 20 → hn_by (σ 1) k = h k) (n9 : Int32) (sz : Nat) : vx_Met l yX_takeKey wX_takeKey ({ frames := 6, cells := 1, slots := 6, locals := 82 }) (hn_PX D (hn_ty cI cL) (hn_wX ad cI (σ) : va_W) sz z0 sa [.ref (ad 0), .int n9]) (va_Qv (fun (τ9 : Nat → Nat → Int32) => ∃ (n7 : Nat) (k9 : Nat → Int32), n9 = nI n7 ∧ 1 ≤ n7 ∧ n7 ≤ 20 ∧ (∀ k, k < n7 → h k ≠ 0 ∧ h k ≠ 47) ∧ τ9 = hn_up σ 2 k9 ∧ hn_nm k9 0 = hn_num h n7) (fun (τ9 : Nat → Nat → Int32) t => hn_at D (hn_ty cI cL) (va_A (hn_wX ad cI (σ) : va_W) sz) (hn_wX ad cI (τ9)) t) (va_A (hn_wX ad cI (σ) : va_W) sz)) (vx_X (fun _ : Nat → Nat → Int32 => True) (fun E (τ9 : Nat → Nat → Int32) t => (E = "java/lang/IllegalArgumentException" ∧ ¬ hn_name h n9 ∧ τ9 = σ) ∧ hn_at D (hn_ty cI cL) (va_A (hn_wX ad cI (σ) : va_W) sz) (hn_wX ad cI (τ9)) t) (va_A (hn_wX ad cI (σ) : va_W) sz)) 1 6 (va_A (hn_wX ad cI (σ) : va_W) sz) := by
  refine vx_ofW (cc := cX_takeKey) (maxL := 4) (ret := none) (by decide) rfl ?_
  intro p e s m args below meth c s₁ B hml htab hv
  obtain ⟨rfl, hsz, hP, hK, hD0, hz0, hG⟩ := hv
  subst hsz
  have hD := hD0.self (sz := s.heap.size)
  have hAz := hn_Az hD0 hz0
  generalize hAe : va_A (hn_wX ad cI (σ) : va_W) s.heap.size = A at hD hAz ⊢
  have hA : ∀ q : Nat, s.heap.size ≤ q → A q := fun q h => by rw [← hAe]; exact Or.inr h
  have hS : va_S A s.heap s.heap [] := va_S.rf
  have hP : va_P D vwCl (hn_wX ad cI (σ) : va_W) s.heap := hP
  have hx := B.exec
  have hb := B.bytes
  have hr := B.returns
  have hts0 := atoms_spec (ws := wX_takeKey) B.pre
  have hts : ∀ w ∈ hn_tb, w.before _ s = true := fun w hw => hts0 w (List.mem_cons_of_mem _ hw)
  have hown : s.vm.findClass RX = some m.cls := findClass_of_methodNamed B.named
  have hlocks := B.notSynchronized
  have hl := lv_entry [.ref (ad 0), .int n9] (n := 4) (Nat.le_of_ble_eq_true rfl)
  rw [lg_entry_eq]
  generalize (lg_sl [.ref (ad 0), .int n9] ++ List.replicate (4 - (lg_sl [.ref (ad 0), .int n9]).length) Slot.unset).toArray = ls at hl ⊢
  have hl : lv_has ls 4 [(0, .ref (ad 0)), (1, .int n9)] := hl
  refine lv_iload_n hx hb dX_takeKey_0 rfl (lv_at hl 1 rfl) ?_
  refine lv_iconst (v := 1) hx hb dX_takeKey_1 (by decide) ?_
  refine lv_icmp_lt (tgt := 11) hx hb dX_takeKey_2 (by decide) (fun c_5 => ?_) (fun c_5 => ?_)
  · skip
    exact hn_throwA hx hb hl0 hts hown hG hAz hS (hl.1.trans hml.symm) (is := 111) (text := "no name has such a length") (by decide +kernel) dX_takeKey_11 dX_takeKey_14 dX_takeKey_15 dX_takeKey_17 dX_takeKey_20 htab (Nat.le_of_ble_eq_true rfl) (Nat.le_of_ble_eq_true rfl) (Nat.le_of_ble_eq_true rfl) (Nat.le_of_ble_eq_true rfl) hlocks (fun t9 ha9 g1 g2 => ⟨σ, trivial, ⟨⟨rfl, hn_name_no1 (hn_lt1 c_5), rfl⟩, (hn_xcT hP hK hD hS ha9 g1 g2).1⟩, (hn_xcT hP hK hD hS ha9 g1 g2).2⟩) hS.2.2 (Nat.le_of_ble_eq_true rfl) (Nat.le_of_ble_eq_true rfl)
  · skip
    refine lv_iload_n hx hb dX_takeKey_5 rfl (lv_at hl 1 rfl) ?_
    refine lv_bipush (v := 20) hx hb dX_takeKey_6 (by decide) ?_
    refine lv_icmp_le (tgt := 21) hx hb dX_takeKey_8 (by decide) (fun c_6 => ?_) (fun c_6 => ?_)
    · skip
      obtain ⟨n, en, h1, h2⟩ := hn_name_r (hn_nle0 c_5) (hn_nge21 c_6)
      subst en
      refine lv_iconst (v := 0) hx hb dX_takeKey_21 (by decide) ?_
      refine lv_istore_n (lv' := [(2, .int 0), (0, .ref (ad 0)), (1, .int (nI n))]) hx hb dX_takeKey_22 rfl hl (by decide) rfl (fun ls hl => ?_)
      suffices loop : ∀ (f i : Nat), i + f = n → (∀ j, j < i → h j ≠ 0 ∧ h j ≠ 47) → ∀ ls : Array Slot, lv_has ls 4 [(0, .ref (ad 0)), (1, .int (nI n)), (2, .int (nI i))] → W p l e (headSpec wX_takeKey ({ frames := 6, cells := 1, slots := 6, locals := 82 })).room s m [.ref (ad 0), .int (nI n)].toArray below meth c s.heap [] 0 0 (vx_MQ below (va_Qv (fun (τ9 : Nat → Nat → Int32) => ∃ (n7 : Nat) (k9 : Nat → Int32), (nI n) = nI n7 ∧ 1 ≤ n7 ∧ n7 ≤ 20 ∧ (∀ k, k < n7 → h k ≠ 0 ∧ h k ≠ 47) ∧ τ9 = hn_up σ 2 k9 ∧ hn_nm k9 0 = hn_num h n7) (fun (τ9 : Nat → Nat → Int32) t => hn_at D (hn_ty cI cL) A (hn_wX ad cI (τ9)) t) A) (vx_X (fun _ : Nat → Nat → Int32 => True) (fun E (τ9 : Nat → Nat → Int32) t => (E = "java/lang/IllegalArgumentException" ∧ ¬ hn_name h (nI n) ∧ τ9 = σ) ∧ hn_at D (hn_ty cI cL) A (hn_wX ad cI (τ9)) t) A) [.ref (ad 0), .int (nI n)].toArray s 1 6 A) (F0 m 23 ls []) from loop n 0 (Nat.zero_add _) (fun j z => absurd z (Nat.not_lt_zero _)) ls (lv_sub hl [1, 2, 0] rfl)
      intro f
      induction f with
      | zero =>
        intro i hf hj ls hl
        have hf : n = i := by omega
        subst hf
        refine lv_iload_n hx hb dX_takeKey_23 rfl (lv_at hl 2 rfl) ?_
        refine lv_iload_n hx hb dX_takeKey_24 rfl (lv_at hl 1 rfl) ?_
        refine lv_icmp_ge (tgt := 63) hx hb dX_takeKey_25 (by decide) (fun c_7 => ?_) (fun c_7 => absurd (Int32.le_refl _) c_7)
        refine lv_iconst (v := 0) hx hb dX_takeKey_63 (by decide) ?_
        refine lv_istore_n (lv' := [(2, .int 0), (0, .ref (ad 0)), (1, .int (nI n))]) hx hb dX_takeKey_64 rfl hl (by decide) rfl (fun ls hl => ?_)
        suffices loop2 : ∀ (f k : Nat) (σ3 : Nat → Nat → Int32) (H : Heap) (locs : List Loc), k + f = 5 → va_P D vwCl (hn_wX ad cI σ3) H → va_D A (hn_wX ad cI σ3) → va_S A s.heap H locs → (∃ k9 : Nat → Int32, σ3 = hn_up σ 2 k9 ∧ ∀ j, j < k → k9 j = hn_cut (σ 1) n j) → ∀ ls : Array Slot, lv_has ls 4 [(0, .ref (ad 0)), (1, .int (nI n)), (2, .int (nI k))] → W p l e (headSpec wX_takeKey ({ frames := 6, cells := 1, slots := 6, locals := 82 })).room s m [.ref (ad 0), .int (nI n)].toArray below meth c H locs 0 0 (vx_MQ below (va_Qv (fun (τ9 : Nat → Nat → Int32) => ∃ (n7 : Nat) (k9 : Nat → Int32), (nI n) = nI n7 ∧ 1 ≤ n7 ∧ n7 ≤ 20 ∧ (∀ k, k < n7 → h k ≠ 0 ∧ h k ≠ 47) ∧ τ9 = hn_up σ 2 k9 ∧ hn_nm k9 0 = hn_num h n7) (fun (τ9 : Nat → Nat → Int32) t => hn_at D (hn_ty cI cL) A (hn_wX ad cI (τ9)) t) A) (vx_X (fun _ : Nat → Nat → Int32 => True) (fun E (τ9 : Nat → Nat → Int32) t => (E = "java/lang/IllegalArgumentException" ∧ ¬ hn_name h (nI n) ∧ τ9 = σ) ∧ hn_at D (hn_ty cI cL) A (hn_wX ad cI (τ9)) t) A) [.ref (ad 0), .int (nI n)].toArray s 1 6 A) (F0 m 65 ls []) from loop2 5 0 σ _ _ rfl hP hD hS ⟨σ 2, hn_upself σ 2, fun j z => absurd z (Nat.not_lt_zero _)⟩ ls (lv_sub hl [1, 2, 0] rfl)
        intro f
        induction f with
        | zero =>
          intro k σ3 H locs hf hP hD hS hI ls hl
          have hf : k = 5 := hf
          subst hf
          refine lv_iload_n hx hb dX_takeKey_65 rfl (lv_at hl 2 rfl) ?_
          refine lv_iconst (v := 5) hx hb dX_takeKey_66 (by decide) ?_
          refine lv_icmp_ge (tgt := 97) hx hb dX_takeKey_67 (by decide) (fun c_8 => ?_) (fun c_8 => absurd (show (5 : Int32) ≤ nI 5 by decide) c_8)
          obtain ⟨k9, e9, hc9⟩ := hI
          refine vx_ret ?_
          refine W.widen (k := 1) (n := 6) (Nat.le_of_ble_eq_true rfl) (Nat.le_of_ble_eq_true rfl) ?_
          exact W.vret hx hb hr (fun t9 ht9 hW9 => ⟨⟨σ3, rfl, ⟨n, k9, rfl, h1, h2, hj, e9, hn_key hhd h2 hc9⟩, by rw [ht9]; exact hP, va_K.moved hW9.alike hK, hD⟩, hS.F ht9⟩) hS.2.2 dX_takeKey_97
        | succ f ih2 =>
          intro k σ3 H locs hf hP hD hS hI ls hl
          refine lv_iload_n hx hb dX_takeKey_65 rfl (lv_at hl 2 rfl) ?_
          refine lv_iconst (v := 5) hx hb dX_takeKey_66 (by decide) ?_
          refine lv_icmp_ge (tgt := 97) hx hb dX_takeKey_67 (by decide) (fun c_9 => absurd c_9 (nI_ge (a := k) (b := 5) (by omega) (by decide))) (fun c_9 => ?_)
          obtain ⟨k9, e9, hc9⟩ := hI
          refine lv_aload_n hx hb dX_takeKey_70 rfl (lv_at hl 0 rfl) ?_
          refine va_get (D := D) (ci := 0) (v := .ref (ad 2)) (C := RX) (T := FX) (N := 10) hx hb hts iX hown hK hP 0 rfl rfl 1 (by decide) (hts _ mX_f_key) (fun _ h9 => h9) rfl dX_takeKey_71 ?_
          refine lv_iload_n hx hb dX_takeKey_74 rfl (lv_at hl 2 rfl) ?_
          refine lv_aload_n hx hb dX_takeKey_75 rfl (lv_at hl 0 rfl) ?_
          refine va_get (D := D) (ci := 0) (v := .ref (ad 1)) (C := RX) (T := FX) (N := 10) hx hb hts iX hown hK hP 0 rfl rfl 0 (by decide) (hts _ mX_f_hand) (fun _ h9 => h9) rfl dX_takeKey_76 ?_
          refine lv_iload_n hx hb dX_takeKey_79 rfl (lv_at hl 2 rfl) ?_
          refine va_iald hx hb hK hP 1 0 rfl rfl (vp_in_nI (show k < 5 from by omega) (by omega)) dX_takeKey_80 ?_
          rw [nI_clamp (show k < 2 ^ 31 by omega)]
          rw [show σ3 1 k = σ 1 k from by rw [e9]; rfl]
          refine lv_iload_n hx hb dX_takeKey_81 rfl (lv_at hl 1 rfl) ?_
          refine lv_iload_n hx hb dX_takeKey_82 rfl (lv_at hl 2 rfl) ?_
          refine lv_iconst (v := 4) hx hb dX_takeKey_83 (by decide) ?_
          refine lv_imul hx hb dX_takeKey_84 ?_
          rw [show ((nI k) * 4 : Int32) = nI (4 * k) from by rw [show (4 : Int32) = nI 4 from rfl, pk_mul, Nat.mul_comm]]
          refine lv_isub hx hb dX_takeKey_85 ?_
          refine W.callR (W.runS (As := [.int ((nI n) - (nI (4 * k)))]) (rest := [.int (σ 1 k), .int (nI k), .ref (ad 2)]) ⟨hx, hb, hml, hown, hts⟩ (cX_maskOfFirst_ok l (nI n - nI (4 * k))) (cwS 1 hts gX_X_maskOfFirst rfl rfl rfl (by decide +kernel) ⟨Nat.le_of_ble_eq_true rfl, Nat.le_of_ble_eq_true rfl⟩) hn_pre0 rfl rfl hl.1 rfl (lv_room (Nat.le_of_ble_eq_true rfl)) dX_takeKey_86 ⟨Nat.zero_le _, Nat.zero_le _⟩) ?_
          refine W.eq (g2 := F0 m 89 ls [.int (hn_mask (nI n - nI (4 * k))), .int (σ 1 k), .int (nI k), .ref (ad 2)]) rfl ?_
          refine lv_iand hx hb dX_takeKey_89 ?_
          refine va_iast hx hb hK hP hD hS 2 0 rfl rfl (vp_in_nI (show k < 5 from by omega) (by omega)) dX_takeKey_90 (fun H locs hP hD hS => ?_)
          rw [nI_clamp (show k < 2 ^ 31 by omega)] at hP hD
          obtain ⟨σ4, eσ4⟩ : ∃ z : Nat → Nat → Int32, z = hn_up (σ3) 2 (upd (σ3 2) k ((σ 1 k) &&& (hn_mask (nI n - nI (4 * k))))) := ⟨_, rfl⟩
          have hP : va_P D vwCl (hn_wX ad cI (σ4)) H := by rw [eσ4]; exact hP
          have hD : va_D A (hn_wX ad cI (σ4)) := by rw [eσ4]; exact hD
          refine lv_iinc (v := nI (k + 1)) (lv' := [(2, .int (nI (k + 1))), (0, .ref (ad 0)), (1, .int (nI n))]) hx hb dX_takeKey_91 hl (k := 2) rfl (nI_1 k) (by decide) rfl (fun ls hl => ?_)
          refine lv_goto (tgt := 65) hx hb dX_takeKey_94 (by decide) ?_
          exact ih2 (k + 1) σ4 H locs (by omega) hP hD hS ⟨upd k9 k (hn_cut (σ 1) n k), by rw [eσ4, e9]; exact hn_upup _ _ _ _, fun j hj2 => hn_sy1 hc9 hj2⟩ ls (lv_sub hl [1, 2, 0] rfl)
      | succ f ih =>
        intro i hf hj ls hl
        refine lv_iload_n hx hb dX_takeKey_23 rfl (lv_at hl 2 rfl) ?_
        refine lv_iload_n hx hb dX_takeKey_24 rfl (lv_at hl 1 rfl) ?_
        refine lv_icmp_ge (tgt := 63) hx hb dX_takeKey_25 (by decide) (fun c_10 => absurd c_10 (nI_ge (a := i) (b := n) (by omega) (by omega))) (fun c_10 => ?_)
        have hb9 := hn_by_lt (σ 1) i
        refine lv_aload_n hx hb dX_takeKey_28 rfl (lv_at hl 0 rfl) ?_
        refine va_get (D := D) (ci := 0) (v := .ref (ad 1)) (C := RX) (T := FX) (N := 10) hx hb hts iX hown hK hP 0 rfl rfl 0 (by decide) (hts _ mX_f_hand) (fun _ h9 => h9) rfl dX_takeKey_29 ?_
        refine lv_iload_n hx hb dX_takeKey_32 rfl (lv_at hl 2 rfl) ?_
        refine W.callR (W.runS (As := [.ref (ad 1), .int (nI i)]) (rest := []) ⟨hx, hb, hml, hown, hts⟩ (cX_byteOf_ok l D cI cL (hn_wX ad cI σ) 1 5 (ad 1) (σ 1) rfl (by decide) (by decide) i (by omega)) (cwS 2 hts gX_X_byteOf rfl rfl rfl (by decide +kernel) ⟨Nat.le_of_ble_eq_true rfl, Nat.le_of_ble_eq_true rfl⟩) (hn_preS hP hK) rfl rfl hl.1 rfl (lv_room (Nat.le_of_ble_eq_true rfl)) dX_takeKey_33 ⟨Nat.zero_le _, Nat.zero_le _⟩) ?_
        refine W.eq (g2 := F0 m 36 ls [.int (nI (hn_by (σ 1) i))]) rfl ?_
        rw [show (nI (hn_by (σ 1) i) : Int32) = nI (h i) from congrArg nI (hhd i (by omega))]
        rw [hhd i (by omega)] at hb9
        refine lv_istore_n (lv' := [(3, .int (nI (h i))), (0, .ref (ad 0)), (1, .int (nI n)), (2, .int (nI i))]) hx hb dX_takeKey_36 rfl hl (by decide) rfl (fun ls hl => ?_)
        refine lv_iload_n hx hb dX_takeKey_37 rfl (lv_at hl 0 rfl) ?_
        refine lv_if_eq (tgt := 47) hx hb dX_takeKey_38 (by decide) (fun c_11 => ?_) (fun c_11 => ?_)
        · skip
          exact hn_throwA hx hb hl0 hts hown hG hAz hS (hl.1.trans hml.symm) (is := 113) (text := "no name has such a byte") (by decide +kernel) dX_takeKey_47 dX_takeKey_50 dX_takeKey_51 dX_takeKey_53 dX_takeKey_56 htab (Nat.le_of_ble_eq_true rfl) (Nat.le_of_ble_eq_true rfl) (Nat.le_of_ble_eq_true rfl) (Nat.le_of_ble_eq_true rfl) hlocks (fun t9 ha9 g1 g2 => ⟨σ, trivial, ⟨⟨rfl, hn_name_no3 (k := i) h2 (by omega) (Or.inl ((hn_b0 hb9).mp c_11)), rfl⟩, (hn_xcT hP hK hD hS ha9 g1 g2).1⟩, (hn_xcT hP hK hD hS ha9 g1 g2).2⟩) hS.2.2 (Nat.le_of_ble_eq_true rfl) (Nat.le_of_ble_eq_true rfl)
        · skip
          refine lv_iload_n hx hb dX_takeKey_41 rfl (lv_at hl 0 rfl) ?_
          refine lv_bipush (v := 47) hx hb dX_takeKey_42 (by decide) ?_
          refine lv_icmp_ne (tgt := 57) hx hb dX_takeKey_44 (by decide) (fun c_12 => ?_) (fun c_12 => ?_)
          · skip
            refine lv_iinc (v := nI (i + 1)) (lv' := [(2, .int (nI (i + 1))), (3, .int (nI (h i))), (0, .ref (ad 0)), (1, .int (nI n))]) hx hb dX_takeKey_57 hl (k := 3) rfl (nI_1 i) (by decide) rfl (fun ls hl => ?_)
            refine lv_goto (tgt := 23) hx hb dX_takeKey_60 (by decide) ?_
            exact ih (i + 1) (by omega) (lt_s hj ⟨fun z => c_11 ((hn_b0 hb9).mpr z), fun z => c_12 ((hn_b47 hb9).mpr z)⟩) ls (lv_sub hl [2, 3, 0] rfl)
          · skip
            exact hn_throwA hx hb hl0 hts hown hG hAz hS (hl.1.trans hml.symm) (is := 113) (text := "no name has such a byte") (by decide +kernel) dX_takeKey_47 dX_takeKey_50 dX_takeKey_51 dX_takeKey_53 dX_takeKey_56 htab (Nat.le_of_ble_eq_true rfl) (Nat.le_of_ble_eq_true rfl) (Nat.le_of_ble_eq_true rfl) (Nat.le_of_ble_eq_true rfl) hlocks (fun t9 ha9 g1 g2 => ⟨σ, trivial, ⟨⟨rfl, hn_name_no3 (k := i) h2 (by omega) (Or.inr ((hn_b47 hb9).mp c_12)), rfl⟩, (hn_xcT hP hK hD hS ha9 g1 g2).1⟩, (hn_xcT hP hK hD hS ha9 g1 g2).2⟩) hS.2.2 (Nat.le_of_ble_eq_true rfl) (Nat.le_of_ble_eq_true rfl)
    · skip
      exact hn_throwA hx hb hl0 hts hown hG hAz hS (hl.1.trans hml.symm) (is := 111) (text := "no name has such a length") (by decide +kernel) dX_takeKey_11 dX_takeKey_14 dX_takeKey_15 dX_takeKey_17 dX_takeKey_20 htab (Nat.le_of_ble_eq_true rfl) (Nat.le_of_ble_eq_true rfl) (Nat.le_of_ble_eq_true rfl) (Nat.le_of_ble_eq_true rfl) hlocks (fun t9 ha9 g1 g2 => ⟨σ, trivial, ⟨⟨rfl, hn_name_no2 (hn_lt21 c_6), rfl⟩, (hn_xcT hP hK hD hS ha9 g1 g2).1⟩, (hn_xcT hP hK hD hS ha9 g1 g2).2⟩) hS.2.2 (Nat.le_of_ble_eq_true rfl) (Nat.le_of_ble_eq_true rfl)
