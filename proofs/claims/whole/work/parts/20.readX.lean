set_option maxHeartbeats 4000000 in
set_option maxRecDepth 100000 in
theorem cX_isSlot_ok (l : Launch) (x : Int32) : Met l yX_isSlot wX_isSlot ({ frames := 0, cells := 0, slots := 0, locals := 0 }) (va_Pc [.int x] (fun _ => True)) (QcRead (hn_isl x)) 0 0 (fun _ => False) := by
  refine Met.ofW (cc := cX_isSlot) (maxL := 1) (ret := (some .boolean)) (by decide) rfl ?_
  intro p e s m args below meth c s₁ B hml hv
  obtain ⟨rfl, -⟩ := hv
  have hx := B.exec
  have hb := B.bytes
  have hr := B.returns
  have hts0 := atoms_spec (ws := wX_isSlot) B.pre
  have hts : ∀ w ∈ hn_tb, w.before _ s = true := fun w hw => hts0 w (List.mem_cons_of_mem _ hw)
  have hown : s.vm.findClass RX = some m.cls := findClass_of_methodNamed B.named
  have hlocks := B.notSynchronized
  have hl := lv_entry [.int x] (n := 1) (Nat.le_of_ble_eq_true rfl)
  rw [lg_entry_eq]
  generalize (lg_sl [.int x] ++ List.replicate (1 - (lg_sl [.int x]).length) Slot.unset).toArray = ls at hl ⊢
  have hl : lv_has ls 1 [(0, .int x)] := hl
  refine lv_iload_n hx hb dX_isSlot_0 rfl (lv_at hl 0 rfl) ?_
  refine lv_if_lt (tgt := 15) hx hb dX_isSlot_1 (by decide) (fun c_1 => ?_) (fun c_1 => ?_)
  · skip
    refine lv_iconst (v := 0) hx hb dX_isSlot_15 (by decide) ?_
    exact W.zret (v := 0) hx hb hr rfl (fun t9 ht9 _ => ⟨congrArg (fun z => Outcome.returned (some (Value.int z))) (show (0 : Int32) = hn_isl x from (by unfold hn_isl; rw [if_pos c_1])), ht9⟩) (fun q h => nomatch h) dX_isSlot_16
  · skip
    refine lv_iload_n hx hb dX_isSlot_4 rfl (lv_at hl 0 rfl) ?_
    refine lv_sipush (v := 384) hx hb dX_isSlot_5 (by decide) ?_
    refine lv_icmp_ge (tgt := 15) hx hb dX_isSlot_8 (by decide) (fun c_2 => ?_) (fun c_2 => ?_)
    · skip
      refine lv_iconst (v := 0) hx hb dX_isSlot_15 (by decide) ?_
      exact W.zret (v := 0) hx hb hr rfl (fun t9 ht9 _ => ⟨congrArg (fun z => Outcome.returned (some (Value.int z))) (show (0 : Int32) = hn_isl x from (by unfold hn_isl; rw [if_neg c_1, if_pos c_2])), ht9⟩) (fun q h => nomatch h) dX_isSlot_16
    · skip
      refine lv_iconst (v := 1) hx hb dX_isSlot_11 (by decide) ?_
      refine lv_goto (tgt := 16) hx hb dX_isSlot_12 (by decide) ?_
      exact W.zret (v := 1) hx hb hr rfl (fun t9 ht9 _ => ⟨congrArg (fun z => Outcome.returned (some (Value.int z))) (show (1 : Int32) = hn_isl x from (by unfold hn_isl; rw [if_neg c_1, if_neg c_2])), ht9⟩) (fun q h => nomatch h) dX_isSlot_16

set_option maxHeartbeats 4000000 in
set_option maxRecDepth 100000 in
theorem cX_orderHead_ok (l : Launch) (x : Int32) : Met l yX_orderHead wX_orderHead ({ frames := 0, cells := 0, slots := 0, locals := 0 }) (va_Pc [.int x] (fun _ => True)) (QcRead (384 + x)) 0 0 (fun _ => False) := by
  refine Met.ofW (cc := cX_orderHead) (maxL := 1) (ret := (some .int)) (by decide) rfl ?_
  intro p e s m args below meth c s₁ B hml hv
  obtain ⟨rfl, -⟩ := hv
  have hx := B.exec
  have hb := B.bytes
  have hr := B.returns
  have hts0 := atoms_spec (ws := wX_orderHead) B.pre
  have hts : ∀ w ∈ hn_tb, w.before _ s = true := fun w hw => hts0 w (List.mem_cons_of_mem _ hw)
  have hown : s.vm.findClass RX = some m.cls := findClass_of_methodNamed B.named
  have hlocks := B.notSynchronized
  have hl := lv_entry [.int x] (n := 1) (Nat.le_of_ble_eq_true rfl)
  rw [lg_entry_eq]
  generalize (lg_sl [.int x] ++ List.replicate (1 - (lg_sl [.int x]).length) Slot.unset).toArray = ls at hl ⊢
  have hl : lv_has ls 1 [(0, .int x)] := hl
  refine lv_sipush (v := 384) hx hb dX_orderHead_0 (by decide) ?_
  refine lv_iload_n hx hb dX_orderHead_3 rfl (lv_at hl 0 rfl) ?_
  refine lv_iadd hx hb dX_orderHead_4 ?_
  exact W.iret (v := (384 + x)) hx hb hr (fun t9 ht9 _ => ⟨congrArg (fun z => Outcome.returned (some (Value.int z))) (show (384 + x : Int32) = 384 + x from rfl), ht9⟩) (fun q h => nomatch h) dX_orderHead_5

set_option maxHeartbeats 4000000 in
set_option maxRecDepth 100000 in
theorem cX_maskOfFirst_ok (l : Launch) (x : Int32) : Met l yX_maskOfFirst wX_maskOfFirst ({ frames := 0, cells := 0, slots := 0, locals := 0 }) (va_Pc [.int x] (fun _ => True)) (QcRead (hn_mask x)) 0 0 (fun _ => False) := by
  refine Met.ofW (cc := cX_maskOfFirst) (maxL := 1) (ret := (some .int)) (by decide) rfl ?_
  intro p e s m args below meth c s₁ B hml hv
  obtain ⟨rfl, -⟩ := hv
  have hx := B.exec
  have hb := B.bytes
  have hr := B.returns
  have hts0 := atoms_spec (ws := wX_maskOfFirst) B.pre
  have hts : ∀ w ∈ hn_tb, w.before _ s = true := fun w hw => hts0 w (List.mem_cons_of_mem _ hw)
  have hown : s.vm.findClass RX = some m.cls := findClass_of_methodNamed B.named
  have hlocks := B.notSynchronized
  have hl := lv_entry [.int x] (n := 1) (Nat.le_of_ble_eq_true rfl)
  rw [lg_entry_eq]
  generalize (lg_sl [.int x] ++ List.replicate (1 - (lg_sl [.int x]).length) Slot.unset).toArray = ls at hl ⊢
  have hl : lv_has ls 1 [(0, .int x)] := hl
  refine lv_iload_n hx hb dX_maskOfFirst_0 rfl (lv_at hl 0 rfl) ?_
  refine lv_if_gt (tgt := 6) hx hb dX_maskOfFirst_1 (by decide) (fun c_3 => ?_) (fun c_3 => ?_)
  · skip
    refine lv_iload_n hx hb dX_maskOfFirst_6 rfl (lv_at hl 0 rfl) ?_
    refine lv_iconst (v := 4) hx hb dX_maskOfFirst_7 (by decide) ?_
    refine lv_icmp_lt (tgt := 15) hx hb dX_maskOfFirst_8 (by decide) (fun c_4 => ?_) (fun c_4 => ?_)
    · skip
      refine lv_iconst (v := (-1)) hx hb dX_maskOfFirst_15 (by decide) ?_
      refine lv_bipush (v := 8) hx hb dX_maskOfFirst_16 (by decide) ?_
      refine lv_iconst (v := 4) hx hb dX_maskOfFirst_18 (by decide) ?_
      refine lv_iload_n hx hb dX_maskOfFirst_19 rfl (lv_at hl 0 rfl) ?_
      refine lv_isub hx hb dX_maskOfFirst_20 ?_
      refine lv_imul hx hb dX_maskOfFirst_21 ?_
      refine lv_ishl hx hb dX_maskOfFirst_22 ?_
      exact W.iret (v := ((-1) <<< ((8 * (4 - x)) &&& 31))) hx hb hr (fun t9 ht9 _ => ⟨congrArg (fun z => Outcome.returned (some (Value.int z))) (show ((-1) <<< ((8 * (4 - x)) &&& 31) : Int32) = hn_mask x from (by unfold hn_mask; rw [if_neg (Int32.not_le.mpr c_3), if_neg (Int32.not_le.mpr c_4)])), ht9⟩) (fun q h => nomatch h) dX_maskOfFirst_23
    · skip
      refine lv_iconst (v := (-1)) hx hb dX_maskOfFirst_11 (by decide) ?_
      refine lv_goto (tgt := 23) hx hb dX_maskOfFirst_12 (by decide) ?_
      exact W.iret (v := (-1)) hx hb hr (fun t9 ht9 _ => ⟨congrArg (fun z => Outcome.returned (some (Value.int z))) (show ((-1) : Int32) = hn_mask x from (by unfold hn_mask; rw [if_neg (Int32.not_le.mpr c_3), if_pos (Int32.not_lt.mp c_4)])), ht9⟩) (fun q h => nomatch h) dX_maskOfFirst_23
  · skip
    refine lv_iconst (v := 0) hx hb dX_maskOfFirst_4 (by decide) ?_
    exact W.iret (v := 0) hx hb hr (fun t9 ht9 _ => ⟨congrArg (fun z => Outcome.returned (some (Value.int z))) (show (0 : Int32) = hn_mask x from (by unfold hn_mask; rw [if_pos (Int32.not_lt.mp c_3)])), ht9⟩) (fun q h => nomatch h) dX_maskOfFirst_5

set_option maxHeartbeats 4000000 in
set_option maxRecDepth 100000 in
theorem cX_byteOf_ok (l : Launch) (D : va_G) (cI cL : ClassId) (w : va_W) (q0 n : Nat) (a : Nat) (f : Nat → Int32) (hq : w[q0]? = some (a, .inl (cI, n, .inl f))) (hn9 : 5 ≤ n) (hn8 : n < 2 ^ 31) (i : Nat) (hi : i < 20) : Met l yX_byteOf wX_byteOf ({ frames := 0, cells := 0, slots := 0, locals := 0 }) (hn_PR D vwCl (hn_ty cI cL) w [.ref a, .int (nI i)]) (QcRead (nI (hn_by f i))) 0 0 (fun _ => False) := by
  refine Met.ofW (cc := cX_byteOf) (maxL := 2) (ret := (some .int)) (by decide) rfl ?_
  intro p e s m args below meth c s₁ B hml hv
  obtain ⟨rfl, hP, hK⟩ := hv
  have hx := B.exec
  have hb := B.bytes
  have hr := B.returns
  have hts0 := atoms_spec (ws := wX_byteOf) B.pre
  have hts : ∀ w ∈ hn_tb, w.before _ s = true := fun w hw => hts0 w (List.mem_cons_of_mem _ hw)
  have hown : s.vm.findClass RX = some m.cls := findClass_of_methodNamed B.named
  have hlocks := B.notSynchronized
  have hl := lv_entry [.ref a, .int (nI i)] (n := 2) (Nat.le_of_ble_eq_true rfl)
  rw [lg_entry_eq]
  generalize (lg_sl [.ref a, .int (nI i)] ++ List.replicate (2 - (lg_sl [.ref a, .int (nI i)]).length) Slot.unset).toArray = ls at hl ⊢
  have hl : lv_has ls 2 [(0, .ref a), (1, .int (nI i))] := hl
  refine lv_aload_n hx hb dX_byteOf_0 rfl (lv_at hl 0 rfl) ?_
  refine lv_iload_n hx hb dX_byteOf_1 rfl (lv_at hl 1 rfl) ?_
  refine lv_iconst (v := 4) hx hb dX_byteOf_2 (by decide) ?_
  refine lv_idiv hx hb dX_byteOf_3 (by decide) ?_
  rw [show ((nI i) / 4 : Int32) = nI (i / 4) from pk_div (d := 4) (by omega) (by decide) (by decide)]
  refine va_iald hx hb hK hP q0 0 hq rfl (vp_in_nI (show i / 4 < n from by omega) (by omega)) dX_byteOf_4 ?_
  rw [nI_clamp (show i / 4 < 2 ^ 31 by omega)]
  refine lv_bipush (v := 24) hx hb dX_byteOf_5 (by decide) ?_
  refine lv_bipush (v := 8) hx hb dX_byteOf_7 (by decide) ?_
  refine lv_iload_n hx hb dX_byteOf_9 rfl (lv_at hl 1 rfl) ?_
  refine lv_iconst (v := 4) hx hb dX_byteOf_10 (by decide) ?_
  refine lv_irem hx hb dX_byteOf_11 (by decide) ?_
  rw [show ((nI i) - (nI i) / 4 * 4 : Int32) = nI (i % 4) from pk_rem (d := 4) (by omega) (by decide) (by decide)]
  refine lv_imul hx hb dX_byteOf_12 ?_
  rw [show (8 * (nI (i % 4)) : Int32) = nI (8 * (i % 4)) from pk_mul 8 (i % 4)]
  refine lv_isub hx hb dX_byteOf_13 ?_
  rw [show (24 - (nI (8 * (i % 4))) : Int32) = nI (24 - 8 * (i % 4)) from pk_sub (a := 24) (by omega)]
  refine lv_iushr hx hb dX_byteOf_14 rfl ?_
  refine lv_sipush (v := 255) hx hb dX_byteOf_15 (by decide) ?_
  refine lv_iand hx hb dX_byteOf_18 ?_
  exact W.iret (v := ((((f (i / 4)).toUInt32 >>> ((nI (24 - 8 * (i % 4))).toUInt32 &&& Int32.toUInt32 31)).toInt32) &&& 255)) hx hb hr (fun t9 ht9 _ => ⟨congrArg (fun z => Outcome.returned (some (Value.int z))) (show ((((f (i / 4)).toUInt32 >>> ((nI (24 - 8 * (i % 4))).toUInt32 &&& Int32.toUInt32 31)).toInt32) &&& 255 : Int32) = nI (hn_by f i) from hn_by_row (f (i / 4)) (k := i % 4) (by omega)), ht9⟩) (fun q h => nomatch h) dX_byteOf_19

set_option maxHeartbeats 4000000 in
set_option maxRecDepth 100000 in
theorem cX_bucketHead_ok (l : Launch) (D : va_G) (cI cL : ClassId) (ad : Nat → Nat) (σ : Nat → Nat → Int32) (d : Nat) (hd : d < 8) : Met l yX_bucketHead wX_bucketHead ({ frames := 0, cells := 0, slots := 0, locals := 0 }) (hn_PR D vwCl (hn_ty cI cL) (hn_wX ad cI σ) [.ref (ad 0), .int (nI d)]) (QcRead (nI (384 + d * 16 + hn_bk (σ 2) 0))) 0 0 (fun _ => False) := by
  refine Met.ofW (cc := cX_bucketHead) (maxL := 4) (ret := (some .int)) (by decide) rfl ?_
  intro p e s m args below meth c s₁ B hml hv
  obtain ⟨rfl, hP, hK⟩ := hv
  have hx := B.exec
  have hb := B.bytes
  have hr := B.returns
  have hts0 := atoms_spec (ws := wX_bucketHead) B.pre
  have hts : ∀ w ∈ hn_tb, w.before _ s = true := fun w hw => hts0 w (List.mem_cons_of_mem _ hw)
  have hown : s.vm.findClass RX = some m.cls := findClass_of_methodNamed B.named
  have hlocks := B.notSynchronized
  have hl := lv_entry [.ref (ad 0), .int (nI d)] (n := 4) (Nat.le_of_ble_eq_true rfl)
  rw [lg_entry_eq]
  generalize (lg_sl [.ref (ad 0), .int (nI d)] ++ List.replicate (4 - (lg_sl [.ref (ad 0), .int (nI d)]).length) Slot.unset).toArray = ls at hl ⊢
  have hl : lv_has ls 4 [(0, .ref (ad 0)), (1, .int (nI d))] := hl
  refine lv_iconst (v := 0) hx hb dX_bucketHead_0 (by decide) ?_
  refine lv_istore_n (lv' := [(2, .int 0), (0, .ref (ad 0)), (1, .int (nI d))]) hx hb dX_bucketHead_1 rfl hl (by decide) rfl (fun ls hl => ?_)
  refine lv_iconst (v := 0) hx hb dX_bucketHead_2 (by decide) ?_
  refine lv_istore_n (lv' := [(3, .int 0), (2, .int 0), (0, .ref (ad 0)), (1, .int (nI d))]) hx hb dX_bucketHead_3 rfl hl (by decide) rfl (fun ls hl => ?_)
  suffices loop : ∀ (k i : Nat), i + k = 5 → ∀ ls : Array Slot, lv_has ls 4 [(0, .ref (ad 0)), (1, .int (nI d)), (2, .int (hn_h (σ 2) 0 i)), (3, .int (nI i))] → W p l e (headSpec wX_bucketHead ({ frames := 0, cells := 0, slots := 0, locals := 0 })).room s m [.ref (ad 0), .int (nI d)].toArray below meth c s.heap [] 0 0 (MQ below (QcRead (nI (384 + d * 16 + hn_bk (σ 2) 0))) [.ref (ad 0), .int (nI d)].toArray s 0 0 (fun _ => False)) (F0 m 4 ls []) from loop 5 0 rfl ls (lv_sub hl [2, 3, 1, 0] rfl)
  intro k
  induction k with
  | zero =>
    intro i hi ls hl
    have hi : i = 5 := hi
    subst hi
    refine lv_iload_n hx hb dX_bucketHead_4 rfl (lv_at hl 3 rfl) ?_
    refine lv_iconst (v := 5) hx hb dX_bucketHead_5 (by decide) ?_
    refine lv_icmp_ge (tgt := 27) hx hb dX_bucketHead_6 (by decide) (fun c_5 => ?_) (fun c_5 => absurd (show (5 : Int32) ≤ nI 5 by decide) c_5)
    refine lv_sipush (v := 384) hx hb dX_bucketHead_27 (by decide) ?_
    refine lv_iload_n hx hb dX_bucketHead_30 rfl (lv_at hl 1 rfl) ?_
    refine lv_bipush (v := 16) hx hb dX_bucketHead_31 (by decide) ?_
    refine lv_imul hx hb dX_bucketHead_33 ?_
    refine lv_iadd hx hb dX_bucketHead_34 ?_
    rw [show (384 + ((nI d) * 16) : Int32) = nI (384 + d * 16) from by rw [show (16 : Int32) = nI 16 from rfl, pk_mul, show (384 : Int32) = nI 384 from rfl, nI_add]]
    refine lv_iload_n hx hb dX_bucketHead_35 rfl (lv_at hl 2 rfl) ?_
    refine lv_bipush (v := 28) hx hb dX_bucketHead_36 (by decide) ?_
    refine lv_iushr (v := nI (hn_bk (σ 2) 0)) hx hb dX_bucketHead_38 (hn_ush28 _) ?_
    refine lv_iadd hx hb dX_bucketHead_39 ?_
    exact W.iret (v := ((nI (384 + d * 16)) + (nI (hn_bk (σ 2) 0)))) hx hb hr (fun t9 ht9 _ => ⟨congrArg (fun z => Outcome.returned (some (Value.int z))) (show ((nI (384 + d * 16)) + (nI (hn_bk (σ 2) 0)) : Int32) = nI (384 + d * 16 + hn_bk (σ 2) 0) from nI_add _ _), ht9⟩) (fun q h => nomatch h) dX_bucketHead_40
  | succ k ih =>
    intro i hi ls hl
    refine lv_iload_n hx hb dX_bucketHead_4 rfl (lv_at hl 3 rfl) ?_
    refine lv_iconst (v := 5) hx hb dX_bucketHead_5 (by decide) ?_
    refine lv_icmp_ge (tgt := 27) hx hb dX_bucketHead_6 (by decide) (fun c_6 => absurd c_6 (nI_ge (a := i) (b := 5) (by omega) (by decide))) (fun c_6 => ?_)
    refine lv_iload_n hx hb dX_bucketHead_9 rfl (lv_at hl 2 rfl) ?_
    refine lv_aload_n hx hb dX_bucketHead_10 rfl (lv_at hl 0 rfl) ?_
    refine va_get (D := D) (ci := 0) (v := .ref (ad 2)) (C := RX) (T := FX) (N := 10) hx hb hts iX hown hK hP 0 rfl rfl 1 (by decide) (hts _ mX_f_key) (fun _ h9 => h9) rfl dX_bucketHead_11 ?_
    refine lv_iload_n hx hb dX_bucketHead_14 rfl (lv_at hl 3 rfl) ?_
    refine va_iald hx hb hK hP 2 0 rfl rfl (vp_in_nI (show i < 5 from by omega) (by omega)) dX_bucketHead_15 ?_
    rw [nI_clamp (show i < 2 ^ 31 by omega)]
    refine lv_ixor hx hb dX_bucketHead_16 ?_
    refine lv_ldc (v := (-1640531535)) hx hb hown (hts _ mX_k_m1640531535) dX_bucketHead_17 ?_
    refine lv_imul hx hb dX_bucketHead_19 ?_
    rw [show (((hn_h (σ 2) 0 i) ^^^ ((σ 2) i)) * (-1640531535) : Int32) = hn_h (σ 2) 0 (i + 1) from by show _ = (hn_h (σ 2) 0 i ^^^ σ 2 (0 + i)) * _; rw [Nat.zero_add]]
    refine lv_istore_n (lv' := [(2, .int (hn_h (σ 2) 0 (i + 1))), (0, .ref (ad 0)), (1, .int (nI d)), (3, .int (nI i))]) hx hb dX_bucketHead_20 rfl hl (by decide) rfl (fun ls hl => ?_)
    refine lv_iinc (v := nI (i + 1)) (lv' := [(3, .int (nI (i + 1))), (2, .int (hn_h (σ 2) 0 (i + 1))), (0, .ref (ad 0)), (1, .int (nI d))]) hx hb dX_bucketHead_21 hl (k := 3) rfl (nI_1 i) (by decide) rfl (fun ls hl => ?_)
    refine lv_goto (tgt := 4) hx hb dX_bucketHead_24 (by decide) ?_
    exact ih (i + 1) (by omega) ls (lv_sub hl [2, 3, 1, 0] rfl)

set_option maxHeartbeats 4000000 in
set_option maxRecDepth 100000 in
theorem cX_compareWithKey_ok (l : Launch) (D : va_G) (cI cL : ClassId) (ad : Nat → Nat) (σ : Nat → Nat → Int32) (t : Nat) (ht : t < 384) : Met l yX_compareWithKey wX_compareWithKey ({ frames := 0, cells := 0, slots := 0, locals := 0 }) (hn_PR D vwCl (hn_ty cI cL) (hn_wX ad cI σ) [.ref (ad 0), .int (nI t)]) (QcRead (hn_cmp (hn_nm (σ 4) (5 * t)) (hn_nm (σ 2) 0))) 0 0 (fun _ => False) := by
  refine Met.ofW (cc := cX_compareWithKey) (maxL := 4) (ret := (some .int)) (by decide) rfl ?_
  intro p e s m args below meth c s₁ B hml hv
  obtain ⟨rfl, hP, hK⟩ := hv
  have hx := B.exec
  have hb := B.bytes
  have hr := B.returns
  have hts0 := atoms_spec (ws := wX_compareWithKey) B.pre
  have hts : ∀ w ∈ hn_tb, w.before _ s = true := fun w hw => hts0 w (List.mem_cons_of_mem _ hw)
  have hown : s.vm.findClass RX = some m.cls := findClass_of_methodNamed B.named
  have hlocks := B.notSynchronized
  have hl := lv_entry [.ref (ad 0), .int (nI t)] (n := 4) (Nat.le_of_ble_eq_true rfl)
  rw [lg_entry_eq]
  generalize (lg_sl [.ref (ad 0), .int (nI t)] ++ List.replicate (4 - (lg_sl [.ref (ad 0), .int (nI t)]).length) Slot.unset).toArray = ls at hl ⊢
  have hl : lv_has ls 4 [(0, .ref (ad 0)), (1, .int (nI t))] := hl
  refine lv_iconst (v := 0) hx hb dX_compareWithKey_0 (by decide) ?_
  refine lv_istore_n (lv' := [(2, .int 0), (0, .ref (ad 0)), (1, .int (nI t))]) hx hb dX_compareWithKey_1 rfl hl (by decide) rfl (fun ls hl => ?_)
  suffices loop : ∀ (k i : Nat), i + k = 5 → (∀ j, j < i → σ 4 (5 * t + j) = σ 2 j) → ∀ ls : Array Slot, lv_has ls 4 [(0, .ref (ad 0)), (1, .int (nI t)), (2, .int (nI i))] → W p l e (headSpec wX_compareWithKey ({ frames := 0, cells := 0, slots := 0, locals := 0 })).room s m [.ref (ad 0), .int (nI t)].toArray below meth c s.heap [] 0 0 (MQ below (QcRead (hn_cmp (hn_nm (σ 4) (5 * t)) (hn_nm (σ 2) 0))) [.ref (ad 0), .int (nI t)].toArray s 0 0 (fun _ => False)) (F0 m 2 ls []) from loop 5 0 rfl (fun j h => absurd h (Nat.not_lt_zero _)) ls (lv_sub hl [1, 2, 0] rfl)
  intro k
  induction k with
  | zero =>
    intro i hi hj ls hl
    have hi : i = 5 := hi
    subst hi
    refine lv_iload_n hx hb dX_compareWithKey_2 rfl (lv_at hl 2 rfl) ?_
    refine lv_iconst (v := 5) hx hb dX_compareWithKey_3 (by decide) ?_
    refine lv_icmp_ge (tgt := 56) hx hb dX_compareWithKey_4 (by decide) (fun c_7 => ?_) (fun c_7 => absurd (show (5 : Int32) ≤ nI 5 by decide) c_7)
    refine lv_iconst (v := 0) hx hb dX_compareWithKey_56 (by decide) ?_
    exact W.iret (v := 0) hx hb hr (fun t9 ht9 _ => ⟨congrArg (fun z => Outcome.returned (some (Value.int z))) (show (0 : Int32) = hn_cmp (hn_nm (σ 4) (5 * t)) (hn_nm (σ 2) 0) from (hn_cw0 hj).symm), ht9⟩) (fun q h => nomatch h) dX_compareWithKey_57
  | succ k ih =>
    intro i hi hj ls hl
    refine lv_iload_n hx hb dX_compareWithKey_2 rfl (lv_at hl 2 rfl) ?_
    refine lv_iconst (v := 5) hx hb dX_compareWithKey_3 (by decide) ?_
    refine lv_icmp_ge (tgt := 56) hx hb dX_compareWithKey_4 (by decide) (fun c_8 => absurd c_8 (nI_ge (a := i) (b := 5) (by omega) (by decide))) (fun c_8 => ?_)
    refine lv_aload_n hx hb dX_compareWithKey_7 rfl (lv_at hl 0 rfl) ?_
    refine va_get (D := D) (ci := 0) (v := .ref (ad 4)) (C := RX) (T := FX) (N := 10) hx hb hts iX hown hK hP 0 rfl rfl 4 (by decide) (hts _ mX_f_words) (fun _ h9 => h9) rfl dX_compareWithKey_8 ?_
    refine lv_iload_n hx hb dX_compareWithKey_11 rfl (lv_at hl 1 rfl) ?_
    refine lv_iconst (v := 5) hx hb dX_compareWithKey_12 (by decide) ?_
    refine lv_imul hx hb dX_compareWithKey_13 ?_
    refine lv_iload_n hx hb dX_compareWithKey_14 rfl (lv_at hl 2 rfl) ?_
    refine lv_iadd hx hb dX_compareWithKey_15 ?_
    rw [show (((nI t) * 5) + (nI i) : Int32) = nI (5 * t + i) from by rw [show (5 : Int32) = nI 5 from rfl, pk_mul, nI_add, Nat.mul_comm]]
    refine va_iald hx hb hK hP 4 0 rfl rfl (vp_in_nI (show 5 * t + i < 1920 from by omega) (by omega)) dX_compareWithKey_16 ?_
    rw [nI_clamp (show 5 * t + i < 2 ^ 31 by omega)]
    refine lv_istore_n (lv' := [(3, .int ((σ 4) (5 * t + i))), (0, .ref (ad 0)), (1, .int (nI t)), (2, .int (nI i))]) hx hb dX_compareWithKey_17 rfl hl (by decide) rfl (fun ls hl => ?_)
    refine lv_iload_n hx hb dX_compareWithKey_18 rfl (lv_at hl 0 rfl) ?_
    refine lv_aload_n hx hb dX_compareWithKey_19 rfl (lv_at hl 1 rfl) ?_
    refine va_get (D := D) (ci := 0) (v := .ref (ad 2)) (C := RX) (T := FX) (N := 10) hx hb hts iX hown hK hP 0 rfl rfl 1 (by decide) (hts _ mX_f_key) (fun _ h9 => h9) rfl dX_compareWithKey_20 ?_
    refine lv_iload_n hx hb dX_compareWithKey_23 rfl (lv_at hl 3 rfl) ?_
    refine va_iald hx hb hK hP 2 0 rfl rfl (vp_in_nI (show i < 5 from by omega) (by omega)) dX_compareWithKey_24 ?_
    rw [nI_clamp (show i < 2 ^ 31 by omega)]
    refine lv_icmp_eq (tgt := 50) hx hb dX_compareWithKey_25 (by decide) (fun c_9 => ?_) (fun c_9 => ?_)
    · skip
      refine lv_iinc (v := nI (i + 1)) (lv' := [(2, .int (nI (i + 1))), (3, .int ((σ 4) (5 * t + i))), (0, .ref (ad 0)), (1, .int (nI t))]) hx hb dX_compareWithKey_50 hl (k := 3) rfl (nI_1 i) (by decide) rfl (fun ls hl => ?_)
      refine lv_goto (tgt := 2) hx hb dX_compareWithKey_53 (by decide) ?_
      exact ih (i + 1) (by omega) (lt_s hj c_9) ls (lv_sub hl [2, 3, 0] rfl)
    · skip
      refine lv_iload_n hx hb dX_compareWithKey_28 rfl (lv_at hl 0 rfl) ?_
      refine lv_ldc (v := (-2147483648)) hx hb hown (hts _ mX_k_m2147483648) dX_compareWithKey_29 ?_
      refine lv_ixor hx hb dX_compareWithKey_31 ?_
      refine lv_aload_n hx hb dX_compareWithKey_32 rfl (lv_at hl 1 rfl) ?_
      refine va_get (D := D) (ci := 0) (v := .ref (ad 2)) (C := RX) (T := FX) (N := 10) hx hb hts iX hown hK hP 0 rfl rfl 1 (by decide) (hts _ mX_f_key) (fun _ h9 => h9) rfl dX_compareWithKey_33 ?_
      refine lv_iload_n hx hb dX_compareWithKey_36 rfl (lv_at hl 3 rfl) ?_
      refine va_iald hx hb hK hP 2 0 rfl rfl (vp_in_nI (show i < 5 from by omega) (by omega)) dX_compareWithKey_37 ?_
      rw [nI_clamp (show i < 2 ^ 31 by omega)]
      refine lv_ldc (v := (-2147483648)) hx hb hown (hts _ mX_k_m2147483648) dX_compareWithKey_38 ?_
      refine lv_ixor hx hb dX_compareWithKey_40 ?_
      refine lv_icmp_ge (tgt := 48) hx hb dX_compareWithKey_41 (by decide) (fun c_10 => ?_) (fun c_10 => ?_)
      · skip
        refine lv_iconst (v := 1) hx hb dX_compareWithKey_48 (by decide) ?_
        exact W.iret (v := 1) hx hb hr (fun t9 ht9 _ => ⟨congrArg (fun z => Outcome.returned (some (Value.int z))) (show (1 : Int32) = hn_cmp (hn_nm (σ 4) (5 * t)) (hn_nm (σ 2) 0) from (hn_cw2 (by omega) hj c_9 c_10).symm), ht9⟩) (fun q h => nomatch h) dX_compareWithKey_49
      · skip
        refine lv_iconst (v := (-1)) hx hb dX_compareWithKey_44 (by decide) ?_
        refine lv_goto (tgt := 49) hx hb dX_compareWithKey_45 (by decide) ?_
        exact W.iret (v := (-1)) hx hb hr (fun t9 ht9 _ => ⟨congrArg (fun z => Outcome.returned (some (Value.int z))) (show ((-1) : Int32) = hn_cmp (hn_nm (σ 4) (5 * t)) (hn_nm (σ 2) 0) from (hn_cw1 (by omega) hj c_10).symm), ht9⟩) (fun q h => nomatch h) dX_compareWithKey_49

set_option maxHeartbeats 4000000 in
set_option maxRecDepth 100000 in
theorem cX_placeBeforeKey_ok (l : Launch) (D : va_G) (cI cL : ClassId) (ad : Nat → Nat) (σ : Nat → Nat → Int32) (q0 n a : Nat) (f : Nat → Int32) (hq : (hn_wX ad cI σ)[q0]? = some (a, .inl (cI, n, .inl f))) (hn9 : 384 ≤ n) (hn8 : n < 2 ^ 31) (h : Nat) (hh : h < n) (l9 : List Nat) (hlen : l9.length ≤ 48) (hch : hn_ch f h l9) : Met l yX_placeBeforeKey wX_placeBeforeKey ({ frames := 1, cells := 0, slots := 0, locals := 23 }) (hn_PR D vwCl (hn_ty cI cL) (hn_wX ad cI σ) [.ref (ad 0), .ref a, .int (nI h)]) (QcRead (nI (hn_pl (hn_ns σ) (hn_nm (σ 2) 0) h l9))) 0 0 (fun _ => False) := by
  refine Met.ofW (cc := cX_placeBeforeKey) (maxL := 6) (ret := (some .int)) (by decide) rfl ?_
  intro p e s m args below meth c s₁ B hml hv
  obtain ⟨rfl, hP, hK⟩ := hv
  have hx := B.exec
  have hb := B.bytes
  have hr := B.returns
  have hts0 := atoms_spec (ws := wX_placeBeforeKey) B.pre
  have hts : ∀ w ∈ hn_tb, w.before _ s = true := fun w hw => hts0 w (List.mem_cons_of_mem _ hw)
  have hown : s.vm.findClass RX = some m.cls := findClass_of_methodNamed B.named
  have hlocks := B.notSynchronized
  have hl := lv_entry [.ref (ad 0), .ref a, .int (nI h)] (n := 6) (Nat.le_of_ble_eq_true rfl)
  rw [lg_entry_eq]
  generalize (lg_sl [.ref (ad 0), .ref a, .int (nI h)] ++ List.replicate (6 - (lg_sl [.ref (ad 0), .ref a, .int (nI h)]).length) Slot.unset).toArray = ls at hl ⊢
  have hl : lv_has ls 6 [(0, .ref (ad 0)), (1, .ref a), (2, .int (nI h))] := hl
  refine lv_iload_n hx hb dX_placeBeforeKey_0 rfl (lv_at hl 2 rfl) ?_
  refine lv_istore_n (lv' := [(3, .int (nI h)), (0, .ref (ad 0)), (1, .ref a), (2, .int (nI h))]) hx hb dX_placeBeforeKey_1 rfl hl (by decide) rfl (fun ls hl => ?_)
  refine lv_iconst (v := 0) hx hb dX_placeBeforeKey_2 (by decide) ?_
  refine lv_istore (lv' := [(4, .int 0), (3, .int (nI h)), (0, .ref (ad 0)), (1, .ref a), (2, .int (nI h))]) hx hb dX_placeBeforeKey_3 hl (by decide) rfl (fun ls hl => ?_)
  suffices loop : ∀ (k i p9 : Nat) (r : List Nat), i + k = 48 → r.length ≤ k → p9 < n → hn_ch f p9 r → hn_pl (hn_ns σ) (hn_nm (σ 2) 0) p9 r = hn_pl (hn_ns σ) (hn_nm (σ 2) 0) h l9 → ∀ ls : Array Slot, lv_has ls 6 [(0, .ref (ad 0)), (1, .ref a), (3, .int (nI p9)), (4, .int (nI i))] → W p l e (headSpec wX_placeBeforeKey ({ frames := 1, cells := 0, slots := 0, locals := 23 })).room s m [.ref (ad 0), .ref a, .int (nI h)].toArray below meth c s.heap [] 0 0 (MQ below (QcRead (nI (hn_pl (hn_ns σ) (hn_nm (σ 2) 0) h l9))) [.ref (ad 0), .ref a, .int (nI h)].toArray s 0 0 (fun _ => False)) (F0 m 5 ls []) from loop 48 0 h l9 rfl hlen hh hch rfl ls (lv_sub hl [2, 3, 1, 0] rfl)
  intro k
  induction k with
  | zero =>
    intro i p9 r hi hr9 hp hc hpl ls hl
    have hi : i = 48 := hi
    subst hi
    have hr0 : r = [] := List.eq_nil_of_length_eq_zero (Nat.le_zero.mp hr9)
    subst hr0
    refine lv_iload hx hb dX_placeBeforeKey_5 (lv_at hl 3 rfl) ?_
    refine lv_bipush (v := 48) hx hb dX_placeBeforeKey_7 (by decide) ?_
    refine lv_icmp_ge (tgt := 46) hx hb dX_placeBeforeKey_9 (by decide) (fun c_11 => ?_) (fun c_11 => absurd (show (48 : Int32) ≤ nI 48 by decide) c_11)
    refine lv_iload_n hx hb dX_placeBeforeKey_46 rfl (lv_at hl 2 rfl) ?_
    exact W.iret (v := (nI p9)) hx hb hr (fun t9 ht9 _ => ⟨congrArg (fun z => Outcome.returned (some (Value.int z))) (show (nI p9 : Int32) = nI (hn_pl (hn_ns σ) (hn_nm (σ 2) 0) h l9) from congrArg nI hpl), ht9⟩) (fun q h => nomatch h) dX_placeBeforeKey_47
  | succ k ih =>
    intro i p9 r hi hr9 hp hc hpl ls hl
    refine lv_iload hx hb dX_placeBeforeKey_5 (lv_at hl 3 rfl) ?_
    refine lv_bipush (v := 48) hx hb dX_placeBeforeKey_7 (by decide) ?_
    refine lv_icmp_ge (tgt := 46) hx hb dX_placeBeforeKey_9 (by decide) (fun c_12 => absurd c_12 (nI_ge (a := i) (b := 48) (by omega) (by decide))) (fun c_12 => ?_)
    refine lv_aload_n hx hb dX_placeBeforeKey_12 rfl (lv_at hl 1 rfl) ?_
    refine lv_iload_n hx hb dX_placeBeforeKey_13 rfl (lv_at hl 2 rfl) ?_
    refine va_iald hx hb hK hP q0 0 hq rfl (vp_in_nI (show p9 < n from hp) (by omega)) dX_placeBeforeKey_14 ?_
    rw [nI_clamp (show p9 < 2 ^ 31 by omega)]
    cases r with
    | nil =>
      rw [show f p9 = -1 from hc]
      refine lv_istore (lv' := [(5, .int (-1)), (0, .ref (ad 0)), (1, .ref a), (3, .int (nI p9)), (4, .int (nI i))]) hx hb dX_placeBeforeKey_15 hl (by decide) rfl (fun ls hl => ?_)
      refine lv_iload hx hb dX_placeBeforeKey_17 (lv_at hl 0 rfl) ?_
      refine W.callR (W.runS (As := [.int (-1)]) (rest := []) ⟨hx, hb, hml, hown, hts⟩ (cX_isSlot_ok l (-1)) (cwS 1 hts gX_X_isSlot rfl rfl rfl (by decide +kernel) ⟨Nat.le_of_ble_eq_true rfl, Nat.le_of_ble_eq_true rfl⟩) hn_pre0 rfl rfl hl.1 rfl (lv_room (Nat.le_of_ble_eq_true rfl)) dX_placeBeforeKey_19 ⟨Nat.zero_le _, Nat.zero_le _⟩) ?_
      refine W.eq (g2 := F0 m 22 ls [.int (hn_isl (-1))]) rfl ?_
      rw [show (hn_isl (-1) : Int32) = 0 from hn_isl_m1]
      refine lv_if_eq (tgt := 46) hx hb dX_placeBeforeKey_22 (by decide) (fun c_13 => ?_) (fun c_13 => absurd rfl c_13)
      refine lv_iload_n hx hb dX_placeBeforeKey_46 rfl (lv_at hl 3 rfl) ?_
      exact W.iret (v := (nI p9)) hx hb hr (fun t9 ht9 _ => ⟨congrArg (fun z => Outcome.returned (some (Value.int z))) (show (nI p9 : Int32) = nI (hn_pl (hn_ns σ) (hn_nm (σ 2) 0) h l9) from congrArg nI hpl), ht9⟩) (fun q h => nomatch h) dX_placeBeforeKey_47
    | cons t r =>
      obtain ⟨hc1, hc2, hc3⟩ := hc
      rw [hc1]
      refine lv_istore (lv' := [(5, .int (nI t)), (0, .ref (ad 0)), (1, .ref a), (3, .int (nI p9)), (4, .int (nI i))]) hx hb dX_placeBeforeKey_15 hl (by decide) rfl (fun ls hl => ?_)
      refine lv_iload hx hb dX_placeBeforeKey_17 (lv_at hl 0 rfl) ?_
      refine W.callR (W.runS (As := [.int (nI t)]) (rest := []) ⟨hx, hb, hml, hown, hts⟩ (cX_isSlot_ok l (nI t)) (cwS 1 hts gX_X_isSlot rfl rfl rfl (by decide +kernel) ⟨Nat.le_of_ble_eq_true rfl, Nat.le_of_ble_eq_true rfl⟩) hn_pre0 rfl rfl hl.1 rfl (lv_room (Nat.le_of_ble_eq_true rfl)) dX_placeBeforeKey_19 ⟨Nat.zero_le _, Nat.zero_le _⟩) ?_
      refine W.eq (g2 := F0 m 22 ls [.int (hn_isl (nI t))]) rfl ?_
      rw [show (hn_isl (nI t) : Int32) = 1 from hn_isl_n hc2]
      refine lv_if_eq (tgt := 46) hx hb dX_placeBeforeKey_22 (by decide) (fun c_14 => absurd c_14 (by decide)) (fun c_14 => ?_)
      refine lv_aload_n hx hb dX_placeBeforeKey_25 rfl (lv_at hl 1 rfl) ?_
      refine lv_iload hx hb dX_placeBeforeKey_26 (lv_at hl 0 rfl) ?_
      refine W.callR (W.runV (As := [.int (nI t)]) (rest := []) ⟨hx, hb, hml, hown, hts⟩ (cX_compareWithKey_ok l D cI cL ad σ t hc2) (cwV 1 hts gX_X_compareWithKey rfl rfl rfl (by decide +kernel) ⟨Nat.le_of_ble_eq_true rfl, Nat.le_of_ble_eq_true rfl⟩) (hn_preV hP hK (ci := 0) (q0 := 0) rfl rfl) rfl rfl hl.1 rfl (lv_room (Nat.le_of_ble_eq_true rfl)) dX_placeBeforeKey_28 ⟨Nat.zero_le _, Nat.zero_le _⟩) ?_
      refine W.eq (g2 := F0 m 31 ls [.int (hn_cmp (hn_ns σ t) (hn_nm (σ 2) 0))]) rfl ?_
      refine lv_if_lt (tgt := 37) hx hb dX_placeBeforeKey_31 (by decide) (fun c_15 => ?_) (fun c_15 => ?_)
      · skip
        refine lv_iload hx hb dX_placeBeforeKey_37 (lv_at hl 0 rfl) ?_
        refine lv_istore_n (lv' := [(3, .int (nI t)), (5, .int (nI t)), (0, .ref (ad 0)), (1, .ref a), (4, .int (nI i))]) hx hb dX_placeBeforeKey_39 rfl hl (by decide) rfl (fun ls hl => ?_)
        refine lv_iinc (v := nI (i + 1)) (lv' := [(4, .int (nI (i + 1))), (3, .int (nI t)), (5, .int (nI t)), (0, .ref (ad 0)), (1, .ref a)]) hx hb dX_placeBeforeKey_40 hl (k := 4) rfl (nI_1 i) (by decide) rfl (fun ls hl => ?_)
        refine lv_goto (tgt := 5) hx hb dX_placeBeforeKey_43 (by decide) ?_
        exact ih (i + 1) t r (by omega) (by have : r.length + 1 ≤ k + 1 := hr9; omega) (by omega) hc3 (by rw [← hpl]; exact (if_pos (hn_cmp_neg.mp c_15)).symm) ls (lv_sub hl [3, 4, 1, 0] rfl)
      · skip
        refine lv_goto (tgt := 46) hx hb dX_placeBeforeKey_34 (by decide) ?_
        refine lv_iload_n hx hb dX_placeBeforeKey_46 rfl (lv_at hl 3 rfl) ?_
        exact W.iret (v := (nI p9)) hx hb hr (fun t9 ht9 _ => ⟨congrArg (fun z => Outcome.returned (some (Value.int z))) (show (nI p9 : Int32) = nI (hn_pl (hn_ns σ) (hn_nm (σ 2) 0) h l9) from congrArg nI (show p9 = hn_pl (hn_ns σ) (hn_nm (σ 2) 0) h l9 by rw [← hpl]; exact (if_neg (fun z => c_15 (hn_cmp_neg.mpr z))).symm)), ht9⟩) (fun q h => nomatch h) dX_placeBeforeKey_47

set_option maxHeartbeats 4000000 in
set_option maxRecDepth 100000 in
theorem cX_slotOfKey_ok (l : Launch) (D : va_G) (cI cL : ClassId) (ad : Nat → Nat) (σ : Nat → Nat → Int32) (d : Nat) (hd : d < 8) (l9 : List Nat) (hlen : l9.length ≤ 48) (hch : hn_ch (σ 8) (384 + d * 16 + hn_bk (σ 2) 0) l9) : Met l yX_slotOfKey wX_slotOfKey ({ frames := 2, cells := 0, slots := 0, locals := 48 }) (hn_PR D vwCl (hn_ty cI cL) (hn_wX ad cI σ) [.ref (ad 0), .int (nI d)]) (QcRead (hn_find (hn_ns σ) (hn_nm (σ 2) 0) l9)) 0 0 (fun _ => False) := by
  refine Met.ofW (cc := cX_slotOfKey) (maxL := 3) (ret := (some .int)) (by decide) rfl ?_
  intro p e s m args below meth c s₁ B hml hv
  obtain ⟨rfl, hP, hK⟩ := hv
  have hx := B.exec
  have hb := B.bytes
  have hr := B.returns
  have hts0 := atoms_spec (ws := wX_slotOfKey) B.pre
  have hts : ∀ w ∈ hn_tb, w.before _ s = true := fun w hw => hts0 w (List.mem_cons_of_mem _ hw)
  have hown : s.vm.findClass RX = some m.cls := findClass_of_methodNamed B.named
  have hlocks := B.notSynchronized
  have hl := lv_entry [.ref (ad 0), .int (nI d)] (n := 3) (Nat.le_of_ble_eq_true rfl)
  rw [lg_entry_eq]
  generalize (lg_sl [.ref (ad 0), .int (nI d)] ++ List.replicate (3 - (lg_sl [.ref (ad 0), .int (nI d)]).length) Slot.unset).toArray = ls at hl ⊢
  have hl : lv_has ls 3 [(0, .ref (ad 0)), (1, .int (nI d))] := hl
  refine lv_aload_n hx hb dX_slotOfKey_0 rfl (lv_at hl 0 rfl) ?_
  refine va_get (D := D) (ci := 0) (v := .ref (ad 8)) (C := RX) (T := FX) (N := 10) hx hb hts iX hown hK hP 0 rfl rfl 8 (by decide) (hts _ mX_f_bucketLinks) (fun _ h9 => h9) rfl dX_slotOfKey_1 ?_
  refine lv_aload_n hx hb dX_slotOfKey_4 rfl (lv_at hl 0 rfl) ?_
  refine lv_aload_n hx hb dX_slotOfKey_5 rfl (lv_at hl 0 rfl) ?_
  refine va_get (D := D) (ci := 0) (v := .ref (ad 8)) (C := RX) (T := FX) (N := 10) hx hb hts iX hown hK hP 0 rfl rfl 8 (by decide) (hts _ mX_f_bucketLinks) (fun _ h9 => h9) rfl dX_slotOfKey_6 ?_
  refine lv_aload_n hx hb dX_slotOfKey_9 rfl (lv_at hl 0 rfl) ?_
  refine lv_iload_n hx hb dX_slotOfKey_10 rfl (lv_at hl 1 rfl) ?_
  refine W.callR (W.runV (As := [.int (nI d)]) (rest := [.ref (ad 8), .ref (ad 0), .ref (ad 8)]) ⟨hx, hb, hml, hown, hts⟩ (cX_bucketHead_ok l D cI cL ad σ d hd) (cwV 1 hts gX_X_bucketHead rfl rfl rfl (by decide +kernel) ⟨Nat.le_of_ble_eq_true rfl, Nat.le_of_ble_eq_true rfl⟩) (hn_preV hP hK (ci := 0) (q0 := 0) rfl rfl) rfl rfl hl.1 rfl (lv_room (Nat.le_of_ble_eq_true rfl)) dX_slotOfKey_11 ⟨Nat.zero_le _, Nat.zero_le _⟩) ?_
  refine W.eq (g2 := F0 m 14 ls [.int (nI (384 + d * 16 + hn_bk (σ 2) 0)), .ref (ad 8), .ref (ad 0), .ref (ad 8)]) rfl ?_
  have hb16 := hn_bk_lt (σ 2) 0
  refine W.callR (W.runV (As := [.ref (ad 8), .int (nI (384 + d * 16 + hn_bk (σ 2) 0))]) (rest := [.ref (ad 8)]) ⟨hx, hb, hml, hown, hts⟩ (cX_placeBeforeKey_ok l D cI cL ad σ 8 512 (ad 8) (σ 8) rfl (by decide) (by decide) (384 + d * 16 + hn_bk (σ 2) 0) (by omega) l9 hlen hch) (cwV 2 hts gX_X_placeBeforeKey rfl rfl rfl (by decide +kernel) ⟨Nat.le_of_ble_eq_true rfl, Nat.le_of_ble_eq_true rfl⟩) (hn_preV hP hK (ci := 0) (q0 := 0) rfl rfl) rfl rfl hl.1 rfl (lv_room (Nat.le_of_ble_eq_true rfl)) dX_slotOfKey_14 ⟨Nat.zero_le _, Nat.zero_le _⟩) ?_
  refine W.eq (g2 := F0 m 17 ls [.int (nI (hn_pl (hn_ns σ) (hn_nm (σ 2) 0) (384 + d * 16 + hn_bk (σ 2) 0) l9)), .ref (ad 8)]) rfl ?_
  have hpl : hn_pl (hn_ns σ) (hn_nm (σ 2) 0) (384 + d * 16 + hn_bk (σ 2) 0) l9 < 512 := by
    rcases hn_pl_mem (hn_ns σ) (hn_nm (σ 2) 0) l9 (384 + d * 16 + hn_bk (σ 2) 0) with z | z
    · rw [z]; omega
    · exact Nat.lt_trans (hn_ch_lt hch _ z) (by decide)
  refine va_iald hx hb hK hP 8 0 rfl rfl (vp_in_nI (show hn_pl (hn_ns σ) (hn_nm (σ 2) 0) (384 + d * 16 + hn_bk (σ 2) 0) l9 < 512 from hpl) (by omega)) dX_slotOfKey_17 ?_
  rw [nI_clamp (show hn_pl (hn_ns σ) (hn_nm (σ 2) 0) (384 + d * 16 + hn_bk (σ 2) 0) l9 < 2 ^ 31 by omega)]
  rcases hn_pl_next (nm := hn_ns σ) (K := hn_nm (σ 2) 0) hch with ⟨hf, hv9⟩ | ⟨t, hf, hv9, ht9, hge⟩
  · rw [hv9]
    refine lv_istore_n (lv' := [(2, .int (-1)), (0, .ref (ad 0)), (1, .int (nI d))]) hx hb dX_slotOfKey_18 rfl hl (by decide) rfl (fun ls hl => ?_)
    refine lv_iload_n hx hb dX_slotOfKey_19 rfl (lv_at hl 0 rfl) ?_
    refine W.callR (W.runS (As := [.int (-1)]) (rest := []) ⟨hx, hb, hml, hown, hts⟩ (cX_isSlot_ok l (-1)) (cwS 1 hts gX_X_isSlot rfl rfl rfl (by decide +kernel) ⟨Nat.le_of_ble_eq_true rfl, Nat.le_of_ble_eq_true rfl⟩) hn_pre0 rfl rfl hl.1 rfl (lv_room (Nat.le_of_ble_eq_true rfl)) dX_slotOfKey_20 ⟨Nat.zero_le _, Nat.zero_le _⟩) ?_
    refine W.eq (g2 := F0 m 23 ls [.int (hn_isl (-1))]) rfl ?_
    rw [show (hn_isl (-1) : Int32) = 0 from hn_isl_m1]
    refine lv_if_eq (tgt := 38) hx hb dX_slotOfKey_23 (by decide) (fun c_16 => ?_) (fun c_16 => absurd rfl c_16)
    refine lv_iconst (v := (-1)) hx hb dX_slotOfKey_38 (by decide) ?_
    exact W.iret (v := (-1)) hx hb hr (fun t9 ht9 _ => ⟨congrArg (fun z => Outcome.returned (some (Value.int z))) (show ((-1) : Int32) = hn_find (hn_ns σ) (hn_nm (σ 2) 0) l9 from (show (-1 : Int32) = hn_find _ _ _ by unfold hn_find; rw [hf])), ht9⟩) (fun q h => nomatch h) dX_slotOfKey_39
  · rw [hv9]
    have ht8 := hn_ch_lt hch t ht9
    refine lv_istore_n (lv' := [(2, .int (nI t)), (0, .ref (ad 0)), (1, .int (nI d))]) hx hb dX_slotOfKey_18 rfl hl (by decide) rfl (fun ls hl => ?_)
    refine lv_iload_n hx hb dX_slotOfKey_19 rfl (lv_at hl 0 rfl) ?_
    refine W.callR (W.runS (As := [.int (nI t)]) (rest := []) ⟨hx, hb, hml, hown, hts⟩ (cX_isSlot_ok l (nI t)) (cwS 1 hts gX_X_isSlot rfl rfl rfl (by decide +kernel) ⟨Nat.le_of_ble_eq_true rfl, Nat.le_of_ble_eq_true rfl⟩) hn_pre0 rfl rfl hl.1 rfl (lv_room (Nat.le_of_ble_eq_true rfl)) dX_slotOfKey_20 ⟨Nat.zero_le _, Nat.zero_le _⟩) ?_
    refine W.eq (g2 := F0 m 23 ls [.int (hn_isl (nI t))]) rfl ?_
    rw [show (hn_isl (nI t) : Int32) = 1 from hn_isl_n ht8]
    refine lv_if_eq (tgt := 38) hx hb dX_slotOfKey_23 (by decide) (fun c_17 => absurd c_17 (by decide)) (fun c_17 => ?_)
    refine lv_aload_n hx hb dX_slotOfKey_26 rfl (lv_at hl 1 rfl) ?_
    refine lv_iload_n hx hb dX_slotOfKey_27 rfl (lv_at hl 0 rfl) ?_
    refine W.callR (W.runV (As := [.int (nI t)]) (rest := []) ⟨hx, hb, hml, hown, hts⟩ (cX_compareWithKey_ok l D cI cL ad σ t ht8) (cwV 1 hts gX_X_compareWithKey rfl rfl rfl (by decide +kernel) ⟨Nat.le_of_ble_eq_true rfl, Nat.le_of_ble_eq_true rfl⟩) (hn_preV hP hK (ci := 0) (q0 := 0) rfl rfl) rfl rfl hl.1 rfl (lv_room (Nat.le_of_ble_eq_true rfl)) dX_slotOfKey_28 ⟨Nat.zero_le _, Nat.zero_le _⟩) ?_
    refine W.eq (g2 := F0 m 31 ls [.int (hn_cmp (hn_ns σ t) (hn_nm (σ 2) 0))]) rfl ?_
    refine lv_if_ne (tgt := 38) hx hb dX_slotOfKey_31 (by decide) (fun c_18 => ?_) (fun c_18 => ?_)
    · skip
      refine lv_iconst (v := (-1)) hx hb dX_slotOfKey_38 (by decide) ?_
      exact W.iret (v := (-1)) hx hb hr (fun t9 ht9 _ => ⟨congrArg (fun z => Outcome.returned (some (Value.int z))) (show ((-1) : Int32) = hn_find (hn_ns σ) (hn_nm (σ 2) 0) l9 from (show (-1 : Int32) = hn_find _ _ _ by unfold hn_find; rw [hf]; exact (if_neg (fun z => c_18 (hn_cmp_zero.mpr z))).symm)), ht9⟩) (fun q h => nomatch h) dX_slotOfKey_39
    · skip
      refine lv_iload_n hx hb dX_slotOfKey_34 rfl (lv_at hl 0 rfl) ?_
      refine lv_goto (tgt := 39) hx hb dX_slotOfKey_35 (by decide) ?_
      exact W.iret (v := (nI t)) hx hb hr (fun t9 ht9 _ => ⟨congrArg (fun z => Outcome.returned (some (Value.int z))) (show (nI t : Int32) = hn_find (hn_ns σ) (hn_nm (σ 2) 0) l9 from (show nI t = hn_find _ _ _ by unfold hn_find; rw [hf]; exact (if_pos (hn_cmp_zero.mp c_18)).symm)), ht9⟩) (fun q h => nomatch h) dX_slotOfKey_39

set_option maxHeartbeats 4000000 in
set_option maxRecDepth 100000 in
theorem cX_freeSlot_ok (l : Launch) (D : va_G) (cI cL : ClassId) (ad : Nat → Nat) (σ : Nat → Nat → Int32) (d : Nat) (hd : d < 8) : Met l yX_freeSlot wX_freeSlot ({ frames := 0, cells := 0, slots := 0, locals := 0 }) (hn_PR D vwCl (hn_ty cI cL) (hn_wX ad cI σ) [.ref (ad 0), .int (nI d)]) (QcRead (hn_fr (σ 5) (d * 48) 48)) 0 0 (fun _ => False) := by
  refine Met.ofW (cc := cX_freeSlot) (maxL := 4) (ret := (some .int)) (by decide) rfl ?_
  intro p e s m args below meth c s₁ B hml hv
  obtain ⟨rfl, hP, hK⟩ := hv
  have hx := B.exec
  have hb := B.bytes
  have hr := B.returns
  have hts0 := atoms_spec (ws := wX_freeSlot) B.pre
  have hts : ∀ w ∈ hn_tb, w.before _ s = true := fun w hw => hts0 w (List.mem_cons_of_mem _ hw)
  have hown : s.vm.findClass RX = some m.cls := findClass_of_methodNamed B.named
  have hlocks := B.notSynchronized
  have hl := lv_entry [.ref (ad 0), .int (nI d)] (n := 4) (Nat.le_of_ble_eq_true rfl)
  rw [lg_entry_eq]
  generalize (lg_sl [.ref (ad 0), .int (nI d)] ++ List.replicate (4 - (lg_sl [.ref (ad 0), .int (nI d)]).length) Slot.unset).toArray = ls at hl ⊢
  have hl : lv_has ls 4 [(0, .ref (ad 0)), (1, .int (nI d))] := hl
  refine lv_iload_n hx hb dX_freeSlot_0 rfl (lv_at hl 1 rfl) ?_
  refine lv_bipush (v := 48) hx hb dX_freeSlot_1 (by decide) ?_
  refine lv_imul hx hb dX_freeSlot_3 ?_
  rw [show ((nI d) * 48 : Int32) = nI (d * 48) from pk_mul d 48]
  refine lv_istore_n (lv' := [(2, .int (nI (d * 48))), (0, .ref (ad 0)), (1, .int (nI d))]) hx hb dX_freeSlot_4 rfl hl (by decide) rfl (fun ls hl => ?_)
  refine lv_iload_n hx hb dX_freeSlot_5 rfl (lv_at hl 0 rfl) ?_
  refine lv_istore_n (lv' := [(3, .int (nI (d * 48))), (2, .int (nI (d * 48))), (0, .ref (ad 0)), (1, .int (nI d))]) hx hb dX_freeSlot_6 rfl hl (by decide) rfl (fun ls hl => ?_)
  suffices loop : ∀ (k i : Nat), i + k = d * 48 + 48 → hn_fr (σ 5) i k = hn_fr (σ 5) (d * 48) 48 → ∀ ls : Array Slot, lv_has ls 4 [(0, .ref (ad 0)), (2, .int (nI (d * 48))), (3, .int (nI i))] → W p l e (headSpec wX_freeSlot ({ frames := 0, cells := 0, slots := 0, locals := 0 })).room s m [.ref (ad 0), .int (nI d)].toArray below meth c s.heap [] 0 0 (MQ below (QcRead (hn_fr (σ 5) (d * 48) 48)) [.ref (ad 0), .int (nI d)].toArray s 0 0 (fun _ => False)) (F0 m 7 ls []) from loop 48 (d * 48) rfl rfl ls (lv_sub hl [2, 1, 0] rfl)
  intro k
  induction k with
  | zero =>
    intro i hi hf ls hl
    refine lv_iload_n hx hb dX_freeSlot_7 rfl (lv_at hl 2 rfl) ?_
    refine lv_iload_n hx hb dX_freeSlot_8 rfl (lv_at hl 1 rfl) ?_
    refine lv_bipush (v := 48) hx hb dX_freeSlot_9 (by decide) ?_
    refine lv_iadd hx hb dX_freeSlot_11 ?_
    rw [show ((nI (d * 48)) + 48 : Int32) = nI (d * 48 + 48) from nI_add _ 48]
    refine lv_icmp_ge (tgt := 32) hx hb dX_freeSlot_12 (by decide) (fun c_19 => ?_) (fun c_19 => absurd (nI_le (show d * 48 + 48 ≤ i by omega) (by omega)) c_19)
    refine lv_iconst (v := (-1)) hx hb dX_freeSlot_32 (by decide) ?_
    exact W.iret (v := (-1)) hx hb hr (fun t9 ht9 _ => ⟨congrArg (fun z => Outcome.returned (some (Value.int z))) (show ((-1) : Int32) = hn_fr (σ 5) (d * 48) 48 from hf), ht9⟩) (fun q h => nomatch h) dX_freeSlot_33
  | succ k ih =>
    intro i hi hf ls hl
    refine lv_iload_n hx hb dX_freeSlot_7 rfl (lv_at hl 2 rfl) ?_
    refine lv_iload_n hx hb dX_freeSlot_8 rfl (lv_at hl 1 rfl) ?_
    refine lv_bipush (v := 48) hx hb dX_freeSlot_9 (by decide) ?_
    refine lv_iadd hx hb dX_freeSlot_11 ?_
    rw [show ((nI (d * 48)) + 48 : Int32) = nI (d * 48 + 48) from nI_add _ 48]
    refine lv_icmp_ge (tgt := 32) hx hb dX_freeSlot_12 (by decide) (fun c_20 => absurd c_20 (nI_ge (a := i) (b := d * 48 + 48) (by omega) (by omega))) (fun c_20 => ?_)
    refine lv_aload_n hx hb dX_freeSlot_15 rfl (lv_at hl 0 rfl) ?_
    refine va_get (D := D) (ci := 0) (v := .ref (ad 5)) (C := RX) (T := FX) (N := 10) hx hb hts iX hown hK hP 0 rfl rfl 5 (by decide) (hts _ mX_f_lengths) (fun _ h9 => h9) rfl dX_freeSlot_16 ?_
    refine lv_iload_n hx hb dX_freeSlot_19 rfl (lv_at hl 2 rfl) ?_
    refine va_iald hx hb hK hP 5 0 rfl rfl (vp_in_nI (show i < 384 from by omega) (by omega)) dX_freeSlot_20 ?_
    rw [nI_clamp (show i < 2 ^ 31 by omega)]
    refine lv_if_ne (tgt := 26) hx hb dX_freeSlot_21 (by decide) (fun c_21 => ?_) (fun c_21 => ?_)
    · skip
      refine lv_iinc (v := nI (i + 1)) (lv' := [(3, .int (nI (i + 1))), (0, .ref (ad 0)), (2, .int (nI (d * 48)))]) hx hb dX_freeSlot_26 hl (k := 2) rfl (nI_1 i) (by decide) rfl (fun ls hl => ?_)
      refine lv_goto (tgt := 7) hx hb dX_freeSlot_29 (by decide) ?_
      exact ih (i + 1) (by omega) (by rw [← hf]; exact (if_neg c_21).symm) ls (lv_sub hl [1, 2, 0] rfl)
    · skip
      refine lv_iload_n hx hb dX_freeSlot_24 rfl (lv_at hl 2 rfl) ?_
      exact W.iret (v := (nI i)) hx hb hr (fun t9 ht9 _ => ⟨congrArg (fun z => Outcome.returned (some (Value.int z))) (show (nI i : Int32) = hn_fr (σ 5) (d * 48) 48 from (by rw [← hf]; exact (if_pos c_21).symm)), ht9⟩) (fun q h => nomatch h) dX_freeSlot_25

set_option maxHeartbeats 4000000 in
set_option maxRecDepth 100000 in
theorem cX_slotInOrder_ok (l : Launch) (D : va_G) (cI cL : ClassId) (ad : Nat → Nat) (σ : Nat → Nat → Int32) (d : Nat) (hd : d < 8) (l9 : List Nat) (hlen : l9.length ≤ 48) (hcnt : σ 7 d = nI l9.length) (hch : hn_ch (σ 9) (384 + d) l9) (k9 : Nat) (hk9 : k9 < 2 ^ 31) : Met l yX_slotInOrder wX_slotInOrder ({ frames := 1, cells := 0, slots := 0, locals := 20 }) (hn_PR D vwCl (hn_ty cI cL) (hn_wX ad cI σ) [.ref (ad 0), .int (nI d), .int (nI k9)]) (QcRead (hn_nth l9 k9)) 0 0 (fun _ => False) := by
  refine Met.ofW (cc := cX_slotInOrder) (maxL := 5) (ret := (some .int)) (by decide) rfl ?_
  intro p e s m args below meth c s₁ B hml hv
  obtain ⟨rfl, hP, hK⟩ := hv
  have hx := B.exec
  have hb := B.bytes
  have hr := B.returns
  have hts0 := atoms_spec (ws := wX_slotInOrder) B.pre
  have hts : ∀ w ∈ hn_tb, w.before _ s = true := fun w hw => hts0 w (List.mem_cons_of_mem _ hw)
  have hown : s.vm.findClass RX = some m.cls := findClass_of_methodNamed B.named
  have hlocks := B.notSynchronized
  have hl := lv_entry [.ref (ad 0), .int (nI d), .int (nI k9)] (n := 5) (Nat.le_of_ble_eq_true rfl)
  rw [lg_entry_eq]
  generalize (lg_sl [.ref (ad 0), .int (nI d), .int (nI k9)] ++ List.replicate (5 - (lg_sl [.ref (ad 0), .int (nI d), .int (nI k9)]).length) Slot.unset).toArray = ls at hl ⊢
  have hl : lv_has ls 5 [(0, .ref (ad 0)), (1, .int (nI d)), (2, .int (nI k9))] := hl
  refine lv_iload_n hx hb dX_slotInOrder_0 rfl (lv_at hl 2 rfl) ?_
  refine lv_aload_n hx hb dX_slotInOrder_1 rfl (lv_at hl 0 rfl) ?_
  refine va_get (D := D) (ci := 0) (v := .ref (ad 7)) (C := RX) (T := FX) (N := 10) hx hb hts iX hown hK hP 0 rfl rfl 7 (by decide) (hts _ mX_f_counts) (fun _ h9 => h9) rfl dX_slotInOrder_2 ?_
  refine lv_iload_n hx hb dX_slotInOrder_5 rfl (lv_at hl 1 rfl) ?_
  refine va_iald hx hb hK hP 7 0 rfl rfl (vp_in_nI (show d < 8 from hd) (by omega)) dX_slotInOrder_6 ?_
  rw [nI_clamp (show d < 2 ^ 31 by omega)]
  rw [hcnt]
  refine lv_icmp_lt (tgt := 12) hx hb dX_slotInOrder_7 (by decide) (fun c_22 => ?_) (fun c_22 => ?_)
  · skip
    have hk : k9 < l9.length := (nI_ltI (by omega) (by omega)).mp c_22
    refine lv_aload_n hx hb dX_slotInOrder_12 rfl (lv_at hl 0 rfl) ?_
    refine va_get (D := D) (ci := 0) (v := .ref (ad 9)) (C := RX) (T := FX) (N := 10) hx hb hts iX hown hK hP 0 rfl rfl 9 (by decide) (hts _ mX_f_orderLinks) (fun _ h9 => h9) rfl dX_slotInOrder_13 ?_
    refine lv_iload_n hx hb dX_slotInOrder_16 rfl (lv_at hl 1 rfl) ?_
    refine W.callR (W.runS (As := [.int (nI d)]) (rest := [.ref (ad 9)]) ⟨hx, hb, hml, hown, hts⟩ (cX_orderHead_ok l (nI d)) (cwS 1 hts gX_X_orderHead rfl rfl rfl (by decide +kernel) ⟨Nat.le_of_ble_eq_true rfl, Nat.le_of_ble_eq_true rfl⟩) hn_pre0 rfl rfl hl.1 rfl (lv_room (Nat.le_of_ble_eq_true rfl)) dX_slotInOrder_17 ⟨Nat.zero_le _, Nat.zero_le _⟩) ?_
    refine W.eq (g2 := F0 m 20 ls [.int (384 + nI d), .ref (ad 9)]) rfl ?_
    rw [show (384 + nI d : Int32) = nI (384 + d) from nI_add 384 d]
    refine va_iald hx hb hK hP 9 0 rfl rfl (vp_in_nI (show 384 + d < 392 from by omega) (by omega)) dX_slotInOrder_20 ?_
    rw [nI_clamp (show 384 + d < 2 ^ 31 by omega)]
    rw [hn_ch_hd hch (by omega)]
    refine lv_istore_n (lv' := [(3, .int (nI (l9.getD 0 0))), (0, .ref (ad 0)), (1, .int (nI d)), (2, .int (nI k9))]) hx hb dX_slotInOrder_21 rfl hl (by decide) rfl (fun ls hl => ?_)
    refine lv_iconst (v := 0) hx hb dX_slotInOrder_22 (by decide) ?_
    refine lv_istore (lv' := [(4, .int 0), (3, .int (nI (l9.getD 0 0))), (0, .ref (ad 0)), (1, .int (nI d)), (2, .int (nI k9))]) hx hb dX_slotInOrder_23 hl (by decide) rfl (fun ls hl => ?_)
    suffices loop : ∀ (k i : Nat), i + k = k9 → ∀ ls : Array Slot, lv_has ls 5 [(0, .ref (ad 0)), (2, .int (nI k9)), (3, .int (nI (l9.getD i 0))), (4, .int (nI i))] → W p l e (headSpec wX_slotInOrder ({ frames := 1, cells := 0, slots := 0, locals := 20 })).room s m [.ref (ad 0), .int (nI d), .int (nI k9)].toArray below meth c s.heap [] 0 0 (MQ below (QcRead (hn_nth l9 k9)) [.ref (ad 0), .int (nI d), .int (nI k9)].toArray s 0 0 (fun _ => False)) (F0 m 25 ls []) from loop k9 0 (Nat.zero_add _) ls (lv_sub hl [2, 4, 1, 0] rfl)
    intro k
    induction k with
    | zero =>
      intro i hi ls hl
      have hi : k9 = i := by omega
      subst hi
      refine lv_iload hx hb dX_slotInOrder_25 (lv_at hl 3 rfl) ?_
      refine lv_iload_n hx hb dX_slotInOrder_27 rfl (lv_at hl 1 rfl) ?_
      refine lv_icmp_ge (tgt := 51) hx hb dX_slotInOrder_28 (by decide) (fun c_23 => ?_) (fun c_23 => absurd (Int32.le_refl _) c_23)
      refine lv_iload_n hx hb dX_slotInOrder_51 rfl (lv_at hl 2 rfl) ?_
      exact W.iret (v := (nI (l9.getD k9 0))) hx hb hr (fun t9 ht9 _ => ⟨congrArg (fun z => Outcome.returned (some (Value.int z))) (show (nI (l9.getD k9 0) : Int32) = hn_nth l9 k9 from (if_neg (Nat.not_le.mpr hk)).symm), ht9⟩) (fun q h => nomatch h) dX_slotInOrder_52
    | succ k ih =>
      intro i hi ls hl
      refine lv_iload hx hb dX_slotInOrder_25 (lv_at hl 3 rfl) ?_
      refine lv_iload_n hx hb dX_slotInOrder_27 rfl (lv_at hl 1 rfl) ?_
      refine lv_icmp_ge (tgt := 51) hx hb dX_slotInOrder_28 (by decide) (fun c_24 => absurd c_24 (nI_ge (a := i) (b := k9) (by omega) (by omega))) (fun c_24 => ?_)
      have hg := hn_ch_gl hch i (by omega)
      refine lv_iload_n hx hb dX_slotInOrder_31 rfl (lv_at hl 2 rfl) ?_
      refine W.callR (W.runS (As := [.int (nI (l9.getD i 0))]) (rest := []) ⟨hx, hb, hml, hown, hts⟩ (cX_isSlot_ok l (nI (l9.getD i 0))) (cwS 1 hts gX_X_isSlot rfl rfl rfl (by decide +kernel) ⟨Nat.le_of_ble_eq_true rfl, Nat.le_of_ble_eq_true rfl⟩) hn_pre0 rfl rfl hl.1 rfl (lv_room (Nat.le_of_ble_eq_true rfl)) dX_slotInOrder_32 ⟨Nat.zero_le _, Nat.zero_le _⟩) ?_
      refine W.eq (g2 := F0 m 35 ls [.int (hn_isl (nI (l9.getD i 0)))]) rfl ?_
      rw [show (hn_isl (nI (l9.getD i 0)) : Int32) = 1 from hn_isl_n hg]
      refine lv_if_eq (tgt := 51) hx hb dX_slotInOrder_35 (by decide) (fun c_25 => absurd c_25 (by decide)) (fun c_25 => ?_)
      refine lv_aload_n hx hb dX_slotInOrder_38 rfl (lv_at hl 0 rfl) ?_
      refine va_get (D := D) (ci := 0) (v := .ref (ad 9)) (C := RX) (T := FX) (N := 10) hx hb hts iX hown hK hP 0 rfl rfl 9 (by decide) (hts _ mX_f_orderLinks) (fun _ h9 => h9) rfl dX_slotInOrder_39 ?_
      refine lv_iload_n hx hb dX_slotInOrder_42 rfl (lv_at hl 2 rfl) ?_
      refine va_iald hx hb hK hP 9 0 rfl rfl (vp_in_nI (show l9.getD i 0 < 392 from by omega) (by omega)) dX_slotInOrder_43 ?_
      rw [nI_clamp (show l9.getD i 0 < 2 ^ 31 by omega)]
      rw [hn_ch_nx hch i (by omega)]
      refine lv_istore_n (lv' := [(3, .int (nI (l9.getD (i + 1) 0))), (0, .ref (ad 0)), (2, .int (nI k9)), (4, .int (nI i))]) hx hb dX_slotInOrder_44 rfl hl (by decide) rfl (fun ls hl => ?_)
      refine lv_iinc (v := nI (i + 1)) (lv' := [(4, .int (nI (i + 1))), (3, .int (nI (l9.getD (i + 1) 0))), (0, .ref (ad 0)), (2, .int (nI k9))]) hx hb dX_slotInOrder_45 hl (k := 3) rfl (nI_1 i) (by decide) rfl (fun ls hl => ?_)
      refine lv_goto (tgt := 25) hx hb dX_slotInOrder_48 (by decide) ?_
      exact ih (i + 1) (by omega) ls (lv_sub hl [2, 3, 1, 0] rfl)
  · skip
    refine lv_iconst (v := (-1)) hx hb dX_slotInOrder_10 (by decide) ?_
    exact W.iret (v := (-1)) hx hb hr (fun t9 ht9 _ => ⟨congrArg (fun z => Outcome.returned (some (Value.int z))) (show ((-1) : Int32) = hn_nth l9 k9 from (show (-1 : Int32) = hn_nth l9 k9 from (if_pos (Nat.not_lt.mp (fun z => c_22 (nI_lt z (by omega))))).symm)), ht9⟩) (fun q h => nomatch h) dX_slotInOrder_11
