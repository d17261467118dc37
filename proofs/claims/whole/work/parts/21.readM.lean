set_option maxHeartbeats 4000000 in
set_option maxRecDepth 100000 in
theorem cM_thrown_ok (l : Launch) (D : va_G) (cI cL : ClassId) (am : Nat → Nat) (τ : Nat → Nat → Int32)  : Met l yM_thrown wM_thrown ({ frames := 0, cells := 0, slots := 0, locals := 0 }) (hn_PR D vwCl (hn_ty cI cL) (hn_wM am cI τ) [.ref (am 0)]) (QcRead (τ 0 0)) 0 0 (fun _ => False) := by
  refine Met.ofW (cc := cM_thrown) (maxL := 1) (ret := (some .int)) (by decide) rfl ?_
  intro p e s m args below meth c s₁ B hml hv
  obtain ⟨rfl, hP, hK⟩ := hv
  have hx := B.exec
  have hb := B.bytes
  have hr := B.returns
  have hts0 := atoms_spec (ws := wM_thrown) B.pre
  have hts : ∀ w ∈ hn_tb, w.before _ s = true := fun w hw => hts0 w (List.mem_cons_of_mem _ hw)
  have hown : s.vm.findClass RM = some m.cls := findClass_of_methodNamed B.named
  have hlocks := B.notSynchronized
  have hl := lv_entry [.ref (am 0)] (n := 1) (Nat.le_of_ble_eq_true rfl)
  rw [lg_entry_eq]
  generalize (lg_sl [.ref (am 0)] ++ List.replicate (1 - (lg_sl [.ref (am 0)]).length) Slot.unset).toArray = ls at hl ⊢
  have hl : lv_has ls 1 [(0, .ref (am 0))] := hl
  refine lv_aload_n hx hb dM_thrown_0 rfl (lv_at hl 0 rfl) ?_
  refine va_get (D := D) (ci := 1) (v := .int (τ 0 0)) (C := RM) (T := FM) (N := 8) hx hb hts iM hown hK hP 0 rfl rfl 0 (by decide) (hts _ mM_f_thrown) (fun _ h9 => h9) rfl dM_thrown_1 ?_
  exact W.iret (v := (τ 0 0)) hx hb hr (fun t9 ht9 _ => ⟨congrArg (fun z => Outcome.returned (some (Value.int z))) (show (τ 0 0 : Int32) = τ 0 0 from rfl), ht9⟩) (fun q h => nomatch h) dM_thrown_4

set_option maxHeartbeats 4000000 in
set_option maxRecDepth 100000 in
theorem cM_isDirectory_ok (l : Launch) (x : Int32) : Met l yM_isDirectory wM_isDirectory ({ frames := 0, cells := 0, slots := 0, locals := 0 }) (va_Pc [.int x] (fun _ => True)) (hn_QE (hn_tf (hn_dir x))) 0 0 (fun _ => False) := by
  refine Met.ofW (cc := cM_isDirectory) (maxL := 1) (ret := (some .boolean)) (by decide) rfl ?_
  intro p e s m args below meth c s₁ B hml hv
  obtain ⟨rfl, -⟩ := hv
  have hx := B.exec
  have hb := B.bytes
  have hr := B.returns
  have hts0 := atoms_spec (ws := wM_isDirectory) B.pre
  have hts : ∀ w ∈ hn_tb, w.before _ s = true := fun w hw => hts0 w (List.mem_cons_of_mem _ hw)
  have hown : s.vm.findClass RM = some m.cls := findClass_of_methodNamed B.named
  have hlocks := B.notSynchronized
  have hl := lv_entry [.int x] (n := 1) (Nat.le_of_ble_eq_true rfl)
  rw [lg_entry_eq]
  generalize (lg_sl [.int x] ++ List.replicate (1 - (lg_sl [.int x]).length) Slot.unset).toArray = ls at hl ⊢
  have hl : lv_has ls 1 [(0, .int x)] := hl
  refine lv_iload_n hx hb dM_isDirectory_0 rfl (lv_at hl 0 rfl) ?_
  refine lv_if_lt (tgt := 14) hx hb dM_isDirectory_1 (by decide) (fun c_1 => ?_) (fun c_1 => ?_)
  · skip
    refine lv_iconst (v := 0) hx hb dM_isDirectory_14 (by decide) ?_
    exact W.zret (v := 0) hx hb hr rfl (fun t9 ht9 _ => ⟨0, Or.inr ⟨rfl, hn_dir_no1 c_1⟩, rfl, ht9⟩) (fun q h => nomatch h) dM_isDirectory_15
  · skip
    refine lv_iload_n hx hb dM_isDirectory_4 rfl (lv_at hl 0 rfl) ?_
    refine lv_bipush (v := 8) hx hb dM_isDirectory_5 (by decide) ?_
    refine lv_icmp_ge (tgt := 14) hx hb dM_isDirectory_7 (by decide) (fun c_2 => ?_) (fun c_2 => ?_)
    · skip
      refine lv_iconst (v := 0) hx hb dM_isDirectory_14 (by decide) ?_
      exact W.zret (v := 0) hx hb hr rfl (fun t9 ht9 _ => ⟨0, Or.inr ⟨rfl, hn_dir_no2 c_2⟩, rfl, ht9⟩) (fun q h => nomatch h) dM_isDirectory_15
    · skip
      refine lv_iconst (v := 1) hx hb dM_isDirectory_10 (by decide) ?_
      refine lv_goto (tgt := 15) hx hb dM_isDirectory_11 (by decide) ?_
      exact W.zret (v := 1) hx hb hr rfl (fun t9 ht9 _ => ⟨1, Or.inl ⟨rfl, hn_dir_yes c_1 c_2⟩, rfl, ht9⟩) (fun q h => nomatch h) dM_isDirectory_15

set_option maxHeartbeats 4000000 in
set_option maxRecDepth 100000 in
theorem cM_isId_ok (l : Launch) (x : Int32) : Met l yM_isId wM_isId ({ frames := 0, cells := 0, slots := 0, locals := 0 }) (va_Pc [.int x] (fun _ => True)) (hn_QE (hn_tf (hn_isid x))) 0 0 (fun _ => False) := by
  refine Met.ofW (cc := cM_isId) (maxL := 1) (ret := (some .boolean)) (by decide) rfl ?_
  intro p e s m args below meth c s₁ B hml hv
  obtain ⟨rfl, -⟩ := hv
  have hx := B.exec
  have hb := B.bytes
  have hr := B.returns
  have hts0 := atoms_spec (ws := wM_isId) B.pre
  have hts : ∀ w ∈ hn_tb, w.before _ s = true := fun w hw => hts0 w (List.mem_cons_of_mem _ hw)
  have hown : s.vm.findClass RM = some m.cls := findClass_of_methodNamed B.named
  have hlocks := B.notSynchronized
  have hl := lv_entry [.int x] (n := 1) (Nat.le_of_ble_eq_true rfl)
  rw [lg_entry_eq]
  generalize (lg_sl [.int x] ++ List.replicate (1 - (lg_sl [.int x]).length) Slot.unset).toArray = ls at hl ⊢
  have hl : lv_has ls 1 [(0, .int x)] := hl
  refine lv_iload_n hx hb dM_isId_0 rfl (lv_at hl 0 rfl) ?_
  refine lv_if_le (tgt := 14) hx hb dM_isId_1 (by decide) (fun c_3 => ?_) (fun c_3 => ?_)
  · skip
    refine lv_iconst (v := 0) hx hb dM_isId_14 (by decide) ?_
    exact W.zret (v := 0) hx hb hr rfl (fun t9 ht9 _ => ⟨0, Or.inr ⟨rfl, fun z => absurd z.1 (Int32.not_lt.mpr c_3)⟩, rfl, ht9⟩) (fun q h => nomatch h) dM_isId_15
  · skip
    refine lv_iload_n hx hb dM_isId_4 rfl (lv_at hl 0 rfl) ?_
    refine lv_ldc (v := 65536) hx hb hown (hts _ mM_k_65536) dM_isId_5 ?_
    refine lv_icmp_ge (tgt := 14) hx hb dM_isId_7 (by decide) (fun c_4 => ?_) (fun c_4 => ?_)
    · skip
      refine lv_iconst (v := 0) hx hb dM_isId_14 (by decide) ?_
      exact W.zret (v := 0) hx hb hr rfl (fun t9 ht9 _ => ⟨0, Or.inr ⟨rfl, fun z => absurd z.2 (Int32.not_lt.mpr c_4)⟩, rfl, ht9⟩) (fun q h => nomatch h) dM_isId_15
    · skip
      refine lv_iconst (v := 1) hx hb dM_isId_10 (by decide) ?_
      refine lv_goto (tgt := 15) hx hb dM_isId_11 (by decide) ?_
      exact W.zret (v := 1) hx hb hr rfl (fun t9 ht9 _ => ⟨1, Or.inl ⟨rfl, ⟨Int32.not_le.mp c_3, Int32.not_le.mp c_4⟩⟩, rfl, ht9⟩) (fun q h => nomatch h) dM_isId_15

set_option maxHeartbeats 4000000 in
set_option maxRecDepth 100000 in
theorem cM_isName_ok (l : Launch) (D : va_G) (cI cL : ClassId) (am : Nat → Nat) (τ : Nat → Nat → Int32) (h : Nat → Nat) (hR1 : ∀ k, k < 20 → τ 1 k = nI (h k)) (hR2 : ∀ k, h k < 256) (x : Int32) : Met l yM_isName wM_isName ({ frames := 0, cells := 0, slots := 0, locals := 0 }) (hn_PR D vwCl (hn_ty cI cL) (hn_wM am cI τ) [.ref (am 0), .int x]) (hn_QE (hn_tf (hn_name h x))) 0 0 (fun _ => False) := by
  refine Met.ofW (cc := cM_isName) (maxL := 4) (ret := (some .boolean)) (by decide) rfl ?_
  intro p e s m args below meth c s₁ B hml hv
  obtain ⟨rfl, hP, hK⟩ := hv
  have hx := B.exec
  have hb := B.bytes
  have hr := B.returns
  have hts0 := atoms_spec (ws := wM_isName) B.pre
  have hts : ∀ w ∈ hn_tb, w.before _ s = true := fun w hw => hts0 w (List.mem_cons_of_mem _ hw)
  have hown : s.vm.findClass RM = some m.cls := findClass_of_methodNamed B.named
  have hlocks := B.notSynchronized
  have hl := lv_entry [.ref (am 0), .int x] (n := 4) (Nat.le_of_ble_eq_true rfl)
  rw [lg_entry_eq]
  generalize (lg_sl [.ref (am 0), .int x] ++ List.replicate (4 - (lg_sl [.ref (am 0), .int x]).length) Slot.unset).toArray = ls at hl ⊢
  have hl : lv_has ls 4 [(0, .ref (am 0)), (1, .int x)] := hl
  refine lv_iload_n hx hb dM_isName_0 rfl (lv_at hl 1 rfl) ?_
  refine lv_if_le (tgt := 14) hx hb dM_isName_1 (by decide) (fun c_5 => ?_) (fun c_5 => ?_)
  · skip
    refine lv_iconst (v := 0) hx hb dM_isName_14 (by decide) ?_
    refine lv_istore_n (lv' := [(2, .int 0), (0, .ref (am 0)), (1, .int x)]) hx hb dM_isName_15 rfl hl (by decide) rfl (fun ls hl => ?_)
    refine lv_iconst (v := 0) hx hb dM_isName_16 (by decide) ?_
    refine lv_istore_n (lv' := [(3, .int 0), (2, .int 0), (0, .ref (am 0)), (1, .int x)]) hx hb dM_isName_17 rfl hl (by decide) rfl (fun ls hl => ?_)
    refine lv_iload_n hx hb dM_isName_18 rfl (lv_at hl 0 rfl) ?_
    refine lv_iload_n hx hb dM_isName_19 rfl (lv_at hl 3 rfl) ?_
    refine lv_icmp_ge (tgt := 59) hx hb dM_isName_20 (by decide) (fun c_6 => ?_) (fun c_6 => ?_)
    · skip
      refine lv_iload_n hx hb dM_isName_59 rfl (lv_at hl 1 rfl) ?_
      exact W.zret (v := 0) hx hb hr rfl (fun t9 ht9 _ => ⟨0, Or.inr ⟨rfl, hn_name_no1 c_5⟩, rfl, ht9⟩) (fun q h => nomatch h) dM_isName_60
    · skip
      refine lv_iload_n hx hb dM_isName_23 rfl (lv_at hl 1 rfl) ?_
      refine lv_if_eq (tgt := 59) hx hb dM_isName_24 (by decide) (fun c_7 => ?_) (fun c_7 => absurd rfl c_7)
      refine lv_iload_n hx hb dM_isName_59 rfl (lv_at hl 1 rfl) ?_
      exact W.zret (v := 0) hx hb hr rfl (fun t9 ht9 _ => ⟨0, Or.inr ⟨rfl, hn_name_no1 c_5⟩, rfl, ht9⟩) (fun q h => nomatch h) dM_isName_60
  · skip
    refine lv_iload_n hx hb dM_isName_4 rfl (lv_at hl 1 rfl) ?_
    refine lv_bipush (v := 21) hx hb dM_isName_5 (by decide) ?_
    refine lv_icmp_ge (tgt := 14) hx hb dM_isName_7 (by decide) (fun c_8 => ?_) (fun c_8 => ?_)
    · skip
      refine lv_iconst (v := 0) hx hb dM_isName_14 (by decide) ?_
      refine lv_istore_n (lv' := [(2, .int 0), (0, .ref (am 0)), (1, .int x)]) hx hb dM_isName_15 rfl hl (by decide) rfl (fun ls hl => ?_)
      refine lv_iconst (v := 0) hx hb dM_isName_16 (by decide) ?_
      refine lv_istore_n (lv' := [(3, .int 0), (2, .int 0), (0, .ref (am 0)), (1, .int x)]) hx hb dM_isName_17 rfl hl (by decide) rfl (fun ls hl => ?_)
      refine lv_iload_n hx hb dM_isName_18 rfl (lv_at hl 0 rfl) ?_
      refine lv_iload_n hx hb dM_isName_19 rfl (lv_at hl 3 rfl) ?_
      refine lv_icmp_ge (tgt := 59) hx hb dM_isName_20 (by decide) (fun c_9 => ?_) (fun c_9 => ?_)
      · skip
        refine lv_iload_n hx hb dM_isName_59 rfl (lv_at hl 1 rfl) ?_
        exact W.zret (v := 0) hx hb hr rfl (fun t9 ht9 _ => ⟨0, Or.inr ⟨rfl, hn_name_no2 c_8⟩, rfl, ht9⟩) (fun q h => nomatch h) dM_isName_60
      · skip
        refine lv_iload_n hx hb dM_isName_23 rfl (lv_at hl 1 rfl) ?_
        refine lv_if_eq (tgt := 59) hx hb dM_isName_24 (by decide) (fun c_10 => ?_) (fun c_10 => absurd rfl c_10)
        refine lv_iload_n hx hb dM_isName_59 rfl (lv_at hl 1 rfl) ?_
        exact W.zret (v := 0) hx hb hr rfl (fun t9 ht9 _ => ⟨0, Or.inr ⟨rfl, hn_name_no2 c_8⟩, rfl, ht9⟩) (fun q h => nomatch h) dM_isName_60
    · skip
      obtain ⟨j9, e9, hj1, hj2⟩ := hn_name_r c_5 c_8
      subst e9
      refine lv_iconst (v := 1) hx hb dM_isName_10 (by decide) ?_
      refine lv_goto (tgt := 15) hx hb dM_isName_11 (by decide) ?_
      refine lv_istore_n (lv' := [(2, .int 1), (0, .ref (am 0)), (1, .int (nI j9))]) hx hb dM_isName_15 rfl hl (by decide) rfl (fun ls hl => ?_)
      refine lv_iconst (v := 0) hx hb dM_isName_16 (by decide) ?_
      refine lv_istore_n (lv' := [(3, .int 0), (2, .int 1), (0, .ref (am 0)), (1, .int (nI j9))]) hx hb dM_isName_17 rfl hl (by decide) rfl (fun ls hl => ?_)
      suffices loop : ∀ (k i : Nat), i + k = j9 → (∀ j, j < i → h j ≠ 0 ∧ h j ≠ 47) → ∀ ls : Array Slot, lv_has ls 4 [(0, .ref (am 0)), (1, .int (nI j9)), (2, .int 1), (3, .int (nI i))] → W p l e (headSpec wM_isName ({ frames := 0, cells := 0, slots := 0, locals := 0 })).room s m [.ref (am 0), .int (nI j9)].toArray below meth c s.heap [] 0 0 (MQ below (hn_QE (hn_tf (hn_name h (nI j9)))) [.ref (am 0), .int (nI j9)].toArray s 0 0 (fun _ => False)) (F0 m 18 ls []) from loop j9 0 (Nat.zero_add _) (fun j z => absurd z (Nat.not_lt_zero _)) ls (lv_sub hl [2, 3, 1, 0] rfl)
      intro k
      induction k with
      | zero =>
        intro i hi hj ls hl
        have hi : j9 = i := by omega
        subst hi
        refine lv_iload_n hx hb dM_isName_18 rfl (lv_at hl 3 rfl) ?_
        refine lv_iload_n hx hb dM_isName_19 rfl (lv_at hl 1 rfl) ?_
        refine lv_icmp_ge (tgt := 59) hx hb dM_isName_20 (by decide) (fun c_11 => ?_) (fun c_11 => absurd (Int32.le_refl _) c_11)
        refine lv_iload_n hx hb dM_isName_59 rfl (lv_at hl 2 rfl) ?_
        exact W.zret (v := 1) hx hb hr rfl (fun t9 ht9 _ => ⟨1, Or.inl ⟨rfl, j9, rfl, hj1, hj2, hj⟩, rfl, ht9⟩) (fun q h => nomatch h) dM_isName_60
      | succ k ih =>
        intro i hi hj ls hl
        refine lv_iload_n hx hb dM_isName_18 rfl (lv_at hl 3 rfl) ?_
        refine lv_iload_n hx hb dM_isName_19 rfl (lv_at hl 1 rfl) ?_
        refine lv_icmp_ge (tgt := 59) hx hb dM_isName_20 (by decide) (fun c_12 => absurd c_12 (nI_ge (a := i) (b := j9) (by omega) (by omega))) (fun c_12 => ?_)
        refine lv_iload_n hx hb dM_isName_23 rfl (lv_at hl 2 rfl) ?_
        refine lv_if_eq (tgt := 59) hx hb dM_isName_24 (by decide) (fun c_13 => absurd c_13 (by decide)) (fun c_13 => ?_)
        have hb9 := hR2 i
        refine lv_aload_n hx hb dM_isName_27 rfl (lv_at hl 0 rfl) ?_
        refine va_get (D := D) (ci := 1) (v := .ref (am 1)) (C := RM) (T := FM) (N := 8) hx hb hts iM hown hK hP 0 rfl rfl 1 (by decide) (hts _ mM_f_hand) (fun _ h9 => h9) rfl dM_isName_28 ?_
        refine lv_iload_n hx hb dM_isName_31 rfl (lv_at hl 3 rfl) ?_
        refine va_iald hx hb hK hP 1 0 rfl rfl (vp_in_nI (show i < 20 from by omega) (by omega)) dM_isName_32 ?_
        rw [nI_clamp (show i < 2 ^ 31 by omega)]
        rw [show τ 1 i = nI (h i) from hR1 i (by omega)]
        refine lv_if_eq (tgt := 51) hx hb dM_isName_33 (by decide) (fun c_14 => ?_) (fun c_14 => ?_)
        · skip
          refine lv_iconst (v := 0) hx hb dM_isName_51 (by decide) ?_
          refine lv_istore_n (lv' := [(2, .int 0), (0, .ref (am 0)), (1, .int (nI j9)), (3, .int (nI i))]) hx hb dM_isName_52 rfl hl (by decide) rfl (fun ls hl => ?_)
          refine lv_iinc (v := nI (i + 1)) (lv' := [(3, .int (nI (i + 1))), (2, .int 0), (0, .ref (am 0)), (1, .int (nI j9))]) hx hb dM_isName_53 hl (k := 3) rfl (nI_1 i) (by decide) rfl (fun ls hl => ?_)
          refine lv_goto (tgt := 18) hx hb dM_isName_56 (by decide) ?_
          refine lv_iload_n hx hb dM_isName_18 rfl (lv_at hl 0 rfl) ?_
          refine lv_iload_n hx hb dM_isName_19 rfl (lv_at hl 3 rfl) ?_
          refine lv_icmp_ge (tgt := 59) hx hb dM_isName_20 (by decide) (fun c_15 => ?_) (fun c_15 => ?_)
          · skip
            refine lv_iload_n hx hb dM_isName_59 rfl (lv_at hl 1 rfl) ?_
            exact W.zret (v := 0) hx hb hr rfl (fun t9 ht9 _ => ⟨0, Or.inr ⟨rfl, hn_name_no3 (k := i) hj2 (by omega) (Or.inl ((hn_b0 hb9).mp c_14))⟩, rfl, ht9⟩) (fun q h => nomatch h) dM_isName_60
          · skip
            refine lv_iload_n hx hb dM_isName_23 rfl (lv_at hl 1 rfl) ?_
            refine lv_if_eq (tgt := 59) hx hb dM_isName_24 (by decide) (fun c_16 => ?_) (fun c_16 => absurd rfl c_16)
            refine lv_iload_n hx hb dM_isName_59 rfl (lv_at hl 1 rfl) ?_
            exact W.zret (v := 0) hx hb hr rfl (fun t9 ht9 _ => ⟨0, Or.inr ⟨rfl, hn_name_no3 (k := i) hj2 (by omega) (Or.inl ((hn_b0 hb9).mp c_14))⟩, rfl, ht9⟩) (fun q h => nomatch h) dM_isName_60
        · skip
          refine lv_aload_n hx hb dM_isName_36 rfl (lv_at hl 0 rfl) ?_
          refine va_get (D := D) (ci := 1) (v := .ref (am 1)) (C := RM) (T := FM) (N := 8) hx hb hts iM hown hK hP 0 rfl rfl 1 (by decide) (hts _ mM_f_hand) (fun _ h9 => h9) rfl dM_isName_37 ?_
          refine lv_iload_n hx hb dM_isName_40 rfl (lv_at hl 3 rfl) ?_
          refine va_iald hx hb hK hP 1 0 rfl rfl (vp_in_nI (show i < 20 from by omega) (by omega)) dM_isName_41 ?_
          rw [nI_clamp (show i < 2 ^ 31 by omega)]
          rw [show τ 1 i = nI (h i) from hR1 i (by omega)]
          refine lv_bipush (v := 47) hx hb dM_isName_42 (by decide) ?_
          refine lv_icmp_eq (tgt := 51) hx hb dM_isName_44 (by decide) (fun c_17 => ?_) (fun c_17 => ?_)
          · skip
            refine lv_iconst (v := 0) hx hb dM_isName_51 (by decide) ?_
            refine lv_istore_n (lv' := [(2, .int 0), (0, .ref (am 0)), (1, .int (nI j9)), (3, .int (nI i))]) hx hb dM_isName_52 rfl hl (by decide) rfl (fun ls hl => ?_)
            refine lv_iinc (v := nI (i + 1)) (lv' := [(3, .int (nI (i + 1))), (2, .int 0), (0, .ref (am 0)), (1, .int (nI j9))]) hx hb dM_isName_53 hl (k := 3) rfl (nI_1 i) (by decide) rfl (fun ls hl => ?_)
            refine lv_goto (tgt := 18) hx hb dM_isName_56 (by decide) ?_
            refine lv_iload_n hx hb dM_isName_18 rfl (lv_at hl 0 rfl) ?_
            refine lv_iload_n hx hb dM_isName_19 rfl (lv_at hl 3 rfl) ?_
            refine lv_icmp_ge (tgt := 59) hx hb dM_isName_20 (by decide) (fun c_18 => ?_) (fun c_18 => ?_)
            · skip
              refine lv_iload_n hx hb dM_isName_59 rfl (lv_at hl 1 rfl) ?_
              exact W.zret (v := 0) hx hb hr rfl (fun t9 ht9 _ => ⟨0, Or.inr ⟨rfl, hn_name_no3 (k := i) hj2 (by omega) (Or.inr ((hn_b47 hb9).mp c_17))⟩, rfl, ht9⟩) (fun q h => nomatch h) dM_isName_60
            · skip
              refine lv_iload_n hx hb dM_isName_23 rfl (lv_at hl 1 rfl) ?_
              refine lv_if_eq (tgt := 59) hx hb dM_isName_24 (by decide) (fun c_19 => ?_) (fun c_19 => absurd rfl c_19)
              refine lv_iload_n hx hb dM_isName_59 rfl (lv_at hl 1 rfl) ?_
              exact W.zret (v := 0) hx hb hr rfl (fun t9 ht9 _ => ⟨0, Or.inr ⟨rfl, hn_name_no3 (k := i) hj2 (by omega) (Or.inr ((hn_b47 hb9).mp c_17))⟩, rfl, ht9⟩) (fun q h => nomatch h) dM_isName_60
          · skip
            refine lv_iconst (v := 1) hx hb dM_isName_47 (by decide) ?_
            refine lv_goto (tgt := 52) hx hb dM_isName_48 (by decide) ?_
            refine lv_istore_n (lv' := [(2, .int 1), (0, .ref (am 0)), (1, .int (nI j9)), (3, .int (nI i))]) hx hb dM_isName_52 rfl hl (by decide) rfl (fun ls hl => ?_)
            refine lv_iinc (v := nI (i + 1)) (lv' := [(3, .int (nI (i + 1))), (2, .int 1), (0, .ref (am 0)), (1, .int (nI j9))]) hx hb dM_isName_53 hl (k := 3) rfl (nI_1 i) (by decide) rfl (fun ls hl => ?_)
            refine lv_goto (tgt := 18) hx hb dM_isName_56 (by decide) ?_
            exact ih (i + 1) (by omega) (lt_s hj ⟨fun z => c_14 ((hn_b0 hb9).mpr z), fun z => c_17 ((hn_b47 hb9).mpr z)⟩) ls (lv_sub hl [2, 3, 1, 0] rfl)

set_option maxHeartbeats 4000000 in
set_option maxRecDepth 100000 in
theorem cM_compare_ok (l : Launch) (D : va_G) (cI cL : ClassId) (am : Nat → Nat) (τ : Nat → Nat → Int32) (h : Nat → Nat) (hr1 : ∀ k, k < 20 → τ 1 k = nI (h k)) (hh : ∀ k, h k < 256) (n : Nat) (h1 : 1 ≤ n) (h2 : n ≤ 20) (hz : ∀ k, k < n → h k ≠ 0) (i9 : Nat) (hi9 : i9 < 384) (e9 : hn_E) (hw : hn_wf e9) (hr4 : τ 4 i9 = nI e9.2.1) (hr5 : ∀ k, k < e9.2.1 → τ 5 (20 * i9 + k) = nI (hn_kb e9.1 k)) : Met l yM_compare wM_compare ({ frames := 0, cells := 0, slots := 0, locals := 0 }) (hn_PR D vwCl (hn_ty cI cL) (hn_wM am cI τ) [.ref (am 0), .int (nI n), .int (nI i9)]) (hn_QE (hn_cmpP e9.1 (hn_num h n))) 0 0 (fun _ => False) := by
  refine Met.ofW (cc := cM_compare) (maxL := 5) (ret := (some .int)) (by decide) rfl ?_
  intro p e s m args below meth c s₁ B hml hv
  obtain ⟨rfl, hP, hK⟩ := hv
  have hx := B.exec
  have hb := B.bytes
  have hr := B.returns
  have hts0 := atoms_spec (ws := wM_compare) B.pre
  have hts : ∀ w ∈ hn_tb, w.before _ s = true := fun w hw => hts0 w (List.mem_cons_of_mem _ hw)
  have hown : s.vm.findClass RM = some m.cls := findClass_of_methodNamed B.named
  have hlocks := B.notSynchronized
  have hl := lv_entry [.ref (am 0), .int (nI n), .int (nI i9)] (n := 5) (Nat.le_of_ble_eq_true rfl)
  rw [lg_entry_eq]
  generalize (lg_sl [.ref (am 0), .int (nI n), .int (nI i9)] ++ List.replicate (5 - (lg_sl [.ref (am 0), .int (nI n), .int (nI i9)]).length) Slot.unset).toArray = ls at hl ⊢
  have hl : lv_has ls 5 [(0, .ref (am 0)), (1, .int (nI n)), (2, .int (nI i9))] := hl
  have hL1 := hw.1
  have hL2 := hw.2.1
  refine lv_iconst (v := 0) hx hb dM_compare_0 (by decide) ?_
  refine lv_istore_n (lv' := [(3, .int 0), (0, .ref (am 0)), (1, .int (nI n)), (2, .int (nI i9))]) hx hb dM_compare_1 rfl hl (by decide) rfl (fun ls hl => ?_)
  suffices loop : ∀ (f k : Nat), k + f = 20 → k ≤ n → k ≤ e9.2.1 → (∀ j, j < k → h j = hn_kb e9.1 j) → ∀ ls : Array Slot, lv_has ls 5 [(0, .ref (am 0)), (1, .int (nI n)), (2, .int (nI i9)), (3, .int (nI k))] → W p l e (headSpec wM_compare ({ frames := 0, cells := 0, slots := 0, locals := 0 })).room s m [.ref (am 0), .int (nI n), .int (nI i9)].toArray below meth c s.heap [] 0 0 (MQ below (hn_QE (hn_cmpP e9.1 (hn_num h n))) [.ref (am 0), .int (nI n), .int (nI i9)].toArray s 0 0 (fun _ => False)) (F0 m 2 ls []) from loop 20 0 rfl (Nat.zero_le _) (Nat.zero_le _) (fun j z => absurd z (Nat.not_lt_zero _)) ls (lv_sub hl [1, 2, 3, 0] rfl)
  intro f
  induction f with
  | zero =>
    intro k hf hk1 hk2 hj ls hl
    refine lv_iload_n hx hb dM_compare_2 rfl (lv_at hl 3 rfl) ?_
    refine lv_iload_n hx hb dM_compare_3 rfl (lv_at hl 1 rfl) ?_
    refine lv_icmp_ge (tgt := 51) hx hb dM_compare_4 (by decide) (fun c_20 => ?_) (fun c_20 => ?_)
    · skip
      have hkn : k = n := by have := (nI_leI (by omega) (by omega)).mp c_20; omega
      refine lv_iload_n hx hb dM_compare_51 rfl (lv_at hl 1 rfl) ?_
      refine lv_aload_n hx hb dM_compare_52 rfl (lv_at hl 0 rfl) ?_
      refine va_get (D := D) (ci := 1) (v := .ref (am 4)) (C := RM) (T := FM) (N := 8) hx hb hts iM hown hK hP 0 rfl rfl 4 (by decide) (hts _ mM_f_length) (fun _ h9 => h9) rfl dM_compare_53 ?_
      refine lv_iload_n hx hb dM_compare_56 rfl (lv_at hl 2 rfl) ?_
      refine va_iald hx hb hK hP 4 0 rfl rfl (vp_in_nI (show i9 < 384 from by omega) (by omega)) dM_compare_57 ?_
      rw [nI_clamp (show i9 < 2 ^ 31 by omega)]
      rw [show τ 4 i9 = nI e9.2.1 from hr4]
      refine lv_isub hx hb dM_compare_58 ?_
      exact W.iret (v := ((nI n) - (nI e9.2.1))) hx hb hr (fun t9 ht9 _ => ⟨(nI n) - (nI e9.2.1), hn_cp (by omega) (by omega) (hn_ce_end hh hw h1 h2 hz (fun j hj2 _ => hj j (by omega))).1 (hn_ce_end hh hw h1 h2 hz (fun j hj2 _ => hj j (by omega))).2.1 (hn_ce_end hh hw h1 h2 hz (fun j hj2 _ => hj j (by omega))).2.2, rfl, ht9⟩) (fun q h => nomatch h) dM_compare_59
    · skip
      have hkn : k < n := Nat.lt_of_not_le (fun z => c_20 (nI_le z (by omega)))
      refine lv_iload_n hx hb dM_compare_7 rfl (lv_at hl 3 rfl) ?_
      refine lv_aload_n hx hb dM_compare_8 rfl (lv_at hl 0 rfl) ?_
      refine va_get (D := D) (ci := 1) (v := .ref (am 4)) (C := RM) (T := FM) (N := 8) hx hb hts iM hown hK hP 0 rfl rfl 4 (by decide) (hts _ mM_f_length) (fun _ h9 => h9) rfl dM_compare_9 ?_
      refine lv_iload_n hx hb dM_compare_12 rfl (lv_at hl 2 rfl) ?_
      refine va_iald hx hb hK hP 4 0 rfl rfl (vp_in_nI (show i9 < 384 from by omega) (by omega)) dM_compare_13 ?_
      rw [nI_clamp (show i9 < 2 ^ 31 by omega)]
      rw [show τ 4 i9 = nI e9.2.1 from hr4]
      refine lv_icmp_ge (tgt := 51) hx hb dM_compare_14 (by decide) (fun c_21 => ?_) (fun c_21 => ?_)
      · skip
        have hkL : k = e9.2.1 := by have := (nI_leI (by omega) (by omega)).mp c_21; omega
        refine lv_iload_n hx hb dM_compare_51 rfl (lv_at hl 1 rfl) ?_
        refine lv_aload_n hx hb dM_compare_52 rfl (lv_at hl 0 rfl) ?_
        refine va_get (D := D) (ci := 1) (v := .ref (am 4)) (C := RM) (T := FM) (N := 8) hx hb hts iM hown hK hP 0 rfl rfl 4 (by decide) (hts _ mM_f_length) (fun _ h9 => h9) rfl dM_compare_53 ?_
        refine lv_iload_n hx hb dM_compare_56 rfl (lv_at hl 2 rfl) ?_
        refine va_iald hx hb hK hP 4 0 rfl rfl (vp_in_nI (show i9 < 384 from by omega) (by omega)) dM_compare_57 ?_
        rw [nI_clamp (show i9 < 2 ^ 31 by omega)]
        rw [show τ 4 i9 = nI e9.2.1 from hr4]
        refine lv_isub hx hb dM_compare_58 ?_
        exact W.iret (v := ((nI n) - (nI e9.2.1))) hx hb hr (fun t9 ht9 _ => ⟨(nI n) - (nI e9.2.1), hn_cp (by omega) (by omega) (hn_ce_end hh hw h1 h2 hz (fun j _ hj2 => hj j (by omega))).1 (hn_ce_end hh hw h1 h2 hz (fun j _ hj2 => hj j (by omega))).2.1 (hn_ce_end hh hw h1 h2 hz (fun j _ hj2 => hj j (by omega))).2.2, rfl, ht9⟩) (fun q h => nomatch h) dM_compare_59
      · skip
        have hkL : k < e9.2.1 := Nat.lt_of_not_le (fun z => c_21 (nI_le z (by omega)))
        exact absurd hkL (by omega)
  | succ f ih =>
    intro k hf hk1 hk2 hj ls hl
    refine lv_iload_n hx hb dM_compare_2 rfl (lv_at hl 3 rfl) ?_
    refine lv_iload_n hx hb dM_compare_3 rfl (lv_at hl 1 rfl) ?_
    refine lv_icmp_ge (tgt := 51) hx hb dM_compare_4 (by decide) (fun c_22 => ?_) (fun c_22 => ?_)
    · skip
      have hkn : k = n := by have := (nI_leI (by omega) (by omega)).mp c_22; omega
      refine lv_iload_n hx hb dM_compare_51 rfl (lv_at hl 1 rfl) ?_
      refine lv_aload_n hx hb dM_compare_52 rfl (lv_at hl 0 rfl) ?_
      refine va_get (D := D) (ci := 1) (v := .ref (am 4)) (C := RM) (T := FM) (N := 8) hx hb hts iM hown hK hP 0 rfl rfl 4 (by decide) (hts _ mM_f_length) (fun _ h9 => h9) rfl dM_compare_53 ?_
      refine lv_iload_n hx hb dM_compare_56 rfl (lv_at hl 2 rfl) ?_
      refine va_iald hx hb hK hP 4 0 rfl rfl (vp_in_nI (show i9 < 384 from by omega) (by omega)) dM_compare_57 ?_
      rw [nI_clamp (show i9 < 2 ^ 31 by omega)]
      rw [show τ 4 i9 = nI e9.2.1 from hr4]
      refine lv_isub hx hb dM_compare_58 ?_
      exact W.iret (v := ((nI n) - (nI e9.2.1))) hx hb hr (fun t9 ht9 _ => ⟨(nI n) - (nI e9.2.1), hn_cp (by omega) (by omega) (hn_ce_end hh hw h1 h2 hz (fun j hj2 _ => hj j (by omega))).1 (hn_ce_end hh hw h1 h2 hz (fun j hj2 _ => hj j (by omega))).2.1 (hn_ce_end hh hw h1 h2 hz (fun j hj2 _ => hj j (by omega))).2.2, rfl, ht9⟩) (fun q h => nomatch h) dM_compare_59
    · skip
      have hkn : k < n := Nat.lt_of_not_le (fun z => c_22 (nI_le z (by omega)))
      refine lv_iload_n hx hb dM_compare_7 rfl (lv_at hl 3 rfl) ?_
      refine lv_aload_n hx hb dM_compare_8 rfl (lv_at hl 0 rfl) ?_
      refine va_get (D := D) (ci := 1) (v := .ref (am 4)) (C := RM) (T := FM) (N := 8) hx hb hts iM hown hK hP 0 rfl rfl 4 (by decide) (hts _ mM_f_length) (fun _ h9 => h9) rfl dM_compare_9 ?_
      refine lv_iload_n hx hb dM_compare_12 rfl (lv_at hl 2 rfl) ?_
      refine va_iald hx hb hK hP 4 0 rfl rfl (vp_in_nI (show i9 < 384 from by omega) (by omega)) dM_compare_13 ?_
      rw [nI_clamp (show i9 < 2 ^ 31 by omega)]
      rw [show τ 4 i9 = nI e9.2.1 from hr4]
      refine lv_icmp_ge (tgt := 51) hx hb dM_compare_14 (by decide) (fun c_23 => ?_) (fun c_23 => ?_)
      · skip
        have hkL : k = e9.2.1 := by have := (nI_leI (by omega) (by omega)).mp c_23; omega
        refine lv_iload_n hx hb dM_compare_51 rfl (lv_at hl 1 rfl) ?_
        refine lv_aload_n hx hb dM_compare_52 rfl (lv_at hl 0 rfl) ?_
        refine va_get (D := D) (ci := 1) (v := .ref (am 4)) (C := RM) (T := FM) (N := 8) hx hb hts iM hown hK hP 0 rfl rfl 4 (by decide) (hts _ mM_f_length) (fun _ h9 => h9) rfl dM_compare_53 ?_
        refine lv_iload_n hx hb dM_compare_56 rfl (lv_at hl 2 rfl) ?_
        refine va_iald hx hb hK hP 4 0 rfl rfl (vp_in_nI (show i9 < 384 from by omega) (by omega)) dM_compare_57 ?_
        rw [nI_clamp (show i9 < 2 ^ 31 by omega)]
        rw [show τ 4 i9 = nI e9.2.1 from hr4]
        refine lv_isub hx hb dM_compare_58 ?_
        exact W.iret (v := ((nI n) - (nI e9.2.1))) hx hb hr (fun t9 ht9 _ => ⟨(nI n) - (nI e9.2.1), hn_cp (by omega) (by omega) (hn_ce_end hh hw h1 h2 hz (fun j _ hj2 => hj j (by omega))).1 (hn_ce_end hh hw h1 h2 hz (fun j _ hj2 => hj j (by omega))).2.1 (hn_ce_end hh hw h1 h2 hz (fun j _ hj2 => hj j (by omega))).2.2, rfl, ht9⟩) (fun q h => nomatch h) dM_compare_59
      · skip
        have hkL : k < e9.2.1 := Nat.lt_of_not_le (fun z => c_23 (nI_le z (by omega)))
        have hb1 := hh k
        have hb2 := hn_kb_lt e9.1 k
        refine lv_aload_n hx hb dM_compare_17 rfl (lv_at hl 0 rfl) ?_
        refine va_get (D := D) (ci := 1) (v := .ref (am 1)) (C := RM) (T := FM) (N := 8) hx hb hts iM hown hK hP 0 rfl rfl 1 (by decide) (hts _ mM_f_hand) (fun _ h9 => h9) rfl dM_compare_18 ?_
        refine lv_iload_n hx hb dM_compare_21 rfl (lv_at hl 3 rfl) ?_
        refine va_iald hx hb hK hP 1 0 rfl rfl (vp_in_nI (show k < 20 from by omega) (by omega)) dM_compare_22 ?_
        rw [nI_clamp (show k < 2 ^ 31 by omega)]
        rw [show τ 1 k = nI (h k) from hr1 k (by omega)]
        refine lv_aload_n hx hb dM_compare_23 rfl (lv_at hl 0 rfl) ?_
        refine va_get (D := D) (ci := 1) (v := .ref (am 5)) (C := RM) (T := FM) (N := 8) hx hb hts iM hown hK hP 0 rfl rfl 5 (by decide) (hts _ mM_f_bytes) (fun _ h9 => h9) rfl dM_compare_24 ?_
        refine lv_bipush (v := 20) hx hb dM_compare_27 (by decide) ?_
        refine lv_iload_n hx hb dM_compare_29 rfl (lv_at hl 2 rfl) ?_
        refine lv_imul hx hb dM_compare_30 ?_
        refine lv_iload_n hx hb dM_compare_31 rfl (lv_at hl 3 rfl) ?_
        refine lv_iadd hx hb dM_compare_32 ?_
        rw [show ((20 * (nI i9)) + (nI k) : Int32) = nI (20 * i9 + k) from by rw [show (20 : Int32) = nI 20 from rfl, pk_mul, nI_add]]
        refine va_iald hx hb hK hP 5 0 rfl rfl (vp_in_nI (show 20 * i9 + k < 7680 from by omega) (by omega)) dM_compare_33 ?_
        rw [nI_clamp (show 20 * i9 + k < 2 ^ 31 by omega)]
        rw [show τ 5 (20 * i9 + k) = nI (hn_kb e9.1 k) from hr5 k hkL]
        refine lv_isub hx hb dM_compare_34 ?_
        refine lv_istore (lv' := [(4, .int ((nI (h k)) - (nI (hn_kb e9.1 k)))), (0, .ref (am 0)), (1, .int (nI n)), (2, .int (nI i9)), (3, .int (nI k))]) hx hb dM_compare_35 hl (by decide) rfl (fun ls hl => ?_)
        refine lv_iload hx hb dM_compare_37 (lv_at hl 0 rfl) ?_
        refine lv_if_eq (tgt := 45) hx hb dM_compare_39 (by decide) (fun c_24 => ?_) (fun c_24 => ?_)
        · skip
          refine lv_iinc (v := nI (k + 1)) (lv' := [(3, .int (nI (k + 1))), (4, .int ((nI (h k)) - (nI (hn_kb e9.1 k)))), (0, .ref (am 0)), (1, .int (nI n)), (2, .int (nI i9))]) hx hb dM_compare_45 hl (k := 4) rfl (nI_1 k) (by decide) rfl (fun ls hl => ?_)
          refine lv_goto (tgt := 2) hx hb dM_compare_48 (by decide) ?_
          exact ih (k + 1) (by omega) hkn hkL (lt_s hj ((hn_eq (by omega) (by omega)).mp c_24)) ls (lv_sub hl [2, 3, 4, 0] rfl)
        · skip
          refine lv_iload hx hb dM_compare_42 (lv_at hl 0 rfl) ?_
          exact W.iret (v := ((nI (h k)) - (nI (hn_kb e9.1 k)))) hx hb hr (fun t9 ht9 _ => ⟨(nI (h k)) - (nI (hn_kb e9.1 k)), hn_cp hb1 hb2 (fun z => hn_ce_lt hh hw h2 hkn hj z) (fun z => absurd ((hn_eq (by omega) (by omega)).mpr z) c_24) (fun z => hn_ce_gt hw h2 hkn hj z), rfl, ht9⟩) (fun q h => nomatch h) dM_compare_44

set_option maxHeartbeats 4000000 in
set_option maxRecDepth 100000 in
theorem cM_place_ok (l : Launch) (D : va_G) (cI cL : ClassId) (am : Nat → Nat) (τ : Nat → Nat → Int32) (h : Nat → Nat) (D9 : Nat → List hn_E) (tn : Nat) (tb : Nat → Nat) (hR : hn_MR τ h D9 tn tb) (hO : hn_DO D9) (d : Nat) (hd : d < 8) (n : Nat) (h1 : 1 ≤ n) (h2 : n ≤ 20) (hz : ∀ k, k < n → h k ≠ 0)  : Met l yM_place wM_place ({ frames := 1, cells := 0, slots := 0, locals := 24 }) (hn_PR D vwCl (hn_ty cI cL) (hn_wM am cI τ) [.ref (am 0), .int (nI d), .int (nI n)]) (QcRead (nI (48 * d + hn_pc (hn_num h n) (D9 d)))) 0 0 (fun _ => False) := by
  refine Met.ofW (cc := cM_place) (maxL := 4) (ret := (some .int)) (by decide) rfl ?_
  intro p e s m args below meth c s₁ B hml hv
  obtain ⟨rfl, hP, hK⟩ := hv
  have hx := B.exec
  have hb := B.bytes
  have hr := B.returns
  have hts0 := atoms_spec (ws := wM_place) B.pre
  have hts : ∀ w ∈ hn_tb, w.before _ s = true := fun w hw => hts0 w (List.mem_cons_of_mem _ hw)
  have hown : s.vm.findClass RM = some m.cls := findClass_of_methodNamed B.named
  have hlocks := B.notSynchronized
  have hl := lv_entry [.ref (am 0), .int (nI d), .int (nI n)] (n := 4) (Nat.le_of_ble_eq_true rfl)
  rw [lg_entry_eq]
  generalize (lg_sl [.ref (am 0), .int (nI d), .int (nI n)] ++ List.replicate (4 - (lg_sl [.ref (am 0), .int (nI d), .int (nI n)]).length) Slot.unset).toArray = ls at hl ⊢
  have hl : lv_has ls 4 [(0, .ref (am 0)), (1, .int (nI d)), (2, .int (nI n))] := hl
  have hlen := (hO d hd).2.1
  refine lv_iconst (v := 0) hx hb dM_place_0 (by decide) ?_
  refine lv_istore_n (lv' := [(3, .int 0), (0, .ref (am 0)), (1, .int (nI d)), (2, .int (nI n))]) hx hb dM_place_1 rfl hl (by decide) rfl (fun ls hl => ?_)
  suffices loop : ∀ (f j : Nat), j + f = (D9 d).length → (∀ i, i < j → ((D9 d).getD i hn_e0).1 < hn_num h n) → ∀ ls : Array Slot, lv_has ls 4 [(0, .ref (am 0)), (1, .int (nI d)), (2, .int (nI n)), (3, .int (nI j))] → W p l e (headSpec wM_place ({ frames := 1, cells := 0, slots := 0, locals := 24 })).room s m [.ref (am 0), .int (nI d), .int (nI n)].toArray below meth c s.heap [] 0 0 (MQ below (QcRead (nI (48 * d + hn_pc (hn_num h n) (D9 d)))) [.ref (am 0), .int (nI d), .int (nI n)].toArray s 0 0 (fun _ => False)) (F0 m 2 ls []) from loop (D9 d).length 0 (Nat.zero_add _) (fun j z => absurd z (Nat.not_lt_zero _)) ls (lv_sub hl [1, 2, 3, 0] rfl)
  intro f
  induction f with
  | zero =>
    intro j hf hj ls hl
    refine lv_iload_n hx hb dM_place_2 rfl (lv_at hl 3 rfl) ?_
    refine lv_aload_n hx hb dM_place_3 rfl (lv_at hl 0 rfl) ?_
    refine va_get (D := D) (ci := 1) (v := .ref (am 2)) (C := RM) (T := FM) (N := 8) hx hb hts iM hown hK hP 0 rfl rfl 2 (by decide) (hts _ mM_f_many) (fun _ h9 => h9) rfl dM_place_4 ?_
    refine lv_iload_n hx hb dM_place_7 rfl (lv_at hl 1 rfl) ?_
    refine va_iald hx hb hK hP 2 0 rfl rfl (vp_in_nI (show d < 8 from hd) (by omega)) dM_place_8 ?_
    rw [nI_clamp (show d < 2 ^ 31 by omega)]
    rw [show τ 2 d = nI (D9 d).length from (hR.2.2.1 d hd).1]
    refine lv_icmp_ge (tgt := 32) hx hb dM_place_9 (by decide) (fun c_25 => ?_) (fun c_25 => absurd (nI_le (show (D9 d).length ≤ j by omega) (by omega)) c_25)
    refine lv_bipush (v := 48) hx hb dM_place_32 (by decide) ?_
    refine lv_iload_n hx hb dM_place_34 rfl (lv_at hl 1 rfl) ?_
    refine lv_imul hx hb dM_place_35 ?_
    rw [show (48 * (nI d) : Int32) = nI (48 * d) from pk_mul 48 d]
    refine lv_iload_n hx hb dM_place_36 rfl (lv_at hl 3 rfl) ?_
    refine lv_iadd hx hb dM_place_37 ?_
    rw [show ((nI (48 * d)) + (nI j) : Int32) = nI (48 * d + j) from nI_add _ _]
    exact W.iret (v := (nI (48 * d + j))) hx hb hr (fun t9 ht9 _ => ⟨congrArg (fun z => Outcome.returned (some (Value.int z))) (show (nI (48 * d + j) : Int32) = nI (48 * d + hn_pc (hn_num h n) (D9 d)) from congrArg (fun z => nI (48 * d + z)) (hn_pc_step hj (by omega) (Or.inl (by omega))).symm), ht9⟩) (fun q h => nomatch h) dM_place_38
  | succ f ih =>
    intro j hf hj ls hl
    refine lv_iload_n hx hb dM_place_2 rfl (lv_at hl 3 rfl) ?_
    refine lv_aload_n hx hb dM_place_3 rfl (lv_at hl 0 rfl) ?_
    refine va_get (D := D) (ci := 1) (v := .ref (am 2)) (C := RM) (T := FM) (N := 8) hx hb hts iM hown hK hP 0 rfl rfl 2 (by decide) (hts _ mM_f_many) (fun _ h9 => h9) rfl dM_place_4 ?_
    refine lv_iload_n hx hb dM_place_7 rfl (lv_at hl 1 rfl) ?_
    refine va_iald hx hb hK hP 2 0 rfl rfl (vp_in_nI (show d < 8 from hd) (by omega)) dM_place_8 ?_
    rw [nI_clamp (show d < 2 ^ 31 by omega)]
    rw [show τ 2 d = nI (D9 d).length from (hR.2.2.1 d hd).1]
    refine lv_icmp_ge (tgt := 32) hx hb dM_place_9 (by decide) (fun c_26 => absurd c_26 (nI_ge (a := j) (b := (D9 d).length) (by omega) (by omega))) (fun c_26 => ?_)
    have hjl : j < (D9 d).length := by omega
    refine lv_aload_n hx hb dM_place_12 rfl (lv_at hl 0 rfl) ?_
    refine lv_iload_n hx hb dM_place_13 rfl (lv_at hl 2 rfl) ?_
    refine lv_bipush (v := 48) hx hb dM_place_14 (by decide) ?_
    refine lv_iload_n hx hb dM_place_16 rfl (lv_at hl 1 rfl) ?_
    refine lv_imul hx hb dM_place_17 ?_
    rw [show (48 * (nI d) : Int32) = nI (48 * d) from pk_mul 48 d]
    refine lv_iload_n hx hb dM_place_18 rfl (lv_at hl 3 rfl) ?_
    refine lv_iadd hx hb dM_place_19 ?_
    rw [show ((nI (48 * d)) + (nI j) : Int32) = nI (48 * d + j) from nI_add _ _]
    refine hn_callE (W.runV (As := [.int (nI n), .int (nI (48 * d + j))]) (rest := []) ⟨hx, hb, hml, hown, hts⟩ (cM_compare_ok l D cI cL am τ h hR.1 hR.2.1 n h1 h2 hz (48 * d + j) (by omega) ((D9 d).getD j hn_e0) ((hO d hd).2.2 _ (hn_getD_mem hjl)) ((hR.2.2.1 d hd).2 j hjl).2.1 ((hR.2.2.1 d hd).2 j hjl).2.2) (cwV 2 hts gM_M_compare rfl rfl rfl (by decide +kernel) ⟨Nat.le_of_ble_eq_true rfl, Nat.le_of_ble_eq_true rfl⟩) (hn_preV hP hK (ci := 1) (q0 := 0) rfl rfl) rfl rfl hl.1 rfl (lv_room (Nat.le_of_ble_eq_true rfl)) dM_place_20 ⟨Nat.zero_le _, Nat.zero_le _⟩) (fun r hr9 => ?_)
    refine W.eq (g2 := F0 m 23 ls [.int r]) rfl ?_
    refine lv_if_le (tgt := 32) hx hb dM_place_23 (by decide) (fun c_27 => ?_) (fun c_27 => ?_)
    · skip
      refine lv_bipush (v := 48) hx hb dM_place_32 (by decide) ?_
      refine lv_iload_n hx hb dM_place_34 rfl (lv_at hl 1 rfl) ?_
      refine lv_imul hx hb dM_place_35 ?_
      rw [show (48 * (nI d) : Int32) = nI (48 * d) from pk_mul 48 d]
      refine lv_iload_n hx hb dM_place_36 rfl (lv_at hl 3 rfl) ?_
      refine lv_iadd hx hb dM_place_37 ?_
      rw [show ((nI (48 * d)) + (nI j) : Int32) = nI (48 * d + j) from nI_add _ _]
      exact W.iret (v := (nI (48 * d + j))) hx hb hr (fun t9 ht9 _ => ⟨congrArg (fun z => Outcome.returned (some (Value.int z))) (show (nI (48 * d + j) : Int32) = nI (48 * d + hn_pc (hn_num h n) (D9 d)) from congrArg (fun z => nI (48 * d + z)) (hn_pc_step hj (by omega) (Or.inr (fun z => absurd (hr9.1.mpr z) (Int32.not_lt.mpr c_27)))).symm), ht9⟩) (fun q h => nomatch h) dM_place_38
    · skip
      refine lv_iinc (v := nI (j + 1)) (lv' := [(3, .int (nI (j + 1))), (0, .ref (am 0)), (1, .int (nI d)), (2, .int (nI n))]) hx hb dM_place_26 hl (k := 3) rfl (nI_1 j) (by decide) rfl (fun ls hl => ?_)
      refine lv_goto (tgt := 2) hx hb dM_place_29 (by decide) ?_
      exact ih (j + 1) (by omega) (lt_s hj (hr9.1.mp (Int32.not_le.mp c_27))) ls (lv_sub hl [1, 2, 3, 0] rfl)

set_option maxHeartbeats 4000000 in
set_option maxRecDepth 100000 in
theorem cM_isAt_ok (l : Launch) (D : va_G) (cI cL : ClassId) (am : Nat → Nat) (τ : Nat → Nat → Int32) (h : Nat → Nat) (D9 : Nat → List hn_E) (tn : Nat) (tb : Nat → Nat) (hR : hn_MR τ h D9 tn tb) (hO : hn_DO D9) (d : Nat) (hd : d < 8) (n : Nat) (h1 : 1 ≤ n) (h2 : n ≤ 20) (hz : ∀ k, k < n → h k ≠ 0) (p9 : Nat) (hp9 : p9 ≤ 48) : Met l yM_isAt wM_isAt ({ frames := 1, cells := 0, slots := 0, locals := 24 }) (hn_PR D vwCl (hn_ty cI cL) (hn_wM am cI τ) [.ref (am 0), .int (nI (48 * d + p9)), .int (nI d), .int (nI n)]) (hn_QE (hn_tf (p9 < (D9 d).length ∧ ((D9 d).getD p9 hn_e0).1 = hn_num h n))) 0 0 (fun _ => False) := by
  refine Met.ofW (cc := cM_isAt) (maxL := 4) (ret := (some .boolean)) (by decide) rfl ?_
  intro p e s m args below meth c s₁ B hml hv
  obtain ⟨rfl, hP, hK⟩ := hv
  have hx := B.exec
  have hb := B.bytes
  have hr := B.returns
  have hts0 := atoms_spec (ws := wM_isAt) B.pre
  have hts : ∀ w ∈ hn_tb, w.before _ s = true := fun w hw => hts0 w (List.mem_cons_of_mem _ hw)
  have hown : s.vm.findClass RM = some m.cls := findClass_of_methodNamed B.named
  have hlocks := B.notSynchronized
  have hl := lv_entry [.ref (am 0), .int (nI (48 * d + p9)), .int (nI d), .int (nI n)] (n := 4) (Nat.le_of_ble_eq_true rfl)
  rw [lg_entry_eq]
  generalize (lg_sl [.ref (am 0), .int (nI (48 * d + p9)), .int (nI d), .int (nI n)] ++ List.replicate (4 - (lg_sl [.ref (am 0), .int (nI (48 * d + p9)), .int (nI d), .int (nI n)]).length) Slot.unset).toArray = ls at hl ⊢
  have hl : lv_has ls 4 [(0, .ref (am 0)), (1, .int (nI (48 * d + p9))), (2, .int (nI d)), (3, .int (nI n))] := hl
  have hlen := (hO d hd).2.1
  refine lv_iload_n hx hb dM_isAt_0 rfl (lv_at hl 1 rfl) ?_
  refine lv_bipush (v := 48) hx hb dM_isAt_1 (by decide) ?_
  refine lv_iload_n hx hb dM_isAt_3 rfl (lv_at hl 2 rfl) ?_
  refine lv_imul hx hb dM_isAt_4 ?_
  rw [show (48 * (nI d) : Int32) = nI (48 * d) from pk_mul 48 d]
  refine lv_aload_n hx hb dM_isAt_5 rfl (lv_at hl 0 rfl) ?_
  refine va_get (D := D) (ci := 1) (v := .ref (am 2)) (C := RM) (T := FM) (N := 8) hx hb hts iM hown hK hP 0 rfl rfl 2 (by decide) (hts _ mM_f_many) (fun _ h9 => h9) rfl dM_isAt_6 ?_
  refine lv_iload_n hx hb dM_isAt_9 rfl (lv_at hl 2 rfl) ?_
  refine va_iald hx hb hK hP 2 0 rfl rfl (vp_in_nI (show d < 8 from hd) (by omega)) dM_isAt_10 ?_
  rw [nI_clamp (show d < 2 ^ 31 by omega)]
  rw [show τ 2 d = nI (D9 d).length from (hR.2.2.1 d hd).1]
  refine lv_iadd hx hb dM_isAt_11 ?_
  rw [show ((nI (48 * d)) + (nI (D9 d).length) : Int32) = nI (48 * d + (D9 d).length) from nI_add _ _]
  refine lv_icmp_ge (tgt := 28) hx hb dM_isAt_12 (by decide) (fun c_28 => ?_) (fun c_28 => ?_)
  · skip
    refine lv_iconst (v := 0) hx hb dM_isAt_28 (by decide) ?_
    exact W.zret (v := 0) hx hb hr rfl (fun t9 ht9 _ => ⟨0, Or.inr ⟨rfl, fun z => absurd ((nI_leI (by omega) (by omega)).mp c_28) (by omega)⟩, rfl, ht9⟩) (fun q h => nomatch h) dM_isAt_29
  · skip
    have hjl : p9 < (D9 d).length := Nat.lt_of_not_le (fun z => c_28 (nI_le (by omega) (by omega)))
    refine lv_aload_n hx hb dM_isAt_15 rfl (lv_at hl 0 rfl) ?_
    refine lv_iload_n hx hb dM_isAt_16 rfl (lv_at hl 3 rfl) ?_
    refine lv_iload_n hx hb dM_isAt_17 rfl (lv_at hl 1 rfl) ?_
    refine hn_callE (W.runV (As := [.int (nI n), .int (nI (48 * d + p9))]) (rest := []) ⟨hx, hb, hml, hown, hts⟩ (cM_compare_ok l D cI cL am τ h hR.1 hR.2.1 n h1 h2 hz (48 * d + p9) (by omega) ((D9 d).getD p9 hn_e0) ((hO d hd).2.2 _ (hn_getD_mem hjl)) ((hR.2.2.1 d hd).2 p9 hjl).2.1 ((hR.2.2.1 d hd).2 p9 hjl).2.2) (cwV 2 hts gM_M_compare rfl rfl rfl (by decide +kernel) ⟨Nat.le_of_ble_eq_true rfl, Nat.le_of_ble_eq_true rfl⟩) (hn_preV hP hK (ci := 1) (q0 := 0) rfl rfl) rfl rfl hl.1 rfl (lv_room (Nat.le_of_ble_eq_true rfl)) dM_isAt_18 ⟨Nat.zero_le _, Nat.zero_le _⟩) (fun r hr9 => ?_)
    refine W.eq (g2 := F0 m 21 ls [.int r]) rfl ?_
    refine lv_if_ne (tgt := 28) hx hb dM_isAt_21 (by decide) (fun c_29 => ?_) (fun c_29 => ?_)
    · skip
      refine lv_iconst (v := 0) hx hb dM_isAt_28 (by decide) ?_
      exact W.zret (v := 0) hx hb hr rfl (fun t9 ht9 _ => ⟨0, Or.inr ⟨rfl, fun z => c_29 (hr9.2.mpr z.2)⟩, rfl, ht9⟩) (fun q h => nomatch h) dM_isAt_29
    · skip
      refine lv_iconst (v := 1) hx hb dM_isAt_24 (by decide) ?_
      refine lv_goto (tgt := 29) hx hb dM_isAt_25 (by decide) ?_
      exact W.zret (v := 1) hx hb hr rfl (fun t9 ht9 _ => ⟨1, Or.inl ⟨rfl, hjl, hr9.2.mp c_29⟩, rfl, ht9⟩) (fun q h => nomatch h) dM_isAt_29
