set_option maxHeartbeats 4000000 in
set_option maxRecDepth 100000 in
theorem cM_nth_ok (l : Launch) (D : va_G) (cI cL : ClassId) (am : Nat → Nat) (τ : Nat → Nat → Int32) (d9 k9 : Int32) (h : Nat → Nat) (D9 : Nat → List hn_E) (tn TK : Nat) (hH : hn_MH τ h tn TK) (hM : hn_MD τ D9) (hO : hn_DO D9)  (sz : Nat) : Met l yM_nth wM_nth ({ frames := 1, cells := 0, slots := 0, locals := 22 }) (hn_PW D (hn_ty cI cL) (hn_wM am cI (τ)) sz [.ref (am 0), .int d9, .int k9]) (va_Qi (fun (r : Int32) (τ9 : Nat → Nat → Int32) => ∃ c tn' TK' : Nat, hn_nthS D9 tn TK d9 k9 c r tn' TK' ∧ τ9 0 0 = nI c ∧ hn_MH τ9 h tn' TK' ∧ hn_MD τ9 D9) (fun (τ9 : Nat → Nat → Int32) t => hn_at D (hn_ty cI cL) (va_A (hn_wM am cI (τ)) sz) (hn_wM am cI (τ9)) t) (va_A (hn_wM am cI (τ)) sz)) 0 0 (va_A (hn_wM am cI (τ)) sz) := by
  refine Met.ofW (cc := cM_nth) (maxL := 4) (ret := (some .int)) (by decide) rfl ?_
  intro p e s m args below meth c s₁ B hml hv
  obtain ⟨rfl, hsz, hP, hK, hD0⟩ := hv
  subst hsz
  have hD := hD0.self (sz := s.heap.size)
  generalize hAe : va_A (hn_wM am cI (τ)) s.heap.size = A at hD ⊢
  have hA : ∀ q : Nat, s.heap.size ≤ q → A q := fun q h => by rw [← hAe]; exact Or.inr h
  have hS : va_S A s.heap s.heap [] := va_S.rf
  have hP : va_P D vwCl (hn_wM am cI (τ)) s.heap := hP
  have hx := B.exec
  have hb := B.bytes
  have hr := B.returns
  have hts0 := atoms_spec (ws := wM_nth) B.pre
  have hts : ∀ w ∈ hn_tb, w.before _ s = true := fun w hw => hts0 w (List.mem_cons_of_mem _ hw)
  have hown : s.vm.findClass RM = some m.cls := findClass_of_methodNamed B.named
  have hlocks := B.notSynchronized
  have hl := lv_entry [.ref (am 0), .int d9, .int k9] (n := 4) (Nat.le_of_ble_eq_true rfl)
  rw [lg_entry_eq]
  generalize (lg_sl [.ref (am 0), .int d9, .int k9] ++ List.replicate (4 - (lg_sl [.ref (am 0), .int d9, .int k9]).length) Slot.unset).toArray = ls at hl ⊢
  have hl : lv_has ls 4 [(0, .ref (am 0)), (1, .int d9), (2, .int k9)] := hl
  refine lv_aload_n hx hb dM_nth_0 rfl (lv_at hl 0 rfl) ?_
  refine lv_iload_n hx hb dM_nth_1 rfl (lv_at hl 1 rfl) ?_
  refine hn_callE (W.runS (As := [.int d9]) (rest := [.ref (am 0)]) ⟨hx, hb, hml, hown, hts⟩ (cM_isDirectory_ok l d9) (cwS 1 hts gM_M_isDirectory rfl rfl rfl (by decide +kernel) ⟨Nat.le_of_ble_eq_true rfl, Nat.le_of_ble_eq_true rfl⟩) hn_pre0 rfl rfl hl.1 rfl (lv_room (Nat.le_of_ble_eq_true rfl)) dM_nth_2 ⟨Nat.zero_le _, Nat.zero_le _⟩) (fun r_14 hr_14 => ?_)
  refine W.eq (g2 := F0 m 5 ls [.int r_14, .ref (am 0)]) rfl ?_
  rcases hr_14 with ⟨e9, hd9⟩ | ⟨e9, hd9⟩
  · subst e9
    refine lv_if_eq (tgt := 12) hx hb dM_nth_5 (by decide) (fun c_15 => absurd c_15 (by decide)) (fun c_15 => ?_)
    refine lv_iload_n hx hb dM_nth_8 rfl (lv_at hl 2 rfl) ?_
    refine lv_if_ge (tgt := 16) hx hb dM_nth_9 (by decide) (fun c_16 => ?_) (fun c_16 => ?_)
    · skip
      obtain ⟨d, hd, ed⟩ := hd9
      subst ed
      obtain ⟨k, hk, ek⟩ := nI_of (Int32.not_lt.mpr c_16)
      subst ek
      refine lv_iconst (v := 0) hx hb dM_nth_16 (by decide) ?_
      refine lv_iconst (v := 0) hx hb dM_nth_17 (by decide) ?_
      have hFc := va_free (wc := hn_wM am cI (τ)) hD hS hA [0, 1, 2, 3, 4, 5, 6] rfl
      refine va_calli (va_runV (As := [.int 0, .int 0]) (rest := []) ⟨hx, hb, hml, hown, hts⟩ (cM_throwing_ok l D cI cL am (τ) 0 0 _) (cwV 2 hts gM_M_throwing rfl rfl rfl (by decide +kernel) ⟨Nat.le_of_ble_eq_true rfl, Nat.le_of_ble_eq_true rfl⟩) (hn_preVW hP hK hD (ci := 1) (q0 := 0) rfl rfl) rfl rfl hl.1 rfl (lv_room (Nat.le_of_ble_eq_true rfl)) dM_nth_18 ⟨Nat.zero_le _, Nat.zero_le _⟩) hS (fun q _ h => hFc q h) hFc (fun r9 τ1 t8 H1 locs ht hvm hw hB hz1 hk1 hS => ?_)
      obtain ⟨hP1, hK1, hD1⟩ := hB
      rw [ht] at hP1
      have hD : va_D A (hn_wM am cI (τ1)) := hD1.weaken (fun _ q _ h => hFc q.1 h)
      have hP : va_P D vwCl (hn_wM am cI (τ1)) H1 := hP1
      generalize H1 = H at hP hS ⊢
      try dsimp only at hw
      obtain ⟨hw1, hw2⟩ := hn_thr0 hw rfl rfl
      subst hw1
      have hH1 : hn_MH τ1 h tn TK := by rw [hw2]; exact hn_MH_keep hH rfl rfl rfl
      have hM1 : hn_MD τ1 D9 := by rw [hw2]; exact hn_MD_keep hM rfl rfl rfl rfl
      have hc1 : τ1 0 0 = nI 0 := by rw [hw2]; show upd (τ 0) 0 0 0 = nI 0; rw [pk_us]; rfl
      have hR1 : hn_MR τ1 h D9 tn (hn_kb TK) := hn_MR_iff.mpr ⟨hH1, hM1⟩
      refine lv_if_eq (tgt := 26) hx hb dM_nth_21 (by decide) (fun c_17 => ?_) (fun c_17 => absurd rfl c_17)
      have hlen := (hO d hd).2.1
      refine lv_aload_n hx hb dM_nth_26 rfl (lv_at hl 0 rfl) ?_
      refine lv_iload_n hx hb dM_nth_27 rfl (lv_at hl 2 rfl) ?_
      refine lv_aload_n hx hb dM_nth_28 rfl (lv_at hl 0 rfl) ?_
      refine va_get (D := D) (ci := 1) (v := .ref (am 2)) (C := RM) (T := FM) (N := 8) hx hb hts iM hown hK hP 0 rfl rfl 2 (by decide) (hts _ mM_f_many) (fun _ h9 => h9) rfl dM_nth_29 ?_
      refine lv_iload_n hx hb dM_nth_32 rfl (lv_at hl 1 rfl) ?_
      refine va_iald hx hb hK hP 2 0 rfl rfl (vp_in_nI (show d < 8 from hd) (by omega)) dM_nth_33 ?_
      rw [nI_clamp (show d < 2 ^ 31 by omega)]
      rw [show τ1 2 d = nI (D9 d).length from (hM1 d hd).1]
      refine lv_icmp_ge (tgt := 51) hx hb dM_nth_34 (by decide) (fun c_18 => ?_) (fun c_18 => ?_)
      · skip
        have hle : (D9 d).length ≤ k := (nI_leI (by omega) hk).mp c_18
        refine lv_iconst (v := 0) hx hb dM_nth_51 (by decide) ?_
        refine va_put (D := D) (ci := 1) (v := .int 0) (ty := .int) (C := RM) (T := FM) (N := 8) hx hb hts iM tM tM_ok nM hown hK hP hD hS 0 rfl rfl 7 (by decide) (hts _ mM_f_toldLength) (fun _ h9 => h9) rfl (by decide +kernel) rfl rfl (Nat.le_of_ble_eq_true rfl) dM_nth_52 (fun H locs hP hD hS => ?_)
        obtain ⟨τ2, eτ2⟩ : ∃ z : Nat → Nat → Int32, z = hn_up (τ1) 0 (upd (τ1 0) 1 0) := ⟨_, rfl⟩
        have hP : va_P D vwCl (hn_wM am cI (τ2)) H := by rw [eτ2]; exact hP
        have hD : va_D A (hn_wM am cI (τ2)) := by rw [eτ2]; exact hD
        refine lv_iconst (v := 0) hx hb dM_nth_55 (by decide) ?_
        refine lv_istore_n (lv' := [(3, .int 0), (0, .ref (am 0)), (1, .int (nI d)), (2, .int (nI k))]) hx hb dM_nth_56 rfl hl (by decide) rfl (fun ls hl => ?_)
        refine lv_iload_n hx hb dM_nth_57 rfl (lv_at hl 0 rfl) ?_
        refine lv_aload_n hx hb dM_nth_58 rfl (lv_at hl 1 rfl) ?_
        refine va_get (D := D) (ci := 1) (v := .int (τ2 0 1)) (C := RM) (T := FM) (N := 8) hx hb hts iM hown hK hP 0 rfl rfl 7 (by decide) (hts _ mM_f_toldLength) (fun _ h9 => h9) rfl dM_nth_59 ?_
        have ht0 : τ2 0 1 = 0 := by rw [eτ2]; show upd (τ1 0) 1 0 1 = 0; exact pk_us
        rw [ht0]
        refine lv_icmp_ge (tgt := 93) hx hb dM_nth_62 (by decide) (fun c_19 => ?_) (fun c_19 => absurd (Int32.le_refl _) c_19)
        refine lv_aload_n hx hb dM_nth_93 rfl (lv_at hl 1 rfl) ?_
        refine va_get (D := D) (ci := 1) (v := .int (τ2 0 1)) (C := RM) (T := FM) (N := 8) hx hb hts iM hown hK hP 0 rfl rfl 7 (by decide) (hts _ mM_f_toldLength) (fun _ h9 => h9) rfl dM_nth_94 ?_
        rw [ht0]
        refine lv_if_ne (tgt := 104) hx hb dM_nth_97 (by decide) (fun c_20 => absurd rfl c_20) (fun c_20 => ?_)
        refine lv_iconst (v := (-1)) hx hb dM_nth_100 (by decide) ?_
        refine lv_goto (tgt := 108) hx hb dM_nth_101 (by decide) ?_
        exact W.iret (v := (-1)) hx hb hr (fun t9 ht9 hW9 => ⟨⟨(-1), τ2, rfl, ⟨0, 0, 0, Or.inr ⟨d, k, rfl, hd, rfl, hk, rfl, Or.inl ⟨hle, rfl, rfl, rfl⟩⟩, by rw [eτ2]; exact hc1, ⟨by rw [eτ2]; exact hH1.1, hH1.2.1, ht0, by decide, fun k z => absurd z (Nat.not_lt_zero _)⟩, by rw [eτ2]; exact hn_MD_keep hM1 rfl rfl rfl rfl⟩, by rw [ht9]; exact hP, va_K.moved hW9.alike hK, hD⟩, hS.F ht9⟩) hS.2.2 dM_nth_108
      · skip
        have hlt : k < (D9 d).length := Nat.lt_of_not_le (fun z => c_18 (nI_le z hk))
        have hwf := (hO d hd).2.2 _ (hn_getD_mem hlt)
        have hwa := hwf.1
        have hwb := hwf.2.1
        refine lv_aload_n hx hb dM_nth_37 rfl (lv_at hl 0 rfl) ?_
        refine va_get (D := D) (ci := 1) (v := .ref (am 4)) (C := RM) (T := FM) (N := 8) hx hb hts iM hown hK hP 0 rfl rfl 4 (by decide) (hts _ mM_f_length) (fun _ h9 => h9) rfl dM_nth_38 ?_
        refine lv_bipush (v := 48) hx hb dM_nth_41 (by decide) ?_
        refine lv_iload_n hx hb dM_nth_43 rfl (lv_at hl 1 rfl) ?_
        refine lv_imul hx hb dM_nth_44 ?_
        refine lv_iload_n hx hb dM_nth_45 rfl (lv_at hl 2 rfl) ?_
        refine lv_iadd hx hb dM_nth_46 ?_
        rw [show ((48 * (nI d)) + (nI k) : Int32) = nI (48 * d + k) from by rw [show (48 : Int32) = nI 48 from rfl, pk_mul, nI_add]]
        refine va_iald hx hb hK hP 4 0 rfl rfl (vp_in_nI (show 48 * d + k < 384 from by omega) (by omega)) dM_nth_47 ?_
        rw [nI_clamp (show 48 * d + k < 2 ^ 31 by omega)]
        rw [show τ1 4 (48 * d + k) = nI ((D9 d).getD k hn_e0).2.1 from ((hM1 d hd).2 k hlt).2.1]
        refine lv_goto (tgt := 52) hx hb dM_nth_48 (by decide) ?_
        refine va_put (D := D) (ci := 1) (v := .int (nI ((D9 d).getD k hn_e0).2.1)) (ty := .int) (C := RM) (T := FM) (N := 8) hx hb hts iM tM tM_ok nM hown hK hP hD hS 0 rfl rfl 7 (by decide) (hts _ mM_f_toldLength) (fun _ h9 => h9) rfl (by decide +kernel) rfl rfl (Nat.le_of_ble_eq_true rfl) dM_nth_52 (fun H locs hP hD hS => ?_)
        obtain ⟨τ2, eτ2⟩ : ∃ z : Nat → Nat → Int32, z = hn_up (τ1) 0 (upd (τ1 0) 1 (nI ((D9 d).getD k hn_e0).2.1)) := ⟨_, rfl⟩
        have hP : va_P D vwCl (hn_wM am cI (τ2)) H := by rw [eτ2]; exact hP
        have hD : va_D A (hn_wM am cI (τ2)) := by rw [eτ2]; exact hD
        refine lv_iconst (v := 0) hx hb dM_nth_55 (by decide) ?_
        refine lv_istore_n (lv' := [(3, .int 0), (0, .ref (am 0)), (1, .int (nI d)), (2, .int (nI k))]) hx hb dM_nth_56 rfl hl (by decide) rfl (fun ls hl => ?_)
        have ht0 : τ2 0 1 = nI ((D9 d).getD k hn_e0).2.1 := by rw [eτ2]; show upd (τ1 0) 1 _ 1 = _; exact pk_us
        suffices loop : ∀ (f b : Nat) (τ3 : Nat → Nat → Int32) (H : Heap) (locs : List Loc), b + f = ((D9 d).getD k hn_e0).2.1 → va_P D vwCl (hn_wM am cI τ3) H → va_D A (hn_wM am cI τ3) → va_S A s.heap H locs → (τ3 0 = τ2 0 ∧ τ3 1 = τ2 1 ∧ τ3 2 = τ2 2 ∧ τ3 3 = τ2 3 ∧ τ3 4 = τ2 4 ∧ τ3 5 = τ2 5 ∧ ∀ j, j < b → τ3 6 j = nI (hn_kb ((D9 d).getD k hn_e0).1 j)) → ∀ ls : Array Slot, lv_has ls 4 [(0, .ref (am 0)), (1, .int (nI d)), (2, .int (nI k)), (3, .int (nI b))] → W p l e (headSpec wM_nth ({ frames := 1, cells := 0, slots := 0, locals := 22 })).room s m [.ref (am 0), .int (nI d), .int (nI k)].toArray below meth c H locs 0 0 (MQ below (va_Qi (fun (r : Int32) (τ9 : Nat → Nat → Int32) => ∃ c tn' TK' : Nat, hn_nthS D9 tn TK (nI d) (nI k) c r tn' TK' ∧ τ9 0 0 = nI c ∧ hn_MH τ9 h tn' TK' ∧ hn_MD τ9 D9) (fun (τ9 : Nat → Nat → Int32) t => hn_at D (hn_ty cI cL) A (hn_wM am cI (τ9)) t) A) [.ref (am 0), .int (nI d), .int (nI k)].toArray s 0 0 A) (F0 m 57 ls []) from loop ((D9 d).getD k hn_e0).2.1 0 τ2 _ _ (Nat.zero_add _) hP hD hS ⟨rfl, rfl, rfl, rfl, rfl, rfl, fun j z => absurd z (Nat.not_lt_zero _)⟩ ls (lv_sub hl [1, 2, 3, 0] rfl)
        intro f
        induction f with
        | zero =>
          intro b τ3 H locs hf hP hD hS hI ls hl
          have htl : τ3 0 1 = nI ((D9 d).getD k hn_e0).2.1 := by rw [hI.1]; exact ht0
          refine lv_iload_n hx hb dM_nth_57 rfl (lv_at hl 3 rfl) ?_
          refine lv_aload_n hx hb dM_nth_58 rfl (lv_at hl 0 rfl) ?_
          refine va_get (D := D) (ci := 1) (v := .int (τ3 0 1)) (C := RM) (T := FM) (N := 8) hx hb hts iM hown hK hP 0 rfl rfl 7 (by decide) (hts _ mM_f_toldLength) (fun _ h9 => h9) rfl dM_nth_59 ?_
          rw [htl]
          refine lv_icmp_ge (tgt := 93) hx hb dM_nth_62 (by decide) (fun c_21 => ?_) (fun c_21 => absurd (nI_le (show ((D9 d).getD k hn_e0).2.1 ≤ b by omega) (by omega)) c_21)
          refine lv_aload_n hx hb dM_nth_93 rfl (lv_at hl 0 rfl) ?_
          refine va_get (D := D) (ci := 1) (v := .int (τ3 0 1)) (C := RM) (T := FM) (N := 8) hx hb hts iM hown hK hP 0 rfl rfl 7 (by decide) (hts _ mM_f_toldLength) (fun _ h9 => h9) rfl dM_nth_94 ?_
          rw [htl]
          refine lv_if_ne (tgt := 104) hx hb dM_nth_97 (by decide) (fun c_22 => ?_) (fun c_22 => absurd c_22 (nI_ne0 (by omega) (by omega)))
          refine lv_aload_n hx hb dM_nth_104 rfl (lv_at hl 0 rfl) ?_
          refine va_get (D := D) (ci := 1) (v := .int (τ3 0 1)) (C := RM) (T := FM) (N := 8) hx hb hts iM hown hK hP 0 rfl rfl 7 (by decide) (hts _ mM_f_toldLength) (fun _ h9 => h9) rfl dM_nth_105 ?_
          rw [htl]
          exact W.iret (v := (nI ((D9 d).getD k hn_e0).2.1)) hx hb hr (fun t9 ht9 hW9 => ⟨⟨nI ((D9 d).getD k hn_e0).2.1, τ3, rfl, ⟨0, ((D9 d).getD k hn_e0).2.1, ((D9 d).getD k hn_e0).1, Or.inr ⟨d, k, rfl, hd, rfl, hk, rfl, Or.inr ⟨hlt, rfl, rfl, rfl⟩⟩, by rw [hI.1, eτ2]; exact hc1, ⟨by rw [hI.2.1, eτ2]; exact hH1.1, hH1.2.1, htl, hwb, fun j hj => hI.2.2.2.2.2.2 j (by omega)⟩, by obtain ⟨x0, x1, x2, x3, x4, x5, x6⟩ := hI; exact hn_MD_keep hM1 (by rw [x2, eτ2]; rfl) (by rw [x3, eτ2]; rfl) (by rw [x4, eτ2]; rfl) (by rw [x5, eτ2]; rfl)⟩, by rw [ht9]; exact hP, va_K.moved hW9.alike hK, hD⟩, hS.F ht9⟩) hS.2.2 dM_nth_108
        | succ f ih =>
          intro b τ3 H locs hf hP hD hS hI ls hl
          have htl : τ3 0 1 = nI ((D9 d).getD k hn_e0).2.1 := by rw [hI.1]; exact ht0
          refine lv_iload_n hx hb dM_nth_57 rfl (lv_at hl 3 rfl) ?_
          refine lv_aload_n hx hb dM_nth_58 rfl (lv_at hl 0 rfl) ?_
          refine va_get (D := D) (ci := 1) (v := .int (τ3 0 1)) (C := RM) (T := FM) (N := 8) hx hb hts iM hown hK hP 0 rfl rfl 7 (by decide) (hts _ mM_f_toldLength) (fun _ h9 => h9) rfl dM_nth_59 ?_
          rw [htl]
          refine lv_icmp_ge (tgt := 93) hx hb dM_nth_62 (by decide) (fun c_23 => absurd c_23 (nI_ge (a := b) (b := ((D9 d).getD k hn_e0).2.1) (by omega) (by omega))) (fun c_23 => ?_)
          obtain ⟨x0, x1, x2, x3, x4, x5, x6⟩ := hI
          refine lv_aload_n hx hb dM_nth_65 rfl (lv_at hl 0 rfl) ?_
          refine va_get (D := D) (ci := 1) (v := .ref (am 6)) (C := RM) (T := FM) (N := 8) hx hb hts iM hown hK hP 0 rfl rfl 6 (by decide) (hts _ mM_f_told) (fun _ h9 => h9) rfl dM_nth_66 ?_
          refine lv_iload_n hx hb dM_nth_69 rfl (lv_at hl 3 rfl) ?_
          refine lv_aload_n hx hb dM_nth_70 rfl (lv_at hl 0 rfl) ?_
          refine va_get (D := D) (ci := 1) (v := .ref (am 5)) (C := RM) (T := FM) (N := 8) hx hb hts iM hown hK hP 0 rfl rfl 5 (by decide) (hts _ mM_f_bytes) (fun _ h9 => h9) rfl dM_nth_71 ?_
          refine lv_bipush (v := 20) hx hb dM_nth_74 (by decide) ?_
          refine lv_bipush (v := 48) hx hb dM_nth_76 (by decide) ?_
          refine lv_iload_n hx hb dM_nth_78 rfl (lv_at hl 1 rfl) ?_
          refine lv_imul hx hb dM_nth_79 ?_
          refine lv_iload_n hx hb dM_nth_80 rfl (lv_at hl 2 rfl) ?_
          refine lv_iadd hx hb dM_nth_81 ?_
          refine lv_imul hx hb dM_nth_82 ?_
          refine lv_iload_n hx hb dM_nth_83 rfl (lv_at hl 3 rfl) ?_
          refine lv_iadd hx hb dM_nth_84 ?_
          rw [show ((20 * ((48 * (nI d)) + (nI k))) + (nI b) : Int32) = nI (20 * (48 * d + k) + b) from by rw [show (48 : Int32) = nI 48 from rfl, show (20 : Int32) = nI 20 from rfl, pk_mul, nI_add, pk_mul, nI_add]]
          refine va_iald hx hb hK hP 5 0 rfl rfl (vp_in_nI (show 20 * (48 * d + k) + b < 7680 from by omega) (by omega)) dM_nth_85 ?_
          rw [nI_clamp (show 20 * (48 * d + k) + b < 2 ^ 31 by omega)]
          rw [show τ3 5 (20 * (48 * d + k) + b) = nI (hn_kb ((D9 d).getD k hn_e0).1 b) from by rw [x5, eτ2]; exact ((hM1 d hd).2 k hlt).2.2 b (by omega)]
          refine va_iast hx hb hK hP hD hS 6 0 rfl rfl (vp_in_nI (show b < 20 from by omega) (by omega)) dM_nth_86 (fun H locs hP hD hS => ?_)
          rw [nI_clamp (show b < 2 ^ 31 by omega)] at hP hD
          obtain ⟨τ4, eτ4⟩ : ∃ z : Nat → Nat → Int32, z = hn_up (τ3) 6 (upd (τ3 6) b (nI (hn_kb ((D9 d).getD k hn_e0).1 b))) := ⟨_, rfl⟩
          have hP : va_P D vwCl (hn_wM am cI (τ4)) H := by rw [eτ4]; exact hP
          have hD : va_D A (hn_wM am cI (τ4)) := by rw [eτ4]; exact hD
          refine lv_iinc (v := nI (b + 1)) (lv' := [(3, .int (nI (b + 1))), (0, .ref (am 0)), (1, .int (nI d)), (2, .int (nI k))]) hx hb dM_nth_87 hl (k := 3) rfl (nI_1 b) (by decide) rfl (fun ls hl => ?_)
          refine lv_goto (tgt := 57) hx hb dM_nth_90 (by decide) ?_
          exact ih (b + 1) τ4 H locs (by omega) hP hD hS (by rw [eτ4]; exact ⟨x0, x1, x2, x3, x4, x5, fun j hj => hn_sy1 (f := fun j => nI (hn_kb ((D9 d).getD k hn_e0).1 j)) x6 hj⟩) ls (lv_sub hl [1, 2, 3, 0] rfl)
    · skip
      refine lv_iconst (v := 1) hx hb dM_nth_12 (by decide) ?_
      refine lv_goto (tgt := 17) hx hb dM_nth_13 (by decide) ?_
      refine lv_iconst (v := 0) hx hb dM_nth_17 (by decide) ?_
      have hFc := va_free (wc := hn_wM am cI (τ)) hD hS hA [0, 1, 2, 3, 4, 5, 6] rfl
      refine va_calli (va_runV (As := [.int 1, .int 0]) (rest := []) ⟨hx, hb, hml, hown, hts⟩ (cM_throwing_ok l D cI cL am (τ) 1 0 _) (cwV 2 hts gM_M_throwing rfl rfl rfl (by decide +kernel) ⟨Nat.le_of_ble_eq_true rfl, Nat.le_of_ble_eq_true rfl⟩) (hn_preVW hP hK hD (ci := 1) (q0 := 0) rfl rfl) rfl rfl hl.1 rfl (lv_room (Nat.le_of_ble_eq_true rfl)) dM_nth_18 ⟨Nat.zero_le _, Nat.zero_le _⟩) hS (fun q _ h => hFc q h) hFc (fun r9 τ1 t8 H1 locs ht hvm hw hB hz1 hk1 hS => ?_)
      obtain ⟨hP1, hK1, hD1⟩ := hB
      rw [ht] at hP1
      have hD : va_D A (hn_wM am cI (τ1)) := hD1.weaken (fun _ q _ h => hFc q.1 h)
      have hP : va_P D vwCl (hn_wM am cI (τ1)) H1 := hP1
      generalize H1 = H at hP hS ⊢
      try dsimp only at hw
      obtain ⟨hw1, hw2⟩ := hn_thr1 hw rfl
      subst hw1
      have hH1 : hn_MH τ1 h tn TK := by rw [hw2]; exact hn_MH_keep hH rfl rfl rfl
      have hM1 : hn_MD τ1 D9 := by rw [hw2]; exact hn_MD_keep hM rfl rfl rfl rfl
      have hc1 : τ1 0 0 = nI 1 := by rw [hw2]; show upd (τ 0) 0 1 0 = nI 1; rw [pk_us]; rfl
      have hR1 : hn_MR τ1 h D9 tn (hn_kb TK) := hn_MR_iff.mpr ⟨hH1, hM1⟩
      refine lv_if_eq (tgt := 26) hx hb dM_nth_21 (by decide) (fun c_24 => absurd c_24 (by decide)) (fun c_24 => ?_)
      refine lv_iconst (v := 0) hx hb dM_nth_24 (by decide) ?_
      exact W.iret (v := 0) hx hb hr (fun t9 ht9 hW9 => ⟨⟨0, τ1, rfl, ⟨1, tn, TK, Or.inl ⟨rfl, rfl, rfl, fun z => z.2 (Int32.not_le.mp c_16)⟩, hc1, hH1, hM1⟩, by rw [ht9]; exact hP, va_K.moved hW9.alike hK, hD⟩, hS.F ht9⟩) hS.2.2 dM_nth_25
  · subst e9
    refine lv_if_eq (tgt := 12) hx hb dM_nth_5 (by decide) (fun c_25 => ?_) (fun c_25 => absurd rfl c_25)
    refine lv_iconst (v := 1) hx hb dM_nth_12 (by decide) ?_
    refine lv_goto (tgt := 17) hx hb dM_nth_13 (by decide) ?_
    refine lv_iconst (v := 0) hx hb dM_nth_17 (by decide) ?_
    have hFc := va_free (wc := hn_wM am cI (τ)) hD hS hA [0, 1, 2, 3, 4, 5, 6] rfl
    refine va_calli (va_runV (As := [.int 1, .int 0]) (rest := []) ⟨hx, hb, hml, hown, hts⟩ (cM_throwing_ok l D cI cL am (τ) 1 0 _) (cwV 2 hts gM_M_throwing rfl rfl rfl (by decide +kernel) ⟨Nat.le_of_ble_eq_true rfl, Nat.le_of_ble_eq_true rfl⟩) (hn_preVW hP hK hD (ci := 1) (q0 := 0) rfl rfl) rfl rfl hl.1 rfl (lv_room (Nat.le_of_ble_eq_true rfl)) dM_nth_18 ⟨Nat.zero_le _, Nat.zero_le _⟩) hS (fun q _ h => hFc q h) hFc (fun r9 τ1 t8 H1 locs ht hvm hw hB hz1 hk1 hS => ?_)
    obtain ⟨hP1, hK1, hD1⟩ := hB
    rw [ht] at hP1
    have hD : va_D A (hn_wM am cI (τ1)) := hD1.weaken (fun _ q _ h => hFc q.1 h)
    have hP : va_P D vwCl (hn_wM am cI (τ1)) H1 := hP1
    generalize H1 = H at hP hS ⊢
    try dsimp only at hw
    obtain ⟨hw1, hw2⟩ := hn_thr1 hw rfl
    subst hw1
    have hH1 : hn_MH τ1 h tn TK := by rw [hw2]; exact hn_MH_keep hH rfl rfl rfl
    have hM1 : hn_MD τ1 D9 := by rw [hw2]; exact hn_MD_keep hM rfl rfl rfl rfl
    have hc1 : τ1 0 0 = nI 1 := by rw [hw2]; show upd (τ 0) 0 1 0 = nI 1; rw [pk_us]; rfl
    have hR1 : hn_MR τ1 h D9 tn (hn_kb TK) := hn_MR_iff.mpr ⟨hH1, hM1⟩
    refine lv_if_eq (tgt := 26) hx hb dM_nth_21 (by decide) (fun c_26 => absurd c_26 (by decide)) (fun c_26 => ?_)
    refine lv_iconst (v := 0) hx hb dM_nth_24 (by decide) ?_
    exact W.iret (v := 0) hx hb hr (fun t9 ht9 hW9 => ⟨⟨0, τ1, rfl, ⟨1, tn, TK, Or.inl ⟨rfl, rfl, rfl, fun z => hd9 z.1⟩, hc1, hH1, hM1⟩, by rw [ht9]; exact hP, va_K.moved hW9.alike hK, hD⟩, hS.F ht9⟩) hS.2.2 dM_nth_25
