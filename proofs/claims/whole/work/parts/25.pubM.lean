section
theorem hn_thr1 {x y r : Int32} {τ9 : Nat → Nat → Int32} {T1 T2 T0 : Nat → Nat → Int32} (h : (¬ x = 0 ∧ r = 1 ∧ τ9 = T1) ∨ (x = 0 ∧ ¬ y = 0 ∧ r = 1 ∧ τ9 = T2) ∨ (x = 0 ∧ y = 0 ∧ r = 0 ∧ τ9 = T0)) (hx : x = 1) : r = 1 ∧ τ9 = T1 := by
  rcases h with ⟨_, a, b⟩ | ⟨a, _⟩ | ⟨a, _⟩
  · exact ⟨a, b⟩
  · rw [hx] at a; exact absurd a (by decide)
  · rw [hx] at a; exact absurd a (by decide)
theorem hn_thr2 {x y r : Int32} {τ9 : Nat → Nat → Int32} {T1 T2 T0 : Nat → Nat → Int32} (h : (¬ x = 0 ∧ r = 1 ∧ τ9 = T1) ∨ (x = 0 ∧ ¬ y = 0 ∧ r = 1 ∧ τ9 = T2) ∨ (x = 0 ∧ y = 0 ∧ r = 0 ∧ τ9 = T0)) (hx : x = 0) (hy : ¬ y = 0) : r = 1 ∧ τ9 = T2 := by
  rcases h with ⟨a, _⟩ | ⟨_, _, a, b⟩ | ⟨_, a, _⟩
  · exact absurd hx a
  · exact ⟨a, b⟩
  · exact absurd a hy
theorem hn_thr0 {x y r : Int32} {τ9 : Nat → Nat → Int32} {T1 T2 T0 : Nat → Nat → Int32} (h : (¬ x = 0 ∧ r = 1 ∧ τ9 = T1) ∨ (x = 0 ∧ ¬ y = 0 ∧ r = 1 ∧ τ9 = T2) ∨ (x = 0 ∧ y = 0 ∧ r = 0 ∧ τ9 = T0)) (hx : x = 0) (hy : y = 0) : r = 0 ∧ τ9 = T0 := by
  rcases h with ⟨a, _⟩ | ⟨_, a, _⟩ | ⟨_, _, a, b⟩
  · exact absurd hx a
  · exact absurd hy a
  · exact ⟨a, b⟩
/-- another id in the reference's rows -/
theorem hn_chg_M {τ τ' : Nat → Nat → Int32} {D : Nat → List hn_E} {d K : Nat} {x : Int32} (hO : hn_DO D) (hM : hn_MD τ D) (hd : d < 8) (hh : hn_has K (D d)) (h2 : τ' 2 = τ 2) (h3 : τ' 3 = upd (τ 3) (48 * d + hn_pc K (D d)) x) (h4 : τ' 4 = τ 4) (h5 : τ' 5 = τ 5) :
    hn_MD τ' (hn_ud D d (hn_ec K x (D d))) ∧ hn_DO (hn_ud D d (hn_ec K x (D d))) ∧ True := by
  obtain ⟨hp, hk⟩ := hn_has_pc (hO d hd).1 hh
  have hlen := (hO d hd).2.1
  have wf : ∀ e ∈ hn_ec K x (D d), hn_wf e := fun e he => by
    obtain ⟨y, hy, e1, e2⟩ := hn_ec_mem he
    have := (hO d hd).2.2 y hy
    unfold hn_wf at this ⊢
    rw [e1, e2]
    exact this
  refine ⟨hn_MD_put hO hM hd (by rw [h2, hn_ec_len, ← (hM d hd).1]; funext j; by_cases e : j = d; rw [e, pk_us]; rw [pk_un e]) (by rw [hn_ec_len]; exact hlen) ?_ ?_, hn_DO_put hO (hn_ec_es (hO d hd).1) (by rw [hn_ec_len]; exact hlen) wf, trivial⟩
  · intro i e hi hn hs
    refine hn_sl_keep hs hn ?_ (by rw [h4]) (fun k _ => by rw [h5])
    rw [h3, pk_un (by omega)]
  · intro j hj
    rw [hn_ec_len] at hj
    obtain ⟨g1, g2, g3⟩ := (hM d hd).2 j hj
    rw [hn_ec_at (hO d hd).1 hh j]
    by_cases e : j = hn_pc K (D d)
    · rw [if_pos e]
      refine ⟨?_, by rw [h4]; exact g2, by rw [h5]; exact g3⟩
      rw [h3, e, pk_us]
    · rw [if_neg e]
      refine ⟨?_, by rw [h4]; exact g2, by rw [h5]; exact g3⟩
      rw [h3, pk_un (by omega)]
      exact g1
end
set_option maxHeartbeats 4000000 in
set_option maxRecDepth 100000 in
theorem cM_size_ok (l : Launch) (D : va_G) (cI cL : ClassId) (am : Nat → Nat) (τ : Nat → Nat → Int32) (d9 : Int32) (h : Nat → Nat) (D9 : Nat → List hn_E) (tn TK : Nat) (hH : hn_MH τ h tn TK) (hM : hn_MD τ D9) (hO : hn_DO D9)  (sz : Nat) : Met l yM_size wM_size ({ frames := 1, cells := 0, slots := 0, locals := 22 }) (hn_PW D (hn_ty cI cL) (hn_wM am cI (τ)) sz [.ref (am 0), .int d9]) (va_Qi (fun (r : Int32) (τ9 : Nat → Nat → Int32) => ∃ c : Nat, hn_sizeS D9 d9 c r ∧ τ9 0 0 = nI c ∧ hn_MH τ9 h tn TK ∧ hn_MD τ9 D9) (fun (τ9 : Nat → Nat → Int32) t => hn_at D (hn_ty cI cL) (va_A (hn_wM am cI (τ)) sz) (hn_wM am cI (τ9)) t) (va_A (hn_wM am cI (τ)) sz)) 0 0 (va_A (hn_wM am cI (τ)) sz) := by
  refine Met.ofW (cc := cM_size) (maxL := 2) (ret := (some .int)) (by decide) rfl ?_
  intro p e s m args below meth c s₁ B hml hv
  obtain ⟨rfl, hsz, hP, hK, hD0⟩ := hv
  subst hsz
  have hD := hD0.self (sz := s.heap.size)
  generalize hAe : va_A (hn_wM am cI (τ)) s.heap.size = A at hD ⊢
  have hA : ∀ q : Nat, s.heap.size ≤ q → A q := fun q h => by rw [← hAe]; exact Or.inr h
  have hS : va_S A s.heap s.heap [] := va_S.rf
  have hP : va_P D vwCl (hn_wM am cI (τ)) s.heap := hP
  have hx := B.exec
  have hb := B.bytes
  have hr := B.returns
  have hts0 := atoms_spec (ws := wM_size) B.pre
  have hts : ∀ w ∈ hn_tb, w.before _ s = true := fun w hw => hts0 w (List.mem_cons_of_mem _ hw)
  have hown : s.vm.findClass RM = some m.cls := findClass_of_methodNamed B.named
  have hlocks := B.notSynchronized
  have hl := lv_entry [.ref (am 0), .int d9] (n := 2) (Nat.le_of_ble_eq_true rfl)
  rw [lg_entry_eq]
  generalize (lg_sl [.ref (am 0), .int d9] ++ List.replicate (2 - (lg_sl [.ref (am 0), .int d9]).length) Slot.unset).toArray = ls at hl ⊢
  have hl : lv_has ls 2 [(0, .ref (am 0)), (1, .int d9)] := hl
  refine lv_aload_n hx hb dM_size_0 rfl (lv_at hl 0 rfl) ?_
  refine lv_iload_n hx hb dM_size_1 rfl (lv_at hl 1 rfl) ?_
  refine hn_callE (W.runS (As := [.int d9]) (rest := [.ref (am 0)]) ⟨hx, hb, hml, hown, hts⟩ (cM_isDirectory_ok l d9) (cwS 1 hts gM_M_isDirectory rfl rfl rfl (by decide +kernel) ⟨Nat.le_of_ble_eq_true rfl, Nat.le_of_ble_eq_true rfl⟩) hn_pre0 rfl rfl hl.1 rfl (lv_room (Nat.le_of_ble_eq_true rfl)) dM_size_2 ⟨Nat.zero_le _, Nat.zero_le _⟩) (fun r_14 hr_14 => ?_)
  refine W.eq (g2 := F0 m 5 ls [.int r_14, .ref (am 0)]) rfl ?_
  rcases hr_14 with ⟨e9, hd9⟩ | ⟨e9, hd9⟩
  · subst e9
    refine lv_if_ne (tgt := 12) hx hb dM_size_5 (by decide) (fun c_15 => ?_) (fun c_15 => absurd c_15 (by decide))
    obtain ⟨d, hd, ed⟩ := hd9
    subst ed
    refine lv_iconst (v := 0) hx hb dM_size_12 (by decide) ?_
    refine lv_iconst (v := 0) hx hb dM_size_13 (by decide) ?_
    have hFc := va_free (wc := hn_wM am cI (τ)) hD hS hA [0, 1, 2, 3, 4, 5, 6] rfl
    refine va_calli (va_runV (As := [.int 0, .int 0]) (rest := []) ⟨hx, hb, hml, hown, hts⟩ (cM_throwing_ok l D cI cL am (τ) 0 0 _) (cwV 2 hts gM_M_throwing rfl rfl rfl (by decide +kernel) ⟨Nat.le_of_ble_eq_true rfl, Nat.le_of_ble_eq_true rfl⟩) (hn_preVW hP hK hD (ci := 1) (q0 := 0) rfl rfl) rfl rfl hl.1 rfl (lv_room (Nat.le_of_ble_eq_true rfl)) dM_size_14 ⟨Nat.zero_le _, Nat.zero_le _⟩) hS (fun q _ h => hFc q h) hFc (fun r9 τ1 t8 H1 locs ht hvm hw hB hz1 hk1 hS => ?_)
    obtain ⟨hP1, hK1, hD1⟩ := hB
    rw [ht] at hP1
    have hD : va_D A (hn_wM am cI (τ1)) := hD1.weaken (fun _ q _ h => hFc q.1 h)
    have hP : va_P D vwCl (hn_wM am cI (τ1)) H1 := hP1
    generalize H1 = H at hP hS ⊢
    try dsimp only at hw
    obtain ⟨hw1, hw2⟩ := hn_thr0 hw rfl rfl
    subst hw1
    have hH1 : hn_MH τ1 h tn TK := by rw [hw2]; exact hn_MH_keep hH rfl rfl rfl
    have hM1 : hn_MD τ1 D9 := by rw [hw2]; exact hn_MD_keep hM rfl rfl rfl rfl
    have hc1 : τ1 0 0 = nI 0 := by rw [hw2]; show upd (τ 0) 0 0 0 = nI 0; rw [pk_us]; rfl
    have hR1 : hn_MR τ1 h D9 tn (hn_kb TK) := hn_MR_iff.mpr ⟨hH1, hM1⟩
    refine lv_if_eq (tgt := 22) hx hb dM_size_17 (by decide) (fun c_16 => ?_) (fun c_16 => absurd rfl c_16)
    refine lv_aload_n hx hb dM_size_22 rfl (lv_at hl 0 rfl) ?_
    refine va_get (D := D) (ci := 1) (v := .ref (am 2)) (C := RM) (T := FM) (N := 8) hx hb hts iM hown hK hP 0 rfl rfl 2 (by decide) (hts _ mM_f_many) (fun _ h9 => h9) rfl dM_size_23 ?_
    refine lv_iload_n hx hb dM_size_26 rfl (lv_at hl 1 rfl) ?_
    refine va_iald hx hb hK hP 2 0 rfl rfl (vp_in_nI (show d < 8 from hd) (by omega)) dM_size_27 ?_
    rw [nI_clamp (show d < 2 ^ 31 by omega)]
    rw [show τ1 2 d = nI (D9 d).length from (hM1 d hd).1]
    exact W.iret (v := (nI (D9 d).length)) hx hb hr (fun t9 ht9 hW9 => ⟨⟨nI (D9 d).length, τ1, rfl, ⟨0, Or.inr ⟨d, rfl, hd, rfl, rfl⟩, hc1, hH1, hM1⟩, by rw [ht9]; exact hP, va_K.moved hW9.alike hK, hD⟩, hS.F ht9⟩) hS.2.2 dM_size_28
  · subst e9
    refine lv_if_ne (tgt := 12) hx hb dM_size_5 (by decide) (fun c_17 => absurd rfl c_17) (fun c_17 => ?_)
    refine lv_iconst (v := 1) hx hb dM_size_8 (by decide) ?_
    refine lv_goto (tgt := 13) hx hb dM_size_9 (by decide) ?_
    refine lv_iconst (v := 0) hx hb dM_size_13 (by decide) ?_
    have hFc := va_free (wc := hn_wM am cI (τ)) hD hS hA [0, 1, 2, 3, 4, 5, 6] rfl
    refine va_calli (va_runV (As := [.int 1, .int 0]) (rest := []) ⟨hx, hb, hml, hown, hts⟩ (cM_throwing_ok l D cI cL am (τ) 1 0 _) (cwV 2 hts gM_M_throwing rfl rfl rfl (by decide +kernel) ⟨Nat.le_of_ble_eq_true rfl, Nat.le_of_ble_eq_true rfl⟩) (hn_preVW hP hK hD (ci := 1) (q0 := 0) rfl rfl) rfl rfl hl.1 rfl (lv_room (Nat.le_of_ble_eq_true rfl)) dM_size_14 ⟨Nat.zero_le _, Nat.zero_le _⟩) hS (fun q _ h => hFc q h) hFc (fun r9 τ1 t8 H1 locs ht hvm hw hB hz1 hk1 hS => ?_)
    obtain ⟨hP1, hK1, hD1⟩ := hB
    rw [ht] at hP1
    have hD : va_D A (hn_wM am cI (τ1)) := hD1.weaken (fun _ q _ h => hFc q.1 h)
    have hP : va_P D vwCl (hn_wM am cI (τ1)) H1 := hP1
    generalize H1 = H at hP hS ⊢
    try dsimp only at hw
    obtain ⟨hw1, hw2⟩ := hn_thr1 hw rfl
    subst hw1
    have hH1 : hn_MH τ1 h tn TK := by rw [hw2]; exact hn_MH_keep hH rfl rfl rfl
    have hM1 : hn_MD τ1 D9 := by rw [hw2]; exact hn_MD_keep hM rfl rfl rfl rfl
    have hc1 : τ1 0 0 = nI 1 := by rw [hw2]; show upd (τ 0) 0 1 0 = nI 1; rw [pk_us]; rfl
    have hR1 : hn_MR τ1 h D9 tn (hn_kb TK) := hn_MR_iff.mpr ⟨hH1, hM1⟩
    refine lv_if_eq (tgt := 22) hx hb dM_size_17 (by decide) (fun c_18 => absurd c_18 (by decide)) (fun c_18 => ?_)
    refine lv_iconst (v := 0) hx hb dM_size_20 (by decide) ?_
    exact W.iret (v := 0) hx hb hr (fun t9 ht9 hW9 => ⟨⟨0, τ1, rfl, ⟨1, Or.inl ⟨rfl, hd9⟩, hc1, hH1, hM1⟩, by rw [ht9]; exact hP, va_K.moved hW9.alike hK, hD⟩, hS.F ht9⟩) hS.2.2 dM_size_21

set_option maxHeartbeats 4000000 in
set_option maxRecDepth 100000 in
theorem cM_byteAt_ok (l : Launch) (D : va_G) (cI cL : ClassId) (am : Nat → Nat) (τ : Nat → Nat → Int32) (i9 : Int32) (h : Nat → Nat) (D9 : Nat → List hn_E) (tn TK : Nat) (hH : hn_MH τ h tn TK) (hM : hn_MD τ D9) (hO : hn_DO D9)  (sz : Nat) : Met l yM_byteAt wM_byteAt ({ frames := 1, cells := 0, slots := 0, locals := 22 }) (hn_PW D (hn_ty cI cL) (hn_wM am cI (τ)) sz [.ref (am 0), .int i9]) (va_Qi (fun (r : Int32) (τ9 : Nat → Nat → Int32) => ∃ c : Nat, hn_byteS tn TK i9 c r ∧ τ9 0 0 = nI c ∧ hn_MH τ9 h tn TK ∧ hn_MD τ9 D9) (fun (τ9 : Nat → Nat → Int32) t => hn_at D (hn_ty cI cL) (va_A (hn_wM am cI (τ)) sz) (hn_wM am cI (τ9)) t) (va_A (hn_wM am cI (τ)) sz)) 0 0 (va_A (hn_wM am cI (τ)) sz) := by
  refine Met.ofW (cc := cM_byteAt) (maxL := 2) (ret := (some .int)) (by decide) rfl ?_
  intro p e s m args below meth c s₁ B hml hv
  obtain ⟨rfl, hsz, hP, hK, hD0⟩ := hv
  subst hsz
  have hD := hD0.self (sz := s.heap.size)
  generalize hAe : va_A (hn_wM am cI (τ)) s.heap.size = A at hD ⊢
  have hA : ∀ q : Nat, s.heap.size ≤ q → A q := fun q h => by rw [← hAe]; exact Or.inr h
  have hS : va_S A s.heap s.heap [] := va_S.rf
  have hP : va_P D vwCl (hn_wM am cI (τ)) s.heap := hP
  have hx := B.exec
  have hb := B.bytes
  have hr := B.returns
  have hts0 := atoms_spec (ws := wM_byteAt) B.pre
  have hts : ∀ w ∈ hn_tb, w.before _ s = true := fun w hw => hts0 w (List.mem_cons_of_mem _ hw)
  have hown : s.vm.findClass RM = some m.cls := findClass_of_methodNamed B.named
  have hlocks := B.notSynchronized
  have hl := lv_entry [.ref (am 0), .int i9] (n := 2) (Nat.le_of_ble_eq_true rfl)
  rw [lg_entry_eq]
  generalize (lg_sl [.ref (am 0), .int i9] ++ List.replicate (2 - (lg_sl [.ref (am 0), .int i9]).length) Slot.unset).toArray = ls at hl ⊢
  have hl : lv_has ls 2 [(0, .ref (am 0)), (1, .int i9)] := hl
  refine lv_aload_n hx hb dM_byteAt_0 rfl (lv_at hl 0 rfl) ?_
  refine lv_iload_n hx hb dM_byteAt_1 rfl (lv_at hl 1 rfl) ?_
  refine lv_if_ge (tgt := 9) hx hb dM_byteAt_2 (by decide) (fun c_19 => ?_) (fun c_19 => ?_)
  · skip
    obtain ⟨i, hi, ei⟩ := nI_of (Int32.not_lt.mpr c_19)
    subst ei
    refine lv_iconst (v := 0) hx hb dM_byteAt_9 (by decide) ?_
    refine lv_iconst (v := 0) hx hb dM_byteAt_10 (by decide) ?_
    have hFc := va_free (wc := hn_wM am cI (τ)) hD hS hA [0, 1, 2, 3, 4, 5, 6] rfl
    refine va_calli (va_runV (As := [.int 0, .int 0]) (rest := []) ⟨hx, hb, hml, hown, hts⟩ (cM_throwing_ok l D cI cL am (τ) 0 0 _) (cwV 2 hts gM_M_throwing rfl rfl rfl (by decide +kernel) ⟨Nat.le_of_ble_eq_true rfl, Nat.le_of_ble_eq_true rfl⟩) (hn_preVW hP hK hD (ci := 1) (q0 := 0) rfl rfl) rfl rfl hl.1 rfl (lv_room (Nat.le_of_ble_eq_true rfl)) dM_byteAt_11 ⟨Nat.zero_le _, Nat.zero_le _⟩) hS (fun q _ h => hFc q h) hFc (fun r9 τ1 t8 H1 locs ht hvm hw hB hz1 hk1 hS => ?_)
    obtain ⟨hP1, hK1, hD1⟩ := hB
    rw [ht] at hP1
    have hD : va_D A (hn_wM am cI (τ1)) := hD1.weaken (fun _ q _ h => hFc q.1 h)
    have hP : va_P D vwCl (hn_wM am cI (τ1)) H1 := hP1
    generalize H1 = H at hP hS ⊢
    try dsimp only at hw
    obtain ⟨hw1, hw2⟩ := hn_thr0 hw rfl rfl
    subst hw1
    have hH1 : hn_MH τ1 h tn TK := by rw [hw2]; exact hn_MH_keep hH rfl rfl rfl
    have hM1 : hn_MD τ1 D9 := by rw [hw2]; exact hn_MD_keep hM rfl rfl rfl rfl
    have hc1 : τ1 0 0 = nI 0 := by rw [hw2]; show upd (τ 0) 0 0 0 = nI 0; rw [pk_us]; rfl
    have hR1 : hn_MR τ1 h D9 tn (hn_kb TK) := hn_MR_iff.mpr ⟨hH1, hM1⟩
    refine lv_if_eq (tgt := 19) hx hb dM_byteAt_14 (by decide) (fun c_20 => ?_) (fun c_20 => absurd rfl c_20)
    refine lv_iload_n hx hb dM_byteAt_19 rfl (lv_at hl 1 rfl) ?_
    refine lv_aload_n hx hb dM_byteAt_20 rfl (lv_at hl 0 rfl) ?_
    refine va_get (D := D) (ci := 1) (v := .int (τ1 0 1)) (C := RM) (T := FM) (N := 8) hx hb hts iM hown hK hP 0 rfl rfl 7 (by decide) (hts _ mM_f_toldLength) (fun _ h9 => h9) rfl dM_byteAt_21 ?_
    rw [hH1.2.2.1]
    have htn := hH1.2.2.2.1
    refine lv_icmp_ge (tgt := 36) hx hb dM_byteAt_24 (by decide) (fun c_21 => ?_) (fun c_21 => ?_)
    · skip
      refine lv_iconst (v := (-1)) hx hb dM_byteAt_36 (by decide) ?_
      exact W.iret (v := (-1)) hx hb hr (fun t9 ht9 hW9 => ⟨⟨(-1), τ1, rfl, ⟨0, Or.inr ⟨i, rfl, hi, rfl, Or.inr ⟨(nI_leI (by omega) hi).mp c_21, rfl⟩⟩, hc1, hH1, hM1⟩, by rw [ht9]; exact hP, va_K.moved hW9.alike hK, hD⟩, hS.F ht9⟩) hS.2.2 dM_byteAt_37
    · skip
      have hit : i < tn := Nat.lt_of_not_le (fun z => c_21 (nI_le z hi))
      refine lv_aload_n hx hb dM_byteAt_27 rfl (lv_at hl 0 rfl) ?_
      refine va_get (D := D) (ci := 1) (v := .ref (am 6)) (C := RM) (T := FM) (N := 8) hx hb hts iM hown hK hP 0 rfl rfl 6 (by decide) (hts _ mM_f_told) (fun _ h9 => h9) rfl dM_byteAt_28 ?_
      refine lv_iload_n hx hb dM_byteAt_31 rfl (lv_at hl 1 rfl) ?_
      refine va_iald hx hb hK hP 6 0 rfl rfl (vp_in_nI (show i < 20 from by omega) (by omega)) dM_byteAt_32 ?_
      rw [nI_clamp (show i < 2 ^ 31 by omega)]
      rw [show τ1 6 i = nI (hn_kb TK i) from hH1.2.2.2.2 i hit]
      refine lv_goto (tgt := 37) hx hb dM_byteAt_33 (by decide) ?_
      exact W.iret (v := (nI (hn_kb TK i))) hx hb hr (fun t9 ht9 hW9 => ⟨⟨nI (hn_kb TK i), τ1, rfl, ⟨0, Or.inr ⟨i, rfl, hi, rfl, Or.inl ⟨hit, rfl⟩⟩, hc1, hH1, hM1⟩, by rw [ht9]; exact hP, va_K.moved hW9.alike hK, hD⟩, hS.F ht9⟩) hS.2.2 dM_byteAt_37
  · skip
    refine lv_iconst (v := 1) hx hb dM_byteAt_5 (by decide) ?_
    refine lv_goto (tgt := 10) hx hb dM_byteAt_6 (by decide) ?_
    refine lv_iconst (v := 0) hx hb dM_byteAt_10 (by decide) ?_
    have hFc := va_free (wc := hn_wM am cI (τ)) hD hS hA [0, 1, 2, 3, 4, 5, 6] rfl
    refine va_calli (va_runV (As := [.int 1, .int 0]) (rest := []) ⟨hx, hb, hml, hown, hts⟩ (cM_throwing_ok l D cI cL am (τ) 1 0 _) (cwV 2 hts gM_M_throwing rfl rfl rfl (by decide +kernel) ⟨Nat.le_of_ble_eq_true rfl, Nat.le_of_ble_eq_true rfl⟩) (hn_preVW hP hK hD (ci := 1) (q0 := 0) rfl rfl) rfl rfl hl.1 rfl (lv_room (Nat.le_of_ble_eq_true rfl)) dM_byteAt_11 ⟨Nat.zero_le _, Nat.zero_le _⟩) hS (fun q _ h => hFc q h) hFc (fun r9 τ1 t8 H1 locs ht hvm hw hB hz1 hk1 hS => ?_)
    obtain ⟨hP1, hK1, hD1⟩ := hB
    rw [ht] at hP1
    have hD : va_D A (hn_wM am cI (τ1)) := hD1.weaken (fun _ q _ h => hFc q.1 h)
    have hP : va_P D vwCl (hn_wM am cI (τ1)) H1 := hP1
    generalize H1 = H at hP hS ⊢
    try dsimp only at hw
    obtain ⟨hw1, hw2⟩ := hn_thr1 hw rfl
    subst hw1
    have hH1 : hn_MH τ1 h tn TK := by rw [hw2]; exact hn_MH_keep hH rfl rfl rfl
    have hM1 : hn_MD τ1 D9 := by rw [hw2]; exact hn_MD_keep hM rfl rfl rfl rfl
    have hc1 : τ1 0 0 = nI 1 := by rw [hw2]; show upd (τ 0) 0 1 0 = nI 1; rw [pk_us]; rfl
    have hR1 : hn_MR τ1 h D9 tn (hn_kb TK) := hn_MR_iff.mpr ⟨hH1, hM1⟩
    refine lv_if_eq (tgt := 19) hx hb dM_byteAt_14 (by decide) (fun c_22 => absurd c_22 (by decide)) (fun c_22 => ?_)
    refine lv_iconst (v := 0) hx hb dM_byteAt_17 (by decide) ?_
    exact W.iret (v := 0) hx hb hr (fun t9 ht9 hW9 => ⟨⟨0, τ1, rfl, ⟨1, Or.inl ⟨rfl, Int32.not_le.mp c_19⟩, hc1, hH1, hM1⟩, by rw [ht9]; exact hP, va_K.moved hW9.alike hK, hD⟩, hS.F ht9⟩) hS.2.2 dM_byteAt_18

set_option maxHeartbeats 4000000 in
set_option maxRecDepth 100000 in
theorem cM_find_ok (l : Launch) (D : va_G) (cI cL : ClassId) (am : Nat → Nat) (τ : Nat → Nat → Int32) (d9 n9 : Int32) (h : Nat → Nat) (D9 : Nat → List hn_E) (tn TK : Nat) (hH : hn_MH τ h tn TK) (hM : hn_MD τ D9) (hO : hn_DO D9)  (sz : Nat) : Met l yM_find wM_find ({ frames := 2, cells := 0, slots := 0, locals := 47 }) (hn_PW D (hn_ty cI cL) (hn_wM am cI (τ)) sz [.ref (am 0), .int d9, .int n9]) (va_Qi (fun (r : Int32) (τ9 : Nat → Nat → Int32) => ∃ c : Nat, hn_findS h D9 d9 n9 c r ∧ τ9 0 0 = nI c ∧ hn_MH τ9 h tn TK ∧ hn_MD τ9 D9) (fun (τ9 : Nat → Nat → Int32) t => hn_at D (hn_ty cI cL) (va_A (hn_wM am cI (τ)) sz) (hn_wM am cI (τ9)) t) (va_A (hn_wM am cI (τ)) sz)) 0 0 (va_A (hn_wM am cI (τ)) sz) := by
  refine Met.ofW (cc := cM_find) (maxL := 4) (ret := (some .int)) (by decide) rfl ?_
  intro p e s m args below meth c s₁ B hml hv
  obtain ⟨rfl, hsz, hP, hK, hD0⟩ := hv
  subst hsz
  have hD := hD0.self (sz := s.heap.size)
  generalize hAe : va_A (hn_wM am cI (τ)) s.heap.size = A at hD ⊢
  have hA : ∀ q : Nat, s.heap.size ≤ q → A q := fun q h => by rw [← hAe]; exact Or.inr h
  have hS : va_S A s.heap s.heap [] := va_S.rf
  have hP : va_P D vwCl (hn_wM am cI (τ)) s.heap := hP
  have hx := B.exec
  have hb := B.bytes
  have hr := B.returns
  have hts0 := atoms_spec (ws := wM_find) B.pre
  have hts : ∀ w ∈ hn_tb, w.before _ s = true := fun w hw => hts0 w (List.mem_cons_of_mem _ hw)
  have hown : s.vm.findClass RM = some m.cls := findClass_of_methodNamed B.named
  have hlocks := B.notSynchronized
  have hl := lv_entry [.ref (am 0), .int d9, .int n9] (n := 4) (Nat.le_of_ble_eq_true rfl)
  rw [lg_entry_eq]
  generalize (lg_sl [.ref (am 0), .int d9, .int n9] ++ List.replicate (4 - (lg_sl [.ref (am 0), .int d9, .int n9]).length) Slot.unset).toArray = ls at hl ⊢
  have hl : lv_has ls 4 [(0, .ref (am 0)), (1, .int d9), (2, .int n9)] := hl
  refine lv_aload_n hx hb dM_find_0 rfl (lv_at hl 0 rfl) ?_
  refine lv_iload_n hx hb dM_find_1 rfl (lv_at hl 1 rfl) ?_
  refine hn_callE (W.runS (As := [.int d9]) (rest := [.ref (am 0)]) ⟨hx, hb, hml, hown, hts⟩ (cM_isDirectory_ok l d9) (cwS 1 hts gM_M_isDirectory rfl rfl rfl (by decide +kernel) ⟨Nat.le_of_ble_eq_true rfl, Nat.le_of_ble_eq_true rfl⟩) hn_pre0 rfl rfl hl.1 rfl (lv_room (Nat.le_of_ble_eq_true rfl)) dM_find_2 ⟨Nat.zero_le _, Nat.zero_le _⟩) (fun r_23 hr_23 => ?_)
  refine W.eq (g2 := F0 m 5 ls [.int r_23, .ref (am 0)]) rfl ?_
  rcases hr_23 with ⟨e9, hd9⟩ | ⟨e9, hd9⟩
  · subst e9
    refine lv_if_eq (tgt := 16) hx hb dM_find_5 (by decide) (fun c_24 => absurd c_24 (by decide)) (fun c_24 => ?_)
    refine lv_aload_n hx hb dM_find_8 rfl (lv_at hl 0 rfl) ?_
    refine lv_iload_n hx hb dM_find_9 rfl (lv_at hl 2 rfl) ?_
    refine hn_callE (W.runV (As := [.int n9]) (rest := [.ref (am 0)]) ⟨hx, hb, hml, hown, hts⟩ (cM_isName_ok l D cI cL am (τ) h hH.1 hH.2.1 n9) (cwV 1 hts gM_M_isName rfl rfl rfl (by decide +kernel) ⟨Nat.le_of_ble_eq_true rfl, Nat.le_of_ble_eq_true rfl⟩) (hn_preV hP hK (ci := 1) (q0 := 0) rfl rfl) rfl rfl hl.1 rfl (lv_room (Nat.le_of_ble_eq_true rfl)) dM_find_10 ⟨Nat.zero_le _, Nat.zero_le _⟩) (fun r_25 hr_25 => ?_)
    refine W.eq (g2 := F0 m 13 ls [.int r_25, .ref (am 0)]) rfl ?_
    rcases hr_25 with ⟨e9, hn9⟩ | ⟨e9, hn9⟩
    · subst e9
      refine lv_if_ne (tgt := 20) hx hb dM_find_13 (by decide) (fun c_26 => ?_) (fun c_26 => absurd c_26 (by decide))
      obtain ⟨d, n, hok⟩ := hn_ok_of hd9 hn9
      obtain ⟨ed, hd, en, h1, h2, hz0⟩ := id hok
      have hz : ∀ k, k < n → h k ≠ 0 := fun k hk => (hz0 k hk).1
      subst ed
      subst en
      refine lv_iconst (v := 0) hx hb dM_find_20 (by decide) ?_
      refine lv_iconst (v := 0) hx hb dM_find_21 (by decide) ?_
      have hFc := va_free (wc := hn_wM am cI (τ)) hD hS hA [0, 1, 2, 3, 4, 5, 6] rfl
      refine va_calli (va_runV (As := [.int 0, .int 0]) (rest := []) ⟨hx, hb, hml, hown, hts⟩ (cM_throwing_ok l D cI cL am (τ) 0 0 _) (cwV 2 hts gM_M_throwing rfl rfl rfl (by decide +kernel) ⟨Nat.le_of_ble_eq_true rfl, Nat.le_of_ble_eq_true rfl⟩) (hn_preVW hP hK hD (ci := 1) (q0 := 0) rfl rfl) rfl rfl hl.1 rfl (lv_room (Nat.le_of_ble_eq_true rfl)) dM_find_22 ⟨Nat.zero_le _, Nat.zero_le _⟩) hS (fun q _ h => hFc q h) hFc (fun r9 τ1 t8 H1 locs ht hvm hw hB hz1 hk1 hS => ?_)
      obtain ⟨hP1, hK1, hD1⟩ := hB
      rw [ht] at hP1
      have hD : va_D A (hn_wM am cI (τ1)) := hD1.weaken (fun _ q _ h => hFc q.1 h)
      have hP : va_P D vwCl (hn_wM am cI (τ1)) H1 := hP1
      generalize H1 = H at hP hS ⊢
      try dsimp only at hw
      obtain ⟨hw1, hw2⟩ := hn_thr0 hw rfl rfl
      subst hw1
      have hH1 : hn_MH τ1 h tn TK := by rw [hw2]; exact hn_MH_keep hH rfl rfl rfl
      have hM1 : hn_MD τ1 D9 := by rw [hw2]; exact hn_MD_keep hM rfl rfl rfl rfl
      have hc1 : τ1 0 0 = nI 0 := by rw [hw2]; show upd (τ 0) 0 0 0 = nI 0; rw [pk_us]; rfl
      have hR1 : hn_MR τ1 h D9 tn (hn_kb TK) := hn_MR_iff.mpr ⟨hH1, hM1⟩
      refine lv_if_eq (tgt := 30) hx hb dM_find_25 (by decide) (fun c_27 => ?_) (fun c_27 => absurd rfl c_27)
      refine lv_aload_n hx hb dM_find_30 rfl (lv_at hl 0 rfl) ?_
      refine lv_iload_n hx hb dM_find_31 rfl (lv_at hl 1 rfl) ?_
      refine lv_iload_n hx hb dM_find_32 rfl (lv_at hl 2 rfl) ?_
      refine W.callR (W.runV (As := [.int (nI d), .int (nI n)]) (rest := []) ⟨hx, hb, hml, hown, hts⟩ (cM_place_ok l D cI cL am τ1 h D9 tn (hn_kb TK) hR1 hO d hd n h1 h2 hz) (cwV 2 hts gM_M_place rfl rfl rfl (by decide +kernel) ⟨Nat.le_of_ble_eq_true rfl, Nat.le_of_ble_eq_true rfl⟩) (hn_preV hP hK (ci := 1) (q0 := 0) rfl rfl) rfl rfl hl.1 rfl (lv_room (Nat.le_of_ble_eq_true rfl)) dM_find_33 ⟨Nat.zero_le _, Nat.zero_le _⟩) ?_
      refine W.eq (g2 := F0 m 36 ls [.int (nI (48 * d + hn_pc (hn_num h n) (D9 d)))]) rfl ?_
      refine lv_istore_n (lv' := [(3, .int (nI (48 * d + hn_pc (hn_num h n) (D9 d)))), (0, .ref (am 0)), (1, .int (nI d)), (2, .int (nI n))]) hx hb dM_find_36 rfl hl (by decide) rfl (fun ls hl => ?_)
      refine lv_aload_n hx hb dM_find_37 rfl (lv_at hl 1 rfl) ?_
      refine lv_iload_n hx hb dM_find_38 rfl (lv_at hl 0 rfl) ?_
      refine lv_iload_n hx hb dM_find_39 rfl (lv_at hl 2 rfl) ?_
      refine lv_iload_n hx hb dM_find_40 rfl (lv_at hl 3 rfl) ?_
      have hpc := hn_pc_le (hn_num h n) (D9 d)
      have hlen := (hO d hd).2.1
      refine hn_callE (W.runV (As := [.int (nI (48 * d + hn_pc (hn_num h n) (D9 d))), .int (nI d), .int (nI n)]) (rest := []) ⟨hx, hb, hml, hown, hts⟩ (cM_isAt_ok l D cI cL am τ1 h D9 tn (hn_kb TK) hR1 hO d hd n h1 h2 hz (hn_pc (hn_num h n) (D9 d)) (by omega)) (cwV 3 hts gM_M_isAt rfl rfl rfl (by decide +kernel) ⟨Nat.le_of_ble_eq_true rfl, Nat.le_of_ble_eq_true rfl⟩) (hn_preV hP hK (ci := 1) (q0 := 0) rfl rfl) rfl rfl hl.1 rfl (lv_room (Nat.le_of_ble_eq_true rfl)) dM_find_41 ⟨Nat.zero_le _, Nat.zero_le _⟩) (fun r_28 hr_28 => ?_)
      refine W.eq (g2 := F0 m 44 ls [.int r_28]) rfl ?_
      rcases hr_28 with ⟨e9, ha9⟩ | ⟨e9, ha9⟩
      · subst e9
        refine lv_if_eq (tgt := 56) hx hb dM_find_44 (by decide) (fun c_29 => absurd c_29 (by decide)) (fun c_29 => ?_)
        refine lv_aload_n hx hb dM_find_47 rfl (lv_at hl 1 rfl) ?_
        refine va_get (D := D) (ci := 1) (v := .ref (am 3)) (C := RM) (T := FM) (N := 8) hx hb hts iM hown hK hP 0 rfl rfl 3 (by decide) (hts _ mM_f_id) (fun _ h9 => h9) rfl dM_find_48 ?_
        refine lv_iload_n hx hb dM_find_51 rfl (lv_at hl 0 rfl) ?_
        refine va_iald hx hb hK hP 3 0 rfl rfl (vp_in_nI (show 48 * d + hn_pc (hn_num h n) (D9 d) < 384 from by omega) (by omega)) dM_find_52 ?_
        rw [nI_clamp (show 48 * d + hn_pc (hn_num h n) (D9 d) < 2 ^ 31 by omega)]
        rw [show τ1 3 (48 * d + hn_pc (hn_num h n) (D9 d)) = ((D9 d).getD (hn_pc (hn_num h n) (D9 d)) hn_e0).2.2 from ((hM1 d hd).2 _ ha9.1).1]
        refine lv_goto (tgt := 57) hx hb dM_find_53 (by decide) ?_
        exact W.iret (v := (((D9 d).getD (hn_pc (hn_num h n) (D9 d)) hn_e0).2.2)) hx hb hr (fun t9 ht9 hW9 => ⟨⟨((D9 d).getD (hn_pc (hn_num h n) (D9 d)) hn_e0).2.2, τ1, rfl, ⟨0, Or.inr ⟨d, n, hok, rfl, Or.inl ⟨(hn_has_iff (hO d hd).1).mpr ha9, rfl⟩⟩, hc1, hH1, hM1⟩, by rw [ht9]; exact hP, va_K.moved hW9.alike hK, hD⟩, hS.F ht9⟩) hS.2.2 dM_find_57
      · subst e9
        refine lv_if_eq (tgt := 56) hx hb dM_find_44 (by decide) (fun c_30 => ?_) (fun c_30 => absurd rfl c_30)
        refine lv_iconst (v := (-1)) hx hb dM_find_56 (by decide) ?_
        exact W.iret (v := (-1)) hx hb hr (fun t9 ht9 hW9 => ⟨⟨(-1), τ1, rfl, ⟨0, Or.inr ⟨d, n, hok, rfl, Or.inr ⟨fun z => ha9 ((hn_has_iff (hO d hd).1).mp z), rfl⟩⟩, hc1, hH1, hM1⟩, by rw [ht9]; exact hP, va_K.moved hW9.alike hK, hD⟩, hS.F ht9⟩) hS.2.2 dM_find_57
    · subst e9
      refine lv_if_ne (tgt := 20) hx hb dM_find_13 (by decide) (fun c_31 => absurd rfl c_31) (fun c_31 => ?_)
      refine lv_iconst (v := 1) hx hb dM_find_16 (by decide) ?_
      refine lv_goto (tgt := 21) hx hb dM_find_17 (by decide) ?_
      refine lv_iconst (v := 0) hx hb dM_find_21 (by decide) ?_
      have hFc := va_free (wc := hn_wM am cI (τ)) hD hS hA [0, 1, 2, 3, 4, 5, 6] rfl
      refine va_calli (va_runV (As := [.int 1, .int 0]) (rest := []) ⟨hx, hb, hml, hown, hts⟩ (cM_throwing_ok l D cI cL am (τ) 1 0 _) (cwV 2 hts gM_M_throwing rfl rfl rfl (by decide +kernel) ⟨Nat.le_of_ble_eq_true rfl, Nat.le_of_ble_eq_true rfl⟩) (hn_preVW hP hK hD (ci := 1) (q0 := 0) rfl rfl) rfl rfl hl.1 rfl (lv_room (Nat.le_of_ble_eq_true rfl)) dM_find_22 ⟨Nat.zero_le _, Nat.zero_le _⟩) hS (fun q _ h => hFc q h) hFc (fun r9 τ1 t8 H1 locs ht hvm hw hB hz1 hk1 hS => ?_)
      obtain ⟨hP1, hK1, hD1⟩ := hB
      rw [ht] at hP1
      have hD : va_D A (hn_wM am cI (τ1)) := hD1.weaken (fun _ q _ h => hFc q.1 h)
      have hP : va_P D vwCl (hn_wM am cI (τ1)) H1 := hP1
      generalize H1 = H at hP hS ⊢
      try dsimp only at hw
      obtain ⟨hw1, hw2⟩ := hn_thr1 hw rfl
      subst hw1
      have hH1 : hn_MH τ1 h tn TK := by rw [hw2]; exact hn_MH_keep hH rfl rfl rfl
      have hM1 : hn_MD τ1 D9 := by rw [hw2]; exact hn_MD_keep hM rfl rfl rfl rfl
      have hc1 : τ1 0 0 = nI 1 := by rw [hw2]; show upd (τ 0) 0 1 0 = nI 1; rw [pk_us]; rfl
      have hR1 : hn_MR τ1 h D9 tn (hn_kb TK) := hn_MR_iff.mpr ⟨hH1, hM1⟩
      refine lv_if_eq (tgt := 30) hx hb dM_find_25 (by decide) (fun c_32 => absurd c_32 (by decide)) (fun c_32 => ?_)
      refine lv_iconst (v := 0) hx hb dM_find_28 (by decide) ?_
      exact W.iret (v := 0) hx hb hr (fun t9 ht9 hW9 => ⟨⟨0, τ1, rfl, ⟨1, Or.inl ⟨rfl, fun z => hn9 z.2⟩, hc1, hH1, hM1⟩, by rw [ht9]; exact hP, va_K.moved hW9.alike hK, hD⟩, hS.F ht9⟩) hS.2.2 dM_find_29
  · subst e9
    refine lv_if_eq (tgt := 16) hx hb dM_find_5 (by decide) (fun c_33 => ?_) (fun c_33 => absurd rfl c_33)
    refine lv_iconst (v := 1) hx hb dM_find_16 (by decide) ?_
    refine lv_goto (tgt := 21) hx hb dM_find_17 (by decide) ?_
    refine lv_iconst (v := 0) hx hb dM_find_21 (by decide) ?_
    have hFc := va_free (wc := hn_wM am cI (τ)) hD hS hA [0, 1, 2, 3, 4, 5, 6] rfl
    refine va_calli (va_runV (As := [.int 1, .int 0]) (rest := []) ⟨hx, hb, hml, hown, hts⟩ (cM_throwing_ok l D cI cL am (τ) 1 0 _) (cwV 2 hts gM_M_throwing rfl rfl rfl (by decide +kernel) ⟨Nat.le_of_ble_eq_true rfl, Nat.le_of_ble_eq_true rfl⟩) (hn_preVW hP hK hD (ci := 1) (q0 := 0) rfl rfl) rfl rfl hl.1 rfl (lv_room (Nat.le_of_ble_eq_true rfl)) dM_find_22 ⟨Nat.zero_le _, Nat.zero_le _⟩) hS (fun q _ h => hFc q h) hFc (fun r9 τ1 t8 H1 locs ht hvm hw hB hz1 hk1 hS => ?_)
    obtain ⟨hP1, hK1, hD1⟩ := hB
    rw [ht] at hP1
    have hD : va_D A (hn_wM am cI (τ1)) := hD1.weaken (fun _ q _ h => hFc q.1 h)
    have hP : va_P D vwCl (hn_wM am cI (τ1)) H1 := hP1
    generalize H1 = H at hP hS ⊢
    try dsimp only at hw
    obtain ⟨hw1, hw2⟩ := hn_thr1 hw rfl
    subst hw1
    have hH1 : hn_MH τ1 h tn TK := by rw [hw2]; exact hn_MH_keep hH rfl rfl rfl
    have hM1 : hn_MD τ1 D9 := by rw [hw2]; exact hn_MD_keep hM rfl rfl rfl rfl
    have hc1 : τ1 0 0 = nI 1 := by rw [hw2]; show upd (τ 0) 0 1 0 = nI 1; rw [pk_us]; rfl
    have hR1 : hn_MR τ1 h D9 tn (hn_kb TK) := hn_MR_iff.mpr ⟨hH1, hM1⟩
    refine lv_if_eq (tgt := 30) hx hb dM_find_25 (by decide) (fun c_34 => absurd c_34 (by decide)) (fun c_34 => ?_)
    refine lv_iconst (v := 0) hx hb dM_find_28 (by decide) ?_
    exact W.iret (v := 0) hx hb hr (fun t9 ht9 hW9 => ⟨⟨0, τ1, rfl, ⟨1, Or.inl ⟨rfl, fun z => hd9 z.1⟩, hc1, hH1, hM1⟩, by rw [ht9]; exact hP, va_K.moved hW9.alike hK, hD⟩, hS.F ht9⟩) hS.2.2 dM_find_29

set_option maxHeartbeats 4000000 in
set_option maxRecDepth 100000 in
theorem cM_change_ok (l : Launch) (D : va_G) (cI cL : ClassId) (am : Nat → Nat) (τ : Nat → Nat → Int32) (d9 n9 x9 : Int32) (h : Nat → Nat) (D9 : Nat → List hn_E) (tn TK : Nat) (hH : hn_MH τ h tn TK) (hM : hn_MD τ D9) (hO : hn_DO D9)  (sz : Nat) : Met l yM_change wM_change ({ frames := 2, cells := 0, slots := 0, locals := 47 }) (hn_PW D (hn_ty cI cL) (hn_wM am cI (τ)) sz [.ref (am 0), .int d9, .int n9, .int x9]) (va_Qi (fun (r : Int32) (τ9 : Nat → Nat → Int32) => ∃ (c : Nat) (D8 : Nat → List hn_E), hn_changeS h D9 d9 n9 x9 c r D8 ∧ τ9 0 0 = nI c ∧ hn_MH τ9 h tn TK ∧ hn_MD τ9 D8 ∧ hn_DO D8) (fun (τ9 : Nat → Nat → Int32) t => hn_at D (hn_ty cI cL) (va_A (hn_wM am cI (τ)) sz) (hn_wM am cI (τ9)) t) (va_A (hn_wM am cI (τ)) sz)) 0 0 (va_A (hn_wM am cI (τ)) sz) := by
  refine Met.ofW (cc := cM_change) (maxL := 7) (ret := (some .int)) (by decide) rfl ?_
  intro p e s m args below meth c s₁ B hml hv
  obtain ⟨rfl, hsz, hP, hK, hD0⟩ := hv
  subst hsz
  have hD := hD0.self (sz := s.heap.size)
  generalize hAe : va_A (hn_wM am cI (τ)) s.heap.size = A at hD ⊢
  have hA : ∀ q : Nat, s.heap.size ≤ q → A q := fun q h => by rw [← hAe]; exact Or.inr h
  have hS : va_S A s.heap s.heap [] := va_S.rf
  have hP : va_P D vwCl (hn_wM am cI (τ)) s.heap := hP
  have hx := B.exec
  have hb := B.bytes
  have hr := B.returns
  have hts0 := atoms_spec (ws := wM_change) B.pre
  have hts : ∀ w ∈ hn_tb, w.before _ s = true := fun w hw => hts0 w (List.mem_cons_of_mem _ hw)
  have hown : s.vm.findClass RM = some m.cls := findClass_of_methodNamed B.named
  have hlocks := B.notSynchronized
  have hl := lv_entry [.ref (am 0), .int d9, .int n9, .int x9] (n := 7) (Nat.le_of_ble_eq_true rfl)
  rw [lg_entry_eq]
  generalize (lg_sl [.ref (am 0), .int d9, .int n9, .int x9] ++ List.replicate (7 - (lg_sl [.ref (am 0), .int d9, .int n9, .int x9]).length) Slot.unset).toArray = ls at hl ⊢
  have hl : lv_has ls 7 [(0, .ref (am 0)), (1, .int d9), (2, .int n9), (3, .int x9)] := hl
  refine lv_iload_n hx hb dM_change_0 rfl (lv_at hl 1 rfl) ?_
  refine hn_callE (W.runS (As := [.int d9]) (rest := []) ⟨hx, hb, hml, hown, hts⟩ (cM_isDirectory_ok l d9) (cwS 1 hts gM_M_isDirectory rfl rfl rfl (by decide +kernel) ⟨Nat.le_of_ble_eq_true rfl, Nat.le_of_ble_eq_true rfl⟩) hn_pre0 rfl rfl hl.1 rfl (lv_room (Nat.le_of_ble_eq_true rfl)) dM_change_1 ⟨Nat.zero_le _, Nat.zero_le _⟩) (fun r_35 hr_35 => ?_)
  refine W.eq (g2 := F0 m 4 ls [.int r_35]) rfl ?_
  rcases hr_35 with ⟨e9, hd9⟩ | ⟨e9, hd9⟩
  · subst e9
    refine lv_if_eq (tgt := 22) hx hb dM_change_4 (by decide) (fun c_36 => absurd c_36 (by decide)) (fun c_36 => ?_)
    refine lv_aload_n hx hb dM_change_7 rfl (lv_at hl 0 rfl) ?_
    refine lv_iload_n hx hb dM_change_8 rfl (lv_at hl 2 rfl) ?_
    refine hn_callE (W.runV (As := [.int n9]) (rest := []) ⟨hx, hb, hml, hown, hts⟩ (cM_isName_ok l D cI cL am (τ) h hH.1 hH.2.1 n9) (cwV 1 hts gM_M_isName rfl rfl rfl (by decide +kernel) ⟨Nat.le_of_ble_eq_true rfl, Nat.le_of_ble_eq_true rfl⟩) (hn_preV hP hK (ci := 1) (q0 := 0) rfl rfl) rfl rfl hl.1 rfl (lv_room (Nat.le_of_ble_eq_true rfl)) dM_change_9 ⟨Nat.zero_le _, Nat.zero_le _⟩) (fun r_37 hr_37 => ?_)
    refine W.eq (g2 := F0 m 12 ls [.int r_37]) rfl ?_
    rcases hr_37 with ⟨e9, hn9⟩ | ⟨e9, hn9⟩
    · subst e9
      refine lv_if_eq (tgt := 22) hx hb dM_change_12 (by decide) (fun c_38 => absurd c_38 (by decide)) (fun c_38 => ?_)
      refine lv_iload_n hx hb dM_change_15 rfl (lv_at hl 3 rfl) ?_
      refine hn_callE (W.runS (As := [.int x9]) (rest := []) ⟨hx, hb, hml, hown, hts⟩ (cM_isId_ok l x9) (cwS 1 hts gM_M_isId rfl rfl rfl (by decide +kernel) ⟨Nat.le_of_ble_eq_true rfl, Nat.le_of_ble_eq_true rfl⟩) hn_pre0 rfl rfl hl.1 rfl (lv_room (Nat.le_of_ble_eq_true rfl)) dM_change_16 ⟨Nat.zero_le _, Nat.zero_le _⟩) (fun r_39 hr_39 => ?_)
      refine W.eq (g2 := F0 m 19 ls [.int r_39]) rfl ?_
      rcases hr_39 with ⟨e9, hi9⟩ | ⟨e9, hi9⟩
      · subst e9
        refine lv_if_ne (tgt := 26) hx hb dM_change_19 (by decide) (fun c_40 => ?_) (fun c_40 => absurd c_40 (by decide))
        obtain ⟨d, n, hok⟩ := hn_ok_of hd9 hn9
        obtain ⟨ed, hd, en, h1, h2, hz0⟩ := id hok
        have hz : ∀ k, k < n → h k ≠ 0 := fun k hk => (hz0 k hk).1
        subst ed
        subst en
        have hR0 : hn_MR τ h D9 tn (hn_kb TK) := hn_MR_iff.mpr ⟨hH, hM⟩
        refine lv_iconst (v := 0) hx hb dM_change_26 (by decide) ?_
        refine lv_istore (lv' := [(4, .int 0), (0, .ref (am 0)), (1, .int (nI d)), (2, .int (nI n)), (3, .int x9)]) hx hb dM_change_27 hl (by decide) rfl (fun ls hl => ?_)
        refine lv_iload hx hb dM_change_29 (lv_at hl 0 rfl) ?_
        refine lv_if_eq (tgt := 38) hx hb dM_change_31 (by decide) (fun c_41 => ?_) (fun c_41 => absurd rfl c_41)
        refine lv_aload_n hx hb dM_change_38 rfl (lv_at hl 1 rfl) ?_
        refine lv_iload_n hx hb dM_change_39 rfl (lv_at hl 2 rfl) ?_
        refine lv_iload_n hx hb dM_change_40 rfl (lv_at hl 3 rfl) ?_
        refine W.callR (W.runV (As := [.int (nI d), .int (nI n)]) (rest := []) ⟨hx, hb, hml, hown, hts⟩ (cM_place_ok l D cI cL am τ h D9 tn (hn_kb TK) hR0 hO d hd n h1 h2 hz) (cwV 2 hts gM_M_place rfl rfl rfl (by decide +kernel) ⟨Nat.le_of_ble_eq_true rfl, Nat.le_of_ble_eq_true rfl⟩) (hn_preV hP hK (ci := 1) (q0 := 0) rfl rfl) rfl rfl hl.1 rfl (lv_room (Nat.le_of_ble_eq_true rfl)) dM_change_41 ⟨Nat.zero_le _, Nat.zero_le _⟩) ?_
        refine W.eq (g2 := F0 m 44 ls [.int (nI (48 * d + hn_pc (hn_num h n) (D9 d)))]) rfl ?_
        refine lv_istore (lv' := [(5, .int (nI (48 * d + hn_pc (hn_num h n) (D9 d)))), (4, .int 0), (0, .ref (am 0)), (1, .int (nI d)), (2, .int (nI n)), (3, .int x9)]) hx hb dM_change_44 hl (by decide) rfl (fun ls hl => ?_)
        refine lv_aload_n hx hb dM_change_46 rfl (lv_at hl 2 rfl) ?_
        refine lv_iload hx hb dM_change_47 (lv_at hl 1 rfl) ?_
        refine lv_iload hx hb dM_change_49 (lv_at hl 1 rfl) ?_
        refine lv_if_ne (tgt := 69) hx hb dM_change_51 (by decide) (fun c_42 => absurd rfl c_42) (fun c_42 => ?_)
        refine lv_aload_n hx hb dM_change_54 rfl (lv_at hl 2 rfl) ?_
        refine lv_iload hx hb dM_change_55 (lv_at hl 0 rfl) ?_
        refine lv_iload_n hx hb dM_change_57 rfl (lv_at hl 3 rfl) ?_
        refine lv_iload_n hx hb dM_change_58 rfl (lv_at hl 4 rfl) ?_
        have hpc := hn_pc_le (hn_num h n) (D9 d)
        have hlen := (hO d hd).2.1
        refine hn_callE (W.runV (As := [.int (nI (48 * d + hn_pc (hn_num h n) (D9 d))), .int (nI d), .int (nI n)]) (rest := [.int 0, .ref (am 0)]) ⟨hx, hb, hml, hown, hts⟩ (cM_isAt_ok l D cI cL am τ h D9 tn (hn_kb TK) hR0 hO d hd n h1 h2 hz (hn_pc (hn_num h n) (D9 d)) (by omega)) (cwV 3 hts gM_M_isAt rfl rfl rfl (by decide +kernel) ⟨Nat.le_of_ble_eq_true rfl, Nat.le_of_ble_eq_true rfl⟩) (hn_preV hP hK (ci := 1) (q0 := 0) rfl rfl) rfl rfl hl.1 rfl (lv_room (Nat.le_of_ble_eq_true rfl)) dM_change_59 ⟨Nat.zero_le _, Nat.zero_le _⟩) (fun r_43 hr_43 => ?_)
        refine W.eq (g2 := F0 m 62 ls [.int r_43, .int 0, .ref (am 0)]) rfl ?_
        rcases hr_43 with ⟨e9, ha9⟩ | ⟨e9, ha9⟩
        · subst e9
          refine lv_if_ne (tgt := 69) hx hb dM_change_62 (by decide) (fun c_44 => ?_) (fun c_44 => absurd c_44 (by decide))
          refine lv_iconst (v := 0) hx hb dM_change_69 (by decide) ?_
          have hFc := va_free (wc := hn_wM am cI (τ)) hD hS hA [0, 1, 2, 3, 4, 5, 6] rfl
          refine va_calli (va_runV (As := [.int 0, .int 0]) (rest := []) ⟨hx, hb, hml, hown, hts⟩ (cM_throwing_ok l D cI cL am (τ) 0 0 _) (cwV 2 hts gM_M_throwing rfl rfl rfl (by decide +kernel) ⟨Nat.le_of_ble_eq_true rfl, Nat.le_of_ble_eq_true rfl⟩) (hn_preVW hP hK hD (ci := 1) (q0 := 0) rfl rfl) rfl rfl hl.1 rfl (lv_room (Nat.le_of_ble_eq_true rfl)) dM_change_70 ⟨Nat.zero_le _, Nat.zero_le _⟩) hS (fun q _ h => hFc q h) hFc (fun r9 τ1 t8 H1 locs ht hvm hw hB hz1 hk1 hS => ?_)
          obtain ⟨hP1, hK1, hD1⟩ := hB
          rw [ht] at hP1
          have hD : va_D A (hn_wM am cI (τ1)) := hD1.weaken (fun _ q _ h => hFc q.1 h)
          have hP : va_P D vwCl (hn_wM am cI (τ1)) H1 := hP1
          generalize H1 = H at hP hS ⊢
          try dsimp only at hw
          obtain ⟨hw1, hw2⟩ := hn_thr0 hw rfl rfl
          subst hw1
          have hH1 : hn_MH τ1 h tn TK := by rw [hw2]; exact hn_MH_keep hH rfl rfl rfl
          have hM1 : hn_MD τ1 D9 := by rw [hw2]; exact hn_MD_keep hM rfl rfl rfl rfl
          have hc1 : τ1 0 0 = nI 0 := by rw [hw2]; show upd (τ 0) 0 0 0 = nI 0; rw [pk_us]; rfl
          have hR1 : hn_MR τ1 h D9 tn (hn_kb TK) := hn_MR_iff.mpr ⟨hH1, hM1⟩
          refine lv_if_eq (tgt := 78) hx hb dM_change_73 (by decide) (fun c_45 => ?_) (fun c_45 => absurd rfl c_45)
          have hh9 := (hn_has_iff (hO d hd).1).mpr ha9
          refine lv_aload_n hx hb dM_change_78 rfl (lv_at hl 2 rfl) ?_
          refine va_get (D := D) (ci := 1) (v := .ref (am 3)) (C := RM) (T := FM) (N := 8) hx hb hts iM hown hK hP 0 rfl rfl 3 (by decide) (hts _ mM_f_id) (fun _ h9 => h9) rfl dM_change_79 ?_
          refine lv_iload hx hb dM_change_82 (lv_at hl 0 rfl) ?_
          refine va_iald hx hb hK hP 3 0 rfl rfl (vp_in_nI (show 48 * d + hn_pc (hn_num h n) (D9 d) < 384 from by omega) (by omega)) dM_change_84 ?_
          rw [nI_clamp (show 48 * d + hn_pc (hn_num h n) (D9 d) < 2 ^ 31 by omega)]
          rw [show τ1 3 (48 * d + hn_pc (hn_num h n) (D9 d)) = ((D9 d).getD (hn_pc (hn_num h n) (D9 d)) hn_e0).2.2 from ((hM1 d hd).2 _ ha9.1).1]
          refine lv_istore (lv' := [(6, .int (((D9 d).getD (hn_pc (hn_num h n) (D9 d)) hn_e0).2.2)), (5, .int (nI (48 * d + hn_pc (hn_num h n) (D9 d)))), (4, .int 0), (0, .ref (am 0)), (1, .int (nI d)), (2, .int (nI n)), (3, .int x9)]) hx hb dM_change_85 hl (by decide) rfl (fun ls hl => ?_)
          refine lv_aload_n hx hb dM_change_87 rfl (lv_at hl 3 rfl) ?_
          refine va_get (D := D) (ci := 1) (v := .ref (am 3)) (C := RM) (T := FM) (N := 8) hx hb hts iM hown hK hP 0 rfl rfl 3 (by decide) (hts _ mM_f_id) (fun _ h9 => h9) rfl dM_change_88 ?_
          refine lv_iload hx hb dM_change_91 (lv_at hl 1 rfl) ?_
          refine lv_iload_n hx hb dM_change_93 rfl (lv_at hl 6 rfl) ?_
          refine va_iast hx hb hK hP hD hS 3 0 rfl rfl (vp_in_nI (show 48 * d + hn_pc (hn_num h n) (D9 d) < 384 from by omega) (by omega)) dM_change_94 (fun H locs hP hD hS => ?_)
          rw [nI_clamp (show 48 * d + hn_pc (hn_num h n) (D9 d) < 2 ^ 31 by omega)] at hP hD
          obtain ⟨τ2, eτ2⟩ : ∃ z : Nat → Nat → Int32, z = hn_up (τ1) 3 (upd (τ1 3) (48 * d + hn_pc (hn_num h n) (D9 d)) x9) := ⟨_, rfl⟩
          have hP : va_P D vwCl (hn_wM am cI (τ2)) H := by rw [eτ2]; exact hP
          have hD : va_D A (hn_wM am cI (τ2)) := by rw [eτ2]; exact hD
          refine lv_iload hx hb dM_change_95 (lv_at hl 0 rfl) ?_
          obtain ⟨g1, g2, g3⟩ := hn_chg_M (x := x9) hO hM1 hd hh9 (τ' := τ2) (by rw [eτ2]; rfl) (by rw [eτ2]; rfl) (by rw [eτ2]; rfl) (by rw [eτ2]; rfl)
          exact W.iret (v := (((D9 d).getD (hn_pc (hn_num h n) (D9 d)) hn_e0).2.2)) hx hb hr (fun t9 ht9 hW9 => ⟨⟨((D9 d).getD (hn_pc (hn_num h n) (D9 d)) hn_e0).2.2, τ2, rfl, ⟨0, hn_ud D9 d (hn_ec (hn_num h n) x9 (D9 d)), Or.inr ⟨d, n, hok, hi9, Or.inr ⟨rfl, hh9, rfl, rfl⟩⟩, by rw [eτ2]; exact hc1, by rw [eτ2]; exact hn_MH_keep hH1 rfl rfl rfl, g1, g2⟩, by rw [ht9]; exact hP, va_K.moved hW9.alike hK, hD⟩, hS.F ht9⟩) hS.2.2 dM_change_97
        · subst e9
          refine lv_if_ne (tgt := 69) hx hb dM_change_62 (by decide) (fun c_46 => absurd rfl c_46) (fun c_46 => ?_)
          refine lv_iconst (v := 1) hx hb dM_change_65 (by decide) ?_
          refine lv_goto (tgt := 70) hx hb dM_change_66 (by decide) ?_
          have hFc := va_free (wc := hn_wM am cI (τ)) hD hS hA [0, 1, 2, 3, 4, 5, 6] rfl
          refine va_calli (va_runV (As := [.int 0, .int 1]) (rest := []) ⟨hx, hb, hml, hown, hts⟩ (cM_throwing_ok l D cI cL am (τ) 0 1 _) (cwV 2 hts gM_M_throwing rfl rfl rfl (by decide +kernel) ⟨Nat.le_of_ble_eq_true rfl, Nat.le_of_ble_eq_true rfl⟩) (hn_preVW hP hK hD (ci := 1) (q0 := 0) rfl rfl) rfl rfl hl.1 rfl (lv_room (Nat.le_of_ble_eq_true rfl)) dM_change_70 ⟨Nat.zero_le _, Nat.zero_le _⟩) hS (fun q _ h => hFc q h) hFc (fun r9 τ1 t8 H1 locs ht hvm hw hB hz1 hk1 hS => ?_)
          obtain ⟨hP1, hK1, hD1⟩ := hB
          rw [ht] at hP1
          have hD : va_D A (hn_wM am cI (τ1)) := hD1.weaken (fun _ q _ h => hFc q.1 h)
          have hP : va_P D vwCl (hn_wM am cI (τ1)) H1 := hP1
          generalize H1 = H at hP hS ⊢
          try dsimp only at hw
          obtain ⟨hw1, hw2⟩ := hn_thr2 hw rfl (by decide)
          subst hw1
          have hH1 : hn_MH τ1 h tn TK := by rw [hw2]; exact hn_MH_keep hH rfl rfl rfl
          have hM1 : hn_MD τ1 D9 := by rw [hw2]; exact hn_MD_keep hM rfl rfl rfl rfl
          have hc1 : τ1 0 0 = nI 2 := by rw [hw2]; show upd (τ 0) 0 2 0 = nI 2; rw [pk_us]; rfl
          have hR1 : hn_MR τ1 h D9 tn (hn_kb TK) := hn_MR_iff.mpr ⟨hH1, hM1⟩
          refine lv_if_eq (tgt := 78) hx hb dM_change_73 (by decide) (fun c_47 => absurd c_47 (by decide)) (fun c_47 => ?_)
          refine lv_iconst (v := 0) hx hb dM_change_76 (by decide) ?_
          exact W.iret (v := 0) hx hb hr (fun t9 ht9 hW9 => ⟨⟨0, τ1, rfl, ⟨2, D9, Or.inr ⟨d, n, hok, hi9, Or.inl ⟨rfl, rfl, fun z => ha9 ((hn_has_iff (hO d hd).1).mp z)⟩⟩, hc1, hH1, hM1, hO⟩, by rw [ht9]; exact hP, va_K.moved hW9.alike hK, hD⟩, hS.F ht9⟩) hS.2.2 dM_change_77
      · subst e9
        refine lv_if_ne (tgt := 26) hx hb dM_change_19 (by decide) (fun c_48 => absurd rfl c_48) (fun c_48 => ?_)
        refine lv_iconst (v := 1) hx hb dM_change_22 (by decide) ?_
        refine lv_goto (tgt := 27) hx hb dM_change_23 (by decide) ?_
        refine lv_istore (lv' := [(4, .int 1), (0, .ref (am 0)), (1, .int d9), (2, .int n9), (3, .int x9)]) hx hb dM_change_27 hl (by decide) rfl (fun ls hl => ?_)
        refine lv_iload hx hb dM_change_29 (lv_at hl 0 rfl) ?_
        refine lv_if_eq (tgt := 38) hx hb dM_change_31 (by decide) (fun c_49 => absurd c_49 (by decide)) (fun c_49 => ?_)
        refine lv_iconst (v := 0) hx hb dM_change_34 (by decide) ?_
        refine lv_goto (tgt := 44) hx hb dM_change_35 (by decide) ?_
        refine lv_istore (lv' := [(5, .int 0), (4, .int 1), (0, .ref (am 0)), (1, .int d9), (2, .int n9), (3, .int x9)]) hx hb dM_change_44 hl (by decide) rfl (fun ls hl => ?_)
        refine lv_aload_n hx hb dM_change_46 rfl (lv_at hl 2 rfl) ?_
        refine lv_iload hx hb dM_change_47 (lv_at hl 1 rfl) ?_
        refine lv_iload hx hb dM_change_49 (lv_at hl 1 rfl) ?_
        refine lv_if_ne (tgt := 69) hx hb dM_change_51 (by decide) (fun c_50 => ?_) (fun c_50 => absurd c_50 (by decide))
        refine lv_iconst (v := 0) hx hb dM_change_69 (by decide) ?_
        have hFc := va_free (wc := hn_wM am cI (τ)) hD hS hA [0, 1, 2, 3, 4, 5, 6] rfl
        refine va_calli (va_runV (As := [.int 1, .int 0]) (rest := []) ⟨hx, hb, hml, hown, hts⟩ (cM_throwing_ok l D cI cL am (τ) 1 0 _) (cwV 2 hts gM_M_throwing rfl rfl rfl (by decide +kernel) ⟨Nat.le_of_ble_eq_true rfl, Nat.le_of_ble_eq_true rfl⟩) (hn_preVW hP hK hD (ci := 1) (q0 := 0) rfl rfl) rfl rfl hl.1 rfl (lv_room (Nat.le_of_ble_eq_true rfl)) dM_change_70 ⟨Nat.zero_le _, Nat.zero_le _⟩) hS (fun q _ h => hFc q h) hFc (fun r9 τ1 t8 H1 locs ht hvm hw hB hz1 hk1 hS => ?_)
        obtain ⟨hP1, hK1, hD1⟩ := hB
        rw [ht] at hP1
        have hD : va_D A (hn_wM am cI (τ1)) := hD1.weaken (fun _ q _ h => hFc q.1 h)
        have hP : va_P D vwCl (hn_wM am cI (τ1)) H1 := hP1
        generalize H1 = H at hP hS ⊢
        try dsimp only at hw
        obtain ⟨hw1, hw2⟩ := hn_thr1 hw rfl
        subst hw1
        have hH1 : hn_MH τ1 h tn TK := by rw [hw2]; exact hn_MH_keep hH rfl rfl rfl
        have hM1 : hn_MD τ1 D9 := by rw [hw2]; exact hn_MD_keep hM rfl rfl rfl rfl
        have hc1 : τ1 0 0 = nI 1 := by rw [hw2]; show upd (τ 0) 0 1 0 = nI 1; rw [pk_us]; rfl
        have hR1 : hn_MR τ1 h D9 tn (hn_kb TK) := hn_MR_iff.mpr ⟨hH1, hM1⟩
        refine lv_if_eq (tgt := 78) hx hb dM_change_73 (by decide) (fun c_51 => absurd c_51 (by decide)) (fun c_51 => ?_)
        refine lv_iconst (v := 0) hx hb dM_change_76 (by decide) ?_
        exact W.iret (v := 0) hx hb hr (fun t9 ht9 hW9 => ⟨⟨0, τ1, rfl, ⟨1, D9, Or.inl ⟨rfl, rfl, fun z => hi9 z.2.2⟩, hc1, hH1, hM1, hO⟩, by rw [ht9]; exact hP, va_K.moved hW9.alike hK, hD⟩, hS.F ht9⟩) hS.2.2 dM_change_77
    · subst e9
      refine lv_if_eq (tgt := 22) hx hb dM_change_12 (by decide) (fun c_52 => ?_) (fun c_52 => absurd rfl c_52)
      refine lv_iconst (v := 1) hx hb dM_change_22 (by decide) ?_
      refine lv_goto (tgt := 27) hx hb dM_change_23 (by decide) ?_
      refine lv_istore (lv' := [(4, .int 1), (0, .ref (am 0)), (1, .int d9), (2, .int n9), (3, .int x9)]) hx hb dM_change_27 hl (by decide) rfl (fun ls hl => ?_)
      refine lv_iload hx hb dM_change_29 (lv_at hl 0 rfl) ?_
      refine lv_if_eq (tgt := 38) hx hb dM_change_31 (by decide) (fun c_53 => absurd c_53 (by decide)) (fun c_53 => ?_)
      refine lv_iconst (v := 0) hx hb dM_change_34 (by decide) ?_
      refine lv_goto (tgt := 44) hx hb dM_change_35 (by decide) ?_
      refine lv_istore (lv' := [(5, .int 0), (4, .int 1), (0, .ref (am 0)), (1, .int d9), (2, .int n9), (3, .int x9)]) hx hb dM_change_44 hl (by decide) rfl (fun ls hl => ?_)
      refine lv_aload_n hx hb dM_change_46 rfl (lv_at hl 2 rfl) ?_
      refine lv_iload hx hb dM_change_47 (lv_at hl 1 rfl) ?_
      refine lv_iload hx hb dM_change_49 (lv_at hl 1 rfl) ?_
      refine lv_if_ne (tgt := 69) hx hb dM_change_51 (by decide) (fun c_54 => ?_) (fun c_54 => absurd c_54 (by decide))
      refine lv_iconst (v := 0) hx hb dM_change_69 (by decide) ?_
      have hFc := va_free (wc := hn_wM am cI (τ)) hD hS hA [0, 1, 2, 3, 4, 5, 6] rfl
      refine va_calli (va_runV (As := [.int 1, .int 0]) (rest := []) ⟨hx, hb, hml, hown, hts⟩ (cM_throwing_ok l D cI cL am (τ) 1 0 _) (cwV 2 hts gM_M_throwing rfl rfl rfl (by decide +kernel) ⟨Nat.le_of_ble_eq_true rfl, Nat.le_of_ble_eq_true rfl⟩) (hn_preVW hP hK hD (ci := 1) (q0 := 0) rfl rfl) rfl rfl hl.1 rfl (lv_room (Nat.le_of_ble_eq_true rfl)) dM_change_70 ⟨Nat.zero_le _, Nat.zero_le _⟩) hS (fun q _ h => hFc q h) hFc (fun r9 τ1 t8 H1 locs ht hvm hw hB hz1 hk1 hS => ?_)
      obtain ⟨hP1, hK1, hD1⟩ := hB
      rw [ht] at hP1
      have hD : va_D A (hn_wM am cI (τ1)) := hD1.weaken (fun _ q _ h => hFc q.1 h)
      have hP : va_P D vwCl (hn_wM am cI (τ1)) H1 := hP1
      generalize H1 = H at hP hS ⊢
      try dsimp only at hw
      obtain ⟨hw1, hw2⟩ := hn_thr1 hw rfl
      subst hw1
      have hH1 : hn_MH τ1 h tn TK := by rw [hw2]; exact hn_MH_keep hH rfl rfl rfl
      have hM1 : hn_MD τ1 D9 := by rw [hw2]; exact hn_MD_keep hM rfl rfl rfl rfl
      have hc1 : τ1 0 0 = nI 1 := by rw [hw2]; show upd (τ 0) 0 1 0 = nI 1; rw [pk_us]; rfl
      have hR1 : hn_MR τ1 h D9 tn (hn_kb TK) := hn_MR_iff.mpr ⟨hH1, hM1⟩
      refine lv_if_eq (tgt := 78) hx hb dM_change_73 (by decide) (fun c_55 => absurd c_55 (by decide)) (fun c_55 => ?_)
      refine lv_iconst (v := 0) hx hb dM_change_76 (by decide) ?_
      exact W.iret (v := 0) hx hb hr (fun t9 ht9 hW9 => ⟨⟨0, τ1, rfl, ⟨1, D9, Or.inl ⟨rfl, rfl, fun z => hn9 z.2.1⟩, hc1, hH1, hM1, hO⟩, by rw [ht9]; exact hP, va_K.moved hW9.alike hK, hD⟩, hS.F ht9⟩) hS.2.2 dM_change_77
  · subst e9
    refine lv_if_eq (tgt := 22) hx hb dM_change_4 (by decide) (fun c_56 => ?_) (fun c_56 => absurd rfl c_56)
    refine lv_iconst (v := 1) hx hb dM_change_22 (by decide) ?_
    refine lv_goto (tgt := 27) hx hb dM_change_23 (by decide) ?_
    refine lv_istore (lv' := [(4, .int 1), (0, .ref (am 0)), (1, .int d9), (2, .int n9), (3, .int x9)]) hx hb dM_change_27 hl (by decide) rfl (fun ls hl => ?_)
    refine lv_iload hx hb dM_change_29 (lv_at hl 0 rfl) ?_
    refine lv_if_eq (tgt := 38) hx hb dM_change_31 (by decide) (fun c_57 => absurd c_57 (by decide)) (fun c_57 => ?_)
    refine lv_iconst (v := 0) hx hb dM_change_34 (by decide) ?_
    refine lv_goto (tgt := 44) hx hb dM_change_35 (by decide) ?_
    refine lv_istore (lv' := [(5, .int 0), (4, .int 1), (0, .ref (am 0)), (1, .int d9), (2, .int n9), (3, .int x9)]) hx hb dM_change_44 hl (by decide) rfl (fun ls hl => ?_)
    refine lv_aload_n hx hb dM_change_46 rfl (lv_at hl 2 rfl) ?_
    refine lv_iload hx hb dM_change_47 (lv_at hl 1 rfl) ?_
    refine lv_iload hx hb dM_change_49 (lv_at hl 1 rfl) ?_
    refine lv_if_ne (tgt := 69) hx hb dM_change_51 (by decide) (fun c_58 => ?_) (fun c_58 => absurd c_58 (by decide))
    refine lv_iconst (v := 0) hx hb dM_change_69 (by decide) ?_
    have hFc := va_free (wc := hn_wM am cI (τ)) hD hS hA [0, 1, 2, 3, 4, 5, 6] rfl
    refine va_calli (va_runV (As := [.int 1, .int 0]) (rest := []) ⟨hx, hb, hml, hown, hts⟩ (cM_throwing_ok l D cI cL am (τ) 1 0 _) (cwV 2 hts gM_M_throwing rfl rfl rfl (by decide +kernel) ⟨Nat.le_of_ble_eq_true rfl, Nat.le_of_ble_eq_true rfl⟩) (hn_preVW hP hK hD (ci := 1) (q0 := 0) rfl rfl) rfl rfl hl.1 rfl (lv_room (Nat.le_of_ble_eq_true rfl)) dM_change_70 ⟨Nat.zero_le _, Nat.zero_le _⟩) hS (fun q _ h => hFc q h) hFc (fun r9 τ1 t8 H1 locs ht hvm hw hB hz1 hk1 hS => ?_)
    obtain ⟨hP1, hK1, hD1⟩ := hB
    rw [ht] at hP1
    have hD : va_D A (hn_wM am cI (τ1)) := hD1.weaken (fun _ q _ h => hFc q.1 h)
    have hP : va_P D vwCl (hn_wM am cI (τ1)) H1 := hP1
    generalize H1 = H at hP hS ⊢
    try dsimp only at hw
    obtain ⟨hw1, hw2⟩ := hn_thr1 hw rfl
    subst hw1
    have hH1 : hn_MH τ1 h tn TK := by rw [hw2]; exact hn_MH_keep hH rfl rfl rfl
    have hM1 : hn_MD τ1 D9 := by rw [hw2]; exact hn_MD_keep hM rfl rfl rfl rfl
    have hc1 : τ1 0 0 = nI 1 := by rw [hw2]; show upd (τ 0) 0 1 0 = nI 1; rw [pk_us]; rfl
    have hR1 : hn_MR τ1 h D9 tn (hn_kb TK) := hn_MR_iff.mpr ⟨hH1, hM1⟩
    refine lv_if_eq (tgt := 78) hx hb dM_change_73 (by decide) (fun c_59 => absurd c_59 (by decide)) (fun c_59 => ?_)
    refine lv_iconst (v := 0) hx hb dM_change_76 (by decide) ?_
    exact W.iret (v := 0) hx hb hr (fun t9 ht9 hW9 => ⟨⟨0, τ1, rfl, ⟨1, D9, Or.inl ⟨rfl, rfl, fun z => hd9 z.1⟩, hc1, hH1, hM1, hO⟩, by rw [ht9]; exact hP, va_K.moved hW9.alike hK, hD⟩, hS.F ht9⟩) hS.2.2 dM_change_77
