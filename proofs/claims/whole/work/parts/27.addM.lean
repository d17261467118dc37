section
theorem hn_ab1 {t5 : Nat → Int32} {b k : Nat} {h : Nat → Nat} (h1 : ∀ j, j < k → t5 (b + j) = nI (h j)) {j : Nat} (hj : j < k + 1) : upd t5 (b + k) (nI (h k)) (b + j) = nI (h j) := by
  by_cases e : j = k
  · rw [e, pk_us]
  · rw [pk_un (by omega)]; exact h1 j (by omega)
end
set_option maxHeartbeats 4000000 in
set_option maxRecDepth 100000 in
theorem cM_add_ok (l : Launch) (D : va_G) (cI cL : ClassId) (am : Nat → Nat) (τ : Nat → Nat → Int32) (d9 n9 x9 : Int32) (h : Nat → Nat) (D9 : Nat → List hn_E) (tn TK : Nat) (hH : hn_MH τ h tn TK) (hM : hn_MD τ D9) (hO : hn_DO D9)  (sz : Nat) : Met l yM_add wM_add ({ frames := 2, cells := 0, slots := 0, locals := 47 }) (hn_PW D (hn_ty cI cL) (hn_wM am cI (τ)) sz [.ref (am 0), .int d9, .int n9, .int x9]) (va_Qi (fun (r : Int32) (τ9 : Nat → Nat → Int32) => ∃ (c : Nat) (D8 : Nat → List hn_E), hn_addS h D9 d9 n9 x9 c r D8 ∧ τ9 0 0 = nI c ∧ hn_MH τ9 h tn TK ∧ hn_MD τ9 D8 ∧ hn_DO D8) (fun (τ9 : Nat → Nat → Int32) t => hn_at D (hn_ty cI cL) (va_A (hn_wM am cI (τ)) sz) (hn_wM am cI (τ9)) t) (va_A (hn_wM am cI (τ)) sz)) 0 0 (va_A (hn_wM am cI (τ)) sz) := by
  refine Met.ofW (cc := cM_add) (maxL := 7) (ret := (some .int)) (by decide) rfl ?_
  intro p e s m args below meth c s₁ B hml hv
  obtain ⟨rfl, hsz, hP, hK, hD0⟩ := hv
  subst hsz
  have hD := hD0.self (sz := s.heap.size)
  generalize hAe : va_A (hn_wM am cI (τ)) s.heap.size = A at hD ⊢
  have hA : ∀ q : Nat, s.heap.size ≤ q → A q := fun q h => by rw [← hAe]; exact Or.inr h
  have hS : va_S A s.heap s.heap [] := va_S.rf
  have hP : va_P D vwCl (hn_wM am cI (τ)) s.heap := hP
  have hx := B.exec
  have hb := B.bytes
  have hr := B.returns
  have hts0 := atoms_spec (ws := wM_add) B.pre
  have hts : ∀ w ∈ hn_tb, w.before _ s = true := fun w hw => hts0 w (List.mem_cons_of_mem _ hw)
  have hown : s.vm.findClass RM = some m.cls := findClass_of_methodNamed B.named
  have hlocks := B.notSynchronized
  have hl := lv_entry [.ref (am 0), .int d9, .int n9, .int x9] (n := 7) (Nat.le_of_ble_eq_true rfl)
  rw [lg_entry_eq]
  generalize (lg_sl [.ref (am 0), .int d9, .int n9, .int x9] ++ List.replicate (7 - (lg_sl [.ref (am 0), .int d9, .int n9, .int x9]).length) Slot.unset).toArray = ls at hl ⊢
  have hl : lv_has ls 7 [(0, .ref (am 0)), (1, .int d9), (2, .int n9), (3, .int x9)] := hl
  refine lv_iload_n hx hb dM_add_0 rfl (lv_at hl 1 rfl) ?_
  refine hn_callE (W.runS (As := [.int d9]) (rest := []) ⟨hx, hb, hml, hown, hts⟩ (cM_isDirectory_ok l d9) (cwS 1 hts gM_M_isDirectory rfl rfl rfl (by decide +kernel) ⟨Nat.le_of_ble_eq_true rfl, Nat.le_of_ble_eq_true rfl⟩) hn_pre0 rfl rfl hl.1 rfl (lv_room (Nat.le_of_ble_eq_true rfl)) dM_add_1 ⟨Nat.zero_le _, Nat.zero_le _⟩) (fun r_60 hr_60 => ?_)
  refine W.eq (g2 := F0 m 4 ls [.int r_60]) rfl ?_
  rcases hr_60 with ⟨e9, hd9⟩ | ⟨e9, hd9⟩
  · subst e9
    refine lv_if_eq (tgt := 22) hx hb dM_add_4 (by decide) (fun c_61 => absurd c_61 (by decide)) (fun c_61 => ?_)
    refine lv_aload_n hx hb dM_add_7 rfl (lv_at hl 0 rfl) ?_
    refine lv_iload_n hx hb dM_add_8 rfl (lv_at hl 2 rfl) ?_
    refine hn_callE (W.runV (As := [.int n9]) (rest := []) ⟨hx, hb, hml, hown, hts⟩ (cM_isName_ok l D cI cL am (τ) h hH.1 hH.2.1 n9) (cwV 1 hts gM_M_isName rfl rfl rfl (by decide +kernel) ⟨Nat.le_of_ble_eq_true rfl, Nat.le_of_ble_eq_true rfl⟩) (hn_preV hP hK (ci := 1) (q0 := 0) rfl rfl) rfl rfl hl.1 rfl (lv_room (Nat.le_of_ble_eq_true rfl)) dM_add_9 ⟨Nat.zero_le _, Nat.zero_le _⟩) (fun r_62 hr_62 => ?_)
    refine W.eq (g2 := F0 m 12 ls [.int r_62]) rfl ?_
    rcases hr_62 with ⟨e9, hn9⟩ | ⟨e9, hn9⟩
    · subst e9
      refine lv_if_eq (tgt := 22) hx hb dM_add_12 (by decide) (fun c_63 => absurd c_63 (by decide)) (fun c_63 => ?_)
      refine lv_iload_n hx hb dM_add_15 rfl (lv_at hl 3 rfl) ?_
      refine hn_callE (W.runS (As := [.int x9]) (rest := []) ⟨hx, hb, hml, hown, hts⟩ (cM_isId_ok l x9) (cwS 1 hts gM_M_isId rfl rfl rfl (by decide +kernel) ⟨Nat.le_of_ble_eq_true rfl, Nat.le_of_ble_eq_true rfl⟩) hn_pre0 rfl rfl hl.1 rfl (lv_room (Nat.le_of_ble_eq_true rfl)) dM_add_16 ⟨Nat.zero_le _, Nat.zero_le _⟩) (fun r_64 hr_64 => ?_)
      refine W.eq (g2 := F0 m 19 ls [.int r_64]) rfl ?_
      rcases hr_64 with ⟨e9, hi9⟩ | ⟨e9, hi9⟩
      · subst e9
        refine lv_if_ne (tgt := 26) hx hb dM_add_19 (by decide) (fun c_65 => ?_) (fun c_65 => absurd c_65 (by decide))
        obtain ⟨d, n, hok⟩ := hn_ok_of hd9 hn9
        obtain ⟨ed, hd, en, h1, h2, hz0⟩ := id hok
        have hz : ∀ k, k < n → h k ≠ 0 := fun k hk => (hz0 k hk).1
        subst ed
        subst en
        have hR0 : hn_MR τ h D9 tn (hn_kb TK) := hn_MR_iff.mpr ⟨hH, hM⟩
        refine lv_iconst (v := 0) hx hb dM_add_26 (by decide) ?_
        refine lv_istore (lv' := [(4, .int 0), (0, .ref (am 0)), (1, .int (nI d)), (2, .int (nI n)), (3, .int x9)]) hx hb dM_add_27 hl (by decide) rfl (fun ls hl => ?_)
        refine lv_iload hx hb dM_add_29 (lv_at hl 0 rfl) ?_
        refine lv_if_eq (tgt := 38) hx hb dM_add_31 (by decide) (fun c_66 => ?_) (fun c_66 => absurd rfl c_66)
        refine lv_aload_n hx hb dM_add_38 rfl (lv_at hl 1 rfl) ?_
        refine lv_iload_n hx hb dM_add_39 rfl (lv_at hl 2 rfl) ?_
        refine lv_iload_n hx hb dM_add_40 rfl (lv_at hl 3 rfl) ?_
        refine W.callR (W.runV (As := [.int (nI d), .int (nI n)]) (rest := []) ⟨hx, hb, hml, hown, hts⟩ (cM_place_ok l D cI cL am τ h D9 tn (hn_kb TK) hR0 hO d hd n h1 h2 hz) (cwV 2 hts gM_M_place rfl rfl rfl (by decide +kernel) ⟨Nat.le_of_ble_eq_true rfl, Nat.le_of_ble_eq_true rfl⟩) (hn_preV hP hK (ci := 1) (q0 := 0) rfl rfl) rfl rfl hl.1 rfl (lv_room (Nat.le_of_ble_eq_true rfl)) dM_add_41 ⟨Nat.zero_le _, Nat.zero_le _⟩) ?_
        refine W.eq (g2 := F0 m 44 ls [.int (nI (48 * d + hn_pc (hn_num h n) (D9 d)))]) rfl ?_
        refine lv_istore (lv' := [(5, .int (nI (48 * d + hn_pc (hn_num h n) (D9 d)))), (4, .int 0), (0, .ref (am 0)), (1, .int (nI d)), (2, .int (nI n)), (3, .int x9)]) hx hb dM_add_44 hl (by decide) rfl (fun ls hl => ?_)
        refine lv_aload_n hx hb dM_add_46 rfl (lv_at hl 2 rfl) ?_
        refine lv_iload hx hb dM_add_47 (lv_at hl 1 rfl) ?_
        refine lv_iload hx hb dM_add_49 (lv_at hl 1 rfl) ?_
        refine lv_if_ne (tgt := 80) hx hb dM_add_51 (by decide) (fun c_67 => absurd rfl c_67) (fun c_67 => ?_)
        refine lv_aload_n hx hb dM_add_54 rfl (lv_at hl 2 rfl) ?_
        refine lv_iload hx hb dM_add_55 (lv_at hl 0 rfl) ?_
        refine lv_iload_n hx hb dM_add_57 rfl (lv_at hl 3 rfl) ?_
        refine lv_iload_n hx hb dM_add_58 rfl (lv_at hl 4 rfl) ?_
        have hpc := hn_pc_le (hn_num h n) (D9 d)
        have hlen := (hO d hd).2.1
        refine hn_callE (W.runV (As := [.int (nI (48 * d + hn_pc (hn_num h n) (D9 d))), .int (nI d), .int (nI n)]) (rest := [.int 0, .ref (am 0)]) ⟨hx, hb, hml, hown, hts⟩ (cM_isAt_ok l D cI cL am τ h D9 tn (hn_kb TK) hR0 hO d hd n h1 h2 hz (hn_pc (hn_num h n) (D9 d)) (by omega)) (cwV 3 hts gM_M_isAt rfl rfl rfl (by decide +kernel) ⟨Nat.le_of_ble_eq_true rfl, Nat.le_of_ble_eq_true rfl⟩) (hn_preV hP hK (ci := 1) (q0 := 0) rfl rfl) rfl rfl hl.1 rfl (lv_room (Nat.le_of_ble_eq_true rfl)) dM_add_59 ⟨Nat.zero_le _, Nat.zero_le _⟩) (fun r_68 hr_68 => ?_)
        refine W.eq (g2 := F0 m 62 ls [.int r_68, .int 0, .ref (am 0)]) rfl ?_
        rcases hr_68 with ⟨e9, ha9⟩ | ⟨e9, ha9⟩
        · subst e9
          refine lv_if_ne (tgt := 76) hx hb dM_add_62 (by decide) (fun c_69 => ?_) (fun c_69 => absurd c_69 (by decide))
          refine lv_iconst (v := 1) hx hb dM_add_76 (by decide) ?_
          refine lv_goto (tgt := 81) hx hb dM_add_77 (by decide) ?_
          have hFc := va_free (wc := hn_wM am cI (τ)) hD hS hA [0, 1, 2, 3, 4, 5, 6] rfl
          refine va_calli (va_runV (As := [.int 0, .int 1]) (rest := []) ⟨hx, hb, hml, hown, hts⟩ (cM_throwing_ok l D cI cL am (τ) 0 1 _) (cwV 2 hts gM_M_throwing rfl rfl rfl (by decide +kernel) ⟨Nat.le_of_ble_eq_true rfl, Nat.le_of_ble_eq_true rfl⟩) (hn_preVW hP hK hD (ci := 1) (q0 := 0) rfl rfl) rfl rfl hl.1 rfl (lv_room (Nat.le_of_ble_eq_true rfl)) dM_add_81 ⟨Nat.zero_le _, Nat.zero_le _⟩) hS (fun q _ h => hFc q h) hFc (fun r9 τ1 t8 H1 locs ht hvm hw hB hz1 hk1 hS => ?_)
          obtain ⟨hP1, hK1, hD1⟩ := hB
          rw [ht] at hP1
          have hD : va_D A (hn_wM am cI (τ1)) := hD1.weaken (fun _ q _ h => hFc q.1 h)
          have hP : va_P D vwCl (hn_wM am cI (τ1)) H1 := hP1
          generalize H1 = H at hP hS ⊢
          try dsimp only at hw
          obtain ⟨hw1, hw2⟩ := hn_thr2 hw rfl (by decide)
          subst hw1
          have hH1 : hn_MH τ1 h tn TK := by rw [hw2]; exact hn_MH_keep hH rfl rfl rfl
          have hM1 : hn_MD τ1 D9 := by rw [hw2]; exact hn_MD_keep hM rfl rfl rfl rfl
          have hc1 : τ1 0 0 = nI 2 := by rw [hw2]; show upd (τ 0) 0 2 0 = nI 2; rw [pk_us]; rfl
          have hR1 : hn_MR τ1 h D9 tn (hn_kb TK) := hn_MR_iff.mpr ⟨hH1, hM1⟩
          refine lv_if_eq (tgt := 89) hx hb dM_add_84 (by decide) (fun c_70 => absurd c_70 (by decide)) (fun c_70 => ?_)
          refine lv_iconst (v := 0) hx hb dM_add_87 (by decide) ?_
          exact W.iret (v := 0) hx hb hr (fun t9 ht9 hW9 => ⟨⟨0, τ1, rfl, ⟨2, D9, Or.inr ⟨d, n, hok, hi9, Or.inl ⟨rfl, rfl, Or.inl ((hn_has_iff (hO d hd).1).mpr ha9)⟩⟩, hc1, hH1, hM1, hO⟩, by rw [ht9]; exact hP, va_K.moved hW9.alike hK, hD⟩, hS.F ht9⟩) hS.2.2 dM_add_88
        · subst e9
          refine lv_if_ne (tgt := 76) hx hb dM_add_62 (by decide) (fun c_71 => absurd c_71 (by decide)) (fun c_71 => ?_)
          have hno : ¬ hn_has (hn_num h n) (D9 d) := fun z => ha9 ((hn_has_iff (hO d hd).1).mp z)
          refine lv_aload_n hx hb dM_add_65 rfl (lv_at hl 2 rfl) ?_
          refine va_get (D := D) (ci := 1) (v := .ref (am 2)) (C := RM) (T := FM) (N := 8) hx hb hts iM hown hK hP 0 rfl rfl 2 (by decide) (hts _ mM_f_many) (fun _ h9 => h9) rfl dM_add_66 ?_
          refine lv_iload_n hx hb dM_add_69 rfl (lv_at hl 3 rfl) ?_
          refine va_iald hx hb hK hP 2 0 rfl rfl (vp_in_nI (show d < 8 from hd) (by omega)) dM_add_70 ?_
          rw [nI_clamp (show d < 2 ^ 31 by omega)]
          rw [show τ 2 d = nI (D9 d).length from (hM d hd).1]
          refine lv_bipush (v := 48) hx hb dM_add_71 (by decide) ?_
          refine lv_icmp_ne (tgt := 80) hx hb dM_add_73 (by decide) (fun c_72 => ?_) (fun c_72 => ?_)
          · skip
            have hfull : ¬ (D9 d).length = 48 := fun z => c_72 (by rw [z]; rfl)
            refine lv_iconst (v := 0) hx hb dM_add_80 (by decide) ?_
            have hFc := va_free (wc := hn_wM am cI (τ)) hD hS hA [0, 1, 2, 3, 4, 5, 6] rfl
            refine va_calli (va_runV (As := [.int 0, .int 0]) (rest := []) ⟨hx, hb, hml, hown, hts⟩ (cM_throwing_ok l D cI cL am (τ) 0 0 _) (cwV 2 hts gM_M_throwing rfl rfl rfl (by decide +kernel) ⟨Nat.le_of_ble_eq_true rfl, Nat.le_of_ble_eq_true rfl⟩) (hn_preVW hP hK hD (ci := 1) (q0 := 0) rfl rfl) rfl rfl hl.1 rfl (lv_room (Nat.le_of_ble_eq_true rfl)) dM_add_81 ⟨Nat.zero_le _, Nat.zero_le _⟩) hS (fun q _ h => hFc q h) hFc (fun r9 τ1 t8 H1 locs ht hvm hw hB hz1 hk1 hS => ?_)
            obtain ⟨hP1, hK1, hD1⟩ := hB
            rw [ht] at hP1
            have hD : va_D A (hn_wM am cI (τ1)) := hD1.weaken (fun _ q _ h => hFc q.1 h)
            have hP : va_P D vwCl (hn_wM am cI (τ1)) H1 := hP1
            generalize H1 = H at hP hS ⊢
            try dsimp only at hw
            obtain ⟨hw1, hw2⟩ := hn_thr0 hw rfl rfl
            subst hw1
            have hH1 : hn_MH τ1 h tn TK := by rw [hw2]; exact hn_MH_keep hH rfl rfl rfl
            have hM1 : hn_MD τ1 D9 := by rw [hw2]; exact hn_MD_keep hM rfl rfl rfl rfl
            have hc1 : τ1 0 0 = nI 0 := by rw [hw2]; show upd (τ 0) 0 0 0 = nI 0; rw [pk_us]; rfl
            have hR1 : hn_MR τ1 h D9 tn (hn_kb TK) := hn_MR_iff.mpr ⟨hH1, hM1⟩
            refine lv_if_eq (tgt := 89) hx hb dM_add_84 (by decide) (fun c_73 => ?_) (fun c_73 => absurd rfl c_73)
            refine lv_bipush (v := 48) hx hb dM_add_89 (by decide) ?_
            refine lv_iload_n hx hb dM_add_91 rfl (lv_at hl 3 rfl) ?_
            refine lv_imul hx hb dM_add_92 ?_
            rw [show (48 * (nI d) : Int32) = nI (48 * d) from pk_mul 48 d]
            refine lv_aload_n hx hb dM_add_93 rfl (lv_at hl 2 rfl) ?_
            refine va_get (D := D) (ci := 1) (v := .ref (am 2)) (C := RM) (T := FM) (N := 8) hx hb hts iM hown hK hP 0 rfl rfl 2 (by decide) (hts _ mM_f_many) (fun _ h9 => h9) rfl dM_add_94 ?_
            refine lv_iload_n hx hb dM_add_97 rfl (lv_at hl 3 rfl) ?_
            refine va_iald hx hb hK hP 2 0 rfl rfl (vp_in_nI (show d < 8 from hd) (by omega)) dM_add_98 ?_
            rw [nI_clamp (show d < 2 ^ 31 by omega)]
            rw [show τ1 2 d = nI (D9 d).length from (hM1 d hd).1]
            refine lv_iadd hx hb dM_add_99 ?_
            rw [show ((nI (48 * d)) + (nI (D9 d).length) : Int32) = nI (48 * d + (D9 d).length) from nI_add _ _]
            refine lv_istore (lv' := [(6, .int (nI (48 * d + (D9 d).length))), (5, .int (nI (48 * d + hn_pc (hn_num h n) (D9 d)))), (4, .int 0), (0, .ref (am 0)), (1, .int (nI d)), (2, .int (nI n)), (3, .int x9)]) hx hb dM_add_100 hl (by decide) rfl (fun ls hl => ?_)
            suffices loop : ∀ (f : Nat) (τ3 : Nat → Nat → Int32) (H : Heap) (locs : List Loc), hn_pc (hn_num h n) (D9 d) + f ≤ (D9 d).length → va_P D vwCl (hn_wM am cI τ3) H → va_D A (hn_wM am cI τ3) → va_S A s.heap H locs → hn_iv1 τ1 τ3 d (D9 d) (hn_pc (hn_num h n) (D9 d) + f) → ∀ ls : Array Slot, lv_has ls 7 [(0, .ref (am 0)), (1, .int (nI d)), (2, .int (nI n)), (3, .int x9), (5, .int (nI (48 * d + hn_pc (hn_num h n) (D9 d)))), (6, .int (nI (48 * d + (hn_pc (hn_num h n) (D9 d) + f))))] → W p l e (headSpec wM_add ({ frames := 2, cells := 0, slots := 0, locals := 47 })).room s m [.ref (am 0), .int (nI d), .int (nI n), .int x9].toArray below meth c H locs 0 0 (MQ below (va_Qi (fun (r : Int32) (τ9 : Nat → Nat → Int32) => ∃ (c : Nat) (D8 : Nat → List hn_E), hn_addS h D9 (nI d) (nI n) x9 c r D8 ∧ τ9 0 0 = nI c ∧ hn_MH τ9 h tn TK ∧ hn_MD τ9 D8 ∧ hn_DO D8) (fun (τ9 : Nat → Nat → Int32) t => hn_at D (hn_ty cI cL) A (hn_wM am cI (τ9)) t) A) [.ref (am 0), .int (nI d), .int (nI n), .int x9].toArray s 0 0 A) (F0 m 102 ls []) from loop ((D9 d).length - hn_pc (hn_num h n) (D9 d)) τ1 _ _ (by omega) hP hD hS (by rw [show hn_pc (hn_num h n) (D9 d) + ((D9 d).length - hn_pc (hn_num h n) (D9 d)) = (D9 d).length by omega]; exact hn_iv1_0 hM1 hd) ls (by rw [show hn_pc (hn_num h n) (D9 d) + ((D9 d).length - hn_pc (hn_num h n) (D9 d)) = (D9 d).length by omega]; exact lv_sub hl [3, 4, 5, 6, 1, 0] rfl)
            intro f
            induction f with
            | zero =>
              intro τ3 H locs hf hP hD hS hI ls hl
              have hl : lv_has ls 7 [(0, .ref (am 0)), (1, .int (nI d)), (2, .int (nI n)), (3, .int x9), (5, .int (nI (48 * d + hn_pc (hn_num h n) (D9 d)))), (6, .int (nI (48 * d + hn_pc (hn_num h n) (D9 d))))] := hl
              refine lv_iload hx hb dM_add_102 (lv_at hl 5 rfl) ?_
              refine lv_iload hx hb dM_add_104 (lv_at hl 4 rfl) ?_
              refine lv_icmp_le (tgt := 125) hx hb dM_add_106 (by decide) (fun c_74 => ?_) (fun c_74 => absurd (Int32.le_refl _) c_74)
              refine lv_aload_n hx hb dM_add_125 rfl (lv_at hl 0 rfl) ?_
              refine va_get (D := D) (ci := 1) (v := .ref (am 3)) (C := RM) (T := FM) (N := 8) hx hb hts iM hown hK hP 0 rfl rfl 3 (by decide) (hts _ mM_f_id) (fun _ h9 => h9) rfl dM_add_126 ?_
              refine lv_iload hx hb dM_add_129 (lv_at hl 4 rfl) ?_
              refine lv_iload_n hx hb dM_add_131 rfl (lv_at hl 3 rfl) ?_
              refine va_iast hx hb hK hP hD hS 3 0 rfl rfl (vp_in_nI (show 48 * d + hn_pc (hn_num h n) (D9 d) < 384 from by omega) (by omega)) dM_add_132 (fun H locs hP hD hS => ?_)
              rw [nI_clamp (show 48 * d + hn_pc (hn_num h n) (D9 d) < 2 ^ 31 by omega)] at hP hD
              obtain ⟨τa, eτa⟩ : ∃ z : Nat → Nat → Int32, z = hn_up (τ3) 3 (upd (τ3 3) (48 * d + hn_pc (hn_num h n) (D9 d)) x9) := ⟨_, rfl⟩
              have hP : va_P D vwCl (hn_wM am cI (τa)) H := by rw [eτa]; exact hP
              have hD : va_D A (hn_wM am cI (τa)) := by rw [eτa]; exact hD
              refine lv_aload_n hx hb dM_add_133 rfl (lv_at hl 0 rfl) ?_
              refine va_get (D := D) (ci := 1) (v := .ref (am 4)) (C := RM) (T := FM) (N := 8) hx hb hts iM hown hK hP 0 rfl rfl 4 (by decide) (hts _ mM_f_length) (fun _ h9 => h9) rfl dM_add_134 ?_
              refine lv_iload hx hb dM_add_137 (lv_at hl 4 rfl) ?_
              refine lv_iload_n hx hb dM_add_139 rfl (lv_at hl 2 rfl) ?_
              refine va_iast hx hb hK hP hD hS 4 0 rfl rfl (vp_in_nI (show 48 * d + hn_pc (hn_num h n) (D9 d) < 384 from by omega) (by omega)) dM_add_140 (fun H locs hP hD hS => ?_)
              rw [nI_clamp (show 48 * d + hn_pc (hn_num h n) (D9 d) < 2 ^ 31 by omega)] at hP hD
              obtain ⟨τb, eτb⟩ : ∃ z : Nat → Nat → Int32, z = hn_up (τa) 4 (upd (τa 4) (48 * d + hn_pc (hn_num h n) (D9 d)) (nI n)) := ⟨_, rfl⟩
              have hP : va_P D vwCl (hn_wM am cI (τb)) H := by rw [eτb]; exact hP
              have hD : va_D A (hn_wM am cI (τb)) := by rw [eτb]; exact hD
              refine lv_iconst (v := 0) hx hb dM_add_141 (by decide) ?_
              refine lv_istore (lv' := [(6, .int 0), (0, .ref (am 0)), (1, .int (nI d)), (2, .int (nI n)), (3, .int x9), (5, .int (nI (48 * d + hn_pc (hn_num h n) (D9 d))))]) hx hb dM_add_142 hl (by decide) rfl (fun ls hl => ?_)
              suffices loop2 : ∀ (f k : Nat) (τ5 : Nat → Nat → Int32) (H : Heap) (locs : List Loc), k + f = n → va_P D vwCl (hn_wM am cI τ5) H → va_D A (hn_wM am cI τ5) → va_S A s.heap H locs → (τ5 0 = τb 0 ∧ τ5 1 = τb 1 ∧ τ5 2 = τb 2 ∧ τ5 3 = τb 3 ∧ τ5 4 = τb 4 ∧ τ5 6 = τb 6 ∧ (∀ j, j < k → τ5 5 (20 * (48 * d + hn_pc (hn_num h n) (D9 d)) + j) = nI (h j)) ∧ ∀ q, ¬ (20 * (48 * d + hn_pc (hn_num h n) (D9 d)) ≤ q ∧ q < 20 * (48 * d + hn_pc (hn_num h n) (D9 d)) + 20) → τ5 5 q = τb 5 q) → ∀ ls : Array Slot, lv_has ls 7 [(0, .ref (am 0)), (1, .int (nI d)), (2, .int (nI n)), (5, .int (nI (48 * d + hn_pc (hn_num h n) (D9 d)))), (6, .int (nI k))] → W p l e (headSpec wM_add ({ frames := 2, cells := 0, slots := 0, locals := 47 })).room s m [.ref (am 0), .int (nI d), .int (nI n), .int x9].toArray below meth c H locs 0 0 (MQ below (va_Qi (fun (r : Int32) (τ9 : Nat → Nat → Int32) => ∃ (c : Nat) (D8 : Nat → List hn_E), hn_addS h D9 (nI d) (nI n) x9 c r D8 ∧ τ9 0 0 = nI c ∧ hn_MH τ9 h tn TK ∧ hn_MD τ9 D8 ∧ hn_DO D8) (fun (τ9 : Nat → Nat → Int32) t => hn_at D (hn_ty cI cL) A (hn_wM am cI (τ9)) t) A) [.ref (am 0), .int (nI d), .int (nI n), .int x9].toArray s 0 0 A) (F0 m 144 ls []) from loop2 n 0 τb _ _ (Nat.zero_add _) hP hD hS ⟨rfl, rfl, rfl, rfl, rfl, rfl, fun j z => absurd z (Nat.not_lt_zero _), fun q _ => rfl⟩ ls (lv_sub hl [1, 2, 3, 5, 0] rfl)
              have hh1 : ∀ k, k < 20 → τ3 1 k = nI (h k) := by rw [hI.2.1]; exact hH1.1
              intro f
              induction f with
              | zero =>
                intro k τ5 H locs hf hP hD hS hJ ls hl
                have hf : n = k := by omega
                subst hf
                refine lv_iload hx hb dM_add_144 (lv_at hl 4 rfl) ?_
                refine lv_iload_n hx hb dM_add_146 rfl (lv_at hl 2 rfl) ?_
                refine lv_icmp_ge (tgt := 176) hx hb dM_add_147 (by decide) (fun c_75 => ?_) (fun c_75 => absurd (Int32.le_refl _) c_75)
                obtain ⟨j0, j1, j2, j3, j4, j6, j5, j7⟩ := hJ
                have hcnt : τ5 2 d = nI (D9 d).length := by rw [j2, eτb, eτa]; show τ3 2 d = _; rw [hI.2.2.1]; exact (hM1 d hd).1
                refine lv_aload_n hx hb dM_add_176 rfl (lv_at hl 0 rfl) ?_
                refine va_get (D := D) (ci := 1) (v := .ref (am 2)) (C := RM) (T := FM) (N := 8) hx hb hts iM hown hK hP 0 rfl rfl 2 (by decide) (hts _ mM_f_many) (fun _ h9 => h9) rfl dM_add_177 ?_
                refine lv_iload_n hx hb dM_add_180 rfl (lv_at hl 1 rfl) ?_
                refine lv_dup2_11 hx hb dM_add_181 rfl rfl ?_
                refine va_iald hx hb hK hP 2 0 rfl rfl (vp_in_nI (show d < 8 from hd) (by omega)) dM_add_182 ?_
                rw [nI_clamp (show d < 2 ^ 31 by omega)]
                rw [show τ5 2 d = nI (D9 d).length from hcnt]
                refine lv_iconst (v := 1) hx hb dM_add_183 (by decide) ?_
                refine lv_iadd hx hb dM_add_184 ?_
                rw [show ((nI (D9 d).length) + 1 : Int32) = nI ((D9 d).length + 1) from nI_1 _]
                refine va_iast hx hb hK hP hD hS 2 0 rfl rfl (vp_in_nI (show d < 8 from hd) (by omega)) dM_add_185 (fun H locs hP hD hS => ?_)
                rw [nI_clamp (show d < 2 ^ 31 by omega)] at hP hD
                obtain ⟨τ6, eτ6⟩ : ∃ z : Nat → Nat → Int32, z = hn_up (τ5) 2 (upd (τ5 2) d (nI ((D9 d).length + 1))) := ⟨_, rfl⟩
                have hP : va_P D vwCl (hn_wM am cI (τ6)) H := by rw [eτ6]; exact hP
                have hD : va_D A (hn_wM am cI (τ6)) := by rw [eτ6]; exact hD
                refine lv_aload_n hx hb dM_add_186 rfl (lv_at hl 0 rfl) ?_
                refine va_get (D := D) (ci := 1) (v := .ref (am 2)) (C := RM) (T := FM) (N := 8) hx hb hts iM hown hK hP 0 rfl rfl 2 (by decide) (hts _ mM_f_many) (fun _ h9 => h9) rfl dM_add_187 ?_
                refine lv_iload_n hx hb dM_add_190 rfl (lv_at hl 1 rfl) ?_
                refine va_iald hx hb hK hP 2 0 rfl rfl (vp_in_nI (show d < 8 from hd) (by omega)) dM_add_191 ?_
                rw [nI_clamp (show d < 2 ^ 31 by omega)]
                rw [show τ6 2 d = nI ((D9 d).length + 1) from by rw [eτ6]; exact pk_us]
                have hF2 : τ6 2 = upd (τ1 2) d (nI ((D9 d).length + 1)) := by rw [eτ6]; show upd (τ5 2) d _ = _; rw [j2, eτb, eτa]; show upd (τ3 2) d _ = _; rw [hI.2.2.1]
                have hF3 : τ6 3 = upd (τ3 3) (48 * d + hn_pc (hn_num h n) (D9 d)) x9 := by rw [eτ6]; show τ5 3 = _; rw [j3, eτb, eτa]; rfl
                have hF4 : τ6 4 = upd (τ3 4) (48 * d + hn_pc (hn_num h n) (D9 d)) (nI n) := by rw [eτ6]; show τ5 4 = _; rw [j4, eτb, eτa]; rfl
                have hF6 : ∀ q, ¬ (20 * (48 * d + hn_pc (hn_num h n) (D9 d)) ≤ q ∧ q < 20 * (48 * d + hn_pc (hn_num h n) (D9 d)) + 20) → τ6 5 q = τ3 5 q := fun q hq => by rw [eτ6]; show τ5 5 q = _; rw [j7 q hq, eτb, eτa]; rfl
                obtain ⟨g1, g2⟩ := hn_add_M (K := hn_num h n) hO hM1 hd hH1.2.1 h1 h2 hz rfl hno hfull hI hF2 hF3 hF4 (fun j hj => by rw [eτ6]; exact j5 j hj) hF6
                have hF0 : τ6 0 = τ1 0 := by rw [eτ6]; show τ5 0 = _; rw [j0, eτb, eτa]; exact hI.1
                have hF1 : τ6 1 = τ1 1 := by rw [eτ6]; show τ5 1 = _; rw [j1, eτb, eτa]; exact hI.2.1
                have hF9 : τ6 6 = τ1 6 := by rw [eτ6]; show τ5 6 = _; rw [j6, eτb, eτa]; exact hI.2.2.2.1
                exact W.iret (v := (nI ((D9 d).length + 1))) hx hb hr (fun t9 ht9 hW9 => ⟨⟨nI ((D9 d).length + 1), τ6, rfl, ⟨0, hn_ud D9 d (hn_ei (hn_num h n, n, x9) (D9 d)), Or.inr ⟨d, n, hok, hi9, Or.inr ⟨rfl, hno, hfull, rfl, rfl⟩⟩, by rw [hF0]; exact hc1, hn_MH_keep hH1 (by rw [hF0]) hF1 hF9, g1, g2⟩, by rw [ht9]; exact hP, va_K.moved hW9.alike hK, hD⟩, hS.F ht9⟩) hS.2.2 dM_add_192
              | succ f ih2 =>
                intro k τ5 H locs hf hP hD hS hJ ls hl
                refine lv_iload hx hb dM_add_144 (lv_at hl 4 rfl) ?_
                refine lv_iload_n hx hb dM_add_146 rfl (lv_at hl 2 rfl) ?_
                refine lv_icmp_ge (tgt := 176) hx hb dM_add_147 (by decide) (fun c_76 => absurd c_76 (nI_ge (a := k) (b := n) (by omega) (by omega))) (fun c_76 => ?_)
                obtain ⟨j0, j1, j2, j3, j4, j6, j5, j7⟩ := hJ
                refine lv_aload_n hx hb dM_add_150 rfl (lv_at hl 0 rfl) ?_
                refine va_get (D := D) (ci := 1) (v := .ref (am 5)) (C := RM) (T := FM) (N := 8) hx hb hts iM hown hK hP 0 rfl rfl 5 (by decide) (hts _ mM_f_bytes) (fun _ h9 => h9) rfl dM_add_151 ?_
                refine lv_bipush (v := 20) hx hb dM_add_154 (by decide) ?_
                refine lv_iload hx hb dM_add_156 (lv_at hl 3 rfl) ?_
                refine lv_imul hx hb dM_add_158 ?_
                refine lv_iload hx hb dM_add_159 (lv_at hl 4 rfl) ?_
                refine lv_iadd hx hb dM_add_161 ?_
                rw [show ((20 * (nI (48 * d + hn_pc (hn_num h n) (D9 d)))) + (nI k) : Int32) = nI (20 * (48 * d + hn_pc (hn_num h n) (D9 d)) + k) from by rw [show (20 : Int32) = nI 20 from rfl, pk_mul, nI_add]]
                refine lv_aload_n hx hb dM_add_162 rfl (lv_at hl 0 rfl) ?_
                refine va_get (D := D) (ci := 1) (v := .ref (am 1)) (C := RM) (T := FM) (N := 8) hx hb hts iM hown hK hP 0 rfl rfl 1 (by decide) (hts _ mM_f_hand) (fun _ h9 => h9) rfl dM_add_163 ?_
                refine lv_iload hx hb dM_add_166 (lv_at hl 4 rfl) ?_
                refine va_iald hx hb hK hP 1 0 rfl rfl (vp_in_nI (show k < 20 from by omega) (by omega)) dM_add_168 ?_
                rw [nI_clamp (show k < 2 ^ 31 by omega)]
                rw [show τ5 1 k = nI (h k) from by rw [j1, eτb, eτa]; exact hh1 k (by omega)]
                refine va_iast hx hb hK hP hD hS 5 0 rfl rfl (vp_in_nI (show 20 * (48 * d + hn_pc (hn_num h n) (D9 d)) + k < 7680 from by omega) (by omega)) dM_add_169 (fun H locs hP hD hS => ?_)
                rw [nI_clamp (show 20 * (48 * d + hn_pc (hn_num h n) (D9 d)) + k < 2 ^ 31 by omega)] at hP hD
                obtain ⟨τ7, eτ7⟩ : ∃ z : Nat → Nat → Int32, z = hn_up (τ5) 5 (upd (τ5 5) (20 * (48 * d + hn_pc (hn_num h n) (D9 d)) + k) (nI (h k))) := ⟨_, rfl⟩
                have hP : va_P D vwCl (hn_wM am cI (τ7)) H := by rw [eτ7]; exact hP
                have hD : va_D A (hn_wM am cI (τ7)) := by rw [eτ7]; exact hD
                refine lv_iinc (v := nI (k + 1)) (lv' := [(6, .int (nI (k + 1))), (0, .ref (am 0)), (1, .int (nI d)), (2, .int (nI n)), (5, .int (nI (48 * d + hn_pc (hn_num h n) (D9 d))))]) hx hb dM_add_170 hl (k := 4) rfl (nI_1 k) (by decide) rfl (fun ls hl => ?_)
                refine lv_goto (tgt := 144) hx hb dM_add_173 (by decide) ?_
                exact ih2 (k + 1) τ7 H locs (by omega) hP hD hS (by rw [eτ7]; exact ⟨j0, j1, j2, j3, j4, j6, fun j hj => hn_ab1 j5 hj, fun q hq => by show upd (τ5 5) _ _ q = _; rw [pk_un (by omega)]; exact j7 q hq⟩) ls (lv_sub hl [1, 2, 3, 4, 0] rfl)
            | succ f ih =>
              intro τ3 H locs hf hP hD hS hI ls hl
              refine lv_iload hx hb dM_add_102 (lv_at hl 5 rfl) ?_
              refine lv_iload hx hb dM_add_104 (lv_at hl 4 rfl) ?_
              refine lv_icmp_le (tgt := 125) hx hb dM_add_106 (by decide) (fun c_77 => absurd c_77 (nI_ge (a := 48 * d + hn_pc (hn_num h n) (D9 d)) (b := 48 * d + (hn_pc (hn_num h n) (D9 d) + (f + 1))) (by omega) (by omega))) (fun c_77 => ?_)
              refine lv_aload_n hx hb dM_add_109 rfl (lv_at hl 0 rfl) ?_
              refine lv_iload hx hb dM_add_110 (lv_at hl 5 rfl) ?_
              refine lv_iconst (v := 1) hx hb dM_add_112 (by decide) ?_
              refine lv_isub hx hb dM_add_113 ?_
              rw [show ((nI (48 * d + (hn_pc (hn_num h n) (D9 d) + (f + 1)))) - 1 : Int32) = nI (48 * d + (hn_pc (hn_num h n) (D9 d) + f)) from nI_pred (48 * d + (hn_pc (hn_num h n) (D9 d) + f))]
              refine lv_iload hx hb dM_add_114 (lv_at hl 5 rfl) ?_
              try dsimp only
              have hFc := va_free (wc := hn_wM am cI (τ3)) hD hS hA [0, 1, 2, 3, 4, 5, 6] rfl
              refine va_callv (va_runV (As := [.int (nI (48 * d + (hn_pc (hn_num h n) (D9 d) + f))), .int (nI (48 * d + (hn_pc (hn_num h n) (D9 d) + f) + 1))]) (rest := []) ⟨hx, hb, hml, hown, hts⟩ (cM_move_ok l D cI cL am τ3 (48 * d + (hn_pc (hn_num h n) (D9 d) + f)) (48 * d + (hn_pc (hn_num h n) (D9 d) + f) + 1) (by omega) (by omega) (by omega) _) (cwV 2 hts gM_M_move rfl rfl rfl (by decide +kernel) ⟨Nat.le_of_ble_eq_true rfl, Nat.le_of_ble_eq_true rfl⟩) (hn_preVW hP hK hD (ci := 1) (q0 := 0) rfl rfl) rfl rfl hl.1 rfl (lv_room (Nat.le_of_ble_eq_true rfl)) dM_add_116 ⟨Nat.zero_le _, Nat.zero_le _⟩) hS (fun q _ h => hFc q h) hFc (fun τ4 t8 H1 locs ht hvm hw hB hz1 hk1 hS => ?_)
              obtain ⟨hP1, hK1, hD1⟩ := hB
              rw [ht] at hP1
              have hD : va_D A (hn_wM am cI (τ4)) := hD1.weaken (fun _ q _ h => hFc q.1 h)
              have hP : va_P D vwCl (hn_wM am cI (τ4)) H1 := hP1
              generalize H1 = H at hP hS ⊢
              try dsimp only at hw
              refine lv_iinc (v := nI (48 * d + (hn_pc (hn_num h n) (D9 d) + f))) (lv' := [(6, .int (nI (48 * d + (hn_pc (hn_num h n) (D9 d) + f)))), (0, .ref (am 0)), (1, .int (nI d)), (2, .int (nI n)), (3, .int x9), (5, .int (nI (48 * d + hn_pc (hn_num h n) (D9 d))))]) hx hb dM_add_119 hl (k := 5) rfl (pk_m1 (48 * d + (hn_pc (hn_num h n) (D9 d) + f))) (by decide) rfl (fun ls hl => ?_)
              refine lv_goto (tgt := 102) hx hb dM_add_122 (by decide) ?_
              exact ih τ4 H locs (by omega) hP hD hS (hn_iv1_s hI hw (by omega) (by omega) (hO d hd).2.2) ls (lv_sub hl [1, 2, 3, 4, 5, 0] rfl)
          · skip
            refine lv_iconst (v := 1) hx hb dM_add_76 (by decide) ?_
            refine lv_goto (tgt := 81) hx hb dM_add_77 (by decide) ?_
            have hFc := va_free (wc := hn_wM am cI (τ)) hD hS hA [0, 1, 2, 3, 4, 5, 6] rfl
            refine va_calli (va_runV (As := [.int 0, .int 1]) (rest := []) ⟨hx, hb, hml, hown, hts⟩ (cM_throwing_ok l D cI cL am (τ) 0 1 _) (cwV 2 hts gM_M_throwing rfl rfl rfl (by decide +kernel) ⟨Nat.le_of_ble_eq_true rfl, Nat.le_of_ble_eq_true rfl⟩) (hn_preVW hP hK hD (ci := 1) (q0 := 0) rfl rfl) rfl rfl hl.1 rfl (lv_room (Nat.le_of_ble_eq_true rfl)) dM_add_81 ⟨Nat.zero_le _, Nat.zero_le _⟩) hS (fun q _ h => hFc q h) hFc (fun r9 τ1 t8 H1 locs ht hvm hw hB hz1 hk1 hS => ?_)
            obtain ⟨hP1, hK1, hD1⟩ := hB
            rw [ht] at hP1
            have hD : va_D A (hn_wM am cI (τ1)) := hD1.weaken (fun _ q _ h => hFc q.1 h)
            have hP : va_P D vwCl (hn_wM am cI (τ1)) H1 := hP1
            generalize H1 = H at hP hS ⊢
            try dsimp only at hw
            obtain ⟨hw1, hw2⟩ := hn_thr2 hw rfl (by decide)
            subst hw1
            have hH1 : hn_MH τ1 h tn TK := by rw [hw2]; exact hn_MH_keep hH rfl rfl rfl
            have hM1 : hn_MD τ1 D9 := by rw [hw2]; exact hn_MD_keep hM rfl rfl rfl rfl
            have hc1 : τ1 0 0 = nI 2 := by rw [hw2]; show upd (τ 0) 0 2 0 = nI 2; rw [pk_us]; rfl
            have hR1 : hn_MR τ1 h D9 tn (hn_kb TK) := hn_MR_iff.mpr ⟨hH1, hM1⟩
            refine lv_if_eq (tgt := 89) hx hb dM_add_84 (by decide) (fun c_78 => absurd c_78 (by decide)) (fun c_78 => ?_)
            refine lv_iconst (v := 0) hx hb dM_add_87 (by decide) ?_
            exact W.iret (v := 0) hx hb hr (fun t9 ht9 hW9 => ⟨⟨0, τ1, rfl, ⟨2, D9, Or.inr ⟨d, n, hok, hi9, Or.inl ⟨rfl, rfl, Or.inr ((nI_eq (a := (D9 d).length) (b := 48) (by omega) (by decide)).mp c_72)⟩⟩, hc1, hH1, hM1, hO⟩, by rw [ht9]; exact hP, va_K.moved hW9.alike hK, hD⟩, hS.F ht9⟩) hS.2.2 dM_add_88
      · subst e9
        refine lv_if_ne (tgt := 26) hx hb dM_add_19 (by decide) (fun c_79 => absurd rfl c_79) (fun c_79 => ?_)
        refine lv_iconst (v := 1) hx hb dM_add_22 (by decide) ?_
        refine lv_goto (tgt := 27) hx hb dM_add_23 (by decide) ?_
        refine lv_istore (lv' := [(4, .int 1), (0, .ref (am 0)), (1, .int d9), (2, .int n9), (3, .int x9)]) hx hb dM_add_27 hl (by decide) rfl (fun ls hl => ?_)
        refine lv_iload hx hb dM_add_29 (lv_at hl 0 rfl) ?_
        refine lv_if_eq (tgt := 38) hx hb dM_add_31 (by decide) (fun c_80 => absurd c_80 (by decide)) (fun c_80 => ?_)
        refine lv_iconst (v := 0) hx hb dM_add_34 (by decide) ?_
        refine lv_goto (tgt := 44) hx hb dM_add_35 (by decide) ?_
        refine lv_istore (lv' := [(5, .int 0), (4, .int 1), (0, .ref (am 0)), (1, .int d9), (2, .int n9), (3, .int x9)]) hx hb dM_add_44 hl (by decide) rfl (fun ls hl => ?_)
        refine lv_aload_n hx hb dM_add_46 rfl (lv_at hl 2 rfl) ?_
        refine lv_iload hx hb dM_add_47 (lv_at hl 1 rfl) ?_
        refine lv_iload hx hb dM_add_49 (lv_at hl 1 rfl) ?_
        refine lv_if_ne (tgt := 80) hx hb dM_add_51 (by decide) (fun c_81 => ?_) (fun c_81 => absurd c_81 (by decide))
        refine lv_iconst (v := 0) hx hb dM_add_80 (by decide) ?_
        have hFc := va_free (wc := hn_wM am cI (τ)) hD hS hA [0, 1, 2, 3, 4, 5, 6] rfl
        refine va_calli (va_runV (As := [.int 1, .int 0]) (rest := []) ⟨hx, hb, hml, hown, hts⟩ (cM_throwing_ok l D cI cL am (τ) 1 0 _) (cwV 2 hts gM_M_throwing rfl rfl rfl (by decide +kernel) ⟨Nat.le_of_ble_eq_true rfl, Nat.le_of_ble_eq_true rfl⟩) (hn_preVW hP hK hD (ci := 1) (q0 := 0) rfl rfl) rfl rfl hl.1 rfl (lv_room (Nat.le_of_ble_eq_true rfl)) dM_add_81 ⟨Nat.zero_le _, Nat.zero_le _⟩) hS (fun q _ h => hFc q h) hFc (fun r9 τ1 t8 H1 locs ht hvm hw hB hz1 hk1 hS => ?_)
        obtain ⟨hP1, hK1, hD1⟩ := hB
        rw [ht] at hP1
        have hD : va_D A (hn_wM am cI (τ1)) := hD1.weaken (fun _ q _ h => hFc q.1 h)
        have hP : va_P D vwCl (hn_wM am cI (τ1)) H1 := hP1
        generalize H1 = H at hP hS ⊢
        try dsimp only at hw
        obtain ⟨hw1, hw2⟩ := hn_thr1 hw rfl
        subst hw1
        have hH1 : hn_MH τ1 h tn TK := by rw [hw2]; exact hn_MH_keep hH rfl rfl rfl
        have hM1 : hn_MD τ1 D9 := by rw [hw2]; exact hn_MD_keep hM rfl rfl rfl rfl
        have hc1 : τ1 0 0 = nI 1 := by rw [hw2]; show upd (τ 0) 0 1 0 = nI 1; rw [pk_us]; rfl
        have hR1 : hn_MR τ1 h D9 tn (hn_kb TK) := hn_MR_iff.mpr ⟨hH1, hM1⟩
        refine lv_if_eq (tgt := 89) hx hb dM_add_84 (by decide) (fun c_82 => absurd c_82 (by decide)) (fun c_82 => ?_)
        refine lv_iconst (v := 0) hx hb dM_add_87 (by decide) ?_
        exact W.iret (v := 0) hx hb hr (fun t9 ht9 hW9 => ⟨⟨0, τ1, rfl, ⟨1, D9, Or.inl ⟨rfl, rfl, fun z => hi9 z.2.2⟩, hc1, hH1, hM1, hO⟩, by rw [ht9]; exact hP, va_K.moved hW9.alike hK, hD⟩, hS.F ht9⟩) hS.2.2 dM_add_88
    · subst e9
      refine lv_if_eq (tgt := 22) hx hb dM_add_12 (by decide) (fun c_83 => ?_) (fun c_83 => absurd rfl c_83)
      refine lv_iconst (v := 1) hx hb dM_add_22 (by decide) ?_
      refine lv_goto (tgt := 27) hx hb dM_add_23 (by decide) ?_
      refine lv_istore (lv' := [(4, .int 1), (0, .ref (am 0)), (1, .int d9), (2, .int n9), (3, .int x9)]) hx hb dM_add_27 hl (by decide) rfl (fun ls hl => ?_)
      refine lv_iload hx hb dM_add_29 (lv_at hl 0 rfl) ?_
      refine lv_if_eq (tgt := 38) hx hb dM_add_31 (by decide) (fun c_84 => absurd c_84 (by decide)) (fun c_84 => ?_)
      refine lv_iconst (v := 0) hx hb dM_add_34 (by decide) ?_
      refine lv_goto (tgt := 44) hx hb dM_add_35 (by decide) ?_
      refine lv_istore (lv' := [(5, .int 0), (4, .int 1), (0, .ref (am 0)), (1, .int d9), (2, .int n9), (3, .int x9)]) hx hb dM_add_44 hl (by decide) rfl (fun ls hl => ?_)
      refine lv_aload_n hx hb dM_add_46 rfl (lv_at hl 2 rfl) ?_
      refine lv_iload hx hb dM_add_47 (lv_at hl 1 rfl) ?_
      refine lv_iload hx hb dM_add_49 (lv_at hl 1 rfl) ?_
      refine lv_if_ne (tgt := 80) hx hb dM_add_51 (by decide) (fun c_85 => ?_) (fun c_85 => absurd c_85 (by decide))
      refine lv_iconst (v := 0) hx hb dM_add_80 (by decide) ?_
      have hFc := va_free (wc := hn_wM am cI (τ)) hD hS hA [0, 1, 2, 3, 4, 5, 6] rfl
      refine va_calli (va_runV (As := [.int 1, .int 0]) (rest := []) ⟨hx, hb, hml, hown, hts⟩ (cM_throwing_ok l D cI cL am (τ) 1 0 _) (cwV 2 hts gM_M_throwing rfl rfl rfl (by decide +kernel) ⟨Nat.le_of_ble_eq_true rfl, Nat.le_of_ble_eq_true rfl⟩) (hn_preVW hP hK hD (ci := 1) (q0 := 0) rfl rfl) rfl rfl hl.1 rfl (lv_room (Nat.le_of_ble_eq_true rfl)) dM_add_81 ⟨Nat.zero_le _, Nat.zero_le _⟩) hS (fun q _ h => hFc q h) hFc (fun r9 τ1 t8 H1 locs ht hvm hw hB hz1 hk1 hS => ?_)
      obtain ⟨hP1, hK1, hD1⟩ := hB
      rw [ht] at hP1
      have hD : va_D A (hn_wM am cI (τ1)) := hD1.weaken (fun _ q _ h => hFc q.1 h)
      have hP : va_P D vwCl (hn_wM am cI (τ1)) H1 := hP1
      generalize H1 = H at hP hS ⊢
      try dsimp only at hw
      obtain ⟨hw1, hw2⟩ := hn_thr1 hw rfl
      subst hw1
      have hH1 : hn_MH τ1 h tn TK := by rw [hw2]; exact hn_MH_keep hH rfl rfl rfl
      have hM1 : hn_MD τ1 D9 := by rw [hw2]; exact hn_MD_keep hM rfl rfl rfl rfl
      have hc1 : τ1 0 0 = nI 1 := by rw [hw2]; show upd (τ 0) 0 1 0 = nI 1; rw [pk_us]; rfl
      have hR1 : hn_MR τ1 h D9 tn (hn_kb TK) := hn_MR_iff.mpr ⟨hH1, hM1⟩
      refine lv_if_eq (tgt := 89) hx hb dM_add_84 (by decide) (fun c_86 => absurd c_86 (by decide)) (fun c_86 => ?_)
      refine lv_iconst (v := 0) hx hb dM_add_87 (by decide) ?_
      exact W.iret (v := 0) hx hb hr (fun t9 ht9 hW9 => ⟨⟨0, τ1, rfl, ⟨1, D9, Or.inl ⟨rfl, rfl, fun z => hn9 z.2.1⟩, hc1, hH1, hM1, hO⟩, by rw [ht9]; exact hP, va_K.moved hW9.alike hK, hD⟩, hS.F ht9⟩) hS.2.2 dM_add_88
  · subst e9
    refine lv_if_eq (tgt := 22) hx hb dM_add_4 (by decide) (fun c_87 => ?_) (fun c_87 => absurd rfl c_87)
    refine lv_iconst (v := 1) hx hb dM_add_22 (by decide) ?_
    refine lv_goto (tgt := 27) hx hb dM_add_23 (by decide) ?_
    refine lv_istore (lv' := [(4, .int 1), (0, .ref (am 0)), (1, .int d9), (2, .int n9), (3, .int x9)]) hx hb dM_add_27 hl (by decide) rfl (fun ls hl => ?_)
    refine lv_iload hx hb dM_add_29 (lv_at hl 0 rfl) ?_
    refine lv_if_eq (tgt := 38) hx hb dM_add_31 (by decide) (fun c_88 => absurd c_88 (by decide)) (fun c_88 => ?_)
    refine lv_iconst (v := 0) hx hb dM_add_34 (by decide) ?_
    refine lv_goto (tgt := 44) hx hb dM_add_35 (by decide) ?_
    refine lv_istore (lv' := [(5, .int 0), (4, .int 1), (0, .ref (am 0)), (1, .int d9), (2, .int n9), (3, .int x9)]) hx hb dM_add_44 hl (by decide) rfl (fun ls hl => ?_)
    refine lv_aload_n hx hb dM_add_46 rfl (lv_at hl 2 rfl) ?_
    refine lv_iload hx hb dM_add_47 (lv_at hl 1 rfl) ?_
    refine lv_iload hx hb dM_add_49 (lv_at hl 1 rfl) ?_
    refine lv_if_ne (tgt := 80) hx hb dM_add_51 (by decide) (fun c_89 => ?_) (fun c_89 => absurd c_89 (by decide))
    refine lv_iconst (v := 0) hx hb dM_add_80 (by decide) ?_
    have hFc := va_free (wc := hn_wM am cI (τ)) hD hS hA [0, 1, 2, 3, 4, 5, 6] rfl
    refine va_calli (va_runV (As := [.int 1, .int 0]) (rest := []) ⟨hx, hb, hml, hown, hts⟩ (cM_throwing_ok l D cI cL am (τ) 1 0 _) (cwV 2 hts gM_M_throwing rfl rfl rfl (by decide +kernel) ⟨Nat.le_of_ble_eq_true rfl, Nat.le_of_ble_eq_true rfl⟩) (hn_preVW hP hK hD (ci := 1) (q0 := 0) rfl rfl) rfl rfl hl.1 rfl (lv_room (Nat.le_of_ble_eq_true rfl)) dM_add_81 ⟨Nat.zero_le _, Nat.zero_le _⟩) hS (fun q _ h => hFc q h) hFc (fun r9 τ1 t8 H1 locs ht hvm hw hB hz1 hk1 hS => ?_)
    obtain ⟨hP1, hK1, hD1⟩ := hB
    rw [ht] at hP1
    have hD : va_D A (hn_wM am cI (τ1)) := hD1.weaken (fun _ q _ h => hFc q.1 h)
    have hP : va_P D vwCl (hn_wM am cI (τ1)) H1 := hP1
    generalize H1 = H at hP hS ⊢
    try dsimp only at hw
    obtain ⟨hw1, hw2⟩ := hn_thr1 hw rfl
    subst hw1
    have hH1 : hn_MH τ1 h tn TK := by rw [hw2]; exact hn_MH_keep hH rfl rfl rfl
    have hM1 : hn_MD τ1 D9 := by rw [hw2]; exact hn_MD_keep hM rfl rfl rfl rfl
    have hc1 : τ1 0 0 = nI 1 := by rw [hw2]; show upd (τ 0) 0 1 0 = nI 1; rw [pk_us]; rfl
    have hR1 : hn_MR τ1 h D9 tn (hn_kb TK) := hn_MR_iff.mpr ⟨hH1, hM1⟩
    refine lv_if_eq (tgt := 89) hx hb dM_add_84 (by decide) (fun c_90 => absurd c_90 (by decide)) (fun c_90 => ?_)
    refine lv_iconst (v := 0) hx hb dM_add_87 (by decide) ?_
    exact W.iret (v := 0) hx hb hr (fun t9 ht9 hW9 => ⟨⟨0, τ1, rfl, ⟨1, D9, Or.inl ⟨rfl, rfl, fun z => hd9 z.1⟩, hc1, hH1, hM1, hO⟩, by rw [ht9]; exact hP, va_K.moved hW9.alike hK, hD⟩, hS.F ht9⟩) hS.2.2 dM_add_88

set_option maxHeartbeats 4000000 in
set_option maxRecDepth 100000 in
theorem cM_remove_ok (l : Launch) (D : va_G) (cI cL : ClassId) (am : Nat → Nat) (τ : Nat → Nat → Int32) (d9 n9 : Int32) (h : Nat → Nat) (D9 : Nat → List hn_E) (tn TK : Nat) (hH : hn_MH τ h tn TK) (hM : hn_MD τ D9) (hO : hn_DO D9)  (sz : Nat) : Met l yM_remove wM_remove ({ frames := 2, cells := 0, slots := 0, locals := 47 }) (hn_PW D (hn_ty cI cL) (hn_wM am cI (τ)) sz [.ref (am 0), .int d9, .int n9]) (va_Qi (fun (r : Int32) (τ9 : Nat → Nat → Int32) => ∃ (c : Nat) (D8 : Nat → List hn_E), hn_removeS h D9 d9 n9 c r D8 ∧ τ9 0 0 = nI c ∧ hn_MH τ9 h tn TK ∧ hn_MD τ9 D8 ∧ hn_DO D8) (fun (τ9 : Nat → Nat → Int32) t => hn_at D (hn_ty cI cL) (va_A (hn_wM am cI (τ)) sz) (hn_wM am cI (τ9)) t) (va_A (hn_wM am cI (τ)) sz)) 0 0 (va_A (hn_wM am cI (τ)) sz) := by
  refine Met.ofW (cc := cM_remove) (maxL := 7) (ret := (some .int)) (by decide) rfl ?_
  intro p e s m args below meth c s₁ B hml hv
  obtain ⟨rfl, hsz, hP, hK, hD0⟩ := hv
  subst hsz
  have hD := hD0.self (sz := s.heap.size)
  generalize hAe : va_A (hn_wM am cI (τ)) s.heap.size = A at hD ⊢
  have hA : ∀ q : Nat, s.heap.size ≤ q → A q := fun q h => by rw [← hAe]; exact Or.inr h
  have hS : va_S A s.heap s.heap [] := va_S.rf
  have hP : va_P D vwCl (hn_wM am cI (τ)) s.heap := hP
  have hx := B.exec
  have hb := B.bytes
  have hr := B.returns
  have hts0 := atoms_spec (ws := wM_remove) B.pre
  have hts : ∀ w ∈ hn_tb, w.before _ s = true := fun w hw => hts0 w (List.mem_cons_of_mem _ hw)
  have hown : s.vm.findClass RM = some m.cls := findClass_of_methodNamed B.named
  have hlocks := B.notSynchronized
  have hl := lv_entry [.ref (am 0), .int d9, .int n9] (n := 7) (Nat.le_of_ble_eq_true rfl)
  rw [lg_entry_eq]
  generalize (lg_sl [.ref (am 0), .int d9, .int n9] ++ List.replicate (7 - (lg_sl [.ref (am 0), .int d9, .int n9]).length) Slot.unset).toArray = ls at hl ⊢
  have hl : lv_has ls 7 [(0, .ref (am 0)), (1, .int d9), (2, .int n9)] := hl
  refine lv_iload_n hx hb dM_remove_0 rfl (lv_at hl 1 rfl) ?_
  refine hn_callE (W.runS (As := [.int d9]) (rest := []) ⟨hx, hb, hml, hown, hts⟩ (cM_isDirectory_ok l d9) (cwS 1 hts gM_M_isDirectory rfl rfl rfl (by decide +kernel) ⟨Nat.le_of_ble_eq_true rfl, Nat.le_of_ble_eq_true rfl⟩) hn_pre0 rfl rfl hl.1 rfl (lv_room (Nat.le_of_ble_eq_true rfl)) dM_remove_1 ⟨Nat.zero_le _, Nat.zero_le _⟩) (fun r_91 hr_91 => ?_)
  refine W.eq (g2 := F0 m 4 ls [.int r_91]) rfl ?_
  rcases hr_91 with ⟨e9, hd9⟩ | ⟨e9, hd9⟩
  · subst e9
    refine lv_if_eq (tgt := 15) hx hb dM_remove_4 (by decide) (fun c_92 => absurd c_92 (by decide)) (fun c_92 => ?_)
    refine lv_aload_n hx hb dM_remove_7 rfl (lv_at hl 0 rfl) ?_
    refine lv_iload_n hx hb dM_remove_8 rfl (lv_at hl 2 rfl) ?_
    refine hn_callE (W.runV (As := [.int n9]) (rest := []) ⟨hx, hb, hml, hown, hts⟩ (cM_isName_ok l D cI cL am (τ) h hH.1 hH.2.1 n9) (cwV 1 hts gM_M_isName rfl rfl rfl (by decide +kernel) ⟨Nat.le_of_ble_eq_true rfl, Nat.le_of_ble_eq_true rfl⟩) (hn_preV hP hK (ci := 1) (q0 := 0) rfl rfl) rfl rfl hl.1 rfl (lv_room (Nat.le_of_ble_eq_true rfl)) dM_remove_9 ⟨Nat.zero_le _, Nat.zero_le _⟩) (fun r_93 hr_93 => ?_)
    refine W.eq (g2 := F0 m 12 ls [.int r_93]) rfl ?_
    rcases hr_93 with ⟨e9, hn9⟩ | ⟨e9, hn9⟩
    · subst e9
      refine lv_if_ne (tgt := 19) hx hb dM_remove_12 (by decide) (fun c_94 => ?_) (fun c_94 => absurd c_94 (by decide))
      obtain ⟨d, n, hok⟩ := hn_ok_of hd9 hn9
      obtain ⟨ed, hd, en, h1, h2, hz0⟩ := id hok
      have hz : ∀ k, k < n → h k ≠ 0 := fun k hk => (hz0 k hk).1
      subst ed
      subst en
      have hR0 : hn_MR τ h D9 tn (hn_kb TK) := hn_MR_iff.mpr ⟨hH, hM⟩
      refine lv_iconst (v := 0) hx hb dM_remove_19 (by decide) ?_
      refine lv_istore_n (lv' := [(3, .int 0), (0, .ref (am 0)), (1, .int (nI d)), (2, .int (nI n))]) hx hb dM_remove_20 rfl hl (by decide) rfl (fun ls hl => ?_)
      refine lv_iload_n hx hb dM_remove_21 rfl (lv_at hl 0 rfl) ?_
      refine lv_if_eq (tgt := 29) hx hb dM_remove_22 (by decide) (fun c_95 => ?_) (fun c_95 => absurd rfl c_95)
      refine lv_aload_n hx hb dM_remove_29 rfl (lv_at hl 1 rfl) ?_
      refine lv_iload_n hx hb dM_remove_30 rfl (lv_at hl 2 rfl) ?_
      refine lv_iload_n hx hb dM_remove_31 rfl (lv_at hl 3 rfl) ?_
      refine W.callR (W.runV (As := [.int (nI d), .int (nI n)]) (rest := []) ⟨hx, hb, hml, hown, hts⟩ (cM_place_ok l D cI cL am τ h D9 tn (hn_kb TK) hR0 hO d hd n h1 h2 hz) (cwV 2 hts gM_M_place rfl rfl rfl (by decide +kernel) ⟨Nat.le_of_ble_eq_true rfl, Nat.le_of_ble_eq_true rfl⟩) (hn_preV hP hK (ci := 1) (q0 := 0) rfl rfl) rfl rfl hl.1 rfl (lv_room (Nat.le_of_ble_eq_true rfl)) dM_remove_32 ⟨Nat.zero_le _, Nat.zero_le _⟩) ?_
      refine W.eq (g2 := F0 m 35 ls [.int (nI (48 * d + hn_pc (hn_num h n) (D9 d)))]) rfl ?_
      refine lv_istore (lv' := [(4, .int (nI (48 * d + hn_pc (hn_num h n) (D9 d)))), (3, .int 0), (0, .ref (am 0)), (1, .int (nI d)), (2, .int (nI n))]) hx hb dM_remove_35 hl (by decide) rfl (fun ls hl => ?_)
      refine lv_aload_n hx hb dM_remove_37 rfl (lv_at hl 2 rfl) ?_
      refine lv_iload_n hx hb dM_remove_38 rfl (lv_at hl 1 rfl) ?_
      refine lv_iload_n hx hb dM_remove_39 rfl (lv_at hl 1 rfl) ?_
      refine lv_if_ne (tgt := 58) hx hb dM_remove_40 (by decide) (fun c_96 => absurd rfl c_96) (fun c_96 => ?_)
      refine lv_aload_n hx hb dM_remove_43 rfl (lv_at hl 2 rfl) ?_
      refine lv_iload hx hb dM_remove_44 (lv_at hl 0 rfl) ?_
      refine lv_iload_n hx hb dM_remove_46 rfl (lv_at hl 3 rfl) ?_
      refine lv_iload_n hx hb dM_remove_47 rfl (lv_at hl 4 rfl) ?_
      have hpc := hn_pc_le (hn_num h n) (D9 d)
      have hlen := (hO d hd).2.1
      refine hn_callE (W.runV (As := [.int (nI (48 * d + hn_pc (hn_num h n) (D9 d))), .int (nI d), .int (nI n)]) (rest := [.int 0, .ref (am 0)]) ⟨hx, hb, hml, hown, hts⟩ (cM_isAt_ok l D cI cL am τ h D9 tn (hn_kb TK) hR0 hO d hd n h1 h2 hz (hn_pc (hn_num h n) (D9 d)) (by omega)) (cwV 3 hts gM_M_isAt rfl rfl rfl (by decide +kernel) ⟨Nat.le_of_ble_eq_true rfl, Nat.le_of_ble_eq_true rfl⟩) (hn_preV hP hK (ci := 1) (q0 := 0) rfl rfl) rfl rfl hl.1 rfl (lv_room (Nat.le_of_ble_eq_true rfl)) dM_remove_48 ⟨Nat.zero_le _, Nat.zero_le _⟩) (fun r_97 hr_97 => ?_)
      refine W.eq (g2 := F0 m 51 ls [.int r_97, .int 0, .ref (am 0)]) rfl ?_
      rcases hr_97 with ⟨e9, ha9⟩ | ⟨e9, ha9⟩
      · subst e9
        refine lv_if_ne (tgt := 58) hx hb dM_remove_51 (by decide) (fun c_98 => ?_) (fun c_98 => absurd c_98 (by decide))
        refine lv_iconst (v := 0) hx hb dM_remove_58 (by decide) ?_
        have hFc := va_free (wc := hn_wM am cI (τ)) hD hS hA [0, 1, 2, 3, 4, 5, 6] rfl
        refine va_calli (va_runV (As := [.int 0, .int 0]) (rest := []) ⟨hx, hb, hml, hown, hts⟩ (cM_throwing_ok l D cI cL am (τ) 0 0 _) (cwV 2 hts gM_M_throwing rfl rfl rfl (by decide +kernel) ⟨Nat.le_of_ble_eq_true rfl, Nat.le_of_ble_eq_true rfl⟩) (hn_preVW hP hK hD (ci := 1) (q0 := 0) rfl rfl) rfl rfl hl.1 rfl (lv_room (Nat.le_of_ble_eq_true rfl)) dM_remove_59 ⟨Nat.zero_le _, Nat.zero_le _⟩) hS (fun q _ h => hFc q h) hFc (fun r9 τ1 t8 H1 locs ht hvm hw hB hz1 hk1 hS => ?_)
        obtain ⟨hP1, hK1, hD1⟩ := hB
        rw [ht] at hP1
        have hD : va_D A (hn_wM am cI (τ1)) := hD1.weaken (fun _ q _ h => hFc q.1 h)
        have hP : va_P D vwCl (hn_wM am cI (τ1)) H1 := hP1
        generalize H1 = H at hP hS ⊢
        try dsimp only at hw
        obtain ⟨hw1, hw2⟩ := hn_thr0 hw rfl rfl
        subst hw1
        have hH1 : hn_MH τ1 h tn TK := by rw [hw2]; exact hn_MH_keep hH rfl rfl rfl
        have hM1 : hn_MD τ1 D9 := by rw [hw2]; exact hn_MD_keep hM rfl rfl rfl rfl
        have hc1 : τ1 0 0 = nI 0 := by rw [hw2]; show upd (τ 0) 0 0 0 = nI 0; rw [pk_us]; rfl
        have hR1 : hn_MR τ1 h D9 tn (hn_kb TK) := hn_MR_iff.mpr ⟨hH1, hM1⟩
        refine lv_if_eq (tgt := 67) hx hb dM_remove_62 (by decide) (fun c_99 => ?_) (fun c_99 => absurd rfl c_99)
        have hh9 := (hn_has_iff (hO d hd).1).mpr ha9
        have hp9 := ha9.1
        refine lv_aload_n hx hb dM_remove_67 rfl (lv_at hl 2 rfl) ?_
        refine va_get (D := D) (ci := 1) (v := .ref (am 3)) (C := RM) (T := FM) (N := 8) hx hb hts iM hown hK hP 0 rfl rfl 3 (by decide) (hts _ mM_f_id) (fun _ h9 => h9) rfl dM_remove_68 ?_
        refine lv_iload hx hb dM_remove_71 (lv_at hl 0 rfl) ?_
        refine va_iald hx hb hK hP 3 0 rfl rfl (vp_in_nI (show 48 * d + hn_pc (hn_num h n) (D9 d) < 384 from by omega) (by omega)) dM_remove_73 ?_
        rw [nI_clamp (show 48 * d + hn_pc (hn_num h n) (D9 d) < 2 ^ 31 by omega)]
        rw [show τ1 3 (48 * d + hn_pc (hn_num h n) (D9 d)) = ((D9 d).getD (hn_pc (hn_num h n) (D9 d)) hn_e0).2.2 from ((hM1 d hd).2 _ ha9.1).1]
        refine lv_istore (lv' := [(5, .int (((D9 d).getD (hn_pc (hn_num h n) (D9 d)) hn_e0).2.2)), (4, .int (nI (48 * d + hn_pc (hn_num h n) (D9 d)))), (3, .int 0), (0, .ref (am 0)), (1, .int (nI d)), (2, .int (nI n))]) hx hb dM_remove_74 hl (by decide) rfl (fun ls hl => ?_)
        refine lv_aload_n hx hb dM_remove_76 rfl (lv_at hl 3 rfl) ?_
        refine va_get (D := D) (ci := 1) (v := .ref (am 2)) (C := RM) (T := FM) (N := 8) hx hb hts iM hown hK hP 0 rfl rfl 2 (by decide) (hts _ mM_f_many) (fun _ h9 => h9) rfl dM_remove_77 ?_
        refine lv_iload_n hx hb dM_remove_80 rfl (lv_at hl 4 rfl) ?_
        refine lv_dup2_11 hx hb dM_remove_81 rfl rfl ?_
        refine va_iald hx hb hK hP 2 0 rfl rfl (vp_in_nI (show d < 8 from hd) (by omega)) dM_remove_82 ?_
        rw [nI_clamp (show d < 2 ^ 31 by omega)]
        rw [show τ1 2 d = nI (D9 d).length from (hM1 d hd).1]
        refine lv_iconst (v := 1) hx hb dM_remove_83 (by decide) ?_
        refine lv_isub hx hb dM_remove_84 ?_
        rw [show ((nI (D9 d).length) - 1 : Int32) = nI ((D9 d).length - 1) from pk_sub (b := 1) (by omega)]
        refine va_iast hx hb hK hP hD hS 2 0 rfl rfl (vp_in_nI (show d < 8 from hd) (by omega)) dM_remove_85 (fun H locs hP hD hS => ?_)
        rw [nI_clamp (show d < 2 ^ 31 by omega)] at hP hD
        obtain ⟨τ2, eτ2⟩ : ∃ z : Nat → Nat → Int32, z = hn_up (τ1) 2 (upd (τ1 2) d (nI ((D9 d).length - 1))) := ⟨_, rfl⟩
        have hP : va_P D vwCl (hn_wM am cI (τ2)) H := by rw [eτ2]; exact hP
        have hD : va_D A (hn_wM am cI (τ2)) := by rw [eτ2]; exact hD
        refine lv_iload hx hb dM_remove_86 (lv_at hl 1 rfl) ?_
        refine lv_istore (lv' := [(6, .int (nI (48 * d + hn_pc (hn_num h n) (D9 d)))), (5, .int (((D9 d).getD (hn_pc (hn_num h n) (D9 d)) hn_e0).2.2)), (4, .int (nI (48 * d + hn_pc (hn_num h n) (D9 d)))), (3, .int 0), (0, .ref (am 0)), (1, .int (nI d)), (2, .int (nI n))]) hx hb dM_remove_88 hl (by decide) rfl (fun ls hl => ?_)
        suffices loop : ∀ (f t : Nat) (τ3 : Nat → Nat → Int32) (H : Heap) (locs : List Loc), t + f = (D9 d).length - 1 → hn_pc (hn_num h n) (D9 d) ≤ t → va_P D vwCl (hn_wM am cI τ3) H → va_D A (hn_wM am cI τ3) → va_S A s.heap H locs → hn_iv3 τ2 τ3 d (hn_num h n) (D9 d) t → ∀ ls : Array Slot, lv_has ls 7 [(0, .ref (am 0)), (1, .int (nI d)), (5, .int (((D9 d).getD (hn_pc (hn_num h n) (D9 d)) hn_e0).2.2)), (6, .int (nI (48 * d + t)))] → W p l e (headSpec wM_remove ({ frames := 2, cells := 0, slots := 0, locals := 47 })).room s m [.ref (am 0), .int (nI d), .int (nI n)].toArray below meth c H locs 0 0 (MQ below (va_Qi (fun (r : Int32) (τ9 : Nat → Nat → Int32) => ∃ (c : Nat) (D8 : Nat → List hn_E), hn_removeS h D9 (nI d) (nI n) c r D8 ∧ τ9 0 0 = nI c ∧ hn_MH τ9 h tn TK ∧ hn_MD τ9 D8 ∧ hn_DO D8) (fun (τ9 : Nat → Nat → Int32) t => hn_at D (hn_ty cI cL) A (hn_wM am cI (τ9)) t) A) [.ref (am 0), .int (nI d), .int (nI n)].toArray s 0 0 A) (F0 m 90 ls []) from loop ((D9 d).length - 1 - hn_pc (hn_num h n) (D9 d)) (hn_pc (hn_num h n) (D9 d)) τ2 _ _ (by omega) (Nat.le_refl _) hP hD hS (hn_iv3_0 (fun j hj => hn_sl_keep ((hM1 d hd).2 j hj) ((hO d hd).2.2 _ (hn_getD_mem hj)).2.1 (by rw [eτ2]; rfl) (by rw [eτ2]; rfl) (fun k _ => by rw [eτ2]; rfl)) (hO d hd).1 hh9) ls (lv_sub hl [4, 5, 1, 0] rfl)
        intro f
        induction f with
        | zero =>
          intro t τ3 H locs hf hpt hP hD hS hI ls hl
          refine lv_iload hx hb dM_remove_90 (lv_at hl 3 rfl) ?_
          refine lv_bipush (v := 48) hx hb dM_remove_92 (by decide) ?_
          refine lv_iload_n hx hb dM_remove_94 rfl (lv_at hl 1 rfl) ?_
          refine lv_imul hx hb dM_remove_95 ?_
          rw [show (48 * (nI d) : Int32) = nI (48 * d) from pk_mul 48 d]
          refine lv_aload_n hx hb dM_remove_96 rfl (lv_at hl 0 rfl) ?_
          refine va_get (D := D) (ci := 1) (v := .ref (am 2)) (C := RM) (T := FM) (N := 8) hx hb hts iM hown hK hP 0 rfl rfl 2 (by decide) (hts _ mM_f_many) (fun _ h9 => h9) rfl dM_remove_97 ?_
          refine lv_iload_n hx hb dM_remove_100 rfl (lv_at hl 1 rfl) ?_
          refine va_iald hx hb hK hP 2 0 rfl rfl (vp_in_nI (show d < 8 from hd) (by omega)) dM_remove_101 ?_
          rw [nI_clamp (show d < 2 ^ 31 by omega)]
          rw [show τ3 2 d = nI ((D9 d).length - 1) from by rw [hI.2.2.1, eτ2]; exact pk_us]
          refine lv_iadd hx hb dM_remove_102 ?_
          rw [show ((nI (48 * d)) + (nI ((D9 d).length - 1)) : Int32) = nI (48 * d + ((D9 d).length - 1)) from nI_add _ _]
          refine lv_icmp_ge (tgt := 122) hx hb dM_remove_103 (by decide) (fun c_100 => ?_) (fun c_100 => absurd (nI_le (show 48 * d + ((D9 d).length - 1) ≤ 48 * d + t by omega) (by omega)) c_100)
          have hf : t = (D9 d).length - 1 := by omega
          rw [hf] at hI
          obtain ⟨g1, g2⟩ := hn_rem_M hO hM1 hd hh9 (by rw [eτ2]; rfl) (by rw [eτ2]; rfl) (by rw [eτ2]; rfl) (by rw [eτ2]; rfl) hI
          refine lv_iload hx hb dM_remove_122 (lv_at hl 2 rfl) ?_
          exact W.iret (v := (((D9 d).getD (hn_pc (hn_num h n) (D9 d)) hn_e0).2.2)) hx hb hr (fun t9 ht9 hW9 => ⟨⟨((D9 d).getD (hn_pc (hn_num h n) (D9 d)) hn_e0).2.2, τ3, rfl, ⟨0, hn_ud D9 d (hn_er (hn_num h n) (D9 d)), Or.inr ⟨d, n, hok, Or.inr ⟨rfl, hh9, rfl, rfl⟩⟩, by rw [hI.1, eτ2]; exact hc1, hn_MH_keep hH1 (by rw [hI.1, eτ2]; rfl) (by rw [hI.2.1, eτ2]; rfl) (by rw [hI.2.2.2.1, eτ2]; rfl), g1, g2⟩, by rw [ht9]; exact hP, va_K.moved hW9.alike hK, hD⟩, hS.F ht9⟩) hS.2.2 dM_remove_124
        | succ f ih =>
          intro t τ3 H locs hf hpt hP hD hS hI ls hl
          refine lv_iload hx hb dM_remove_90 (lv_at hl 3 rfl) ?_
          refine lv_bipush (v := 48) hx hb dM_remove_92 (by decide) ?_
          refine lv_iload_n hx hb dM_remove_94 rfl (lv_at hl 1 rfl) ?_
          refine lv_imul hx hb dM_remove_95 ?_
          rw [show (48 * (nI d) : Int32) = nI (48 * d) from pk_mul 48 d]
          refine lv_aload_n hx hb dM_remove_96 rfl (lv_at hl 0 rfl) ?_
          refine va_get (D := D) (ci := 1) (v := .ref (am 2)) (C := RM) (T := FM) (N := 8) hx hb hts iM hown hK hP 0 rfl rfl 2 (by decide) (hts _ mM_f_many) (fun _ h9 => h9) rfl dM_remove_97 ?_
          refine lv_iload_n hx hb dM_remove_100 rfl (lv_at hl 1 rfl) ?_
          refine va_iald hx hb hK hP 2 0 rfl rfl (vp_in_nI (show d < 8 from hd) (by omega)) dM_remove_101 ?_
          rw [nI_clamp (show d < 2 ^ 31 by omega)]
          rw [show τ3 2 d = nI ((D9 d).length - 1) from by rw [hI.2.2.1, eτ2]; exact pk_us]
          refine lv_iadd hx hb dM_remove_102 ?_
          rw [show ((nI (48 * d)) + (nI ((D9 d).length - 1)) : Int32) = nI (48 * d + ((D9 d).length - 1)) from nI_add _ _]
          refine lv_icmp_ge (tgt := 122) hx hb dM_remove_103 (by decide) (fun c_101 => absurd c_101 (nI_ge (a := 48 * d + t) (b := 48 * d + ((D9 d).length - 1)) (by omega) (by omega))) (fun c_101 => ?_)
          refine lv_aload_n hx hb dM_remove_106 rfl (lv_at hl 0 rfl) ?_
          refine lv_iload hx hb dM_remove_107 (lv_at hl 3 rfl) ?_
          refine lv_iconst (v := 1) hx hb dM_remove_109 (by decide) ?_
          refine lv_iadd hx hb dM_remove_110 ?_
          rw [show ((nI (48 * d + t)) + 1 : Int32) = nI (48 * d + t + 1) from nI_1 _]
          refine lv_iload hx hb dM_remove_111 (lv_at hl 3 rfl) ?_
          have hFc := va_free (wc := hn_wM am cI (τ3)) hD hS hA [0, 1, 2, 3, 4, 5, 6] rfl
          refine va_callv (va_runV (As := [.int (nI (48 * d + t + 1)), .int (nI (48 * d + t))]) (rest := []) ⟨hx, hb, hml, hown, hts⟩ (cM_move_ok l D cI cL am τ3 (48 * d + t + 1) (48 * d + t) (by omega) (by omega) (by omega) _) (cwV 2 hts gM_M_move rfl rfl rfl (by decide +kernel) ⟨Nat.le_of_ble_eq_true rfl, Nat.le_of_ble_eq_true rfl⟩) (hn_preVW hP hK hD (ci := 1) (q0 := 0) rfl rfl) rfl rfl hl.1 rfl (lv_room (Nat.le_of_ble_eq_true rfl)) dM_remove_113 ⟨Nat.zero_le _, Nat.zero_le _⟩) hS (fun q _ h => hFc q h) hFc (fun τ4 t8 H1 locs ht hvm hw hB hz1 hk1 hS => ?_)
          obtain ⟨hP1, hK1, hD1⟩ := hB
          rw [ht] at hP1
          have hD : va_D A (hn_wM am cI (τ4)) := hD1.weaken (fun _ q _ h => hFc q.1 h)
          have hP : va_P D vwCl (hn_wM am cI (τ4)) H1 := hP1
          generalize H1 = H at hP hS ⊢
          try dsimp only at hw
          refine lv_iinc (v := nI (48 * d + (t + 1))) (lv' := [(6, .int (nI (48 * d + (t + 1)))), (0, .ref (am 0)), (1, .int (nI d)), (5, .int (((D9 d).getD (hn_pc (hn_num h n) (D9 d)) hn_e0).2.2))]) hx hb dM_remove_116 hl (k := 3) rfl (nI_1 _) (by decide) rfl (fun ls hl => ?_)
          refine lv_goto (tgt := 90) hx hb dM_remove_119 (by decide) ?_
          exact ih (t + 1) τ4 H locs (by omega) (by omega) hP hD hS (hn_iv3_s hI hw (hO d hd).1 hh9 hpt (by omega) (hO d hd).2.1 (hO d hd).2.2) ls (lv_sub hl [1, 2, 3, 0] rfl)
      · subst e9
        refine lv_if_ne (tgt := 58) hx hb dM_remove_51 (by decide) (fun c_102 => absurd rfl c_102) (fun c_102 => ?_)
        refine lv_iconst (v := 1) hx hb dM_remove_54 (by decide) ?_
        refine lv_goto (tgt := 59) hx hb dM_remove_55 (by decide) ?_
        have hFc := va_free (wc := hn_wM am cI (τ)) hD hS hA [0, 1, 2, 3, 4, 5, 6] rfl
        refine va_calli (va_runV (As := [.int 0, .int 1]) (rest := []) ⟨hx, hb, hml, hown, hts⟩ (cM_throwing_ok l D cI cL am (τ) 0 1 _) (cwV 2 hts gM_M_throwing rfl rfl rfl (by decide +kernel) ⟨Nat.le_of_ble_eq_true rfl, Nat.le_of_ble_eq_true rfl⟩) (hn_preVW hP hK hD (ci := 1) (q0 := 0) rfl rfl) rfl rfl hl.1 rfl (lv_room (Nat.le_of_ble_eq_true rfl)) dM_remove_59 ⟨Nat.zero_le _, Nat.zero_le _⟩) hS (fun q _ h => hFc q h) hFc (fun r9 τ1 t8 H1 locs ht hvm hw hB hz1 hk1 hS => ?_)
        obtain ⟨hP1, hK1, hD1⟩ := hB
        rw [ht] at hP1
        have hD : va_D A (hn_wM am cI (τ1)) := hD1.weaken (fun _ q _ h => hFc q.1 h)
        have hP : va_P D vwCl (hn_wM am cI (τ1)) H1 := hP1
        generalize H1 = H at hP hS ⊢
        try dsimp only at hw
        obtain ⟨hw1, hw2⟩ := hn_thr2 hw rfl (by decide)
        subst hw1
        have hH1 : hn_MH τ1 h tn TK := by rw [hw2]; exact hn_MH_keep hH rfl rfl rfl
        have hM1 : hn_MD τ1 D9 := by rw [hw2]; exact hn_MD_keep hM rfl rfl rfl rfl
        have hc1 : τ1 0 0 = nI 2 := by rw [hw2]; show upd (τ 0) 0 2 0 = nI 2; rw [pk_us]; rfl
        have hR1 : hn_MR τ1 h D9 tn (hn_kb TK) := hn_MR_iff.mpr ⟨hH1, hM1⟩
        refine lv_if_eq (tgt := 67) hx hb dM_remove_62 (by decide) (fun c_103 => absurd c_103 (by decide)) (fun c_103 => ?_)
        refine lv_iconst (v := 0) hx hb dM_remove_65 (by decide) ?_
        exact W.iret (v := 0) hx hb hr (fun t9 ht9 hW9 => ⟨⟨0, τ1, rfl, ⟨2, D9, Or.inr ⟨d, n, hok, Or.inl ⟨rfl, rfl, fun z => ha9 ((hn_has_iff (hO d hd).1).mp z)⟩⟩, hc1, hH1, hM1, hO⟩, by rw [ht9]; exact hP, va_K.moved hW9.alike hK, hD⟩, hS.F ht9⟩) hS.2.2 dM_remove_66
    · subst e9
      refine lv_if_ne (tgt := 19) hx hb dM_remove_12 (by decide) (fun c_104 => absurd rfl c_104) (fun c_104 => ?_)
      refine lv_iconst (v := 1) hx hb dM_remove_15 (by decide) ?_
      refine lv_goto (tgt := 20) hx hb dM_remove_16 (by decide) ?_
      refine lv_istore_n (lv' := [(3, .int 1), (0, .ref (am 0)), (1, .int d9), (2, .int n9)]) hx hb dM_remove_20 rfl hl (by decide) rfl (fun ls hl => ?_)
      refine lv_iload_n hx hb dM_remove_21 rfl (lv_at hl 0 rfl) ?_
      refine lv_if_eq (tgt := 29) hx hb dM_remove_22 (by decide) (fun c_105 => absurd c_105 (by decide)) (fun c_105 => ?_)
      refine lv_iconst (v := 0) hx hb dM_remove_25 (by decide) ?_
      refine lv_goto (tgt := 35) hx hb dM_remove_26 (by decide) ?_
      refine lv_istore (lv' := [(4, .int 0), (3, .int 1), (0, .ref (am 0)), (1, .int d9), (2, .int n9)]) hx hb dM_remove_35 hl (by decide) rfl (fun ls hl => ?_)
      refine lv_aload_n hx hb dM_remove_37 rfl (lv_at hl 2 rfl) ?_
      refine lv_iload_n hx hb dM_remove_38 rfl (lv_at hl 1 rfl) ?_
      refine lv_iload_n hx hb dM_remove_39 rfl (lv_at hl 1 rfl) ?_
      refine lv_if_ne (tgt := 58) hx hb dM_remove_40 (by decide) (fun c_106 => ?_) (fun c_106 => absurd c_106 (by decide))
      refine lv_iconst (v := 0) hx hb dM_remove_58 (by decide) ?_
      have hFc := va_free (wc := hn_wM am cI (τ)) hD hS hA [0, 1, 2, 3, 4, 5, 6] rfl
      refine va_calli (va_runV (As := [.int 1, .int 0]) (rest := []) ⟨hx, hb, hml, hown, hts⟩ (cM_throwing_ok l D cI cL am (τ) 1 0 _) (cwV 2 hts gM_M_throwing rfl rfl rfl (by decide +kernel) ⟨Nat.le_of_ble_eq_true rfl, Nat.le_of_ble_eq_true rfl⟩) (hn_preVW hP hK hD (ci := 1) (q0 := 0) rfl rfl) rfl rfl hl.1 rfl (lv_room (Nat.le_of_ble_eq_true rfl)) dM_remove_59 ⟨Nat.zero_le _, Nat.zero_le _⟩) hS (fun q _ h => hFc q h) hFc (fun r9 τ1 t8 H1 locs ht hvm hw hB hz1 hk1 hS => ?_)
      obtain ⟨hP1, hK1, hD1⟩ := hB
      rw [ht] at hP1
      have hD : va_D A (hn_wM am cI (τ1)) := hD1.weaken (fun _ q _ h => hFc q.1 h)
      have hP : va_P D vwCl (hn_wM am cI (τ1)) H1 := hP1
      generalize H1 = H at hP hS ⊢
      try dsimp only at hw
      obtain ⟨hw1, hw2⟩ := hn_thr1 hw rfl
      subst hw1
      have hH1 : hn_MH τ1 h tn TK := by rw [hw2]; exact hn_MH_keep hH rfl rfl rfl
      have hM1 : hn_MD τ1 D9 := by rw [hw2]; exact hn_MD_keep hM rfl rfl rfl rfl
      have hc1 : τ1 0 0 = nI 1 := by rw [hw2]; show upd (τ 0) 0 1 0 = nI 1; rw [pk_us]; rfl
      have hR1 : hn_MR τ1 h D9 tn (hn_kb TK) := hn_MR_iff.mpr ⟨hH1, hM1⟩
      refine lv_if_eq (tgt := 67) hx hb dM_remove_62 (by decide) (fun c_107 => absurd c_107 (by decide)) (fun c_107 => ?_)
      refine lv_iconst (v := 0) hx hb dM_remove_65 (by decide) ?_
      exact W.iret (v := 0) hx hb hr (fun t9 ht9 hW9 => ⟨⟨0, τ1, rfl, ⟨1, D9, Or.inl ⟨rfl, rfl, fun z => hn9 z.2⟩, hc1, hH1, hM1, hO⟩, by rw [ht9]; exact hP, va_K.moved hW9.alike hK, hD⟩, hS.F ht9⟩) hS.2.2 dM_remove_66
  · subst e9
    refine lv_if_eq (tgt := 15) hx hb dM_remove_4 (by decide) (fun c_108 => ?_) (fun c_108 => absurd rfl c_108)
    refine lv_iconst (v := 1) hx hb dM_remove_15 (by decide) ?_
    refine lv_goto (tgt := 20) hx hb dM_remove_16 (by decide) ?_
    refine lv_istore_n (lv' := [(3, .int 1), (0, .ref (am 0)), (1, .int d9), (2, .int n9)]) hx hb dM_remove_20 rfl hl (by decide) rfl (fun ls hl => ?_)
    refine lv_iload_n hx hb dM_remove_21 rfl (lv_at hl 0 rfl) ?_
    refine lv_if_eq (tgt := 29) hx hb dM_remove_22 (by decide) (fun c_109 => absurd c_109 (by decide)) (fun c_109 => ?_)
    refine lv_iconst (v := 0) hx hb dM_remove_25 (by decide) ?_
    refine lv_goto (tgt := 35) hx hb dM_remove_26 (by decide) ?_
    refine lv_istore (lv' := [(4, .int 0), (3, .int 1), (0, .ref (am 0)), (1, .int d9), (2, .int n9)]) hx hb dM_remove_35 hl (by decide) rfl (fun ls hl => ?_)
    refine lv_aload_n hx hb dM_remove_37 rfl (lv_at hl 2 rfl) ?_
    refine lv_iload_n hx hb dM_remove_38 rfl (lv_at hl 1 rfl) ?_
    refine lv_iload_n hx hb dM_remove_39 rfl (lv_at hl 1 rfl) ?_
    refine lv_if_ne (tgt := 58) hx hb dM_remove_40 (by decide) (fun c_110 => ?_) (fun c_110 => absurd c_110 (by decide))
    refine lv_iconst (v := 0) hx hb dM_remove_58 (by decide) ?_
    have hFc := va_free (wc := hn_wM am cI (τ)) hD hS hA [0, 1, 2, 3, 4, 5, 6] rfl
    refine va_calli (va_runV (As := [.int 1, .int 0]) (rest := []) ⟨hx, hb, hml, hown, hts⟩ (cM_throwing_ok l D cI cL am (τ) 1 0 _) (cwV 2 hts gM_M_throwing rfl rfl rfl (by decide +kernel) ⟨Nat.le_of_ble_eq_true rfl, Nat.le_of_ble_eq_true rfl⟩) (hn_preVW hP hK hD (ci := 1) (q0 := 0) rfl rfl) rfl rfl hl.1 rfl (lv_room (Nat.le_of_ble_eq_true rfl)) dM_remove_59 ⟨Nat.zero_le _, Nat.zero_le _⟩) hS (fun q _ h => hFc q h) hFc (fun r9 τ1 t8 H1 locs ht hvm hw hB hz1 hk1 hS => ?_)
    obtain ⟨hP1, hK1, hD1⟩ := hB
    rw [ht] at hP1
    have hD : va_D A (hn_wM am cI (τ1)) := hD1.weaken (fun _ q _ h => hFc q.1 h)
    have hP : va_P D vwCl (hn_wM am cI (τ1)) H1 := hP1
    generalize H1 = H at hP hS ⊢
    try dsimp only at hw
    obtain ⟨hw1, hw2⟩ := hn_thr1 hw rfl
    subst hw1
    have hH1 : hn_MH τ1 h tn TK := by rw [hw2]; exact hn_MH_keep hH rfl rfl rfl
    have hM1 : hn_MD τ1 D9 := by rw [hw2]; exact hn_MD_keep hM rfl rfl rfl rfl
    have hc1 : τ1 0 0 = nI 1 := by rw [hw2]; show upd (τ 0) 0 1 0 = nI 1; rw [pk_us]; rfl
    have hR1 : hn_MR τ1 h D9 tn (hn_kb TK) := hn_MR_iff.mpr ⟨hH1, hM1⟩
    refine lv_if_eq (tgt := 67) hx hb dM_remove_62 (by decide) (fun c_111 => absurd c_111 (by decide)) (fun c_111 => ?_)
    refine lv_iconst (v := 0) hx hb dM_remove_65 (by decide) ?_
    exact W.iret (v := 0) hx hb hr (fun t9 ht9 hW9 => ⟨⟨0, τ1, rfl, ⟨1, D9, Or.inl ⟨rfl, rfl, fun z => hd9 z.1⟩, hc1, hH1, hM1, hO⟩, by rw [ht9]; exact hP, va_K.moved hW9.alike hK, hD⟩, hS.F ht9⟩) hS.2.2 dM_remove_66
