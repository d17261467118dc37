set_option maxHeartbeats 4000000 in
set_option maxRecDepth 100000 in
theorem hn_case_say {p : Program} {e : Env} {s : State} {m : MethodId} {below : List Frame} {meth : Method} {c : Code} (l : Launch) (hl0 : l.stackTraces = false) {b L : Nat} {xs : Nat → Int32} (hL : L ≤ 3072) (C0 : lw_At p s m meth c b L xs) {D : va_G} {cI cL : ClassId} {sa ad am : Nat → Nat} {ao : Nat} (hG : hn_G s.heap.size sa s s.heap) (hNc : va_Nc hn_xS hn_xA s) (hK : va_K D vwCl (hn_ty cI cL) s) {i cs ss : Nat} (hi : i + 6 ≤ L) (hc : cs + 4 ≤ 601024) (hs : ss + 24 ≤ 7293034) {Q : State → Prop} (kk : ∀ (σ τ : Nat → Nat → Int32) (f : Nat → Int64) (h : Nat → Nat) (D9 : Nat → List hn_E) (tn TK : Nat) (H : Heap) (locs : List Loc) (ls : Array Slot), hn_LI σ τ h D9 tn TK → va_P D vwCl (hn_wL ad cI σ ao cL f am τ) H → va_D (fun q : Nat => s.heap.size ≤ q) (hn_wL ad cI σ ao cL f am τ) → va_S (fun q : Nat => s.heap.size ≤ q) s.heap H locs → lv_has ls 7 [(0, .ref b), (1, .ref (ad 0)), (2, .ref (am 0)), (3, .ref ao), (4, .int (nI i))] → W p l e room_1 s m #[Value.ref b] below meth c H locs (cs + 4) (ss + 24) Q (F0 m 635 ls [])) (σ τ : Nat → Nat → Int32) (f : Nat → Int64) (h : Nat → Nat) (D9 : Nat → List hn_E) (tn TK : Nat) (H : Heap) (locs : List Loc) (ls : Array Slot) : hn_LI σ τ h D9 tn TK → va_P D vwCl (hn_wL ad cI σ ao cL f am τ) H → va_D (fun q : Nat => s.heap.size ≤ q) (hn_wL ad cI σ ao cL f am τ) → va_S (fun q : Nat => s.heap.size ≤ q) s.heap H locs → lv_has ls 7 [(0, .ref b), (1, .ref (ad 0)), (2, .ref (am 0)), (3, .ref ao), (4, .int (nI i))] → W p l e room_1 s m #[Value.ref b] below meth c H locs cs ss Q (F0 m 88 ls []) := by
  obtain ⟨hx, hb, hr, hml, hown, hts0, hX, hbl, hlocks, hgv⟩ := id C0
  have hown : s.vm.findClass RL = some m.cls := hown
  have hts : ∀ w ∈ hn_tb, w.before #[Value.ref b] s = true := fun w h => hts0 w (List.mem_filter.mp h).1
  have hA : ∀ q : Nat, s.heap.size ≤ q → (fun q : Nat => s.heap.size ≤ q) q := fun _ h => h
  have hbA : ¬ (fun q : Nat => s.heap.size ≤ q) b := Nat.not_le.mpr hbl
  intro hI hP hD hS hl
  obtain ⟨hXR, hMH, hMD, hO⟩ := hI
  refine lv_aload_n hx hb dL_law_88 rfl (lv_at hl 1 rfl) ?_
  refine lv_aload_n hx hb dL_law_89 rfl (lv_at hl 0 rfl) ?_
  refine lv_iload hx hb dL_law_90 (lv_at hl 4 rfl) ?_
  refine lv_iconst (v := 1) hx hb dL_law_92 (by decide) ?_
  refine lv_iadd hx hb dL_law_93 ?_
  rw [show ((nI i) + 1 : Int32) = nI (i + 1) from nI_add i 1]
  refine va_sld hx hb hX hbl hbA hS (vp_in_nI (show i + 1 < L by omega) (by omega)) dL_law_94 ?_
  rw [nI_clamp (show i + 1 < 2 ^ 31 by omega)]
  refine lv_aload_n hx hb dL_law_95 rfl (lv_at hl 0 rfl) ?_
  refine lv_iload hx hb dL_law_96 (lv_at hl 4 rfl) ?_
  refine lv_iconst (v := 2) hx hb dL_law_98 (by decide) ?_
  refine lv_iadd hx hb dL_law_99 ?_
  rw [show ((nI i) + 2 : Int32) = nI (i + 2) from nI_add i 2]
  refine va_sld hx hb hX hbl hbA hS (vp_in_nI (show i + 2 < L by omega) (by omega)) dL_law_100 ?_
  rw [nI_clamp (show i + 2 < 2 ^ 31 by omega)]
  refine lv_aload_n hx hb dL_law_101 rfl (lv_at hl 0 rfl) ?_
  refine lv_iload hx hb dL_law_102 (lv_at hl 4 rfl) ?_
  refine lv_iconst (v := 3) hx hb dL_law_104 (by decide) ?_
  refine lv_iadd hx hb dL_law_105 ?_
  rw [show ((nI i) + 3 : Int32) = nI (i + 3) from nI_add i 3]
  refine va_sld hx hb hX hbl hbA hS (vp_in_nI (show i + 3 < L by omega) (by omega)) dL_law_106 ?_
  rw [nI_clamp (show i + 3 < 2 ^ 31 by omega)]
  refine lv_aload_n hx hb dL_law_107 rfl (lv_at hl 0 rfl) ?_
  refine lv_iload hx hb dL_law_108 (lv_at hl 4 rfl) ?_
  refine lv_iconst (v := 4) hx hb dL_law_110 (by decide) ?_
  refine lv_iadd hx hb dL_law_111 ?_
  rw [show ((nI i) + 4 : Int32) = nI (i + 4) from nI_add i 4]
  refine va_sld hx hb hX hbl hbA hS (vp_in_nI (show i + 4 < L by omega) (by omega)) dL_law_112 ?_
  rw [nI_clamp (show i + 4 < 2 ^ 31 by omega)]
  refine lv_aload_n hx hb dL_law_113 rfl (lv_at hl 0 rfl) ?_
  refine lv_iload hx hb dL_law_114 (lv_at hl 4 rfl) ?_
  refine lv_iconst (v := 5) hx hb dL_law_116 (by decide) ?_
  refine lv_iadd hx hb dL_law_117 ?_
  rw [show ((nI i) + 5 : Int32) = nI (i + 5) from nI_add i 5]
  refine va_sld hx hb hX hbl hbA hS (vp_in_nI (show i + 5 < L by omega) (by omega)) dL_law_118 ?_
  rw [nI_clamp (show i + 5 < 2 ^ 31 by omega)]
  have hPc := hP.sub (ws' := hn_wX ad cI σ) [0, 1, 2, 3, 4, 5, 6, 7, 8, 9] rfl
  have hDc := hD.sub (ws' := hn_wX ad cI σ) [0, 1, 2, 3, 4, 5, 6, 7, 8, 9] (by decide) rfl
  have hFc := va_free (wc := hn_wX ad cI σ) hD hS hA [0, 1, 2, 3, 4, 5, 6, 7, 8, 9] rfl
  refine va_callv (va_runV (As := [.int (xs (i + 1)), .int (xs (i + 2)), .int (xs (i + 3)), .int (xs (i + 4)), .int (xs (i + 5))]) (rest := []) ⟨hx, hb, hml, hown, hts⟩ (cX_say_ok l D cI cL ad σ (xs (i + 1)) (xs (i + 2)) (xs (i + 3)) (xs (i + 4)) (xs (i + 5)) _) (cwV 5 hts gL_X_say rfl rfl rfl (by decide +kernel) ⟨(Nat.le_of_ble_eq_true rfl), (Nat.le_of_ble_eq_true rfl)⟩) (hn_preVW hPc hK hDc (ci := 0) (q0 := 0) rfl rfl) rfl rfl hl.1 rfl (lv_room (Nat.le_of_ble_eq_true rfl)) dL_law_119 ⟨show cs + 0 ≤ 601024 by omega, show ss + 0 ≤ 7293034 by omega⟩) hS (fun q _ h => hFc q h) hFc (fun σ2 t8 H1 locs ht hvm hw hB hz1 hk1 hS => ?_)
  obtain ⟨hP1, hK1, hD1⟩ := hB
  rw [ht] at hP1
  obtain ⟨hP, hD⟩ := va_join (wr := (ao, .inl (cL, 1, .inr (.inl f))) :: hn_wM am cI τ) (w1 := hn_wX ad cI σ2) hP hD [0, 1, 2, 3, 4, 5, 6, 7, 8, 9] [10, 11, 12, 13, 14, 15, 16, 17] rfl rfl (by decide) (by decide) hk1 hFc hP1 hD1
  have hP := hP.sub (ws' := hn_wL ad cI σ2 ao cL f am τ) [8, 9, 10, 11, 12, 13, 14, 15, 16, 17, 0, 1, 2, 3, 4, 5, 6, 7] rfl
  have hD := hD.sub (ws' := hn_wL ad cI σ2 ao cL f am τ) [8, 9, 10, 11, 12, 13, 14, 15, 16, 17, 0, 1, 2, 3, 4, 5, 6, 7] (by decide) rfl
  clear hPc hDc hFc hP1 hD1 hK1 hk1
  generalize H1 = H at hP hS ⊢
  try dsimp only at hw
  obtain ⟨x0, x2, x3, x4, x5, x6, x7, x8, x9, x1⟩ := hw
  refine lv_aload_n hx hb dL_law_122 rfl (lv_at hl 2 rfl) ?_
  refine lv_aload_n hx hb dL_law_123 rfl (lv_at hl 0 rfl) ?_
  refine lv_iload hx hb dL_law_124 (lv_at hl 4 rfl) ?_
  refine lv_iconst (v := 1) hx hb dL_law_126 (by decide) ?_
  refine lv_iadd hx hb dL_law_127 ?_
  rw [show ((nI i) + 1 : Int32) = nI (i + 1) from nI_add i 1]
  refine va_sld hx hb hX hbl hbA hS (vp_in_nI (show i + 1 < L by omega) (by omega)) dL_law_128 ?_
  rw [nI_clamp (show i + 1 < 2 ^ 31 by omega)]
  refine lv_aload_n hx hb dL_law_129 rfl (lv_at hl 0 rfl) ?_
  refine lv_iload hx hb dL_law_130 (lv_at hl 4 rfl) ?_
  refine lv_iconst (v := 2) hx hb dL_law_132 (by decide) ?_
  refine lv_iadd hx hb dL_law_133 ?_
  rw [show ((nI i) + 2 : Int32) = nI (i + 2) from nI_add i 2]
  refine va_sld hx hb hX hbl hbA hS (vp_in_nI (show i + 2 < L by omega) (by omega)) dL_law_134 ?_
  rw [nI_clamp (show i + 2 < 2 ^ 31 by omega)]
  refine lv_aload_n hx hb dL_law_135 rfl (lv_at hl 0 rfl) ?_
  refine lv_iload hx hb dL_law_136 (lv_at hl 4 rfl) ?_
  refine lv_iconst (v := 3) hx hb dL_law_138 (by decide) ?_
  refine lv_iadd hx hb dL_law_139 ?_
  rw [show ((nI i) + 3 : Int32) = nI (i + 3) from nI_add i 3]
  refine va_sld hx hb hX hbl hbA hS (vp_in_nI (show i + 3 < L by omega) (by omega)) dL_law_140 ?_
  rw [nI_clamp (show i + 3 < 2 ^ 31 by omega)]
  refine lv_aload_n hx hb dL_law_141 rfl (lv_at hl 0 rfl) ?_
  refine lv_iload hx hb dL_law_142 (lv_at hl 4 rfl) ?_
  refine lv_iconst (v := 4) hx hb dL_law_144 (by decide) ?_
  refine lv_iadd hx hb dL_law_145 ?_
  rw [show ((nI i) + 4 : Int32) = nI (i + 4) from nI_add i 4]
  refine va_sld hx hb hX hbl hbA hS (vp_in_nI (show i + 4 < L by omega) (by omega)) dL_law_146 ?_
  rw [nI_clamp (show i + 4 < 2 ^ 31 by omega)]
  refine lv_aload_n hx hb dL_law_147 rfl (lv_at hl 0 rfl) ?_
  refine lv_iload hx hb dL_law_148 (lv_at hl 4 rfl) ?_
  refine lv_iconst (v := 5) hx hb dL_law_150 (by decide) ?_
  refine lv_iadd hx hb dL_law_151 ?_
  rw [show ((nI i) + 5 : Int32) = nI (i + 5) from nI_add i 5]
  refine va_sld hx hb hX hbl hbA hS (vp_in_nI (show i + 5 < L by omega) (by omega)) dL_law_152 ?_
  rw [nI_clamp (show i + 5 < 2 ^ 31 by omega)]
  have hPc := hP.sub (ws' := hn_wM am cI τ) [11, 12, 13, 14, 15, 16, 17] rfl
  have hDc := hD.sub (ws' := hn_wM am cI τ) [11, 12, 13, 14, 15, 16, 17] (by decide) rfl
  have hFc := va_free (wc := hn_wM am cI τ) hD hS hA [11, 12, 13, 14, 15, 16, 17] rfl
  refine va_callv (va_runV (As := [.int (xs (i + 1)), .int (xs (i + 2)), .int (xs (i + 3)), .int (xs (i + 4)), .int (xs (i + 5))]) (rest := []) ⟨hx, hb, hml, hown, hts⟩ (cM_say_ok l D cI cL am τ (xs (i + 1)) (xs (i + 2)) (xs (i + 3)) (xs (i + 4)) (xs (i + 5)) _) (cwV 5 hts gL_M_say rfl rfl rfl (by decide +kernel) ⟨(Nat.le_of_ble_eq_true rfl), (Nat.le_of_ble_eq_true rfl)⟩) (hn_preVW hPc hK hDc (ci := 1) (q0 := 0) rfl rfl) rfl rfl hl.1 rfl (lv_room (Nat.le_of_ble_eq_true rfl)) dL_law_153 ⟨show cs + 0 + 0 ≤ 601024 by omega, show ss + 0 + 0 ≤ 7293034 by omega⟩) hS (fun q _ h => hFc q h) hFc (fun τ2 t8 H1 locs ht hvm hw hB hz1 hk1 hS => ?_)
  obtain ⟨hP1, hK1, hD1⟩ := hB
  rw [ht] at hP1
  obtain ⟨hP, hD⟩ := va_join (wr := hn_wH ad cI σ2 ao cL f) (w1 := hn_wM am cI τ2) hP hD [11, 12, 13, 14, 15, 16, 17] [0, 1, 2, 3, 4, 5, 6, 7, 8, 9, 10] rfl rfl (by decide) (by decide) hk1 hFc hP1 hD1
  have hP := hP.sub (ws' := hn_wL ad cI σ2 ao cL f am τ2) [0, 1, 2, 3, 4, 5, 6, 7, 8, 9, 10, 11, 12, 13, 14, 15, 16, 17] rfl
  have hD := hD.sub (ws' := hn_wL ad cI σ2 ao cL f am τ2) [0, 1, 2, 3, 4, 5, 6, 7, 8, 9, 10, 11, 12, 13, 14, 15, 16, 17] (by decide) rfl
  clear hPc hDc hFc hP1 hD1 hK1 hk1
  generalize H1 = H at hP hS ⊢
  try dsimp only at hw
  obtain ⟨y0, y2, y3, y4, y5, y6, y1⟩ := hw
  refine lv_goto (tgt := 635) hx hb dL_law_156 (by decide) ?_
  obtain ⟨g1, g2⟩ := hn_M_say (w := (hn_w5 (xs (i + 1)) (xs (i + 2)) (xs (i + 3)) (xs (i + 4)) (xs (i + 5)))) hMH hMD y0 y2 y3 y4 y5 y6 y1
  refine W.widen (k := cs + 4) (n := ss + 24) (by omega) (by omega) ?_
  exact kk σ2 τ2 f (hn_by (hn_w5 (xs (i + 1)) (xs (i + 2)) (xs (i + 3)) (xs (i + 4)) (xs (i + 5)))) D9 tn TK _ _ ls ⟨hn_XR_say hXR x0 x3 x4 x5 x6 x7 x8 x9 x1, g1, g2, hO⟩ hP hD hS hl

set_option maxHeartbeats 4000000 in
set_option maxRecDepth 100000 in
theorem hn_case_add {p : Program} {e : Env} {s : State} {m : MethodId} {below : List Frame} {meth : Method} {c : Code} (l : Launch) (hl0 : l.stackTraces = false) {b L : Nat} {xs : Nat → Int32} (hL : L ≤ 3072) (C0 : lw_At p s m meth c b L xs) {D : va_G} {cI cL : ClassId} {sa ad am : Nat → Nat} {ao : Nat} (hG : hn_G s.heap.size sa s s.heap) (hNc : va_Nc hn_xS hn_xA s) (hK : va_K D vwCl (hn_ty cI cL) s) {i cs ss : Nat} (hi : i + 6 ≤ L) (hc : cs + 4 ≤ 601024) (hs : ss + 24 ≤ 7293034) {Q : State → Prop} (kk : ∀ (σ τ : Nat → Nat → Int32) (f : Nat → Int64) (h : Nat → Nat) (D9 : Nat → List hn_E) (tn TK : Nat) (H : Heap) (locs : List Loc) (ls : Array Slot), hn_LI σ τ h D9 tn TK → va_P D vwCl (hn_wL ad cI σ ao cL f am τ) H → va_D (fun q : Nat => s.heap.size ≤ q) (hn_wL ad cI σ ao cL f am τ) → va_S (fun q : Nat => s.heap.size ≤ q) s.heap H locs → lv_has ls 7 [(0, .ref b), (1, .ref (ad 0)), (2, .ref (am 0)), (3, .ref ao), (4, .int (nI i))] → W p l e room_1 s m #[Value.ref b] below meth c H locs (cs + 4) (ss + 24) Q (F0 m 635 ls [])) (σ τ : Nat → Nat → Int32) (f : Nat → Int64) (h : Nat → Nat) (D9 : Nat → List hn_E) (tn TK : Nat) (H : Heap) (locs : List Loc) (ls : Array Slot) : hn_LI σ τ h D9 tn TK → va_P D vwCl (hn_wL ad cI σ ao cL f am τ) H → va_D (fun q : Nat => s.heap.size ≤ q) (hn_wL ad cI σ ao cL f am τ) → va_S (fun q : Nat => s.heap.size ≤ q) s.heap H locs → lv_has ls 7 [(0, .ref b), (1, .ref (ad 0)), (2, .ref (am 0)), (3, .ref ao), (4, .int (nI i))] → W p l e room_1 s m #[Value.ref b] below meth c H locs cs ss Q (F0 m 159 ls []) := by
  obtain ⟨hx, hb, hr, hml, hown, hts0, hX, hbl, hlocks, hgv⟩ := id C0
  have hown : s.vm.findClass RL = some m.cls := hown
  have hts : ∀ w ∈ hn_tb, w.before #[Value.ref b] s = true := fun w h => hts0 w (List.mem_filter.mp h).1
  have hA : ∀ q : Nat, s.heap.size ≤ q → (fun q : Nat => s.heap.size ≤ q) q := fun _ h => h
  have hbA : ¬ (fun q : Nat => s.heap.size ≤ q) b := Nat.not_le.mpr hbl
  intro hI hP hD hS hl
  obtain ⟨hXR, hMH, hMD, hO⟩ := hI
  refine lv_aload_n hx hb dL_law_159 rfl (lv_at hl 1 rfl) ?_
  refine lv_aload_n hx hb dL_law_160 rfl (lv_at hl 0 rfl) ?_
  refine lv_iload hx hb dL_law_161 (lv_at hl 4 rfl) ?_
  refine lv_iconst (v := 1) hx hb dL_law_163 (by decide) ?_
  refine lv_iadd hx hb dL_law_164 ?_
  rw [show ((nI i) + 1 : Int32) = nI (i + 1) from nI_add i 1]
  refine va_sld hx hb hX hbl hbA hS (vp_in_nI (show i + 1 < L by omega) (by omega)) dL_law_165 ?_
  rw [nI_clamp (show i + 1 < 2 ^ 31 by omega)]
  refine lv_aload_n hx hb dL_law_166 rfl (lv_at hl 0 rfl) ?_
  refine lv_iload hx hb dL_law_167 (lv_at hl 4 rfl) ?_
  refine lv_iconst (v := 2) hx hb dL_law_169 (by decide) ?_
  refine lv_iadd hx hb dL_law_170 ?_
  rw [show ((nI i) + 2 : Int32) = nI (i + 2) from nI_add i 2]
  refine va_sld hx hb hX hbl hbA hS (vp_in_nI (show i + 2 < L by omega) (by omega)) dL_law_171 ?_
  rw [nI_clamp (show i + 2 < 2 ^ 31 by omega)]
  refine lv_aload_n hx hb dL_law_172 rfl (lv_at hl 0 rfl) ?_
  refine lv_iload hx hb dL_law_173 (lv_at hl 4 rfl) ?_
  refine lv_iconst (v := 3) hx hb dL_law_175 (by decide) ?_
  refine lv_iadd hx hb dL_law_176 ?_
  rw [show ((nI i) + 3 : Int32) = nI (i + 3) from nI_add i 3]
  refine va_sld hx hb hX hbl hbA hS (vp_in_nI (show i + 3 < L by omega) (by omega)) dL_law_177 ?_
  rw [nI_clamp (show i + 3 < 2 ^ 31 by omega)]
  refine lv_aload_n hx hb dL_law_178 rfl (lv_at hl 3 rfl) ?_
  have hPc := hP.sub (ws' := hn_wH ad cI σ ao cL f) [0, 1, 2, 3, 4, 5, 6, 7, 8, 9, 10] rfl
  have hDc := hD.sub (ws' := hn_wH ad cI σ ao cL f) [0, 1, 2, 3, 4, 5, 6, 7, 8, 9, 10] (by decide) rfl
  have hFc := va_free (wc := hn_wH ad cI σ ao cL f) hD hS hA [0, 1, 2, 3, 4, 5, 6, 7, 8, 9, 10] rfl
  refine va_calli (vx_runSW (As := [.ref (ad 0), .int (xs (i + 1)), .int (xs (i + 2)), .int (xs (i + 3)), .ref ao]) (rest := []) ⟨hx, hb, hml, hown, hts⟩ (cL_add_ok l hl0 D cI cL s.heap.size sa ad σ ao f h D9 tn TK hXR hO (xs (i + 1)) (xs (i + 2)) (xs (i + 3)) _) (vx_cwSW 5 hts gL_L_add rfl rfl rfl (by decide +kernel) ⟨(Nat.le_of_ble_eq_true rfl), (Nat.le_of_ble_eq_true rfl)⟩) (hn_preH hPc hK hDc (Nat.le_refl _) hG hS (fun _ h => h) hNc) rfl rfl hl.1 rfl (lv_room (Nat.le_of_ble_eq_true rfl)) dL_law_179 ⟨show cs + 4 ≤ 601024 by omega, show ss + 24 ≤ 7293034 by omega⟩) hS (fun q _ h => hFc q h) hFc (fun r1 u t8 H1 locs ht hvm hw hB hz1 hk1 hS => ?_)
  obtain ⟨σ2, f2⟩ := u
  obtain ⟨hP1, hK1, hD1⟩ := hB
  rw [ht] at hP1
  obtain ⟨hP, hD⟩ := va_join (wr := hn_wM am cI τ) (w1 := hn_wH ad cI σ2 ao cL f2) hP hD [0, 1, 2, 3, 4, 5, 6, 7, 8, 9, 10] [11, 12, 13, 14, 15, 16, 17] rfl rfl (by decide) (by decide) hk1 hFc hP1 hD1
  have hP := hP.sub (ws' := hn_wL ad cI σ2 ao cL f2 am τ) [7, 8, 9, 10, 11, 12, 13, 14, 15, 16, 17, 0, 1, 2, 3, 4, 5, 6] rfl
  have hD := hD.sub (ws' := hn_wL ad cI σ2 ao cL f2 am τ) [7, 8, 9, 10, 11, 12, 13, 14, 15, 16, 17, 0, 1, 2, 3, 4, 5, 6] (by decide) rfl
  clear hPc hDc hFc hP1 hD1 hK1 hk1
  generalize H1 = H at hP hS ⊢
  try dsimp only at hw
  obtain ⟨c9, a9, D8, hc3, er1, hop, ha9, hX2⟩ := hw
  subst er1
  refine lv_istore (lv' := [(5, .int (nI c9)), (0, .ref b), (1, .ref (ad 0)), (2, .ref (am 0)), (3, .ref ao), (4, .int (nI i))]) hx hb dL_law_182 hl (by decide) rfl (fun ls hl => ?_)
  refine lv_aload_n hx hb dL_law_184 rfl (lv_at hl 3 rfl) ?_
  refine lv_aload_n hx hb dL_law_185 rfl (lv_at hl 1 rfl) ?_
  refine lv_iload hx hb dL_law_186 (lv_at hl 5 rfl) ?_
  refine lv_iconst (v := 1) hx hb dL_law_188 (by decide) ?_
  refine lv_iadd hx hb dL_law_189 ?_
  rw [show ((nI i) + 1 : Int32) = nI (i + 1) from nI_add i 1]
  refine va_sld hx hb hX hbl hbA hS (vp_in_nI (show i + 1 < L by omega) (by omega)) dL_law_190 ?_
  rw [nI_clamp (show i + 1 < 2 ^ 31 by omega)]
  refine lv_aload_n hx hb dL_law_191 rfl (lv_at hl 1 rfl) ?_
  refine lv_iload hx hb dL_law_192 (lv_at hl 5 rfl) ?_
  refine lv_iconst (v := 2) hx hb dL_law_194 (by decide) ?_
  refine lv_iadd hx hb dL_law_195 ?_
  rw [show ((nI i) + 2 : Int32) = nI (i + 2) from nI_add i 2]
  refine va_sld hx hb hX hbl hbA hS (vp_in_nI (show i + 2 < L by omega) (by omega)) dL_law_196 ?_
  rw [nI_clamp (show i + 2 < 2 ^ 31 by omega)]
  refine lv_aload_n hx hb dL_law_197 rfl (lv_at hl 1 rfl) ?_
  refine lv_iload hx hb dL_law_198 (lv_at hl 5 rfl) ?_
  refine lv_iconst (v := 3) hx hb dL_law_200 (by decide) ?_
  refine lv_iadd hx hb dL_law_201 ?_
  rw [show ((nI i) + 3 : Int32) = nI (i + 3) from nI_add i 3]
  refine va_sld hx hb hX hbl hbA hS (vp_in_nI (show i + 3 < L by omega) (by omega)) dL_law_202 ?_
  rw [nI_clamp (show i + 3 < 2 ^ 31 by omega)]
  have hPc := hP.sub (ws' := hn_wM am cI τ) [11, 12, 13, 14, 15, 16, 17] rfl
  have hDc := hD.sub (ws' := hn_wM am cI τ) [11, 12, 13, 14, 15, 16, 17] (by decide) rfl
  have hFc := va_free (wc := hn_wM am cI τ) hD hS hA [11, 12, 13, 14, 15, 16, 17] rfl
  refine va_calli (va_runV (As := [.int (xs (i + 1)), .int (xs (i + 2)), .int (xs (i + 3))]) (rest := []) ⟨hx, hb, hml, hown, hts⟩ (cM_add_ok l D cI cL am τ (xs (i + 1)) (xs (i + 2)) (xs (i + 3)) h D9 tn TK hMH hMD hO _) (cwV 3 hts gL_M_add rfl rfl rfl (by decide +kernel) ⟨(Nat.le_of_ble_eq_true rfl), (Nat.le_of_ble_eq_true rfl)⟩) (hn_preVW hPc hK hDc (ci := 1) (q0 := 0) rfl rfl) rfl rfl hl.1 rfl (lv_room (Nat.le_of_ble_eq_true rfl)) dL_law_203 ⟨show cs + 4 + 0 ≤ 601024 by omega, show ss + 24 + 0 ≤ 7293034 by omega⟩) hS (fun q _ h => hFc q h) hFc (fun r2 τ2 t8 H1 locs ht hvm hw hB hz1 hk1 hS => ?_)
  obtain ⟨hP1, hK1, hD1⟩ := hB
  rw [ht] at hP1
  obtain ⟨hP, hD⟩ := va_join (wr := hn_wH ad cI σ2 ao cL f2) (w1 := hn_wM am cI τ2) hP hD [11, 12, 13, 14, 15, 16, 17] [0, 1, 2, 3, 4, 5, 6, 7, 8, 9, 10] rfl rfl (by decide) (by decide) hk1 hFc hP1 hD1
  have hP := hP.sub (ws' := hn_wL ad cI σ2 ao cL f2 am τ2) [0, 1, 2, 3, 4, 5, 6, 7, 8, 9, 10, 11, 12, 13, 14, 15, 16, 17] rfl
  have hD := hD.sub (ws' := hn_wL ad cI σ2 ao cL f2 am τ2) [0, 1, 2, 3, 4, 5, 6, 7, 8, 9, 10, 11, 12, 13, 14, 15, 16, 17] (by decide) rfl
  clear hPc hDc hFc hP1 hD1 hK1 hk1
  generalize H1 = H at hP hS ⊢
  try dsimp only at hw
  obtain ⟨c8, D7, hop2, ethr, hMH2, hMD2, hO2⟩ := hw
  obtain ⟨z1, z2, z3⟩ := hn_add1 hop hop2
  subst z1
  subst z2
  refine lv_istore (lv' := [(6, .int r2), (5, .int (nI c9)), (0, .ref b), (1, .ref (ad 0)), (2, .ref (am 0)), (3, .ref ao), (4, .int (nI i))]) hx hb dL_law_206 hl (by decide) rfl (fun ls hl => ?_)
  refine lv_aload_n hx hb dL_law_208 rfl (lv_at hl 4 rfl) ?_
  have hPm := hP.sub (ws' := hn_wM am cI τ2) [11, 12, 13, 14, 15, 16, 17] rfl
  refine W.callR (W.runV (As := []) (rest := []) ⟨hx, hb, hml, hown, hts⟩ (cM_thrown_ok l D cI cL am τ2) (cwV 0 hts gL_M_thrown rfl rfl rfl (by decide +kernel) ⟨(Nat.le_of_ble_eq_true rfl), (Nat.le_of_ble_eq_true rfl)⟩) (hn_preV hPm hK (ci := 1) (q0 := 0) rfl rfl) rfl rfl hl.1 rfl (lv_room (Nat.le_of_ble_eq_true rfl)) dL_law_209 ⟨show cs + 4 + 0 + 0 ≤ 601024 by omega, show ss + 24 + 0 + 0 ≤ 7293034 by omega⟩) ?_
  refine W.eq (g2 := F0 m 212 ls [.int (τ2 0 0)]) rfl ?_
  rw [ethr]
  refine lv_iload hx hb dL_law_212 (lv_at hl 1 rfl) ?_
  refine lv_icmp_eq (tgt := 219) hx hb dL_law_214 (by decide) (fun c_1 => ?_) (fun c_1 => absurd rfl c_1)
  refine lv_iload hx hb dL_law_219 (lv_at hl 1 rfl) ?_
  refine lv_if_ne (tgt := 236) hx hb dL_law_221 (by decide) (fun c_2 => ?_) (fun c_2 => ?_)
  · skip
    refine lv_goto (tgt := 635) hx hb dL_law_236 (by decide) ?_
    refine W.widen (k := cs + 4) (n := ss + 24) (by omega) (by omega) ?_
    exact kk σ2 τ2 f2 h D8 tn TK _ _ ls ⟨hX2, hMH2, hMD2, hO2⟩ hP hD hS (lv_sub hl [2, 3, 4, 5, 6] rfl)
  · skip
    have hc0 : c9 = 0 := (nI_eq (by omega) (by decide)).mp (show nI c9 = nI 0 from c_2)
    refine lv_aload_n hx hb dL_law_224 rfl (lv_at hl 5 rfl) ?_
    refine lv_iconst (v := 0) hx hb dL_law_225 (by decide) ?_
    refine va_lald hx hb hK hP 10 1 rfl rfl (i := 0) (vp_in_nI (n := 0) (N := 1) (by omega) (by omega)) dL_law_226 ?_
    rw [show f2 ((0 : Int32)).toNatClampNeg = r2.toInt64 from (ha9 hc0).trans (congrArg Int32.toInt64 (z3 hc0))]
    refine lv_iload hx hb dL_law_227 (lv_at hl 0 rfl) ?_
    refine lv_i2l hx hb dL_law_229 rfl ?_
    refine W.lcmp hx hb dL_law_230 ?_
    rw [show lg_cmp r2.toInt64 r2.toInt64 = 0 from by simp [lg_cmp]]
    refine lv_if_eq (tgt := 236) hx hb dL_law_231 (by decide) (fun c_3 => ?_) (fun c_3 => absurd rfl c_3)
    refine lv_goto (tgt := 635) hx hb dL_law_236 (by decide) ?_
    refine W.widen (k := cs + 4) (n := ss + 24) (by omega) (by omega) ?_
    exact kk σ2 τ2 f2 h D8 tn TK _ _ ls ⟨hX2, hMH2, hMD2, hO2⟩ hP hD hS (lv_sub hl [2, 3, 4, 5, 6] rfl)

set_option maxHeartbeats 4000000 in
set_option maxRecDepth 100000 in
theorem hn_case_find {p : Program} {e : Env} {s : State} {m : MethodId} {below : List Frame} {meth : Method} {c : Code} (l : Launch) (hl0 : l.stackTraces = false) {b L : Nat} {xs : Nat → Int32} (hL : L ≤ 3072) (C0 : lw_At p s m meth c b L xs) {D : va_G} {cI cL : ClassId} {sa ad am : Nat → Nat} {ao : Nat} (hG : hn_G s.heap.size sa s s.heap) (hNc : va_Nc hn_xS hn_xA s) (hK : va_K D vwCl (hn_ty cI cL) s) {i cs ss : Nat} (hi : i + 6 ≤ L) (hc : cs + 4 ≤ 601024) (hs : ss + 24 ≤ 7293034) {Q : State → Prop} (kk : ∀ (σ τ : Nat → Nat → Int32) (f : Nat → Int64) (h : Nat → Nat) (D9 : Nat → List hn_E) (tn TK : Nat) (H : Heap) (locs : List Loc) (ls : Array Slot), hn_LI σ τ h D9 tn TK → va_P D vwCl (hn_wL ad cI σ ao cL f am τ) H → va_D (fun q : Nat => s.heap.size ≤ q) (hn_wL ad cI σ ao cL f am τ) → va_S (fun q : Nat => s.heap.size ≤ q) s.heap H locs → lv_has ls 7 [(0, .ref b), (1, .ref (ad 0)), (2, .ref (am 0)), (3, .ref ao), (4, .int (nI i))] → W p l e room_1 s m #[Value.ref b] below meth c H locs (cs + 4) (ss + 24) Q (F0 m 635 ls [])) (σ τ : Nat → Nat → Int32) (f : Nat → Int64) (h : Nat → Nat) (D9 : Nat → List hn_E) (tn TK : Nat) (H : Heap) (locs : List Loc) (ls : Array Slot) : hn_LI σ τ h D9 tn TK → va_P D vwCl (hn_wL ad cI σ ao cL f am τ) H → va_D (fun q : Nat => s.heap.size ≤ q) (hn_wL ad cI σ ao cL f am τ) → va_S (fun q : Nat => s.heap.size ≤ q) s.heap H locs → lv_has ls 7 [(0, .ref b), (1, .ref (ad 0)), (2, .ref (am 0)), (3, .ref ao), (4, .int (nI i))] → W p l e room_1 s m #[Value.ref b] below meth c H locs cs ss Q (F0 m 239 ls []) := by
  obtain ⟨hx, hb, hr, hml, hown, hts0, hX, hbl, hlocks, hgv⟩ := id C0
  have hown : s.vm.findClass RL = some m.cls := hown
  have hts : ∀ w ∈ hn_tb, w.before #[Value.ref b] s = true := fun w h => hts0 w (List.mem_filter.mp h).1
  have hA : ∀ q : Nat, s.heap.size ≤ q → (fun q : Nat => s.heap.size ≤ q) q := fun _ h => h
  have hbA : ¬ (fun q : Nat => s.heap.size ≤ q) b := Nat.not_le.mpr hbl
  intro hI hP hD hS hl
  obtain ⟨hXR, hMH, hMD, hO⟩ := hI
  refine lv_aload_n hx hb dL_law_239 rfl (lv_at hl 1 rfl) ?_
  refine lv_aload_n hx hb dL_law_240 rfl (lv_at hl 0 rfl) ?_
  refine lv_iload hx hb dL_law_241 (lv_at hl 4 rfl) ?_
  refine lv_iconst (v := 1) hx hb dL_law_243 (by decide) ?_
  refine lv_iadd hx hb dL_law_244 ?_
  rw [show ((nI i) + 1 : Int32) = nI (i + 1) from nI_add i 1]
  refine va_sld hx hb hX hbl hbA hS (vp_in_nI (show i + 1 < L by omega) (by omega)) dL_law_245 ?_
  rw [nI_clamp (show i + 1 < 2 ^ 31 by omega)]
  refine lv_aload_n hx hb dL_law_246 rfl (lv_at hl 0 rfl) ?_
  refine lv_iload hx hb dL_law_247 (lv_at hl 4 rfl) ?_
  refine lv_iconst (v := 2) hx hb dL_law_249 (by decide) ?_
  refine lv_iadd hx hb dL_law_250 ?_
  rw [show ((nI i) + 2 : Int32) = nI (i + 2) from nI_add i 2]
  refine va_sld hx hb hX hbl hbA hS (vp_in_nI (show i + 2 < L by omega) (by omega)) dL_law_251 ?_
  rw [nI_clamp (show i + 2 < 2 ^ 31 by omega)]
  refine lv_aload_n hx hb dL_law_252 rfl (lv_at hl 3 rfl) ?_
  have hPc := hP.sub (ws' := hn_wH ad cI σ ao cL f) [0, 1, 2, 3, 4, 5, 6, 7, 8, 9, 10] rfl
  have hDc := hD.sub (ws' := hn_wH ad cI σ ao cL f) [0, 1, 2, 3, 4, 5, 6, 7, 8, 9, 10] (by decide) rfl
  have hFc := va_free (wc := hn_wH ad cI σ ao cL f) hD hS hA [0, 1, 2, 3, 4, 5, 6, 7, 8, 9, 10] rfl
  refine va_calli (vx_runSW (As := [.ref (ad 0), .int (xs (i + 1)), .int (xs (i + 2)), .ref ao]) (rest := []) ⟨hx, hb, hml, hown, hts⟩ (cL_find_ok l hl0 D cI cL s.heap.size sa ad σ ao f h D9 tn TK hXR hO (xs (i + 1)) (xs (i + 2)) _) (vx_cwSW 4 hts gL_L_find rfl rfl rfl (by decide +kernel) ⟨(Nat.le_of_ble_eq_true rfl), (Nat.le_of_ble_eq_true rfl)⟩) (hn_preH hPc hK hDc (Nat.le_refl _) hG hS (fun _ h => h) hNc) rfl rfl hl.1 rfl (lv_room (Nat.le_of_ble_eq_true rfl)) dL_law_253 ⟨show cs + 2 ≤ 601024 by omega, show ss + 12 ≤ 7293034 by omega⟩) hS (fun q _ h => hFc q h) hFc (fun r1 u t8 H1 locs ht hvm hw hB hz1 hk1 hS => ?_)
  obtain ⟨σ2, f2⟩ := u
  obtain ⟨hP1, hK1, hD1⟩ := hB
  rw [ht] at hP1
  obtain ⟨hP, hD⟩ := va_join (wr := hn_wM am cI τ) (w1 := hn_wH ad cI σ2 ao cL f2) hP hD [0, 1, 2, 3, 4, 5, 6, 7, 8, 9, 10] [11, 12, 13, 14, 15, 16, 17] rfl rfl (by decide) (by decide) hk1 hFc hP1 hD1
  have hP := hP.sub (ws' := hn_wL ad cI σ2 ao cL f2 am τ) [7, 8, 9, 10, 11, 12, 13, 14, 15, 16, 17, 0, 1, 2, 3, 4, 5, 6] rfl
  have hD := hD.sub (ws' := hn_wL ad cI σ2 ao cL f2 am τ) [7, 8, 9, 10, 11, 12, 13, 14, 15, 16, 17, 0, 1, 2, 3, 4, 5, 6] (by decide) rfl
  clear hPc hDc hFc hP1 hD1 hK1 hk1
  generalize H1 = H at hP hS ⊢
  try dsimp only at hw
  obtain ⟨c9, a9, hc3, er1, hop, ha9, hX2⟩ := hw
  subst er1
  refine lv_istore (lv' := [(5, .int (nI c9)), (0, .ref b), (1, .ref (ad 0)), (2, .ref (am 0)), (3, .ref ao), (4, .int (nI i))]) hx hb dL_law_256 hl (by decide) rfl (fun ls hl => ?_)
  refine lv_aload_n hx hb dL_law_258 rfl (lv_at hl 3 rfl) ?_
  refine lv_aload_n hx hb dL_law_259 rfl (lv_at hl 1 rfl) ?_
  refine lv_iload hx hb dL_law_260 (lv_at hl 5 rfl) ?_
  refine lv_iconst (v := 1) hx hb dL_law_262 (by decide) ?_
  refine lv_iadd hx hb dL_law_263 ?_
  rw [show ((nI i) + 1 : Int32) = nI (i + 1) from nI_add i 1]
  refine va_sld hx hb hX hbl hbA hS (vp_in_nI (show i + 1 < L by omega) (by omega)) dL_law_264 ?_
  rw [nI_clamp (show i + 1 < 2 ^ 31 by omega)]
  refine lv_aload_n hx hb dL_law_265 rfl (lv_at hl 1 rfl) ?_
  refine lv_iload hx hb dL_law_266 (lv_at hl 5 rfl) ?_
  refine lv_iconst (v := 2) hx hb dL_law_268 (by decide) ?_
  refine lv_iadd hx hb dL_law_269 ?_
  rw [show ((nI i) + 2 : Int32) = nI (i + 2) from nI_add i 2]
  refine va_sld hx hb hX hbl hbA hS (vp_in_nI (show i + 2 < L by omega) (by omega)) dL_law_270 ?_
  rw [nI_clamp (show i + 2 < 2 ^ 31 by omega)]
  have hPc := hP.sub (ws' := hn_wM am cI τ) [11, 12, 13, 14, 15, 16, 17] rfl
  have hDc := hD.sub (ws' := hn_wM am cI τ) [11, 12, 13, 14, 15, 16, 17] (by decide) rfl
  have hFc := va_free (wc := hn_wM am cI τ) hD hS hA [11, 12, 13, 14, 15, 16, 17] rfl
  refine va_calli (va_runV (As := [.int (xs (i + 1)), .int (xs (i + 2))]) (rest := []) ⟨hx, hb, hml, hown, hts⟩ (cM_find_ok l D cI cL am τ (xs (i + 1)) (xs (i + 2)) h D9 tn TK hMH hMD hO _) (cwV 2 hts gL_M_find rfl rfl rfl (by decide +kernel) ⟨(Nat.le_of_ble_eq_true rfl), (Nat.le_of_ble_eq_true rfl)⟩) (hn_preVW hPc hK hDc (ci := 1) (q0 := 0) rfl rfl) rfl rfl hl.1 rfl (lv_room (Nat.le_of_ble_eq_true rfl)) dL_law_271 ⟨show cs + 2 + 0 ≤ 601024 by omega, show ss + 12 + 0 ≤ 7293034 by omega⟩) hS (fun q _ h => hFc q h) hFc (fun r2 τ2 t8 H1 locs ht hvm hw hB hz1 hk1 hS => ?_)
  obtain ⟨hP1, hK1, hD1⟩ := hB
  rw [ht] at hP1
  obtain ⟨hP, hD⟩ := va_join (wr := hn_wH ad cI σ2 ao cL f2) (w1 := hn_wM am cI τ2) hP hD [11, 12, 13, 14, 15, 16, 17] [0, 1, 2, 3, 4, 5, 6, 7, 8, 9, 10] rfl rfl (by decide) (by decide) hk1 hFc hP1 hD1
  have hP := hP.sub (ws' := hn_wL ad cI σ2 ao cL f2 am τ2) [0, 1, 2, 3, 4, 5, 6, 7, 8, 9, 10, 11, 12, 13, 14, 15, 16, 17] rfl
  have hD := hD.sub (ws' := hn_wL ad cI σ2 ao cL f2 am τ2) [0, 1, 2, 3, 4, 5, 6, 7, 8, 9, 10, 11, 12, 13, 14, 15, 16, 17] (by decide) rfl
  clear hPc hDc hFc hP1 hD1 hK1 hk1
  generalize H1 = H at hP hS ⊢
  try dsimp only at hw
  obtain ⟨c8, hop2, ethr, hMH2, hMD2⟩ := hw
  obtain ⟨z1, z3⟩ := hn_find1 hop hop2
  subst z1
  refine lv_istore (lv' := [(6, .int r2), (5, .int (nI c9)), (0, .ref b), (1, .ref (ad 0)), (2, .ref (am 0)), (3, .ref ao), (4, .int (nI i))]) hx hb dL_law_274 hl (by decide) rfl (fun ls hl => ?_)
  refine lv_aload_n hx hb dL_law_276 rfl (lv_at hl 4 rfl) ?_
  have hPm := hP.sub (ws' := hn_wM am cI τ2) [11, 12, 13, 14, 15, 16, 17] rfl
  refine W.callR (W.runV (As := []) (rest := []) ⟨hx, hb, hml, hown, hts⟩ (cM_thrown_ok l D cI cL am τ2) (cwV 0 hts gL_M_thrown rfl rfl rfl (by decide +kernel) ⟨(Nat.le_of_ble_eq_true rfl), (Nat.le_of_ble_eq_true rfl)⟩) (hn_preV hPm hK (ci := 1) (q0 := 0) rfl rfl) rfl rfl hl.1 rfl (lv_room (Nat.le_of_ble_eq_true rfl)) dL_law_277 ⟨show cs + 2 + 0 + 0 ≤ 601024 by omega, show ss + 12 + 0 + 0 ≤ 7293034 by omega⟩) ?_
  refine W.eq (g2 := F0 m 280 ls [.int (τ2 0 0)]) rfl ?_
  rw [ethr]
  refine lv_iload hx hb dL_law_280 (lv_at hl 1 rfl) ?_
  refine lv_icmp_eq (tgt := 287) hx hb dL_law_282 (by decide) (fun c_4 => ?_) (fun c_4 => absurd rfl c_4)
  refine lv_iload hx hb dL_law_287 (lv_at hl 1 rfl) ?_
  refine lv_if_ne (tgt := 304) hx hb dL_law_289 (by decide) (fun c_5 => ?_) (fun c_5 => ?_)
  · skip
    refine lv_goto (tgt := 635) hx hb dL_law_304 (by decide) ?_
    refine W.widen (k := cs + 4) (n := ss + 24) (by omega) (by omega) ?_
    exact kk σ2 τ2 f2 h D9 tn TK _ _ ls ⟨hX2, hMH2, hMD2, hO⟩ hP hD hS (lv_sub hl [2, 3, 4, 5, 6] rfl)
  · skip
    have hc0 : c9 = 0 := (nI_eq (by omega) (by decide)).mp (show nI c9 = nI 0 from c_5)
    refine lv_aload_n hx hb dL_law_292 rfl (lv_at hl 5 rfl) ?_
    refine lv_iconst (v := 0) hx hb dL_law_293 (by decide) ?_
    refine va_lald hx hb hK hP 10 1 rfl rfl (i := 0) (vp_in_nI (n := 0) (N := 1) (by omega) (by omega)) dL_law_294 ?_
    rw [show f2 ((0 : Int32)).toNatClampNeg = r2.toInt64 from (ha9 hc0).trans (congrArg Int32.toInt64 (z3 hc0))]
    refine lv_iload hx hb dL_law_295 (lv_at hl 0 rfl) ?_
    refine lv_i2l hx hb dL_law_297 rfl ?_
    refine W.lcmp hx hb dL_law_298 ?_
    rw [show lg_cmp r2.toInt64 r2.toInt64 = 0 from by simp [lg_cmp]]
    refine lv_if_eq (tgt := 304) hx hb dL_law_299 (by decide) (fun c_6 => ?_) (fun c_6 => absurd rfl c_6)
    refine lv_goto (tgt := 635) hx hb dL_law_304 (by decide) ?_
    refine W.widen (k := cs + 4) (n := ss + 24) (by omega) (by omega) ?_
    exact kk σ2 τ2 f2 h D9 tn TK _ _ ls ⟨hX2, hMH2, hMD2, hO⟩ hP hD hS (lv_sub hl [2, 3, 4, 5, 6] rfl)

set_option maxHeartbeats 4000000 in
set_option maxRecDepth 100000 in
theorem hn_case_remove {p : Program} {e : Env} {s : State} {m : MethodId} {below : List Frame} {meth : Method} {c : Code} (l : Launch) (hl0 : l.stackTraces = false) {b L : Nat} {xs : Nat → Int32} (hL : L ≤ 3072) (C0 : lw_At p s m meth c b L xs) {D : va_G} {cI cL : ClassId} {sa ad am : Nat → Nat} {ao : Nat} (hG : hn_G s.heap.size sa s s.heap) (hNc : va_Nc hn_xS hn_xA s) (hK : va_K D vwCl (hn_ty cI cL) s) {i cs ss : Nat} (hi : i + 6 ≤ L) (hc : cs + 4 ≤ 601024) (hs : ss + 24 ≤ 7293034) {Q : State → Prop} (kk : ∀ (σ τ : Nat → Nat → Int32) (f : Nat → Int64) (h : Nat → Nat) (D9 : Nat → List hn_E) (tn TK : Nat) (H : Heap) (locs : List Loc) (ls : Array Slot), hn_LI σ τ h D9 tn TK → va_P D vwCl (hn_wL ad cI σ ao cL f am τ) H → va_D (fun q : Nat => s.heap.size ≤ q) (hn_wL ad cI σ ao cL f am τ) → va_S (fun q : Nat => s.heap.size ≤ q) s.heap H locs → lv_has ls 7 [(0, .ref b), (1, .ref (ad 0)), (2, .ref (am 0)), (3, .ref ao), (4, .int (nI i))] → W p l e room_1 s m #[Value.ref b] below meth c H locs (cs + 4) (ss + 24) Q (F0 m 635 ls [])) (σ τ : Nat → Nat → Int32) (f : Nat → Int64) (h : Nat → Nat) (D9 : Nat → List hn_E) (tn TK : Nat) (H : Heap) (locs : List Loc) (ls : Array Slot) : hn_LI σ τ h D9 tn TK → va_P D vwCl (hn_wL ad cI σ ao cL f am τ) H → va_D (fun q : Nat => s.heap.size ≤ q) (hn_wL ad cI σ ao cL f am τ) → va_S (fun q : Nat => s.heap.size ≤ q) s.heap H locs → lv_has ls 7 [(0, .ref b), (1, .ref (ad 0)), (2, .ref (am 0)), (3, .ref ao), (4, .int (nI i))] → W p l e room_1 s m #[Value.ref b] below meth c H locs cs ss Q (F0 m 307 ls []) := by
  obtain ⟨hx, hb, hr, hml, hown, hts0, hX, hbl, hlocks, hgv⟩ := id C0
  have hown : s.vm.findClass RL = some m.cls := hown
  have hts : ∀ w ∈ hn_tb, w.before #[Value.ref b] s = true := fun w h => hts0 w (List.mem_filter.mp h).1
  have hA : ∀ q : Nat, s.heap.size ≤ q → (fun q : Nat => s.heap.size ≤ q) q := fun _ h => h
  have hbA : ¬ (fun q : Nat => s.heap.size ≤ q) b := Nat.not_le.mpr hbl
  intro hI hP hD hS hl
  obtain ⟨hXR, hMH, hMD, hO⟩ := hI
  refine lv_aload_n hx hb dL_law_307 rfl (lv_at hl 1 rfl) ?_
  refine lv_aload_n hx hb dL_law_308 rfl (lv_at hl 0 rfl) ?_
  refine lv_iload hx hb dL_law_309 (lv_at hl 4 rfl) ?_
  refine lv_iconst (v := 1) hx hb dL_law_311 (by decide) ?_
  refine lv_iadd hx hb dL_law_312 ?_
  rw [show ((nI i) + 1 : Int32) = nI (i + 1) from nI_add i 1]
  refine va_sld hx hb hX hbl hbA hS (vp_in_nI (show i + 1 < L by omega) (by omega)) dL_law_313 ?_
  rw [nI_clamp (show i + 1 < 2 ^ 31 by omega)]
  refine lv_aload_n hx hb dL_law_314 rfl (lv_at hl 0 rfl) ?_
  refine lv_iload hx hb dL_law_315 (lv_at hl 4 rfl) ?_
  refine lv_iconst (v := 2) hx hb dL_law_317 (by decide) ?_
  refine lv_iadd hx hb dL_law_318 ?_
  rw [show ((nI i) + 2 : Int32) = nI (i + 2) from nI_add i 2]
  refine va_sld hx hb hX hbl hbA hS (vp_in_nI (show i + 2 < L by omega) (by omega)) dL_law_319 ?_
  rw [nI_clamp (show i + 2 < 2 ^ 31 by omega)]
  refine lv_aload_n hx hb dL_law_320 rfl (lv_at hl 3 rfl) ?_
  have hPc := hP.sub (ws' := hn_wH ad cI σ ao cL f) [0, 1, 2, 3, 4, 5, 6, 7, 8, 9, 10] rfl
  have hDc := hD.sub (ws' := hn_wH ad cI σ ao cL f) [0, 1, 2, 3, 4, 5, 6, 7, 8, 9, 10] (by decide) rfl
  have hFc := va_free (wc := hn_wH ad cI σ ao cL f) hD hS hA [0, 1, 2, 3, 4, 5, 6, 7, 8, 9, 10] rfl
  refine va_calli (vx_runSW (As := [.ref (ad 0), .int (xs (i + 1)), .int (xs (i + 2)), .ref ao]) (rest := []) ⟨hx, hb, hml, hown, hts⟩ (cL_remove_ok l hl0 D cI cL s.heap.size sa ad σ ao f h D9 tn TK hXR hO (xs (i + 1)) (xs (i + 2)) _) (vx_cwSW 4 hts gL_L_remove rfl rfl rfl (by decide +kernel) ⟨(Nat.le_of_ble_eq_true rfl), (Nat.le_of_ble_eq_true rfl)⟩) (hn_preH hPc hK hDc (Nat.le_refl _) hG hS (fun _ h => h) hNc) rfl rfl hl.1 rfl (lv_room (Nat.le_of_ble_eq_true rfl)) dL_law_321 ⟨show cs + 3 ≤ 601024 by omega, show ss + 18 ≤ 7293034 by omega⟩) hS (fun q _ h => hFc q h) hFc (fun r1 u t8 H1 locs ht hvm hw hB hz1 hk1 hS => ?_)
  obtain ⟨σ2, f2⟩ := u
  obtain ⟨hP1, hK1, hD1⟩ := hB
  rw [ht] at hP1
  obtain ⟨hP, hD⟩ := va_join (wr := hn_wM am cI τ) (w1 := hn_wH ad cI σ2 ao cL f2) hP hD [0, 1, 2, 3, 4, 5, 6, 7, 8, 9, 10] [11, 12, 13, 14, 15, 16, 17] rfl rfl (by decide) (by decide) hk1 hFc hP1 hD1
  have hP := hP.sub (ws' := hn_wL ad cI σ2 ao cL f2 am τ) [7, 8, 9, 10, 11, 12, 13, 14, 15, 16, 17, 0, 1, 2, 3, 4, 5, 6] rfl
  have hD := hD.sub (ws' := hn_wL ad cI σ2 ao cL f2 am τ) [7, 8, 9, 10, 11, 12, 13, 14, 15, 16, 17, 0, 1, 2, 3, 4, 5, 6] (by decide) rfl
  clear hPc hDc hFc hP1 hD1 hK1 hk1
  generalize H1 = H at hP hS ⊢
  try dsimp only at hw
  obtain ⟨c9, a9, D8, hc3, er1, hop, ha9, hX2⟩ := hw
  subst er1
  refine lv_istore (lv' := [(5, .int (nI c9)), (0, .ref b), (1, .ref (ad 0)), (2, .ref (am 0)), (3, .ref ao), (4, .int (nI i))]) hx hb dL_law_324 hl (by decide) rfl (fun ls hl => ?_)
  refine lv_aload_n hx hb dL_law_326 rfl (lv_at hl 3 rfl) ?_
  refine lv_aload_n hx hb dL_law_327 rfl (lv_at hl 1 rfl) ?_
  refine lv_iload hx hb dL_law_328 (lv_at hl 5 rfl) ?_
  refine lv_iconst (v := 1) hx hb dL_law_330 (by decide) ?_
  refine lv_iadd hx hb dL_law_331 ?_
  rw [show ((nI i) + 1 : Int32) = nI (i + 1) from nI_add i 1]
  refine va_sld hx hb hX hbl hbA hS (vp_in_nI (show i + 1 < L by omega) (by omega)) dL_law_332 ?_
  rw [nI_clamp (show i + 1 < 2 ^ 31 by omega)]
  refine lv_aload_n hx hb dL_law_333 rfl (lv_at hl 1 rfl) ?_
  refine lv_iload hx hb dL_law_334 (lv_at hl 5 rfl) ?_
  refine lv_iconst (v := 2) hx hb dL_law_336 (by decide) ?_
  refine lv_iadd hx hb dL_law_337 ?_
  rw [show ((nI i) + 2 : Int32) = nI (i + 2) from nI_add i 2]
  refine va_sld hx hb hX hbl hbA hS (vp_in_nI (show i + 2 < L by omega) (by omega)) dL_law_338 ?_
  rw [nI_clamp (show i + 2 < 2 ^ 31 by omega)]
  have hPc := hP.sub (ws' := hn_wM am cI τ) [11, 12, 13, 14, 15, 16, 17] rfl
  have hDc := hD.sub (ws' := hn_wM am cI τ) [11, 12, 13, 14, 15, 16, 17] (by decide) rfl
  have hFc := va_free (wc := hn_wM am cI τ) hD hS hA [11, 12, 13, 14, 15, 16, 17] rfl
  refine va_calli (va_runV (As := [.int (xs (i + 1)), .int (xs (i + 2))]) (rest := []) ⟨hx, hb, hml, hown, hts⟩ (cM_remove_ok l D cI cL am τ (xs (i + 1)) (xs (i + 2)) h D9 tn TK hMH hMD hO _) (cwV 2 hts gL_M_remove rfl rfl rfl (by decide +kernel) ⟨(Nat.le_of_ble_eq_true rfl), (Nat.le_of_ble_eq_true rfl)⟩) (hn_preVW hPc hK hDc (ci := 1) (q0 := 0) rfl rfl) rfl rfl hl.1 rfl (lv_room (Nat.le_of_ble_eq_true rfl)) dL_law_339 ⟨show cs + 3 + 0 ≤ 601024 by omega, show ss + 18 + 0 ≤ 7293034 by omega⟩) hS (fun q _ h => hFc q h) hFc (fun r2 τ2 t8 H1 locs ht hvm hw hB hz1 hk1 hS => ?_)
  obtain ⟨hP1, hK1, hD1⟩ := hB
  rw [ht] at hP1
  obtain ⟨hP, hD⟩ := va_join (wr := hn_wH ad cI σ2 ao cL f2) (w1 := hn_wM am cI τ2) hP hD [11, 12, 13, 14, 15, 16, 17] [0, 1, 2, 3, 4, 5, 6, 7, 8, 9, 10] rfl rfl (by decide) (by decide) hk1 hFc hP1 hD1
  have hP := hP.sub (ws' := hn_wL ad cI σ2 ao cL f2 am τ2) [0, 1, 2, 3, 4, 5, 6, 7, 8, 9, 10, 11, 12, 13, 14, 15, 16, 17] rfl
  have hD := hD.sub (ws' := hn_wL ad cI σ2 ao cL f2 am τ2) [0, 1, 2, 3, 4, 5, 6, 7, 8, 9, 10, 11, 12, 13, 14, 15, 16, 17] (by decide) rfl
  clear hPc hDc hFc hP1 hD1 hK1 hk1
  generalize H1 = H at hP hS ⊢
  try dsimp only at hw
  obtain ⟨c8, D7, hop2, ethr, hMH2, hMD2, hO2⟩ := hw
  obtain ⟨z1, z2, z3⟩ := hn_remove1 hop hop2
  subst z1
  subst z2
  refine lv_istore (lv' := [(6, .int r2), (5, .int (nI c9)), (0, .ref b), (1, .ref (ad 0)), (2, .ref (am 0)), (3, .ref ao), (4, .int (nI i))]) hx hb dL_law_342 hl (by decide) rfl (fun ls hl => ?_)
  refine lv_aload_n hx hb dL_law_344 rfl (lv_at hl 4 rfl) ?_
  have hPm := hP.sub (ws' := hn_wM am cI τ2) [11, 12, 13, 14, 15, 16, 17] rfl
  refine W.callR (W.runV (As := []) (rest := []) ⟨hx, hb, hml, hown, hts⟩ (cM_thrown_ok l D cI cL am τ2) (cwV 0 hts gL_M_thrown rfl rfl rfl (by decide +kernel) ⟨(Nat.le_of_ble_eq_true rfl), (Nat.le_of_ble_eq_true rfl)⟩) (hn_preV hPm hK (ci := 1) (q0 := 0) rfl rfl) rfl rfl hl.1 rfl (lv_room (Nat.le_of_ble_eq_true rfl)) dL_law_345 ⟨show cs + 3 + 0 + 0 ≤ 601024 by omega, show ss + 18 + 0 + 0 ≤ 7293034 by omega⟩) ?_
  refine W.eq (g2 := F0 m 348 ls [.int (τ2 0 0)]) rfl ?_
  rw [ethr]
  refine lv_iload hx hb dL_law_348 (lv_at hl 1 rfl) ?_
  refine lv_icmp_eq (tgt := 355) hx hb dL_law_350 (by decide) (fun c_7 => ?_) (fun c_7 => absurd rfl c_7)
  refine lv_iload hx hb dL_law_355 (lv_at hl 1 rfl) ?_
  refine lv_if_ne (tgt := 372) hx hb dL_law_357 (by decide) (fun c_8 => ?_) (fun c_8 => ?_)
  · skip
    refine lv_goto (tgt := 635) hx hb dL_law_372 (by decide) ?_
    refine W.widen (k := cs + 4) (n := ss + 24) (by omega) (by omega) ?_
    exact kk σ2 τ2 f2 h D8 tn TK _ _ ls ⟨hX2, hMH2, hMD2, hO2⟩ hP hD hS (lv_sub hl [2, 3, 4, 5, 6] rfl)
  · skip
    have hc0 : c9 = 0 := (nI_eq (by omega) (by decide)).mp (show nI c9 = nI 0 from c_8)
    refine lv_aload_n hx hb dL_law_360 rfl (lv_at hl 5 rfl) ?_
    refine lv_iconst (v := 0) hx hb dL_law_361 (by decide) ?_
    refine va_lald hx hb hK hP 10 1 rfl rfl (i := 0) (vp_in_nI (n := 0) (N := 1) (by omega) (by omega)) dL_law_362 ?_
    rw [show f2 ((0 : Int32)).toNatClampNeg = r2.toInt64 from (ha9 hc0).trans (congrArg Int32.toInt64 (z3 hc0))]
    refine lv_iload hx hb dL_law_363 (lv_at hl 0 rfl) ?_
    refine lv_i2l hx hb dL_law_365 rfl ?_
    refine W.lcmp hx hb dL_law_366 ?_
    rw [show lg_cmp r2.toInt64 r2.toInt64 = 0 from by simp [lg_cmp]]
    refine lv_if_eq (tgt := 372) hx hb dL_law_367 (by decide) (fun c_9 => ?_) (fun c_9 => absurd rfl c_9)
    refine lv_goto (tgt := 635) hx hb dL_law_372 (by decide) ?_
    refine W.widen (k := cs + 4) (n := ss + 24) (by omega) (by omega) ?_
    exact kk σ2 τ2 f2 h D8 tn TK _ _ ls ⟨hX2, hMH2, hMD2, hO2⟩ hP hD hS (lv_sub hl [2, 3, 4, 5, 6] rfl)
