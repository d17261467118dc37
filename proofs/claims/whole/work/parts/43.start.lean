set_option maxHeartbeats 4000000 in
set_option maxRecDepth 100000 in
theorem whole_start {p : Program} {e : Env} {s : State} {m : MethodId} {below : List Frame} {meth : Method} {c : Code} (l : Launch) (hl0 : l.stackTraces = false) {b L : Nat} {xs : Nat → Int32} (hL : L ≤ 3072) (C0 : lw_At p s m meth c b L xs) : W p l e room_1 s m #[Value.ref b] below meth c s.heap [] 0 0 (lw_Z below #[Value.ref b] s) (entryFrame m ([Value.ref b] : List Value).toArray 7) := by
  obtain ⟨hx, hb, hr, hml, hown, hts0, hX, hbl, hlocks, hgv⟩ := id C0
  have hown : s.vm.findClass RL = some m.cls := hown
  have hts : ∀ w ∈ hn_tb, w.before #[Value.ref b] s = true := fun w h => hts0 w (List.mem_filter.mp h).1
  have hA : ∀ q : Nat, s.heap.size ≤ q → (fun q : Nat => s.heap.size ≤ q) q := fun _ h => h
  have hbA : ¬ (fun q : Nat => s.heap.size ≤ q) b := Nat.not_le.mpr hbl
  have hs9 := flat_of_before _ hgv
  have hNc : va_Nc hn_xS hn_xA s := va_Nc.of (hs9 (Cond.not (.castable hn_xS hn_xA)) (by decide +kernel))
  obtain ⟨D, cI, cL, hK⟩ := hn_start_K hts
  have hG := hn_start_G (hK.1 0 _ rfl).2.1 hts0 (hs9 _ (by decide +kernel)) (hs9 _ (by decide +kernel))
  generalize hn_sa s = sa at hG
  have hS : va_S (fun q : Nat => s.heap.size ≤ q) s.heap s.heap [] := va_S.rf
  have hP : va_P D vwCl [] s.heap := fun k q h => by simp at h
  have hD : va_D (fun q : Nat => s.heap.size ≤ q) [] := ⟨fun i j p q h => by simp at h, fun k q h => by simp at h⟩
  have hl := lv_entry ([.ref b]) (n := 7) (Nat.le_of_ble_eq_true rfl)
  rw [lg_entry_eq]
  generalize (lg_sl ([.ref b]) ++ List.replicate (7 - (lg_sl ([.ref b])).length) Slot.unset).toArray = ls at hl ⊢
  have hl : lv_has ls 7 [(0, .ref b)] := hl
  refine va_new (ci := 0) (fs := hn_fX) (C := RX) (T := FX) (N := 10) hx hb hts iX tX tX_ok hown (hts _ mL_c_8) (hts _ mX_inst) (hts _ mX_ini) hK hP hD hS hA rfl (by decide +kernel) (Nat.le_of_ble_eq_true rfl) (Nat.le_of_ble_eq_true rfl) dL_law_0 (fun qX H hP hD hS => ?_)
  have hP : va_P D vwCl ([(qX, .inr (0, hn_fX))]) H := hP
  have hD : va_D (fun q : Nat => s.heap.size ≤ q) ([(qX, .inr (0, hn_fX))]) := hD
  refine W.widen (k := 1) (n := 10) (Nat.le_of_ble_eq_true rfl) (Nat.le_of_ble_eq_true rfl) ?_
  refine lv_dup hx hb dL_law_3 rfl ?_
  have hPc := hP.sub (ws' := ([(qX, .inr (0, hn_fX))] : va_W)) [0] rfl
  have hDc := hD.sub (ws' := ([(qX, .inr (0, hn_fX))] : va_W)) [0] (by decide) rfl
  have hFc := va_free (wc := ([(qX, .inr (0, hn_fX))] : va_W)) hD hS hA [0] rfl
  refine va_callv (va_runI (As := []) (rest := [.ref qX]) ⟨hx, hb, hml, hown, hts⟩ (cX_init_ok l D cI cL qX _) (cwI 0 hts gL_X_init rfl rfl rfl (hts _ mX_ini) (hts _ mL_l_X_init) (hts _ mX_im_init) rfl (by decide +kernel) ⟨(Nat.le_of_ble_eq_true rfl), (Nat.le_of_ble_eq_true rfl)⟩) (hn_preIW hPc hK hDc) rfl rfl hl.1 rfl (lv_room (Nat.le_of_ble_eq_true rfl)) dL_law_4 ⟨(Nat.le_of_ble_eq_true rfl), (Nat.le_of_ble_eq_true rfl)⟩) hS (fun q _ h => hFc q h) hFc (fun u t8 H1 locs ht hvm hw hB hz1 hk1 hS => ?_)
  obtain ⟨ad, σ⟩ := u
  obtain ⟨hP1, hK1, hD1⟩ := hB
  rw [ht] at hP1
  obtain ⟨hP2, hD2⟩ := va_join (wr := []) (w1 := hn_wX ad cI σ) hP hD [0] [] rfl rfl (by decide) (by decide) hk1 hFc hP1 hD1
  clear hPc hDc hFc hP1 hD1 hK1 hk1
  generalize H1 = H at hP2 hS ⊢
  try dsimp only at hw
  obtain ⟨ea, hXR⟩ := hw
  subst ea
  have hP : va_P D vwCl (hn_wX ad cI σ) H := hP2
  have hD : va_D (fun q : Nat => s.heap.size ≤ q) (hn_wX ad cI σ) := hD2
  refine W.widen (k := 10) (n := 3625) (Nat.le_of_ble_eq_true rfl) (Nat.le_of_ble_eq_true rfl) ?_
  refine lv_astore_n (lv' := [(1, .ref (ad 0)), (0, .ref b)]) hx hb dL_law_7 rfl hl (by decide) rfl (fun ls hl => ?_)
  refine va_new (ci := 1) (fs := hn_fM) (C := RM) (T := FM) (N := 8) hx hb hts iM tM tM_ok hown (hts _ mL_c_38) (hts _ mM_inst) (hts _ mM_ini) hK hP hD hS hA rfl (by decide +kernel) (Nat.le_of_ble_eq_true rfl) (Nat.le_of_ble_eq_true rfl) dL_law_8 (fun qM H hP hD hS => ?_)
  have hP : va_P D vwCl (hn_wX ad cI σ ++ [(qM, .inr (1, hn_fM))]) H := hP
  have hD : va_D (fun q : Nat => s.heap.size ≤ q) (hn_wX ad cI σ ++ [(qM, .inr (1, hn_fM))]) := hD
  refine W.widen (k := 11) (n := 3633) (Nat.le_of_ble_eq_true rfl) (Nat.le_of_ble_eq_true rfl) ?_
  refine lv_dup hx hb dL_law_11 rfl ?_
  have hPc := hP.sub (ws' := ([(qM, .inr (1, hn_fM))] : va_W)) [10] rfl
  have hDc := hD.sub (ws' := ([(qM, .inr (1, hn_fM))] : va_W)) [10] (by decide) rfl
  have hFc := va_free (wc := ([(qM, .inr (1, hn_fM))] : va_W)) hD hS hA [10] rfl
  refine va_callv (va_runI (As := []) (rest := [.ref qM]) ⟨hx, hb, hml, hown, hts⟩ (cM_init_ok l D cI cL qM _) (cwI 0 hts gL_M_init rfl rfl rfl (hts _ mM_ini) (hts _ mL_l_M_init) (hts _ mM_im_init) rfl (by decide +kernel) ⟨(Nat.le_of_ble_eq_true rfl), (Nat.le_of_ble_eq_true rfl)⟩) (hn_preIW hPc hK hDc) rfl rfl hl.1 rfl (lv_room (Nat.le_of_ble_eq_true rfl)) dL_law_12 ⟨(Nat.le_of_ble_eq_true rfl), (Nat.le_of_ble_eq_true rfl)⟩) hS (fun q _ h => hFc q h) hFc (fun u t8 H1 locs ht hvm hw hB hz1 hk1 hS => ?_)
  obtain ⟨am, τ⟩ := u
  obtain ⟨hP1, hK1, hD1⟩ := hB
  rw [ht] at hP1
  obtain ⟨hP2, hD2⟩ := va_join (wr := hn_wX ad cI σ) (w1 := hn_wM am cI τ) hP hD [10] [0, 1, 2, 3, 4, 5, 6, 7, 8, 9] rfl rfl (by decide) (by decide) hk1 hFc hP1 hD1
  clear hPc hDc hFc hP1 hD1 hK1 hk1
  generalize H1 = H at hP2 hS ⊢
  try dsimp only at hw
  obtain ⟨ea, hMH, hMD⟩ := hw
  subst ea
  have hP : va_P D vwCl (hn_wX ad cI σ ++ hn_wM am cI τ) H := hP2
  have hD : va_D (fun q : Nat => s.heap.size ≤ q) (hn_wX ad cI σ ++ hn_wM am cI τ) := hD2
  refine W.widen (k := 17) (n := 12129) (Nat.le_of_ble_eq_true rfl) (Nat.le_of_ble_eq_true rfl) ?_
  refine lv_astore_n (lv' := [(2, .ref (am 0)), (1, .ref (ad 0)), (0, .ref b)]) hx hb dL_law_15 rfl hl (by decide) rfl (fun ls hl => ?_)
  refine lv_iconst (v := 1) hx hb dL_law_16 (by decide) ?_
  refine hn_newl hx hb (hts _ mA_long) hK hP hD hS hA (N' := 1) (by decide) (by decide) (by decide) (Nat.le_of_ble_eq_true rfl) (Nat.le_of_ble_eq_true rfl) dL_law_17 (fun ao H hP hD hS => ?_)
  refine W.widen (k := 18) (n := 12130) (by decide) (by decide) ?_
  have hP := hP.sub (ws' := hn_wL ad cI σ ao cL (fun _ => 0) am τ) [0, 1, 2, 3, 4, 5, 6, 7, 8, 9, 17, 10, 11, 12, 13, 14, 15, 16] rfl
  have hD := hD.sub (ws' := hn_wL ad cI σ ao cL (fun _ => 0) am τ) [0, 1, 2, 3, 4, 5, 6, 7, 8, 9, 17, 10, 11, 12, 13, 14, 15, 16] (by decide) rfl
  refine lv_astore_n (lv' := [(3, .ref ao), (2, .ref (am 0)), (1, .ref (ad 0)), (0, .ref b)]) hx hb dL_law_19 rfl hl (by decide) rfl (fun ls hl => ?_)
  refine lv_iconst (v := 0) hx hb dL_law_20 (by decide) ?_
  refine lv_istore (lv' := [(4, .int 0), (3, .ref ao), (2, .ref (am 0)), (1, .ref (ad 0)), (0, .ref b)]) hx hb dL_law_21 hl (by decide) rfl (fun ls hl => ?_)
  exact hn_loop l hl0 hL C0 hG hNc hK (L + 1) 0 (by omega) (Nat.zero_le _) σ τ (fun _ => 0) (fun _ => 0) (fun _ => []) 0 0 H _ ls ⟨hXR, hMH, hMD, hn_DO0⟩ hP hD hS (lv_sub hl [4, 3, 2, 1, 0] rfl)
