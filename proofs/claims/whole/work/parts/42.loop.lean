theorem hn_guard {L i : Nat} (hL : L ≤ 3072) (hi : i ≤ L) (h : ¬ nI L - 6 < nI i) : i + 6 ≤ L := by
  rw [Int32.lt_iff_toInt_lt, show (6 : Int32) = nI 6 from rfl, pk_sub_toInt (by omega) (by omega), nI_toInt (by omega)] at h
  omega
set_option maxHeartbeats 4000000 in
set_option maxRecDepth 100000 in
theorem hn_loop {p : Program} {e : Env} {s : State} {m : MethodId} {below : List Frame} {meth : Method} {c : Code} (l : Launch) (hl0 : l.stackTraces = false) {b L : Nat} {xs : Nat → Int32} (hL : L ≤ 3072) (C0 : lw_At p s m meth c b L xs) {D : va_G} {cI cL : ClassId} {sa ad am : Nat → Nat} {ao : Nat} (hG : hn_G s.heap.size sa s s.heap) (hNc : va_Nc hn_xS hn_xA s) (hK : va_K D vwCl (hn_ty cI cL) s) : ∀ (k j : Nat), L < 6 * j + 6 * k → 6 * j ≤ L → ∀ (σ τ : Nat → Nat → Int32) (f : Nat → Int64) (h : Nat → Nat) (D9 : Nat → List hn_E) (tn TK : Nat) (H : Heap) (locs : List Loc) (ls : Array Slot), hn_LI σ τ h D9 tn TK → va_P D vwCl (hn_wL ad cI σ ao cL f am τ) H → va_D (fun q : Nat => s.heap.size ≤ q) (hn_wL ad cI σ ao cL f am τ) → va_S (fun q : Nat => s.heap.size ≤ q) s.heap H locs → lv_has ls 7 [(0, .ref b), (1, .ref (ad 0)), (2, .ref (am 0)), (3, .ref ao), (4, .int (nI (6 * j)))] → W p l e room_1 s m #[Value.ref b] below meth c H locs (18 + 4 * j) (12130 + 24 * j) (lw_Z below #[Value.ref b] s) (F0 m 23 ls []) := by
  obtain ⟨hx, hb, hr, hml, hown, hts0, hX, hbl, hlocks, hgv⟩ := id C0
  have hown : s.vm.findClass RL = some m.cls := hown
  have hts : ∀ w ∈ hn_tb, w.before #[Value.ref b] s = true := fun w h => hts0 w (List.mem_filter.mp h).1
  have hA : ∀ q : Nat, s.heap.size ≤ q → (fun q : Nat => s.heap.size ≤ q) q := fun _ h => h
  have hbA : ¬ (fun q : Nat => s.heap.size ≤ q) b := Nat.not_le.mpr hbl
  intro k
  induction k with
  | zero =>
    intro j hk hj
    exact absurd hk (by omega)
  | succ k ih =>
    intro j hk hj σ τ f h D9 tn TK H locs ls hI hP hD hS hl
    refine lv_iload hx hb dL_law_23 (lv_at hl 4 rfl) ?_
    refine lv_aload_n hx hb dL_law_25 rfl (lv_at hl 0 rfl) ?_
    refine va_slen hx hb hX hbl hbA hS dL_law_26 ?_
    refine W.eq (g2 := F0 m 27 ls [.int (nI L), .int (nI (6 * j))]) rfl ?_
    refine lv_bipush (v := 6) hx hb dL_law_27 (by decide) ?_
    refine lv_isub hx hb dL_law_29 ?_
    refine lv_icmp_gt (tgt := 641) hx hb dL_law_30 (by decide) (fun c_22 => ?_) (fun c_22 => ?_)
    · skip
      refine W.widen (k := 601024) (n := 7293034) (by omega) (by omega) ?_
      refine va_forget (fun q hq => hS.2.2 q hq) ?_
      refine lv_iconst (v := 1) hx hb dL_law_641 (by decide) ?_
      exact lw_ret hx hb hr hlocks dL_law_642
    · skip
      have hi6 := hn_guard hL hj c_22
      refine lv_aload_n hx hb dL_law_33 rfl (lv_at hl 0 rfl) ?_
      refine lv_iload hx hb dL_law_34 (lv_at hl 4 rfl) ?_
      refine va_sld hx hb hX hbl hbA hS (vp_in_nI (show 6 * j < L by omega) (by omega)) dL_law_36 ?_
      rw [nI_clamp (show 6 * j < 2 ^ 31 by omega)]
      refine lv_bipush (v := 7) hx hb dL_law_37 (by decide) ?_
      refine lv_iand hx hb dL_law_39 ?_
      obtain ⟨n, hn, en⟩ := pk_andE (xs (6 * j)) (m := 7) 3 (by decide)
      rw [en]
      have kk : ∀ (σ τ : Nat → Nat → Int32) (f : Nat → Int64) (h : Nat → Nat) (D9 : Nat → List hn_E) (tn TK : Nat) (H : Heap) (locs : List Loc) (ls : Array Slot), hn_LI σ τ h D9 tn TK → va_P D vwCl (hn_wL ad cI σ ao cL f am τ) H → va_D (fun q : Nat => s.heap.size ≤ q) (hn_wL ad cI σ ao cL f am τ) → va_S (fun q : Nat => s.heap.size ≤ q) s.heap H locs → lv_has ls 7 [(0, .ref b), (1, .ref (ad 0)), (2, .ref (am 0)), (3, .ref ao), (4, .int (nI (6 * j)))] → W p l e room_1 s m #[Value.ref b] below meth c H locs (18 + 4 * j + 4) (12130 + 24 * j + 24) (lw_Z below #[Value.ref b] s) (F0 m 635 ls []) := by
        intro σ τ f h D9 tn TK H locs ls hI hP hD hS hl
        refine lv_iinc (v := nI (6 * (j + 1))) (lv' := [(4, .int (nI (6 * (j + 1)))), (0, .ref b), (1, .ref (ad 0)), (2, .ref (am 0)), (3, .ref ao)]) hx hb dL_law_635 hl (k := 4) rfl (show nI (6 * j) + nI 6 = _ from by rw [nI_add]; rfl) (by decide) rfl (fun ls hl => ?_)
        refine lv_goto (tgt := 23) hx hb dL_law_638 (by decide) ?_
        refine W.widen (k := 18 + 4 * (j + 1)) (n := 12130 + 24 * (j + 1)) (by omega) (by omega) ?_
        exact ih (j + 1) (by omega) (by omega) σ τ f h D9 tn TK H locs ls hI hP hD hS (lv_sub hl [1, 2, 3, 4, 0] rfl)
      have hn8 : n = 0 ∨ n = 1 ∨ n = 2 ∨ n = 3 ∨ n = 4 ∨ n = 5 ∨ n = 6 ∨ n = 7 := by have hn : n < 8 := hn; omega
      rcases hn8 with rfl | rfl | rfl | rfl | rfl | rfl | rfl | rfl
      · refine lv_tableIn (off := 48) (tgt := 88) hx hb dL_law_40 (by decide +kernel) (by decide +kernel) (by decide +kernel) (by decide) ?_
        exact hn_case_say l hl0 hL C0 hG hNc hK hi6 (by omega) (by omega) kk σ τ f h D9 tn TK H locs ls hI hP hD hS hl
      · refine lv_tableIn (off := 119) (tgt := 159) hx hb dL_law_40 (by decide +kernel) (by decide +kernel) (by decide +kernel) (by decide) ?_
        exact hn_case_add l hl0 hL C0 hG hNc hK hi6 (by omega) (by omega) kk σ τ f h D9 tn TK H locs ls hI hP hD hS hl
      · refine lv_tableIn (off := 199) (tgt := 239) hx hb dL_law_40 (by decide +kernel) (by decide +kernel) (by decide +kernel) (by decide) ?_
        exact hn_case_find l hl0 hL C0 hG hNc hK hi6 (by omega) (by omega) kk σ τ f h D9 tn TK H locs ls hI hP hD hS hl
      · refine lv_tableIn (off := 267) (tgt := 307) hx hb dL_law_40 (by decide +kernel) (by decide +kernel) (by decide +kernel) (by decide) ?_
        exact hn_case_remove l hl0 hL C0 hG hNc hK hi6 (by omega) (by omega) kk σ τ f h D9 tn TK H locs ls hI hP hD hS hl
      · refine lv_tableIn (off := 335) (tgt := 375) hx hb dL_law_40 (by decide +kernel) (by decide +kernel) (by decide +kernel) (by decide) ?_
        exact hn_case_change l hl0 hL C0 hG hNc hK hi6 (by omega) (by omega) kk σ τ f h D9 tn TK H locs ls hI hP hD hS hl
      · refine lv_tableIn (off := 415) (tgt := 455) hx hb dL_law_40 (by decide +kernel) (by decide +kernel) (by decide +kernel) (by decide) ?_
        exact hn_case_size l hl0 hL C0 hG hNc hK hi6 (by omega) (by omega) kk σ τ f h D9 tn TK H locs ls hI hP hD hS hl
      · refine lv_tableIn (off := 471) (tgt := 511) hx hb dL_law_40 (by decide +kernel) (by decide +kernel) (by decide +kernel) (by decide) ?_
        exact hn_case_nth l hl0 hL C0 hG hNc hK hi6 (by omega) (by omega) kk σ τ f h D9 tn TK H locs ls hI hP hD hS hl
      · refine lv_tableIn (off := 539) (tgt := 579) hx hb dL_law_40 (by decide +kernel) (by decide +kernel) (by decide +kernel) (by decide) ?_
        exact hn_case_byteAt l hl0 hL C0 hG hNc hK hi6 (by omega) (by omega) kk σ τ f h D9 tn TK H locs ls hI hP hD hS hl
section
def hn_sa (s : State) : Nat → Nat := fun k => match (Term.string RX k).eval #[] s none [] s with
  | some (.ref a) => a
  | _ => 0
theorem hn_sr : ∀ q ∈ hn_strs, Cond.stringRef RX q.1 q.2 ∈ lw_tbl := by decide +kernel
theorem hn_ls1 : Cond.laysStatic Bundle.tN "UNASSIGNED_STACK" Bundle.steD ∈ lw_tbl := by decide +kernel
theorem hn_ls2 : Cond.laysStatic Bundle.tN "SUPPRESSED_SENTINEL" Bundle.listD ∈ lw_tbl := by decide +kernel
theorem hn_it : Cond.initialized Bundle.tN ∈ lw_tbl := by decide +kernel
theorem hn_start_G {s : State} {A : Array Value} {cx : ClassId} (hcx : s.vm.findClass RX = some cx) (hts : ∀ w ∈ lw_tbl, w.before A s = true) (h1 : (Cond.isRef (.static Bundle.tN "UNASSIGNED_STACK" Bundle.steD)).before A s = true) (h2 : (Cond.isRef (.static Bundle.tN "SUPPRESSED_SENTINEL" Bundle.listD)).before A s = true) : hn_G s.heap.size (hn_sa s) s s.heap := by
  refine ⟨fun w hw => va_tabs (hn_Bw_on w hw) rfl (hts w (hn_ng0 w hw)), vx_Zqof (hts _ hn_ls1) (hts _ hn_it) h1 (fun a ha => Nat.not_le.mpr ha), vx_Zqof (hts _ hn_ls2) (hts _ hn_it) h2 (fun a ha => Nat.not_le.mpr ha), fun q hq => ?_⟩
  have hr := hts _ (hn_sr q hq)
  have hr0 : (Cond.stringRef RX q.1 q.2).before #[] s = true := hr
  obtain ⟨k, cf, i, a, -, -, -, -, -, hev⟩ := Cond.stringRef_spec hcx hr0
  refine vk_R.of hr0 ?_
  show (Term.string RX q.1).eval #[] s none [] s = some (Value.ref (hn_sa s q.1))
  have e : hn_sa s q.1 = a := by
    unfold hn_sa
    rw [hev]
  rw [e]
  exact hev
theorem hn_start_K {s : State} {A : Array Value} (hts : ∀ w ∈ hn_tb, w.before A s = true) : ∃ (D : va_G) (cI cL : ClassId), va_K D vwCl (hn_ty cI cL) s := by
  obtain ⟨c0, iS0, hKn0⟩ := u_known (C := RX) (T := FX) (N := 10) (n := 10) hts iX (hts _ mX_inst)
  obtain ⟨c1, iS1, hKn1⟩ := u_known (C := RM) (T := FM) (N := 8) (n := 8) hts iM (hts _ mM_inst)
  obtain ⟨cI, kI, comp, h1, h2, h3⟩ := Cond.arrayClass_spec (hts _ mA_int)
  obtain ⟨cL, kL, comp2, g1, g2, g3⟩ := Cond.arrayClass_spec (hts _ mA_long)
  refine ⟨(fun k => if k = 0 then c0 else c1, fun k => if k = 0 then iS0 else iS1), cI, cL, ?_, ?_⟩
  · intro k q hq
    match k, hq with
    | 0, hq => cases hq; exact hKn0
    | 1, hq => cases hq; exact hKn1
    | k + 2, hq => simp [vwCl] at hq
  · intro k q hq
    match k, hq with
    | 0, hq => cases hq; exact ⟨fun n z => ⟨fun k h => (by cases h), kI, h2, comp, h3⟩, h1⟩
    | 1, hq => cases hq; exact ⟨fun n z => ⟨fun k h => (by cases h), kL, g2, comp2, g3⟩, g1⟩
    | k + 2, hq => simp [hn_ty] at hq
end
