section
variable {p : Program} {l : Launch} {e : Env} {R : Room} {s : State} {m : MethodId} {args : Array Value} {below : List Frame} {meth : Method} {c : Code} {H : Heap} {locs : List Loc} {cells slots : Nat} {Q : State → Prop}
variable {cc : ByteArray} {pc : Nat} {ls : Array Slot} {rest : List Value} {D : va_G} {A : Nat → Prop} {ws : va_W} {H0 : Heap} {cI cL : ClassId}
/-- a new row of ints, all 0 -/
theorem hn_newi (hexec : p.tables.exec = Jvm.exec) (hb : c.code = cc) (harr : (Cond.arrayClass .int).before args s = true) (hK : va_K D vwCl (hn_ty cI cL) s) (hP : va_P D vwCl ws H) (hD : va_D A ws) (hS : va_S A H0 H locs) (hA : ∀ q, H0.size ≤ q → A q)
    {n : Int32} {N' : Nat} (hn : ¬ n < 0) (hN : n.toNatClampNeg = N') (hbytes : N' * 4 ≤ 536870912) (hcells : cells + 1 ≤ R.cells) (hslots : slots + N' ≤ R.slots) (hdg : decode cc pc = .ok (.newarray .int, 2))
    (kk : ∀ (q : Nat) (H1 : Heap), va_P D vwCl (ws ++ [(q, .inl (cI, N', .inl (fun _ => 0)))]) H1 → va_D A (ws ++ [(q, .inl (cI, N', .inl (fun _ => 0)))]) → va_S A H0 H1 locs →
      W p l e R s m args below meth c H1 locs (cells + 1) (slots + N') Q (F0 m (pc + 2) ls (.ref q :: rest))) : W p l e R s m args below meth c H locs cells slots Q (F0 m pc ls (.int n :: rest)) := by
  refine va_newa (a0 := (N', .inl (fun _ => 0))) hexec hb (atype := .int) harr (ty := .int) rfl hK hP hD hS hA (fun cA => rfl) hn hN hbytes hcells hslots hdg (fun q cA H1 hK1 hP1 hD1 hS1 => ?_)
  have e1 : s.vm.findClass ("[" ++ FieldType.int.toString) = some cA := (hK1.2 2 _ rfl).2
  have e2 : s.vm.findClass ("[" ++ FieldType.int.toString) = some cI := (hK.2 0 _ rfl).2
  cases Option.some.inj (e1.symm.trans e2)
  exact kk q H1 hP1 hD1 hS1
/-- a new row of longs, all 0 -/
theorem hn_newl (hexec : p.tables.exec = Jvm.exec) (hb : c.code = cc) (harr : (Cond.arrayClass .long).before args s = true) (hK : va_K D vwCl (hn_ty cI cL) s) (hP : va_P D vwCl ws H) (hD : va_D A ws) (hS : va_S A H0 H locs) (hA : ∀ q, H0.size ≤ q → A q)
    {n : Int32} {N' : Nat} (hn : ¬ n < 0) (hN : n.toNatClampNeg = N') (hbytes : N' * 8 ≤ 536870912) (hcells : cells + 1 ≤ R.cells) (hslots : slots + N' ≤ R.slots) (hdg : decode cc pc = .ok (.newarray .long, 2))
    (kk : ∀ (q : Nat) (H1 : Heap), va_P D vwCl (ws ++ [(q, .inl (cL, N', .inr (.inl (fun _ => 0))))]) H1 → va_D A (ws ++ [(q, .inl (cL, N', .inr (.inl (fun _ => 0))))]) → va_S A H0 H1 locs →
      W p l e R s m args below meth c H1 locs (cells + 1) (slots + N') Q (F0 m (pc + 2) ls (.ref q :: rest))) : W p l e R s m args below meth c H locs cells slots Q (F0 m pc ls (.int n :: rest)) := by
  refine va_newa (a0 := (N', .inr (.inl (fun _ => 0)))) hexec hb (atype := .long) harr (ty := .long) rfl hK hP hD hS hA (fun cA => rfl) hn hN hbytes hcells hslots hdg (fun q cA H1 hK1 hP1 hD1 hS1 => ?_)
  have e1 : s.vm.findClass ("[" ++ FieldType.long.toString) = some cA := (hK1.2 2 _ rfl).2
  have e2 : s.vm.findClass ("[" ++ FieldType.long.toString) = some cL := (hK.2 1 _ rfl).2
  cases Option.some.inj (e1.symm.trans e2)
  exact kk q H1 hP1 hD1 hS1
end
section
def hn_az (a : Nat) (l : List Nat) : Nat → Nat := fun k => match k with
  | 0 => a
  | k + 1 => l.getD k 0
/-- the fields of a new object -/
abbrev hn_fX : List Value := [.null, .null, .null, .int 0, .null, .null, .null, .null, .null, .null]
abbrev hn_fM : List Value := [.int 0, .null, .null, .null, .null, .null, .null, .int 0]
theorem hn_by0 (k : Nat) : hn_by (fun _ => 0) k = 0 := by
  unfold hn_by
  rw [show hn_u 0 = 0 from rfl, Nat.zero_div]
theorem hn_XR0 {σ : Nat → Nat → Int32} {g f : Nat → Int32} (e : σ = hn_up (hn_up (fun _ _ => 0) 8 g) 9 f) (hg : ∀ j, j < 512 → g j = -1) (hf : ∀ j, j < 392 → f j = -1) : hn_XR σ (fun _ => 0) (fun _ => []) 0 0 := by
  subst e
  refine ⟨fun _ => [], fun _ => [], ⟨fun d hd => ⟨hf _ (by omega), trivial, fun s hs => (by cases hs), rfl⟩, fun j hj => ⟨hg _ (by omega), trivial, fun s => ⟨fun z => (by cases z), fun z => (by cases z.1)⟩⟩, fun s _ => ⟨fun _ z => (by cases z), fun _ => rfl⟩⟩, fun d hd => ⟨rfl, fun s hs => (by cases hs)⟩, fun k _ => hn_by0 k, rfl, Nat.zero_le _, fun k hk => absurd hk (Nat.not_lt_zero _)⟩
theorem hn_MH0 : hn_MH (fun _ _ => 0) (fun _ => 0) 0 0 := ⟨fun k _ => rfl, fun _ => Nat.zero_lt_succ _, rfl, Nat.zero_le _, fun k hk => absurd hk (Nat.not_lt_zero _)⟩
theorem hn_MD0 : hn_MD (fun _ _ => 0) (fun _ => []) := fun d _ => ⟨rfl, fun j hj => absurd hj (Nat.not_lt_zero _)⟩
theorem hn_DO0 : hn_DO (fun _ => []) := fun d _ => ⟨trivial, Nat.zero_le _, fun e he => (by cases he)⟩
end
theorem hn_fill {g : Nat → Int32} {i : Nat} (h : ∀ j, j < i → g j = -1) {j : Nat} (hj : j < i + 1) : upd g i (-1) j = -1 := by
  by_cases e : j = i
  · rw [e, pk_us]
  · rw [pk_un e]; exact h j (by omega)

set_option maxHeartbeats 4000000 in
set_option maxRecDepth 100000 in
theorem cX_init_ok (l : Launch) (D : va_G) (cI cL : ClassId) (a0 : Nat) (sz : Nat) : Met l yX_init wX_init ({ frames := 1, cells := 9, slots := 3615, locals := 12 }) (hn_PW D (hn_ty cI cL) ([(a0, .inr (0, hn_fX))] : va_W) sz [.ref a0]) (va_Qv (fun u : (Nat → Nat) × (Nat → Nat → Int32) => u.1 0 = a0 ∧ hn_XR u.2 (fun _ => 0) (fun _ => []) 0 0) (fun (u : (Nat → Nat) × (Nat → Nat → Int32)) t => hn_at D (hn_ty cI cL) (va_A ([(a0, .inr (0, hn_fX))] : va_W) sz) (hn_wX u.1 cI u.2) t) (va_A ([(a0, .inr (0, hn_fX))] : va_W) sz)) 9 3615 (va_A ([(a0, .inr (0, hn_fX))] : va_W) sz) := by
  refine Met.ofW (cc := cX_init) (maxL := 2) (ret := none) (by decide) rfl ?_
  intro p e s m args below meth c s₁ B hml hv
  obtain ⟨rfl, hsz, hP, hK, hD0⟩ := hv
  subst hsz
  have hD := hD0.self (sz := s.heap.size)
  generalize hAe : va_A ([(a0, .inr (0, hn_fX))] : va_W) s.heap.size = A at hD ⊢
  have hA : ∀ q : Nat, s.heap.size ≤ q → A q := fun q h => by rw [← hAe]; exact Or.inr h
  have hS : va_S A s.heap s.heap [] := va_S.rf
  have hP : va_P D vwCl ([(a0, .inr (0, hn_fX))] : va_W) s.heap := hP
  have hin : meth.name = "<init>" := (name_of_methodNamed B.named B.method).1
  have hx := B.exec
  have hb := B.bytes
  have hr := B.returns
  have hts0 := atoms_spec (ws := wX_init) B.pre
  have hts : ∀ w ∈ hn_tb, w.before _ s = true := fun w hw => hts0 w (List.mem_cons_of_mem _ hw)
  have hown : s.vm.findClass RX = some m.cls := findClass_of_methodNamed B.named
  have hlocks := B.notSynchronized
  have hl := lv_entry [.ref a0] (n := 2) (Nat.le_of_ble_eq_true rfl)
  rw [lg_entry_eq]
  generalize (lg_sl [.ref a0] ++ List.replicate (2 - (lg_sl [.ref a0]).length) Slot.unset).toArray = ls at hl ⊢
  have hl : lv_has ls 2 [(0, .ref a0)] := hl
  refine lv_aload_n hx hb dX_init_0 rfl (lv_at hl 0 rfl) ?_
  refine W.objInit hx hb hown (hts _ mX_o_3) (hts _ mO_im) (hts _ mO_code) rfl (by rw [hml]; exact hl.1) rfl dX_init_1 (Nat.le_of_ble_eq_true rfl) (Nat.le_of_ble_eq_true rfl) ?_
  refine W.eq (g2 := F0 m 4 ls []) rfl ?_
  refine lv_aload_n hx hb dX_init_4 rfl (lv_at hl 0 rfl) ?_
  refine lv_iconst (v := 5) hx hb dX_init_5 (by decide) ?_
  refine hn_newi hx hb (hts _ mA_int) hK hP hD hS hA (N' := 5) (by decide) (by decide) (by decide) (Nat.le_of_ble_eq_true rfl) (Nat.le_of_ble_eq_true rfl) dX_init_6 (fun q1 H hP hD hS => ?_)
  have hP : va_P D vwCl [(a0, .inr (0, [.null, .null, .null, .int 0, .null, .null, .null, .null, .null, .null])), (q1, .inl (cI, 5, .inl (fun _ => 0)))] H := hP
  have hD : va_D A [(a0, .inr (0, [.null, .null, .null, .int 0, .null, .null, .null, .null, .null, .null])), (q1, .inl (cI, 5, .inl (fun _ => 0)))] := hD
  refine W.widen (k := 1) (n := 5) (Nat.le_of_ble_eq_true rfl) (Nat.le_of_ble_eq_true rfl) ?_
  refine va_putF (D := D) (ci := 0) (v := .ref q1) (ty := .array .int) (C := RX) (T := FX) (N := 10) hx hb hts iX tX tX_ok nX hown hK hP hD hS 0 rfl rfl 0 (by decide) (hts _ mX_f_hand) (fun _ h9 => h9) rfl hin rfl (by decide +kernel) rfl rfl (Nat.le_of_ble_eq_true rfl) dX_init_8 (fun H locs hP hD hS => ?_)
  have hP : va_P D vwCl [(a0, .inr (0, [.ref q1, .null, .null, .int 0, .null, .null, .null, .null, .null, .null])), (q1, .inl (cI, 5, .inl (fun _ => 0)))] H := hP
  have hD : va_D A [(a0, .inr (0, [.ref q1, .null, .null, .int 0, .null, .null, .null, .null, .null, .null])), (q1, .inl (cI, 5, .inl (fun _ => 0)))] := hD
  refine lv_aload_n hx hb dX_init_11 rfl (lv_at hl 0 rfl) ?_
  refine lv_iconst (v := 5) hx hb dX_init_12 (by decide) ?_
  refine hn_newi hx hb (hts _ mA_int) hK hP hD hS hA (N' := 5) (by decide) (by decide) (by decide) (Nat.le_of_ble_eq_true rfl) (Nat.le_of_ble_eq_true rfl) dX_init_13 (fun q2 H hP hD hS => ?_)
  have hP : va_P D vwCl [(a0, .inr (0, [.ref q1, .null, .null, .int 0, .null, .null, .null, .null, .null, .null])), (q1, .inl (cI, 5, .inl (fun _ => 0))), (q2, .inl (cI, 5, .inl (fun _ => 0)))] H := hP
  have hD : va_D A [(a0, .inr (0, [.ref q1, .null, .null, .int 0, .null, .null, .null, .null, .null, .null])), (q1, .inl (cI, 5, .inl (fun _ => 0))), (q2, .inl (cI, 5, .inl (fun _ => 0)))] := hD
  refine W.widen (k := 2) (n := 10) (Nat.le_of_ble_eq_true rfl) (Nat.le_of_ble_eq_true rfl) ?_
  refine va_putF (D := D) (ci := 0) (v := .ref q2) (ty := .array .int) (C := RX) (T := FX) (N := 10) hx hb hts iX tX tX_ok nX hown hK hP hD hS 0 rfl rfl 1 (by decide) (hts _ mX_f_key) (fun _ h9 => h9) rfl hin rfl (by decide +kernel) rfl rfl (Nat.le_of_ble_eq_true rfl) dX_init_15 (fun H locs hP hD hS => ?_)
  have hP : va_P D vwCl [(a0, .inr (0, [.ref q1, .ref q2, .null, .int 0, .null, .null, .null, .null, .null, .null])), (q1, .inl (cI, 5, .inl (fun _ => 0))), (q2, .inl (cI, 5, .inl (fun _ => 0)))] H := hP
  have hD : va_D A [(a0, .inr (0, [.ref q1, .ref q2, .null, .int 0, .null, .null, .null, .null, .null, .null])), (q1, .inl (cI, 5, .inl (fun _ => 0))), (q2, .inl (cI, 5, .inl (fun _ => 0)))] := hD
  refine lv_aload_n hx hb dX_init_18 rfl (lv_at hl 0 rfl) ?_
  refine lv_iconst (v := 5) hx hb dX_init_19 (by decide) ?_
  refine hn_newi hx hb (hts _ mA_int) hK hP hD hS hA (N' := 5) (by decide) (by decide) (by decide) (Nat.le_of_ble_eq_true rfl) (Nat.le_of_ble_eq_true rfl) dX_init_20 (fun q3 H hP hD hS => ?_)
  have hP : va_P D vwCl [(a0, .inr (0, [.ref q1, .ref q2, .null, .int 0, .null, .null, .null, .null, .null, .null])), (q1, .inl (cI, 5, .inl (fun _ => 0))), (q2, .inl (cI, 5, .inl (fun _ => 0))), (q3, .inl (cI, 5, .inl (fun _ => 0)))] H := hP
  have hD : va_D A [(a0, .inr (0, [.ref q1, .ref q2, .null, .int 0, .null, .null, .null, .null, .null, .null])), (q1, .inl (cI, 5, .inl (fun _ => 0))), (q2, .inl (cI, 5, .inl (fun _ => 0))), (q3, .inl (cI, 5, .inl (fun _ => 0)))] := hD
  refine W.widen (k := 3) (n := 15) (Nat.le_of_ble_eq_true rfl) (Nat.le_of_ble_eq_true rfl) ?_
  refine va_putF (D := D) (ci := 0) (v := .ref q3) (ty := .array .int) (C := RX) (T := FX) (N := 10) hx hb hts iX tX tX_ok nX hown hK hP hD hS 0 rfl rfl 2 (by decide) (hts _ mX_f_told) (fun _ h9 => h9) rfl hin rfl (by decide +kernel) rfl rfl (Nat.le_of_ble_eq_true rfl) dX_init_22 (fun H locs hP hD hS => ?_)
  have hP : va_P D vwCl [(a0, .inr (0, [.ref q1, .ref q2, .ref q3, .int 0, .null, .null, .null, .null, .null, .null])), (q1, .inl (cI, 5, .inl (fun _ => 0))), (q2, .inl (cI, 5, .inl (fun _ => 0))), (q3, .inl (cI, 5, .inl (fun _ => 0)))] H := hP
  have hD : va_D A [(a0, .inr (0, [.ref q1, .ref q2, .ref q3, .int 0, .null, .null, .null, .null, .null, .null])), (q1, .inl (cI, 5, .inl (fun _ => 0))), (q2, .inl (cI, 5, .inl (fun _ => 0))), (q3, .inl (cI, 5, .inl (fun _ => 0)))] := hD
  refine lv_aload_n hx hb dX_init_25 rfl (lv_at hl 0 rfl) ?_
  refine lv_iconst (v := 0) hx hb dX_init_26 (by decide) ?_
  refine va_put (D := D) (ci := 0) (v := .int 0) (ty := .int) (C := RX) (T := FX) (N := 10) hx hb hts iX tX tX_ok nX hown hK hP hD hS 0 rfl rfl 3 (by decide) (hts _ mX_f_toldLength) (fun _ h9 => h9) rfl (by decide +kernel) rfl rfl (Nat.le_of_ble_eq_true rfl) dX_init_27 (fun H locs hP hD hS => ?_)
  have hP : va_P D vwCl [(a0, .inr (0, [.ref q1, .ref q2, .ref q3, .int 0, .null, .null, .null, .null, .null, .null])), (q1, .inl (cI, 5, .inl (fun _ => 0))), (q2, .inl (cI, 5, .inl (fun _ => 0))), (q3, .inl (cI, 5, .inl (fun _ => 0)))] H := hP
  have hD : va_D A [(a0, .inr (0, [.ref q1, .ref q2, .ref q3, .int 0, .null, .null, .null, .null, .null, .null])), (q1, .inl (cI, 5, .inl (fun _ => 0))), (q2, .inl (cI, 5, .inl (fun _ => 0))), (q3, .inl (cI, 5, .inl (fun _ => 0)))] := hD
  refine lv_aload_n hx hb dX_init_30 rfl (lv_at hl 0 rfl) ?_
  refine lv_sipush (v := 1920) hx hb dX_init_31 (by decide) ?_
  refine hn_newi hx hb (hts _ mA_int) hK hP hD hS hA (N' := 1920) (by decide) (by decide) (by decide) (Nat.le_of_ble_eq_true rfl) (Nat.le_of_ble_eq_true rfl) dX_init_34 (fun q4 H hP hD hS => ?_)
  have hP : va_P D vwCl [(a0, .inr (0, [.ref q1, .ref q2, .ref q3, .int 0, .null, .null, .null, .null, .null, .null])), (q1, .inl (cI, 5, .inl (fun _ => 0))), (q2, .inl (cI, 5, .inl (fun _ => 0))), (q3, .inl (cI, 5, .inl (fun _ => 0))), (q4, .inl (cI, 1920, .inl (fun _ => 0)))] H := hP
  have hD : va_D A [(a0, .inr (0, [.ref q1, .ref q2, .ref q3, .int 0, .null, .null, .null, .null, .null, .null])), (q1, .inl (cI, 5, .inl (fun _ => 0))), (q2, .inl (cI, 5, .inl (fun _ => 0))), (q3, .inl (cI, 5, .inl (fun _ => 0))), (q4, .inl (cI, 1920, .inl (fun _ => 0)))] := hD
  refine W.widen (k := 4) (n := 1935) (Nat.le_of_ble_eq_true rfl) (Nat.le_of_ble_eq_true rfl) ?_
  refine va_putF (D := D) (ci := 0) (v := .ref q4) (ty := .array .int) (C := RX) (T := FX) (N := 10) hx hb hts iX tX tX_ok nX hown hK hP hD hS 0 rfl rfl 4 (by decide) (hts _ mX_f_words) (fun _ h9 => h9) rfl hin rfl (by decide +kernel) rfl rfl (Nat.le_of_ble_eq_true rfl) dX_init_36 (fun H locs hP hD hS => ?_)
  have hP : va_P D vwCl [(a0, .inr (0, [.ref q1, .ref q2, .ref q3, .int 0, .ref q4, .null, .null, .null, .null, .null])), (q1, .inl (cI, 5, .inl (fun _ => 0))), (q2, .inl (cI, 5, .inl (fun _ => 0))), (q3, .inl (cI, 5, .inl (fun _ => 0))), (q4, .inl (cI, 1920, .inl (fun _ => 0)))] H := hP
  have hD : va_D A [(a0, .inr (0, [.ref q1, .ref q2, .ref q3, .int 0, .ref q4, .null, .null, .null, .null, .null])), (q1, .inl (cI, 5, .inl (fun _ => 0))), (q2, .inl (cI, 5, .inl (fun _ => 0))), (q3, .inl (cI, 5, .inl (fun _ => 0))), (q4, .inl (cI, 1920, .inl (fun _ => 0)))] := hD
  refine lv_aload_n hx hb dX_init_39 rfl (lv_at hl 0 rfl) ?_
  refine lv_sipush (v := 384) hx hb dX_init_40 (by decide) ?_
  refine hn_newi hx hb (hts _ mA_int) hK hP hD hS hA (N' := 384) (by decide) (by decide) (by decide) (Nat.le_of_ble_eq_true rfl) (Nat.le_of_ble_eq_true rfl) dX_init_43 (fun q5 H hP hD hS => ?_)
  have hP : va_P D vwCl [(a0, .inr (0, [.ref q1, .ref q2, .ref q3, .int 0, .ref q4, .null, .null, .null, .null, .null])), (q1, .inl (cI, 5, .inl (fun _ => 0))), (q2, .inl (cI, 5, .inl (fun _ => 0))), (q3, .inl (cI, 5, .inl (fun _ => 0))), (q4, .inl (cI, 1920, .inl (fun _ => 0))), (q5, .inl (cI, 384, .inl (fun _ => 0)))] H := hP
  have hD : va_D A [(a0, .inr (0, [.ref q1, .ref q2, .ref q3, .int 0, .ref q4, .null, .null, .null, .null, .null])), (q1, .inl (cI, 5, .inl (fun _ => 0))), (q2, .inl (cI, 5, .inl (fun _ => 0))), (q3, .inl (cI, 5, .inl (fun _ => 0))), (q4, .inl (cI, 1920, .inl (fun _ => 0))), (q5, .inl (cI, 384, .inl (fun _ => 0)))] := hD
  refine W.widen (k := 5) (n := 2319) (Nat.le_of_ble_eq_true rfl) (Nat.le_of_ble_eq_true rfl) ?_
  refine va_putF (D := D) (ci := 0) (v := .ref q5) (ty := .array .int) (C := RX) (T := FX) (N := 10) hx hb hts iX tX tX_ok nX hown hK hP hD hS 0 rfl rfl 5 (by decide) (hts _ mX_f_lengths) (fun _ h9 => h9) rfl hin rfl (by decide +kernel) rfl rfl (Nat.le_of_ble_eq_true rfl) dX_init_45 (fun H locs hP hD hS => ?_)
  have hP : va_P D vwCl [(a0, .inr (0, [.ref q1, .ref q2, .ref q3, .int 0, .ref q4, .ref q5, .null, .null, .null, .null])), (q1, .inl (cI, 5, .inl (fun _ => 0))), (q2, .inl (cI, 5, .inl (fun _ => 0))), (q3, .inl (cI, 5, .inl (fun _ => 0))), (q4, .inl (cI, 1920, .inl (fun _ => 0))), (q5, .inl (cI, 384, .inl (fun _ => 0)))] H := hP
  have hD : va_D A [(a0, .inr (0, [.ref q1, .ref q2, .ref q3, .int 0, .ref q4, .ref q5, .null, .null, .null, .null])), (q1, .inl (cI, 5, .inl (fun _ => 0))), (q2, .inl (cI, 5, .inl (fun _ => 0))), (q3, .inl (cI, 5, .inl (fun _ => 0))), (q4, .inl (cI, 1920, .inl (fun _ => 0))), (q5, .inl (cI, 384, .inl (fun _ => 0)))] := hD
  refine lv_aload_n hx hb dX_init_48 rfl (lv_at hl 0 rfl) ?_
  refine lv_sipush (v := 384) hx hb dX_init_49 (by decide) ?_
  refine hn_newi hx hb (hts _ mA_int) hK hP hD hS hA (N' := 384) (by decide) (by decide) (by decide) (Nat.le_of_ble_eq_true rfl) (Nat.le_of_ble_eq_true rfl) dX_init_52 (fun q6 H hP hD hS => ?_)
  have hP : va_P D vwCl [(a0, .inr (0, [.ref q1, .ref q2, .ref q3, .int 0, .ref q4, .ref q5, .null, .null, .null, .null])), (q1, .inl (cI, 5, .inl (fun _ => 0))), (q2, .inl (cI, 5, .inl (fun _ => 0))), (q3, .inl (cI, 5, .inl (fun _ => 0))), (q4, .inl (cI, 1920, .inl (fun _ => 0))), (q5, .inl (cI, 384, .inl (fun _ => 0))), (q6, .inl (cI, 384, .inl (fun _ => 0)))] H := hP
  have hD : va_D A [(a0, .inr (0, [.ref q1, .ref q2, .ref q3, .int 0, .ref q4, .ref q5, .null, .null, .null, .null])), (q1, .inl (cI, 5, .inl (fun _ => 0))), (q2, .inl (cI, 5, .inl (fun _ => 0))), (q3, .inl (cI, 5, .inl (fun _ => 0))), (q4, .inl (cI, 1920, .inl (fun _ => 0))), (q5, .inl (cI, 384, .inl (fun _ => 0))), (q6, .inl (cI, 384, .inl (fun _ => 0)))] := hD
  refine W.widen (k := 6) (n := 2703) (Nat.le_of_ble_eq_true rfl) (Nat.le_of_ble_eq_true rfl) ?_
  refine va_putF (D := D) (ci := 0) (v := .ref q6) (ty := .array .int) (C := RX) (T := FX) (N := 10) hx hb hts iX tX tX_ok nX hown hK hP hD hS 0 rfl rfl 6 (by decide) (hts _ mX_f_ids) (fun _ h9 => h9) rfl hin rfl (by decide +kernel) rfl rfl (Nat.le_of_ble_eq_true rfl) dX_init_54 (fun H locs hP hD hS => ?_)
  have hP : va_P D vwCl [(a0, .inr (0, [.ref q1, .ref q2, .ref q3, .int 0, .ref q4, .ref q5, .ref q6, .null, .null, .null])), (q1, .inl (cI, 5, .inl (fun _ => 0))), (q2, .inl (cI, 5, .inl (fun _ => 0))), (q3, .inl (cI, 5, .inl (fun _ => 0))), (q4, .inl (cI, 1920, .inl (fun _ => 0))), (q5, .inl (cI, 384, .inl (fun _ => 0))), (q6, .inl (cI, 384, .inl (fun _ => 0)))] H := hP
  have hD : va_D A [(a0, .inr (0, [.ref q1, .ref q2, .ref q3, .int 0, .ref q4, .ref q5, .ref q6, .null, .null, .null])), (q1, .inl (cI, 5, .inl (fun _ => 0))), (q2, .inl (cI, 5, .inl (fun _ => 0))), (q3, .inl (cI, 5, .inl (fun _ => 0))), (q4, .inl (cI, 1920, .inl (fun _ => 0))), (q5, .inl (cI, 384, .inl (fun _ => 0))), (q6, .inl (cI, 384, .inl (fun _ => 0)))] := hD
  refine lv_aload_n hx hb dX_init_57 rfl (lv_at hl 0 rfl) ?_
  refine lv_bipush (v := 8) hx hb dX_init_58 (by decide) ?_
  refine hn_newi hx hb (hts _ mA_int) hK hP hD hS hA (N' := 8) (by decide) (by decide) (by decide) (Nat.le_of_ble_eq_true rfl) (Nat.le_of_ble_eq_true rfl) dX_init_60 (fun q7 H hP hD hS => ?_)
  have hP : va_P D vwCl [(a0, .inr (0, [.ref q1, .ref q2, .ref q3, .int 0, .ref q4, .ref q5, .ref q6, .null, .null, .null])), (q1, .inl (cI, 5, .inl (fun _ => 0))), (q2, .inl (cI, 5, .inl (fun _ => 0))), (q3, .inl (cI, 5, .inl (fun _ => 0))), (q4, .inl (cI, 1920, .inl (fun _ => 0))), (q5, .inl (cI, 384, .inl (fun _ => 0))), (q6, .inl (cI, 384, .inl (fun _ => 0))), (q7, .inl (cI, 8, .inl (fun _ => 0)))] H := hP
  have hD : va_D A [(a0, .inr (0, [.ref q1, .ref q2, .ref q3, .int 0, .ref q4, .ref q5, .ref q6, .null, .null, .null])), (q1, .inl (cI, 5, .inl (fun _ => 0))), (q2, .inl (cI, 5, .inl (fun _ => 0))), (q3, .inl (cI, 5, .inl (fun _ => 0))), (q4, .inl (cI, 1920, .inl (fun _ => 0))), (q5, .inl (cI, 384, .inl (fun _ => 0))), (q6, .inl (cI, 384, .inl (fun _ => 0))), (q7, .inl (cI, 8, .inl (fun _ => 0)))] := hD
  refine W.widen (k := 7) (n := 2711) (Nat.le_of_ble_eq_true rfl) (Nat.le_of_ble_eq_true rfl) ?_
  refine va_putF (D := D) (ci := 0) (v := .ref q7) (ty := .array .int) (C := RX) (T := FX) (N := 10) hx hb hts iX tX tX_ok nX hown hK hP hD hS 0 rfl rfl 7 (by decide) (hts _ mX_f_counts) (fun _ h9 => h9) rfl hin rfl (by decide +kernel) rfl rfl (Nat.le_of_ble_eq_true rfl) dX_init_62 (fun H locs hP hD hS => ?_)
  have hP : va_P D vwCl [(a0, .inr (0, [.ref q1, .ref q2, .ref q3, .int 0, .ref q4, .ref q5, .ref q6, .ref q7, .null, .null])), (q1, .inl (cI, 5, .inl (fun _ => 0))), (q2, .inl (cI, 5, .inl (fun _ => 0))), (q3, .inl (cI, 5, .inl (fun _ => 0))), (q4, .inl (cI, 1920, .inl (fun _ => 0))), (q5, .inl (cI, 384, .inl (fun _ => 0))), (q6, .inl (cI, 384, .inl (fun _ => 0))), (q7, .inl (cI, 8, .inl (fun _ => 0)))] H := hP
  have hD : va_D A [(a0, .inr (0, [.ref q1, .ref q2, .ref q3, .int 0, .ref q4, .ref q5, .ref q6, .ref q7, .null, .null])), (q1, .inl (cI, 5, .inl (fun _ => 0))), (q2, .inl (cI, 5, .inl (fun _ => 0))), (q3, .inl (cI, 5, .inl (fun _ => 0))), (q4, .inl (cI, 1920, .inl (fun _ => 0))), (q5, .inl (cI, 384, .inl (fun _ => 0))), (q6, .inl (cI, 384, .inl (fun _ => 0))), (q7, .inl (cI, 8, .inl (fun _ => 0)))] := hD
  refine lv_aload_n hx hb dX_init_65 rfl (lv_at hl 0 rfl) ?_
  refine lv_sipush (v := 512) hx hb dX_init_66 (by decide) ?_
  refine hn_newi hx hb (hts _ mA_int) hK hP hD hS hA (N' := 512) (by decide) (by decide) (by decide) (Nat.le_of_ble_eq_true rfl) (Nat.le_of_ble_eq_true rfl) dX_init_69 (fun q8 H hP hD hS => ?_)
  have hP : va_P D vwCl [(a0, .inr (0, [.ref q1, .ref q2, .ref q3, .int 0, .ref q4, .ref q5, .ref q6, .ref q7, .null, .null])), (q1, .inl (cI, 5, .inl (fun _ => 0))), (q2, .inl (cI, 5, .inl (fun _ => 0))), (q3, .inl (cI, 5, .inl (fun _ => 0))), (q4, .inl (cI, 1920, .inl (fun _ => 0))), (q5, .inl (cI, 384, .inl (fun _ => 0))), (q6, .inl (cI, 384, .inl (fun _ => 0))), (q7, .inl (cI, 8, .inl (fun _ => 0))), (q8, .inl (cI, 512, .inl (fun _ => 0)))] H := hP
  have hD : va_D A [(a0, .inr (0, [.ref q1, .ref q2, .ref q3, .int 0, .ref q4, .ref q5, .ref q6, .ref q7, .null, .null])), (q1, .inl (cI, 5, .inl (fun _ => 0))), (q2, .inl (cI, 5, .inl (fun _ => 0))), (q3, .inl (cI, 5, .inl (fun _ => 0))), (q4, .inl (cI, 1920, .inl (fun _ => 0))), (q5, .inl (cI, 384, .inl (fun _ => 0))), (q6, .inl (cI, 384, .inl (fun _ => 0))), (q7, .inl (cI, 8, .inl (fun _ => 0))), (q8, .inl (cI, 512, .inl (fun _ => 0)))] := hD
  refine W.widen (k := 8) (n := 3223) (Nat.le_of_ble_eq_true rfl) (Nat.le_of_ble_eq_true rfl) ?_
  refine va_putF (D := D) (ci := 0) (v := .ref q8) (ty := .array .int) (C := RX) (T := FX) (N := 10) hx hb hts iX tX tX_ok nX hown hK hP hD hS 0 rfl rfl 8 (by decide) (hts _ mX_f_bucketLinks) (fun _ h9 => h9) rfl hin rfl (by decide +kernel) rfl rfl (Nat.le_of_ble_eq_true rfl) dX_init_71 (fun H locs hP hD hS => ?_)
  have hP : va_P D vwCl [(a0, .inr (0, [.ref q1, .ref q2, .ref q3, .int 0, .ref q4, .ref q5, .ref q6, .ref q7, .ref q8, .null])), (q1, .inl (cI, 5, .inl (fun _ => 0))), (q2, .inl (cI, 5, .inl (fun _ => 0))), (q3, .inl (cI, 5, .inl (fun _ => 0))), (q4, .inl (cI, 1920, .inl (fun _ => 0))), (q5, .inl (cI, 384, .inl (fun _ => 0))), (q6, .inl (cI, 384, .inl (fun _ => 0))), (q7, .inl (cI, 8, .inl (fun _ => 0))), (q8, .inl (cI, 512, .inl (fun _ => 0)))] H := hP
  have hD : va_D A [(a0, .inr (0, [.ref q1, .ref q2, .ref q3, .int 0, .ref q4, .ref q5, .ref q6, .ref q7, .ref q8, .null])), (q1, .inl (cI, 5, .inl (fun _ => 0))), (q2, .inl (cI, 5, .inl (fun _ => 0))), (q3, .inl (cI, 5, .inl (fun _ => 0))), (q4, .inl (cI, 1920, .inl (fun _ => 0))), (q5, .inl (cI, 384, .inl (fun _ => 0))), (q6, .inl (cI, 384, .inl (fun _ => 0))), (q7, .inl (cI, 8, .inl (fun _ => 0))), (q8, .inl (cI, 512, .inl (fun _ => 0)))] := hD
  refine lv_aload_n hx hb dX_init_74 rfl (lv_at hl 0 rfl) ?_
  refine lv_sipush (v := 392) hx hb dX_init_75 (by decide) ?_
  refine hn_newi hx hb (hts _ mA_int) hK hP hD hS hA (N' := 392) (by decide) (by decide) (by decide) (Nat.le_of_ble_eq_true rfl) (Nat.le_of_ble_eq_true rfl) dX_init_78 (fun q9 H hP hD hS => ?_)
  have hP : va_P D vwCl [(a0, .inr (0, [.ref q1, .ref q2, .ref q3, .int 0, .ref q4, .ref q5, .ref q6, .ref q7, .ref q8, .null])), (q1, .inl (cI, 5, .inl (fun _ => 0))), (q2, .inl (cI, 5, .inl (fun _ => 0))), (q3, .inl (cI, 5, .inl (fun _ => 0))), (q4, .inl (cI, 1920, .inl (fun _ => 0))), (q5, .inl (cI, 384, .inl (fun _ => 0))), (q6, .inl (cI, 384, .inl (fun _ => 0))), (q7, .inl (cI, 8, .inl (fun _ => 0))), (q8, .inl (cI, 512, .inl (fun _ => 0))), (q9, .inl (cI, 392, .inl (fun _ => 0)))] H := hP
  have hD : va_D A [(a0, .inr (0, [.ref q1, .ref q2, .ref q3, .int 0, .ref q4, .ref q5, .ref q6, .ref q7, .ref q8, .null])), (q1, .inl (cI, 5, .inl (fun _ => 0))), (q2, .inl (cI, 5, .inl (fun _ => 0))), (q3, .inl (cI, 5, .inl (fun _ => 0))), (q4, .inl (cI, 1920, .inl (fun _ => 0))), (q5, .inl (cI, 384, .inl (fun _ => 0))), (q6, .inl (cI, 384, .inl (fun _ => 0))), (q7, .inl (cI, 8, .inl (fun _ => 0))), (q8, .inl (cI, 512, .inl (fun _ => 0))), (q9, .inl (cI, 392, .inl (fun _ => 0)))] := hD
  refine W.widen (k := 9) (n := 3615) (Nat.le_of_ble_eq_true rfl) (Nat.le_of_ble_eq_true rfl) ?_
  refine va_putF (D := D) (ci := 0) (v := .ref q9) (ty := .array .int) (C := RX) (T := FX) (N := 10) hx hb hts iX tX tX_ok nX hown hK hP hD hS 0 rfl rfl 9 (by decide) (hts _ mX_f_orderLinks) (fun _ h9 => h9) rfl hin rfl (by decide +kernel) rfl rfl (Nat.le_of_ble_eq_true rfl) dX_init_80 (fun H locs hP hD hS => ?_)
  have hP : va_P D vwCl [(a0, .inr (0, [.ref q1, .ref q2, .ref q3, .int 0, .ref q4, .ref q5, .ref q6, .ref q7, .ref q8, .ref q9])), (q1, .inl (cI, 5, .inl (fun _ => 0))), (q2, .inl (cI, 5, .inl (fun _ => 0))), (q3, .inl (cI, 5, .inl (fun _ => 0))), (q4, .inl (cI, 1920, .inl (fun _ => 0))), (q5, .inl (cI, 384, .inl (fun _ => 0))), (q6, .inl (cI, 384, .inl (fun _ => 0))), (q7, .inl (cI, 8, .inl (fun _ => 0))), (q8, .inl (cI, 512, .inl (fun _ => 0))), (q9, .inl (cI, 392, .inl (fun _ => 0)))] H := hP
  have hD : va_D A [(a0, .inr (0, [.ref q1, .ref q2, .ref q3, .int 0, .ref q4, .ref q5, .ref q6, .ref q7, .ref q8, .ref q9])), (q1, .inl (cI, 5, .inl (fun _ => 0))), (q2, .inl (cI, 5, .inl (fun _ => 0))), (q3, .inl (cI, 5, .inl (fun _ => 0))), (q4, .inl (cI, 1920, .inl (fun _ => 0))), (q5, .inl (cI, 384, .inl (fun _ => 0))), (q6, .inl (cI, 384, .inl (fun _ => 0))), (q7, .inl (cI, 8, .inl (fun _ => 0))), (q8, .inl (cI, 512, .inl (fun _ => 0))), (q9, .inl (cI, 392, .inl (fun _ => 0)))] := hD
  obtain ⟨ad, ead⟩ : ∃ z : Nat → Nat, z = hn_az a0 [q1, q2, q3, q4, q5, q6, q7, q8, q9] := ⟨_, rfl⟩
  have ea0 : ad 0 = a0 := by rw [ead]; rfl
  have hP : va_P D vwCl (hn_wX ad cI (fun _ _ => 0)) H := by rw [ead]; exact hP
  have hD : va_D A (hn_wX ad cI (fun _ _ => 0)) := by rw [ead]; exact hD
  have hl : lv_has ls 2 [(0, .ref (ad 0))] := by rw [ea0]; exact hl
  refine lv_iconst (v := 0) hx hb dX_init_83 (by decide) ?_
  refine lv_istore_n (lv' := [(1, .int 0), (0, .ref (ad 0))]) hx hb dX_init_84 rfl hl (by decide) rfl (fun ls hl => ?_)
  suffices loop8 : ∀ (k i : Nat) (σ3 : Nat → Nat → Int32) (H : Heap) (locs : List Loc), i + k = 512 → va_P D vwCl (hn_wX ad cI σ3) H → va_D A (hn_wX ad cI σ3) → va_S A s.heap H locs → (∃ g : Nat → Int32, σ3 = hn_up (fun _ _ => 0) 8 g ∧ ∀ j, j < i → g j = -1) → ∀ ls : Array Slot, lv_has ls 2 [(0, .ref (ad 0)), (1, .int (nI i))] → W p l e (headSpec wX_init ({ frames := 1, cells := 9, slots := 3615, locals := 12 })).room s m [.ref a0].toArray below meth c H locs 9 3615 (MQ below (va_Qv (fun u : (Nat → Nat) × (Nat → Nat → Int32) => u.1 0 = a0 ∧ hn_XR u.2 (fun _ => 0) (fun _ => []) 0 0) (fun (u : (Nat → Nat) × (Nat → Nat → Int32)) t => hn_at D (hn_ty cI cL) A (hn_wX u.1 cI u.2) t) A) [.ref a0].toArray s 9 3615 A) (F0 m 85 ls []) from loop8 512 0 (fun _ _ => 0) _ _ rfl hP hD hS ⟨fun _ => 0, hn_upself (fun _ _ => 0) 8, fun j z => absurd z (Nat.not_lt_zero _)⟩ ls (lv_sub hl [1, 0] rfl)
  intro k
  induction k with
  | succ k ih =>
    intro i σ3 H locs hf hP hD hS hI ls hl
    refine lv_iload_n hx hb dX_init_85 rfl (lv_at hl 1 rfl) ?_
    refine lv_aload_n hx hb dX_init_86 rfl (lv_at hl 0 rfl) ?_
    refine va_get (D := D) (ci := 0) (v := .ref (ad 8)) (C := RX) (T := FX) (N := 10) hx hb hts iX hown hK hP 0 rfl rfl 8 (by decide) (hts _ mX_f_bucketLinks) (fun _ h9 => h9) rfl dX_init_87 ?_
    refine va_alen hx hb hK hP 8 0 rfl rfl (v := nI 512) rfl dX_init_90 ?_
    refine lv_icmp_ge (tgt := 107) hx hb dX_init_91 (by decide) (fun c_1 => absurd c_1 (nI_ge (a := i) (b := 512) (by omega) (by decide))) (fun c_1 => ?_)
    obtain ⟨g, eg, hg⟩ := hI
    refine lv_aload_n hx hb dX_init_94 rfl (lv_at hl 0 rfl) ?_
    refine va_get (D := D) (ci := 0) (v := .ref (ad 8)) (C := RX) (T := FX) (N := 10) hx hb hts iX hown hK hP 0 rfl rfl 8 (by decide) (hts _ mX_f_bucketLinks) (fun _ h9 => h9) rfl dX_init_95 ?_
    refine lv_iload_n hx hb dX_init_98 rfl (lv_at hl 1 rfl) ?_
    refine lv_iconst (v := (-1)) hx hb dX_init_99 (by decide) ?_
    refine va_iast hx hb hK hP hD hS 8 0 rfl rfl (vp_in_nI (show i < 512 from by omega) (by omega)) dX_init_100 (fun H locs hP hD hS => ?_)
    rw [nI_clamp (show i < 2 ^ 31 by omega)] at hP hD
    obtain ⟨σ4, eσ4⟩ : ∃ z : Nat → Nat → Int32, z = hn_up (σ3) 8 (upd (σ3 8) i (-1)) := ⟨_, rfl⟩
    have hP : va_P D vwCl (hn_wX ad cI (σ4)) H := by rw [eσ4]; exact hP
    have hD : va_D A (hn_wX ad cI (σ4)) := by rw [eσ4]; exact hD
    refine lv_iinc (v := nI (i + 1)) (lv' := [(1, .int (nI (i + 1))), (0, .ref (ad 0))]) hx hb dX_init_101 hl (k := 1) rfl (nI_1 i) (by decide) rfl (fun ls hl => ?_)
    refine lv_goto (tgt := 85) hx hb dX_init_104 (by decide) ?_
    exact ih (i + 1) σ4 H locs (by omega) hP hD hS ⟨upd g i (-1), by rw [eσ4, eg]; exact hn_upup _ _ _ _, fun j hj => hn_fill hg hj⟩ ls (lv_sub hl [1, 0] rfl)
  | zero =>
    intro i σ3 H locs hf hP hD hS hI ls hl
    have hf : i = 512 := hf
    subst hf
    refine lv_iload_n hx hb dX_init_85 rfl (lv_at hl 1 rfl) ?_
    refine lv_aload_n hx hb dX_init_86 rfl (lv_at hl 0 rfl) ?_
    refine va_get (D := D) (ci := 0) (v := .ref (ad 8)) (C := RX) (T := FX) (N := 10) hx hb hts iX hown hK hP 0 rfl rfl 8 (by decide) (hts _ mX_f_bucketLinks) (fun _ h9 => h9) rfl dX_init_87 ?_
    refine va_alen hx hb hK hP 8 0 rfl rfl (v := nI 512) rfl dX_init_90 ?_
    obtain ⟨g, eg, hg⟩ := hI
    refine lv_icmp_ge (tgt := 107) hx hb dX_init_91 (by decide) (fun c9 => ?_) (fun c9 => absurd (Int32.le_refl _) c9)
    refine lv_iconst (v := 0) hx hb dX_init_107 (by decide) ?_
    refine lv_istore_n (lv' := [(1, .int 0), (0, .ref (ad 0))]) hx hb dX_init_108 rfl hl (by decide) rfl (fun ls hl => ?_)
    suffices loop9 : ∀ (k i : Nat) (σ3 : Nat → Nat → Int32) (H : Heap) (locs : List Loc), i + k = 392 → va_P D vwCl (hn_wX ad cI σ3) H → va_D A (hn_wX ad cI σ3) → va_S A s.heap H locs → (∃ f : Nat → Int32, σ3 = hn_up (hn_up (fun _ _ => 0) 8 g) 9 f ∧ ∀ j, j < i → f j = -1) → ∀ ls : Array Slot, lv_has ls 2 [(0, .ref (ad 0)), (1, .int (nI i))] → W p l e (headSpec wX_init ({ frames := 1, cells := 9, slots := 3615, locals := 12 })).room s m [.ref a0].toArray below meth c H locs 9 3615 (MQ below (va_Qv (fun u : (Nat → Nat) × (Nat → Nat → Int32) => u.1 0 = a0 ∧ hn_XR u.2 (fun _ => 0) (fun _ => []) 0 0) (fun (u : (Nat → Nat) × (Nat → Nat → Int32)) t => hn_at D (hn_ty cI cL) A (hn_wX u.1 cI u.2) t) A) [.ref a0].toArray s 9 3615 A) (F0 m 109 ls []) from loop9 392 0 σ3 _ _ rfl hP hD hS ⟨_, by rw [eg]; exact hn_upself (hn_up (fun _ _ => 0) 8 g) 9, fun j z => absurd z (Nat.not_lt_zero _)⟩ ls (lv_sub hl [1, 0] rfl)
    intro k
    induction k with
    | succ k ih =>
      intro i σ3 H locs hf hP hD hS hI ls hl
      refine lv_iload_n hx hb dX_init_109 rfl (lv_at hl 1 rfl) ?_
      refine lv_aload_n hx hb dX_init_110 rfl (lv_at hl 0 rfl) ?_
      refine va_get (D := D) (ci := 0) (v := .ref (ad 9)) (C := RX) (T := FX) (N := 10) hx hb hts iX hown hK hP 0 rfl rfl 9 (by decide) (hts _ mX_f_orderLinks) (fun _ h9 => h9) rfl dX_init_111 ?_
      refine va_alen hx hb hK hP 9 0 rfl rfl (v := nI 392) rfl dX_init_114 ?_
      refine lv_icmp_ge (tgt := 131) hx hb dX_init_115 (by decide) (fun c_2 => absurd c_2 (nI_ge (a := i) (b := 392) (by omega) (by decide))) (fun c_2 => ?_)
      obtain ⟨f, ef, hf⟩ := hI
      refine lv_aload_n hx hb dX_init_118 rfl (lv_at hl 0 rfl) ?_
      refine va_get (D := D) (ci := 0) (v := .ref (ad 9)) (C := RX) (T := FX) (N := 10) hx hb hts iX hown hK hP 0 rfl rfl 9 (by decide) (hts _ mX_f_orderLinks) (fun _ h9 => h9) rfl dX_init_119 ?_
      refine lv_iload_n hx hb dX_init_122 rfl (lv_at hl 1 rfl) ?_
      refine lv_iconst (v := (-1)) hx hb dX_init_123 (by decide) ?_
      refine va_iast hx hb hK hP hD hS 9 0 rfl rfl (vp_in_nI (show i < 392 from by omega) (by omega)) dX_init_124 (fun H locs hP hD hS => ?_)
      rw [nI_clamp (show i < 2 ^ 31 by omega)] at hP hD
      obtain ⟨σ4, eσ4⟩ : ∃ z : Nat → Nat → Int32, z = hn_up (σ3) 9 (upd (σ3 9) i (-1)) := ⟨_, rfl⟩
      have hP : va_P D vwCl (hn_wX ad cI (σ4)) H := by rw [eσ4]; exact hP
      have hD : va_D A (hn_wX ad cI (σ4)) := by rw [eσ4]; exact hD
      refine lv_iinc (v := nI (i + 1)) (lv' := [(1, .int (nI (i + 1))), (0, .ref (ad 0))]) hx hb dX_init_125 hl (k := 1) rfl (nI_1 i) (by decide) rfl (fun ls hl => ?_)
      refine lv_goto (tgt := 109) hx hb dX_init_128 (by decide) ?_
      exact ih (i + 1) σ4 H locs (by omega) hP hD hS ⟨upd f i (-1), by rw [eσ4, ef]; exact hn_upup _ _ _ _, fun j hj => hn_fill hf hj⟩ ls (lv_sub hl [1, 0] rfl)
    | zero =>
      intro i σ3 H locs hf hP hD hS hI ls hl
      have hf : i = 392 := hf
      subst hf
      refine lv_iload_n hx hb dX_init_109 rfl (lv_at hl 1 rfl) ?_
      refine lv_aload_n hx hb dX_init_110 rfl (lv_at hl 0 rfl) ?_
      refine va_get (D := D) (ci := 0) (v := .ref (ad 9)) (C := RX) (T := FX) (N := 10) hx hb hts iX hown hK hP 0 rfl rfl 9 (by decide) (hts _ mX_f_orderLinks) (fun _ h9 => h9) rfl dX_init_111 ?_
      refine va_alen hx hb hK hP 9 0 rfl rfl (v := nI 392) rfl dX_init_114 ?_
      obtain ⟨f, ef, hf⟩ := hI
      refine lv_icmp_ge (tgt := 131) hx hb dX_init_115 (by decide) (fun c9 => ?_) (fun c9 => absurd (Int32.le_refl _) c9)
      exact W.vret hx hb hr (fun t9 ht9 hW9 => ⟨⟨(ad, σ3), rfl, ⟨ea0, hn_XR0 (by rw [ef]) hg hf⟩, by rw [ht9]; exact hP, va_K.moved hW9.alike hK, hD⟩, hS.F ht9⟩) hS.2.2 dX_init_131

set_option maxHeartbeats 4000000 in
set_option maxRecDepth 100000 in
theorem cM_init_ok (l : Launch) (D : va_G) (cI cL : ClassId) (a0 : Nat) (sz : Nat) : Met l yM_init wM_init ({ frames := 1, cells := 6, slots := 8496, locals := 12 }) (hn_PW D (hn_ty cI cL) ([(a0, .inr (1, hn_fM))] : va_W) sz [.ref a0]) (va_Qv (fun u : (Nat → Nat) × (Nat → Nat → Int32) => u.1 0 = a0 ∧ hn_MH u.2 (fun _ => 0) 0 0 ∧ hn_MD u.2 (fun _ => [])) (fun (u : (Nat → Nat) × (Nat → Nat → Int32)) t => hn_at D (hn_ty cI cL) (va_A ([(a0, .inr (1, hn_fM))] : va_W) sz) (hn_wM u.1 cI u.2) t) (va_A ([(a0, .inr (1, hn_fM))] : va_W) sz)) 6 8496 (va_A ([(a0, .inr (1, hn_fM))] : va_W) sz) := by
  refine Met.ofW (cc := cM_init) (maxL := 1) (ret := none) (by decide) rfl ?_
  intro p e s m args below meth c s₁ B hml hv
  obtain ⟨rfl, hsz, hP, hK, hD0⟩ := hv
  subst hsz
  have hD := hD0.self (sz := s.heap.size)
  generalize hAe : va_A ([(a0, .inr (1, hn_fM))] : va_W) s.heap.size = A at hD ⊢
  have hA : ∀ q : Nat, s.heap.size ≤ q → A q := fun q h => by rw [← hAe]; exact Or.inr h
  have hS : va_S A s.heap s.heap [] := va_S.rf
  have hP : va_P D vwCl ([(a0, .inr (1, hn_fM))] : va_W) s.heap := hP
  have hin : meth.name = "<init>" := (name_of_methodNamed B.named B.method).1
  have hx := B.exec
  have hb := B.bytes
  have hr := B.returns
  have hts0 := atoms_spec (ws := wM_init) B.pre
  have hts : ∀ w ∈ hn_tb, w.before _ s = true := fun w hw => hts0 w (List.mem_cons_of_mem _ hw)
  have hown : s.vm.findClass RM = some m.cls := findClass_of_methodNamed B.named
  have hlocks := B.notSynchronized
  have hl := lv_entry [.ref a0] (n := 1) (Nat.le_of_ble_eq_true rfl)
  rw [lg_entry_eq]
  generalize (lg_sl [.ref a0] ++ List.replicate (1 - (lg_sl [.ref a0]).length) Slot.unset).toArray = ls at hl ⊢
  have hl : lv_has ls 1 [(0, .ref a0)] := hl
  refine lv_aload_n hx hb dM_init_0 rfl (lv_at hl 0 rfl) ?_
  refine W.objInit hx hb hown (hts _ mM_o_1) (hts _ mO_im) (hts _ mO_code) rfl (by rw [hml]; exact hl.1) rfl dM_init_1 (Nat.le_of_ble_eq_true rfl) (Nat.le_of_ble_eq_true rfl) ?_
  refine W.eq (g2 := F0 m 4 ls []) rfl ?_
  refine lv_aload_n hx hb dM_init_4 rfl (lv_at hl 0 rfl) ?_
  refine lv_bipush (v := 20) hx hb dM_init_5 (by decide) ?_
  refine hn_newi hx hb (hts _ mA_int) hK hP hD hS hA (N' := 20) (by decide) (by decide) (by decide) (Nat.le_of_ble_eq_true rfl) (Nat.le_of_ble_eq_true rfl) dM_init_7 (fun q1 H hP hD hS => ?_)
  have hP : va_P D vwCl [(a0, .inr (1, [.int 0, .null, .null, .null, .null, .null, .null, .int 0])), (q1, .inl (cI, 20, .inl (fun _ => 0)))] H := hP
  have hD : va_D A [(a0, .inr (1, [.int 0, .null, .null, .null, .null, .null, .null, .int 0])), (q1, .inl (cI, 20, .inl (fun _ => 0)))] := hD
  refine W.widen (k := 1) (n := 20) (Nat.le_of_ble_eq_true rfl) (Nat.le_of_ble_eq_true rfl) ?_
  refine va_putF (D := D) (ci := 1) (v := .ref q1) (ty := .array .int) (C := RM) (T := FM) (N := 8) hx hb hts iM tM tM_ok nM hown hK hP hD hS 0 rfl rfl 1 (by decide) (hts _ mM_f_hand) (fun _ h9 => h9) rfl hin rfl (by decide +kernel) rfl rfl (Nat.le_of_ble_eq_true rfl) dM_init_9 (fun H locs hP hD hS => ?_)
  have hP : va_P D vwCl [(a0, .inr (1, [.int 0, .ref q1, .null, .null, .null, .null, .null, .int 0])), (q1, .inl (cI, 20, .inl (fun _ => 0)))] H := hP
  have hD : va_D A [(a0, .inr (1, [.int 0, .ref q1, .null, .null, .null, .null, .null, .int 0])), (q1, .inl (cI, 20, .inl (fun _ => 0)))] := hD
  refine lv_aload_n hx hb dM_init_12 rfl (lv_at hl 0 rfl) ?_
  refine lv_bipush (v := 8) hx hb dM_init_13 (by decide) ?_
  refine hn_newi hx hb (hts _ mA_int) hK hP hD hS hA (N' := 8) (by decide) (by decide) (by decide) (Nat.le_of_ble_eq_true rfl) (Nat.le_of_ble_eq_true rfl) dM_init_15 (fun q2 H hP hD hS => ?_)
  have hP : va_P D vwCl [(a0, .inr (1, [.int 0, .ref q1, .null, .null, .null, .null, .null, .int 0])), (q1, .inl (cI, 20, .inl (fun _ => 0))), (q2, .inl (cI, 8, .inl (fun _ => 0)))] H := hP
  have hD : va_D A [(a0, .inr (1, [.int 0, .ref q1, .null, .null, .null, .null, .null, .int 0])), (q1, .inl (cI, 20, .inl (fun _ => 0))), (q2, .inl (cI, 8, .inl (fun _ => 0)))] := hD
  refine W.widen (k := 2) (n := 28) (Nat.le_of_ble_eq_true rfl) (Nat.le_of_ble_eq_true rfl) ?_
  refine va_putF (D := D) (ci := 1) (v := .ref q2) (ty := .array .int) (C := RM) (T := FM) (N := 8) hx hb hts iM tM tM_ok nM hown hK hP hD hS 0 rfl rfl 2 (by decide) (hts _ mM_f_many) (fun _ h9 => h9) rfl hin rfl (by decide +kernel) rfl rfl (Nat.le_of_ble_eq_true rfl) dM_init_17 (fun H locs hP hD hS => ?_)
  have hP : va_P D vwCl [(a0, .inr (1, [.int 0, .ref q1, .ref q2, .null, .null, .null, .null, .int 0])), (q1, .inl (cI, 20, .inl (fun _ => 0))), (q2, .inl (cI, 8, .inl (fun _ => 0)))] H := hP
  have hD : va_D A [(a0, .inr (1, [.int 0, .ref q1, .ref q2, .null, .null, .null, .null, .int 0])), (q1, .inl (cI, 20, .inl (fun _ => 0))), (q2, .inl (cI, 8, .inl (fun _ => 0)))] := hD
  refine lv_aload_n hx hb dM_init_20 rfl (lv_at hl 0 rfl) ?_
  refine lv_sipush (v := 384) hx hb dM_init_21 (by decide) ?_
  refine hn_newi hx hb (hts _ mA_int) hK hP hD hS hA (N' := 384) (by decide) (by decide) (by decide) (Nat.le_of_ble_eq_true rfl) (Nat.le_of_ble_eq_true rfl) dM_init_24 (fun q3 H hP hD hS => ?_)
  have hP : va_P D vwCl [(a0, .inr (1, [.int 0, .ref q1, .ref q2, .null, .null, .null, .null, .int 0])), (q1, .inl (cI, 20, .inl (fun _ => 0))), (q2, .inl (cI, 8, .inl (fun _ => 0))), (q3, .inl (cI, 384, .inl (fun _ => 0)))] H := hP
  have hD : va_D A [(a0, .inr (1, [.int 0, .ref q1, .ref q2, .null, .null, .null, .null, .int 0])), (q1, .inl (cI, 20, .inl (fun _ => 0))), (q2, .inl (cI, 8, .inl (fun _ => 0))), (q3, .inl (cI, 384, .inl (fun _ => 0)))] := hD
  refine W.widen (k := 3) (n := 412) (Nat.le_of_ble_eq_true rfl) (Nat.le_of_ble_eq_true rfl) ?_
  refine va_putF (D := D) (ci := 1) (v := .ref q3) (ty := .array .int) (C := RM) (T := FM) (N := 8) hx hb hts iM tM tM_ok nM hown hK hP hD hS 0 rfl rfl 3 (by decide) (hts _ mM_f_id) (fun _ h9 => h9) rfl hin rfl (by decide +kernel) rfl rfl (Nat.le_of_ble_eq_true rfl) dM_init_26 (fun H locs hP hD hS => ?_)
  have hP : va_P D vwCl [(a0, .inr (1, [.int 0, .ref q1, .ref q2, .ref q3, .null, .null, .null, .int 0])), (q1, .inl (cI, 20, .inl (fun _ => 0))), (q2, .inl (cI, 8, .inl (fun _ => 0))), (q3, .inl (cI, 384, .inl (fun _ => 0)))] H := hP
  have hD : va_D A [(a0, .inr (1, [.int 0, .ref q1, .ref q2, .ref q3, .null, .null, .null, .int 0])), (q1, .inl (cI, 20, .inl (fun _ => 0))), (q2, .inl (cI, 8, .inl (fun _ => 0))), (q3, .inl (cI, 384, .inl (fun _ => 0)))] := hD
  refine lv_aload_n hx hb dM_init_29 rfl (lv_at hl 0 rfl) ?_
  refine lv_sipush (v := 384) hx hb dM_init_30 (by decide) ?_
  refine hn_newi hx hb (hts _ mA_int) hK hP hD hS hA (N' := 384) (by decide) (by decide) (by decide) (Nat.le_of_ble_eq_true rfl) (Nat.le_of_ble_eq_true rfl) dM_init_33 (fun q4 H hP hD hS => ?_)
  have hP : va_P D vwCl [(a0, .inr (1, [.int 0, .ref q1, .ref q2, .ref q3, .null, .null, .null, .int 0])), (q1, .inl (cI, 20, .inl (fun _ => 0))), (q2, .inl (cI, 8, .inl (fun _ => 0))), (q3, .inl (cI, 384, .inl (fun _ => 0))), (q4, .inl (cI, 384, .inl (fun _ => 0)))] H := hP
  have hD : va_D A [(a0, .inr (1, [.int 0, .ref q1, .ref q2, .ref q3, .null, .null, .null, .int 0])), (q1, .inl (cI, 20, .inl (fun _ => 0))), (q2, .inl (cI, 8, .inl (fun _ => 0))), (q3, .inl (cI, 384, .inl (fun _ => 0))), (q4, .inl (cI, 384, .inl (fun _ => 0)))] := hD
  refine W.widen (k := 4) (n := 796) (Nat.le_of_ble_eq_true rfl) (Nat.le_of_ble_eq_true rfl) ?_
  refine va_putF (D := D) (ci := 1) (v := .ref q4) (ty := .array .int) (C := RM) (T := FM) (N := 8) hx hb hts iM tM tM_ok nM hown hK hP hD hS 0 rfl rfl 4 (by decide) (hts _ mM_f_length) (fun _ h9 => h9) rfl hin rfl (by decide +kernel) rfl rfl (Nat.le_of_ble_eq_true rfl) dM_init_35 (fun H locs hP hD hS => ?_)
  have hP : va_P D vwCl [(a0, .inr (1, [.int 0, .ref q1, .ref q2, .ref q3, .ref q4, .null, .null, .int 0])), (q1, .inl (cI, 20, .inl (fun _ => 0))), (q2, .inl (cI, 8, .inl (fun _ => 0))), (q3, .inl (cI, 384, .inl (fun _ => 0))), (q4, .inl (cI, 384, .inl (fun _ => 0)))] H := hP
  have hD : va_D A [(a0, .inr (1, [.int 0, .ref q1, .ref q2, .ref q3, .ref q4, .null, .null, .int 0])), (q1, .inl (cI, 20, .inl (fun _ => 0))), (q2, .inl (cI, 8, .inl (fun _ => 0))), (q3, .inl (cI, 384, .inl (fun _ => 0))), (q4, .inl (cI, 384, .inl (fun _ => 0)))] := hD
  refine lv_aload_n hx hb dM_init_38 rfl (lv_at hl 0 rfl) ?_
  refine lv_sipush (v := 7680) hx hb dM_init_39 (by decide) ?_
  refine hn_newi hx hb (hts _ mA_int) hK hP hD hS hA (N' := 7680) (by decide) (by decide) (by decide) (Nat.le_of_ble_eq_true rfl) (Nat.le_of_ble_eq_true rfl) dM_init_42 (fun q5 H hP hD hS => ?_)
  have hP : va_P D vwCl [(a0, .inr (1, [.int 0, .ref q1, .ref q2, .ref q3, .ref q4, .null, .null, .int 0])), (q1, .inl (cI, 20, .inl (fun _ => 0))), (q2, .inl (cI, 8, .inl (fun _ => 0))), (q3, .inl (cI, 384, .inl (fun _ => 0))), (q4, .inl (cI, 384, .inl (fun _ => 0))), (q5, .inl (cI, 7680, .inl (fun _ => 0)))] H := hP
  have hD : va_D A [(a0, .inr (1, [.int 0, .ref q1, .ref q2, .ref q3, .ref q4, .null, .null, .int 0])), (q1, .inl (cI, 20, .inl (fun _ => 0))), (q2, .inl (cI, 8, .inl (fun _ => 0))), (q3, .inl (cI, 384, .inl (fun _ => 0))), (q4, .inl (cI, 384, .inl (fun _ => 0))), (q5, .inl (cI, 7680, .inl (fun _ => 0)))] := hD
  refine W.widen (k := 5) (n := 8476) (Nat.le_of_ble_eq_true rfl) (Nat.le_of_ble_eq_true rfl) ?_
  refine va_putF (D := D) (ci := 1) (v := .ref q5) (ty := .array .int) (C := RM) (T := FM) (N := 8) hx hb hts iM tM tM_ok nM hown hK hP hD hS 0 rfl rfl 5 (by decide) (hts _ mM_f_bytes) (fun _ h9 => h9) rfl hin rfl (by decide +kernel) rfl rfl (Nat.le_of_ble_eq_true rfl) dM_init_44 (fun H locs hP hD hS => ?_)
  have hP : va_P D vwCl [(a0, .inr (1, [.int 0, .ref q1, .ref q2, .ref q3, .ref q4, .ref q5, .null, .int 0])), (q1, .inl (cI, 20, .inl (fun _ => 0))), (q2, .inl (cI, 8, .inl (fun _ => 0))), (q3, .inl (cI, 384, .inl (fun _ => 0))), (q4, .inl (cI, 384, .inl (fun _ => 0))), (q5, .inl (cI, 7680, .inl (fun _ => 0)))] H := hP
  have hD : va_D A [(a0, .inr (1, [.int 0, .ref q1, .ref q2, .ref q3, .ref q4, .ref q5, .null, .int 0])), (q1, .inl (cI, 20, .inl (fun _ => 0))), (q2, .inl (cI, 8, .inl (fun _ => 0))), (q3, .inl (cI, 384, .inl (fun _ => 0))), (q4, .inl (cI, 384, .inl (fun _ => 0))), (q5, .inl (cI, 7680, .inl (fun _ => 0)))] := hD
  refine lv_aload_n hx hb dM_init_47 rfl (lv_at hl 0 rfl) ?_
  refine lv_bipush (v := 20) hx hb dM_init_48 (by decide) ?_
  refine hn_newi hx hb (hts _ mA_int) hK hP hD hS hA (N' := 20) (by decide) (by decide) (by decide) (Nat.le_of_ble_eq_true rfl) (Nat.le_of_ble_eq_true rfl) dM_init_50 (fun q6 H hP hD hS => ?_)
  have hP : va_P D vwCl [(a0, .inr (1, [.int 0, .ref q1, .ref q2, .ref q3, .ref q4, .ref q5, .null, .int 0])), (q1, .inl (cI, 20, .inl (fun _ => 0))), (q2, .inl (cI, 8, .inl (fun _ => 0))), (q3, .inl (cI, 384, .inl (fun _ => 0))), (q4, .inl (cI, 384, .inl (fun _ => 0))), (q5, .inl (cI, 7680, .inl (fun _ => 0))), (q6, .inl (cI, 20, .inl (fun _ => 0)))] H := hP
  have hD : va_D A [(a0, .inr (1, [.int 0, .ref q1, .ref q2, .ref q3, .ref q4, .ref q5, .null, .int 0])), (q1, .inl (cI, 20, .inl (fun _ => 0))), (q2, .inl (cI, 8, .inl (fun _ => 0))), (q3, .inl (cI, 384, .inl (fun _ => 0))), (q4, .inl (cI, 384, .inl (fun _ => 0))), (q5, .inl (cI, 7680, .inl (fun _ => 0))), (q6, .inl (cI, 20, .inl (fun _ => 0)))] := hD
  refine W.widen (k := 6) (n := 8496) (Nat.le_of_ble_eq_true rfl) (Nat.le_of_ble_eq_true rfl) ?_
  refine va_putF (D := D) (ci := 1) (v := .ref q6) (ty := .array .int) (C := RM) (T := FM) (N := 8) hx hb hts iM tM tM_ok nM hown hK hP hD hS 0 rfl rfl 6 (by decide) (hts _ mM_f_told) (fun _ h9 => h9) rfl hin rfl (by decide +kernel) rfl rfl (Nat.le_of_ble_eq_true rfl) dM_init_52 (fun H locs hP hD hS => ?_)
  have hP : va_P D vwCl [(a0, .inr (1, [.int 0, .ref q1, .ref q2, .ref q3, .ref q4, .ref q5, .ref q6, .int 0])), (q1, .inl (cI, 20, .inl (fun _ => 0))), (q2, .inl (cI, 8, .inl (fun _ => 0))), (q3, .inl (cI, 384, .inl (fun _ => 0))), (q4, .inl (cI, 384, .inl (fun _ => 0))), (q5, .inl (cI, 7680, .inl (fun _ => 0))), (q6, .inl (cI, 20, .inl (fun _ => 0)))] H := hP
  have hD : va_D A [(a0, .inr (1, [.int 0, .ref q1, .ref q2, .ref q3, .ref q4, .ref q5, .ref q6, .int 0])), (q1, .inl (cI, 20, .inl (fun _ => 0))), (q2, .inl (cI, 8, .inl (fun _ => 0))), (q3, .inl (cI, 384, .inl (fun _ => 0))), (q4, .inl (cI, 384, .inl (fun _ => 0))), (q5, .inl (cI, 7680, .inl (fun _ => 0))), (q6, .inl (cI, 20, .inl (fun _ => 0)))] := hD
  obtain ⟨am, eam⟩ : ∃ z : Nat → Nat, z = hn_az a0 [q1, q2, q3, q4, q5, q6] := ⟨_, rfl⟩
  have ea0 : am 0 = a0 := by rw [eam]; rfl
  have hP : va_P D vwCl (hn_wM am cI (fun _ _ => 0)) H := by rw [eam]; exact hP
  have hD : va_D A (hn_wM am cI (fun _ _ => 0)) := by rw [eam]; exact hD
  exact W.vret hx hb hr (fun t9 ht9 hW9 => ⟨⟨(am, fun _ _ => 0), rfl, ⟨ea0, hn_MH0, hn_MD0⟩, by rw [ht9]; exact hP, va_K.moved hW9.alike hK, hD⟩, hS.F ht9⟩) hS.2.2 dM_init_55
