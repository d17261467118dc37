section
def hn_nm2 : List String := ["java/lang/RuntimeException", "java/lang/Exception"]
def hn_dc (c : String) : Cond := Cond.declares ⟨c, "<init>", "(Ljava/lang/String;)V"⟩
def hn_Bw : List Cond := [Cond.castable "java/lang/IllegalArgumentException" "java/lang/IllegalArgumentException", Cond.castable "java/lang/IllegalStateException" "java/lang/IllegalStateException", hn_dc "java/lang/RuntimeException", hn_dc "java/lang/Exception", hn_dc "java/lang/Throwable"]
theorem hn_ng2 : ∀ w ∈ (vx_atS RX 95 "java/lang/IllegalArgumentException" hn_nm2).filter goodWord, w ∈ lw_tbl := by decide +kernel
theorem hn_ng3 : ∀ w ∈ (vx_atS RX 63 "java/lang/IllegalStateException" hn_nm2).filter goodWord, w ∈ lw_tbl := by decide +kernel
theorem hn_ng0 : ∀ w ∈ hn_Bw, w ∈ lw_tbl := by decide +kernel
theorem hn_ng1 : ∀ w ∈ (vx_atS RX 95 "java/lang/IllegalArgumentException" hn_nm2).filter (fun w => !goodWord w), w ∈ hn_Bw := by decide +kernel
theorem hn_ng5 : ∀ w ∈ (vx_atS RX 63 "java/lang/IllegalStateException" hn_nm2).filter (fun w => !goodWord w), w ∈ hn_Bw := by decide +kernel
theorem hn_ot1 : ∀ w ∈ Cond.classLink RX 91 "java/lang/IllegalArgumentException" :: Cond.initialized "java/lang/IllegalArgumentException" :: vx_atS RX 95 "java/lang/IllegalArgumentException" hn_nm2, vx_ot w = true := by decide +kernel
theorem hn_ot2 : ∀ w ∈ Cond.classLink RX 59 "java/lang/IllegalStateException" :: Cond.initialized "java/lang/IllegalStateException" :: vx_atS RX 63 "java/lang/IllegalStateException" hn_nm2, vx_ot w = true := by decide +kernel
/-- the class's texts, by their places -/
def hn_strs : List (Nat × String) := [(106, "no such directory"), (109, "no such id"), (111, "no name has such a length"), (113, "no name has such a byte"), (61, "the name is there"), (69, "the directory is full"), (85, "the name is not there"), (93, "k is below 0"), (100, "i is below 0")]
/-- what a throw asks of a state, beside the tables' words: words of other kinds, the two statics of Throwable, the texts -/
def hn_G (z0 : Nat) (sa : Nat → Nat) (U : State) (H : Heap) : Prop :=
  (∀ w ∈ hn_Bw, w.before #[] U = true) ∧ vx_Zq Bundle.tN "UNASSIGNED_STACK" Bundle.steD (fun q => z0 ≤ q) U H ∧ vx_Zq Bundle.tN "SUPPRESSED_SENTINEL" Bundle.listD (fun q => z0 ≤ q) U H ∧ ∀ q ∈ hn_strs, vk_R RX q.1 q.2 (sa q.1) U
theorem hn_Bw_on : ∀ w ∈ hn_Bw, w.onTables = true := by decide +kernel
theorem hn_Bw_warm {s U : State} (hW : s.WarmedH U.vm) (h : ∀ w ∈ hn_Bw, w.before #[] s = true) : ∀ w ∈ hn_Bw, w.before #[] U = true := by
  intro w hw
  have h1 := h w hw
  simp only [hn_Bw, hn_dc, List.mem_cons, List.not_mem_nil, or_false] at hw
  rcases hw with rfl | rfl | rfl | rfl | rfl
  · exact va_Nw.warmC hW h1
  · exact va_Nw.warmC hW h1
  · exact va_Nw.warmD hW h1
  · exact va_Nw.warmD hW h1
  · exact va_Nw.warmD hW h1
theorem hn_G_at {z0 : Nat} {sa : Nat → Nat} {s U : State} {H0 H : Heap} (hG : hn_G z0 sa s H0) (hW : s.WarmedH U.vm) (hk : ∀ q : Nat, q < H0.size → ¬ z0 ≤ q → H[q]? = H0[q]?) : hn_G z0 sa U H :=
  ⟨hn_Bw_warm hW hG.1, vx_Zq.moved hW.alike (hG.2.1.kept hk), vx_Zq.moved hW.alike (hG.2.2.1.kept hk), fun q hq => vk_R.warm hW (hG.2.2.2 q hq)⟩
theorem hn_G_same {z0 : Nat} {sa : Nat → Nat} {s U : State} {H : Heap} (hG : hn_G z0 sa s H) (hv : U.vm = s.vm) : hn_G z0 sa U H :=
  ⟨fun w hw => va_tabs (hn_Bw_on w hw) hv.symm (hG.1 w hw), vx_Zq.moved (by rw [hv]; exact Vm.Alike.refl s.vm) hG.2.1, vx_Zq.moved (by rw [hv]; exact Vm.Alike.refl s.vm) hG.2.2.1, fun q hq => vk_R.same hv (hG.2.2.2 q hq)⟩
theorem hn_Az {w : va_W} {sz z0 : Nat} (hD : va_D (fun q => z0 ≤ q) w) (hz : z0 ≤ sz) : ∀ q, va_A w sz q → z0 ≤ q := fun q h => by
  rcases h with ⟨k, e, h⟩ | h
  · exact hD.2 k (q, e) h
  · exact Nat.le_trans hz h
/-- what a method that may throw asks -/
def hn_PX (D : va_G) (tys : List (ClassId × FieldType)) (w : va_W) (sz z0 : Nat) (sa : Nat → Nat) (As : List Value) : Array Value → State → Prop :=
  va_Pc As (fun U => U.heap.size = sz ∧ va_P D vwCl w U.heap ∧ va_K D vwCl tys U ∧ va_D (fun q => z0 ≤ q) w ∧ z0 ≤ sz ∧ hn_G z0 sa U U.heap)
theorem hn_PX_blind {D : va_G} {tys : List (ClassId × FieldType)} {w : va_W} {sz z0 : Nat} {sa : Nat → Nat} {As : List Value} : FrameBlind (hn_PX D tys w sz z0 sa As) := fun a U g mk z => by
  obtain ⟨z1, z2, zP, zK, zD, zz, zG⟩ := z
  exact ⟨z1, z2, zP, va_K.moved (u := U) (U := U.calling g mk a) (Vm.Alike.refl U.vm) zK, zD, zz, hn_G_same (s := U) (U := U.calling g mk a) zG rfl⟩
theorem hn_preXS {D : va_G} {tys : List (ClassId × FieldType)} {w : va_W} {z0 : Nat} {sa : Nat → Nat} {As : List Value} {s : State} {H : Heap} {A : Nat → Prop} {locs : List Loc} (hP : va_P D vwCl w H) (hK : va_K D vwCl tys s) (hD : va_D (fun q => z0 ≤ q) w) (hz : z0 ≤ s.heap.size) (hG : hn_G z0 sa s s.heap) (hS : va_S A s.heap H locs) (hAz : ∀ q, A q → z0 ≤ q) : PreS s H (hn_PX D tys w H.size z0 sa As) As :=
  ⟨hn_PX_blind, fun U hU hW => ⟨rfl, by rw [hU], by rw [hU]; exact hP, va_K.moved hW.alike hK, hD, Nat.le_trans hz hS.1, by rw [hU]; exact hn_G_at hG hW (fun q h1 h2 => hS.2.1 q h1 (fun z => h2 (hAz q z)))⟩⟩
theorem hn_preXV {D : va_G} {tys : List (ClassId × FieldType)} {w : va_W} {z0 : Nat} {sa : Nat → Nat} {As : List Value} {s : State} {H : Heap} {A : Nat → Prop} {locs : List Loc} {b ci q0 : Nat} {q : vw_C} {fs : List Value} (hP : va_P D vwCl w H) (hK : va_K D vwCl tys s) (hD : va_D (fun q => z0 ≤ q) w) (hz : z0 ≤ s.heap.size) (hG : hn_G z0 sa s s.heap) (hS : va_S A s.heap H locs) (hAz : ∀ q, A q → z0 ≤ q) (hc : vwCl[ci]? = some q) (he : w[q0]? = some (b, .inr (ci, fs))) : PreV s H q.1 b (hn_PX D tys w H.size z0 sa (.ref b :: As)) As :=
  ⟨hn_PX_blind, va_recv hK hP hc he, fun U hU hW => ⟨rfl, by rw [hU], by rw [hU]; exact hP, va_K.moved hW.alike hK, hD, Nat.le_trans hz hS.1, by rw [hU]; exact hn_G_at hG hW (fun q h1 h2 => hS.2.1 q h1 (fun z => h2 (hAz q z)))⟩⟩
theorem hn_xcT {D : va_G} {tys : List (ClassId × FieldType)} {A : Nat → Prop} {w : va_W} {s t : State} {H : Heap} {locs : List Loc} (hP : va_P D vwCl w H) (hK : va_K D vwCl tys s) (hD : va_D A w) (hS : va_S A s.heap H locs) (ha : s.vm.Alike t.vm) (h1 : H.size ≤ t.heap.size) (h2 : ∀ q : Nat, q < H.size → t.heap[q]? = H[q]?) : hn_at D tys A w t ∧ va_F A s t :=
  ⟨⟨hP.kept (fun k q hq => h2 q.1 ((hP k q hq).lt)), va_K.moved ha hK, hD⟩, Nat.le_trans hS.1 h1, fun q a b => (h2 q (Nat.lt_of_lt_of_le a hS.1)).trans (hS.2.1 q a b)⟩
/-- a world that a call has left alone -/
theorem hn_kept0 {D : va_G} {w : va_W} {H H1 : Heap} (hP : va_P D vwCl w H) (hk : ∀ q : Nat, q < H.size → ¬ va_A [] H.size q → H1[q]? = H[q]?) : va_P D vwCl w H1 :=
  hP.kept (fun k q hq => hk q.1 ((hP k q hq).lt) (fun z => by
    rcases z with ⟨k9, e9, z⟩ | z
    · cases z
    · exact absurd ((hP k q hq).lt) (by omega)))
theorem hn_A0 {H : Heap} {q : Nat} (h1 : q < H.size) (h2 : va_A [] H.size q) : False := by
  rcases h2 with ⟨k9, e9, z⟩ | z
  · cases z
  · omega
theorem hn_A1 {A : Nat → Prop} {s : State} {H : Heap} {locs : List Loc} (hA : ∀ q : Nat, s.heap.size ≤ q → A q) (hS : va_S A s.heap H locs) {q : Nat} (h : va_A [] H.size q) : A q := by
  rcases h with ⟨k9, e9, z⟩ | z
  · cases z
  · exact hA q (Nat.le_trans hS.1 z)
section
variable {p : Program} {l : Launch} {e : Env} {R : Room} {s : State} {m : MethodId} {args : Array Value} {below : List Frame} {meth : Method} {c : Code} {H : Heap} {locs : List Loc} {cells slots : Nat} {Q : State → Prop}
variable {mc ms : Nat} {free : Addr → Prop} {A : Nat → Prop} {ls : Array Slot} {Qc : Array Value → State → Outcome → State → Prop} {XC : String → State → State → Prop} {cc : ByteArray} {pc z0 : Nat} {sa : Nat → Nat}
theorem hn_throwA (hexec : p.tables.exec = Jvm.exec) (hb : c.code = cc) (hl : l.stackTraces = false) (hts : ∀ w ∈ hn_tb, w.before args s = true) (hown : s.vm.findClass RX = some m.cls) (hG : hn_G z0 sa s s.heap) (hAz : ∀ q, A q → z0 ≤ q) (hS : va_S A s.heap H locs) (hsize : ls.size = c.maxLocals)
    {is : Nat} {text : String} (hstr : (is, text) ∈ hn_strs)
    (d0 : decode cc pc = .ok (.new 91, 3)) (d3 : decode cc (pc + 3) = .ok (.dup, 1)) (d4 : decode cc (pc + 4) = .ok (.ldc is, 2)) (d6 : decode cc (pc + 6) = .ok (.invokespecial 95, 3)) (d9 : decode cc (pc + 9) = .ok (.athrow, 1))
    (htab : ∀ x ∈ c.exceptionTable.toList, False) (hRframes : 5 < R.frames) (hRlocals : 82 ≤ R.locals) (hRcells : cells + 1 ≤ R.cells) (hRslots : slots + 6 ≤ R.slots) (hlocks : meth.locks = false)
    (hx : ∀ t : State, s.vm.Alike t.vm → H.size ≤ t.heap.size → (∀ q : Nat, q < H.size → t.heap[q]? = H[q]?) → XC "java/lang/IllegalArgumentException" s t)
    (hf : ∀ z ∈ locs, free z.base) (hc : cells + 1 ≤ mc) (hs : slots + 6 ≤ ms) :
    W p l e R s m args below meth c H locs cells slots (vx_MQ below Qc XC args s mc ms free) (F0 m pc ls []) :=
  vx_throwS (names := hn_nm2) hexec hb hl hown (by decide +kernel) (by decide +kernel) (hts _ mX_c_91) (hts _ mI_arg) (hG.2.2.2 _ hstr)
    (vx_hat (fun w hw => hts w (hn_tb_of (hn_ng2 w hw) (List.mem_filter.mp hw).2)) hn_ng1 (fun w hw => va_tabs (hn_Bw_on w hw) rfl (hG.1 w hw)))
    hn_ot1 (hG.2.1.narrow hAz) (hG.2.2.1.narrow hAz) hS hsize d0 d3 d4 d6 d9 (fun x hx => (htab x hx).elim) hRframes hRlocals hRcells hRslots hlocks hx hf hc hs
theorem hn_throwB (hexec : p.tables.exec = Jvm.exec) (hb : c.code = cc) (hl : l.stackTraces = false) (hts : ∀ w ∈ hn_tb, w.before args s = true) (hown : s.vm.findClass RX = some m.cls) (hG : hn_G z0 sa s s.heap) (hAz : ∀ q, A q → z0 ≤ q) (hS : va_S A s.heap H locs) (hsize : ls.size = c.maxLocals)
    {is : Nat} {text : String} (hstr : (is, text) ∈ hn_strs)
    (d0 : decode cc pc = .ok (.new 59, 3)) (d3 : decode cc (pc + 3) = .ok (.dup, 1)) (d4 : decode cc (pc + 4) = .ok (.ldc is, 2)) (d6 : decode cc (pc + 6) = .ok (.invokespecial 63, 3)) (d9 : decode cc (pc + 9) = .ok (.athrow, 1))
    (htab : ∀ x ∈ c.exceptionTable.toList, False) (hRframes : 5 < R.frames) (hRlocals : 82 ≤ R.locals) (hRcells : cells + 1 ≤ R.cells) (hRslots : slots + 6 ≤ R.slots) (hlocks : meth.locks = false)
    (hx : ∀ t : State, s.vm.Alike t.vm → H.size ≤ t.heap.size → (∀ q : Nat, q < H.size → t.heap[q]? = H[q]?) → XC "java/lang/IllegalStateException" s t)
    (hf : ∀ z ∈ locs, free z.base) (hc : cells + 1 ≤ mc) (hs : slots + 6 ≤ ms) :
    W p l e R s m args below meth c H locs cells slots (vx_MQ below Qc XC args s mc ms free) (F0 m pc ls []) :=
  vx_throwS (names := hn_nm2) hexec hb hl hown (by decide +kernel) (by decide +kernel) (hts _ mX_c_59) (hts _ mI_st) (hG.2.2.2 _ hstr)
    (vx_hat (fun w hw => hts w (hn_tb_of (hn_ng3 w hw) (List.mem_filter.mp hw).2)) hn_ng5 (fun w hw => va_tabs (hn_Bw_on w hw) rfl (hG.1 w hw)))
    hn_ot2 (hG.2.1.narrow hAz) (hG.2.2.1.narrow hAz) hS hsize d0 d3 d4 d6 d9 (fun x hx => (htab x hx).elim) hRframes hRlocals hRcells hRslots hlocks hx hf hc hs
end
end
