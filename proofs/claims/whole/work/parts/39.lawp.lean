def R_law : String := "HashedNamesLaw"
def lw_P (b : Addr) (xs : List Int32) (args : Array Value) (s : State) : Prop := args = #[.ref b] ∧ s.IntsAt b xs ∧ xs.length ≤ 3072 ∧ (Jvm.Cond.and given_1 narrow_1).before args s = true
def lw_Q (_ : Array Value) (s : State) (o : Outcome) (t : State) : Prop := o = .returned (some (.int 1)) ∧ Framed s o t [] 601024 7293034
def lw_Z (below : List Frame) (a : Array Value) (s : State) : State → Prop := fun t => ∃ o, t.status = .running ∧ Ended t below o ∧ lw_Q a s o t
/-- the law's own end, with 1 on the stack, nothing written that was there before, its room as the claim has it -/
theorem lw_ret {p : Program} {l : Launch} {e : Env} {s : State} {m : MethodId} {below : List Frame} {meth : Method} {c : Code} {b : Nat} (hx : p.tables.exec = Jvm.exec) (hb : c.code = code) (hr : meth.sig.returnType = ret) (hlocks : meth.locks = false) {pc : Nat} {H : Heap} {ls : Array Slot} (hdg : decode code pc = .ok (.ireturn, 1)) : W p l e room_1 s m #[Value.ref b] below meth c H [] 601024 7293034 (lw_Z below #[Value.ref b] s) (F0 m pc ls [.int 1]) := by
  intro T hT X
  obtain ⟨fs, hret, hrun, hended, hW, hframe⟩ := X.leave (v := some (.int 1)) (hlocks := hlocks) (fun h => by rw [hr] at h; cases h)
  have hmeth' : T.vm.method? m = some meth := X.method'
  refine ⟨T.setFrames fs, ?_, .returned (some (.int 1)), hrun, hended, rfl, ⟨_, rfl⟩, hW, hframe⟩
  jvm_step X.here [X.here.top, hx, hb, hdg, hmeth', hr, ret, narrow_b1]
  (try refine ⟨rfl, ?_⟩); (try refine ⟨rfl, ?_⟩)
  first | (intro acts; rw [hret _ acts rfl rfl rfl]) | rw [hret _ _ rfl rfl rfl]
  exact Steps.refl _
/-- what holds at the law's entry: the machine, the code, the tables' words (any of lw_tbl by 'hts w (by decide +kernel)'), the script of L ints xs at the cell b, what the Statement gives of the start (any of its parts by flat_of_before) -/
def lw_At (p : Program) (s : State) (m : MethodId) (meth : Method) (c : Code) (b L : Nat) (xs : Nat → Int32) : Prop :=
  p.tables.exec = Jvm.exec ∧ c.code = code ∧ meth.sig.returnType = ret ∧ c.maxLocals = 7 ∧ s.vm.findClass R_law = some m.cls ∧ (∀ w ∈ lw_tbl, w.before #[Value.ref b] s = true) ∧ va_X b L xs s s.heap ∧ b < s.heap.size ∧ meth.locks = false ∧ (Jvm.Cond.and given_1 narrow_1).before #[Value.ref b] s = true
section
/-- the law's world: x and the row for answers, then m -/
abbrev hn_wL (ad : Nat → Nat) (cI : ClassId) (σ : Nat → Nat → Int32) (ao : Nat) (cL : ClassId) (f : Nat → Int64) (am : Nat → Nat) (τ : Nat → Nat → Int32) : va_W :=
  [(ad 0, .inr (0, [.ref (ad 1), .ref (ad 2), .ref (ad 3), .int (σ 0 0), .ref (ad 4), .ref (ad 5), .ref (ad 6), .ref (ad 7), .ref (ad 8), .ref (ad 9)])),
   (ad 1, .inl (cI, 5, .inl (σ 1))), (ad 2, .inl (cI, 5, .inl (σ 2))), (ad 3, .inl (cI, 5, .inl (σ 3))), (ad 4, .inl (cI, 1920, .inl (σ 4))), (ad 5, .inl (cI, 384, .inl (σ 5))),
   (ad 6, .inl (cI, 384, .inl (σ 6))), (ad 7, .inl (cI, 8, .inl (σ 7))), (ad 8, .inl (cI, 512, .inl (σ 8))), (ad 9, .inl (cI, 392, .inl (σ 9))), (ao, .inl (cL, 1, .inr (.inl f))),
   (am 0, .inr (1, [.int (τ 0 0), .ref (am 1), .ref (am 2), .ref (am 3), .ref (am 4), .ref (am 5), .ref (am 6), .int (τ 0 1)])),
   (am 1, .inl (cI, 20, .inl (τ 1))), (am 2, .inl (cI, 8, .inl (τ 2))), (am 3, .inl (cI, 384, .inl (τ 3))), (am 4, .inl (cI, 384, .inl (τ 4))), (am 5, .inl (cI, 7680, .inl (τ 5))), (am 6, .inl (cI, 20, .inl (τ 6)))]
/-- the class and the reference hold the same -/
def hn_LI (σ τ : Nat → Nat → Int32) (h : Nat → Nat) (D9 : Nat → List hn_E) (tn TK : Nat) : Prop := hn_XR σ h D9 tn TK ∧ hn_MH τ h tn TK ∧ hn_MD τ D9 ∧ hn_DO D9
theorem hn_gSW {own : String} {idx : Nat} {y : MethodName} {b : ByteArray} {n : Nat} {ret : Option FieldType} {hh : List (Nat × Nat × Nat × Nat)} (h1 : Cond.methodLink own idx y ∈ hn_tb) (h2 : Cond.static y ∈ hn_tb) (h3 : Cond.initialized y.cls ∈ hn_tb) (h4 : Cond.codeWith y b n ret hh ∈ hn_tb) : GoodIn hn_tb (va_wsS own idx y (.codeWith y b n ret hh :: hn_tb)) := by
  intro w hw
  refine hn_tb_good w ?_
  unfold va_wsS at hw
  simp only [List.mem_append, List.mem_cons, List.not_mem_nil, or_false] at hw
  rcases hw with (rfl | rfl | rfl) | rfl | hw
  · exact h1
  · exact h2
  · exact h3
  · exact h4
  · exact hw
theorem gL_L_add : GoodIn hn_tb (va_wsS RL 46 yL_add wL_add) := hn_gSW mL_l_L_add mL_st_add mL_ini mL_code_add
theorem gL_L_find : GoodIn hn_tb (va_wsS RL 56 yL_find wL_find) := hn_gSW mL_l_L_find mL_st_find mL_ini mL_code_find
theorem gL_L_remove : GoodIn hn_tb (va_wsS RL 60 yL_remove wL_remove) := hn_gSW mL_l_L_remove mL_st_remove mL_ini mL_code_remove
theorem gL_L_change : GoodIn hn_tb (va_wsS RL 63 yL_change wL_change) := hn_gSW mL_l_L_change mL_st_change mL_ini mL_code_change
theorem gL_L_size : GoodIn hn_tb (va_wsS RL 66 yL_size wL_size) := hn_gSW mL_l_L_size mL_st_size mL_ini mL_code_size
theorem gL_L_nth : GoodIn hn_tb (va_wsS RL 70 yL_nth wL_nth) := hn_gSW mL_l_L_nth mL_st_nth mL_ini mL_code_nth
theorem gL_L_byteAt : GoodIn hn_tb (va_wsS RL 73 yL_byteAt wL_byteAt) := hn_gSW mL_l_L_byteAt mL_st_byteAt mL_ini mL_code_byteAt
theorem hn_by_of {w v : Nat → Int32} (h : ∀ i, i < 5 → w i = v i) {k : Nat} (hk : k < 20) : hn_by w k = hn_by v k := by
  unfold hn_by
  rw [h (k / 4) (by omega)]
theorem hn_XR_say {σ σ' : Nat → Nat → Int32} {h : Nat → Nat} {D : Nat → List hn_E} {tn TK : Nat} {w : Nat → Int32} (hx : hn_XR σ h D tn TK) (h0 : σ' 0 = σ 0) (h3 : σ' 3 = σ 3) (h4 : σ' 4 = σ 4) (h5 : σ' 5 = σ 5) (h6 : σ' 6 = σ 6) (h7 : σ' 7 = σ 7) (h8 : σ' 8 = σ 8) (h9 : σ' 9 = σ 9) (h1 : ∀ i, i < 5 → σ' 1 i = w i) : hn_XR σ' (hn_by w) D tn TK := by
  obtain ⟨L, B, hI, hD, a1, a2, a3, a4⟩ := hx
  refine ⟨L, B, hn_I_keep hI h4 h5 h7 h8 h9, ?_, fun k hk => hn_by_of h1 hk, by rw [h0]; exact a2, a3, by rw [h3]; exact a4⟩
  intro d hd
  have e : hn_ent σ' = hn_ent σ := by
    funext s
    unfold hn_ent hn_ns
    rw [h4, h5, h6]
  rw [e, h5]
  exact hD d hd
theorem hn_M_say {τ τ' : Nat → Nat → Int32} {h : Nat → Nat} {D : Nat → List hn_E} {tn TK : Nat} {w : Nat → Int32} (hH : hn_MH τ h tn TK) (hM : hn_MD τ D) (h0 : τ' 0 = upd (τ 0) 0 0) (h2 : τ' 2 = τ 2) (h3 : τ' 3 = τ 3) (h4 : τ' 4 = τ 4) (h5 : τ' 5 = τ 5) (h6 : τ' 6 = τ 6) (h1 : ∀ j, j < 20 → τ' 1 j = nI (hn_by w j)) : hn_MH τ' (hn_by w) tn TK ∧ hn_MD τ' D := by
  refine ⟨⟨h1, fun k => hn_by_lt w k, ?_, hH.2.2.2.1, ?_⟩, ?_⟩
  · rw [h0]
    exact hH.2.2.1
  · rw [h6]
    exact hH.2.2.2.2
  · unfold hn_MD hn_sl at *
    rw [h2, h3, h4, h5]
    exact hM
end
