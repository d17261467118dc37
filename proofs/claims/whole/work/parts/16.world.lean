/-! the worlds; what a reader asks -/
section
def hn_ty (cI cL : ClassId) : List (ClassId × FieldType) := [(cI, .int), (cL, .long)]
/-- an object of the class at ad 0, its rows at ad 1 .. ad 9 -/
abbrev hn_wX (ad : Nat → Nat) (cI : ClassId) (σ : Nat → Nat → Int32) : va_W :=
  [(ad 0, .inr (0, [.ref (ad 1), .ref (ad 2), .ref (ad 3), .int (σ 0 0), .ref (ad 4), .ref (ad 5), .ref (ad 6), .ref (ad 7), .ref (ad 8), .ref (ad 9)])),
   (ad 1, .inl (cI, 5, .inl (σ 1))), (ad 2, .inl (cI, 5, .inl (σ 2))), (ad 3, .inl (cI, 5, .inl (σ 3))), (ad 4, .inl (cI, 1920, .inl (σ 4))), (ad 5, .inl (cI, 384, .inl (σ 5))),
   (ad 6, .inl (cI, 384, .inl (σ 6))), (ad 7, .inl (cI, 8, .inl (σ 7))), (ad 8, .inl (cI, 512, .inl (σ 8))), (ad 9, .inl (cI, 392, .inl (σ 9)))]
/-- what a reader of a world asks -/
def hn_PR (D : va_G) (cl : List vw_C) (tys : List (ClassId × FieldType)) (w : va_W) (As : List Value) : Array Value → State → Prop := va_Pc As (fun U => va_P D cl w U.heap ∧ va_K D cl tys U)
theorem hn_PR_blind {D : va_G} {cl : List vw_C} {tys : List (ClassId × FieldType)} {w : va_W} {As : List Value} : FrameBlind (hn_PR D cl tys w As) := fun a U g mk q => ⟨q.1, q.2.1, va_K.moved (u := U) (U := U.calling g mk a) (Vm.Alike.refl U.vm) q.2.2⟩
theorem hn_preS {D : va_G} {cl : List vw_C} {tys : List (ClassId × FieldType)} {w : va_W} {As : List Value} {s : State} {H : Heap} (hP : va_P D cl w H) (hK : va_K D cl tys s) : PreS s H (hn_PR D cl tys w As) As :=
  ⟨hn_PR_blind, fun U hU hW => ⟨rfl, by rw [hU]; exact hP, va_K.moved hW.alike hK⟩⟩
theorem hn_preV {D : va_G} {cl : List vw_C} {tys : List (ClassId × FieldType)} {w : va_W} {As : List Value} {s : State} {H : Heap} {b ci q0 : Nat} {q : vw_C} {fs : List Value} (hP : va_P D cl w H) (hK : va_K D cl tys s) (hc : cl[ci]? = some q) (he : w[q0]? = some (b, .inr (ci, fs))) : PreV s H q.1 b (hn_PR D cl tys w (.ref b :: As)) As :=
  ⟨hn_PR_blind, va_recv hK hP hc he, fun U hU hW => ⟨rfl, by rw [hU]; exact hP, va_K.moved hW.alike hK⟩⟩
theorem hn_pre0 {As : List Value} {s : State} {H : Heap} : PreS s H (va_Pc As (fun _ => True)) As := ⟨fun _ _ _ _ q => q, fun _ _ _ => ⟨rfl, trivial⟩⟩
end
