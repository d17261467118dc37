section
-- ===== PART A: goes FIRST, ahead of the names: the tables' words, and 'selects' of the private methods out of them =====
def lw_okq (q : MethodName × Nat) : Prop := (q.1.cls ≠ "java/lang/invoke/MethodHandle" ∧ q.1.cls ≠ "java/lang/invoke/VarHandle") ∧ Cond.instantiable q.1.cls q.2 ∈ tables_1 ∧ Cond.privateMethod q.1 ∈ tables_1 ∧ Cond.instanceMethod q.1 ∈ tables_1
theorem lw_p0 : lw_okq (⟨"java/lang/Throwable", "fillInStackTrace", "(I)Ljava/lang/Throwable;"⟩, 6) := ⟨⟨by decide +kernel, by decide +kernel⟩, List.mem_of_getElem? (i := 102) (by decide +kernel), List.mem_of_getElem? (i := 100) (by decide +kernel), List.mem_of_getElem? (i := 101) (by decide +kernel)⟩
theorem lw_p1 : lw_okq (⟨"HashedNames", "takeKey", "(I)V"⟩, 10) := ⟨⟨by decide +kernel, by decide +kernel⟩, List.mem_of_getElem? (i := 9) (by decide +kernel), List.mem_of_getElem? (i := 137) (by decide +kernel), List.mem_of_getElem? (i := 138) (by decide +kernel)⟩
theorem lw_p2 : lw_okq (⟨"HashedNames", "slotOfKey", "(I)I"⟩, 10) := ⟨⟨by decide +kernel, by decide +kernel⟩, List.mem_of_getElem? (i := 9) (by decide +kernel), List.mem_of_getElem? (i := 149) (by decide +kernel), List.mem_of_getElem? (i := 150) (by decide +kernel)⟩
theorem lw_p3 : lw_okq (⟨"HashedNames", "bucketHead", "(I)I"⟩, 10) := ⟨⟨by decide +kernel, by decide +kernel⟩, List.mem_of_getElem? (i := 9) (by decide +kernel), List.mem_of_getElem? (i := 153) (by decide +kernel), List.mem_of_getElem? (i := 154) (by decide +kernel)⟩
theorem lw_p4 : lw_okq (⟨"HashedNames", "placeBeforeKey", "([II)I"⟩, 10) := ⟨⟨by decide +kernel, by decide +kernel⟩, List.mem_of_getElem? (i := 9) (by decide +kernel), List.mem_of_getElem? (i := 158) (by decide +kernel), List.mem_of_getElem? (i := 159) (by decide +kernel)⟩
theorem lw_p5 : lw_okq (⟨"HashedNames", "compareWithKey", "(I)I"⟩, 10) := ⟨⟨by decide +kernel, by decide +kernel⟩, List.mem_of_getElem? (i := 9) (by decide +kernel), List.mem_of_getElem? (i := 165) (by decide +kernel), List.mem_of_getElem? (i := 166) (by decide +kernel)⟩
theorem lw_p6 : lw_okq (⟨"HashedNames", "freeSlot", "(I)I"⟩, 10) := ⟨⟨by decide +kernel, by decide +kernel⟩, List.mem_of_getElem? (i := 9) (by decide +kernel), List.mem_of_getElem? (i := 186) (by decide +kernel), List.mem_of_getElem? (i := 187) (by decide +kernel)⟩
theorem lw_p7 : lw_okq (⟨"HashedNames", "keepKey", "(II)V"⟩, 10) := ⟨⟨by decide +kernel, by decide +kernel⟩, List.mem_of_getElem? (i := 9) (by decide +kernel), List.mem_of_getElem? (i := 191) (by decide +kernel), List.mem_of_getElem? (i := 192) (by decide +kernel)⟩
theorem lw_p8 : lw_okq (⟨"HashedNames", "link", "([III)V"⟩, 10) := ⟨⟨by decide +kernel, by decide +kernel⟩, List.mem_of_getElem? (i := 9) (by decide +kernel), List.mem_of_getElem? (i := 195) (by decide +kernel), List.mem_of_getElem? (i := 196) (by decide +kernel)⟩
theorem lw_p9 : lw_okq (⟨"HashedNames", "unlinkKey", "([II)V"⟩, 10) := ⟨⟨by decide +kernel, by decide +kernel⟩, List.mem_of_getElem? (i := 9) (by decide +kernel), List.mem_of_getElem? (i := 217) (by decide +kernel), List.mem_of_getElem? (i := 218) (by decide +kernel)⟩
theorem lw_p10 : lw_okq (⟨"HashedNames", "slotInOrder", "(II)I"⟩, 10) := ⟨⟨by decide +kernel, by decide +kernel⟩, List.mem_of_getElem? (i := 9) (by decide +kernel), List.mem_of_getElem? (i := 243) (by decide +kernel), List.mem_of_getElem? (i := 244) (by decide +kernel)⟩
theorem lw_p11 : lw_okq (⟨"HashedNamesModel", "isName", "(I)Z"⟩, 8) := ⟨⟨by decide +kernel, by decide +kernel⟩, List.mem_of_getElem? (i := 255) (by decide +kernel), List.mem_of_getElem? (i := 301) (by decide +kernel), List.mem_of_getElem? (i := 302) (by decide +kernel)⟩
theorem lw_p12 : lw_okq (⟨"HashedNamesModel", "place", "(II)I"⟩, 8) := ⟨⟨by decide +kernel, by decide +kernel⟩, List.mem_of_getElem? (i := 255) (by decide +kernel), List.mem_of_getElem? (i := 309) (by decide +kernel), List.mem_of_getElem? (i := 310) (by decide +kernel)⟩
theorem lw_p13 : lw_okq (⟨"HashedNamesModel", "compare", "(II)I"⟩, 8) := ⟨⟨by decide +kernel, by decide +kernel⟩, List.mem_of_getElem? (i := 255) (by decide +kernel), List.mem_of_getElem? (i := 313) (by decide +kernel), List.mem_of_getElem? (i := 314) (by decide +kernel)⟩
theorem lw_p14 : lw_okq (⟨"HashedNamesModel", "isAt", "(III)Z"⟩, 8) := ⟨⟨by decide +kernel, by decide +kernel⟩, List.mem_of_getElem? (i := 255) (by decide +kernel), List.mem_of_getElem? (i := 317) (by decide +kernel), List.mem_of_getElem? (i := 318) (by decide +kernel)⟩
theorem lw_p15 : lw_okq (⟨"HashedNamesModel", "throwing", "(ZZ)Z"⟩, 8) := ⟨⟨by decide +kernel, by decide +kernel⟩, List.mem_of_getElem? (i := 255) (by decide +kernel), List.mem_of_getElem? (i := 321) (by decide +kernel), List.mem_of_getElem? (i := 322) (by decide +kernel)⟩
def lw_privs_1 : List (MethodName × Nat) := [(⟨"java/lang/Throwable", "fillInStackTrace", "(I)Ljava/lang/Throwable;"⟩, 6), (⟨"HashedNames", "takeKey", "(I)V"⟩, 10), (⟨"HashedNames", "slotOfKey", "(I)I"⟩, 10), (⟨"HashedNames", "bucketHead", "(I)I"⟩, 10), (⟨"HashedNames", "placeBeforeKey", "([II)I"⟩, 10), (⟨"HashedNames", "compareWithKey", "(I)I"⟩, 10), (⟨"HashedNames", "freeSlot", "(I)I"⟩, 10), (⟨"HashedNames", "keepKey", "(II)V"⟩, 10), (⟨"HashedNames", "link", "([III)V"⟩, 10), (⟨"HashedNames", "unlinkKey", "([II)V"⟩, 10), (⟨"HashedNames", "slotInOrder", "(II)I"⟩, 10), (⟨"HashedNamesModel", "isName", "(I)Z"⟩, 8), (⟨"HashedNamesModel", "place", "(II)I"⟩, 8), (⟨"HashedNamesModel", "compare", "(II)I"⟩, 8), (⟨"HashedNamesModel", "isAt", "(III)Z"⟩, 8), (⟨"HashedNamesModel", "throwing", "(ZZ)Z"⟩, 8)]
theorem lw_r1 : ∀ q ∈ lw_privs_1, lw_okq q := List.forall_mem_cons.mpr ⟨lw_p0, List.forall_mem_cons.mpr ⟨lw_p1, List.forall_mem_cons.mpr ⟨lw_p2, List.forall_mem_cons.mpr ⟨lw_p3, List.forall_mem_cons.mpr ⟨lw_p4, List.forall_mem_cons.mpr ⟨lw_p5, List.forall_mem_cons.mpr ⟨lw_p6, List.forall_mem_cons.mpr ⟨lw_p7, List.forall_mem_cons.mpr ⟨lw_p8, List.forall_mem_cons.mpr ⟨lw_p9, List.forall_mem_cons.mpr ⟨lw_p10, List.forall_mem_cons.mpr ⟨lw_p11, List.forall_mem_cons.mpr ⟨lw_p12, List.forall_mem_cons.mpr ⟨lw_p13, List.forall_mem_cons.mpr ⟨lw_p14, List.forall_mem_cons.mpr ⟨lw_p15, fun _ h => absurd h List.not_mem_nil⟩⟩⟩⟩⟩⟩⟩⟩⟩⟩⟩⟩⟩⟩⟩⟩
theorem lw_p16 : lw_okq (⟨"HashedNamesModel", "move", "(II)V"⟩, 8) := ⟨⟨by decide +kernel, by decide +kernel⟩, List.mem_of_getElem? (i := 255) (by decide +kernel), List.mem_of_getElem? (i := 325) (by decide +kernel), List.mem_of_getElem? (i := 326) (by decide +kernel)⟩
def lw_privs_2 : List (MethodName × Nat) := [(⟨"HashedNamesModel", "move", "(II)V"⟩, 8)]
theorem lw_r2 : ∀ q ∈ lw_privs_2, lw_okq q := List.forall_mem_cons.mpr ⟨lw_p16, fun _ h => absurd h List.not_mem_nil⟩
def lw_privs : List (MethodName × Nat) := lw_privs_1 ++ (lw_privs_2)
def lw_tbl : List Cond := k2_sels lw_privs ++ tables_1
theorem lw_privs_ok : ∀ q ∈ lw_privs, lw_okq q := by
  show ∀ q ∈ lw_privs_1 ++ (lw_privs_2), lw_okq q
  exact List.forall_mem_append.mpr ⟨lw_r1, lw_r2⟩
end
section
theorem goodIn_r {big : List Cond} (ws : List Cond) (ps : List Nat) (hp : ws = ps.filterMap (fun i => big[i]?)) (h : ws.all goodWord = true) : GoodIn big ws := by
  intro w hw
  have h1 := List.all_eq_true.mp h w hw
  rw [hp] at hw
  obtain ⟨i, -, hi⟩ := List.mem_filterMap.mp hw
  have hm : w ∈ big := by first | exact List.mem_of_getElem? hi | exact List.getElem?_mem hi
  exact ⟨hm, good_of_word h1⟩
theorem goodIn_app {big a b : List Cond} (ha : GoodIn big a) (hb : GoodIn big b) : GoodIn big (a ++ b) := fun w h => (List.mem_append.mp h).elim (ha w) (hb w)
theorem goodIn_ca {big a b : List Cond} {c : Cond} (ha : GoodIn big (c :: a)) (hb : GoodIn big b) : GoodIn big (c :: (a ++ b)) := fun w h => (List.mem_cons.mp h).elim (fun e => ha w (List.mem_cons.mpr (Or.inl e))) (fun h => (List.mem_append.mp h).elim (fun h => ha w (List.mem_cons.mpr (Or.inr h))) (hb w))
theorem goodIn_sub {big ws : List Cond} (hm : ∀ w ∈ ws, w ∈ big) (h : ws.all goodWord = true) : GoodIn big ws := fun w hw => ⟨hm w hw, good_of_word (List.all_eq_true.mp h w hw)⟩

section VXA
def vx_T (XC : String → State → State → Prop) (st : State) (q : Addr) (t : State) (mc ms : Nat) (free : Addr → Prop) : Prop :=
  ∃ (E : String) (ce : Cell) (L : List Loc), XC E st t ∧ t.heap[q]? = some ce ∧ ce.vm = .none ∧ st.vm.findClass E = some ce.cls ∧ st.WarmedH t.vm ∧ st.sameButNew ({ t with vm := st.vm } : State) L mc ms ∧ ∀ z ∈ L, free z.base
def vx_Q (Qc : Array Value → State → Outcome → State → Prop) (XC : String → State → State → Prop) (mc ms : Nat) (free : Addr → Prop) : Array Value → State → Outcome → State → Prop := fun a st o t =>
  (Qc a st o t ∧ ∃ L, FrameEnd st o t L mc ms ∧ ∀ q ∈ L, free q.base) ∨ ∃ q, o = .threw q ∧ vx_T XC st q t mc ms free
def vx_Met (l : Launch) (y : MethodName) (ws : List Cond) (rm : Room) (Pc : Array Value → State → Prop) (Qc : Array Value → State → Outcome → State → Prop) (XC : String → State → State → Prop) (mc ms : Nat) (free : Addr → Prop) : Prop :=
  MetFree l y (headSpec ws rm) Pc (fun _ _ _ _ _ => True) (vx_Q Qc XC mc ms free)
def vx_Post (XC : String → State → State → Prop) (mc ms : Nat) (free : Addr → Prop) : Pt → Array Value → Addr → Pt → Prop := fun A a q B =>
  ∃ (g : JFrame) (mk : MethodId) (t : State) (L : List Loc) (E : String) (ce : Cell), B.U.heap = t.heap ∧ B.U.vm = t.vm ∧ XC E (A.U.calling g mk a) t ∧ t.heap[q]? = some ce ∧ ce.vm = .none ∧ A.U.vm.findClass E = some ce.cls ∧ B.locs = A.locs ++ L ∧ (∀ z ∈ L, free z.base) ∧ B.cells = A.cells + mc ∧ B.slots = A.slots + ms
def vx_Back (l : Launch) (R : Room) (p : Program) (e : Env) (below : List Frame) (s : State) (sargs : Array Value) (y : MethodName) (len W9 : Nat)
    (Pre : Pt → Array Value → Prop) (Post : Pt → Array Value → Option Value → Pt → Prop) (PostX : Pt → Array Value → Addr → Pt → Prop) : Prop :=
  ∀ (m : MethodId) (meth : Method) (c : Code) (A : Pt) (g : JFrame) (ig : Instr) (mk : MethodId) (a : Array Value),
    Stand p l e R s m sargs below meth c A.U A.locs A.cells A.slots → g.method = m → g.locals.size = c.maxLocals → decode c.code g.pc = .ok (ig, len) →
    2 * g.monitorRoom + (g.stack.map fun v => v.category).sum ≤ W9 → A.U.methodNamed? y = some mk → Pre A a →
    (∃ (v : Option Value) (B : Pt), Stand p l e R s m sargs below meth c B.U B.locs B.cells B.slots ∧ Post A a v B ∧
      Steps p.tables e below (doInvoke e (A.U.setTop g) [] mk a).1 (B.U.setTop { g with pc := g.pc + len, stack := v.toList ++ g.stack })) ∨
    (∃ (q : Addr) (B : Pt), Stand p l e R s m sargs below meth c B.U B.locs B.cells B.slots ∧ PostX A a q B ∧
      Steps p.tables e below (doInvoke e (A.U.setTop g) [] mk a).1 ((B.U.setTop g).pushFrame (.throwing q)))
section Payer
variable {l : Launch} {R : Room} {p : Program} {e : Env} {below : List Frame} {s : State} {sargs : Array Value} {y : MethodName} {len W9 : Nat}
theorem vx_back {ws : List Cond} {rm : Room} {Pc : Array Value → State → Prop} {Qc : Array Value → State → Outcome → State → Prop} {XC : String → State → State → Prop} {mc ms : Nat} {free : Addr → Prop} {bytes : ByteArray} {maxL : Nat} {ret : Option FieldType}
    (hM : vx_Met l y ws rm Pc Qc XC mc ms free) (hblind : FrameBlind Pc) (hrc : rm.cells = mc) (hrs : rm.slots = ms)
    (hframes : rm.frames + 1 ≤ R.frames) (hlocals : W9 + (maxL + 11) + rm.locals ≤ R.locals)
    (hws : ∀ w ∈ ws, ∀ a' U, s.WarmedH U.vm → w.before a' U = true) (hcode : Cond.code y bytes maxL ret ∈ ws) (hinit : ∀ a' U, s.WarmedH U.vm → (Cond.initialized y.cls).before a' U = true) :
    vx_Back l R p e below s sargs y len W9 (PreOf R mc ms Pc) (PostOf Qc mc ms free) (vx_Post XC mc ms free) := by
  intro m meth c A g ig mk a X hg hsize hdg hW hn hp
  have h1 : (headSpec ws rm).pre.before a A.U = true := atoms_intro fun w hw => hws w hw _ _ X.warmed
  have h2 : (Cond.code y bytes maxL ret).before a A.U = true := hws _ hcode _ _ X.warmed
  have h3 : (Cond.initialized y.cls).before a A.U = true := hinit _ _ X.warmed
  have h4 : A.cells + (headSpec ws rm).room.cells ≤ R.cells := by rw [show (headSpec ws rm).room.cells = mc from hrc]; exact hp.1
  have h5 : A.slots + (headSpec ws rm).room.slots ≤ R.slots := by rw [show (headSpec ws rm).room.slots = ms from hrs]; exact hp.2.1
  have hPc : Pc a (A.U.calling g mk a) := hblind _ _ _ _ hp.2.2
  obtain ⟨U, Ls, c0, s0⟩ := A
  dsimp only [Pt.U, Pt.locs, Pt.cells, Pt.slots] at h1 h2 h3 h4 h5 X hn hPc ⊢
  obtain ⟨methY, cY, hmY, hcY, -, hlY, -, -, -, -⟩ := Cond.code_spec hn h2
  obtain ⟨kY, hkY, -⟩ := className_of_methodNamed hn
  have hinitY : kY.init = .initialized := Cond.initialized_spec (findClass_of_methodNamed hn) hkY h3
  have h : At U g.method c below := by rw [hg]; exact X.here
  have hlocals9 : W9 + (maxL + 11) + (headSpec ws rm).room.locals ≤ R.locals := hlocals
  have happ : (headSpec ws rm).appliesLoose y e.platform (U.calling g mk a) = true :=
    Spec.appliesLoose_calling (g := g) h hdg hn hkY hinitY
      (X.room_calling (g := g) (R' := (headSpec ws rm).room) hsize hmY hcY hframes (by rw [hlY]; omega) h4 h5) h1
  obtain ⟨mid, hmid⟩ := h.above
  have hfr : (U.setTop g).frames = (.java g :: mid) ++ below := by rw [State.frames_setTop' g h.top, hmid]; rfl
  obtain ⟨o, s₂, hsteps, -, hend, hq⟩ := Steps.callFree hM p X.admits X.cas X.clock (acts := []) hfr happ hPc trivial
  have hq' : vx_Q Qc XC mc ms free a (U.calling g mk a) o s₂ := hq
  rw [State.frames_setTop' g h.top] at hend
  obtain ⟨g₀, hg0⟩ := Option.isSome_iff_exists.mp h.top
  obtain ⟨r, hr⟩ := State.topJava?_eq_some.mp hg0
  have hr' : (({ U with heap := s₂.heap, slotsUsed := s₂.slotsUsed } : State).setVm s₂.vm).frames = .java g₀ :: r := hr
  rcases hq' with ⟨hqc, L, hfe, hL⟩ | ⟨q, rfl, E, ce, L, hx, hce, hcv, hcl, hW₂, hsm, hL⟩
  · obtain ⟨⟨v, rfl⟩, hW₂, e2, q2, q3, q4, q5, q6⟩ := id hfe
    have e3 : s₂ = ({ (U.calling g mk a).setFrames s₂.frames with heap := s₂.heap, slotsUsed := s₂.slotsUsed } : State).setVm s₂.vm := by
      have : s₂ = ({ s₂ with vm := (U.calling g mk a).vm } : State).setVm s₂.vm := rfl
      rw [e2] at this
      exact this
    obtain ⟨c₂, i₂, len₂, hc₂, hd₂, hf₂⟩ := hend
    have hW' : U.WarmedH s₂.vm := hW₂
    have hcc : c₂ = c := by
      have h1 : s₂.code? g.method = U.code? g.method := by
        rw [State.code?_eq, State.code?_eq, hW'.alike.method?]
      exact Option.some.inj (hc₂.symm.trans (h1.trans h.code))
    subst hcc
    have hlen : len₂ = len := by rw [hdg] at hd₂; cases hd₂; rfl
    subst hlen
    have hs₂ : s₂ = (({ U with heap := s₂.heap, slotsUsed := s₂.slotsUsed } : State).setVm s₂.vm).setTop { g with pc := g.pc + len₂, stack := v.toList ++ g.stack } := by
      refine e3.trans ?_
      rw [hf₂, State.calling_eq h.top, State.setFrames_setFrames, State.setTop_of_frames _ hr', hr]
      rfl
    have hsame : U.sameButNew ({ U with heap := s₂.heap, slotsUsed := s₂.slotsUsed } : State) L mc ms := by
      refine ⟨?_, q2, q3, q4, q5, q6⟩
      obtain ⟨t, ht, -⟩ := State.frames_cons hr
      show ({ U with heap := s₂.heap, slotsUsed := s₂.slotsUsed } : State) = { U.setFrames U.frames with heap := s₂.heap, slotsUsed := s₂.slotsUsed }
      rw [State.setFrames_self ht]
    subst hg
    refine Or.inl ⟨v, ⟨(({ U with heap := s₂.heap, slotsUsed := s₂.slotsUsed } : State).setVm s₂.vm), Ls ++ L, c0 + mc, s0 + ms⟩,
      ⟨X.admits, X.cas, X.clock, X.frames, X.room, X.hears, X.method, X.code, (X.here.setHeapUsed s₂.heap s₂.slotsUsed).setVm hW'.alike, X.tail, State.WarmedH.trans X.warmed hW', X.limits, X.bytes, X.same.trans (hsame.setVm s.vm)⟩,
      ⟨g, mk, s₂, L, rfl, rfl, hqc, rfl, hL, rfl, rfl⟩, ?_⟩
    show Steps p.tables e below _ ((({ U with heap := s₂.heap, slotsUsed := s₂.slotsUsed } : State).setVm s₂.vm).setTop { g with pc := g.pc + len₂, stack := v.toList ++ g.stack })
    rw [← hs₂]
    exact hsteps
  · obtain ⟨e2, q2, q3, q4, q5, q6⟩ := id hsm
    have e3 : s₂ = ({ (U.calling g mk a).setFrames s₂.frames with heap := s₂.heap, slotsUsed := s₂.slotsUsed } : State).setVm s₂.vm := by
      have : s₂ = ({ s₂ with vm := (U.calling g mk a).vm } : State).setVm s₂.vm := rfl
      rw [e2] at this
      exact this
    have hf₂ : s₂.frames = .throwing q :: .java g :: U.frames.tail := hend
    have hW' : U.WarmedH s₂.vm := hW₂
    have hs₂ : s₂ = ((({ U with heap := s₂.heap, slotsUsed := s₂.slotsUsed } : State).setVm s₂.vm).setTop g).pushFrame (.throwing q) := by
      refine e3.trans ?_
      rw [hf₂, State.calling_eq h.top, State.setFrames_setFrames, State.pushFrame, State.frames_setTop _ hr', State.setTop_of_frames _ hr', State.setFrames_setFrames, hr]
      rfl
    have hsame : U.sameButNew ({ U with heap := s₂.heap, slotsUsed := s₂.slotsUsed } : State) L mc ms := by
      refine ⟨?_, q2, q3, q4, q5, q6⟩
      obtain ⟨t, ht, -⟩ := State.frames_cons hr
      show ({ U with heap := s₂.heap, slotsUsed := s₂.slotsUsed } : State) = { U.setFrames U.frames with heap := s₂.heap, slotsUsed := s₂.slotsUsed }
      rw [State.setFrames_self ht]
    subst hg
    refine Or.inr ⟨q, ⟨(({ U with heap := s₂.heap, slotsUsed := s₂.slotsUsed } : State).setVm s₂.vm), Ls ++ L, c0 + mc, s0 + ms⟩,
      ⟨X.admits, X.cas, X.clock, X.frames, X.room, X.hears, X.method, X.code, (X.here.setHeapUsed s₂.heap s₂.slotsUsed).setVm hW'.alike, X.tail, State.WarmedH.trans X.warmed hW', X.limits, X.bytes, X.same.trans (hsame.setVm s.vm)⟩,
      ⟨g, mk, s₂, L, E, ce, rfl, rfl, hx, hce, hcv, hcl, rfl, hL, rfl, rfl⟩, ?_⟩
    show Steps p.tables e below _ (((({ U with heap := s₂.heap, slotsUsed := s₂.slotsUsed } : State).setVm s₂.vm).setTop g).pushFrame (.throwing q))
    rw [← hs₂]
    exact hsteps
end Payer
section Calls
variable {p : Program} {l : Launch} {e : Env} {R : Room} {s : State} {m : MethodId} {args : Array Value} {below : List Frame} {meth : Method} {c : Code} {T : State} {locs : List Loc} {cells slots : Nat}
theorem vx_callV (X : Stand p l e R s m args below meth c T locs cells slots) (hexec : p.tables.exec = Jvm.exec) {own C : String} {index : Nat} {y : MethodName} {bytes : ByteArray} {maxL : Nat} {ret : Option FieldType}
    (hown : s.vm.findClass own = some m.cls) (hlink : (Cond.methodLink own index y).before args s = true) (hinst : (Cond.instanceMethod y).before args s = true) (hsel : (Cond.selects C y y).before args s = true)
    (hcode : (Cond.code y bytes maxL ret).before args s = true) (hy : y.cls ≠ "java/lang/invoke/MethodHandle" ∧ y.cls ≠ "java/lang/invoke/VarHandle")
    {W9 : Nat} {Pre : Pt → Array Value → Prop} {Post : Pt → Array Value → Option Value → Pt → Prop} {PostX : Pt → Array Value → Addr → Pt → Prop} (hK : vx_Back l R p e below s args y 3 W9 Pre Post PostX)
    {b : Addr} {cellB : Cell} (hcell : T.heap[b]? = some cellB) (hobj : cellB.vm.isStatics = false) (hcls : s.vm.findClass C = some cellB.cls)
    {g : JFrame} (hg : g.method = m) (hsize : g.locals.size = c.maxLocals) {argsL rest : List Value} (hlen : ∀ sig, parseMethodDescriptor y.desc = some sig → argsL.length = sig.parameters.length)
    (hstack : g.stack = argsL.reverse ++ .ref b :: rest) (hW : 2 * g.monitorRoom + (rest.map fun v => v.category).sum ≤ W9) (hdg : decode c.code g.pc = .ok (.invokevirtual index, 3))
    (hpre : ∀ vm₁, s.WarmedH vm₁ → Pre ⟨T.setVm vm₁, locs, cells, slots⟩ (Value.ref b :: argsL).toArray) :
    (∃ (v : Option Value) (vm₁ : Vm) (B : Pt), s.WarmedH vm₁ ∧ Stand p l e R s m args below meth c B.U B.locs B.cells B.slots ∧ Post ⟨T.setVm vm₁, locs, cells, slots⟩ (Value.ref b :: argsL).toArray v B ∧
      ∀ target, Steps p.tables e below (B.U.setTop { g with pc := g.pc + 3, stack := v.toList ++ rest }) target → Steps p.tables e below (T.setTop g) target) ∨
    (∃ (q : Addr) (vm₁ : Vm) (B : Pt), s.WarmedH vm₁ ∧ Stand p l e R s m args below meth c B.U B.locs B.cells B.slots ∧ PostX ⟨T.setVm vm₁, locs, cells, slots⟩ (Value.ref b :: argsL).toArray q B ∧
      Steps p.tables e below (T.setTop g) ((B.U.setTop { g with stack := rest }).pushFrame (.throwing q))) := by
  obtain ⟨mk, methM, hnamed, hmethM, hstM, habM⟩ := Cond.instanceMethod_spec hinst
  obtain ⟨methM', cM, hmethM', -, -, -, -, -, -, hsigM⟩ := Cond.code_spec hnamed hcode
  cases hmethM.symm.trans hmethM'
  obtain ⟨c2, r2, m2, q1, q2, q3, q4, kP, hkP, hkPi⟩ := Cond.selects_spec hsel
  cases hcls.symm.trans q1
  cases (State.methodFound?_of_named hnamed hy).symm.trans q2
  cases hnamed.symm.trans q3
  have hselP : selectMethod e.platform s.vm cellB.cls mk = .method mk := by rw [Launch.admits_selectMethod X.admits]; exact q4
  obtain ⟨vm₁, X₁, hstep₁⟩ := X.invokevirtual hexec hown hlink hnamed hmethM hstM hkP hkPi hy (a := b) (cell := cellB) hcell
    (fun z h => by rw [h] at hobj; cases hobj) hselP hmethM habM hkP hkPi (g := g) hg (argsL := argsL) (rest := rest) (hlen _ hsigM) hstack hdg
  rcases hK m meth c ⟨T.setVm vm₁, locs, cells, slots⟩ { g with stack := rest } (.invokevirtual index) mk (Value.ref b :: argsL).toArray X₁ hg hsize hdg hW (X₁.named hnamed) (hpre vm₁ X₁.warmed) with ⟨v, B, X', hpost, hsteps⟩ | ⟨q, B, X', hpost, hsteps⟩
  · exact Or.inl ⟨v, vm₁, B, X₁.warmed, X', hpost, fun target h => hstep₁ _ fun acts => by rw [doInvoke_state]; exact hsteps.trans h⟩
  · exact Or.inr ⟨q, vm₁, B, X₁.warmed, X', hpost, hstep₁ _ fun acts => by rw [doInvoke_state]; exact hsteps⟩
theorem vx_callS (X : Stand p l e R s m args below meth c T locs cells slots) (hexec : p.tables.exec = Jvm.exec) {own : String} {index : Nat} {y : MethodName} {bytes : ByteArray} {maxL : Nat} {ret : Option FieldType}
    (hown : s.vm.findClass own = some m.cls) (hlink : (Cond.methodLink own index y).before args s = true) (hstat : (Cond.static y).before args s = true) (hinit : (Cond.initialized y.cls).before args s = true)
    (hcode : (Cond.code y bytes maxL ret).before args s = true) (hy : y.cls ≠ "java/lang/invoke/MethodHandle" ∧ y.cls ≠ "java/lang/invoke/VarHandle")
    {W9 : Nat} {Pre : Pt → Array Value → Prop} {Post : Pt → Array Value → Option Value → Pt → Prop} {PostX : Pt → Array Value → Addr → Pt → Prop} (hK : vx_Back l R p e below s args y 3 W9 Pre Post PostX)
    {g : JFrame} (hg : g.method = m) (hsize : g.locals.size = c.maxLocals) {argsL rest : List Value} (hlen : ∀ sig, parseMethodDescriptor y.desc = some sig → argsL.length = sig.parameters.length)
    (hstack : g.stack = argsL.reverse ++ rest) (hW : 2 * g.monitorRoom + (rest.map fun v => v.category).sum ≤ W9) (hdg : decode c.code g.pc = .ok (.invokestatic index, 3))
    (hpre : ∀ vm₁, s.WarmedH vm₁ → Pre ⟨T.setVm vm₁, locs, cells, slots⟩ argsL.toArray) :
    (∃ (v : Option Value) (vm₁ : Vm) (B : Pt), s.WarmedH vm₁ ∧ Stand p l e R s m args below meth c B.U B.locs B.cells B.slots ∧ Post ⟨T.setVm vm₁, locs, cells, slots⟩ argsL.toArray v B ∧
      ∀ target, Steps p.tables e below (B.U.setTop { g with pc := g.pc + 3, stack := v.toList ++ rest }) target → Steps p.tables e below (T.setTop g) target) ∨
    (∃ (q : Addr) (vm₁ : Vm) (B : Pt), s.WarmedH vm₁ ∧ Stand p l e R s m args below meth c B.U B.locs B.cells B.slots ∧ PostX ⟨T.setVm vm₁, locs, cells, slots⟩ argsL.toArray q B ∧
      Steps p.tables e below (T.setTop g) ((B.U.setTop { g with stack := rest }).pushFrame (.throwing q))) := by
  obtain ⟨mk, hnamed⟩ := Cond.code_named hcode
  obtain ⟨methM, cM, hmethM, -, -, -, -, -, -, hsigM⟩ := Cond.code_spec hnamed hcode
  have hstatic : methM.isStatic = true := Cond.static_spec hnamed hmethM hstat
  obtain ⟨kP, hkP, -⟩ := className_of_methodNamed hnamed
  have hinitP : kP.init = .initialized := Cond.initialized_spec (findClass_of_methodNamed hnamed) hkP hinit
  obtain ⟨vm₁, X₁, hstep₁⟩ := X.invokestatic hexec hown hlink hnamed hmethM hstatic hkP hinitP hy (g := g) hg (argsL := argsL) (rest := rest) (hlen _ hsigM) hstack hdg
  rcases hK m meth c ⟨T.setVm vm₁, locs, cells, slots⟩ { g with stack := rest } (.invokestatic index) mk argsL.toArray X₁ hg hsize hdg hW (X₁.named hnamed) (hpre vm₁ X₁.warmed) with ⟨v, B, X', hpost, hsteps⟩ | ⟨q, B, X', hpost, hsteps⟩
  · exact Or.inl ⟨v, vm₁, B, X₁.warmed, X', hpost, fun target h => hstep₁ _ fun acts => by rw [doInvoke_state]; exact hsteps.trans h⟩
  · exact Or.inr ⟨q, vm₁, B, X₁.warmed, X', hpost, hstep₁ _ fun acts => by rw [doInvoke_state]; exact hsteps⟩
end Calls
theorem vx_cls {s : State} {T : State} {vm₁ : Vm} {E : String} {k : ClassId} (hW : s.WarmedH vm₁) (h : (T.setVm vm₁).vm.findClass E = some k) : s.vm.findClass E = some k := by
  have h1 : vm₁.findClass E = some k := h
  rw [hW.alike.findClass] at h1
  exact h1
def vx_W (p : Program) (l : Launch) (e : Env) (R : Room) (s : State) (m : MethodId) (args : Array Value) (below : List Frame) (meth : Method) (c : Code) (H : Heap) (locs : List Loc) (cells slots : Nat) (Q : State → Prop) (g : JFrame) (q : Addr) : Prop :=
  ∀ T : State, T.heap = H → Stand p l e R s m args below meth c T locs cells slots → ∃ t, Steps p.tables e below ((T.setTop g).pushFrame (.throwing q)) t ∧ Q t
def vx_Run (p : Program) (l : Launch) (e : Env) (R : Room) (s : State) (m : MethodId) (args : Array Value) (below : List Frame) (meth : Method) (c : Code) (H : Heap) (locs : List Loc) (cells slots mc ms : Nat) (g : JFrame) (rest : List Value) (Qa : State → Outcome → State → Prop) (XC : String → State → State → Prop) (free : Addr → Prop) : Prop :=
  ∀ T : State, T.heap = H → Stand p l e R s m args below meth c T locs cells slots →
    (∃ (v : Option Value) (st₀ t T' : State) (L : List Loc), st₀.heap = H ∧ Stand p l e R s m args below meth c T' (locs ++ L) (cells + mc) (slots + ms) ∧ (∀ q ∈ L, free q.base) ∧ T'.heap = t.heap ∧ T'.vm = t.vm ∧ Qa st₀ (.returned v) t ∧
      Goes p e below T g T' { g with pc := g.pc + 3, stack := v.toList ++ rest }) ∨
    (∃ (q : Addr) (st₀ t T' : State) (L : List Loc) (E : String) (ce : Cell), st₀.heap = H ∧ Stand p l e R s m args below meth c T' (locs ++ L) (cells + mc) (slots + ms) ∧ (∀ z ∈ L, free z.base) ∧ T'.heap = t.heap ∧ T'.vm = t.vm ∧ XC E st₀ t ∧ t.heap[q]? = some ce ∧ ce.vm = .none ∧ s.vm.findClass E = some ce.cls ∧
      Steps p.tables e below (T.setTop g) ((T'.setTop { g with stack := rest }).pushFrame (.throwing q)))
def vx_X {S : Type} (px : S → Prop) (B : String → S → State → Prop) (A : Nat → Prop) : String → State → State → Prop := fun E st t => ∃ u : S, px u ∧ B E u t ∧ va_F A st t
section Runs
variable {p : Program} {l : Launch} {e : Env} {R : Room} {s : State} {m : MethodId} {args : Array Value} {below : List Frame} {meth : Method} {c : Code} {H : Heap} {locs : List Loc} {cells slots : Nat}
variable {y : MethodName} {bytes cc : ByteArray} {maxL nL mc ms n index : Nat} {ret : Option FieldType} {ws : List Cond} {rm : Room} {Pc : Array Value → State → Prop} {Qc : Array Value → State → Outcome → State → Prop} {XC : String → State → State → Prop} {free : Addr → Prop} {Ts : List Cond} {own C : String} {b : Addr} {As rest : List Value} {g : JFrame}
theorem vx_callBack (cb : CallB R s args own index y bytes maxL ret ws rm mc ms n) (hM : vx_Met l y ws rm Pc Qc XC mc ms free) (hbl : FrameBlind Pc) : vx_Back l R p e below s args y 3 8 (PreOf R mc ms Pc) (PostOf Qc mc ms free) (vx_Post XC mc ms free) := by
  obtain ⟨hrc, hrs, hfr, hlo, hws, hcw, -, hini, -⟩ := cb
  exact vx_back (bytes := bytes) (maxL := maxL) (ret := ret) hM hbl hrc hrs hfr hlo hws hcw (fun a' U hW => word_at hW (Or.inl (by first | rfl | simp [Cond.onTables, Cond.keeps, Cond.steady])) hini)
theorem vx_runV (S : CallFix p m c cc nL s args Ts own) (hM : vx_Met l y ws rm Pc Qc XC mc ms free) (cw : CallW R s args own C index y bytes maxL ret ws rm mc ms n) (hp : PreV s H C b Pc As)
    (hg : g.method = m) (hn : As.length = n) (hsize : g.locals.size = nL) (hstack : g.stack = As.reverse ++ .ref b :: rest) (hW : 2 * g.monitorRoom + (rest.map fun v => v.category).sum ≤ 8) (hdg : decode cc g.pc = .ok (.invokevirtual index, 3)) (hf : cells + mc ≤ R.cells ∧ slots + ms ≤ R.slots) :
    vx_Run p l e R s m args below meth c H locs cells slots mc ms g rest (Qc (Value.ref b :: As).toArray) XC free := by
  have hK : vx_Back l R p e below s args y 3 8 (PreOf R mc ms Pc) (PostOf Qc mc ms free) (vx_Post XC mc ms free) := vx_callBack cw.1 hM hp.1
  obtain ⟨⟨-, -, -, -, -, -, hcode, -, hy, hlen, hl⟩, hin, hse⟩ := cw
  obtain ⟨hx, hb, hml, ho, -⟩ := S
  obtain ⟨-, ⟨cellB, hcB, hoB, hclB⟩, hPc⟩ := hp
  intro T hT X
  rcases vx_callV X hx (C := C) (bytes := bytes) (maxL := maxL) (ret := ret) ho hl hin hse hcode hy hK (by rw [hT]; exact hcB) hoB hclB hg (hsize.trans hml.symm) (argsL := As) (rest := rest) (fun sig h => hn.trans (hlen sig h)) hstack hW (by rw [hb]; exact hdg)
    (fun vm₁ hW₁ => ⟨hf.1, hf.2, hPc (T.setVm vm₁) hT hW₁⟩) with ⟨v, vm₁, ⟨U', l2, c2, s2⟩, hW₁, X', ⟨g', mk, t, L, e1, e2, hq, h1, hL, h2, h3⟩, st⟩ | ⟨q, vm₁, ⟨U', l2, c2, s2⟩, hW₁, X', ⟨g', mk, t, L, E, ce, e1, e2, hq, hce, hcv, hcl, h1, hL, h2, h3⟩, st⟩
  · dsimp only [Pt.U, Pt.locs, Pt.cells, Pt.slots] at X' e1 e2 h1 h2 h3 st
    subst h1; subst h2; subst h3
    exact Or.inl ⟨v, (T.setVm vm₁).calling g' mk (Value.ref b :: As).toArray, t, U', L, hT, X', hL, e1, e2, hq, st⟩
  · dsimp only [Pt.U, Pt.locs, Pt.cells, Pt.slots] at X' e1 e2 h1 h2 h3 st hcl
    subst h1; subst h2; subst h3
    exact Or.inr ⟨q, (T.setVm vm₁).calling g' mk (Value.ref b :: As).toArray, t, U', L, E, ce, hT, X', hL, e1, e2, hq, hce, hcv, vx_cls hW₁ hcl, st⟩
theorem vx_runS (S : CallFix p m c cc nL s args Ts own) (hM : vx_Met l y ws rm Pc Qc XC mc ms free) (cw : CallB R s args own index y bytes maxL ret ws rm mc ms n ∧ (Cond.static y).before args s = true) (hp : PreS s H Pc As)
    (hg : g.method = m) (hn : As.length = n) (hsize : g.locals.size = nL) (hstack : g.stack = As.reverse ++ rest) (hW : 2 * g.monitorRoom + (rest.map fun v => v.category).sum ≤ 8) (hdg : decode cc g.pc = .ok (.invokestatic index, 3)) (hf : cells + mc ≤ R.cells ∧ slots + ms ≤ R.slots) :
    vx_Run p l e R s m args below meth c H locs cells slots mc ms g rest (Qc As.toArray) XC free := by
  have hK : vx_Back l R p e below s args y 3 8 (PreOf R mc ms Pc) (PostOf Qc mc ms free) (vx_Post XC mc ms free) := vx_callBack cw.1 hM hp.1
  obtain ⟨⟨-, -, -, -, -, -, hcode, hini, hy, hlen, hl⟩, hstt⟩ := cw
  obtain ⟨hx, hb, hml, ho, -⟩ := S
  intro T hT X
  rcases vx_callS X hx (bytes := bytes) (maxL := maxL) (ret := ret) ho hl hstt hini hcode hy hK hg (hsize.trans hml.symm) (argsL := As) (rest := rest) (fun sig h => hn.trans (hlen sig h)) hstack hW (by rw [hb]; exact hdg)
    (fun vm₁ hW₁ => ⟨hf.1, hf.2, hp.2 (T.setVm vm₁) hT hW₁⟩) with ⟨v, vm₁, ⟨U', l2, c2, s2⟩, hW₁, X', ⟨g', mk, t, L, e1, e2, hq, h1, hL, h2, h3⟩, st⟩ | ⟨q, vm₁, ⟨U', l2, c2, s2⟩, hW₁, X', ⟨g', mk, t, L, E, ce, e1, e2, hq, hce, hcv, hcl, h1, hL, h2, h3⟩, st⟩
  · dsimp only [Pt.U, Pt.locs, Pt.cells, Pt.slots] at X' e1 e2 h1 h2 h3 st
    subst h1; subst h2; subst h3
    exact Or.inl ⟨v, (T.setVm vm₁).calling g' mk As.toArray, t, U', L, hT, X', hL, e1, e2, hq, st⟩
  · dsimp only [Pt.U, Pt.locs, Pt.cells, Pt.slots] at X' e1 e2 h1 h2 h3 st hcl
    subst h1; subst h2; subst h3
    exact Or.inr ⟨q, (T.setVm vm₁).calling g' mk As.toArray, t, U', L, E, ce, hT, X', hL, e1, e2, hq, hce, hcv, vx_cls hW₁ hcl, st⟩
end Runs
section Rows
variable {p : Program} {l : Launch} {e : Env} {R : Room} {s : State} {m : MethodId} {args : Array Value} {below : List Frame} {meth : Method} {c : Code} {H : Heap} {locs : List Loc} {cells slots : Nat} {Q : State → Prop}
variable {mc ms : Nat} {free : Addr → Prop} {A0 A1 : Nat → Prop} {H0 : Heap} {a : Array Value} {pc : Nat} {ls : Array Slot} {st0 rest : List Value}
theorem vx_keep {st₀ t T' : State} {L : List Loc} (h0 : st₀.heap = H) (e1 : T'.heap = t.heap) (hS : va_S A0 H0 H locs) (hA : ∀ q, q < H.size → A1 q → A0 q) (hf : ∀ q, free q → A0 q) (hL : ∀ q ∈ L, free q.base) (hF : va_F A1 st₀ t) :
    H.size ≤ T'.heap.size ∧ (∀ q : Nat, q < H.size → ¬ A1 q → T'.heap[q]? = H[q]?) ∧ va_S A0 H0 T'.heap (locs ++ L) := by
  obtain ⟨hz, hk⟩ := hF
  rw [h0] at hz hk
  exact ⟨by rw [e1]; exact hz, fun q h1 h2 => by rw [e1]; exact hk q h1 h2,
    ⟨Nat.le_trans hS.1 (by rw [e1]; exact hz), fun q h1 h2 => by rw [e1, hk q (Nat.lt_of_lt_of_le h1 hS.1) (fun z => h2 (hA q (Nat.lt_of_lt_of_le h1 hS.1) z))]; exact hS.2.1 q h1 h2, fun q hq => by
      rcases List.mem_append.mp hq with h | h
      · exact hS.2.2 q h
      · exact hf _ (hL q h)⟩⟩
theorem vx_calli {S SX : Type} {post : Int32 → S → Prop} {px : SX → Prop} {B : S → State → Prop} {BX : String → SX → State → Prop} {AX : Nat → Prop} (hr : vx_Run p l e R s m args below meth c H locs cells slots mc ms (F0 m pc ls st0) rest (va_Qi post B A1 a) (vx_X px BX AX) free) (hS : va_S A0 H0 H locs) (hA : ∀ q, q < H.size → A1 q → A0 q) (hf : ∀ q, free q → A0 q) (hAX : ∀ q, q < H.size → AX q → A0 q)
    (kx : ∀ (E : String) (ce : Cell) (q9 : Addr) (u : SX) (t : State) (H1 : Heap) (locs1 : List Loc), t.heap = H1 → s.vm.Alike t.vm → px u → BX E u t → H.size ≤ H1.size → (∀ q : Nat, q < H.size → ¬ AX q → H1[q]? = H[q]?) → va_S A0 H0 H1 locs1 → H1[q9]? = some ce → ce.vm = .none → s.vm.findClass E = some ce.cls → vx_W p l e R s m args below meth c H1 locs1 (cells + mc) (slots + ms) Q (F0 m pc ls rest) q9)
    (kk : ∀ (r : Int32) (u : S) (t : State) (H1 : Heap) (locs1 : List Loc), t.heap = H1 → s.vm.Alike t.vm → post r u → B u t → H.size ≤ H1.size → (∀ q : Nat, q < H.size → ¬ A1 q → H1[q]? = H[q]?) → va_S A0 H0 H1 locs1 → W p l e R s m args below meth c H1 locs1 (cells + mc) (slots + ms) Q (F0 m (pc + 3) ls (.int r :: rest))) : W p l e R s m args below meth c H locs cells slots Q (F0 m pc ls st0) := by
  intro T hT X
  rcases hr T hT X with ⟨v, st₀, t, T', L, h0, X', hL, e1, e2, ⟨⟨r, u, hv, hp, hb⟩, hF⟩, st⟩ | ⟨q, st₀, t, T', L, E, ce, h0, X', hL, e1, e2, ⟨u, hp, hb, hF⟩, hce, hcv, hcl, st⟩
  · cases hv
    obtain ⟨k1, k2, k3⟩ := vx_keep h0 e1 hS hA hf hL hF
    obtain ⟨t2, a1, b1⟩ := kk r u t T'.heap (locs ++ L) e1.symm (by rw [← e2]; exact X'.warmed.alike) hp hb k1 k2 k3 T' rfl X'
    exact ⟨t2, st t2 a1, b1⟩
  · obtain ⟨k1, k2, k3⟩ := vx_keep h0 e1 hS hAX hf hL hF
    obtain ⟨t2, a1, b1⟩ := kx E ce q u t T'.heap (locs ++ L) e1.symm (by rw [← e2]; exact X'.warmed.alike) hp hb k1 k2 k3 (by rw [e1]; exact hce) hcv hcl T' rfl X'
    exact ⟨t2, st.trans a1, b1⟩
theorem vx_calll {S SX : Type} {post : Int64 → S → Prop} {px : SX → Prop} {B : S → State → Prop} {BX : String → SX → State → Prop} {AX : Nat → Prop} (hr : vx_Run p l e R s m args below meth c H locs cells slots mc ms (F0 m pc ls st0) rest (va_Ql post B A1 a) (vx_X px BX AX) free) (hS : va_S A0 H0 H locs) (hA : ∀ q, q < H.size → A1 q → A0 q) (hf : ∀ q, free q → A0 q) (hAX : ∀ q, q < H.size → AX q → A0 q)
    (kx : ∀ (E : String) (ce : Cell) (q9 : Addr) (u : SX) (t : State) (H1 : Heap) (locs1 : List Loc), t.heap = H1 → s.vm.Alike t.vm → px u → BX E u t → H.size ≤ H1.size → (∀ q : Nat, q < H.size → ¬ AX q → H1[q]? = H[q]?) → va_S A0 H0 H1 locs1 → H1[q9]? = some ce → ce.vm = .none → s.vm.findClass E = some ce.cls → vx_W p l e R s m args below meth c H1 locs1 (cells + mc) (slots + ms) Q (F0 m pc ls rest) q9)
    (kk : ∀ (r : Int64) (u : S) (t : State) (H1 : Heap) (locs1 : List Loc), t.heap = H1 → s.vm.Alike t.vm → post r u → B u t → H.size ≤ H1.size → (∀ q : Nat, q < H.size → ¬ A1 q → H1[q]? = H[q]?) → va_S A0 H0 H1 locs1 → W p l e R s m args below meth c H1 locs1 (cells + mc) (slots + ms) Q (F0 m (pc + 3) ls (.long r :: rest))) : W p l e R s m args below meth c H locs cells slots Q (F0 m pc ls st0) := by
  intro T hT X
  rcases hr T hT X with ⟨v, st₀, t, T', L, h0, X', hL, e1, e2, ⟨⟨r, u, hv, hp, hb⟩, hF⟩, st⟩ | ⟨q, st₀, t, T', L, E, ce, h0, X', hL, e1, e2, ⟨u, hp, hb, hF⟩, hce, hcv, hcl, st⟩
  · cases hv
    obtain ⟨k1, k2, k3⟩ := vx_keep h0 e1 hS hA hf hL hF
    obtain ⟨t2, a1, b1⟩ := kk r u t T'.heap (locs ++ L) e1.symm (by rw [← e2]; exact X'.warmed.alike) hp hb k1 k2 k3 T' rfl X'
    exact ⟨t2, st t2 a1, b1⟩
  · obtain ⟨k1, k2, k3⟩ := vx_keep h0 e1 hS hAX hf hL hF
    obtain ⟨t2, a1, b1⟩ := kx E ce q u t T'.heap (locs ++ L) e1.symm (by rw [← e2]; exact X'.warmed.alike) hp hb k1 k2 k3 (by rw [e1]; exact hce) hcv hcl T' rfl X'
    exact ⟨t2, st.trans a1, b1⟩
theorem vx_callf {S SX : Type} {post : UInt32 → S → Prop} {px : SX → Prop} {B : S → State → Prop} {BX : String → SX → State → Prop} {AX : Nat → Prop} (hr : vx_Run p l e R s m args below meth c H locs cells slots mc ms (F0 m pc ls st0) rest (va_Qf post B A1 a) (vx_X px BX AX) free) (hS : va_S A0 H0 H locs) (hA : ∀ q, q < H.size → A1 q → A0 q) (hf : ∀ q, free q → A0 q) (hAX : ∀ q, q < H.size → AX q → A0 q)
    (kx : ∀ (E : String) (ce : Cell) (q9 : Addr) (u : SX) (t : State) (H1 : Heap) (locs1 : List Loc), t.heap = H1 → s.vm.Alike t.vm → px u → BX E u t → H.size ≤ H1.size → (∀ q : Nat, q < H.size → ¬ AX q → H1[q]? = H[q]?) → va_S A0 H0 H1 locs1 → H1[q9]? = some ce → ce.vm = .none → s.vm.findClass E = some ce.cls → vx_W p l e R s m args below meth c H1 locs1 (cells + mc) (slots + ms) Q (F0 m pc ls rest) q9)
    (kk : ∀ (r : UInt32) (u : S) (t : State) (H1 : Heap) (locs1 : List Loc), t.heap = H1 → s.vm.Alike t.vm → post r u → B u t → H.size ≤ H1.size → (∀ q : Nat, q < H.size → ¬ A1 q → H1[q]? = H[q]?) → va_S A0 H0 H1 locs1 → W p l e R s m args below meth c H1 locs1 (cells + mc) (slots + ms) Q (F0 m (pc + 3) ls (.float r :: rest))) : W p l e R s m args below meth c H locs cells slots Q (F0 m pc ls st0) := by
  intro T hT X
  rcases hr T hT X with ⟨v, st₀, t, T', L, h0, X', hL, e1, e2, ⟨⟨r, u, hv, hp, hb⟩, hF⟩, st⟩ | ⟨q, st₀, t, T', L, E, ce, h0, X', hL, e1, e2, ⟨u, hp, hb, hF⟩, hce, hcv, hcl, st⟩
  · cases hv
    obtain ⟨k1, k2, k3⟩ := vx_keep h0 e1 hS hA hf hL hF
    obtain ⟨t2, a1, b1⟩ := kk r u t T'.heap (locs ++ L) e1.symm (by rw [← e2]; exact X'.warmed.alike) hp hb k1 k2 k3 T' rfl X'
    exact ⟨t2, st t2 a1, b1⟩
  · obtain ⟨k1, k2, k3⟩ := vx_keep h0 e1 hS hAX hf hL hF
    obtain ⟨t2, a1, b1⟩ := kx E ce q u t T'.heap (locs ++ L) e1.symm (by rw [← e2]; exact X'.warmed.alike) hp hb k1 k2 k3 (by rw [e1]; exact hce) hcv hcl T' rfl X'
    exact ⟨t2, st.trans a1, b1⟩
theorem vx_calld {S SX : Type} {post : UInt64 → S → Prop} {px : SX → Prop} {B : S → State → Prop} {BX : String → SX → State → Prop} {AX : Nat → Prop} (hr : vx_Run p l e R s m args below meth c H locs cells slots mc ms (F0 m pc ls st0) rest (va_Qd post B A1 a) (vx_X px BX AX) free) (hS : va_S A0 H0 H locs) (hA : ∀ q, q < H.size → A1 q → A0 q) (hf : ∀ q, free q → A0 q) (hAX : ∀ q, q < H.size → AX q → A0 q)
    (kx : ∀ (E : String) (ce : Cell) (q9 : Addr) (u : SX) (t : State) (H1 : Heap) (locs1 : List Loc), t.heap = H1 → s.vm.Alike t.vm → px u → BX E u t → H.size ≤ H1.size → (∀ q : Nat, q < H.size → ¬ AX q → H1[q]? = H[q]?) → va_S A0 H0 H1 locs1 → H1[q9]? = some ce → ce.vm = .none → s.vm.findClass E = some ce.cls → vx_W p l e R s m args below meth c H1 locs1 (cells + mc) (slots + ms) Q (F0 m pc ls rest) q9)
    (kk : ∀ (r : UInt64) (u : S) (t : State) (H1 : Heap) (locs1 : List Loc), t.heap = H1 → s.vm.Alike t.vm → post r u → B u t → H.size ≤ H1.size → (∀ q : Nat, q < H.size → ¬ A1 q → H1[q]? = H[q]?) → va_S A0 H0 H1 locs1 → W p l e R s m args below meth c H1 locs1 (cells + mc) (slots + ms) Q (F0 m (pc + 3) ls (.double r :: rest))) : W p l e R s m args below meth c H locs cells slots Q (F0 m pc ls st0) := by
  intro T hT X
  rcases hr T hT X with ⟨v, st₀, t, T', L, h0, X', hL, e1, e2, ⟨⟨r, u, hv, hp, hb⟩, hF⟩, st⟩ | ⟨q, st₀, t, T', L, E, ce, h0, X', hL, e1, e2, ⟨u, hp, hb, hF⟩, hce, hcv, hcl, st⟩
  · cases hv
    obtain ⟨k1, k2, k3⟩ := vx_keep h0 e1 hS hA hf hL hF
    obtain ⟨t2, a1, b1⟩ := kk r u t T'.heap (locs ++ L) e1.symm (by rw [← e2]; exact X'.warmed.alike) hp hb k1 k2 k3 T' rfl X'
    exact ⟨t2, st t2 a1, b1⟩
  · obtain ⟨k1, k2, k3⟩ := vx_keep h0 e1 hS hAX hf hL hF
    obtain ⟨t2, a1, b1⟩ := kx E ce q u t T'.heap (locs ++ L) e1.symm (by rw [← e2]; exact X'.warmed.alike) hp hb k1 k2 k3 (by rw [e1]; exact hce) hcv hcl T' rfl X'
    exact ⟨t2, st.trans a1, b1⟩
theorem vx_callv {S SX : Type} {post : S → Prop} {px : SX → Prop} {B : S → State → Prop} {BX : String → SX → State → Prop} {AX : Nat → Prop} (hr : vx_Run p l e R s m args below meth c H locs cells slots mc ms (F0 m pc ls st0) rest (va_Qv post B A1 a) (vx_X px BX AX) free) (hS : va_S A0 H0 H locs) (hA : ∀ q, q < H.size → A1 q → A0 q) (hf : ∀ q, free q → A0 q) (hAX : ∀ q, q < H.size → AX q → A0 q)
    (kx : ∀ (E : String) (ce : Cell) (q9 : Addr) (u : SX) (t : State) (H1 : Heap) (locs1 : List Loc), t.heap = H1 → s.vm.Alike t.vm → px u → BX E u t → H.size ≤ H1.size → (∀ q : Nat, q < H.size → ¬ AX q → H1[q]? = H[q]?) → va_S A0 H0 H1 locs1 → H1[q9]? = some ce → ce.vm = .none → s.vm.findClass E = some ce.cls → vx_W p l e R s m args below meth c H1 locs1 (cells + mc) (slots + ms) Q (F0 m pc ls rest) q9)
    (kk : ∀ (u : S) (t : State) (H1 : Heap) (locs1 : List Loc), t.heap = H1 → s.vm.Alike t.vm → post u → B u t → H.size ≤ H1.size → (∀ q : Nat, q < H.size → ¬ A1 q → H1[q]? = H[q]?) → va_S A0 H0 H1 locs1 → W p l e R s m args below meth c H1 locs1 (cells + mc) (slots + ms) Q (F0 m (pc + 3) ls (rest))) : W p l e R s m args below meth c H locs cells slots Q (F0 m pc ls st0) := by
  intro T hT X
  rcases hr T hT X with ⟨v, st₀, t, T', L, h0, X', hL, e1, e2, ⟨⟨u, hv, hp, hb⟩, hF⟩, st⟩ | ⟨q, st₀, t, T', L, E, ce, h0, X', hL, e1, e2, ⟨u, hp, hb, hF⟩, hce, hcv, hcl, st⟩
  · cases hv
    obtain ⟨k1, k2, k3⟩ := vx_keep h0 e1 hS hA hf hL hF
    obtain ⟨t2, a1, b1⟩ := kk u t T'.heap (locs ++ L) e1.symm (by rw [← e2]; exact X'.warmed.alike) hp hb k1 k2 k3 T' rfl X'
    exact ⟨t2, st t2 a1, b1⟩
  · obtain ⟨k1, k2, k3⟩ := vx_keep h0 e1 hS hAX hf hL hF
    obtain ⟨t2, a1, b1⟩ := kx E ce q u t T'.heap (locs ++ L) e1.symm (by rw [← e2]; exact X'.warmed.alike) hp hb k1 k2 k3 (by rw [e1]; exact hce) hcv hcl T' rfl X'
    exact ⟨t2, st.trans a1, b1⟩
theorem vx_catch {own name : String} {E : String} {ce : Cell} {q : Addr} (hown : s.vm.findClass own = some m.cls) (pre : List ExceptionTableEntry) (x : ExceptionTableEntry) (suf : List ExceptionTableEntry) (hsplit : c.exceptionTable.toList = pre ++ x :: suf)
    (hpass : ∀ z ∈ pre, covers z pc = false ∨ (z.catchType ≠ 0 ∧ ∃ nm : String, (Cond.classLink own z.catchType nm).before args s = true ∧ va_Nc E nm s)) (hx : covers x pc = true) (h0 : x.catchType ≠ 0)
    (hlink : (Cond.classLink own x.catchType name).before args s = true) (hcast : (Cond.castable E name).before args s = true) (hcell : H[q]? = some ce) (hv : ce.vm = .none) (hcl : s.vm.findClass E = some ce.cls)
    (kk : W p l e R s m args below meth c H locs cells slots Q (F0 m x.handlerPc ls [.ref q])) : vx_W p l e R s m args below meth c H locs cells slots Q (F0 m pc ls rest) q := by
  intro T hT X
  have hpl : e.platform.magicAccessors = ({} : Platform).magicAccessors := by rw [X.admits.platform]
  obtain ⟨c3, c4, hc3, hc4, hasg⟩ := Cond.castable_spec hcast
  cases Option.some.inj (hc3.symm.trans hcl)
  obtain ⟨c5, hc5, hcl5⟩ := Cond.classLink_spec hown hlink e.platform hpl
  cases Option.some.inj (hc4.symm.trans hc5)
  obtain ⟨vm', X', st⟩ := X.thenCaughtThrough q (g := F0 m pc ls rest) rfl (Steps.refl _) (by rw [hT]; exact hcell) (by rw [hv]; rfl) (by obtain ⟨k9, h9, -⟩ := Vm.findClass_spec hcl; exact ⟨k9, h9⟩) pre x suf hsplit
    (fun z hz => by
      rcases hpass z hz with h | ⟨hz0, nm, hl1, hn1⟩
      · exact Or.inl h
      · obtain ⟨c6, hc6, hcl6⟩ := Cond.classLink_spec hown hl1 e.platform hpl
        obtain ⟨a8, b8, h1, h2, h3⟩ := hn1
        cases Option.some.inj (h1.symm.trans hcl)
        cases Option.some.inj (h2.symm.trans hc6)
        exact Or.inr ⟨hz0, _, hcl6, h3⟩) hx (Or.inr ⟨h0, c4, hcl5, hasg⟩)
  obtain ⟨t, a1, b1⟩ := kk (T.setVm vm') hT X'
  exact ⟨t, st.trans a1, b1⟩
end Rows
section Ends
variable {p : Program} {l : Launch} {e : Env} {R : Room} {s : State} {m : MethodId} {args : Array Value} {below : List Frame} {meth : Method} {c : Code} {H : Heap} {locs : List Loc} {cells slots : Nat} {Q : State → Prop}
variable {mc ms : Nat} {free : Addr → Prop} {A0 A1 : Nat → Prop} {H0 : Heap} {a : Array Value} {ls : Array Slot} {st0 rest : List Value}
variable {Qc : Array Value → State → Outcome → State → Prop} {XC : String → State → State → Prop}
def vx_MQ (below : List Frame) (Qc : Array Value → State → Outcome → State → Prop) (XC : String → State → State → Prop) (a : Array Value) (s : State) (mc ms : Nat) (free : Addr → Prop) : State → Prop := fun t =>
  ∃ o, t.status = .running ∧ Ended t below o ∧ vx_Q Qc XC mc ms free a s o t
theorem vx_ret {g : JFrame} {mc ms : Nat} (k : W p l e R s m args below meth c H locs cells slots (MQ below Qc args s mc ms free) g) : W p l e R s m args below meth c H locs cells slots (vx_MQ below Qc XC args s mc ms free) g := by
  intro T hT X
  obtain ⟨t, a1, o, b1, b2, b3, b4⟩ := k T hT X
  exact ⟨t, a1, o, b1, b2, Or.inl ⟨b3, b4⟩⟩
theorem vx_widen {g : JFrame} {q : Addr} {k n : Nat} (h1 : cells ≤ k) (h2 : slots ≤ n) (kk : vx_W p l e R s m args below meth c H locs k n Q g q) : vx_W p l e R s m args below meth c H locs cells slots Q g q := fun T hT X => kk T hT (stand_widen X h1 h2)
theorem vx_out {pc : Nat} {E : String} {ce : Cell} {q : Addr} {mc ms : Nat} (hout : ∀ x ∈ c.exceptionTable.toList, covers x pc = false) (hlocks : meth.locks = false) (hcell : H[q]? = some ce) (hv : ce.vm = .none) (hcl : s.vm.findClass E = some ce.cls)
    (hx : ∀ t : State, t.heap = H → s.vm.Alike t.vm → XC E s t) (hf : ∀ z ∈ locs, free z.base) (hc : cells ≤ mc) (hs : slots ≤ ms) :
    vx_W p l e R s m args below meth c H locs cells slots (vx_MQ below Qc XC args s mc ms free) (F0 m pc ls rest) q := by
  intro T hT X
  obtain ⟨st1, hrun, hend, hW, hsm⟩ := X.leaveThrown q (g := F0 m pc ls rest) rfl rfl rfl hout hlocks
  have hcell9 : (T.setFrames (.throwing q :: below)).heap[q]? = some ce := by
    show T.heap[q]? = some ce
    rw [hT]; exact hcell
  exact ⟨_, st1, .threw q, hrun, hend, Or.inr ⟨q, rfl, E, ce, locs, hx _ hT hW.alike, hcell9, hv, hcl, hW, hsm.mono hc hs, hf⟩⟩
theorem vx_frame {U : State} {k n : Nat} (h : s.sameButNew ({ U with vm := s.vm } : State) locs k n) : s.heap.size ≤ U.heap.size ∧ ∀ q : Nat, q < s.heap.size → (∀ z ∈ locs, z.base ≠ q) → U.heap[q]? = s.heap[q]? := by
  obtain ⟨-, h2, -, -, -, h6⟩ := h
  refine ⟨h2, fun q hq hz => ?_⟩
  obtain ⟨c9, e1, e2, e3, e4⟩ := h6 q _ (Array.getElem?_eq_getElem hq)
  have hs : c9.slots = (s.heap[q]).slots := Array.ext_getElem? fun i => e4 i fun hm => hz _ hm rfl
  have h9 : c9 = s.heap[q] := by
    rw [hs] at e2
    exact e2
  have e5 : U.heap[q]? = some c9 := e1
  rw [e5, h9, Array.getElem?_eq_getElem hq]
def vx_no (w : Cond) : Bool := decide (w ≠ .isRef (.static Bundle.tN "UNASSIGNED_STACK" Bundle.steD)) && decide (w ≠ .isRef (.static Bundle.tN "SUPPRESSED_SENTINEL" Bundle.listD)) && decide (w ≠ .laysStatic Bundle.tN "UNASSIGNED_STACK" Bundle.steD) && decide (w ≠ .laysStatic Bundle.tN "SUPPRESSED_SENTINEL" Bundle.listD)
def vx_at0 (own : String) (ic : Nat) (X : String) (names : List String) : List Cond := (Bundle.ownAtoms0 own ic X names).filter vx_no
def vx_atS (own : String) (ic : Nat) (X : String) (names : List String) : List Cond := (Bundle.ownAtoms own ic X names).filter vx_no
def vx_ot (w : Cond) : Bool := w.onTables || goodWord w
theorem vx_ot_at {args a' : Array Value} {s U : State} {w : Cond} (hW : s.WarmedH U.vm) (hvm : s.vm = U.vm) (hg : vx_ot w = true) (h : w.before args s = true) : w.before a' U = true := by
  simp only [vx_ot, Bool.or_eq_true] at hg
  rcases hg with hg | hg
  · exact va_tabs hg hvm h
  · exact word_at hW (good_of_word hg) h
theorem vx_hat {args : Array Value} {s : State} {L B : List Cond} (h1 : ∀ w ∈ L.filter goodWord, w.before args s = true) (h2 : ∀ w ∈ L.filter (fun w => !goodWord w), w ∈ B) (h3 : ∀ w ∈ B, w.before args s = true) : ∀ w ∈ L, w.before args s = true := by
  intro w hw
  by_cases g : goodWord w = true
  · exact h1 w (List.mem_filter.mpr ⟨hw, g⟩)
  · refine h3 w (h2 w (List.mem_filter.mpr ⟨hw, ?_⟩))
    show (!goodWord w) = true
    cases hgw : goodWord w
    · rfl
    · exact absurd hgw g
theorem vx_c {args : Array Value} {s : State} {w : Cond} {B : List Cond} (h : w.before args s = true) (t : ∀ w ∈ B, w.before args s = true) : ∀ w' ∈ w :: B, w'.before args s = true := fun w' h' => (List.mem_cons.mp h').elim (fun e => by rw [e]; exact h) (t w')
theorem vx_n {args : Array Value} {s : State} : ∀ w ∈ ([] : List Cond), w.before args s = true := fun _ h => nomatch h
theorem vx_own {args : Array Value} {s : State} {L : List Cond} (h1 : ∀ w ∈ L.filter vx_no, w.before args s = true)
    (hU : (Cond.isRef (.static Bundle.tN "UNASSIGNED_STACK" Bundle.steD)).before args s = true) (hN : (Cond.isRef (.static Bundle.tN "SUPPRESSED_SENTINEL" Bundle.listD)).before args s = true)
    (lU : (Cond.laysStatic Bundle.tN "UNASSIGNED_STACK" Bundle.steD).before args s = true) (lN : (Cond.laysStatic Bundle.tN "SUPPRESSED_SENTINEL" Bundle.listD).before args s = true) : ∀ w ∈ L, w.before args s = true := by
  intro w hw
  by_cases e1 : w = .isRef (.static Bundle.tN "UNASSIGNED_STACK" Bundle.steD)
  · rw [e1]; exact hU
  · by_cases e2 : w = .isRef (.static Bundle.tN "SUPPRESSED_SENTINEL" Bundle.listD)
    · rw [e2]; exact hN
    · by_cases e3 : w = .laysStatic Bundle.tN "UNASSIGNED_STACK" Bundle.steD
      · rw [e3]; exact lU
      · by_cases e4 : w = .laysStatic Bundle.tN "SUPPRESSED_SENTINEL" Bundle.listD
        · rw [e4]; exact lN
        · exact h1 w (List.mem_filter.mpr ⟨hw, by unfold vx_no; rw [decide_eq_true e1, decide_eq_true e2, decide_eq_true e3, decide_eq_true e4]; rfl⟩)
def vx_L (C n d : String) (A : Nat → Prop) (U : State) (H : Heap) : Prop := ∃ (c : ClassId) (k : Class) (i : Nat) (f : Field) (a : Nat) (cell : Cell), U.vm.findClass C = some c ∧ U.fieldFound? C n d = some (c, k, i, f) ∧ f.isStatic = true ∧ k.statics = some a ∧ H[a]? = some cell ∧ cell.vm.isStatics = true ∧ cell.cls = c ∧ f.slot < cell.slots.size ∧ k.staticTypes[f.slot]? = some f.type ∧ ¬ A a
theorem vx_L.moved {C n d : String} {A : Nat → Prop} {u U : State} {H : Heap} (hvm : u.vm.Alike U.vm) (h : vx_L C n d A u H) : vx_L C n d A U H := by
  obtain ⟨c, k, i, f, a, cell, h1, h2, h3, h4, h5, h6, h7, h8, h9, h10⟩ := h
  obtain ⟨k', hi', he⟩ := State.fieldFound?_setVm hvm h2
  exact ⟨c, k', i, f, a, cell, by rw [hvm.findClass]; exact h1, hi', h3, by rw [he]; exact h4, h5, h6, h7, h8, by rw [he]; exact h9, h10⟩
theorem vx_L.kept {C n d : String} {A : Nat → Prop} {U : State} {H H1 : Heap} (h : vx_L C n d A U H) (hq : ∀ a : Nat, a < H.size → ¬ A a → H1[a]? = H[a]?) : vx_L C n d A U H1 := by
  obtain ⟨c, k, i, f, a, cell, h1, h2, h3, h4, h5, h6, h7, h8, h9, h10⟩ := h
  exact ⟨c, k, i, f, a, cell, h1, h2, h3, h4, by rw [hq a (Array.getElem?_eq_some_iff.mp h5).1 h10]; exact h5, h6, h7, h8, h9, h10⟩
theorem vx_L.narrow {C n d : String} {A B : Nat → Prop} {U : State} {H : Heap} (h : vx_L C n d A U H) (hAB : ∀ q, B q → A q) : vx_L C n d B U H := by
  obtain ⟨c, k, i, f, a, cell, h1, h2, h3, h4, h5, h6, h7, h8, h9, h10⟩ := h
  exact ⟨c, k, i, f, a, cell, h1, h2, h3, h4, h5, h6, h7, h8, h9, fun z => h10 (hAB _ z)⟩
theorem vx_L.word {C n d : String} {A : Nat → Prop} {s : State} {args : Array Value} (h : vx_L C n d A s s.heap) : (Cond.laysStatic C n d).before args s = true := by
  obtain ⟨c, k, i, f, a, cell, h1, h2, h3, h4, h5, h6, h7, h8, h9, -⟩ := h
  show (Cond.laysStatic C n d).holds args s none s [] = true
  exact Cond.laysStatic_of h1 h2 h3 h4 h5 h6 h7 h8 h9
def vx_Zq (C n d : String) (A : Nat → Prop) (U : State) (H : Heap) : Prop := va_Zq C n d A U H ∧ vx_L C n d A U H
theorem vx_Zq.moved {C n d : String} {A : Nat → Prop} {u U : State} {H : Heap} (hvm : u.vm.Alike U.vm) (h : vx_Zq C n d A u H) : vx_Zq C n d A U H := ⟨va_Zq.moved hvm h.1, vx_L.moved hvm h.2⟩
theorem vx_Zq.kept {C n d : String} {A : Nat → Prop} {U : State} {H H1 : Heap} (h : vx_Zq C n d A U H) (hq : ∀ a : Nat, a < H.size → ¬ A a → H1[a]? = H[a]?) : vx_Zq C n d A U H1 := ⟨va_Zq.kept h.1 hq, vx_L.kept h.2 hq⟩
theorem vx_Zq.narrow {C n d : String} {A B : Nat → Prop} {U : State} {H : Heap} (h : vx_Zq C n d A U H) (hAB : ∀ q, B q → A q) : vx_Zq C n d B U H := ⟨va_Zq.narrow h.1 hAB, vx_L.narrow h.2 hAB⟩
theorem vx_Zqof {args : Array Value} {s : State} {C n d : String} {A : Nat → Prop} (hl : (Cond.laysStatic C n d).before args s = true) (hini : (Cond.initialized C).before args s = true) (h : (Cond.isRef (.static C n d)).before args s = true) (hA : ∀ a : Nat, a < s.heap.size → ¬ A a) : vx_Zq C n d A s s.heap := by
  refine ⟨va_Zqof hl hini h hA, ?_⟩
  obtain ⟨c, k, i, f, a, cell, h1, h2, h3, h4, h5, h6, h7, h8, h9⟩ := Cond.laysStatic_spec hl
  exact ⟨c, k, i, f, a, cell, h1, h2, h3, h4, h5, h6, h7, h8, h9, hA a (Array.getElem?_eq_some_iff.mp h5).1⟩
theorem vx_isRef {C n d : String} {v : Value} {A : Nat → Prop} {s : State} {args : Array Value} (h : va_Z C n d v A s s.heap) (hv : v.isRef = true) : (Cond.isRef (.static C n d)).before args s = true := by
  obtain ⟨cf, kf, fi, f, a, cell, h1, h2, h3, h4, h5, h6, h7, -⟩ := h
  have he : (Term.static C n d).eval args s none [] s = some v := by
    simp [Term.eval, State.fieldNamed?, h1, h2, h4, h5, h6, h7]
  simp only [Cond.before, Cond.holds, Cond.value, he]
  cases v <;> simp_all [Value.isRef]
theorem vx_isRefq {C n d : String} {A : Nat → Prop} {s : State} {args : Array Value} (h : va_Zq C n d A s s.heap) : (Cond.isRef (.static C n d)).before args s = true := by
  rcases h with h | ⟨t, h⟩
  · exact vx_isRef h rfl
  · exact vx_isRef h rfl
theorem vx_rebase {T : State} (X : Stand p l e R s m args below meth c T locs cells slots) {R' : Room} (hf : R'.frames ≤ R.frames) (hl : R'.locals ≤ R.locals) (hc : cells + R'.cells ≤ R.cells) (hs : slots + R'.slots ≤ R.slots) :
    Stand p l e R' ((T.setVm s.vm).setFrames (.invoking m args :: below)) m args below meth c T [] 0 0 := by
  have htop : (T.setVm s.vm).topJava?.isSome := X.here.top
  have hF : ((T.setVm s.vm).setFrames (.invoking m args :: below)).frames = .invoking m args :: below := State.frames_setFrames _ (State.cur_lt_of_top htop)
  obtain ⟨g₀, hg0⟩ := Option.isSome_iff_exists.mp htop
  obtain ⟨r, hr⟩ := State.topJava?_eq_some.mp hg0
  have hl9 : e.platform.stackLimits (T.setVm s.vm).me = e.platform.stackLimits s.me := X.limits
  have hb9 : (T.setVm s.vm).me.stackBytes = s.me.stackBytes := X.bytes
  refine ⟨X.admits, X.cas, X.clock, hF, ?_, X.hears, X.method, X.code, X.here, X.tail, X.warmed, ?_, ?_, ?_⟩
  · have h := X.room
    have hU : ((T.setVm s.vm).setFrames (.invoking m args :: below)).localsInUse = s.localsInUse := by
      rw [State.localsInUse_invoking hF (meth := meth) (c := c) X.method X.code, State.localsInUse_invoking X.frames X.method X.code]
    simp only [State.hasRoom, Bool.and_eq_true, decide_eq_true_eq] at h ⊢
    obtain ⟨⟨⟨⟨h1, h2, h3, h4, h5, h6⟩, h7⟩, h8⟩, h9⟩ := h
    rw [X.frames, List.length_cons] at h2 h3
    have q1 := X.heapSize
    have q2 := X.used
    simp only [hF, hU, List.length_cons, State.stackLimits_setFrames, State.stackBytes_setFrames, hl9, hb9]
    refine ⟨⟨⟨⟨by omega, by omega, by omega, by omega, by omega, h6⟩, ?_⟩, ?_⟩, X.book⟩
    · show T.heap.size + R'.cells ≤ e.platform.maxCells
      omega
    · show T.slotsUsed + R'.slots ≤ e.platform.maxSlots
      omega
  · rw [State.stackLimits_setFrames]; rfl
  · rw [State.stackBytes_setFrames]; rfl
  · refine ⟨?_, Nat.le_refl _, Nat.le_refl _, ?_, ?_, fun a c9 h9 => ⟨c9, h9, rfl, rfl, fun _ _ => rfl⟩⟩
    · obtain ⟨t, ht, -⟩ := State.frames_cons hr
      show T.setVm s.vm = { ((T.setVm s.vm).setFrames (.invoking m args :: below)).setFrames (T.setVm s.vm).frames with heap := T.heap, slotsUsed := T.slotsUsed }
      rw [State.setFrames_setFrames, State.setFrames_self ht]
      rfl
    · show T.slotsUsed = T.slotsUsed + ((T.heap.toList.drop T.heap.size).map (·.slots.size)).sum
      rw [List.drop_eq_nil_of_le (Nat.le_of_eq Array.length_toList)]
      rfl
    · show ((T.heap.toList.drop T.heap.size).map (·.slots.size)).sum ≤ 0
      rw [List.drop_eq_nil_of_le (Nat.le_of_eq Array.length_toList)]
      exact Nat.le_refl _
theorem vx_throw0 {cc : ByteArray} {pc : Nat} (hexec : p.tables.exec = Jvm.exec) (hb : c.code = cc) (hl : l.stackTraces = false) {own cls : String} {names : List String} {ik ic mc ms : Nat} {A : Nat → Prop}
    (hown : s.vm.findClass own = some m.cls) (hcls : Bundle.fit cls = true) (hnames : ∀ n ∈ names, Bundle.fit n = true)
    (hk : (Cond.classLink own ik cls).before args s = true) (hini : (Cond.initialized cls).before args s = true) (hat : ∀ w ∈ vx_at0 own ic cls names, w.before args s = true)
    (hgood : ∀ w ∈ Cond.classLink own ik cls :: Cond.initialized cls :: vx_at0 own ic cls names, vx_ot w = true)
    (hU : vx_Zq Bundle.tN "UNASSIGNED_STACK" Bundle.steD A s s.heap) (hN : vx_Zq Bundle.tN "SUPPRESSED_SENTINEL" Bundle.listD A s s.heap) (hS : va_S A s.heap H locs) (hsize : ls.size = c.maxLocals)
    (d0 : decode cc pc = .ok (.new ik, 3)) (d3 : decode cc (pc + 3) = .ok (.dup, 1)) (d4 : decode cc (pc + 4) = .ok (.invokespecial ic, 3)) (d7 : decode cc (pc + 7) = .ok (.athrow, 1))
    (hout : ∀ x ∈ c.exceptionTable.toList, covers x (pc + 7) = false)
    (hRframes : names.length + 3 < R.frames) (hRlocals : (rest.map fun v => v.category).sum + (13 * (names.length + 1) + 42) ≤ R.locals) (hRcells : cells + 1 ≤ R.cells) (hRslots : slots + 6 ≤ R.slots) (hlocks : meth.locks = false)
    (hx : ∀ t : State, s.vm.Alike t.vm → H.size ≤ t.heap.size → (∀ q : Nat, q < H.size → t.heap[q]? = H[q]?) → XC cls s t)
    (hf : ∀ z ∈ locs, free z.base) (hc : cells + 1 ≤ mc) (hs : slots + 6 ≤ ms) :
    W p l e R s m args below meth c H locs cells slots (vx_MQ below Qc XC args s mc ms free) (F0 m pc ls rest) := by
  intro T hT X
  have htr : e.platform.stackTraces = false := (show e.platform.stackTraces = l.stackTraces by rw [X.admits.platform]).trans hl
  have Y := vx_rebase X (R' := { frames := R.frames, locals := R.locals, cells := 1, slots := 6 }) (Nat.le_refl _) (Nat.le_refl _) hRcells hRslots
  obtain ⟨s', hA⟩ : ∃ z, z = (T.setVm s.vm).setFrames (.invoking m args :: below) := ⟨_, rfl⟩
  rw [← hA] at Y
  have hvm : s'.vm = s.vm := by rw [hA]; rfl
  have hhp : s'.heap = H := by rw [hA]; exact hT
  have hW0 : s.WarmedH s'.vm := by rw [hvm]; exact State.WarmedH.refl s
  have hat' : ∀ w ∈ vx_at0 own ic cls names, w.before args s' = true := fun w hw => vx_ot_at hW0 hvm.symm (hgood w (List.mem_cons_of_mem _ (List.mem_cons_of_mem _ hw))) (hat w hw)
  have hk' : (Cond.classLink own ik cls).before args s' = true := vx_ot_at hW0 hvm.symm (hgood _ List.mem_cons_self) hk
  have hini' : (Cond.initialized cls).before args s' = true := vx_ot_at hW0 hvm.symm (hgood _ (List.mem_cons_of_mem _ List.mem_cons_self)) hini
  have hU' : vx_Zq Bundle.tN "UNASSIGNED_STACK" Bundle.steD A s' s'.heap := by rw [hhp]; exact vx_Zq.moved hW0.alike (hU.kept hS.2.1)
  have hN' : vx_Zq Bundle.tN "SUPPRESSED_SENTINEL" Bundle.listD A s' s'.heap := by rw [hhp]; exact vx_Zq.moved hW0.alike (hN.kept hS.2.1)
  have h : ∀ w ∈ Bundle.ownAtoms0 own ic cls names, w.before args s' = true := vx_own hat' (vx_isRefq hU'.1) (vx_isRefq hN'.1) hU'.2.word hN'.2.word
  have hown' : s'.vm.findClass own = some m.cls := by rw [hvm]; exact hown
  have hins : (Cond.instantiable cls 6).before args s' = true := h _ (by simp [Bundle.ownAtoms0])
  obtain ⟨vm₁, cX, kX, hfX, hkX, -, -, X₁, st1⟩ := Y.newCold hexec (own := own) (C := cls) (index := ik) (n := 6) hown' hk' hins hini'
    (g := F0 m pc ls rest) rfl (by rw [hb]; exact d0) (Nat.le_refl _) (Nat.le_refl _)
  generalize hT1 : (T.setVm vm₁).pushCell { cls := cX, slots := kX.instanceTypes.map defaultValue, vm := .none } = T1 at X₁ st1
  have hcat : (Value.ref T.heap.size).category = 1 := rfl
  have hcellA : T1.heap[T.heap.size]? = some (freshCell cX kX) := by rw [← hT1]; exact State.heap_pushCell_size _ _
  have d3' : decode c.code (pc + 3) = .ok (.dup, 1) := by rw [hb]; exact d3
  obtain ⟨U, hsteps, hrun, hend, hW, hsame, ce, hce, hO⟩ := X₁.ctorThrow0 hexec htr (own := own) (cls := cls) (names := names) (ic := ic) hown' hcls hnames h (fun x hx => nomatch hx) hfX hkX hcellA (by rw [hhp, hT]; exact Nat.le_refl _)
    (g := { method := m, pc := pc + 4, locals := ls, stack := .ref T.heap.size :: .ref T.heap.size :: rest, locked := none }) rfl hsize rfl rfl (rest := rest) rfl
    (by rw [hb]; exact d4) (by rw [hb]; exact d7) hout hRframes (by simp only [List.map_cons, List.sum_cons, hcat]; omega) hlocks
  obtain ⟨f1, f2⟩ := vx_frame hsame
  rw [hhp] at f1 f2
  have hWs : s.WarmedH U.vm := State.WarmedH.trans hW0 hW
  have hcl : s.vm.findClass cls = some ce.cls := by
    have h9 := hO.cls
    rw [hvm] at h9
    exact h9
  have hall : s.sameButNew ({ U with vm := s.vm } : State) locs mc ms := by
    subst hA
    obtain ⟨e1, e2⟩ := hsame
    rw [State.setFrames_setFrames] at e1
    have h2 : (T.setVm s.vm).sameButNew ({ U with vm := s.vm } : State) [] (0 + 1) (0 + 6) := ⟨e1, e2⟩
    have h3 := X.same.trans h2
    rw [List.append_nil] at h3
    exact h3.mono hc hs
  refine ⟨U, ?_, .threw T.heap.size, hrun, hend, Or.inr ⟨T.heap.size, rfl, cls, ce, locs, hx U hWs.alike f1 (fun q hq => f2 q hq (fun z hz => nomatch hz)), hce, hO.vm, hcl, hWs, hall, hf⟩⟩
  refine st1 _ ?_
  show Steps p.tables e below (T1.setTop { method := m, pc := pc + 3, locals := ls, stack := .ref T.heap.size :: rest, locked := none }) _
  jvm_step X₁.here [X₁.here.top, hexec, d3', Value.category]
  exact hsteps
theorem vx_throwS {cc : ByteArray} {pc : Nat} (hexec : p.tables.exec = Jvm.exec) (hb : c.code = cc) (hl : l.stackTraces = false) {own cls text : String} {names : List String} {ik is ic mc ms sa : Nat} {A : Nat → Prop}
    (hown : s.vm.findClass own = some m.cls) (hcls : Bundle.fit cls = true) (hnames : ∀ n ∈ names, Bundle.fit n = true)
    (hk : (Cond.classLink own ik cls).before args s = true) (hini : (Cond.initialized cls).before args s = true) (hstr : vk_R own is text sa s) (hat : ∀ w ∈ vx_atS own ic cls names, w.before args s = true)
    (hgood : ∀ w ∈ Cond.classLink own ik cls :: Cond.initialized cls :: vx_atS own ic cls names, vx_ot w = true)
    (hU : vx_Zq Bundle.tN "UNASSIGNED_STACK" Bundle.steD A s s.heap) (hN : vx_Zq Bundle.tN "SUPPRESSED_SENTINEL" Bundle.listD A s s.heap) (hS : va_S A s.heap H locs) (hsize : ls.size = c.maxLocals)
    (d0 : decode cc pc = .ok (.new ik, 3)) (d3 : decode cc (pc + 3) = .ok (.dup, 1)) (d4 : decode cc (pc + 4) = .ok (.ldc is, 2)) (d6 : decode cc (pc + 6) = .ok (.invokespecial ic, 3)) (d9 : decode cc (pc + 9) = .ok (.athrow, 1))
    (hout : ∀ x ∈ c.exceptionTable.toList, covers x (pc + 9) = false)
    (hRframes : names.length + 3 < R.frames) (hRlocals : (rest.map fun v => v.category).sum + (13 * (names.length + 1) + 43) ≤ R.locals) (hRcells : cells + 1 ≤ R.cells) (hRslots : slots + 6 ≤ R.slots) (hlocks : meth.locks = false)
    (hx : ∀ t : State, s.vm.Alike t.vm → H.size ≤ t.heap.size → (∀ q : Nat, q < H.size → t.heap[q]? = H[q]?) → XC cls s t)
    (hf : ∀ z ∈ locs, free z.base) (hc : cells + 1 ≤ mc) (hs : slots + 6 ≤ ms) :
    W p l e R s m args below meth c H locs cells slots (vx_MQ below Qc XC args s mc ms free) (F0 m pc ls rest) := by
  intro T hT X
  have htr : e.platform.stackTraces = false := (show e.platform.stackTraces = l.stackTraces by rw [X.admits.platform]).trans hl
  have Y := vx_rebase X (R' := { frames := R.frames, locals := R.locals, cells := 1, slots := 6 }) (Nat.le_refl _) (Nat.le_refl _) hRcells hRslots
  obtain ⟨s', hA⟩ : ∃ z, z = (T.setVm s.vm).setFrames (.invoking m args :: below) := ⟨_, rfl⟩
  rw [← hA] at Y
  have hvm : s'.vm = s.vm := by rw [hA]; rfl
  have hhp : s'.heap = H := by rw [hA]; exact hT
  have hW0 : s.WarmedH s'.vm := by rw [hvm]; exact State.WarmedH.refl s
  have hat' : ∀ w ∈ vx_atS own ic cls names, w.before args s' = true := fun w hw => vx_ot_at hW0 hvm.symm (hgood w (List.mem_cons_of_mem _ (List.mem_cons_of_mem _ hw))) (hat w hw)
  have hk' : (Cond.classLink own ik cls).before args s' = true := vx_ot_at hW0 hvm.symm (hgood _ List.mem_cons_self) hk
  have hini' : (Cond.initialized cls).before args s' = true := vx_ot_at hW0 hvm.symm (hgood _ (List.mem_cons_of_mem _ List.mem_cons_self)) hini
  have hU' : vx_Zq Bundle.tN "UNASSIGNED_STACK" Bundle.steD A s' s'.heap := by rw [hhp]; exact vx_Zq.moved hW0.alike (hU.kept hS.2.1)
  have hN' : vx_Zq Bundle.tN "SUPPRESSED_SENTINEL" Bundle.listD A s' s'.heap := by rw [hhp]; exact vx_Zq.moved hW0.alike (hN.kept hS.2.1)
  have h : ∀ w ∈ Bundle.ownAtoms own ic cls names, w.before args s' = true := vx_own hat' (vx_isRefq hU'.1) (vx_isRefq hN'.1) hU'.2.word hN'.2.word
  have hown' : s'.vm.findClass own = some m.cls := by rw [hvm]; exact hown
  have hins : (Cond.instantiable cls 6).before args s' = true := h _ (by simp [Bundle.ownAtoms])
  obtain ⟨vm₁, cX, kX, hfX, hkX, -, -, X₁, st1⟩ := Y.newCold hexec (own := own) (C := cls) (index := ik) (n := 6) hown' hk' hins hini'
    (g := F0 m pc ls rest) rfl (by rw [hb]; exact d0) (Nat.le_refl _) (Nat.le_refl _)
  generalize hT1 : (T.setVm vm₁).pushCell { cls := cX, slots := kX.instanceTypes.map defaultValue, vm := .none } = T1 at X₁ st1
  have hcat : (Value.ref T.heap.size).category = 1 := rfl
  have hcellA : T1.heap[T.heap.size]? = some (freshCell cX kX) := by rw [← hT1]; exact State.heap_pushCell_size _ _
  have d3' : decode c.code (pc + 3) = .ok (.dup, 1) := by rw [hb]; exact d3
  have d4' : decode c.code (pc + 4) = .ok (.ldc is, 2) := by rw [hb]; exact d4
  have hstr' : vk_R own is text sa s' := vk_R.warm hW0 hstr
  obtain ⟨U, hsteps, hrun, hend, hW, hsame, ce, hce, hO⟩ := X₁.ctorThrowS hexec htr (own := own) (cls := cls) (names := names) (ic := ic) hown' hcls hnames h (fun x hx => nomatch hx) hfX hkX hcellA (by rw [hhp, hT]; exact Nat.le_refl _) (msg := .ref sa) rfl
    (g := { method := m, pc := pc + 6, locals := ls, stack := .ref sa :: .ref T.heap.size :: .ref T.heap.size :: rest, locked := none }) rfl hsize rfl rfl (rest := rest) rfl
    (by rw [hb]; exact d6) (by rw [hb]; exact d9) hout hRframes (by simp only [List.map_cons, List.sum_cons, hcat]; omega) hlocks
  obtain ⟨f1, f2⟩ := vx_frame hsame
  rw [hhp] at f1 f2
  have hWs : s.WarmedH U.vm := State.WarmedH.trans hW0 hW
  have hcl : s.vm.findClass cls = some ce.cls := by
    have h9 := hO.cls
    rw [hvm] at h9
    exact h9
  have hall : s.sameButNew ({ U with vm := s.vm } : State) locs mc ms := by
    subst hA
    obtain ⟨e1, e2⟩ := hsame
    rw [State.setFrames_setFrames] at e1
    have h2 : (T.setVm s.vm).sameButNew ({ U with vm := s.vm } : State) [] (0 + 1) (0 + 6) := ⟨e1, e2⟩
    have h3 := X.same.trans h2
    rw [List.append_nil] at h3
    exact h3.mono hc hs
  refine ⟨U, ?_, .threw T.heap.size, hrun, hend, Or.inr ⟨T.heap.size, rfl, cls, ce, locs, hx U hWs.alike f1 (fun q hq => f2 q hq (fun z hz => nomatch hz)), hce, hO.vm, hcl, hWs, hall, hf⟩⟩
  refine st1 _ ?_
  show Steps p.tables e below (T1.setTop { method := m, pc := pc + 3, locals := ls, stack := .ref T.heap.size :: rest, locked := none }) _
  jvm_step X₁.here [X₁.here.top, hexec, d3', Value.category]
  exact X₁.ldcString hexec (own := own) (text := text) (index := is) (a := sa) hown' hstr'.1 hstr'.2
    (g := { method := m, pc := pc + 4, locals := ls, stack := .ref T.heap.size :: .ref T.heap.size :: rest, locked := none }) rfl d4' _ hsteps
theorem vx_throwSW {cc : ByteArray} {pc : Nat} (hexec : p.tables.exec = Jvm.exec) (hb : c.code = cc) (hl : l.stackTraces = false) {own cls text : String} {names : List String} {ik is ic mc ms sa : Nat} {A : Nat → Prop}
    (hown : s.vm.findClass own = some m.cls) (hcls : Bundle.fit cls = true) (hnames : ∀ n ∈ names, Bundle.fit n = true)
    (hk : (Cond.classLink own ik cls).before args s = true) (hini : (Cond.initialized cls).before args s = true) (hstr : vk_R own is text sa s) (hat : ∀ w ∈ vx_atS own ic cls names, w.before args s = true)
    (hgood : ∀ w ∈ Cond.classLink own ik cls :: Cond.initialized cls :: vx_atS own ic cls names, vx_ot w = true)
    (hU : vx_Zq Bundle.tN "UNASSIGNED_STACK" Bundle.steD A s s.heap) (hN : vx_Zq Bundle.tN "SUPPRESSED_SENTINEL" Bundle.listD A s s.heap) (hS : va_S A s.heap H locs) (hsize : ls.size = c.maxLocals)
    (d0 : decode cc pc = .ok (.new ik, 3)) (d3 : decode cc (pc + 3) = .ok (.dup, 1)) (d4 : decode cc (pc + 4) = .ok (.ldc_w is, 3)) (d7 : decode cc (pc + 7) = .ok (.invokespecial ic, 3)) (d10 : decode cc (pc + 10) = .ok (.athrow, 1))
    (hout : ∀ x ∈ c.exceptionTable.toList, covers x (pc + 10) = false)
    (hRframes : names.length + 3 < R.frames) (hRlocals : (rest.map fun v => v.category).sum + (13 * (names.length + 1) + 43) ≤ R.locals) (hRcells : cells + 1 ≤ R.cells) (hRslots : slots + 6 ≤ R.slots) (hlocks : meth.locks = false)
    (hx : ∀ t : State, s.vm.Alike t.vm → H.size ≤ t.heap.size → (∀ q : Nat, q < H.size → t.heap[q]? = H[q]?) → XC cls s t)
    (hf : ∀ z ∈ locs, free z.base) (hc : cells + 1 ≤ mc) (hs : slots + 6 ≤ ms) :
    W p l e R s m args below meth c H locs cells slots (vx_MQ below Qc XC args s mc ms free) (F0 m pc ls rest) := by
  intro T hT X
  have htr : e.platform.stackTraces = false := (show e.platform.stackTraces = l.stackTraces by rw [X.admits.platform]).trans hl
  have Y := vx_rebase X (R' := { frames := R.frames, locals := R.locals, cells := 1, slots := 6 }) (Nat.le_refl _) (Nat.le_refl _) hRcells hRslots
  obtain ⟨s', hA⟩ : ∃ z, z = (T.setVm s.vm).setFrames (.invoking m args :: below) := ⟨_, rfl⟩
  rw [← hA] at Y
  have hvm : s'.vm = s.vm := by rw [hA]; rfl
  have hhp : s'.heap = H := by rw [hA]; exact hT
  have hW0 : s.WarmedH s'.vm := by rw [hvm]; exact State.WarmedH.refl s
  have hat' : ∀ w ∈ vx_atS own ic cls names, w.before args s' = true := fun w hw => vx_ot_at hW0 hvm.symm (hgood w (List.mem_cons_of_mem _ (List.mem_cons_of_mem _ hw))) (hat w hw)
  have hk' : (Cond.classLink own ik cls).before args s' = true := vx_ot_at hW0 hvm.symm (hgood _ List.mem_cons_self) hk
  have hini' : (Cond.initialized cls).before args s' = true := vx_ot_at hW0 hvm.symm (hgood _ (List.mem_cons_of_mem _ List.mem_cons_self)) hini
  have hU' : vx_Zq Bundle.tN "UNASSIGNED_STACK" Bundle.steD A s' s'.heap := by rw [hhp]; exact vx_Zq.moved hW0.alike (hU.kept hS.2.1)
  have hN' : vx_Zq Bundle.tN "SUPPRESSED_SENTINEL" Bundle.listD A s' s'.heap := by rw [hhp]; exact vx_Zq.moved hW0.alike (hN.kept hS.2.1)
  have h : ∀ w ∈ Bundle.ownAtoms own ic cls names, w.before args s' = true := vx_own hat' (vx_isRefq hU'.1) (vx_isRefq hN'.1) hU'.2.word hN'.2.word
  have hown' : s'.vm.findClass own = some m.cls := by rw [hvm]; exact hown
  have hins : (Cond.instantiable cls 6).before args s' = true := h _ (by simp [Bundle.ownAtoms])
  obtain ⟨vm₁, cX, kX, hfX, hkX, -, -, X₁, st1⟩ := Y.newCold hexec (own := own) (C := cls) (index := ik) (n := 6) hown' hk' hins hini'
    (g := F0 m pc ls rest) rfl (by rw [hb]; exact d0) (Nat.le_refl _) (Nat.le_refl _)
  generalize hT1 : (T.setVm vm₁).pushCell { cls := cX, slots := kX.instanceTypes.map defaultValue, vm := .none } = T1 at X₁ st1
  have hcat : (Value.ref T.heap.size).category = 1 := rfl
  have hcellA : T1.heap[T.heap.size]? = some (freshCell cX kX) := by rw [← hT1]; exact State.heap_pushCell_size _ _
  have d3' : decode c.code (pc + 3) = .ok (.dup, 1) := by rw [hb]; exact d3
  have d4' : decode c.code (pc + 4) = .ok (.ldc_w is, 3) := by rw [hb]; exact d4
  have hstr' : vk_R own is text sa s' := vk_R.warm hW0 hstr
  obtain ⟨U, hsteps, hrun, hend, hW, hsame, ce, hce, hO⟩ := X₁.ctorThrowS hexec htr (own := own) (cls := cls) (names := names) (ic := ic) hown' hcls hnames h (fun x hx => nomatch hx) hfX hkX hcellA (by rw [hhp, hT]; exact Nat.le_refl _) (msg := .ref sa) rfl
    (g := { method := m, pc := pc + 7, locals := ls, stack := .ref sa :: .ref T.heap.size :: .ref T.heap.size :: rest, locked := none }) rfl hsize rfl rfl (rest := rest) rfl
    (by rw [hb]; exact d7) (by rw [hb]; exact d10) hout hRframes (by simp only [List.map_cons, List.sum_cons, hcat]; omega) hlocks
  obtain ⟨f1, f2⟩ := vx_frame hsame
  rw [hhp] at f1 f2
  have hWs : s.WarmedH U.vm := State.WarmedH.trans hW0 hW
  have hcl : s.vm.findClass cls = some ce.cls := by
    have h9 := hO.cls
    rw [hvm] at h9
    exact h9
  have hall : s.sameButNew ({ U with vm := s.vm } : State) locs mc ms := by
    subst hA
    obtain ⟨e1, e2⟩ := hsame
    rw [State.setFrames_setFrames] at e1
    have h2 : (T.setVm s.vm).sameButNew ({ U with vm := s.vm } : State) [] (0 + 1) (0 + 6) := ⟨e1, e2⟩
    have h3 := X.same.trans h2
    rw [List.append_nil] at h3
    exact h3.mono hc hs
  refine ⟨U, ?_, .threw T.heap.size, hrun, hend, Or.inr ⟨T.heap.size, rfl, cls, ce, locs, hx U hWs.alike f1 (fun q hq => f2 q hq (fun z hz => nomatch hz)), hce, hO.vm, hcl, hWs, hall, hf⟩⟩
  refine st1 _ ?_
  show Steps p.tables e below (T1.setTop { method := m, pc := pc + 3, locals := ls, stack := .ref T.heap.size :: rest, locked := none }) _
  jvm_step X₁.here [X₁.here.top, hexec, d3', Value.category]
  exact X₁.ldcStringW hexec (own := own) (text := text) (index := is) (a := sa) hown' hstr'.1 hstr'.2
    (g := { method := m, pc := pc + 4, locals := ls, stack := .ref T.heap.size :: .ref T.heap.size :: rest, locked := none }) rfl d4' _ hsteps
end Ends
section Bodies
variable {l : Launch}
theorem vx_ofW {y : MethodName} {ws ws' : List Cond} {rm : Room} {Pc : Array Value → State → Prop} {Qc : Array Value → State → Outcome → State → Prop} {XC : String → State → State → Prop} {mc ms : Nat} {free : Addr → Prop} {cc : ByteArray} {maxL : Nat} {ret : Option FieldType}
    (hy : plainName y.cls = true) (hw : ws = Cond.code y cc maxL ret :: ws')
    (body : ∀ p e s m args below meth c s₁, BodyLoose p l y (headSpec ws rm) cc maxL ret e s m args below meth c s₁ → c.maxLocals = maxL → (∀ x ∈ c.exceptionTable.toList, False) → Pc args s →
      W p l e (headSpec ws rm).room s m args below meth c s.heap [] 0 0 (vx_MQ below Qc XC args s mc ms free) (entryFrame m args maxL)) : vx_Met l y ws rm Pc Qc XC mc ms free := by
  refine MetFree.of_bodyS (code := cc) (maxLocals := maxL) (ret := ret) hy ?_ ?_
  · intro args s m h hn
    obtain ⟨meth, c, h1, h2, h3, h4, h5, h6, -, -⟩ := Cond.code_spec hn (atoms_spec (ws := ws) h _ (by rw [hw]; exact List.mem_cons_self))
    exact ⟨meth, c, h1, h2, h3, h4, h5, h6⟩
  · intro p e s m args below meth c s₁ B hml hP _
    have hh0 : s₁.heap = s.heap := by rw [B.state]; rfl
    have ht : ∀ x ∈ c.exceptionTable.toList, False := by
      obtain ⟨meth9, c9, h1, h2, -, -, -, -, h7, -⟩ := Cond.code_spec B.named (atoms_spec (ws := ws) B.pre _ (by rw [hw]; exact List.mem_cons_self))
      cases Option.some.inj (h1.symm.trans B.method)
      cases Option.some.inj (h2.symm.trans (Stand.of_body B).code)
      intro x hx
      rw [Array.isEmpty_iff.mp h7] at hx
      cases hx
    obtain ⟨t, a1, o, b1, b2, b3⟩ := body p e s m args below meth c s₁ B hml ht hP s₁ hh0 (Stand.of_body B)
    exact ⟨t, o, a1, b1, b2, b3⟩
theorem vx_table {p : Program} {x y : MethodName} {S : Spec} {cc bytes : ByteArray} {maxL maxL' : Nat} {ret ret' : Option FieldType} {e : Env} {s s₁ : State} {m : MethodId} {args : Array Value} {below : List Frame} {meth : Method} {c : Code} {hh : List (Nat × Nat × Nat × Nat)}
    (B : BodyLoose p l y S cc maxL ret e s m args below meth c s₁) (h : (Cond.codeWith y bytes maxL' ret' hh).before args s = true) : c.exceptionTable.toList = tableOf hh := by
  obtain ⟨m9, meth9, c9, hn9, h1, h2, -, -, h6, -⟩ := Cond.codeWith_spec h
  cases Option.some.inj (hn9.symm.trans B.named)
  cases Option.some.inj (h1.symm.trans B.method)
  cases Option.some.inj (h2.symm.trans (Stand.of_body B).code)
  rw [← h6, table_eq]
end Bodies
end VXA
section VXS
variable {p : Program} {l : Launch} {e : Env} {R : Room} {s : State} {m : MethodId} {args : Array Value} {below : List Frame} {meth : Method} {c : Code} {T : State} {H : Heap} {locs : List Loc} {cells slots : Nat}
abbrev vx_CSW (R : Room) (s : State) (args : Array Value) (own : String) (index : Nat) (y : MethodName) (bytes : ByteArray) (maxL : Nat) (ret : Option FieldType) (hh : List (Nat × Nat × Nat × Nat)) (ws : List Cond) (rm : Room) (mc ms n : Nat) : Prop :=
  (rm.cells = mc ∧ rm.slots = ms ∧ rm.frames + 1 ≤ R.frames ∧ 8 + (maxL + 11) + rm.locals ≤ R.locals ∧ (∀ w ∈ ws, ∀ (a' : Array Value) (U : State), s.WarmedH U.vm → w.before a' U = true) ∧ Cond.codeWith y bytes maxL ret hh ∈ ws) ∧
  (Cond.codeWith y bytes maxL ret hh).before args s = true ∧ (Cond.initialized y.cls).before args s = true ∧ (y.cls ≠ "java/lang/invoke/MethodHandle" ∧ y.cls ≠ "java/lang/invoke/VarHandle") ∧
  (∀ sig, parseMethodDescriptor y.desc = some sig → n = sig.parameters.length) ∧ (Cond.methodLink own index y).before args s = true ∧ (Cond.static y).before args s = true
theorem vx_cwSW {own : String} {index maxL mc ms : Nat} {y : MethodName} {bytes : ByteArray} {ret : Option FieldType} {hh : List (Nat × Nat × Nat × Nat)} {Ts ws ws' : List Cond} {rm : Room} (n : Nat) (ht : ∀ w ∈ Ts, w.before args s = true) (hT : GoodIn Ts (va_wsS own index y ws)) (hw : ws = Cond.codeWith y bytes maxL ret hh :: ws') (hrc : rm.cells = mc) (hrs : rm.slots = ms)
    (hd : y.cls ≠ "java/lang/invoke/MethodHandle" ∧ y.cls ≠ "java/lang/invoke/VarHandle" ∧ (parseMethodDescriptor y.desc).map (fun d => d.parameters.length) = some n) (hR : rm.frames + 1 ≤ R.frames ∧ 8 + (maxL + 11) + rm.locals ≤ R.locals) :
    vx_CSW R s args own index y bytes maxL ret hh ws rm mc ms n := by
  have ok : ∀ w ∈ va_wsS own index y ws, w.before args s = true := fun w h => ht w (hT w h).1
  have hG : GoodIn Ts ws := fun w h => hT w (by unfold va_wsS; exact List.mem_append_right _ h)
  have hc : Cond.codeWith y bytes maxL ret hh ∈ ws := by rw [hw]; exact List.mem_cons_self
  refine ⟨⟨hrc, hrs, hR.1, hR.2, pay_in ht hG, hc⟩, ht _ (hG _ hc).1, ok _ (by simp [va_wsS]), ⟨hd.1, hd.2.1⟩, fun sig h => ?_, ok _ (by simp [va_wsS]), ok _ (by simp [va_wsS])⟩
  have h2 := hd.2.2
  rw [h] at h2
  exact (Option.some.inj h2).symm
theorem vx_callSW (X : Stand p l e R s m args below meth c T locs cells slots) (hexec : p.tables.exec = Jvm.exec) {own : String} {index : Nat} {y : MethodName} {bytes : ByteArray} {maxL : Nat} {ret : Option FieldType} {hh : List (Nat × Nat × Nat × Nat)}
    (hown : s.vm.findClass own = some m.cls) (hlink : (Cond.methodLink own index y).before args s = true) (hstat : (Cond.static y).before args s = true) (hinit : (Cond.initialized y.cls).before args s = true)
    (hcode : (Cond.codeWith y bytes maxL ret hh).before args s = true) (hy : y.cls ≠ "java/lang/invoke/MethodHandle" ∧ y.cls ≠ "java/lang/invoke/VarHandle")
    {W9 : Nat} {Pre : Pt → Array Value → Prop} {Post : Pt → Array Value → Option Value → Pt → Prop} (hK : Back l R p e below s args y 3 W9 Pre Post)
    {g : JFrame} (hg : g.method = m) (hsize : g.locals.size = c.maxLocals) {argsL rest : List Value} (hlen : ∀ sig, parseMethodDescriptor y.desc = some sig → argsL.length = sig.parameters.length)
    (hstack : g.stack = argsL.reverse ++ rest) (hW : 2 * g.monitorRoom + (rest.map fun v => v.category).sum ≤ W9) (hdg : decode c.code g.pc = .ok (.invokestatic index, 3))
    (hpre : ∀ vm₁, s.WarmedH vm₁ → Pre ⟨T.setVm vm₁, locs, cells, slots⟩ argsL.toArray) :
    ∃ (v : Option Value) (vm₁ : Vm) (B : Pt), s.WarmedH vm₁ ∧ Stand p l e R s m args below meth c B.U B.locs B.cells B.slots ∧ Post ⟨T.setVm vm₁, locs, cells, slots⟩ argsL.toArray v B ∧
      ∀ target, Steps p.tables e below (B.U.setTop { g with pc := g.pc + 3, stack := v.toList ++ rest }) target → Steps p.tables e below (T.setTop g) target := by
  obtain ⟨mk, methM, cM, hnamed, hmethM, -, -, -, -, -, -, hsigM⟩ := Cond.codeWith_spec hcode
  have hstatic : methM.isStatic = true := Cond.static_spec hnamed hmethM hstat
  obtain ⟨kP, hkP, -⟩ := className_of_methodNamed hnamed
  have hinitP : kP.init = .initialized := Cond.initialized_spec (findClass_of_methodNamed hnamed) hkP hinit
  obtain ⟨vm₁, X₁, hstep₁⟩ := X.invokestatic hexec hown hlink hnamed hmethM hstatic hkP hinitP hy (g := g) hg (argsL := argsL) (rest := rest) (hlen _ hsigM) hstack hdg
  obtain ⟨v, B, X', hpost, hsteps⟩ := hK m meth c ⟨T.setVm vm₁, locs, cells, slots⟩ { g with stack := rest } (.invokestatic index) mk argsL.toArray X₁ hg hsize hdg hW (X₁.named hnamed) (hpre vm₁ X₁.warmed)
  exact ⟨v, vm₁, B, X₁.warmed, X', hpost, fun target h => hstep₁ _ fun acts => by rw [doInvoke_state]; exact hsteps.trans h⟩
theorem vx_runSW {y : MethodName} {bytes cc : ByteArray} {maxL nL mc ms n index : Nat} {ret : Option FieldType} {hh : List (Nat × Nat × Nat × Nat)} {ws : List Cond} {rm : Room} {Pc : Array Value → State → Prop} {Qc : Array Value → State → Outcome → State → Prop} {free : Addr → Prop} {Ts : List Cond} {own : String} {As rest : List Value} {g : JFrame}
    (S : CallFix p m c cc nL s args Ts own) (hM : Met l y ws rm Pc Qc mc ms free) (cw : vx_CSW R s args own index y bytes maxL ret hh ws rm mc ms n) (hp : PreS s H Pc As)
    (hg : g.method = m) (hn : As.length = n) (hsize : g.locals.size = nL) (hstack : g.stack = As.reverse ++ rest) (hW : 2 * g.monitorRoom + (rest.map fun v => v.category).sum ≤ 8) (hdg : decode cc g.pc = .ok (.invokestatic index, 3)) (hf : cells + mc ≤ R.cells ∧ slots + ms ≤ R.slots) :
    va_Run p l e R s m args below meth c H locs cells slots mc ms g rest (Qc As.toArray) (free) := by
  obtain ⟨⟨hrc, hrs, hfr, hlo, hws, hcw⟩, hcode, hini, hy, hlen, hl, hstt⟩ := cw
  have hK : Back l R p e below s args y 3 8 (PreOf R mc ms Pc) (PostOf Qc mc ms free) := va_backW (hh := hh) (bytes := bytes) (maxL := maxL) (ret := ret) hM hp.1 hrc hrs hfr hlo hws hcw (fun a' U hW => word_at hW (Or.inl (by first | rfl | simp [Cond.onTables, Cond.keeps, Cond.steady])) hini)
  obtain ⟨hx, hb, hml, ho, -⟩ := S
  intro T hT X
  obtain ⟨v, vm₁, ⟨U', l2, c2, s2⟩, hW₁, X', ⟨g', mk, t, L, e1, e2, hq, h1, hL, h2, h3⟩, st⟩ := vx_callSW X hx (hh := hh) (bytes := bytes) (maxL := maxL) (ret := ret) ho hl hstt hini hcode hy hK hg (hsize.trans hml.symm) (argsL := As) (rest := rest) (fun sig h => hn.trans (hlen sig h)) hstack hW (by rw [hb]; exact hdg)
    (fun vm₁ hW₁ => ⟨hf.1, hf.2, hp.2 (T.setVm vm₁) hT hW₁⟩)
  dsimp only [Pt.U, Pt.locs, Pt.cells, Pt.slots] at X' e1 e2 h1 h2 h3 st
  subst h1; subst h2; subst h3
  exact ⟨v, (T.setVm vm₁).calling g' mk As.toArray, t, U', L, hT, X', hL, e1, e2, hq, st⟩
theorem vx_outP {p : Program} {l : Launch} {e : Env} {R : Room} {s : State} {m : MethodId} {args : Array Value} {below : List Frame} {meth : Method} {c : Code} {H : Heap} {locs : List Loc} {cells slots : Nat} {free : Addr → Prop} {ls : Array Slot} {rest : List Value} {Qc : Array Value → State → Outcome → State → Prop} {XC : String → State → State → Prop}
    {pc : Nat} {own E : String} {ce : Cell} {q : Addr} {mc ms : Nat} (hown : s.vm.findClass own = some m.cls) (hlocks : meth.locks = false)
    (hpass : ∀ z ∈ c.exceptionTable.toList, covers z pc = false ∨ (z.catchType ≠ 0 ∧ ∃ nm : String, (Cond.classLink own z.catchType nm).before args s = true ∧ va_Nc E nm s)) (hcell : H[q]? = some ce) (hv : ce.vm = .none) (hcl : s.vm.findClass E = some ce.cls)
    (hx : ∀ t : State, t.heap = H → s.vm.Alike t.vm → XC E s t) (hf : ∀ z ∈ locs, free z.base) (hc : cells ≤ mc) (hs : slots ≤ ms) :
    vx_W p l e R s m args below meth c H locs cells slots (vx_MQ below Qc XC args s mc ms free) (F0 m pc ls rest) q := by
  intro T hT X
  have hpl : e.platform.magicAccessors = ({} : Platform).magicAccessors := by rw [X.admits.platform]
  obtain ⟨vm', hW', X', st⟩ := X.outThrough hlocks q (g := F0 m pc ls rest) rfl rfl rfl (cell := ce) (by rw [hT]; exact hcell) (by rw [hv]; rfl)
    (by obtain ⟨k9, h9, -⟩ := Vm.findClass_spec hcl; exact ⟨k9, h9⟩) (fun z hz => by
      rcases hpass z hz with h | ⟨hz0, nm, hl1, hn1⟩
      · exact Or.inl h
      · obtain ⟨c6, hc6, hcl6⟩ := Cond.classLink_spec hown hl1 e.platform hpl
        obtain ⟨a8, b8, h1, h2, h3⟩ := hn1
        cases Option.some.inj (h1.symm.trans hcl)
        cases Option.some.inj (h2.symm.trans hc6)
        exact Or.inr ⟨hz0, _, hcl6, h3⟩)
  obtain ⟨g₀, hfr⟩ := X'.frames_eq
  have hcell9 : ((T.setVm vm').setFrames (.throwing q :: below)).heap[q]? = some ce := by
    show T.heap[q]? = some ce
    rw [hT]; exact hcell
  have hend : Ended ((T.setVm vm').setFrames (.throwing q :: below)) below (.threw q) := State.frames_setFrames _ (State.cur_lt_of_frames hfr)
  refine ⟨(T.setVm vm').setFrames (.throwing q :: below), ?_, .threw q, X'.here.running, hend, Or.inr ⟨q, rfl, E, ce, locs, hx _ hT (X'.ends _).1.alike, hcell9, hv, hcl, (X'.ends _).1, (X'.ends _).2.mono hc hs, hf⟩⟩
  rw [X.pushThrowing_eq]
  exact st
theorem vx_lt {D : va_G} {cl : List vw_C} {ws : va_W} {H1 : Heap} (h : va_P D cl ws H1) {k : Nat} {q : Nat × va_E} (hk : ws[k]? = some q) : q.1 < H1.size := (h k q hk).lt
end VXS
section VXH
section
variable {l : Launch} {R : Room} {p : Program} {e : Env} {below : List Frame} {s : State} {sargs : Array Value} {y : MethodName} {len W9 : Nat}
theorem vx_backW {ws : List Cond} {rm : Room} {Pc : Array Value → State → Prop} {Qc : Array Value → State → Outcome → State → Prop} {XC : String → State → State → Prop} {mc ms : Nat} {free : Addr → Prop} {bytes : ByteArray} {maxL : Nat} {ret : Option FieldType} {hh : List (Nat × Nat × Nat × Nat)}
    (hM : vx_Met l y ws rm Pc Qc XC mc ms free) (hblind : FrameBlind Pc) (hrc : rm.cells = mc) (hrs : rm.slots = ms)
    (hframes : rm.frames + 1 ≤ R.frames) (hlocals : W9 + (maxL + 11) + rm.locals ≤ R.locals)
    (hws : ∀ w ∈ ws, ∀ a' U, s.WarmedH U.vm → w.before a' U = true) (hcode : Cond.codeWith y bytes maxL ret hh ∈ ws) (hinit : ∀ a' U, s.WarmedH U.vm → (Cond.initialized y.cls).before a' U = true) :
    vx_Back l R p e below s sargs y len W9 (PreOf R mc ms Pc) (PostOf Qc mc ms free) (vx_Post XC mc ms free) := by
  intro m meth c A g ig mk a X hg hsize hdg hW hn hp
  have h1 : (headSpec ws rm).pre.before a A.U = true := atoms_intro fun w hw => hws w hw _ _ X.warmed
  have h2 : (Cond.codeWith y bytes maxL ret hh).before a A.U = true := hws _ hcode _ _ X.warmed
  have h3 : (Cond.initialized y.cls).before a A.U = true := hinit _ _ X.warmed
  have h4 : A.cells + (headSpec ws rm).room.cells ≤ R.cells := by rw [show (headSpec ws rm).room.cells = mc from hrc]; exact hp.1
  have h5 : A.slots + (headSpec ws rm).room.slots ≤ R.slots := by rw [show (headSpec ws rm).room.slots = ms from hrs]; exact hp.2.1
  have hPc : Pc a (A.U.calling g mk a) := hblind _ _ _ _ hp.2.2
  obtain ⟨U, Ls, c0, s0⟩ := A
  dsimp only [Pt.U, Pt.locs, Pt.cells, Pt.slots] at h1 h2 h3 h4 h5 X hn hPc ⊢
  obtain ⟨m9, methY, cY, hn9, hmY, hcY, -, hlY, -⟩ := Cond.codeWith_spec h2
  cases Option.some.inj (hn9.symm.trans hn)
  obtain ⟨kY, hkY, -⟩ := className_of_methodNamed hn
  have hinitY : kY.init = .initialized := Cond.initialized_spec (findClass_of_methodNamed hn) hkY h3
  have h : At U g.method c below := by rw [hg]; exact X.here
  have hlocals9 : W9 + (maxL + 11) + (headSpec ws rm).room.locals ≤ R.locals := hlocals
  have happ : (headSpec ws rm).appliesLoose y e.platform (U.calling g mk a) = true :=
    Spec.appliesLoose_calling (g := g) h hdg hn hkY hinitY
      (X.room_calling (g := g) (R' := (headSpec ws rm).room) hsize hmY hcY hframes (by rw [hlY]; omega) h4 h5) h1
  obtain ⟨mid, hmid⟩ := h.above
  have hfr : (U.setTop g).frames = (.java g :: mid) ++ below := by rw [State.frames_setTop' g h.top, hmid]; rfl
  obtain ⟨o, s₂, hsteps, -, hend, hq⟩ := Steps.callFree hM p X.admits X.cas X.clock (acts := []) hfr happ hPc trivial
  have hq' : vx_Q Qc XC mc ms free a (U.calling g mk a) o s₂ := hq
  rw [State.frames_setTop' g h.top] at hend
  obtain ⟨g₀, hg0⟩ := Option.isSome_iff_exists.mp h.top
  obtain ⟨r, hr⟩ := State.topJava?_eq_some.mp hg0
  have hr' : (({ U with heap := s₂.heap, slotsUsed := s₂.slotsUsed } : State).setVm s₂.vm).frames = .java g₀ :: r := hr
  rcases hq' with ⟨hqc, L, hfe, hL⟩ | ⟨q, rfl, E, ce, L, hx, hce, hcv, hcl, hW₂, hsm, hL⟩
  · obtain ⟨⟨v, rfl⟩, hW₂, e2, q2, q3, q4, q5, q6⟩ := id hfe
    have e3 : s₂ = ({ (U.calling g mk a).setFrames s₂.frames with heap := s₂.heap, slotsUsed := s₂.slotsUsed } : State).setVm s₂.vm := by
      have : s₂ = ({ s₂ with vm := (U.calling g mk a).vm } : State).setVm s₂.vm := rfl
      rw [e2] at this
      exact this
    obtain ⟨c₂, i₂, len₂, hc₂, hd₂, hf₂⟩ := hend
    have hW' : U.WarmedH s₂.vm := hW₂
    have hcc : c₂ = c := by
      have h1 : s₂.code? g.method = U.code? g.method := by
        rw [State.code?_eq, State.code?_eq, hW'.alike.method?]
      exact Option.some.inj (hc₂.symm.trans (h1.trans h.code))
    subst hcc
    have hlen : len₂ = len := by rw [hdg] at hd₂; cases hd₂; rfl
    subst hlen
    have hs₂ : s₂ = (({ U with heap := s₂.heap, slotsUsed := s₂.slotsUsed } : State).setVm s₂.vm).setTop { g with pc := g.pc + len₂, stack := v.toList ++ g.stack } := by
      refine e3.trans ?_
      rw [hf₂, State.calling_eq h.top, State.setFrames_setFrames, State.setTop_of_frames _ hr', hr]
      rfl
    have hsame : U.sameButNew ({ U with heap := s₂.heap, slotsUsed := s₂.slotsUsed } : State) L mc ms := by
      refine ⟨?_, q2, q3, q4, q5, q6⟩
      obtain ⟨t, ht, -⟩ := State.frames_cons hr
      show ({ U with heap := s₂.heap, slotsUsed := s₂.slotsUsed } : State) = { U.setFrames U.frames with heap := s₂.heap, slotsUsed := s₂.slotsUsed }
      rw [State.setFrames_self ht]
    subst hg
    refine Or.inl ⟨v, ⟨(({ U with heap := s₂.heap, slotsUsed := s₂.slotsUsed } : State).setVm s₂.vm), Ls ++ L, c0 + mc, s0 + ms⟩,
      ⟨X.admits, X.cas, X.clock, X.frames, X.room, X.hears, X.method, X.code, (X.here.setHeapUsed s₂.heap s₂.slotsUsed).setVm hW'.alike, X.tail, State.WarmedH.trans X.warmed hW', X.limits, X.bytes, X.same.trans (hsame.setVm s.vm)⟩,
      ⟨g, mk, s₂, L, rfl, rfl, hqc, rfl, hL, rfl, rfl⟩, ?_⟩
    show Steps p.tables e below _ ((({ U with heap := s₂.heap, slotsUsed := s₂.slotsUsed } : State).setVm s₂.vm).setTop { g with pc := g.pc + len₂, stack := v.toList ++ g.stack })
    rw [← hs₂]
    exact hsteps
  · obtain ⟨e2, q2, q3, q4, q5, q6⟩ := id hsm
    have e3 : s₂ = ({ (U.calling g mk a).setFrames s₂.frames with heap := s₂.heap, slotsUsed := s₂.slotsUsed } : State).setVm s₂.vm := by
      have : s₂ = ({ s₂ with vm := (U.calling g mk a).vm } : State).setVm s₂.vm := rfl
      rw [e2] at this
      exact this
    have hf₂ : s₂.frames = .throwing q :: .java g :: U.frames.tail := hend
    have hW' : U.WarmedH s₂.vm := hW₂
    have hs₂ : s₂ = ((({ U with heap := s₂.heap, slotsUsed := s₂.slotsUsed } : State).setVm s₂.vm).setTop g).pushFrame (.throwing q) := by
      refine e3.trans ?_
      rw [hf₂, State.calling_eq h.top, State.setFrames_setFrames, State.pushFrame, State.frames_setTop _ hr', State.setTop_of_frames _ hr', State.setFrames_setFrames, hr]
      rfl
    have hsame : U.sameButNew ({ U with heap := s₂.heap, slotsUsed := s₂.slotsUsed } : State) L mc ms := by
      refine ⟨?_, q2, q3, q4, q5, q6⟩
      obtain ⟨t, ht, -⟩ := State.frames_cons hr
      show ({ U with heap := s₂.heap, slotsUsed := s₂.slotsUsed } : State) = { U.setFrames U.frames with heap := s₂.heap, slotsUsed := s₂.slotsUsed }
      rw [State.setFrames_self ht]
    subst hg
    refine Or.inr ⟨q, ⟨(({ U with heap := s₂.heap, slotsUsed := s₂.slotsUsed } : State).setVm s₂.vm), Ls ++ L, c0 + mc, s0 + ms⟩,
      ⟨X.admits, X.cas, X.clock, X.frames, X.room, X.hears, X.method, X.code, (X.here.setHeapUsed s₂.heap s₂.slotsUsed).setVm hW'.alike, X.tail, State.WarmedH.trans X.warmed hW', X.limits, X.bytes, X.same.trans (hsame.setVm s.vm)⟩,
      ⟨g, mk, s₂, L, E, ce, rfl, rfl, hx, hce, hcv, hcl, rfl, hL, rfl, rfl⟩, ?_⟩
    show Steps p.tables e below _ (((({ U with heap := s₂.heap, slotsUsed := s₂.slotsUsed } : State).setVm s₂.vm).setTop g).pushFrame (.throwing q))
    rw [← hs₂]
    exact hsteps
end
variable {p : Program} {l : Launch} {e : Env} {R : Room} {s : State} {m : MethodId} {args : Array Value} {below : List Frame} {meth : Method} {c : Code} {T : State} {H : Heap} {locs : List Loc} {cells slots : Nat}
theorem vx_callVX (X : Stand p l e R s m args below meth c T locs cells slots) (hexec : p.tables.exec = Jvm.exec) {own C : String} {index : Nat} {y : MethodName} {bytes : ByteArray} {maxL : Nat} {ret : Option FieldType} {hh : List (Nat × Nat × Nat × Nat)}
    (hown : s.vm.findClass own = some m.cls) (hlink : (Cond.methodLink own index y).before args s = true) (hinst : (Cond.instanceMethod y).before args s = true) (hsel : (Cond.selects C y y).before args s = true)
    (hcode : (Cond.codeWith y bytes maxL ret hh).before args s = true) (hy : y.cls ≠ "java/lang/invoke/MethodHandle" ∧ y.cls ≠ "java/lang/invoke/VarHandle")
    {W9 : Nat} {Pre : Pt → Array Value → Prop} {Post : Pt → Array Value → Option Value → Pt → Prop} {PostX : Pt → Array Value → Addr → Pt → Prop} (hK : vx_Back l R p e below s args y 3 W9 Pre Post PostX)
    {b : Addr} {cellB : Cell} (hcell : T.heap[b]? = some cellB) (hobj : cellB.vm.isStatics = false) (hcls : s.vm.findClass C = some cellB.cls)
    {g : JFrame} (hg : g.method = m) (hsize : g.locals.size = c.maxLocals) {argsL rest : List Value} (hlen : ∀ sig, parseMethodDescriptor y.desc = some sig → argsL.length = sig.parameters.length)
    (hstack : g.stack = argsL.reverse ++ .ref b :: rest) (hW : 2 * g.monitorRoom + (rest.map fun v => v.category).sum ≤ W9) (hdg : decode c.code g.pc = .ok (.invokevirtual index, 3))
    (hpre : ∀ vm₁, s.WarmedH vm₁ → Pre ⟨T.setVm vm₁, locs, cells, slots⟩ (Value.ref b :: argsL).toArray) :
    (∃ (v : Option Value) (vm₁ : Vm) (B : Pt), s.WarmedH vm₁ ∧ Stand p l e R s m args below meth c B.U B.locs B.cells B.slots ∧ Post ⟨T.setVm vm₁, locs, cells, slots⟩ (Value.ref b :: argsL).toArray v B ∧
      ∀ target, Steps p.tables e below (B.U.setTop { g with pc := g.pc + 3, stack := v.toList ++ rest }) target → Steps p.tables e below (T.setTop g) target) ∨
    (∃ (q : Addr) (vm₁ : Vm) (B : Pt), s.WarmedH vm₁ ∧ Stand p l e R s m args below meth c B.U B.locs B.cells B.slots ∧ PostX ⟨T.setVm vm₁, locs, cells, slots⟩ (Value.ref b :: argsL).toArray q B ∧
      Steps p.tables e below (T.setTop g) ((B.U.setTop { g with stack := rest }).pushFrame (.throwing q))) := by
  obtain ⟨mk, methM, hnamed, hmethM, hstM, habM⟩ := Cond.instanceMethod_spec hinst
  obtain ⟨m8, methM', cM, hn8, hmethM', -, -, -, -, -, -, hsigM⟩ := Cond.codeWith_spec hcode
  cases Option.some.inj (hn8.symm.trans hnamed)
  cases hmethM.symm.trans hmethM'
  obtain ⟨c2, r2, m2, q1, q2, q3, q4, kP, hkP, hkPi⟩ := Cond.selects_spec hsel
  cases hcls.symm.trans q1
  cases (State.methodFound?_of_named hnamed hy).symm.trans q2
  cases hnamed.symm.trans q3
  have hselP : selectMethod e.platform s.vm cellB.cls mk = .method mk := by rw [Launch.admits_selectMethod X.admits]; exact q4
  obtain ⟨vm₁, X₁, hstep₁⟩ := X.invokevirtual hexec hown hlink hnamed hmethM hstM hkP hkPi hy (a := b) (cell := cellB) hcell
    (fun z h => by rw [h] at hobj; cases hobj) hselP hmethM habM hkP hkPi (g := g) hg (argsL := argsL) (rest := rest) (hlen _ hsigM) hstack hdg
  rcases hK m meth c ⟨T.setVm vm₁, locs, cells, slots⟩ { g with stack := rest } (.invokevirtual index) mk (Value.ref b :: argsL).toArray X₁ hg hsize hdg hW (X₁.named hnamed) (hpre vm₁ X₁.warmed) with ⟨v, B, X', hpost, hsteps⟩ | ⟨q, B, X', hpost, hsteps⟩
  · exact Or.inl ⟨v, vm₁, B, X₁.warmed, X', hpost, fun target h => hstep₁ _ fun acts => by rw [doInvoke_state]; exact hsteps.trans h⟩
  · exact Or.inr ⟨q, vm₁, B, X₁.warmed, X', hpost, hstep₁ _ fun acts => by rw [doInvoke_state]; exact hsteps⟩
theorem vx_callSX (X : Stand p l e R s m args below meth c T locs cells slots) (hexec : p.tables.exec = Jvm.exec) {own : String} {index : Nat} {y : MethodName} {bytes : ByteArray} {maxL : Nat} {ret : Option FieldType} {hh : List (Nat × Nat × Nat × Nat)}
    (hown : s.vm.findClass own = some m.cls) (hlink : (Cond.methodLink own index y).before args s = true) (hstat : (Cond.static y).before args s = true) (hinit : (Cond.initialized y.cls).before args s = true)
    (hcode : (Cond.codeWith y bytes maxL ret hh).before args s = true) (hy : y.cls ≠ "java/lang/invoke/MethodHandle" ∧ y.cls ≠ "java/lang/invoke/VarHandle")
    {W9 : Nat} {Pre : Pt → Array Value → Prop} {Post : Pt → Array Value → Option Value → Pt → Prop} {PostX : Pt → Array Value → Addr → Pt → Prop} (hK : vx_Back l R p e below s args y 3 W9 Pre Post PostX)
    {g : JFrame} (hg : g.method = m) (hsize : g.locals.size = c.maxLocals) {argsL rest : List Value} (hlen : ∀ sig, parseMethodDescriptor y.desc = some sig → argsL.length = sig.parameters.length)
    (hstack : g.stack = argsL.reverse ++ rest) (hW : 2 * g.monitorRoom + (rest.map fun v => v.category).sum ≤ W9) (hdg : decode c.code g.pc = .ok (.invokestatic index, 3))
    (hpre : ∀ vm₁, s.WarmedH vm₁ → Pre ⟨T.setVm vm₁, locs, cells, slots⟩ argsL.toArray) :
    (∃ (v : Option Value) (vm₁ : Vm) (B : Pt), s.WarmedH vm₁ ∧ Stand p l e R s m args below meth c B.U B.locs B.cells B.slots ∧ Post ⟨T.setVm vm₁, locs, cells, slots⟩ argsL.toArray v B ∧
      ∀ target, Steps p.tables e below (B.U.setTop { g with pc := g.pc + 3, stack := v.toList ++ rest }) target → Steps p.tables e below (T.setTop g) target) ∨
    (∃ (q : Addr) (vm₁ : Vm) (B : Pt), s.WarmedH vm₁ ∧ Stand p l e R s m args below meth c B.U B.locs B.cells B.slots ∧ PostX ⟨T.setVm vm₁, locs, cells, slots⟩ argsL.toArray q B ∧
      Steps p.tables e below (T.setTop g) ((B.U.setTop { g with stack := rest }).pushFrame (.throwing q))) := by
  obtain ⟨mk, methM, cM, hnamed, hmethM, -, -, -, -, -, -, hsigM⟩ := Cond.codeWith_spec hcode
  have hstatic : methM.isStatic = true := Cond.static_spec hnamed hmethM hstat
  obtain ⟨kP, hkP, -⟩ := className_of_methodNamed hnamed
  have hinitP : kP.init = .initialized := Cond.initialized_spec (findClass_of_methodNamed hnamed) hkP hinit
  obtain ⟨vm₁, X₁, hstep₁⟩ := X.invokestatic hexec hown hlink hnamed hmethM hstatic hkP hinitP hy (g := g) hg (argsL := argsL) (rest := rest) (hlen _ hsigM) hstack hdg
  rcases hK m meth c ⟨T.setVm vm₁, locs, cells, slots⟩ { g with stack := rest } (.invokestatic index) mk argsL.toArray X₁ hg hsize hdg hW (X₁.named hnamed) (hpre vm₁ X₁.warmed) with ⟨v, B, X', hpost, hsteps⟩ | ⟨q, B, X', hpost, hsteps⟩
  · exact Or.inl ⟨v, vm₁, B, X₁.warmed, X', hpost, fun target h => hstep₁ _ fun acts => by rw [doInvoke_state]; exact hsteps.trans h⟩
  · exact Or.inr ⟨q, vm₁, B, X₁.warmed, X', hpost, hstep₁ _ fun acts => by rw [doInvoke_state]; exact hsteps⟩
theorem vx_callVW (X : Stand p l e R s m args below meth c T locs cells slots) (hexec : p.tables.exec = Jvm.exec) {own C : String} {index : Nat} {y : MethodName} {bytes : ByteArray} {maxL : Nat} {ret : Option FieldType} {hh : List (Nat × Nat × Nat × Nat)}
    (hown : s.vm.findClass own = some m.cls) (hlink : (Cond.methodLink own index y).before args s = true) (hinst : (Cond.instanceMethod y).before args s = true) (hsel : (Cond.selects C y y).before args s = true)
    (hcode : (Cond.codeWith y bytes maxL ret hh).before args s = true) (hy : y.cls ≠ "java/lang/invoke/MethodHandle" ∧ y.cls ≠ "java/lang/invoke/VarHandle")
    {W9 : Nat} {Pre : Pt → Array Value → Prop} {Post : Pt → Array Value → Option Value → Pt → Prop} (hK : Back l R p e below s args y 3 W9 Pre Post)
    {b : Addr} {cellB : Cell} (hcell : T.heap[b]? = some cellB) (hobj : cellB.vm.isStatics = false) (hcls : s.vm.findClass C = some cellB.cls)
    {g : JFrame} (hg : g.method = m) (hsize : g.locals.size = c.maxLocals) {argsL rest : List Value} (hlen : ∀ sig, parseMethodDescriptor y.desc = some sig → argsL.length = sig.parameters.length)
    (hstack : g.stack = argsL.reverse ++ .ref b :: rest) (hW : 2 * g.monitorRoom + (rest.map fun v => v.category).sum ≤ W9) (hdg : decode c.code g.pc = .ok (.invokevirtual index, 3))
    (hpre : ∀ vm₁, s.WarmedH vm₁ → Pre ⟨T.setVm vm₁, locs, cells, slots⟩ (Value.ref b :: argsL).toArray) :
    ∃ (v : Option Value) (vm₁ : Vm) (B : Pt), s.WarmedH vm₁ ∧ Stand p l e R s m args below meth c B.U B.locs B.cells B.slots ∧ Post ⟨T.setVm vm₁, locs, cells, slots⟩ (Value.ref b :: argsL).toArray v B ∧
      ∀ target, Steps p.tables e below (B.U.setTop { g with pc := g.pc + 3, stack := v.toList ++ rest }) target → Steps p.tables e below (T.setTop g) target := by
  obtain ⟨mk, methM, hnamed, hmethM, hstM, habM⟩ := Cond.instanceMethod_spec hinst
  obtain ⟨m8, methM', cM, hn8, hmethM', -, -, -, -, -, -, hsigM⟩ := Cond.codeWith_spec hcode
  cases Option.some.inj (hn8.symm.trans hnamed)
  cases hmethM.symm.trans hmethM'
  obtain ⟨c2, r2, m2, q1, q2, q3, q4, kP, hkP, hkPi⟩ := Cond.selects_spec hsel
  cases hcls.symm.trans q1
  cases (State.methodFound?_of_named hnamed hy).symm.trans q2
  cases hnamed.symm.trans q3
  have hselP : selectMethod e.platform s.vm cellB.cls mk = .method mk := by rw [Launch.admits_selectMethod X.admits]; exact q4
  obtain ⟨vm₁, X₁, hstep₁⟩ := X.invokevirtual hexec hown hlink hnamed hmethM hstM hkP hkPi hy (a := b) (cell := cellB) hcell
    (fun z h => by rw [h] at hobj; cases hobj) hselP hmethM habM hkP hkPi (g := g) hg (argsL := argsL) (rest := rest) (hlen _ hsigM) hstack hdg
  obtain ⟨v, B, X', hpost, hsteps⟩ := hK m meth c ⟨T.setVm vm₁, locs, cells, slots⟩ { g with stack := rest } (.invokevirtual index) mk (Value.ref b :: argsL).toArray X₁ hg hsize hdg hW (X₁.named hnamed) (hpre vm₁ X₁.warmed)
  exact ⟨v, vm₁, B, X₁.warmed, X', hpost, fun target h => hstep₁ _ fun acts => by rw [doInvoke_state]; exact hsteps.trans h⟩
abbrev vx_CVW (R : Room) (s : State) (args : Array Value) (own C : String) (index : Nat) (y : MethodName) (bytes : ByteArray) (maxL : Nat) (ret : Option FieldType) (hh : List (Nat × Nat × Nat × Nat)) (ws : List Cond) (rm : Room) (mc ms n : Nat) : Prop :=
  (rm.cells = mc ∧ rm.slots = ms ∧ rm.frames + 1 ≤ R.frames ∧ 8 + (maxL + 11) + rm.locals ≤ R.locals ∧ (∀ w ∈ ws, ∀ (a' : Array Value) (U : State), s.WarmedH U.vm → w.before a' U = true) ∧ Cond.codeWith y bytes maxL ret hh ∈ ws) ∧
  (Cond.codeWith y bytes maxL ret hh).before args s = true ∧ (Cond.initialized y.cls).before args s = true ∧ (y.cls ≠ "java/lang/invoke/MethodHandle" ∧ y.cls ≠ "java/lang/invoke/VarHandle") ∧
  (∀ sig, parseMethodDescriptor y.desc = some sig → n = sig.parameters.length) ∧ (Cond.methodLink own index y).before args s = true ∧ (Cond.instanceMethod y).before args s = true ∧ (Cond.selects C y y).before args s = true
theorem vx_cwVW {own C : String} {index maxL mc ms : Nat} {y : MethodName} {bytes : ByteArray} {ret : Option FieldType} {hh : List (Nat × Nat × Nat × Nat)} {Ts ws ws' : List Cond} {rm : Room} (n : Nat) (ht : ∀ w ∈ Ts, w.before args s = true) (hT : GoodIn Ts (wsV own index C y ws)) (hw : ws = Cond.codeWith y bytes maxL ret hh :: ws') (hrc : rm.cells = mc) (hrs : rm.slots = ms)
    (hd : y.cls = C ∧ y.cls ≠ "java/lang/invoke/MethodHandle" ∧ y.cls ≠ "java/lang/invoke/VarHandle" ∧ (parseMethodDescriptor y.desc).map (fun d => d.parameters.length) = some n) (hR : rm.frames + 1 ≤ R.frames ∧ 8 + (maxL + 11) + rm.locals ≤ R.locals) :
    vx_CVW R s args own C index y bytes maxL ret hh ws rm mc ms n := by
  obtain ⟨hC, hd⟩ := hd
  subst hC
  have ok : ∀ w ∈ wsV own index y.cls y ws, w.before args s = true := fun w h => ht w (hT w h).1
  have hG : GoodIn Ts ws := fun w h => hT w (by unfold wsV; exact List.mem_append_right _ h)
  have hc : Cond.codeWith y bytes maxL ret hh ∈ ws := by rw [hw]; exact List.mem_cons_self
  refine ⟨⟨hrc, hrs, hR.1, hR.2, pay_in ht hG, hc⟩, ht _ (hG _ hc).1, ok _ (by simp [wsV]), ⟨hd.1, hd.2.1⟩, fun sig h => ?_, ok _ (by simp [wsV]), ok _ (by simp [wsV]), ok _ (by simp [wsV])⟩
  have h2 := hd.2.2
  rw [h] at h2
  exact (Option.some.inj h2).symm
theorem vx_runVW {y : MethodName} {bytes cc : ByteArray} {maxL nL mc ms n index : Nat} {ret : Option FieldType} {hh : List (Nat × Nat × Nat × Nat)} {ws : List Cond} {rm : Room} {Pc : Array Value → State → Prop} {Qc : Array Value → State → Outcome → State → Prop} {free : Addr → Prop} {Ts : List Cond} {own C : String} {b : Addr} {As rest : List Value} {g : JFrame}
    (S : CallFix p m c cc nL s args Ts own) (hM : Met l y ws rm Pc Qc mc ms free) (cw : vx_CVW R s args own C index y bytes maxL ret hh ws rm mc ms n) (hp : PreV s H C b Pc As)
    (hg : g.method = m) (hn : As.length = n) (hsize : g.locals.size = nL) (hstack : g.stack = As.reverse ++ .ref b :: rest) (hW : 2 * g.monitorRoom + (rest.map fun v => v.category).sum ≤ 8) (hdg : decode cc g.pc = .ok (.invokevirtual index, 3)) (hf : cells + mc ≤ R.cells ∧ slots + ms ≤ R.slots) :
    va_Run p l e R s m args below meth c H locs cells slots mc ms g rest (Qc (Value.ref b :: As).toArray) free := by
  obtain ⟨⟨hrc, hrs, hfr, hlo, hws, hcw⟩, hcode, hini, hy, hlen, hl, hin, hse⟩ := cw
  have hK : Back l R p e below s args y 3 8 (PreOf R mc ms Pc) (PostOf Qc mc ms free) := va_backW (hh := hh) (bytes := bytes) (maxL := maxL) (ret := ret) hM hp.1 hrc hrs hfr hlo hws hcw (fun a' U hW => word_at hW (Or.inl (by first | rfl | simp [Cond.onTables, Cond.keeps, Cond.steady])) hini)
  obtain ⟨hx, hb, hml, ho, -⟩ := S
  obtain ⟨-, ⟨cellB, hcB, hoB, hclB⟩, hPc⟩ := hp
  intro T hT X
  obtain ⟨v, vm₁, ⟨U', l2, c2, s2⟩, hW₁, X', ⟨g', mk, t, L, e1, e2, hq, h1, hL, h2, h3⟩, st⟩ := vx_callVW X hx (C := C) (hh := hh) (bytes := bytes) (maxL := maxL) (ret := ret) ho hl hin hse hcode hy hK (by rw [hT]; exact hcB) hoB hclB hg (hsize.trans hml.symm) (argsL := As) (rest := rest) (fun sig h => hn.trans (hlen sig h)) hstack hW (by rw [hb]; exact hdg)
    (fun vm₁ hW₁ => ⟨hf.1, hf.2, hPc (T.setVm vm₁) hT hW₁⟩)
  dsimp only [Pt.U, Pt.locs, Pt.cells, Pt.slots] at X' e1 e2 h1 h2 h3 st
  subst h1; subst h2; subst h3
  exact ⟨v, (T.setVm vm₁).calling g' mk (Value.ref b :: As).toArray, t, U', L, hT, X', hL, e1, e2, hq, st⟩
section
variable {y : MethodName} {bytes cc : ByteArray} {maxL nL mc ms n index : Nat} {ret : Option FieldType} {ws : List Cond} {rm : Room} {Pc : Array Value → State → Prop} {Qc : Array Value → State → Outcome → State → Prop} {XC : String → State → State → Prop} {free : Addr → Prop} {Ts : List Cond} {own C : String} {b : Addr} {As rest : List Value} {g : JFrame}
theorem vx_runVX {hh : List (Nat × Nat × Nat × Nat)} (S : CallFix p m c cc nL s args Ts own) (hM : vx_Met l y ws rm Pc Qc XC mc ms free) (cw : vx_CVW R s args own C index y bytes maxL ret hh ws rm mc ms n) (hp : PreV s H C b Pc As)
    (hg : g.method = m) (hn : As.length = n) (hsize : g.locals.size = nL) (hstack : g.stack = As.reverse ++ .ref b :: rest) (hW : 2 * g.monitorRoom + (rest.map fun v => v.category).sum ≤ 8) (hdg : decode cc g.pc = .ok (.invokevirtual index, 3)) (hf : cells + mc ≤ R.cells ∧ slots + ms ≤ R.slots) :
    vx_Run p l e R s m args below meth c H locs cells slots mc ms g rest (Qc (Value.ref b :: As).toArray) XC free := by
  obtain ⟨⟨hrc, hrs, hfr, hlo, hws, hcw⟩, hcode, hini, hy, hlen, hl, hin, hse⟩ := cw
  have hK : vx_Back l R p e below s args y 3 8 (PreOf R mc ms Pc) (PostOf Qc mc ms free) (vx_Post XC mc ms free) := vx_backW (hh := hh) (bytes := bytes) (maxL := maxL) (ret := ret) hM hp.1 hrc hrs hfr hlo hws hcw (fun a' U hW => word_at hW (Or.inl (by first | rfl | simp [Cond.onTables, Cond.keeps, Cond.steady])) hini)
  obtain ⟨hx, hb, hml, ho, -⟩ := S
  obtain ⟨-, ⟨cellB, hcB, hoB, hclB⟩, hPc⟩ := hp
  intro T hT X
  rcases vx_callVX X hx (C := C) (hh := hh) (bytes := bytes) (maxL := maxL) (ret := ret) ho hl hin hse hcode hy hK (by rw [hT]; exact hcB) hoB hclB hg (hsize.trans hml.symm) (argsL := As) (rest := rest) (fun sig h => hn.trans (hlen sig h)) hstack hW (by rw [hb]; exact hdg)
    (fun vm₁ hW₁ => ⟨hf.1, hf.2, hPc (T.setVm vm₁) hT hW₁⟩) with ⟨v, vm₁, ⟨U', l2, c2, s2⟩, hW₁, X', ⟨g', mk, t, L, e1, e2, hq, h1, hL, h2, h3⟩, st⟩ | ⟨q, vm₁, ⟨U', l2, c2, s2⟩, hW₁, X', ⟨g', mk, t, L, E, ce, e1, e2, hq, hce, hcv, hcl, h1, hL, h2, h3⟩, st⟩
  · dsimp only [Pt.U, Pt.locs, Pt.cells, Pt.slots] at X' e1 e2 h1 h2 h3 st
    subst h1; subst h2; subst h3
    exact Or.inl ⟨v, (T.setVm vm₁).calling g' mk (Value.ref b :: As).toArray, t, U', L, hT, X', hL, e1, e2, hq, st⟩
  · dsimp only [Pt.U, Pt.locs, Pt.cells, Pt.slots] at X' e1 e2 h1 h2 h3 st hcl
    subst h1; subst h2; subst h3
    exact Or.inr ⟨q, (T.setVm vm₁).calling g' mk (Value.ref b :: As).toArray, t, U', L, E, ce, hT, X', hL, e1, e2, hq, hce, hcv, vx_cls hW₁ hcl, st⟩
theorem vx_runSX {hh : List (Nat × Nat × Nat × Nat)} (S : CallFix p m c cc nL s args Ts own) (hM : vx_Met l y ws rm Pc Qc XC mc ms free) (cw : vx_CSW R s args own index y bytes maxL ret hh ws rm mc ms n) (hp : PreS s H Pc As)
    (hg : g.method = m) (hn : As.length = n) (hsize : g.locals.size = nL) (hstack : g.stack = As.reverse ++ rest) (hW : 2 * g.monitorRoom + (rest.map fun v => v.category).sum ≤ 8) (hdg : decode cc g.pc = .ok (.invokestatic index, 3)) (hf : cells + mc ≤ R.cells ∧ slots + ms ≤ R.slots) :
    vx_Run p l e R s m args below meth c H locs cells slots mc ms g rest (Qc As.toArray) XC free := by
  obtain ⟨⟨hrc, hrs, hfr, hlo, hws, hcw⟩, hcode, hini, hy, hlen, hl, hstt⟩ := cw
  have hK : vx_Back l R p e below s args y 3 8 (PreOf R mc ms Pc) (PostOf Qc mc ms free) (vx_Post XC mc ms free) := vx_backW (hh := hh) (bytes := bytes) (maxL := maxL) (ret := ret) hM hp.1 hrc hrs hfr hlo hws hcw (fun a' U hW => word_at hW (Or.inl (by first | rfl | simp [Cond.onTables, Cond.keeps, Cond.steady])) hini)
  obtain ⟨hx, hb, hml, ho, -⟩ := S
  intro T hT X
  rcases vx_callSX X hx (hh := hh) (bytes := bytes) (maxL := maxL) (ret := ret) ho hl hstt hini hcode hy hK hg (hsize.trans hml.symm) (argsL := As) (rest := rest) (fun sig h => hn.trans (hlen sig h)) hstack hW (by rw [hb]; exact hdg)
    (fun vm₁ hW₁ => ⟨hf.1, hf.2, hp.2 (T.setVm vm₁) hT hW₁⟩) with ⟨v, vm₁, ⟨U', l2, c2, s2⟩, hW₁, X', ⟨g', mk, t, L, e1, e2, hq, h1, hL, h2, h3⟩, st⟩ | ⟨q, vm₁, ⟨U', l2, c2, s2⟩, hW₁, X', ⟨g', mk, t, L, E, ce, e1, e2, hq, hce, hcv, hcl, h1, hL, h2, h3⟩, st⟩
  · dsimp only [Pt.U, Pt.locs, Pt.cells, Pt.slots] at X' e1 e2 h1 h2 h3 st
    subst h1; subst h2; subst h3
    exact Or.inl ⟨v, (T.setVm vm₁).calling g' mk As.toArray, t, U', L, hT, X', hL, e1, e2, hq, st⟩
  · dsimp only [Pt.U, Pt.locs, Pt.cells, Pt.slots] at X' e1 e2 h1 h2 h3 st hcl
    subst h1; subst h2; subst h3
    exact Or.inr ⟨q, (T.setVm vm₁).calling g' mk As.toArray, t, U', L, E, ce, hT, X', hL, e1, e2, hq, hce, hcv, vx_cls hW₁ hcl, st⟩
end
end VXH
theorem vx_ofWH {l : Launch} {y : MethodName} {ws ws' : List Cond} {rm : Room} {Pc : Array Value → State → Prop} {Qc : Array Value → State → Outcome → State → Prop} {XC : String → State → State → Prop} {mc ms : Nat} {free : Addr → Prop} {cc : ByteArray} {maxL : Nat} {ret : Option FieldType} {hh : List (Nat × Nat × Nat × Nat)}
    (hy : plainName y.cls = true) (hw : ws = Cond.codeWith y cc maxL ret hh :: ws')
    (body : ∀ p e s m args below meth c s₁, BodyLoose p l y (headSpec ws rm) cc maxL ret e s m args below meth c s₁ → c.maxLocals = maxL → Pc args s →
      W p l e (headSpec ws rm).room s m args below meth c s.heap [] 0 0 (vx_MQ below Qc XC args s mc ms free) (entryFrame m args maxL)) : vx_Met l y ws rm Pc Qc XC mc ms free := by
  refine MetFree.of_bodyS (code := cc) (maxLocals := maxL) (ret := ret) hy ?_ ?_
  · intro args s m h hn
    obtain ⟨m9, meth, c, hn9, h1, h2, h3, h4, -, h5, h6, -⟩ := Cond.codeWith_spec (atoms_spec (ws := ws) h _ (by rw [hw]; exact List.mem_cons_self))
    cases hn.symm.trans hn9
    exact ⟨meth, c, h1, h2, h3, h4, h5, h6⟩
  · intro p e s m args below meth c s₁ B hml hP _
    have hh0 : s₁.heap = s.heap := by rw [B.state]; rfl
    obtain ⟨t, a1, o, b1, b2, b3⟩ := body p e s m args below meth c s₁ B hml hP s₁ hh0 (Stand.of_body B)
    exact ⟨t, o, a1, b1, b2, b3⟩
end
section
def RX : String := "HashedNames"
def RM : String := "HashedNamesModel"
def RL : String := "HashedNamesLaw"
def FX : u_T := fun k => match k with
  | 0 => ("HashedNames", "hand", "[I", true)
  | 1 => ("HashedNames", "key", "[I", true)
  | 2 => ("HashedNames", "told", "[I", true)
  | 3 => ("HashedNames", "toldLength", "I", false)
  | 4 => ("HashedNames", "words", "[I", true)
  | 5 => ("HashedNames", "lengths", "[I", true)
  | 6 => ("HashedNames", "ids", "[I", true)
  | 7 => ("HashedNames", "counts", "[I", true)
  | 8 => ("HashedNames", "bucketLinks", "[I", true)
  | _ => ("HashedNames", "orderLinks", "[I", true)
def tX : Nat → FieldType := fun k => match k with
  | 0 => .array .int
  | 1 => .array .int
  | 2 => .array .int
  | 3 => .int
  | 4 => .array .int
  | 5 => .array .int
  | 6 => .array .int
  | 7 => .array .int
  | 8 => .array .int
  | _ => .array .int
theorem nX : ∀ a, a < 10 → ∀ b, b < 10 → a ≠ b → (FX a).2.1 ≠ (FX b).2.1 := by decide +kernel
theorem tX_ok : ∀ k, k < 10 → parseFieldDescriptor (FX k).2.2.1 = some (tX k) := by decide +kernel
def FM : u_T := fun k => match k with
  | 0 => ("HashedNamesModel", "thrown", "I", false)
  | 1 => ("HashedNamesModel", "hand", "[I", true)
  | 2 => ("HashedNamesModel", "many", "[I", true)
  | 3 => ("HashedNamesModel", "id", "[I", true)
  | 4 => ("HashedNamesModel", "length", "[I", true)
  | 5 => ("HashedNamesModel", "bytes", "[I", true)
  | 6 => ("HashedNamesModel", "told", "[I", true)
  | _ => ("HashedNamesModel", "toldLength", "I", false)
def tM : Nat → FieldType := fun k => match k with
  | 0 => .int
  | 1 => .array .int
  | 2 => .array .int
  | 3 => .array .int
  | 4 => .array .int
  | 5 => .array .int
  | 6 => .array .int
  | _ => .int
theorem nM : ∀ a, a < 8 → ∀ b, b < 8 → a ≠ b → (FM a).2.1 ≠ (FM b).2.1 := by decide +kernel
theorem tM_ok : ∀ k, k < 8 → parseFieldDescriptor (FM k).2.2.1 = some (tM k) := by decide +kernel
abbrev vwCl : List vw_C := [(RX, FX, 10), (RM, FM, 8)]
/-- the words that every method here is given: the good ones of the law's tables -/
def hn_tb : List Cond := lw_tbl.filter goodWord
theorem hn_tb_good : ∀ w ∈ hn_tb, w ∈ hn_tb ∧ ((w.onTables && w.keeps) = true ∨ ∃ ty, w = .arrayClass ty) := fun w h => ⟨h, good_of_word (List.mem_filter.mp h).2⟩
theorem hn_tb_of {w : Cond} (h : w ∈ lw_tbl) (g : goodWord w = true) : w ∈ hn_tb := List.mem_filter.mpr ⟨h, g⟩
theorem hn_in (i : Nat) {w : Cond} (h : tables_1[i]? = some w) (g : goodWord w = true) : w ∈ hn_tb := hn_tb_of (List.mem_append_right _ (List.mem_of_getElem? h)) g
theorem hn_sel (i : Nat) {w : Cond} (h : (k2_sels lw_privs)[i]? = some w) (g : goodWord w = true) : w ∈ hn_tb := hn_tb_of (List.mem_append_left _ (List.mem_of_getElem? h)) g
theorem hn_gS {own : String} {idx : Nat} {y : MethodName} {b : ByteArray} {n : Nat} {ret : Option FieldType} (h1 : Cond.methodLink own idx y ∈ hn_tb) (h2 : Cond.static y ∈ hn_tb) (h3 : Cond.initialized own ∈ hn_tb) (h4 : Cond.code y b n ret ∈ hn_tb) : GoodIn hn_tb (wsS own idx y (.code y b n ret :: hn_tb)) := by
  intro w hw
  refine hn_tb_good w ?_
  unfold wsS at hw
  simp only [List.mem_append, List.mem_cons, List.not_mem_nil, or_false] at hw
  rcases hw with (rfl | rfl | rfl) | rfl | hw
  · exact h1
  · exact h2
  · exact h3
  · exact h4
  · exact hw
theorem hn_gV {own C : String} {idx : Nat} {y : MethodName} {b : ByteArray} {n : Nat} {ret : Option FieldType} (h1 : Cond.methodLink own idx y ∈ hn_tb) (h2 : Cond.instanceMethod y ∈ hn_tb) (h5 : Cond.selects C y y ∈ hn_tb) (h3 : Cond.initialized C ∈ hn_tb) (h4 : Cond.code y b n ret ∈ hn_tb) : GoodIn hn_tb (wsV own idx C y (.code y b n ret :: hn_tb)) := by
  intro w hw
  refine hn_tb_good w ?_
  unfold wsV at hw
  simp only [List.mem_append, List.mem_cons, List.not_mem_nil, or_false] at hw
  rcases hw with (rfl | rfl | rfl | rfl) | rfl | hw
  · exact h1
  · exact h2
  · exact h5
  · exact h3
  · exact h4
  · exact hw
theorem hn_gI {y : MethodName} {b : ByteArray} {n : Nat} {ret : Option FieldType} (h4 : Cond.code y b n ret ∈ hn_tb) : GoodIn hn_tb (.code y b n ret :: hn_tb) := by
  intro w hw
  refine hn_tb_good w ?_
  rcases List.mem_cons.mp hw with rfl | hw
  · exact h4
  · exact hw
theorem mX_ini : Cond.initialized RX ∈ hn_tb := hn_in 1 (by decide +kernel) (by decide +kernel)
theorem mM_ini : Cond.initialized RM ∈ hn_tb := hn_in 2 (by decide +kernel) (by decide +kernel)
theorem mL_ini : Cond.initialized RL ∈ hn_tb := hn_in 0 (by decide +kernel) (by decide +kernel)
theorem iX : ∀ w ∈ u_ws RX FX 10, w ∈ hn_tb := by decide +kernel
theorem mX_inst : Cond.instantiable RX 10 ∈ hn_tb := hn_in 9 (by decide +kernel) (by decide +kernel)
theorem mX_f_hand : Cond.fieldLink RX 9 "HashedNames" "hand" "[I" ∈ hn_tb := hn_in 16 (by decide +kernel) (by decide +kernel)
theorem mX_f_key : Cond.fieldLink RX 13 "HashedNames" "key" "[I" ∈ hn_tb := hn_in 17 (by decide +kernel) (by decide +kernel)
theorem mX_f_told : Cond.fieldLink RX 16 "HashedNames" "told" "[I" ∈ hn_tb := hn_in 18 (by decide +kernel) (by decide +kernel)
theorem mX_f_toldLength : Cond.fieldLink RX 19 "HashedNames" "toldLength" "I" ∈ hn_tb := hn_in 19 (by decide +kernel) (by decide +kernel)
theorem mX_f_words : Cond.fieldLink RX 23 "HashedNames" "words" "[I" ∈ hn_tb := hn_in 20 (by decide +kernel) (by decide +kernel)
theorem mX_f_lengths : Cond.fieldLink RX 26 "HashedNames" "lengths" "[I" ∈ hn_tb := hn_in 21 (by decide +kernel) (by decide +kernel)
theorem mX_f_ids : Cond.fieldLink RX 29 "HashedNames" "ids" "[I" ∈ hn_tb := hn_in 22 (by decide +kernel) (by decide +kernel)
theorem mX_f_counts : Cond.fieldLink RX 32 "HashedNames" "counts" "[I" ∈ hn_tb := hn_in 23 (by decide +kernel) (by decide +kernel)
theorem mX_f_bucketLinks : Cond.fieldLink RX 35 "HashedNames" "bucketLinks" "[I" ∈ hn_tb := hn_in 24 (by decide +kernel) (by decide +kernel)
theorem mX_f_orderLinks : Cond.fieldLink RX 38 "HashedNames" "orderLinks" "[I" ∈ hn_tb := hn_in 25 (by decide +kernel) (by decide +kernel)
theorem iM : ∀ w ∈ u_ws RM FM 8, w ∈ hn_tb := by decide +kernel
theorem mM_inst : Cond.instantiable RM 8 ∈ hn_tb := hn_in 255 (by decide +kernel) (by decide +kernel)
theorem mM_f_thrown : Cond.fieldLink RM 28 "HashedNamesModel" "thrown" "I" ∈ hn_tb := hn_in 260 (by decide +kernel) (by decide +kernel)
theorem mM_f_hand : Cond.fieldLink RM 7 "HashedNamesModel" "hand" "[I" ∈ hn_tb := hn_in 261 (by decide +kernel) (by decide +kernel)
theorem mM_f_many : Cond.fieldLink RM 13 "HashedNamesModel" "many" "[I" ∈ hn_tb := hn_in 262 (by decide +kernel) (by decide +kernel)
theorem mM_f_id : Cond.fieldLink RM 16 "HashedNamesModel" "id" "[I" ∈ hn_tb := hn_in 263 (by decide +kernel) (by decide +kernel)
theorem mM_f_length : Cond.fieldLink RM 19 "HashedNamesModel" "length" "[I" ∈ hn_tb := hn_in 264 (by decide +kernel) (by decide +kernel)
theorem mM_f_bytes : Cond.fieldLink RM 22 "HashedNamesModel" "bytes" "[I" ∈ hn_tb := hn_in 265 (by decide +kernel) (by decide +kernel)
theorem mM_f_told : Cond.fieldLink RM 25 "HashedNamesModel" "told" "[I" ∈ hn_tb := hn_in 266 (by decide +kernel) (by decide +kernel)
theorem mM_f_toldLength : Cond.fieldLink RM 62 "HashedNamesModel" "toldLength" "I" ∈ hn_tb := hn_in 267 (by decide +kernel) (by decide +kernel)
theorem mL_c_8 : Cond.classLink RL 8 RX ∈ hn_tb := hn_in 8 (by decide +kernel) (by decide +kernel)
theorem mA_int : Cond.arrayClass .int ∈ hn_tb := hn_in 47 (by decide +kernel) (by decide +kernel)
theorem mL_c_13 : Cond.classLink RL 13 "java/lang/IllegalArgumentException" ∈ hn_tb := hn_in 55 (by decide +kernel) (by decide +kernel)
theorem mL_c_15 : Cond.classLink RL 15 "java/lang/IllegalStateException" ∈ hn_tb := hn_in 56 (by decide +kernel) (by decide +kernel)
theorem mX_c_91 : Cond.classLink RX 91 "java/lang/IllegalArgumentException" ∈ hn_tb := hn_in 64 (by decide +kernel) (by decide +kernel)
theorem mA_byte : Cond.arrayClass .byte ∈ hn_tb := hn_in 130 (by decide +kernel) (by decide +kernel)
theorem mX_k_65535 : Cond.constant RX 108 (65535) ∈ hn_tb := hn_in 134 (by decide +kernel) (by decide +kernel)
theorem mX_k_m1640531535 : Cond.constant RX 118 (-1640531535) ∈ hn_tb := hn_in 156 (by decide +kernel) (by decide +kernel)
theorem mX_k_m2147483648 : Cond.constant RX 125 (-2147483648) ∈ hn_tb := hn_in 168 (by decide +kernel) (by decide +kernel)
theorem mX_c_59 : Cond.classLink RX 59 "java/lang/IllegalStateException" ∈ hn_tb := hn_in 169 (by decide +kernel) (by decide +kernel)
theorem mL_c_38 : Cond.classLink RL 38 RM ∈ hn_tb := hn_in 254 (by decide +kernel) (by decide +kernel)
theorem mM_k_65536 : Cond.constant RM 36 (65536) ∈ hn_tb := hn_in 307 (by decide +kernel) (by decide +kernel)
theorem mA_long : Cond.arrayClass .long ∈ hn_tb := hn_in 352 (by decide +kernel) (by decide +kernel)
theorem mI_arg : Cond.initialized "java/lang/IllegalArgumentException" ∈ hn_tb := hn_in 6 (by decide +kernel) (by decide +kernel)
theorem mI_st : Cond.initialized "java/lang/IllegalStateException" ∈ hn_tb := hn_in 7 (by decide +kernel) (by decide +kernel)
theorem mO_im : Cond.instanceMethod objectInit ∈ hn_tb := hn_in 14 (by decide +kernel) (by decide +kernel)
theorem mO_code : Cond.code objectInit ⟨#[0xb1]⟩ 1 none ∈ hn_tb := hn_in 15 (by decide +kernel) (by decide +kernel)
abbrev cX_init : ByteArray := prog_1_method_1_code
def yX_init : MethodName := ⟨RX, "<init>", "()V"⟩
def wX_init : List Cond := .code yX_init cX_init 2 none :: hn_tb
theorem mX_code_init : Cond.code yX_init cX_init 2 none ∈ hn_tb := hn_in 12 (by decide +kernel) (by decide +kernel)
abbrev cX_say : ByteArray := prog_1_method_2_code
def yX_say : MethodName := ⟨RX, "say", "(IIIII)V"⟩
def wX_say : List Cond := .code yX_say cX_say 6 none :: hn_tb
theorem mX_code_say : Cond.code yX_say cX_say 6 none ∈ hn_tb := hn_in 51 (by decide +kernel) (by decide +kernel)
abbrev cX_add : ByteArray := prog_1_method_3_code
def yX_add : MethodName := ⟨RX, "add", "(III)I"⟩
def wX_add : List Cond := .code yX_add cX_add 5 (some .int) :: hn_tb
theorem mX_code_add : Cond.code yX_add cX_add 5 (some .int) ∈ hn_tb := hn_in 60 (by decide +kernel) (by decide +kernel)
abbrev cX_find : ByteArray := prog_1_method_4_code
def yX_find : MethodName := ⟨RX, "find", "(II)I"⟩
def wX_find : List Cond := .code yX_find cX_find 4 (some .int) :: hn_tb
theorem mX_code_find : Cond.code yX_find cX_find 4 (some .int) ∈ hn_tb := hn_in 207 (by decide +kernel) (by decide +kernel)
abbrev cX_remove : ByteArray := prog_1_method_5_code
def yX_remove : MethodName := ⟨RX, "remove", "(II)I"⟩
def wX_remove : List Cond := .code yX_remove cX_remove 4 (some .int) :: hn_tb
theorem mX_code_remove : Cond.code yX_remove cX_remove 4 (some .int) ∈ hn_tb := hn_in 214 (by decide +kernel) (by decide +kernel)
abbrev cX_change : ByteArray := prog_1_method_6_code
def yX_change : MethodName := ⟨RX, "change", "(III)I"⟩
def wX_change : List Cond := .code yX_change cX_change 6 (some .int) :: hn_tb
theorem mX_code_change : Cond.code yX_change cX_change 6 (some .int) ∈ hn_tb := hn_in 226 (by decide +kernel) (by decide +kernel)
abbrev cX_size : ByteArray := prog_1_method_7_code
def yX_size : MethodName := ⟨RX, "size", "(I)I"⟩
def wX_size : List Cond := .code yX_size cX_size 2 (some .int) :: hn_tb
theorem mX_code_size : Cond.code yX_size cX_size 2 (some .int) ∈ hn_tb := hn_in 233 (by decide +kernel) (by decide +kernel)
abbrev cX_nth : ByteArray := prog_1_method_8_code
def yX_nth : MethodName := ⟨RX, "nth", "(II)I"⟩
def wX_nth : List Cond := .code yX_nth cX_nth 5 (some .int) :: hn_tb
theorem mX_code_nth : Cond.code yX_nth cX_nth 5 (some .int) ∈ hn_tb := hn_in 240 (by decide +kernel) (by decide +kernel)
abbrev cX_byteAt : ByteArray := prog_1_method_9_code
def yX_byteAt : MethodName := ⟨RX, "byteAt", "(I)I"⟩
def wX_byteAt : List Cond := .code yX_byteAt cX_byteAt 2 (some .int) :: hn_tb
theorem mX_code_byteAt : Cond.code yX_byteAt cX_byteAt 2 (some .int) ∈ hn_tb := hn_in 252 (by decide +kernel) (by decide +kernel)
abbrev cX_requireDirectory : ByteArray := prog_1_method_10_code
def yX_requireDirectory : MethodName := ⟨RX, "requireDirectory", "(I)V"⟩
def wX_requireDirectory : List Cond := .code yX_requireDirectory cX_requireDirectory 1 none :: hn_tb
theorem mX_code_requireDirectory : Cond.code yX_requireDirectory cX_requireDirectory 1 none ∈ hn_tb := hn_in 63 (by decide +kernel) (by decide +kernel)
abbrev cX_requireId : ByteArray := prog_1_method_11_code
def yX_requireId : MethodName := ⟨RX, "requireId", "(I)V"⟩
def wX_requireId : List Cond := .code yX_requireId cX_requireId 1 none :: hn_tb
theorem mX_code_requireId : Cond.code yX_requireId cX_requireId 1 none ∈ hn_tb := hn_in 133 (by decide +kernel) (by decide +kernel)
abbrev cX_takeKey : ByteArray := prog_1_method_12_code
def yX_takeKey : MethodName := ⟨RX, "takeKey", "(I)V"⟩
def wX_takeKey : List Cond := .code yX_takeKey cX_takeKey 4 none :: hn_tb
theorem mX_code_takeKey : Cond.code yX_takeKey cX_takeKey 4 none ∈ hn_tb := hn_in 139 (by decide +kernel) (by decide +kernel)
abbrev cX_maskOfFirst : ByteArray := prog_1_method_13_code
def yX_maskOfFirst : MethodName := ⟨RX, "maskOfFirst", "(I)I"⟩
def wX_maskOfFirst : List Cond := .code yX_maskOfFirst cX_maskOfFirst 1 (some .int) :: hn_tb
theorem mX_code_maskOfFirst : Cond.code yX_maskOfFirst cX_maskOfFirst 1 (some .int) ∈ hn_tb := hn_in 147 (by decide +kernel) (by decide +kernel)
abbrev cX_byteOf : ByteArray := prog_1_method_14_code
def yX_byteOf : MethodName := ⟨RX, "byteOf", "([II)I"⟩
def wX_byteOf : List Cond := .code yX_byteOf cX_byteOf 2 (some .int) :: hn_tb
theorem mX_code_byteOf : Cond.code yX_byteOf cX_byteOf 2 (some .int) ∈ hn_tb := hn_in 143 (by decide +kernel) (by decide +kernel)
abbrev cX_isSlot : ByteArray := prog_1_method_15_code
def yX_isSlot : MethodName := ⟨RX, "isSlot", "(I)Z"⟩
def wX_isSlot : List Cond := .code yX_isSlot cX_isSlot 1 (some .boolean) :: hn_tb
theorem mX_code_isSlot : Cond.code yX_isSlot cX_isSlot 1 (some .boolean) ∈ hn_tb := hn_in 163 (by decide +kernel) (by decide +kernel)
abbrev cX_orderHead : ByteArray := prog_1_method_16_code
def yX_orderHead : MethodName := ⟨RX, "orderHead", "(I)I"⟩
def wX_orderHead : List Cond := .code yX_orderHead cX_orderHead 1 (some .int) :: hn_tb
theorem mX_code_orderHead : Cond.code yX_orderHead cX_orderHead 1 (some .int) ∈ hn_tb := hn_in 200 (by decide +kernel) (by decide +kernel)
abbrev cX_bucketHead : ByteArray := prog_1_method_17_code
def yX_bucketHead : MethodName := ⟨RX, "bucketHead", "(I)I"⟩
def wX_bucketHead : List Cond := .code yX_bucketHead cX_bucketHead 4 (some .int) :: hn_tb
theorem mX_code_bucketHead : Cond.code yX_bucketHead cX_bucketHead 4 (some .int) ∈ hn_tb := hn_in 155 (by decide +kernel) (by decide +kernel)
abbrev cX_slotOfKey : ByteArray := prog_1_method_18_code
def yX_slotOfKey : MethodName := ⟨RX, "slotOfKey", "(I)I"⟩
def wX_slotOfKey : List Cond := .code yX_slotOfKey cX_slotOfKey 3 (some .int) :: hn_tb
theorem mX_code_slotOfKey : Cond.code yX_slotOfKey cX_slotOfKey 3 (some .int) ∈ hn_tb := hn_in 151 (by decide +kernel) (by decide +kernel)
abbrev cX_placeBeforeKey : ByteArray := prog_1_method_19_code
def yX_placeBeforeKey : MethodName := ⟨RX, "placeBeforeKey", "([II)I"⟩
def wX_placeBeforeKey : List Cond := .code yX_placeBeforeKey cX_placeBeforeKey 6 (some .int) :: hn_tb
theorem mX_code_placeBeforeKey : Cond.code yX_placeBeforeKey cX_placeBeforeKey 6 (some .int) ∈ hn_tb := hn_in 160 (by decide +kernel) (by decide +kernel)
abbrev cX_compareWithKey : ByteArray := prog_1_method_20_code
def yX_compareWithKey : MethodName := ⟨RX, "compareWithKey", "(I)I"⟩
def wX_compareWithKey : List Cond := .code yX_compareWithKey cX_compareWithKey 4 (some .int) :: hn_tb
theorem mX_code_compareWithKey : Cond.code yX_compareWithKey cX_compareWithKey 4 (some .int) ∈ hn_tb := hn_in 167 (by decide +kernel) (by decide +kernel)
abbrev cX_freeSlot : ByteArray := prog_1_method_21_code
def yX_freeSlot : MethodName := ⟨RX, "freeSlot", "(I)I"⟩
def wX_freeSlot : List Cond := .code yX_freeSlot cX_freeSlot 4 (some .int) :: hn_tb
theorem mX_code_freeSlot : Cond.code yX_freeSlot cX_freeSlot 4 (some .int) ∈ hn_tb := hn_in 188 (by decide +kernel) (by decide +kernel)
abbrev cX_keepKey : ByteArray := prog_1_method_22_code
def yX_keepKey : MethodName := ⟨RX, "keepKey", "(II)V"⟩
def wX_keepKey : List Cond := .code yX_keepKey cX_keepKey 4 none :: hn_tb
theorem mX_code_keepKey : Cond.code yX_keepKey cX_keepKey 4 none ∈ hn_tb := hn_in 193 (by decide +kernel) (by decide +kernel)
abbrev cX_link : ByteArray := prog_1_method_23_code
def yX_link : MethodName := ⟨RX, "link", "([III)V"⟩
def wX_link : List Cond := .code yX_link cX_link 5 none :: hn_tb
theorem mX_code_link : Cond.code yX_link cX_link 5 none ∈ hn_tb := hn_in 197 (by decide +kernel) (by decide +kernel)
abbrev cX_unlinkKey : ByteArray := prog_1_method_24_code
def yX_unlinkKey : MethodName := ⟨RX, "unlinkKey", "([II)V"⟩
def wX_unlinkKey : List Cond := .code yX_unlinkKey cX_unlinkKey 5 none :: hn_tb
theorem mX_code_unlinkKey : Cond.code yX_unlinkKey cX_unlinkKey 5 none ∈ hn_tb := hn_in 219 (by decide +kernel) (by decide +kernel)
abbrev cX_slotInOrder : ByteArray := prog_1_method_25_code
def yX_slotInOrder : MethodName := ⟨RX, "slotInOrder", "(II)I"⟩
def wX_slotInOrder : List Cond := .code yX_slotInOrder cX_slotInOrder 5 (some .int) :: hn_tb
theorem mX_code_slotInOrder : Cond.code yX_slotInOrder cX_slotInOrder 5 (some .int) ∈ hn_tb := hn_in 245 (by decide +kernel) (by decide +kernel)
abbrev cM_init : ByteArray := prog_3_method_1_code
def yM_init : MethodName := ⟨RM, "<init>", "()V"⟩
def wM_init : List Cond := .code yM_init cM_init 1 none :: hn_tb
theorem mM_code_init : Cond.code yM_init cM_init 1 none ∈ hn_tb := hn_in 258 (by decide +kernel) (by decide +kernel)
abbrev cM_thrown : ByteArray := prog_3_method_2_code
def yM_thrown : MethodName := ⟨RM, "thrown", "()I"⟩
def wM_thrown : List Cond := .code yM_thrown cM_thrown 1 (some .int) :: hn_tb
theorem mM_code_thrown : Cond.code yM_thrown cM_thrown 1 (some .int) ∈ hn_tb := hn_in 288 (by decide +kernel) (by decide +kernel)
abbrev cM_throwing : ByteArray := prog_3_method_3_code
def yM_throwing : MethodName := ⟨RM, "throwing", "(ZZ)Z"⟩
def wM_throwing : List Cond := .code yM_throwing cM_throwing 3 (some .boolean) :: hn_tb
theorem mM_code_throwing : Cond.code yM_throwing cM_throwing 3 (some .boolean) ∈ hn_tb := hn_in 323 (by decide +kernel) (by decide +kernel)
abbrev cM_say : ByteArray := prog_3_method_4_code
def yM_say : MethodName := ⟨RM, "say", "(IIIII)V"⟩
def wM_say : List Cond := .code yM_say cM_say 8 none :: hn_tb
theorem mM_code_say : Cond.code yM_say cM_say 8 none ∈ hn_tb := hn_in 292 (by decide +kernel) (by decide +kernel)
abbrev cM_isDirectory : ByteArray := prog_3_method_5_code
def yM_isDirectory : MethodName := ⟨RM, "isDirectory", "(I)Z"⟩
def wM_isDirectory : List Cond := .code yM_isDirectory cM_isDirectory 1 (some .boolean) :: hn_tb
theorem mM_code_isDirectory : Cond.code yM_isDirectory cM_isDirectory 1 (some .boolean) ∈ hn_tb := hn_in 299 (by decide +kernel) (by decide +kernel)
abbrev cM_isName : ByteArray := prog_3_method_6_code
def yM_isName : MethodName := ⟨RM, "isName", "(I)Z"⟩
def wM_isName : List Cond := .code yM_isName cM_isName 4 (some .boolean) :: hn_tb
theorem mM_code_isName : Cond.code yM_isName cM_isName 4 (some .boolean) ∈ hn_tb := hn_in 303 (by decide +kernel) (by decide +kernel)
abbrev cM_compare : ByteArray := prog_3_method_7_code
def yM_compare : MethodName := ⟨RM, "compare", "(II)I"⟩
def wM_compare : List Cond := .code yM_compare cM_compare 5 (some .int) :: hn_tb
theorem mM_code_compare : Cond.code yM_compare cM_compare 5 (some .int) ∈ hn_tb := hn_in 315 (by decide +kernel) (by decide +kernel)
abbrev cM_place : ByteArray := prog_3_method_8_code
def yM_place : MethodName := ⟨RM, "place", "(II)I"⟩
def wM_place : List Cond := .code yM_place cM_place 4 (some .int) :: hn_tb
theorem mM_code_place : Cond.code yM_place cM_place 4 (some .int) ∈ hn_tb := hn_in 311 (by decide +kernel) (by decide +kernel)
abbrev cM_isAt : ByteArray := prog_3_method_9_code
def yM_isAt : MethodName := ⟨RM, "isAt", "(III)Z"⟩
def wM_isAt : List Cond := .code yM_isAt cM_isAt 4 (some .boolean) :: hn_tb
theorem mM_code_isAt : Cond.code yM_isAt cM_isAt 4 (some .boolean) ∈ hn_tb := hn_in 319 (by decide +kernel) (by decide +kernel)
abbrev cM_move : ByteArray := prog_3_method_10_code
def yM_move : MethodName := ⟨RM, "move", "(II)V"⟩
def wM_move : List Cond := .code yM_move cM_move 4 none :: hn_tb
theorem mM_code_move : Cond.code yM_move cM_move 4 none ∈ hn_tb := hn_in 327 (by decide +kernel) (by decide +kernel)
abbrev cM_isId : ByteArray := prog_3_method_11_code
def yM_isId : MethodName := ⟨RM, "isId", "(I)Z"⟩
def wM_isId : List Cond := .code yM_isId cM_isId 1 (some .boolean) :: hn_tb
theorem mM_code_isId : Cond.code yM_isId cM_isId 1 (some .boolean) ∈ hn_tb := hn_in 306 (by decide +kernel) (by decide +kernel)
abbrev cM_add : ByteArray := prog_3_method_12_code
def yM_add : MethodName := ⟨RM, "add", "(III)I"⟩
def wM_add : List Cond := .code yM_add cM_add 7 (some .int) :: hn_tb
theorem mM_code_add : Cond.code yM_add cM_add 7 (some .int) ∈ hn_tb := hn_in 296 (by decide +kernel) (by decide +kernel)
abbrev cM_find : ByteArray := prog_3_method_13_code
def yM_find : MethodName := ⟨RM, "find", "(II)I"⟩
def wM_find : List Cond := .code yM_find cM_find 4 (some .int) :: hn_tb
theorem mM_code_find : Cond.code yM_find cM_find 4 (some .int) ∈ hn_tb := hn_in 331 (by decide +kernel) (by decide +kernel)
abbrev cM_remove : ByteArray := prog_3_method_14_code
def yM_remove : MethodName := ⟨RM, "remove", "(II)I"⟩
def wM_remove : List Cond := .code yM_remove cM_remove 7 (some .int) :: hn_tb
theorem mM_code_remove : Cond.code yM_remove cM_remove 7 (some .int) ∈ hn_tb := hn_in 335 (by decide +kernel) (by decide +kernel)
abbrev cM_change : ByteArray := prog_3_method_15_code
def yM_change : MethodName := ⟨RM, "change", "(III)I"⟩
def wM_change : List Cond := .code yM_change cM_change 7 (some .int) :: hn_tb
theorem mM_code_change : Cond.code yM_change cM_change 7 (some .int) ∈ hn_tb := hn_in 339 (by decide +kernel) (by decide +kernel)
abbrev cM_size : ByteArray := prog_3_method_16_code
def yM_size : MethodName := ⟨RM, "size", "(I)I"⟩
def wM_size : List Cond := .code yM_size cM_size 2 (some .int) :: hn_tb
theorem mM_code_size : Cond.code yM_size cM_size 2 (some .int) ∈ hn_tb := hn_in 343 (by decide +kernel) (by decide +kernel)
abbrev cM_nth : ByteArray := prog_3_method_17_code
def yM_nth : MethodName := ⟨RM, "nth", "(II)I"⟩
def wM_nth : List Cond := .code yM_nth cM_nth 4 (some .int) :: hn_tb
theorem mM_code_nth : Cond.code yM_nth cM_nth 4 (some .int) ∈ hn_tb := hn_in 347 (by decide +kernel) (by decide +kernel)
abbrev cM_byteAt : ByteArray := prog_3_method_18_code
def yM_byteAt : MethodName := ⟨RM, "byteAt", "(I)I"⟩
def wM_byteAt : List Cond := .code yM_byteAt cM_byteAt 2 (some .int) :: hn_tb
theorem mM_code_byteAt : Cond.code yM_byteAt cM_byteAt 2 (some .int) ∈ hn_tb := hn_in 351 (by decide +kernel) (by decide +kernel)
abbrev cL_add : ByteArray := method_3_code
def yL_add : MethodName := ⟨RL, "add", "(LHashedNames;III[J)I"⟩
def wL_add : List Cond := .codeWith yL_add cL_add 6 (some .int) [(0, 12, 15, 13), (0, 12, 19, 15)] :: hn_tb
theorem mL_code_add : Cond.codeWith yL_add cL_add 6 (some .int) [(0, 12, 15, 13), (0, 12, 19, 15)] ∈ hn_tb := hn_in 54 (by decide +kernel) (by decide +kernel)
abbrev cL_find : ByteArray := method_4_code
def yL_find : MethodName := ⟨RL, "find", "(LHashedNames;II[J)I"⟩
def wL_find : List Cond := .codeWith yL_find cL_find 5 (some .int) [(0, 10, 13, 13)] :: hn_tb
theorem mL_code_find : Cond.codeWith yL_find cL_find 5 (some .int) [(0, 10, 13, 13)] ∈ hn_tb := hn_in 203 (by decide +kernel) (by decide +kernel)
abbrev cL_remove : ByteArray := method_5_code
def yL_remove : MethodName := ⟨RL, "remove", "(LHashedNames;II[J)I"⟩
def wL_remove : List Cond := .codeWith yL_remove cL_remove 5 (some .int) [(0, 10, 13, 13), (0, 10, 17, 15)] :: hn_tb
theorem mL_code_remove : Cond.codeWith yL_remove cL_remove 5 (some .int) [(0, 10, 13, 13), (0, 10, 17, 15)] ∈ hn_tb := hn_in 210 (by decide +kernel) (by decide +kernel)
abbrev cL_change : ByteArray := method_6_code
def yL_change : MethodName := ⟨RL, "change", "(LHashedNames;III[J)I"⟩
def wL_change : List Cond := .codeWith yL_change cL_change 6 (some .int) [(0, 12, 15, 13), (0, 12, 19, 15)] :: hn_tb
theorem mL_code_change : Cond.codeWith yL_change cL_change 6 (some .int) [(0, 12, 15, 13), (0, 12, 19, 15)] ∈ hn_tb := hn_in 222 (by decide +kernel) (by decide +kernel)
abbrev cL_size : ByteArray := method_7_code
def yL_size : MethodName := ⟨RL, "size", "(LHashedNames;I[J)I"⟩
def wL_size : List Cond := .codeWith yL_size cL_size 4 (some .int) [(0, 9, 12, 13)] :: hn_tb
theorem mL_code_size : Cond.codeWith yL_size cL_size 4 (some .int) [(0, 9, 12, 13)] ∈ hn_tb := hn_in 229 (by decide +kernel) (by decide +kernel)
abbrev cL_nth : ByteArray := method_8_code
def yL_nth : MethodName := ⟨RL, "nth", "(LHashedNames;II[J)I"⟩
def wL_nth : List Cond := .codeWith yL_nth cL_nth 5 (some .int) [(0, 10, 13, 13)] :: hn_tb
theorem mL_code_nth : Cond.codeWith yL_nth cL_nth 5 (some .int) [(0, 10, 13, 13)] ∈ hn_tb := hn_in 236 (by decide +kernel) (by decide +kernel)
abbrev cL_byteAt : ByteArray := method_9_code
def yL_byteAt : MethodName := ⟨RL, "byteAt", "(LHashedNames;I[J)I"⟩
def wL_byteAt : List Cond := .codeWith yL_byteAt cL_byteAt 4 (some .int) [(0, 9, 12, 13)] :: hn_tb
theorem mL_code_byteAt : Cond.codeWith yL_byteAt cL_byteAt 4 (some .int) [(0, 9, 12, 13)] ∈ hn_tb := hn_in 248 (by decide +kernel) (by decide +kernel)
abbrev cL_law : ByteArray := code
def yL_law : MethodName := ⟨RL, "law", "([I)Z"⟩
theorem mL_l_X_init : Cond.methodLink RL 37 yX_init ∈ hn_tb := hn_in 10 (by decide +kernel) (by decide +kernel)
theorem mX_im_init : Cond.instanceMethod yX_init ∈ hn_tb := hn_in 11 (by decide +kernel) (by decide +kernel)
theorem gL_X_init : GoodIn hn_tb wX_init := hn_gI mX_code_init
theorem mX_o_3 : Cond.methodLink RX 3 objectInit ∈ hn_tb := hn_in 13 (by decide +kernel) (by decide +kernel)
theorem mL_l_X_say : Cond.methodLink RL 41 yX_say ∈ hn_tb := hn_in 48 (by decide +kernel) (by decide +kernel)
theorem mX_im_say : Cond.instanceMethod yX_say ∈ hn_tb := hn_in 49 (by decide +kernel) (by decide +kernel)
theorem mX_sel_say : Cond.selects RX yX_say yX_say ∈ hn_tb := hn_in 50 (by decide +kernel) (by decide +kernel)
theorem gL_X_say : GoodIn hn_tb (wsV RL 41 RX yX_say wX_say) := hn_gV mL_l_X_say mX_im_say mX_sel_say mX_ini mX_code_say
theorem mL_l_L_add : Cond.methodLink RL 46 yL_add ∈ hn_tb := hn_in 52 (by decide +kernel) (by decide +kernel)
theorem mL_st_add : Cond.static yL_add ∈ hn_tb := hn_in 53 (by decide +kernel) (by decide +kernel)
theorem mL_l_X_add : Cond.methodLink RL 7 yX_add ∈ hn_tb := hn_in 57 (by decide +kernel) (by decide +kernel)
theorem mX_im_add : Cond.instanceMethod yX_add ∈ hn_tb := hn_in 58 (by decide +kernel) (by decide +kernel)
theorem mX_sel_add : Cond.selects RX yX_add yX_add ∈ hn_tb := hn_in 59 (by decide +kernel) (by decide +kernel)
theorem gL_X_add : GoodIn hn_tb (wsV RL 7 RX yX_add wX_add) := hn_gV mL_l_X_add mX_im_add mX_sel_add mX_ini mX_code_add
theorem mX_l_X_requireDirectory : Cond.methodLink RX 41 yX_requireDirectory ∈ hn_tb := hn_in 61 (by decide +kernel) (by decide +kernel)
theorem mX_st_requireDirectory : Cond.static yX_requireDirectory ∈ hn_tb := hn_in 62 (by decide +kernel) (by decide +kernel)
theorem gX_X_requireDirectory : GoodIn hn_tb (wsS RX 41 yX_requireDirectory wX_requireDirectory) := hn_gS mX_l_X_requireDirectory mX_st_requireDirectory mX_ini mX_code_requireDirectory
theorem mX_l_X_requireId : Cond.methodLink RX 45 yX_requireId ∈ hn_tb := hn_in 131 (by decide +kernel) (by decide +kernel)
theorem mX_st_requireId : Cond.static yX_requireId ∈ hn_tb := hn_in 132 (by decide +kernel) (by decide +kernel)
theorem gX_X_requireId : GoodIn hn_tb (wsS RX 45 yX_requireId wX_requireId) := hn_gS mX_l_X_requireId mX_st_requireId mX_ini mX_code_requireId
theorem mX_l_X_takeKey : Cond.methodLink RX 48 yX_takeKey ∈ hn_tb := hn_in 136 (by decide +kernel) (by decide +kernel)
theorem mX_im_takeKey : Cond.instanceMethod yX_takeKey ∈ hn_tb := hn_in 138 (by decide +kernel) (by decide +kernel)
theorem mX_sel_takeKey : Cond.selects RX yX_takeKey yX_takeKey ∈ hn_tb := hn_sel 1 (by decide +kernel) (by decide +kernel)
theorem gX_X_takeKey : GoodIn hn_tb (wsV RX 48 RX yX_takeKey wX_takeKey) := hn_gV mX_l_X_takeKey mX_im_takeKey mX_sel_takeKey mX_ini mX_code_takeKey
theorem mX_l_X_byteOf : Cond.methodLink RX 102 yX_byteOf ∈ hn_tb := hn_in 141 (by decide +kernel) (by decide +kernel)
theorem mX_st_byteOf : Cond.static yX_byteOf ∈ hn_tb := hn_in 142 (by decide +kernel) (by decide +kernel)
theorem gX_X_byteOf : GoodIn hn_tb (wsS RX 102 yX_byteOf wX_byteOf) := hn_gS mX_l_X_byteOf mX_st_byteOf mX_ini mX_code_byteOf
theorem mX_l_X_maskOfFirst : Cond.methodLink RX 115 yX_maskOfFirst ∈ hn_tb := hn_in 145 (by decide +kernel) (by decide +kernel)
theorem mX_st_maskOfFirst : Cond.static yX_maskOfFirst ∈ hn_tb := hn_in 146 (by decide +kernel) (by decide +kernel)
theorem gX_X_maskOfFirst : GoodIn hn_tb (wsS RX 115 yX_maskOfFirst wX_maskOfFirst) := hn_gS mX_l_X_maskOfFirst mX_st_maskOfFirst mX_ini mX_code_maskOfFirst
theorem mX_l_X_slotOfKey : Cond.methodLink RX 51 yX_slotOfKey ∈ hn_tb := hn_in 148 (by decide +kernel) (by decide +kernel)
theorem mX_im_slotOfKey : Cond.instanceMethod yX_slotOfKey ∈ hn_tb := hn_in 150 (by decide +kernel) (by decide +kernel)
theorem mX_sel_slotOfKey : Cond.selects RX yX_slotOfKey yX_slotOfKey ∈ hn_tb := hn_sel 2 (by decide +kernel) (by decide +kernel)
theorem gX_X_slotOfKey : GoodIn hn_tb (wsV RX 51 RX yX_slotOfKey wX_slotOfKey) := hn_gV mX_l_X_slotOfKey mX_im_slotOfKey mX_sel_slotOfKey mX_ini mX_code_slotOfKey
theorem mX_l_X_bucketHead : Cond.methodLink RX 75 yX_bucketHead ∈ hn_tb := hn_in 152 (by decide +kernel) (by decide +kernel)
theorem mX_im_bucketHead : Cond.instanceMethod yX_bucketHead ∈ hn_tb := hn_in 154 (by decide +kernel) (by decide +kernel)
theorem mX_sel_bucketHead : Cond.selects RX yX_bucketHead yX_bucketHead ∈ hn_tb := hn_sel 3 (by decide +kernel) (by decide +kernel)
theorem gX_X_bucketHead : GoodIn hn_tb (wsV RX 75 RX yX_bucketHead wX_bucketHead) := hn_gV mX_l_X_bucketHead mX_im_bucketHead mX_sel_bucketHead mX_ini mX_code_bucketHead
theorem mX_l_X_placeBeforeKey : Cond.methodLink RX 119 yX_placeBeforeKey ∈ hn_tb := hn_in 157 (by decide +kernel) (by decide +kernel)
theorem mX_im_placeBeforeKey : Cond.instanceMethod yX_placeBeforeKey ∈ hn_tb := hn_in 159 (by decide +kernel) (by decide +kernel)
theorem mX_sel_placeBeforeKey : Cond.selects RX yX_placeBeforeKey yX_placeBeforeKey ∈ hn_tb := hn_sel 4 (by decide +kernel) (by decide +kernel)
theorem gX_X_placeBeforeKey : GoodIn hn_tb (wsV RX 119 RX yX_placeBeforeKey wX_placeBeforeKey) := hn_gV mX_l_X_placeBeforeKey mX_im_placeBeforeKey mX_sel_placeBeforeKey mX_ini mX_code_placeBeforeKey
theorem mX_l_X_isSlot : Cond.methodLink RX 55 yX_isSlot ∈ hn_tb := hn_in 161 (by decide +kernel) (by decide +kernel)
theorem mX_st_isSlot : Cond.static yX_isSlot ∈ hn_tb := hn_in 162 (by decide +kernel) (by decide +kernel)
theorem gX_X_isSlot : GoodIn hn_tb (wsS RX 55 yX_isSlot wX_isSlot) := hn_gS mX_l_X_isSlot mX_st_isSlot mX_ini mX_code_isSlot
theorem mX_l_X_compareWithKey : Cond.methodLink RX 122 yX_compareWithKey ∈ hn_tb := hn_in 164 (by decide +kernel) (by decide +kernel)
theorem mX_im_compareWithKey : Cond.instanceMethod yX_compareWithKey ∈ hn_tb := hn_in 166 (by decide +kernel) (by decide +kernel)
theorem mX_sel_compareWithKey : Cond.selects RX yX_compareWithKey yX_compareWithKey ∈ hn_tb := hn_sel 5 (by decide +kernel) (by decide +kernel)
theorem gX_X_compareWithKey : GoodIn hn_tb (wsV RX 122 RX yX_compareWithKey wX_compareWithKey) := hn_gV mX_l_X_compareWithKey mX_im_compareWithKey mX_sel_compareWithKey mX_ini mX_code_compareWithKey
theorem mX_l_X_freeSlot : Cond.methodLink RX 66 yX_freeSlot ∈ hn_tb := hn_in 185 (by decide +kernel) (by decide +kernel)
theorem mX_im_freeSlot : Cond.instanceMethod yX_freeSlot ∈ hn_tb := hn_in 187 (by decide +kernel) (by decide +kernel)
theorem mX_sel_freeSlot : Cond.selects RX yX_freeSlot yX_freeSlot ∈ hn_tb := hn_sel 6 (by decide +kernel) (by decide +kernel)
theorem gX_X_freeSlot : GoodIn hn_tb (wsV RX 66 RX yX_freeSlot wX_freeSlot) := hn_gV mX_l_X_freeSlot mX_im_freeSlot mX_sel_freeSlot mX_ini mX_code_freeSlot
theorem mX_l_X_keepKey : Cond.methodLink RX 71 yX_keepKey ∈ hn_tb := hn_in 190 (by decide +kernel) (by decide +kernel)
theorem mX_im_keepKey : Cond.instanceMethod yX_keepKey ∈ hn_tb := hn_in 192 (by decide +kernel) (by decide +kernel)
theorem mX_sel_keepKey : Cond.selects RX yX_keepKey yX_keepKey ∈ hn_tb := hn_sel 7 (by decide +kernel) (by decide +kernel)
theorem gX_X_keepKey : GoodIn hn_tb (wsV RX 71 RX yX_keepKey wX_keepKey) := hn_gV mX_l_X_keepKey mX_im_keepKey mX_sel_keepKey mX_ini mX_code_keepKey
theorem mX_l_X_link : Cond.methodLink RX 78 yX_link ∈ hn_tb := hn_in 194 (by decide +kernel) (by decide +kernel)
theorem mX_im_link : Cond.instanceMethod yX_link ∈ hn_tb := hn_in 196 (by decide +kernel) (by decide +kernel)
theorem mX_sel_link : Cond.selects RX yX_link yX_link ∈ hn_tb := hn_sel 8 (by decide +kernel) (by decide +kernel)
theorem gX_X_link : GoodIn hn_tb (wsV RX 78 RX yX_link wX_link) := hn_gV mX_l_X_link mX_im_link mX_sel_link mX_ini mX_code_link
theorem mX_l_X_orderHead : Cond.methodLink RX 82 yX_orderHead ∈ hn_tb := hn_in 198 (by decide +kernel) (by decide +kernel)
theorem mX_st_orderHead : Cond.static yX_orderHead ∈ hn_tb := hn_in 199 (by decide +kernel) (by decide +kernel)
theorem gX_X_orderHead : GoodIn hn_tb (wsS RX 82 yX_orderHead wX_orderHead) := hn_gS mX_l_X_orderHead mX_st_orderHead mX_ini mX_code_orderHead
theorem mL_l_L_find : Cond.methodLink RL 56 yL_find ∈ hn_tb := hn_in 201 (by decide +kernel) (by decide +kernel)
theorem mL_st_find : Cond.static yL_find ∈ hn_tb := hn_in 202 (by decide +kernel) (by decide +kernel)
theorem mL_l_X_find : Cond.methodLink RL 17 yX_find ∈ hn_tb := hn_in 204 (by decide +kernel) (by decide +kernel)
theorem mX_im_find : Cond.instanceMethod yX_find ∈ hn_tb := hn_in 205 (by decide +kernel) (by decide +kernel)
theorem mX_sel_find : Cond.selects RX yX_find yX_find ∈ hn_tb := hn_in 206 (by decide +kernel) (by decide +kernel)
theorem gL_X_find : GoodIn hn_tb (wsV RL 17 RX yX_find wX_find) := hn_gV mL_l_X_find mX_im_find mX_sel_find mX_ini mX_code_find
theorem mL_l_L_remove : Cond.methodLink RL 60 yL_remove ∈ hn_tb := hn_in 208 (by decide +kernel) (by decide +kernel)
theorem mL_st_remove : Cond.static yL_remove ∈ hn_tb := hn_in 209 (by decide +kernel) (by decide +kernel)
theorem mL_l_X_remove : Cond.methodLink RL 21 yX_remove ∈ hn_tb := hn_in 211 (by decide +kernel) (by decide +kernel)
theorem mX_im_remove : Cond.instanceMethod yX_remove ∈ hn_tb := hn_in 212 (by decide +kernel) (by decide +kernel)
theorem mX_sel_remove : Cond.selects RX yX_remove yX_remove ∈ hn_tb := hn_in 213 (by decide +kernel) (by decide +kernel)
theorem gL_X_remove : GoodIn hn_tb (wsV RL 21 RX yX_remove wX_remove) := hn_gV mL_l_X_remove mX_im_remove mX_sel_remove mX_ini mX_code_remove
theorem mX_l_X_unlinkKey : Cond.methodLink RX 87 yX_unlinkKey ∈ hn_tb := hn_in 216 (by decide +kernel) (by decide +kernel)
theorem mX_im_unlinkKey : Cond.instanceMethod yX_unlinkKey ∈ hn_tb := hn_in 218 (by decide +kernel) (by decide +kernel)
theorem mX_sel_unlinkKey : Cond.selects RX yX_unlinkKey yX_unlinkKey ∈ hn_tb := hn_sel 9 (by decide +kernel) (by decide +kernel)
theorem gX_X_unlinkKey : GoodIn hn_tb (wsV RX 87 RX yX_unlinkKey wX_unlinkKey) := hn_gV mX_l_X_unlinkKey mX_im_unlinkKey mX_sel_unlinkKey mX_ini mX_code_unlinkKey
theorem mL_l_L_change : Cond.methodLink RL 63 yL_change ∈ hn_tb := hn_in 220 (by decide +kernel) (by decide +kernel)
theorem mL_st_change : Cond.static yL_change ∈ hn_tb := hn_in 221 (by decide +kernel) (by decide +kernel)
theorem mL_l_X_change : Cond.methodLink RL 24 yX_change ∈ hn_tb := hn_in 223 (by decide +kernel) (by decide +kernel)
theorem mX_im_change : Cond.instanceMethod yX_change ∈ hn_tb := hn_in 224 (by decide +kernel) (by decide +kernel)
theorem mX_sel_change : Cond.selects RX yX_change yX_change ∈ hn_tb := hn_in 225 (by decide +kernel) (by decide +kernel)
theorem gL_X_change : GoodIn hn_tb (wsV RL 24 RX yX_change wX_change) := hn_gV mL_l_X_change mX_im_change mX_sel_change mX_ini mX_code_change
theorem mL_l_L_size : Cond.methodLink RL 66 yL_size ∈ hn_tb := hn_in 227 (by decide +kernel) (by decide +kernel)
theorem mL_st_size : Cond.static yL_size ∈ hn_tb := hn_in 228 (by decide +kernel) (by decide +kernel)
theorem mL_l_X_size : Cond.methodLink RL 27 yX_size ∈ hn_tb := hn_in 230 (by decide +kernel) (by decide +kernel)
theorem mX_im_size : Cond.instanceMethod yX_size ∈ hn_tb := hn_in 231 (by decide +kernel) (by decide +kernel)
theorem mX_sel_size : Cond.selects RX yX_size yX_size ∈ hn_tb := hn_in 232 (by decide +kernel) (by decide +kernel)
theorem gL_X_size : GoodIn hn_tb (wsV RL 27 RX yX_size wX_size) := hn_gV mL_l_X_size mX_im_size mX_sel_size mX_ini mX_code_size
theorem mL_l_L_nth : Cond.methodLink RL 70 yL_nth ∈ hn_tb := hn_in 234 (by decide +kernel) (by decide +kernel)
theorem mL_st_nth : Cond.static yL_nth ∈ hn_tb := hn_in 235 (by decide +kernel) (by decide +kernel)
theorem mL_l_X_nth : Cond.methodLink RL 31 yX_nth ∈ hn_tb := hn_in 237 (by decide +kernel) (by decide +kernel)
theorem mX_im_nth : Cond.instanceMethod yX_nth ∈ hn_tb := hn_in 238 (by decide +kernel) (by decide +kernel)
theorem mX_sel_nth : Cond.selects RX yX_nth yX_nth ∈ hn_tb := hn_in 239 (by decide +kernel) (by decide +kernel)
theorem gL_X_nth : GoodIn hn_tb (wsV RL 31 RX yX_nth wX_nth) := hn_gV mL_l_X_nth mX_im_nth mX_sel_nth mX_ini mX_code_nth
theorem mX_l_X_slotInOrder : Cond.methodLink RX 96 yX_slotInOrder ∈ hn_tb := hn_in 242 (by decide +kernel) (by decide +kernel)
theorem mX_im_slotInOrder : Cond.instanceMethod yX_slotInOrder ∈ hn_tb := hn_in 244 (by decide +kernel) (by decide +kernel)
theorem mX_sel_slotInOrder : Cond.selects RX yX_slotInOrder yX_slotInOrder ∈ hn_tb := hn_sel 10 (by decide +kernel) (by decide +kernel)
theorem gX_X_slotInOrder : GoodIn hn_tb (wsV RX 96 RX yX_slotInOrder wX_slotInOrder) := hn_gV mX_l_X_slotInOrder mX_im_slotInOrder mX_sel_slotInOrder mX_ini mX_code_slotInOrder
theorem mL_l_L_byteAt : Cond.methodLink RL 73 yL_byteAt ∈ hn_tb := hn_in 246 (by decide +kernel) (by decide +kernel)
theorem mL_st_byteAt : Cond.static yL_byteAt ∈ hn_tb := hn_in 247 (by decide +kernel) (by decide +kernel)
theorem mL_l_X_byteAt : Cond.methodLink RL 34 yX_byteAt ∈ hn_tb := hn_in 249 (by decide +kernel) (by decide +kernel)
theorem mX_im_byteAt : Cond.instanceMethod yX_byteAt ∈ hn_tb := hn_in 250 (by decide +kernel) (by decide +kernel)
theorem mX_sel_byteAt : Cond.selects RX yX_byteAt yX_byteAt ∈ hn_tb := hn_in 251 (by decide +kernel) (by decide +kernel)
theorem gL_X_byteAt : GoodIn hn_tb (wsV RL 34 RX yX_byteAt wX_byteAt) := hn_gV mL_l_X_byteAt mX_im_byteAt mX_sel_byteAt mX_ini mX_code_byteAt
theorem mL_l_M_init : Cond.methodLink RL 40 yM_init ∈ hn_tb := hn_in 256 (by decide +kernel) (by decide +kernel)
theorem mM_im_init : Cond.instanceMethod yM_init ∈ hn_tb := hn_in 257 (by decide +kernel) (by decide +kernel)
theorem gL_M_init : GoodIn hn_tb wM_init := hn_gI mM_code_init
theorem mM_o_1 : Cond.methodLink RM 1 objectInit ∈ hn_tb := hn_in 259 (by decide +kernel) (by decide +kernel)
theorem mL_l_M_thrown : Cond.methodLink RL 52 yM_thrown ∈ hn_tb := hn_in 285 (by decide +kernel) (by decide +kernel)
theorem mM_im_thrown : Cond.instanceMethod yM_thrown ∈ hn_tb := hn_in 286 (by decide +kernel) (by decide +kernel)
theorem mM_sel_thrown : Cond.selects RM yM_thrown yM_thrown ∈ hn_tb := hn_in 287 (by decide +kernel) (by decide +kernel)
theorem gL_M_thrown : GoodIn hn_tb (wsV RL 52 RM yM_thrown wM_thrown) := hn_gV mL_l_M_thrown mM_im_thrown mM_sel_thrown mM_ini mM_code_thrown
theorem mL_l_M_say : Cond.methodLink RL 45 yM_say ∈ hn_tb := hn_in 289 (by decide +kernel) (by decide +kernel)
theorem mM_im_say : Cond.instanceMethod yM_say ∈ hn_tb := hn_in 290 (by decide +kernel) (by decide +kernel)
theorem mM_sel_say : Cond.selects RM yM_say yM_say ∈ hn_tb := hn_in 291 (by decide +kernel) (by decide +kernel)
theorem gL_M_say : GoodIn hn_tb (wsV RL 45 RM yM_say wM_say) := hn_gV mL_l_M_say mM_im_say mM_sel_say mM_ini mM_code_say
theorem mL_l_M_add : Cond.methodLink RL 51 yM_add ∈ hn_tb := hn_in 293 (by decide +kernel) (by decide +kernel)
theorem mM_im_add : Cond.instanceMethod yM_add ∈ hn_tb := hn_in 294 (by decide +kernel) (by decide +kernel)
theorem mM_sel_add : Cond.selects RM yM_add yM_add ∈ hn_tb := hn_in 295 (by decide +kernel) (by decide +kernel)
theorem gL_M_add : GoodIn hn_tb (wsV RL 51 RM yM_add wM_add) := hn_gV mL_l_M_add mM_im_add mM_sel_add mM_ini mM_code_add
theorem mM_l_M_isDirectory : Cond.methodLink RM 37 yM_isDirectory ∈ hn_tb := hn_in 297 (by decide +kernel) (by decide +kernel)
theorem mM_st_isDirectory : Cond.static yM_isDirectory ∈ hn_tb := hn_in 298 (by decide +kernel) (by decide +kernel)
theorem gM_M_isDirectory : GoodIn hn_tb (wsS RM 37 yM_isDirectory wM_isDirectory) := hn_gS mM_l_M_isDirectory mM_st_isDirectory mM_ini mM_code_isDirectory
theorem mM_l_M_isName : Cond.methodLink RM 41 yM_isName ∈ hn_tb := hn_in 300 (by decide +kernel) (by decide +kernel)
theorem mM_im_isName : Cond.instanceMethod yM_isName ∈ hn_tb := hn_in 302 (by decide +kernel) (by decide +kernel)
theorem mM_sel_isName : Cond.selects RM yM_isName yM_isName ∈ hn_tb := hn_sel 11 (by decide +kernel) (by decide +kernel)
theorem gM_M_isName : GoodIn hn_tb (wsV RM 41 RM yM_isName wM_isName) := hn_gV mM_l_M_isName mM_im_isName mM_sel_isName mM_ini mM_code_isName
theorem mM_l_M_isId : Cond.methodLink RM 44 yM_isId ∈ hn_tb := hn_in 304 (by decide +kernel) (by decide +kernel)
theorem mM_st_isId : Cond.static yM_isId ∈ hn_tb := hn_in 305 (by decide +kernel) (by decide +kernel)
theorem gM_M_isId : GoodIn hn_tb (wsS RM 44 yM_isId wM_isId) := hn_gS mM_l_M_isId mM_st_isId mM_ini mM_code_isId
theorem mM_l_M_place : Cond.methodLink RM 47 yM_place ∈ hn_tb := hn_in 308 (by decide +kernel) (by decide +kernel)
theorem mM_im_place : Cond.instanceMethod yM_place ∈ hn_tb := hn_in 310 (by decide +kernel) (by decide +kernel)
theorem mM_sel_place : Cond.selects RM yM_place yM_place ∈ hn_tb := hn_sel 12 (by decide +kernel) (by decide +kernel)
theorem gM_M_place : GoodIn hn_tb (wsV RM 47 RM yM_place wM_place) := hn_gV mM_l_M_place mM_im_place mM_sel_place mM_ini mM_code_place
theorem mM_l_M_compare : Cond.methodLink RM 32 yM_compare ∈ hn_tb := hn_in 312 (by decide +kernel) (by decide +kernel)
theorem mM_im_compare : Cond.instanceMethod yM_compare ∈ hn_tb := hn_in 314 (by decide +kernel) (by decide +kernel)
theorem mM_sel_compare : Cond.selects RM yM_compare yM_compare ∈ hn_tb := hn_sel 13 (by decide +kernel) (by decide +kernel)
theorem gM_M_compare : GoodIn hn_tb (wsV RM 32 RM yM_compare wM_compare) := hn_gV mM_l_M_compare mM_im_compare mM_sel_compare mM_ini mM_code_compare
theorem mM_l_M_isAt : Cond.methodLink RM 50 yM_isAt ∈ hn_tb := hn_in 316 (by decide +kernel) (by decide +kernel)
theorem mM_im_isAt : Cond.instanceMethod yM_isAt ∈ hn_tb := hn_in 318 (by decide +kernel) (by decide +kernel)
theorem mM_sel_isAt : Cond.selects RM yM_isAt yM_isAt ∈ hn_tb := hn_sel 14 (by decide +kernel) (by decide +kernel)
theorem gM_M_isAt : GoodIn hn_tb (wsV RM 50 RM yM_isAt wM_isAt) := hn_gV mM_l_M_isAt mM_im_isAt mM_sel_isAt mM_ini mM_code_isAt
theorem mM_l_M_throwing : Cond.methodLink RM 54 yM_throwing ∈ hn_tb := hn_in 320 (by decide +kernel) (by decide +kernel)
theorem mM_im_throwing : Cond.instanceMethod yM_throwing ∈ hn_tb := hn_in 322 (by decide +kernel) (by decide +kernel)
theorem mM_sel_throwing : Cond.selects RM yM_throwing yM_throwing ∈ hn_tb := hn_sel 15 (by decide +kernel) (by decide +kernel)
theorem gM_M_throwing : GoodIn hn_tb (wsV RM 54 RM yM_throwing wM_throwing) := hn_gV mM_l_M_throwing mM_im_throwing mM_sel_throwing mM_ini mM_code_throwing
theorem mM_l_M_move : Cond.methodLink RM 58 yM_move ∈ hn_tb := hn_in 324 (by decide +kernel) (by decide +kernel)
theorem mM_im_move : Cond.instanceMethod yM_move ∈ hn_tb := hn_in 326 (by decide +kernel) (by decide +kernel)
theorem mM_sel_move : Cond.selects RM yM_move yM_move ∈ hn_tb := hn_sel 16 (by decide +kernel) (by decide +kernel)
theorem gM_M_move : GoodIn hn_tb (wsV RM 58 RM yM_move wM_move) := hn_gV mM_l_M_move mM_im_move mM_sel_move mM_ini mM_code_move
theorem mL_l_M_find : Cond.methodLink RL 59 yM_find ∈ hn_tb := hn_in 328 (by decide +kernel) (by decide +kernel)
theorem mM_im_find : Cond.instanceMethod yM_find ∈ hn_tb := hn_in 329 (by decide +kernel) (by decide +kernel)
theorem mM_sel_find : Cond.selects RM yM_find yM_find ∈ hn_tb := hn_in 330 (by decide +kernel) (by decide +kernel)
theorem gL_M_find : GoodIn hn_tb (wsV RL 59 RM yM_find wM_find) := hn_gV mL_l_M_find mM_im_find mM_sel_find mM_ini mM_code_find
theorem mL_l_M_remove : Cond.methodLink RL 62 yM_remove ∈ hn_tb := hn_in 332 (by decide +kernel) (by decide +kernel)
theorem mM_im_remove : Cond.instanceMethod yM_remove ∈ hn_tb := hn_in 333 (by decide +kernel) (by decide +kernel)
theorem mM_sel_remove : Cond.selects RM yM_remove yM_remove ∈ hn_tb := hn_in 334 (by decide +kernel) (by decide +kernel)
theorem gL_M_remove : GoodIn hn_tb (wsV RL 62 RM yM_remove wM_remove) := hn_gV mL_l_M_remove mM_im_remove mM_sel_remove mM_ini mM_code_remove
theorem mL_l_M_change : Cond.methodLink RL 65 yM_change ∈ hn_tb := hn_in 336 (by decide +kernel) (by decide +kernel)
theorem mM_im_change : Cond.instanceMethod yM_change ∈ hn_tb := hn_in 337 (by decide +kernel) (by decide +kernel)
theorem mM_sel_change : Cond.selects RM yM_change yM_change ∈ hn_tb := hn_in 338 (by decide +kernel) (by decide +kernel)
theorem gL_M_change : GoodIn hn_tb (wsV RL 65 RM yM_change wM_change) := hn_gV mL_l_M_change mM_im_change mM_sel_change mM_ini mM_code_change
theorem mL_l_M_size : Cond.methodLink RL 69 yM_size ∈ hn_tb := hn_in 340 (by decide +kernel) (by decide +kernel)
theorem mM_im_size : Cond.instanceMethod yM_size ∈ hn_tb := hn_in 341 (by decide +kernel) (by decide +kernel)
theorem mM_sel_size : Cond.selects RM yM_size yM_size ∈ hn_tb := hn_in 342 (by decide +kernel) (by decide +kernel)
theorem gL_M_size : GoodIn hn_tb (wsV RL 69 RM yM_size wM_size) := hn_gV mL_l_M_size mM_im_size mM_sel_size mM_ini mM_code_size
theorem mL_l_M_nth : Cond.methodLink RL 72 yM_nth ∈ hn_tb := hn_in 344 (by decide +kernel) (by decide +kernel)
theorem mM_im_nth : Cond.instanceMethod yM_nth ∈ hn_tb := hn_in 345 (by decide +kernel) (by decide +kernel)
theorem mM_sel_nth : Cond.selects RM yM_nth yM_nth ∈ hn_tb := hn_in 346 (by decide +kernel) (by decide +kernel)
theorem gL_M_nth : GoodIn hn_tb (wsV RL 72 RM yM_nth wM_nth) := hn_gV mL_l_M_nth mM_im_nth mM_sel_nth mM_ini mM_code_nth
theorem mL_l_M_byteAt : Cond.methodLink RL 75 yM_byteAt ∈ hn_tb := hn_in 348 (by decide +kernel) (by decide +kernel)
theorem mM_im_byteAt : Cond.instanceMethod yM_byteAt ∈ hn_tb := hn_in 349 (by decide +kernel) (by decide +kernel)
theorem mM_sel_byteAt : Cond.selects RM yM_byteAt yM_byteAt ∈ hn_tb := hn_in 350 (by decide +kernel) (by decide +kernel)
theorem gL_M_byteAt : GoodIn hn_tb (wsV RL 75 RM yM_byteAt wM_byteAt) := hn_gV mL_l_M_byteAt mM_im_byteAt mM_sel_byteAt mM_ini mM_code_byteAt
end
section
theorem dX_init_0 : decode cX_init 0 = .ok (.aload_n 0, 1) := by decide +kernel
theorem dX_init_1 : decode cX_init 1 = .ok (.invokespecial 3, 3) := by decide +kernel
theorem dX_init_4 : decode cX_init 4 = .ok (.aload_n 0, 1) := by decide +kernel
theorem dX_init_5 : decode cX_init 5 = .ok (.iconst 5, 1) := by decide +kernel
theorem dX_init_6 : decode cX_init 6 = .ok (.newarray .int, 2) := by decide +kernel
theorem dX_init_8 : decode cX_init 8 = .ok (.putfield 9, 3) := by decide +kernel
theorem dX_init_11 : decode cX_init 11 = .ok (.aload_n 0, 1) := by decide +kernel
theorem dX_init_12 : decode cX_init 12 = .ok (.iconst 5, 1) := by decide +kernel
theorem dX_init_13 : decode cX_init 13 = .ok (.newarray .int, 2) := by decide +kernel
theorem dX_init_15 : decode cX_init 15 = .ok (.putfield 13, 3) := by decide +kernel
theorem dX_init_18 : decode cX_init 18 = .ok (.aload_n 0, 1) := by decide +kernel
theorem dX_init_19 : decode cX_init 19 = .ok (.iconst 5, 1) := by decide +kernel
theorem dX_init_20 : decode cX_init 20 = .ok (.newarray .int, 2) := by decide +kernel
theorem dX_init_22 : decode cX_init 22 = .ok (.putfield 16, 3) := by decide +kernel
theorem dX_init_25 : decode cX_init 25 = .ok (.aload_n 0, 1) := by decide +kernel
theorem dX_init_26 : decode cX_init 26 = .ok (.iconst 0, 1) := by decide +kernel
theorem dX_init_27 : decode cX_init 27 = .ok (.putfield 19, 3) := by decide +kernel
theorem dX_init_30 : decode cX_init 30 = .ok (.aload_n 0, 1) := by decide +kernel
theorem dX_init_31 : decode cX_init 31 = .ok (.sipush 1920, 3) := by decide +kernel
theorem dX_init_34 : decode cX_init 34 = .ok (.newarray .int, 2) := by decide +kernel
theorem dX_init_36 : decode cX_init 36 = .ok (.putfield 23, 3) := by decide +kernel
theorem dX_init_39 : decode cX_init 39 = .ok (.aload_n 0, 1) := by decide +kernel
theorem dX_init_40 : decode cX_init 40 = .ok (.sipush 384, 3) := by decide +kernel
theorem dX_init_43 : decode cX_init 43 = .ok (.newarray .int, 2) := by decide +kernel
theorem dX_init_45 : decode cX_init 45 = .ok (.putfield 26, 3) := by decide +kernel
theorem dX_init_48 : decode cX_init 48 = .ok (.aload_n 0, 1) := by decide +kernel
theorem dX_init_49 : decode cX_init 49 = .ok (.sipush 384, 3) := by decide +kernel
theorem dX_init_52 : decode cX_init 52 = .ok (.newarray .int, 2) := by decide +kernel
theorem dX_init_54 : decode cX_init 54 = .ok (.putfield 29, 3) := by decide +kernel
theorem dX_init_57 : decode cX_init 57 = .ok (.aload_n 0, 1) := by decide +kernel
theorem dX_init_58 : decode cX_init 58 = .ok (.bipush 8, 2) := by decide +kernel
theorem dX_init_60 : decode cX_init 60 = .ok (.newarray .int, 2) := by decide +kernel
theorem dX_init_62 : decode cX_init 62 = .ok (.putfield 32, 3) := by decide +kernel
theorem dX_init_65 : decode cX_init 65 = .ok (.aload_n 0, 1) := by decide +kernel
theorem dX_init_66 : decode cX_init 66 = .ok (.sipush 512, 3) := by decide +kernel
theorem dX_init_69 : decode cX_init 69 = .ok (.newarray .int, 2) := by decide +kernel
theorem dX_init_71 : decode cX_init 71 = .ok (.putfield 35, 3) := by decide +kernel
theorem dX_init_74 : decode cX_init 74 = .ok (.aload_n 0, 1) := by decide +kernel
theorem dX_init_75 : decode cX_init 75 = .ok (.sipush 392, 3) := by decide +kernel
theorem dX_init_78 : decode cX_init 78 = .ok (.newarray .int, 2) := by decide +kernel
theorem dX_init_80 : decode cX_init 80 = .ok (.putfield 38, 3) := by decide +kernel
theorem dX_init_83 : decode cX_init 83 = .ok (.iconst 0, 1) := by decide +kernel
theorem dX_init_84 : decode cX_init 84 = .ok (.istore_n 1, 1) := by decide +kernel
theorem dX_init_85 : decode cX_init 85 = .ok (.iload_n 1, 1) := by decide +kernel
theorem dX_init_86 : decode cX_init 86 = .ok (.aload_n 0, 1) := by decide +kernel
theorem dX_init_87 : decode cX_init 87 = .ok (.getfield 35, 3) := by decide +kernel
theorem dX_init_90 : decode cX_init 90 = .ok (.arraylength, 1) := by decide +kernel
theorem dX_init_91 : decode cX_init 91 = .ok (.if_icmp .ge 16, 3) := by decide +kernel
theorem dX_init_94 : decode cX_init 94 = .ok (.aload_n 0, 1) := by decide +kernel
theorem dX_init_95 : decode cX_init 95 = .ok (.getfield 35, 3) := by decide +kernel
theorem dX_init_98 : decode cX_init 98 = .ok (.iload_n 1, 1) := by decide +kernel
theorem dX_init_99 : decode cX_init 99 = .ok (.iconst (-1), 1) := by decide +kernel
theorem dX_init_100 : decode cX_init 100 = .ok (.iastore, 1) := by decide +kernel
theorem dX_init_101 : decode cX_init 101 = .ok (.iinc 1 1, 3) := by decide +kernel
theorem dX_init_104 : decode cX_init 104 = .ok (.goto (-19), 3) := by decide +kernel
theorem dX_init_107 : decode cX_init 107 = .ok (.iconst 0, 1) := by decide +kernel
theorem dX_init_108 : decode cX_init 108 = .ok (.istore_n 1, 1) := by decide +kernel
theorem dX_init_109 : decode cX_init 109 = .ok (.iload_n 1, 1) := by decide +kernel
theorem dX_init_110 : decode cX_init 110 = .ok (.aload_n 0, 1) := by decide +kernel
theorem dX_init_111 : decode cX_init 111 = .ok (.getfield 38, 3) := by decide +kernel
theorem dX_init_114 : decode cX_init 114 = .ok (.arraylength, 1) := by decide +kernel
theorem dX_init_115 : decode cX_init 115 = .ok (.if_icmp .ge 16, 3) := by decide +kernel
theorem dX_init_118 : decode cX_init 118 = .ok (.aload_n 0, 1) := by decide +kernel
theorem dX_init_119 : decode cX_init 119 = .ok (.getfield 38, 3) := by decide +kernel
theorem dX_init_122 : decode cX_init 122 = .ok (.iload_n 1, 1) := by decide +kernel
theorem dX_init_123 : decode cX_init 123 = .ok (.iconst (-1), 1) := by decide +kernel
theorem dX_init_124 : decode cX_init 124 = .ok (.iastore, 1) := by decide +kernel
theorem dX_init_125 : decode cX_init 125 = .ok (.iinc 1 1, 3) := by decide +kernel
theorem dX_init_128 : decode cX_init 128 = .ok (.goto (-19), 3) := by decide +kernel
theorem dX_init_131 : decode cX_init 131 = .ok (.return_, 1) := by decide +kernel
theorem dX_say_0 : decode cX_say 0 = .ok (.aload_n 0, 1) := by decide +kernel
theorem dX_say_1 : decode cX_say 1 = .ok (.getfield 9, 3) := by decide +kernel
theorem dX_say_4 : decode cX_say 4 = .ok (.iconst 0, 1) := by decide +kernel
theorem dX_say_5 : decode cX_say 5 = .ok (.iload_n 1, 1) := by decide +kernel
theorem dX_say_6 : decode cX_say 6 = .ok (.iastore, 1) := by decide +kernel
theorem dX_say_7 : decode cX_say 7 = .ok (.aload_n 0, 1) := by decide +kernel
theorem dX_say_8 : decode cX_say 8 = .ok (.getfield 9, 3) := by decide +kernel
theorem dX_say_11 : decode cX_say 11 = .ok (.iconst 1, 1) := by decide +kernel
theorem dX_say_12 : decode cX_say 12 = .ok (.iload_n 2, 1) := by decide +kernel
theorem dX_say_13 : decode cX_say 13 = .ok (.iastore, 1) := by decide +kernel
theorem dX_say_14 : decode cX_say 14 = .ok (.aload_n 0, 1) := by decide +kernel
theorem dX_say_15 : decode cX_say 15 = .ok (.getfield 9, 3) := by decide +kernel
theorem dX_say_18 : decode cX_say 18 = .ok (.iconst 2, 1) := by decide +kernel
theorem dX_say_19 : decode cX_say 19 = .ok (.iload_n 3, 1) := by decide +kernel
theorem dX_say_20 : decode cX_say 20 = .ok (.iastore, 1) := by decide +kernel
theorem dX_say_21 : decode cX_say 21 = .ok (.aload_n 0, 1) := by decide +kernel
theorem dX_say_22 : decode cX_say 22 = .ok (.getfield 9, 3) := by decide +kernel
theorem dX_say_25 : decode cX_say 25 = .ok (.iconst 3, 1) := by decide +kernel
theorem dX_say_26 : decode cX_say 26 = .ok (.iload 4, 2) := by decide +kernel
theorem dX_say_28 : decode cX_say 28 = .ok (.iastore, 1) := by decide +kernel
theorem dX_say_29 : decode cX_say 29 = .ok (.aload_n 0, 1) := by decide +kernel
theorem dX_say_30 : decode cX_say 30 = .ok (.getfield 9, 3) := by decide +kernel
theorem dX_say_33 : decode cX_say 33 = .ok (.iconst 4, 1) := by decide +kernel
theorem dX_say_34 : decode cX_say 34 = .ok (.iload 5, 2) := by decide +kernel
theorem dX_say_36 : decode cX_say 36 = .ok (.iastore, 1) := by decide +kernel
theorem dX_say_37 : decode cX_say 37 = .ok (.return_, 1) := by decide +kernel
theorem dX_add_0 : decode cX_add 0 = .ok (.iload_n 1, 1) := by decide +kernel
theorem dX_add_1 : decode cX_add 1 = .ok (.invokestatic 41, 3) := by decide +kernel
theorem dX_add_4 : decode cX_add 4 = .ok (.iload_n 3, 1) := by decide +kernel
theorem dX_add_5 : decode cX_add 5 = .ok (.invokestatic 45, 3) := by decide +kernel
theorem dX_add_8 : decode cX_add 8 = .ok (.aload_n 0, 1) := by decide +kernel
theorem dX_add_9 : decode cX_add 9 = .ok (.iload_n 2, 1) := by decide +kernel
theorem dX_add_10 : decode cX_add 10 = .ok (.invokevirtual 48, 3) := by decide +kernel
theorem dX_add_13 : decode cX_add 13 = .ok (.aload_n 0, 1) := by decide +kernel
theorem dX_add_14 : decode cX_add 14 = .ok (.iload_n 1, 1) := by decide +kernel
theorem dX_add_15 : decode cX_add 15 = .ok (.invokevirtual 51, 3) := by decide +kernel
theorem dX_add_18 : decode cX_add 18 = .ok (.invokestatic 55, 3) := by decide +kernel
theorem dX_add_21 : decode cX_add 21 = .ok (.ifCond .eq 13, 3) := by decide +kernel
theorem dX_add_24 : decode cX_add 24 = .ok (.new 59, 3) := by decide +kernel
theorem dX_add_27 : decode cX_add 27 = .ok (.dup, 1) := by decide +kernel
theorem dX_add_28 : decode cX_add 28 = .ok (.ldc 61, 2) := by decide +kernel
theorem dX_add_30 : decode cX_add 30 = .ok (.invokespecial 63, 3) := by decide +kernel
theorem dX_add_33 : decode cX_add 33 = .ok (.athrow, 1) := by decide +kernel
theorem dX_add_34 : decode cX_add 34 = .ok (.aload_n 0, 1) := by decide +kernel
theorem dX_add_35 : decode cX_add 35 = .ok (.iload_n 1, 1) := by decide +kernel
theorem dX_add_36 : decode cX_add 36 = .ok (.invokevirtual 66, 3) := by decide +kernel
theorem dX_add_39 : decode cX_add 39 = .ok (.istore 4, 2) := by decide +kernel
theorem dX_add_41 : decode cX_add 41 = .ok (.iload 4, 2) := by decide +kernel
theorem dX_add_43 : decode cX_add 43 = .ok (.invokestatic 55, 3) := by decide +kernel
theorem dX_add_46 : decode cX_add 46 = .ok (.ifCond .ne 13, 3) := by decide +kernel
theorem dX_add_49 : decode cX_add 49 = .ok (.new 59, 3) := by decide +kernel
theorem dX_add_52 : decode cX_add 52 = .ok (.dup, 1) := by decide +kernel
theorem dX_add_53 : decode cX_add 53 = .ok (.ldc 69, 2) := by decide +kernel
theorem dX_add_55 : decode cX_add 55 = .ok (.invokespecial 63, 3) := by decide +kernel
theorem dX_add_58 : decode cX_add 58 = .ok (.athrow, 1) := by decide +kernel
theorem dX_add_59 : decode cX_add 59 = .ok (.aload_n 0, 1) := by decide +kernel
theorem dX_add_60 : decode cX_add 60 = .ok (.iload 4, 2) := by decide +kernel
theorem dX_add_62 : decode cX_add 62 = .ok (.iload_n 2, 1) := by decide +kernel
theorem dX_add_63 : decode cX_add 63 = .ok (.invokevirtual 71, 3) := by decide +kernel
theorem dX_add_66 : decode cX_add 66 = .ok (.aload_n 0, 1) := by decide +kernel
theorem dX_add_67 : decode cX_add 67 = .ok (.getfield 29, 3) := by decide +kernel
theorem dX_add_70 : decode cX_add 70 = .ok (.iload 4, 2) := by decide +kernel
theorem dX_add_72 : decode cX_add 72 = .ok (.iload_n 3, 1) := by decide +kernel
theorem dX_add_73 : decode cX_add 73 = .ok (.iastore, 1) := by decide +kernel
theorem dX_add_74 : decode cX_add 74 = .ok (.aload_n 0, 1) := by decide +kernel
theorem dX_add_75 : decode cX_add 75 = .ok (.aload_n 0, 1) := by decide +kernel
theorem dX_add_76 : decode cX_add 76 = .ok (.getfield 35, 3) := by decide +kernel
theorem dX_add_79 : decode cX_add 79 = .ok (.aload_n 0, 1) := by decide +kernel
theorem dX_add_80 : decode cX_add 80 = .ok (.iload_n 1, 1) := by decide +kernel
theorem dX_add_81 : decode cX_add 81 = .ok (.invokevirtual 75, 3) := by decide +kernel
theorem dX_add_84 : decode cX_add 84 = .ok (.iload 4, 2) := by decide +kernel
theorem dX_add_86 : decode cX_add 86 = .ok (.invokevirtual 78, 3) := by decide +kernel
theorem dX_add_89 : decode cX_add 89 = .ok (.aload_n 0, 1) := by decide +kernel
theorem dX_add_90 : decode cX_add 90 = .ok (.aload_n 0, 1) := by decide +kernel
theorem dX_add_91 : decode cX_add 91 = .ok (.getfield 38, 3) := by decide +kernel
theorem dX_add_94 : decode cX_add 94 = .ok (.iload_n 1, 1) := by decide +kernel
theorem dX_add_95 : decode cX_add 95 = .ok (.invokestatic 82, 3) := by decide +kernel
theorem dX_add_98 : decode cX_add 98 = .ok (.iload 4, 2) := by decide +kernel
theorem dX_add_100 : decode cX_add 100 = .ok (.invokevirtual 78, 3) := by decide +kernel
theorem dX_add_103 : decode cX_add 103 = .ok (.aload_n 0, 1) := by decide +kernel
theorem dX_add_104 : decode cX_add 104 = .ok (.getfield 32, 3) := by decide +kernel
theorem dX_add_107 : decode cX_add 107 = .ok (.iload_n 1, 1) := by decide +kernel
theorem dX_add_108 : decode cX_add 108 = .ok (.dup2, 1) := by decide +kernel
theorem dX_add_109 : decode cX_add 109 = .ok (.iaload, 1) := by decide +kernel
theorem dX_add_110 : decode cX_add 110 = .ok (.iconst 1, 1) := by decide +kernel
theorem dX_add_111 : decode cX_add 111 = .ok (.iadd, 1) := by decide +kernel
theorem dX_add_112 : decode cX_add 112 = .ok (.iastore, 1) := by decide +kernel
theorem dX_add_113 : decode cX_add 113 = .ok (.aload_n 0, 1) := by decide +kernel
theorem dX_add_114 : decode cX_add 114 = .ok (.getfield 32, 3) := by decide +kernel
theorem dX_add_117 : decode cX_add 117 = .ok (.iload_n 1, 1) := by decide +kernel
theorem dX_add_118 : decode cX_add 118 = .ok (.iaload, 1) := by decide +kernel
theorem dX_add_119 : decode cX_add 119 = .ok (.ireturn, 1) := by decide +kernel
theorem dX_find_0 : decode cX_find 0 = .ok (.iload_n 1, 1) := by decide +kernel
theorem dX_find_1 : decode cX_find 1 = .ok (.invokestatic 41, 3) := by decide +kernel
theorem dX_find_4 : decode cX_find 4 = .ok (.aload_n 0, 1) := by decide +kernel
theorem dX_find_5 : decode cX_find 5 = .ok (.iload_n 2, 1) := by decide +kernel
theorem dX_find_6 : decode cX_find 6 = .ok (.invokevirtual 48, 3) := by decide +kernel
theorem dX_find_9 : decode cX_find 9 = .ok (.aload_n 0, 1) := by decide +kernel
theorem dX_find_10 : decode cX_find 10 = .ok (.iload_n 1, 1) := by decide +kernel
theorem dX_find_11 : decode cX_find 11 = .ok (.invokevirtual 51, 3) := by decide +kernel
theorem dX_find_14 : decode cX_find 14 = .ok (.istore_n 3, 1) := by decide +kernel
theorem dX_find_15 : decode cX_find 15 = .ok (.iload_n 3, 1) := by decide +kernel
theorem dX_find_16 : decode cX_find 16 = .ok (.invokestatic 55, 3) := by decide +kernel
theorem dX_find_19 : decode cX_find 19 = .ok (.ifCond .eq 12, 3) := by decide +kernel
theorem dX_find_22 : decode cX_find 22 = .ok (.aload_n 0, 1) := by decide +kernel
theorem dX_find_23 : decode cX_find 23 = .ok (.getfield 29, 3) := by decide +kernel
theorem dX_find_26 : decode cX_find 26 = .ok (.iload_n 3, 1) := by decide +kernel
theorem dX_find_27 : decode cX_find 27 = .ok (.iaload, 1) := by decide +kernel
theorem dX_find_28 : decode cX_find 28 = .ok (.goto 4, 3) := by decide +kernel
theorem dX_find_31 : decode cX_find 31 = .ok (.iconst (-1), 1) := by decide +kernel
theorem dX_find_32 : decode cX_find 32 = .ok (.ireturn, 1) := by decide +kernel
theorem dX_remove_0 : decode cX_remove 0 = .ok (.iload_n 1, 1) := by decide +kernel
theorem dX_remove_1 : decode cX_remove 1 = .ok (.invokestatic 41, 3) := by decide +kernel
theorem dX_remove_4 : decode cX_remove 4 = .ok (.aload_n 0, 1) := by decide +kernel
theorem dX_remove_5 : decode cX_remove 5 = .ok (.iload_n 2, 1) := by decide +kernel
theorem dX_remove_6 : decode cX_remove 6 = .ok (.invokevirtual 48, 3) := by decide +kernel
theorem dX_remove_9 : decode cX_remove 9 = .ok (.aload_n 0, 1) := by decide +kernel
theorem dX_remove_10 : decode cX_remove 10 = .ok (.iload_n 1, 1) := by decide +kernel
theorem dX_remove_11 : decode cX_remove 11 = .ok (.invokevirtual 51, 3) := by decide +kernel
theorem dX_remove_14 : decode cX_remove 14 = .ok (.istore_n 3, 1) := by decide +kernel
theorem dX_remove_15 : decode cX_remove 15 = .ok (.iload_n 3, 1) := by decide +kernel
theorem dX_remove_16 : decode cX_remove 16 = .ok (.invokestatic 55, 3) := by decide +kernel
theorem dX_remove_19 : decode cX_remove 19 = .ok (.ifCond .ne 13, 3) := by decide +kernel
theorem dX_remove_22 : decode cX_remove 22 = .ok (.new 59, 3) := by decide +kernel
theorem dX_remove_25 : decode cX_remove 25 = .ok (.dup, 1) := by decide +kernel
theorem dX_remove_26 : decode cX_remove 26 = .ok (.ldc 85, 2) := by decide +kernel
theorem dX_remove_28 : decode cX_remove 28 = .ok (.invokespecial 63, 3) := by decide +kernel
theorem dX_remove_31 : decode cX_remove 31 = .ok (.athrow, 1) := by decide +kernel
theorem dX_remove_32 : decode cX_remove 32 = .ok (.aload_n 0, 1) := by decide +kernel
theorem dX_remove_33 : decode cX_remove 33 = .ok (.aload_n 0, 1) := by decide +kernel
theorem dX_remove_34 : decode cX_remove 34 = .ok (.getfield 35, 3) := by decide +kernel
theorem dX_remove_37 : decode cX_remove 37 = .ok (.aload_n 0, 1) := by decide +kernel
theorem dX_remove_38 : decode cX_remove 38 = .ok (.iload_n 1, 1) := by decide +kernel
theorem dX_remove_39 : decode cX_remove 39 = .ok (.invokevirtual 75, 3) := by decide +kernel
theorem dX_remove_42 : decode cX_remove 42 = .ok (.invokevirtual 87, 3) := by decide +kernel
theorem dX_remove_45 : decode cX_remove 45 = .ok (.aload_n 0, 1) := by decide +kernel
theorem dX_remove_46 : decode cX_remove 46 = .ok (.aload_n 0, 1) := by decide +kernel
theorem dX_remove_47 : decode cX_remove 47 = .ok (.getfield 38, 3) := by decide +kernel
theorem dX_remove_50 : decode cX_remove 50 = .ok (.iload_n 1, 1) := by decide +kernel
theorem dX_remove_51 : decode cX_remove 51 = .ok (.invokestatic 82, 3) := by decide +kernel
theorem dX_remove_54 : decode cX_remove 54 = .ok (.invokevirtual 87, 3) := by decide +kernel
theorem dX_remove_57 : decode cX_remove 57 = .ok (.aload_n 0, 1) := by decide +kernel
theorem dX_remove_58 : decode cX_remove 58 = .ok (.getfield 26, 3) := by decide +kernel
theorem dX_remove_61 : decode cX_remove 61 = .ok (.iload_n 3, 1) := by decide +kernel
theorem dX_remove_62 : decode cX_remove 62 = .ok (.iconst 0, 1) := by decide +kernel
theorem dX_remove_63 : decode cX_remove 63 = .ok (.iastore, 1) := by decide +kernel
theorem dX_remove_64 : decode cX_remove 64 = .ok (.aload_n 0, 1) := by decide +kernel
theorem dX_remove_65 : decode cX_remove 65 = .ok (.getfield 32, 3) := by decide +kernel
theorem dX_remove_68 : decode cX_remove 68 = .ok (.iload_n 1, 1) := by decide +kernel
theorem dX_remove_69 : decode cX_remove 69 = .ok (.dup2, 1) := by decide +kernel
theorem dX_remove_70 : decode cX_remove 70 = .ok (.iaload, 1) := by decide +kernel
theorem dX_remove_71 : decode cX_remove 71 = .ok (.iconst 1, 1) := by decide +kernel
theorem dX_remove_72 : decode cX_remove 72 = .ok (.isub, 1) := by decide +kernel
theorem dX_remove_73 : decode cX_remove 73 = .ok (.iastore, 1) := by decide +kernel
theorem dX_remove_74 : decode cX_remove 74 = .ok (.aload_n 0, 1) := by decide +kernel
theorem dX_remove_75 : decode cX_remove 75 = .ok (.getfield 29, 3) := by decide +kernel
theorem dX_remove_78 : decode cX_remove 78 = .ok (.iload_n 3, 1) := by decide +kernel
theorem dX_remove_79 : decode cX_remove 79 = .ok (.iaload, 1) := by decide +kernel
theorem dX_remove_80 : decode cX_remove 80 = .ok (.ireturn, 1) := by decide +kernel
theorem dX_change_0 : decode cX_change 0 = .ok (.iload_n 1, 1) := by decide +kernel
theorem dX_change_1 : decode cX_change 1 = .ok (.invokestatic 41, 3) := by decide +kernel
theorem dX_change_4 : decode cX_change 4 = .ok (.iload_n 3, 1) := by decide +kernel
theorem dX_change_5 : decode cX_change 5 = .ok (.invokestatic 45, 3) := by decide +kernel
theorem dX_change_8 : decode cX_change 8 = .ok (.aload_n 0, 1) := by decide +kernel
theorem dX_change_9 : decode cX_change 9 = .ok (.iload_n 2, 1) := by decide +kernel
theorem dX_change_10 : decode cX_change 10 = .ok (.invokevirtual 48, 3) := by decide +kernel
theorem dX_change_13 : decode cX_change 13 = .ok (.aload_n 0, 1) := by decide +kernel
theorem dX_change_14 : decode cX_change 14 = .ok (.iload_n 1, 1) := by decide +kernel
theorem dX_change_15 : decode cX_change 15 = .ok (.invokevirtual 51, 3) := by decide +kernel
theorem dX_change_18 : decode cX_change 18 = .ok (.istore 4, 2) := by decide +kernel
theorem dX_change_20 : decode cX_change 20 = .ok (.iload 4, 2) := by decide +kernel
theorem dX_change_22 : decode cX_change 22 = .ok (.invokestatic 55, 3) := by decide +kernel
theorem dX_change_25 : decode cX_change 25 = .ok (.ifCond .ne 13, 3) := by decide +kernel
theorem dX_change_28 : decode cX_change 28 = .ok (.new 59, 3) := by decide +kernel
theorem dX_change_31 : decode cX_change 31 = .ok (.dup, 1) := by decide +kernel
theorem dX_change_32 : decode cX_change 32 = .ok (.ldc 85, 2) := by decide +kernel
theorem dX_change_34 : decode cX_change 34 = .ok (.invokespecial 63, 3) := by decide +kernel
theorem dX_change_37 : decode cX_change 37 = .ok (.athrow, 1) := by decide +kernel
theorem dX_change_38 : decode cX_change 38 = .ok (.aload_n 0, 1) := by decide +kernel
theorem dX_change_39 : decode cX_change 39 = .ok (.getfield 29, 3) := by decide +kernel
theorem dX_change_42 : decode cX_change 42 = .ok (.iload 4, 2) := by decide +kernel
theorem dX_change_44 : decode cX_change 44 = .ok (.iaload, 1) := by decide +kernel
theorem dX_change_45 : decode cX_change 45 = .ok (.istore 5, 2) := by decide +kernel
theorem dX_change_47 : decode cX_change 47 = .ok (.aload_n 0, 1) := by decide +kernel
theorem dX_change_48 : decode cX_change 48 = .ok (.getfield 29, 3) := by decide +kernel
theorem dX_change_51 : decode cX_change 51 = .ok (.iload 4, 2) := by decide +kernel
theorem dX_change_53 : decode cX_change 53 = .ok (.iload_n 3, 1) := by decide +kernel
theorem dX_change_54 : decode cX_change 54 = .ok (.iastore, 1) := by decide +kernel
theorem dX_change_55 : decode cX_change 55 = .ok (.iload 5, 2) := by decide +kernel
theorem dX_change_57 : decode cX_change 57 = .ok (.ireturn, 1) := by decide +kernel
theorem dX_size_0 : decode cX_size 0 = .ok (.iload_n 1, 1) := by decide +kernel
theorem dX_size_1 : decode cX_size 1 = .ok (.invokestatic 41, 3) := by decide +kernel
theorem dX_size_4 : decode cX_size 4 = .ok (.aload_n 0, 1) := by decide +kernel
theorem dX_size_5 : decode cX_size 5 = .ok (.getfield 32, 3) := by decide +kernel
theorem dX_size_8 : decode cX_size 8 = .ok (.iload_n 1, 1) := by decide +kernel
theorem dX_size_9 : decode cX_size 9 = .ok (.iaload, 1) := by decide +kernel
theorem dX_size_10 : decode cX_size 10 = .ok (.ireturn, 1) := by decide +kernel
theorem dX_nth_0 : decode cX_nth 0 = .ok (.iload_n 1, 1) := by decide +kernel
theorem dX_nth_1 : decode cX_nth 1 = .ok (.invokestatic 41, 3) := by decide +kernel
theorem dX_nth_4 : decode cX_nth 4 = .ok (.iload_n 2, 1) := by decide +kernel
theorem dX_nth_5 : decode cX_nth 5 = .ok (.ifCond .ge 13, 3) := by decide +kernel
theorem dX_nth_8 : decode cX_nth 8 = .ok (.new 91, 3) := by decide +kernel
theorem dX_nth_11 : decode cX_nth 11 = .ok (.dup, 1) := by decide +kernel
theorem dX_nth_12 : decode cX_nth 12 = .ok (.ldc 93, 2) := by decide +kernel
theorem dX_nth_14 : decode cX_nth 14 = .ok (.invokespecial 95, 3) := by decide +kernel
theorem dX_nth_17 : decode cX_nth 17 = .ok (.athrow, 1) := by decide +kernel
theorem dX_nth_18 : decode cX_nth 18 = .ok (.aload_n 0, 1) := by decide +kernel
theorem dX_nth_19 : decode cX_nth 19 = .ok (.iload_n 1, 1) := by decide +kernel
theorem dX_nth_20 : decode cX_nth 20 = .ok (.iload_n 2, 1) := by decide +kernel
theorem dX_nth_21 : decode cX_nth 21 = .ok (.invokevirtual 96, 3) := by decide +kernel
theorem dX_nth_24 : decode cX_nth 24 = .ok (.istore_n 3, 1) := by decide +kernel
theorem dX_nth_25 : decode cX_nth 25 = .ok (.iload_n 3, 1) := by decide +kernel
theorem dX_nth_26 : decode cX_nth 26 = .ok (.invokestatic 55, 3) := by decide +kernel
theorem dX_nth_29 : decode cX_nth 29 = .ok (.ifCond .ne 10, 3) := by decide +kernel
theorem dX_nth_32 : decode cX_nth 32 = .ok (.aload_n 0, 1) := by decide +kernel
theorem dX_nth_33 : decode cX_nth 33 = .ok (.iconst 0, 1) := by decide +kernel
theorem dX_nth_34 : decode cX_nth 34 = .ok (.putfield 19, 3) := by decide +kernel
theorem dX_nth_37 : decode cX_nth 37 = .ok (.iconst (-1), 1) := by decide +kernel
theorem dX_nth_38 : decode cX_nth 38 = .ok (.ireturn, 1) := by decide +kernel
theorem dX_nth_39 : decode cX_nth 39 = .ok (.iconst 0, 1) := by decide +kernel
theorem dX_nth_40 : decode cX_nth 40 = .ok (.istore 4, 2) := by decide +kernel
theorem dX_nth_42 : decode cX_nth 42 = .ok (.iload 4, 2) := by decide +kernel
theorem dX_nth_44 : decode cX_nth 44 = .ok (.iconst 5, 1) := by decide +kernel
theorem dX_nth_45 : decode cX_nth 45 = .ok (.if_icmp .ge 27, 3) := by decide +kernel
theorem dX_nth_48 : decode cX_nth 48 = .ok (.aload_n 0, 1) := by decide +kernel
theorem dX_nth_49 : decode cX_nth 49 = .ok (.getfield 16, 3) := by decide +kernel
theorem dX_nth_52 : decode cX_nth 52 = .ok (.iload 4, 2) := by decide +kernel
theorem dX_nth_54 : decode cX_nth 54 = .ok (.aload_n 0, 1) := by decide +kernel
theorem dX_nth_55 : decode cX_nth 55 = .ok (.getfield 23, 3) := by decide +kernel
theorem dX_nth_58 : decode cX_nth 58 = .ok (.iload_n 3, 1) := by decide +kernel
theorem dX_nth_59 : decode cX_nth 59 = .ok (.iconst 5, 1) := by decide +kernel
theorem dX_nth_60 : decode cX_nth 60 = .ok (.imul, 1) := by decide +kernel
theorem dX_nth_61 : decode cX_nth 61 = .ok (.iload 4, 2) := by decide +kernel
theorem dX_nth_63 : decode cX_nth 63 = .ok (.iadd, 1) := by decide +kernel
theorem dX_nth_64 : decode cX_nth 64 = .ok (.iaload, 1) := by decide +kernel
theorem dX_nth_65 : decode cX_nth 65 = .ok (.iastore, 1) := by decide +kernel
theorem dX_nth_66 : decode cX_nth 66 = .ok (.iinc 4 1, 3) := by decide +kernel
theorem dX_nth_69 : decode cX_nth 69 = .ok (.goto (-27), 3) := by decide +kernel
theorem dX_nth_72 : decode cX_nth 72 = .ok (.aload_n 0, 1) := by decide +kernel
theorem dX_nth_73 : decode cX_nth 73 = .ok (.aload_n 0, 1) := by decide +kernel
theorem dX_nth_74 : decode cX_nth 74 = .ok (.getfield 26, 3) := by decide +kernel
theorem dX_nth_77 : decode cX_nth 77 = .ok (.iload_n 3, 1) := by decide +kernel
theorem dX_nth_78 : decode cX_nth 78 = .ok (.iaload, 1) := by decide +kernel
theorem dX_nth_79 : decode cX_nth 79 = .ok (.putfield 19, 3) := by decide +kernel
theorem dX_nth_82 : decode cX_nth 82 = .ok (.aload_n 0, 1) := by decide +kernel
theorem dX_nth_83 : decode cX_nth 83 = .ok (.getfield 19, 3) := by decide +kernel
theorem dX_nth_86 : decode cX_nth 86 = .ok (.ireturn, 1) := by decide +kernel
theorem dX_byteAt_0 : decode cX_byteAt 0 = .ok (.iload_n 1, 1) := by decide +kernel
theorem dX_byteAt_1 : decode cX_byteAt 1 = .ok (.ifCond .ge 13, 3) := by decide +kernel
theorem dX_byteAt_4 : decode cX_byteAt 4 = .ok (.new 91, 3) := by decide +kernel
theorem dX_byteAt_7 : decode cX_byteAt 7 = .ok (.dup, 1) := by decide +kernel
theorem dX_byteAt_8 : decode cX_byteAt 8 = .ok (.ldc 100, 2) := by decide +kernel
theorem dX_byteAt_10 : decode cX_byteAt 10 = .ok (.invokespecial 95, 3) := by decide +kernel
theorem dX_byteAt_13 : decode cX_byteAt 13 = .ok (.athrow, 1) := by decide +kernel
theorem dX_byteAt_14 : decode cX_byteAt 14 = .ok (.iload_n 1, 1) := by decide +kernel
theorem dX_byteAt_15 : decode cX_byteAt 15 = .ok (.aload_n 0, 1) := by decide +kernel
theorem dX_byteAt_16 : decode cX_byteAt 16 = .ok (.getfield 19, 3) := by decide +kernel
theorem dX_byteAt_19 : decode cX_byteAt 19 = .ok (.if_icmp .ge 14, 3) := by decide +kernel
theorem dX_byteAt_22 : decode cX_byteAt 22 = .ok (.aload_n 0, 1) := by decide +kernel
theorem dX_byteAt_23 : decode cX_byteAt 23 = .ok (.getfield 16, 3) := by decide +kernel
theorem dX_byteAt_26 : decode cX_byteAt 26 = .ok (.iload_n 1, 1) := by decide +kernel
theorem dX_byteAt_27 : decode cX_byteAt 27 = .ok (.invokestatic 102, 3) := by decide +kernel
theorem dX_byteAt_30 : decode cX_byteAt 30 = .ok (.goto 4, 3) := by decide +kernel
theorem dX_byteAt_33 : decode cX_byteAt 33 = .ok (.iconst (-1), 1) := by decide +kernel
theorem dX_byteAt_34 : decode cX_byteAt 34 = .ok (.ireturn, 1) := by decide +kernel
theorem dX_requireDirectory_0 : decode cX_requireDirectory 0 = .ok (.iload_n 0, 1) := by decide +kernel
theorem dX_requireDirectory_1 : decode cX_requireDirectory 1 = .ok (.ifCond .lt 9, 3) := by decide +kernel
theorem dX_requireDirectory_4 : decode cX_requireDirectory 4 = .ok (.iload_n 0, 1) := by decide +kernel
theorem dX_requireDirectory_5 : decode cX_requireDirectory 5 = .ok (.bipush 8, 2) := by decide +kernel
theorem dX_requireDirectory_7 : decode cX_requireDirectory 7 = .ok (.if_icmp .lt 13, 3) := by decide +kernel
theorem dX_requireDirectory_10 : decode cX_requireDirectory 10 = .ok (.new 91, 3) := by decide +kernel
theorem dX_requireDirectory_13 : decode cX_requireDirectory 13 = .ok (.dup, 1) := by decide +kernel
theorem dX_requireDirectory_14 : decode cX_requireDirectory 14 = .ok (.ldc 106, 2) := by decide +kernel
theorem dX_requireDirectory_16 : decode cX_requireDirectory 16 = .ok (.invokespecial 95, 3) := by decide +kernel
theorem dX_requireDirectory_19 : decode cX_requireDirectory 19 = .ok (.athrow, 1) := by decide +kernel
theorem dX_requireDirectory_20 : decode cX_requireDirectory 20 = .ok (.return_, 1) := by decide +kernel
theorem dX_requireId_0 : decode cX_requireId 0 = .ok (.iload_n 0, 1) := by decide +kernel
theorem dX_requireId_1 : decode cX_requireId 1 = .ok (.iconst 1, 1) := by decide +kernel
theorem dX_requireId_2 : decode cX_requireId 2 = .ok (.if_icmp .lt 9, 3) := by decide +kernel
theorem dX_requireId_5 : decode cX_requireId 5 = .ok (.iload_n 0, 1) := by decide +kernel
theorem dX_requireId_6 : decode cX_requireId 6 = .ok (.ldc 108, 2) := by decide +kernel
theorem dX_requireId_8 : decode cX_requireId 8 = .ok (.if_icmp .le 13, 3) := by decide +kernel
theorem dX_requireId_11 : decode cX_requireId 11 = .ok (.new 91, 3) := by decide +kernel
theorem dX_requireId_14 : decode cX_requireId 14 = .ok (.dup, 1) := by decide +kernel
theorem dX_requireId_15 : decode cX_requireId 15 = .ok (.ldc 109, 2) := by decide +kernel
theorem dX_requireId_17 : decode cX_requireId 17 = .ok (.invokespecial 95, 3) := by decide +kernel
theorem dX_requireId_20 : decode cX_requireId 20 = .ok (.athrow, 1) := by decide +kernel
theorem dX_requireId_21 : decode cX_requireId 21 = .ok (.return_, 1) := by decide +kernel
theorem dX_takeKey_0 : decode cX_takeKey 0 = .ok (.iload_n 1, 1) := by decide +kernel
theorem dX_takeKey_1 : decode cX_takeKey 1 = .ok (.iconst 1, 1) := by decide +kernel
theorem dX_takeKey_2 : decode cX_takeKey 2 = .ok (.if_icmp .lt 9, 3) := by decide +kernel
theorem dX_takeKey_5 : decode cX_takeKey 5 = .ok (.iload_n 1, 1) := by decide +kernel
theorem dX_takeKey_6 : decode cX_takeKey 6 = .ok (.bipush 20, 2) := by decide +kernel
theorem dX_takeKey_8 : decode cX_takeKey 8 = .ok (.if_icmp .le 13, 3) := by decide +kernel
theorem dX_takeKey_11 : decode cX_takeKey 11 = .ok (.new 91, 3) := by decide +kernel
theorem dX_takeKey_14 : decode cX_takeKey 14 = .ok (.dup, 1) := by decide +kernel
theorem dX_takeKey_15 : decode cX_takeKey 15 = .ok (.ldc 111, 2) := by decide +kernel
theorem dX_takeKey_17 : decode cX_takeKey 17 = .ok (.invokespecial 95, 3) := by decide +kernel
theorem dX_takeKey_20 : decode cX_takeKey 20 = .ok (.athrow, 1) := by decide +kernel
theorem dX_takeKey_21 : decode cX_takeKey 21 = .ok (.iconst 0, 1) := by decide +kernel
theorem dX_takeKey_22 : decode cX_takeKey 22 = .ok (.istore_n 2, 1) := by decide +kernel
theorem dX_takeKey_23 : decode cX_takeKey 23 = .ok (.iload_n 2, 1) := by decide +kernel
theorem dX_takeKey_24 : decode cX_takeKey 24 = .ok (.iload_n 1, 1) := by decide +kernel
theorem dX_takeKey_25 : decode cX_takeKey 25 = .ok (.if_icmp .ge 38, 3) := by decide +kernel
theorem dX_takeKey_28 : decode cX_takeKey 28 = .ok (.aload_n 0, 1) := by decide +kernel
theorem dX_takeKey_29 : decode cX_takeKey 29 = .ok (.getfield 9, 3) := by decide +kernel
theorem dX_takeKey_32 : decode cX_takeKey 32 = .ok (.iload_n 2, 1) := by decide +kernel
theorem dX_takeKey_33 : decode cX_takeKey 33 = .ok (.invokestatic 102, 3) := by decide +kernel
theorem dX_takeKey_36 : decode cX_takeKey 36 = .ok (.istore_n 3, 1) := by decide +kernel
theorem dX_takeKey_37 : decode cX_takeKey 37 = .ok (.iload_n 3, 1) := by decide +kernel
theorem dX_takeKey_38 : decode cX_takeKey 38 = .ok (.ifCond .eq 9, 3) := by decide +kernel
theorem dX_takeKey_41 : decode cX_takeKey 41 = .ok (.iload_n 3, 1) := by decide +kernel
theorem dX_takeKey_42 : decode cX_takeKey 42 = .ok (.bipush 47, 2) := by decide +kernel
theorem dX_takeKey_44 : decode cX_takeKey 44 = .ok (.if_icmp .ne 13, 3) := by decide +kernel
theorem dX_takeKey_47 : decode cX_takeKey 47 = .ok (.new 91, 3) := by decide +kernel
theorem dX_takeKey_50 : decode cX_takeKey 50 = .ok (.dup, 1) := by decide +kernel
theorem dX_takeKey_51 : decode cX_takeKey 51 = .ok (.ldc 113, 2) := by decide +kernel
theorem dX_takeKey_53 : decode cX_takeKey 53 = .ok (.invokespecial 95, 3) := by decide +kernel
theorem dX_takeKey_56 : decode cX_takeKey 56 = .ok (.athrow, 1) := by decide +kernel
theorem dX_takeKey_57 : decode cX_takeKey 57 = .ok (.iinc 2 1, 3) := by decide +kernel
theorem dX_takeKey_60 : decode cX_takeKey 60 = .ok (.goto (-37), 3) := by decide +kernel
theorem dX_takeKey_63 : decode cX_takeKey 63 = .ok (.iconst 0, 1) := by decide +kernel
theorem dX_takeKey_64 : decode cX_takeKey 64 = .ok (.istore_n 2, 1) := by decide +kernel
theorem dX_takeKey_65 : decode cX_takeKey 65 = .ok (.iload_n 2, 1) := by decide +kernel
theorem dX_takeKey_66 : decode cX_takeKey 66 = .ok (.iconst 5, 1) := by decide +kernel
theorem dX_takeKey_67 : decode cX_takeKey 67 = .ok (.if_icmp .ge 30, 3) := by decide +kernel
theorem dX_takeKey_70 : decode cX_takeKey 70 = .ok (.aload_n 0, 1) := by decide +kernel
theorem dX_takeKey_71 : decode cX_takeKey 71 = .ok (.getfield 13, 3) := by decide +kernel
theorem dX_takeKey_74 : decode cX_takeKey 74 = .ok (.iload_n 2, 1) := by decide +kernel
theorem dX_takeKey_75 : decode cX_takeKey 75 = .ok (.aload_n 0, 1) := by decide +kernel
theorem dX_takeKey_76 : decode cX_takeKey 76 = .ok (.getfield 9, 3) := by decide +kernel
theorem dX_takeKey_79 : decode cX_takeKey 79 = .ok (.iload_n 2, 1) := by decide +kernel
theorem dX_takeKey_80 : decode cX_takeKey 80 = .ok (.iaload, 1) := by decide +kernel
theorem dX_takeKey_81 : decode cX_takeKey 81 = .ok (.iload_n 1, 1) := by decide +kernel
theorem dX_takeKey_82 : decode cX_takeKey 82 = .ok (.iload_n 2, 1) := by decide +kernel
theorem dX_takeKey_83 : decode cX_takeKey 83 = .ok (.iconst 4, 1) := by decide +kernel
theorem dX_takeKey_84 : decode cX_takeKey 84 = .ok (.imul, 1) := by decide +kernel
theorem dX_takeKey_85 : decode cX_takeKey 85 = .ok (.isub, 1) := by decide +kernel
theorem dX_takeKey_86 : decode cX_takeKey 86 = .ok (.invokestatic 115, 3) := by decide +kernel
theorem dX_takeKey_89 : decode cX_takeKey 89 = .ok (.iand, 1) := by decide +kernel
theorem dX_takeKey_90 : decode cX_takeKey 90 = .ok (.iastore, 1) := by decide +kernel
theorem dX_takeKey_91 : decode cX_takeKey 91 = .ok (.iinc 2 1, 3) := by decide +kernel
theorem dX_takeKey_94 : decode cX_takeKey 94 = .ok (.goto (-29), 3) := by decide +kernel
theorem dX_takeKey_97 : decode cX_takeKey 97 = .ok (.return_, 1) := by decide +kernel
theorem dX_maskOfFirst_0 : decode cX_maskOfFirst 0 = .ok (.iload_n 0, 1) := by decide +kernel
theorem dX_maskOfFirst_1 : decode cX_maskOfFirst 1 = .ok (.ifCond .gt 5, 3) := by decide +kernel
theorem dX_maskOfFirst_4 : decode cX_maskOfFirst 4 = .ok (.iconst 0, 1) := by decide +kernel
theorem dX_maskOfFirst_5 : decode cX_maskOfFirst 5 = .ok (.ireturn, 1) := by decide +kernel
theorem dX_maskOfFirst_6 : decode cX_maskOfFirst 6 = .ok (.iload_n 0, 1) := by decide +kernel
theorem dX_maskOfFirst_7 : decode cX_maskOfFirst 7 = .ok (.iconst 4, 1) := by decide +kernel
theorem dX_maskOfFirst_8 : decode cX_maskOfFirst 8 = .ok (.if_icmp .lt 7, 3) := by decide +kernel
theorem dX_maskOfFirst_11 : decode cX_maskOfFirst 11 = .ok (.iconst (-1), 1) := by decide +kernel
theorem dX_maskOfFirst_12 : decode cX_maskOfFirst 12 = .ok (.goto 11, 3) := by decide +kernel
theorem dX_maskOfFirst_15 : decode cX_maskOfFirst 15 = .ok (.iconst (-1), 1) := by decide +kernel
theorem dX_maskOfFirst_16 : decode cX_maskOfFirst 16 = .ok (.bipush 8, 2) := by decide +kernel
theorem dX_maskOfFirst_18 : decode cX_maskOfFirst 18 = .ok (.iconst 4, 1) := by decide +kernel
theorem dX_maskOfFirst_19 : decode cX_maskOfFirst 19 = .ok (.iload_n 0, 1) := by decide +kernel
theorem dX_maskOfFirst_20 : decode cX_maskOfFirst 20 = .ok (.isub, 1) := by decide +kernel
theorem dX_maskOfFirst_21 : decode cX_maskOfFirst 21 = .ok (.imul, 1) := by decide +kernel
theorem dX_maskOfFirst_22 : decode cX_maskOfFirst 22 = .ok (.ishl, 1) := by decide +kernel
theorem dX_maskOfFirst_23 : decode cX_maskOfFirst 23 = .ok (.ireturn, 1) := by decide +kernel
theorem dX_byteOf_0 : decode cX_byteOf 0 = .ok (.aload_n 0, 1) := by decide +kernel
theorem dX_byteOf_1 : decode cX_byteOf 1 = .ok (.iload_n 1, 1) := by decide +kernel
theorem dX_byteOf_2 : decode cX_byteOf 2 = .ok (.iconst 4, 1) := by decide +kernel
theorem dX_byteOf_3 : decode cX_byteOf 3 = .ok (.idiv, 1) := by decide +kernel
theorem dX_byteOf_4 : decode cX_byteOf 4 = .ok (.iaload, 1) := by decide +kernel
theorem dX_byteOf_5 : decode cX_byteOf 5 = .ok (.bipush 24, 2) := by decide +kernel
theorem dX_byteOf_7 : decode cX_byteOf 7 = .ok (.bipush 8, 2) := by decide +kernel
theorem dX_byteOf_9 : decode cX_byteOf 9 = .ok (.iload_n 1, 1) := by decide +kernel
theorem dX_byteOf_10 : decode cX_byteOf 10 = .ok (.iconst 4, 1) := by decide +kernel
theorem dX_byteOf_11 : decode cX_byteOf 11 = .ok (.irem, 1) := by decide +kernel
theorem dX_byteOf_12 : decode cX_byteOf 12 = .ok (.imul, 1) := by decide +kernel
theorem dX_byteOf_13 : decode cX_byteOf 13 = .ok (.isub, 1) := by decide +kernel
theorem dX_byteOf_14 : decode cX_byteOf 14 = .ok (.iushr, 1) := by decide +kernel
theorem dX_byteOf_15 : decode cX_byteOf 15 = .ok (.sipush 255, 3) := by decide +kernel
theorem dX_byteOf_18 : decode cX_byteOf 18 = .ok (.iand, 1) := by decide +kernel
theorem dX_byteOf_19 : decode cX_byteOf 19 = .ok (.ireturn, 1) := by decide +kernel
theorem dX_isSlot_0 : decode cX_isSlot 0 = .ok (.iload_n 0, 1) := by decide +kernel
theorem dX_isSlot_1 : decode cX_isSlot 1 = .ok (.ifCond .lt 14, 3) := by decide +kernel
theorem dX_isSlot_4 : decode cX_isSlot 4 = .ok (.iload_n 0, 1) := by decide +kernel
theorem dX_isSlot_5 : decode cX_isSlot 5 = .ok (.sipush 384, 3) := by decide +kernel
theorem dX_isSlot_8 : decode cX_isSlot 8 = .ok (.if_icmp .ge 7, 3) := by decide +kernel
theorem dX_isSlot_11 : decode cX_isSlot 11 = .ok (.iconst 1, 1) := by decide +kernel
theorem dX_isSlot_12 : decode cX_isSlot 12 = .ok (.goto 4, 3) := by decide +kernel
theorem dX_isSlot_15 : decode cX_isSlot 15 = .ok (.iconst 0, 1) := by decide +kernel
theorem dX_isSlot_16 : decode cX_isSlot 16 = .ok (.ireturn, 1) := by decide +kernel
theorem dX_orderHead_0 : decode cX_orderHead 0 = .ok (.sipush 384, 3) := by decide +kernel
theorem dX_orderHead_3 : decode cX_orderHead 3 = .ok (.iload_n 0, 1) := by decide +kernel
theorem dX_orderHead_4 : decode cX_orderHead 4 = .ok (.iadd, 1) := by decide +kernel
theorem dX_orderHead_5 : decode cX_orderHead 5 = .ok (.ireturn, 1) := by decide +kernel
theorem dX_bucketHead_0 : decode cX_bucketHead 0 = .ok (.iconst 0, 1) := by decide +kernel
theorem dX_bucketHead_1 : decode cX_bucketHead 1 = .ok (.istore_n 2, 1) := by decide +kernel
theorem dX_bucketHead_2 : decode cX_bucketHead 2 = .ok (.iconst 0, 1) := by decide +kernel
theorem dX_bucketHead_3 : decode cX_bucketHead 3 = .ok (.istore_n 3, 1) := by decide +kernel
theorem dX_bucketHead_4 : decode cX_bucketHead 4 = .ok (.iload_n 3, 1) := by decide +kernel
theorem dX_bucketHead_5 : decode cX_bucketHead 5 = .ok (.iconst 5, 1) := by decide +kernel
theorem dX_bucketHead_6 : decode cX_bucketHead 6 = .ok (.if_icmp .ge 21, 3) := by decide +kernel
theorem dX_bucketHead_9 : decode cX_bucketHead 9 = .ok (.iload_n 2, 1) := by decide +kernel
theorem dX_bucketHead_10 : decode cX_bucketHead 10 = .ok (.aload_n 0, 1) := by decide +kernel
theorem dX_bucketHead_11 : decode cX_bucketHead 11 = .ok (.getfield 13, 3) := by decide +kernel
theorem dX_bucketHead_14 : decode cX_bucketHead 14 = .ok (.iload_n 3, 1) := by decide +kernel
theorem dX_bucketHead_15 : decode cX_bucketHead 15 = .ok (.iaload, 1) := by decide +kernel
theorem dX_bucketHead_16 : decode cX_bucketHead 16 = .ok (.ixor, 1) := by decide +kernel
theorem dX_bucketHead_17 : decode cX_bucketHead 17 = .ok (.ldc 118, 2) := by decide +kernel
theorem dX_bucketHead_19 : decode cX_bucketHead 19 = .ok (.imul, 1) := by decide +kernel
theorem dX_bucketHead_20 : decode cX_bucketHead 20 = .ok (.istore_n 2, 1) := by decide +kernel
theorem dX_bucketHead_21 : decode cX_bucketHead 21 = .ok (.iinc 3 1, 3) := by decide +kernel
theorem dX_bucketHead_24 : decode cX_bucketHead 24 = .ok (.goto (-20), 3) := by decide +kernel
theorem dX_bucketHead_27 : decode cX_bucketHead 27 = .ok (.sipush 384, 3) := by decide +kernel
theorem dX_bucketHead_30 : decode cX_bucketHead 30 = .ok (.iload_n 1, 1) := by decide +kernel
theorem dX_bucketHead_31 : decode cX_bucketHead 31 = .ok (.bipush 16, 2) := by decide +kernel
theorem dX_bucketHead_33 : decode cX_bucketHead 33 = .ok (.imul, 1) := by decide +kernel
theorem dX_bucketHead_34 : decode cX_bucketHead 34 = .ok (.iadd, 1) := by decide +kernel
theorem dX_bucketHead_35 : decode cX_bucketHead 35 = .ok (.iload_n 2, 1) := by decide +kernel
theorem dX_bucketHead_36 : decode cX_bucketHead 36 = .ok (.bipush 28, 2) := by decide +kernel
theorem dX_bucketHead_38 : decode cX_bucketHead 38 = .ok (.iushr, 1) := by decide +kernel
theorem dX_bucketHead_39 : decode cX_bucketHead 39 = .ok (.iadd, 1) := by decide +kernel
theorem dX_bucketHead_40 : decode cX_bucketHead 40 = .ok (.ireturn, 1) := by decide +kernel
theorem dX_slotOfKey_0 : decode cX_slotOfKey 0 = .ok (.aload_n 0, 1) := by decide +kernel
theorem dX_slotOfKey_1 : decode cX_slotOfKey 1 = .ok (.getfield 35, 3) := by decide +kernel
theorem dX_slotOfKey_4 : decode cX_slotOfKey 4 = .ok (.aload_n 0, 1) := by decide +kernel
theorem dX_slotOfKey_5 : decode cX_slotOfKey 5 = .ok (.aload_n 0, 1) := by decide +kernel
theorem dX_slotOfKey_6 : decode cX_slotOfKey 6 = .ok (.getfield 35, 3) := by decide +kernel
theorem dX_slotOfKey_9 : decode cX_slotOfKey 9 = .ok (.aload_n 0, 1) := by decide +kernel
theorem dX_slotOfKey_10 : decode cX_slotOfKey 10 = .ok (.iload_n 1, 1) := by decide +kernel
theorem dX_slotOfKey_11 : decode cX_slotOfKey 11 = .ok (.invokevirtual 75, 3) := by decide +kernel
theorem dX_slotOfKey_14 : decode cX_slotOfKey 14 = .ok (.invokevirtual 119, 3) := by decide +kernel
theorem dX_slotOfKey_17 : decode cX_slotOfKey 17 = .ok (.iaload, 1) := by decide +kernel
theorem dX_slotOfKey_18 : decode cX_slotOfKey 18 = .ok (.istore_n 2, 1) := by decide +kernel
theorem dX_slotOfKey_19 : decode cX_slotOfKey 19 = .ok (.iload_n 2, 1) := by decide +kernel
theorem dX_slotOfKey_20 : decode cX_slotOfKey 20 = .ok (.invokestatic 55, 3) := by decide +kernel
theorem dX_slotOfKey_23 : decode cX_slotOfKey 23 = .ok (.ifCond .eq 15, 3) := by decide +kernel
theorem dX_slotOfKey_26 : decode cX_slotOfKey 26 = .ok (.aload_n 0, 1) := by decide +kernel
theorem dX_slotOfKey_27 : decode cX_slotOfKey 27 = .ok (.iload_n 2, 1) := by decide +kernel
theorem dX_slotOfKey_28 : decode cX_slotOfKey 28 = .ok (.invokevirtual 122, 3) := by decide +kernel
theorem dX_slotOfKey_31 : decode cX_slotOfKey 31 = .ok (.ifCond .ne 7, 3) := by decide +kernel
theorem dX_slotOfKey_34 : decode cX_slotOfKey 34 = .ok (.iload_n 2, 1) := by decide +kernel
theorem dX_slotOfKey_35 : decode cX_slotOfKey 35 = .ok (.goto 4, 3) := by decide +kernel
theorem dX_slotOfKey_38 : decode cX_slotOfKey 38 = .ok (.iconst (-1), 1) := by decide +kernel
theorem dX_slotOfKey_39 : decode cX_slotOfKey 39 = .ok (.ireturn, 1) := by decide +kernel
theorem dX_placeBeforeKey_0 : decode cX_placeBeforeKey 0 = .ok (.iload_n 2, 1) := by decide +kernel
theorem dX_placeBeforeKey_1 : decode cX_placeBeforeKey 1 = .ok (.istore_n 3, 1) := by decide +kernel
theorem dX_placeBeforeKey_2 : decode cX_placeBeforeKey 2 = .ok (.iconst 0, 1) := by decide +kernel
theorem dX_placeBeforeKey_3 : decode cX_placeBeforeKey 3 = .ok (.istore 4, 2) := by decide +kernel
theorem dX_placeBeforeKey_5 : decode cX_placeBeforeKey 5 = .ok (.iload 4, 2) := by decide +kernel
theorem dX_placeBeforeKey_7 : decode cX_placeBeforeKey 7 = .ok (.bipush 48, 2) := by decide +kernel
theorem dX_placeBeforeKey_9 : decode cX_placeBeforeKey 9 = .ok (.if_icmp .ge 37, 3) := by decide +kernel
theorem dX_placeBeforeKey_12 : decode cX_placeBeforeKey 12 = .ok (.aload_n 1, 1) := by decide +kernel
theorem dX_placeBeforeKey_13 : decode cX_placeBeforeKey 13 = .ok (.iload_n 3, 1) := by decide +kernel
theorem dX_placeBeforeKey_14 : decode cX_placeBeforeKey 14 = .ok (.iaload, 1) := by decide +kernel
theorem dX_placeBeforeKey_15 : decode cX_placeBeforeKey 15 = .ok (.istore 5, 2) := by decide +kernel
theorem dX_placeBeforeKey_17 : decode cX_placeBeforeKey 17 = .ok (.iload 5, 2) := by decide +kernel
theorem dX_placeBeforeKey_19 : decode cX_placeBeforeKey 19 = .ok (.invokestatic 55, 3) := by decide +kernel
theorem dX_placeBeforeKey_22 : decode cX_placeBeforeKey 22 = .ok (.ifCond .eq 24, 3) := by decide +kernel
theorem dX_placeBeforeKey_25 : decode cX_placeBeforeKey 25 = .ok (.aload_n 0, 1) := by decide +kernel
theorem dX_placeBeforeKey_26 : decode cX_placeBeforeKey 26 = .ok (.iload 5, 2) := by decide +kernel
theorem dX_placeBeforeKey_28 : decode cX_placeBeforeKey 28 = .ok (.invokevirtual 122, 3) := by decide +kernel
theorem dX_placeBeforeKey_31 : decode cX_placeBeforeKey 31 = .ok (.ifCond .lt 6, 3) := by decide +kernel
theorem dX_placeBeforeKey_34 : decode cX_placeBeforeKey 34 = .ok (.goto 12, 3) := by decide +kernel
theorem dX_placeBeforeKey_37 : decode cX_placeBeforeKey 37 = .ok (.iload 5, 2) := by decide +kernel
theorem dX_placeBeforeKey_39 : decode cX_placeBeforeKey 39 = .ok (.istore_n 3, 1) := by decide +kernel
theorem dX_placeBeforeKey_40 : decode cX_placeBeforeKey 40 = .ok (.iinc 4 1, 3) := by decide +kernel
theorem dX_placeBeforeKey_43 : decode cX_placeBeforeKey 43 = .ok (.goto (-38), 3) := by decide +kernel
theorem dX_placeBeforeKey_46 : decode cX_placeBeforeKey 46 = .ok (.iload_n 3, 1) := by decide +kernel
theorem dX_placeBeforeKey_47 : decode cX_placeBeforeKey 47 = .ok (.ireturn, 1) := by decide +kernel
theorem dX_compareWithKey_0 : decode cX_compareWithKey 0 = .ok (.iconst 0, 1) := by decide +kernel
theorem dX_compareWithKey_1 : decode cX_compareWithKey 1 = .ok (.istore_n 2, 1) := by decide +kernel
theorem dX_compareWithKey_2 : decode cX_compareWithKey 2 = .ok (.iload_n 2, 1) := by decide +kernel
theorem dX_compareWithKey_3 : decode cX_compareWithKey 3 = .ok (.iconst 5, 1) := by decide +kernel
theorem dX_compareWithKey_4 : decode cX_compareWithKey 4 = .ok (.if_icmp .ge 52, 3) := by decide +kernel
theorem dX_compareWithKey_7 : decode cX_compareWithKey 7 = .ok (.aload_n 0, 1) := by decide +kernel
theorem dX_compareWithKey_8 : decode cX_compareWithKey 8 = .ok (.getfield 23, 3) := by decide +kernel
theorem dX_compareWithKey_11 : decode cX_compareWithKey 11 = .ok (.iload_n 1, 1) := by decide +kernel
theorem dX_compareWithKey_12 : decode cX_compareWithKey 12 = .ok (.iconst 5, 1) := by decide +kernel
theorem dX_compareWithKey_13 : decode cX_compareWithKey 13 = .ok (.imul, 1) := by decide +kernel
theorem dX_compareWithKey_14 : decode cX_compareWithKey 14 = .ok (.iload_n 2, 1) := by decide +kernel
theorem dX_compareWithKey_15 : decode cX_compareWithKey 15 = .ok (.iadd, 1) := by decide +kernel
theorem dX_compareWithKey_16 : decode cX_compareWithKey 16 = .ok (.iaload, 1) := by decide +kernel
theorem dX_compareWithKey_17 : decode cX_compareWithKey 17 = .ok (.istore_n 3, 1) := by decide +kernel
theorem dX_compareWithKey_18 : decode cX_compareWithKey 18 = .ok (.iload_n 3, 1) := by decide +kernel
theorem dX_compareWithKey_19 : decode cX_compareWithKey 19 = .ok (.aload_n 0, 1) := by decide +kernel
theorem dX_compareWithKey_20 : decode cX_compareWithKey 20 = .ok (.getfield 13, 3) := by decide +kernel
theorem dX_compareWithKey_23 : decode cX_compareWithKey 23 = .ok (.iload_n 2, 1) := by decide +kernel
theorem dX_compareWithKey_24 : decode cX_compareWithKey 24 = .ok (.iaload, 1) := by decide +kernel
theorem dX_compareWithKey_25 : decode cX_compareWithKey 25 = .ok (.if_icmp .eq 25, 3) := by decide +kernel
theorem dX_compareWithKey_28 : decode cX_compareWithKey 28 = .ok (.iload_n 3, 1) := by decide +kernel
theorem dX_compareWithKey_29 : decode cX_compareWithKey 29 = .ok (.ldc 125, 2) := by decide +kernel
theorem dX_compareWithKey_31 : decode cX_compareWithKey 31 = .ok (.ixor, 1) := by decide +kernel
theorem dX_compareWithKey_32 : decode cX_compareWithKey 32 = .ok (.aload_n 0, 1) := by decide +kernel
theorem dX_compareWithKey_33 : decode cX_compareWithKey 33 = .ok (.getfield 13, 3) := by decide +kernel
theorem dX_compareWithKey_36 : decode cX_compareWithKey 36 = .ok (.iload_n 2, 1) := by decide +kernel
theorem dX_compareWithKey_37 : decode cX_compareWithKey 37 = .ok (.iaload, 1) := by decide +kernel
theorem dX_compareWithKey_38 : decode cX_compareWithKey 38 = .ok (.ldc 125, 2) := by decide +kernel
theorem dX_compareWithKey_40 : decode cX_compareWithKey 40 = .ok (.ixor, 1) := by decide +kernel
theorem dX_compareWithKey_41 : decode cX_compareWithKey 41 = .ok (.if_icmp .ge 7, 3) := by decide +kernel
theorem dX_compareWithKey_44 : decode cX_compareWithKey 44 = .ok (.iconst (-1), 1) := by decide +kernel
theorem dX_compareWithKey_45 : decode cX_compareWithKey 45 = .ok (.goto 4, 3) := by decide +kernel
theorem dX_compareWithKey_48 : decode cX_compareWithKey 48 = .ok (.iconst 1, 1) := by decide +kernel
theorem dX_compareWithKey_49 : decode cX_compareWithKey 49 = .ok (.ireturn, 1) := by decide +kernel
theorem dX_compareWithKey_50 : decode cX_compareWithKey 50 = .ok (.iinc 2 1, 3) := by decide +kernel
theorem dX_compareWithKey_53 : decode cX_compareWithKey 53 = .ok (.goto (-51), 3) := by decide +kernel
theorem dX_compareWithKey_56 : decode cX_compareWithKey 56 = .ok (.iconst 0, 1) := by decide +kernel
theorem dX_compareWithKey_57 : decode cX_compareWithKey 57 = .ok (.ireturn, 1) := by decide +kernel
theorem dX_freeSlot_0 : decode cX_freeSlot 0 = .ok (.iload_n 1, 1) := by decide +kernel
theorem dX_freeSlot_1 : decode cX_freeSlot 1 = .ok (.bipush 48, 2) := by decide +kernel
theorem dX_freeSlot_3 : decode cX_freeSlot 3 = .ok (.imul, 1) := by decide +kernel
theorem dX_freeSlot_4 : decode cX_freeSlot 4 = .ok (.istore_n 2, 1) := by decide +kernel
theorem dX_freeSlot_5 : decode cX_freeSlot 5 = .ok (.iload_n 2, 1) := by decide +kernel
theorem dX_freeSlot_6 : decode cX_freeSlot 6 = .ok (.istore_n 3, 1) := by decide +kernel
theorem dX_freeSlot_7 : decode cX_freeSlot 7 = .ok (.iload_n 3, 1) := by decide +kernel
theorem dX_freeSlot_8 : decode cX_freeSlot 8 = .ok (.iload_n 2, 1) := by decide +kernel
theorem dX_freeSlot_9 : decode cX_freeSlot 9 = .ok (.bipush 48, 2) := by decide +kernel
theorem dX_freeSlot_11 : decode cX_freeSlot 11 = .ok (.iadd, 1) := by decide +kernel
theorem dX_freeSlot_12 : decode cX_freeSlot 12 = .ok (.if_icmp .ge 20, 3) := by decide +kernel
theorem dX_freeSlot_15 : decode cX_freeSlot 15 = .ok (.aload_n 0, 1) := by decide +kernel
theorem dX_freeSlot_16 : decode cX_freeSlot 16 = .ok (.getfield 26, 3) := by decide +kernel
theorem dX_freeSlot_19 : decode cX_freeSlot 19 = .ok (.iload_n 3, 1) := by decide +kernel
theorem dX_freeSlot_20 : decode cX_freeSlot 20 = .ok (.iaload, 1) := by decide +kernel
theorem dX_freeSlot_21 : decode cX_freeSlot 21 = .ok (.ifCond .ne 5, 3) := by decide +kernel
theorem dX_freeSlot_24 : decode cX_freeSlot 24 = .ok (.iload_n 3, 1) := by decide +kernel
theorem dX_freeSlot_25 : decode cX_freeSlot 25 = .ok (.ireturn, 1) := by decide +kernel
theorem dX_freeSlot_26 : decode cX_freeSlot 26 = .ok (.iinc 3 1, 3) := by decide +kernel
theorem dX_freeSlot_29 : decode cX_freeSlot 29 = .ok (.goto (-22), 3) := by decide +kernel
theorem dX_freeSlot_32 : decode cX_freeSlot 32 = .ok (.iconst (-1), 1) := by decide +kernel
theorem dX_freeSlot_33 : decode cX_freeSlot 33 = .ok (.ireturn, 1) := by decide +kernel
theorem dX_keepKey_0 : decode cX_keepKey 0 = .ok (.iconst 0, 1) := by decide +kernel
theorem dX_keepKey_1 : decode cX_keepKey 1 = .ok (.istore_n 3, 1) := by decide +kernel
theorem dX_keepKey_2 : decode cX_keepKey 2 = .ok (.iload_n 3, 1) := by decide +kernel
theorem dX_keepKey_3 : decode cX_keepKey 3 = .ok (.iconst 5, 1) := by decide +kernel
theorem dX_keepKey_4 : decode cX_keepKey 4 = .ok (.if_icmp .ge 25, 3) := by decide +kernel
theorem dX_keepKey_7 : decode cX_keepKey 7 = .ok (.aload_n 0, 1) := by decide +kernel
theorem dX_keepKey_8 : decode cX_keepKey 8 = .ok (.getfield 23, 3) := by decide +kernel
theorem dX_keepKey_11 : decode cX_keepKey 11 = .ok (.iload_n 1, 1) := by decide +kernel
theorem dX_keepKey_12 : decode cX_keepKey 12 = .ok (.iconst 5, 1) := by decide +kernel
theorem dX_keepKey_13 : decode cX_keepKey 13 = .ok (.imul, 1) := by decide +kernel
theorem dX_keepKey_14 : decode cX_keepKey 14 = .ok (.iload_n 3, 1) := by decide +kernel
theorem dX_keepKey_15 : decode cX_keepKey 15 = .ok (.iadd, 1) := by decide +kernel
theorem dX_keepKey_16 : decode cX_keepKey 16 = .ok (.aload_n 0, 1) := by decide +kernel
theorem dX_keepKey_17 : decode cX_keepKey 17 = .ok (.getfield 13, 3) := by decide +kernel
theorem dX_keepKey_20 : decode cX_keepKey 20 = .ok (.iload_n 3, 1) := by decide +kernel
theorem dX_keepKey_21 : decode cX_keepKey 21 = .ok (.iaload, 1) := by decide +kernel
theorem dX_keepKey_22 : decode cX_keepKey 22 = .ok (.iastore, 1) := by decide +kernel
theorem dX_keepKey_23 : decode cX_keepKey 23 = .ok (.iinc 3 1, 3) := by decide +kernel
theorem dX_keepKey_26 : decode cX_keepKey 26 = .ok (.goto (-24), 3) := by decide +kernel
theorem dX_keepKey_29 : decode cX_keepKey 29 = .ok (.aload_n 0, 1) := by decide +kernel
theorem dX_keepKey_30 : decode cX_keepKey 30 = .ok (.getfield 26, 3) := by decide +kernel
theorem dX_keepKey_33 : decode cX_keepKey 33 = .ok (.iload_n 1, 1) := by decide +kernel
theorem dX_keepKey_34 : decode cX_keepKey 34 = .ok (.iload_n 2, 1) := by decide +kernel
theorem dX_keepKey_35 : decode cX_keepKey 35 = .ok (.iastore, 1) := by decide +kernel
theorem dX_keepKey_36 : decode cX_keepKey 36 = .ok (.return_, 1) := by decide +kernel
theorem dX_link_0 : decode cX_link 0 = .ok (.aload_n 0, 1) := by decide +kernel
theorem dX_link_1 : decode cX_link 1 = .ok (.aload_n 1, 1) := by decide +kernel
theorem dX_link_2 : decode cX_link 2 = .ok (.iload_n 2, 1) := by decide +kernel
theorem dX_link_3 : decode cX_link 3 = .ok (.invokevirtual 119, 3) := by decide +kernel
theorem dX_link_6 : decode cX_link 6 = .ok (.istore 4, 2) := by decide +kernel
theorem dX_link_8 : decode cX_link 8 = .ok (.aload_n 1, 1) := by decide +kernel
theorem dX_link_9 : decode cX_link 9 = .ok (.iload_n 3, 1) := by decide +kernel
theorem dX_link_10 : decode cX_link 10 = .ok (.aload_n 1, 1) := by decide +kernel
theorem dX_link_11 : decode cX_link 11 = .ok (.iload 4, 2) := by decide +kernel
theorem dX_link_13 : decode cX_link 13 = .ok (.iaload, 1) := by decide +kernel
theorem dX_link_14 : decode cX_link 14 = .ok (.iastore, 1) := by decide +kernel
theorem dX_link_15 : decode cX_link 15 = .ok (.aload_n 1, 1) := by decide +kernel
theorem dX_link_16 : decode cX_link 16 = .ok (.iload 4, 2) := by decide +kernel
theorem dX_link_18 : decode cX_link 18 = .ok (.iload_n 3, 1) := by decide +kernel
theorem dX_link_19 : decode cX_link 19 = .ok (.iastore, 1) := by decide +kernel
theorem dX_link_20 : decode cX_link 20 = .ok (.return_, 1) := by decide +kernel
theorem dX_unlinkKey_0 : decode cX_unlinkKey 0 = .ok (.aload_n 0, 1) := by decide +kernel
theorem dX_unlinkKey_1 : decode cX_unlinkKey 1 = .ok (.aload_n 1, 1) := by decide +kernel
theorem dX_unlinkKey_2 : decode cX_unlinkKey 2 = .ok (.iload_n 2, 1) := by decide +kernel
theorem dX_unlinkKey_3 : decode cX_unlinkKey 3 = .ok (.invokevirtual 119, 3) := by decide +kernel
theorem dX_unlinkKey_6 : decode cX_unlinkKey 6 = .ok (.istore_n 3, 1) := by decide +kernel
theorem dX_unlinkKey_7 : decode cX_unlinkKey 7 = .ok (.aload_n 1, 1) := by decide +kernel
theorem dX_unlinkKey_8 : decode cX_unlinkKey 8 = .ok (.iload_n 3, 1) := by decide +kernel
theorem dX_unlinkKey_9 : decode cX_unlinkKey 9 = .ok (.iaload, 1) := by decide +kernel
theorem dX_unlinkKey_10 : decode cX_unlinkKey 10 = .ok (.istore 4, 2) := by decide +kernel
theorem dX_unlinkKey_12 : decode cX_unlinkKey 12 = .ok (.iload 4, 2) := by decide +kernel
theorem dX_unlinkKey_14 : decode cX_unlinkKey 14 = .ok (.invokestatic 55, 3) := by decide +kernel
theorem dX_unlinkKey_17 : decode cX_unlinkKey 17 = .ok (.ifCond .eq 10, 3) := by decide +kernel
theorem dX_unlinkKey_20 : decode cX_unlinkKey 20 = .ok (.aload_n 1, 1) := by decide +kernel
theorem dX_unlinkKey_21 : decode cX_unlinkKey 21 = .ok (.iload_n 3, 1) := by decide +kernel
theorem dX_unlinkKey_22 : decode cX_unlinkKey 22 = .ok (.aload_n 1, 1) := by decide +kernel
theorem dX_unlinkKey_23 : decode cX_unlinkKey 23 = .ok (.iload 4, 2) := by decide +kernel
theorem dX_unlinkKey_25 : decode cX_unlinkKey 25 = .ok (.iaload, 1) := by decide +kernel
theorem dX_unlinkKey_26 : decode cX_unlinkKey 26 = .ok (.iastore, 1) := by decide +kernel
theorem dX_unlinkKey_27 : decode cX_unlinkKey 27 = .ok (.return_, 1) := by decide +kernel
theorem dX_slotInOrder_0 : decode cX_slotInOrder 0 = .ok (.iload_n 2, 1) := by decide +kernel
theorem dX_slotInOrder_1 : decode cX_slotInOrder 1 = .ok (.aload_n 0, 1) := by decide +kernel
theorem dX_slotInOrder_2 : decode cX_slotInOrder 2 = .ok (.getfield 32, 3) := by decide +kernel
theorem dX_slotInOrder_5 : decode cX_slotInOrder 5 = .ok (.iload_n 1, 1) := by decide +kernel
theorem dX_slotInOrder_6 : decode cX_slotInOrder 6 = .ok (.iaload, 1) := by decide +kernel
theorem dX_slotInOrder_7 : decode cX_slotInOrder 7 = .ok (.if_icmp .lt 5, 3) := by decide +kernel
theorem dX_slotInOrder_10 : decode cX_slotInOrder 10 = .ok (.iconst (-1), 1) := by decide +kernel
theorem dX_slotInOrder_11 : decode cX_slotInOrder 11 = .ok (.ireturn, 1) := by decide +kernel
theorem dX_slotInOrder_12 : decode cX_slotInOrder 12 = .ok (.aload_n 0, 1) := by decide +kernel
theorem dX_slotInOrder_13 : decode cX_slotInOrder 13 = .ok (.getfield 38, 3) := by decide +kernel
theorem dX_slotInOrder_16 : decode cX_slotInOrder 16 = .ok (.iload_n 1, 1) := by decide +kernel
theorem dX_slotInOrder_17 : decode cX_slotInOrder 17 = .ok (.invokestatic 82, 3) := by decide +kernel
theorem dX_slotInOrder_20 : decode cX_slotInOrder 20 = .ok (.iaload, 1) := by decide +kernel
theorem dX_slotInOrder_21 : decode cX_slotInOrder 21 = .ok (.istore_n 3, 1) := by decide +kernel
theorem dX_slotInOrder_22 : decode cX_slotInOrder 22 = .ok (.iconst 0, 1) := by decide +kernel
theorem dX_slotInOrder_23 : decode cX_slotInOrder 23 = .ok (.istore 4, 2) := by decide +kernel
theorem dX_slotInOrder_25 : decode cX_slotInOrder 25 = .ok (.iload 4, 2) := by decide +kernel
theorem dX_slotInOrder_27 : decode cX_slotInOrder 27 = .ok (.iload_n 2, 1) := by decide +kernel
theorem dX_slotInOrder_28 : decode cX_slotInOrder 28 = .ok (.if_icmp .ge 23, 3) := by decide +kernel
theorem dX_slotInOrder_31 : decode cX_slotInOrder 31 = .ok (.iload_n 3, 1) := by decide +kernel
theorem dX_slotInOrder_32 : decode cX_slotInOrder 32 = .ok (.invokestatic 55, 3) := by decide +kernel
theorem dX_slotInOrder_35 : decode cX_slotInOrder 35 = .ok (.ifCond .eq 16, 3) := by decide +kernel
theorem dX_slotInOrder_38 : decode cX_slotInOrder 38 = .ok (.aload_n 0, 1) := by decide +kernel
theorem dX_slotInOrder_39 : decode cX_slotInOrder 39 = .ok (.getfield 38, 3) := by decide +kernel
theorem dX_slotInOrder_42 : decode cX_slotInOrder 42 = .ok (.iload_n 3, 1) := by decide +kernel
theorem dX_slotInOrder_43 : decode cX_slotInOrder 43 = .ok (.iaload, 1) := by decide +kernel
theorem dX_slotInOrder_44 : decode cX_slotInOrder 44 = .ok (.istore_n 3, 1) := by decide +kernel
theorem dX_slotInOrder_45 : decode cX_slotInOrder 45 = .ok (.iinc 4 1, 3) := by decide +kernel
theorem dX_slotInOrder_48 : decode cX_slotInOrder 48 = .ok (.goto (-23), 3) := by decide +kernel
theorem dX_slotInOrder_51 : decode cX_slotInOrder 51 = .ok (.iload_n 3, 1) := by decide +kernel
theorem dX_slotInOrder_52 : decode cX_slotInOrder 52 = .ok (.ireturn, 1) := by decide +kernel
end
section
theorem dM_init_0 : decode cM_init 0 = .ok (.aload_n 0, 1) := by decide +kernel
theorem dM_init_1 : decode cM_init 1 = .ok (.invokespecial 1, 3) := by decide +kernel
theorem dM_init_4 : decode cM_init 4 = .ok (.aload_n 0, 1) := by decide +kernel
theorem dM_init_5 : decode cM_init 5 = .ok (.bipush 20, 2) := by decide +kernel
theorem dM_init_7 : decode cM_init 7 = .ok (.newarray .int, 2) := by decide +kernel
theorem dM_init_9 : decode cM_init 9 = .ok (.putfield 7, 3) := by decide +kernel
theorem dM_init_12 : decode cM_init 12 = .ok (.aload_n 0, 1) := by decide +kernel
theorem dM_init_13 : decode cM_init 13 = .ok (.bipush 8, 2) := by decide +kernel
theorem dM_init_15 : decode cM_init 15 = .ok (.newarray .int, 2) := by decide +kernel
theorem dM_init_17 : decode cM_init 17 = .ok (.putfield 13, 3) := by decide +kernel
theorem dM_init_20 : decode cM_init 20 = .ok (.aload_n 0, 1) := by decide +kernel
theorem dM_init_21 : decode cM_init 21 = .ok (.sipush 384, 3) := by decide +kernel
theorem dM_init_24 : decode cM_init 24 = .ok (.newarray .int, 2) := by decide +kernel
theorem dM_init_26 : decode cM_init 26 = .ok (.putfield 16, 3) := by decide +kernel
theorem dM_init_29 : decode cM_init 29 = .ok (.aload_n 0, 1) := by decide +kernel
theorem dM_init_30 : decode cM_init 30 = .ok (.sipush 384, 3) := by decide +kernel
theorem dM_init_33 : decode cM_init 33 = .ok (.newarray .int, 2) := by decide +kernel
theorem dM_init_35 : decode cM_init 35 = .ok (.putfield 19, 3) := by decide +kernel
theorem dM_init_38 : decode cM_init 38 = .ok (.aload_n 0, 1) := by decide +kernel
theorem dM_init_39 : decode cM_init 39 = .ok (.sipush 7680, 3) := by decide +kernel
theorem dM_init_42 : decode cM_init 42 = .ok (.newarray .int, 2) := by decide +kernel
theorem dM_init_44 : decode cM_init 44 = .ok (.putfield 22, 3) := by decide +kernel
theorem dM_init_47 : decode cM_init 47 = .ok (.aload_n 0, 1) := by decide +kernel
theorem dM_init_48 : decode cM_init 48 = .ok (.bipush 20, 2) := by decide +kernel
theorem dM_init_50 : decode cM_init 50 = .ok (.newarray .int, 2) := by decide +kernel
theorem dM_init_52 : decode cM_init 52 = .ok (.putfield 25, 3) := by decide +kernel
theorem dM_init_55 : decode cM_init 55 = .ok (.return_, 1) := by decide +kernel
theorem dM_thrown_0 : decode cM_thrown 0 = .ok (.aload_n 0, 1) := by decide +kernel
theorem dM_thrown_1 : decode cM_thrown 1 = .ok (.getfield 28, 3) := by decide +kernel
theorem dM_thrown_4 : decode cM_thrown 4 = .ok (.ireturn, 1) := by decide +kernel
theorem dM_throwing_0 : decode cM_throwing 0 = .ok (.aload_n 0, 1) := by decide +kernel
theorem dM_throwing_1 : decode cM_throwing 1 = .ok (.iload_n 1, 1) := by decide +kernel
theorem dM_throwing_2 : decode cM_throwing 2 = .ok (.ifCond .eq 7, 3) := by decide +kernel
theorem dM_throwing_5 : decode cM_throwing 5 = .ok (.iconst 1, 1) := by decide +kernel
theorem dM_throwing_6 : decode cM_throwing 6 = .ok (.goto 12, 3) := by decide +kernel
theorem dM_throwing_9 : decode cM_throwing 9 = .ok (.iload_n 2, 1) := by decide +kernel
theorem dM_throwing_10 : decode cM_throwing 10 = .ok (.ifCond .eq 7, 3) := by decide +kernel
theorem dM_throwing_13 : decode cM_throwing 13 = .ok (.iconst 2, 1) := by decide +kernel
theorem dM_throwing_14 : decode cM_throwing 14 = .ok (.goto 4, 3) := by decide +kernel
theorem dM_throwing_17 : decode cM_throwing 17 = .ok (.iconst 0, 1) := by decide +kernel
theorem dM_throwing_18 : decode cM_throwing 18 = .ok (.putfield 28, 3) := by decide +kernel
theorem dM_throwing_21 : decode cM_throwing 21 = .ok (.aload_n 0, 1) := by decide +kernel
theorem dM_throwing_22 : decode cM_throwing 22 = .ok (.getfield 28, 3) := by decide +kernel
theorem dM_throwing_25 : decode cM_throwing 25 = .ok (.ifCond .le 7, 3) := by decide +kernel
theorem dM_throwing_28 : decode cM_throwing 28 = .ok (.iconst 1, 1) := by decide +kernel
theorem dM_throwing_29 : decode cM_throwing 29 = .ok (.goto 4, 3) := by decide +kernel
theorem dM_throwing_32 : decode cM_throwing 32 = .ok (.iconst 0, 1) := by decide +kernel
theorem dM_throwing_33 : decode cM_throwing 33 = .ok (.ireturn, 1) := by decide +kernel
theorem dM_say_0 : decode cM_say 0 = .ok (.aload_n 0, 1) := by decide +kernel
theorem dM_say_1 : decode cM_say 1 = .ok (.iconst 0, 1) := by decide +kernel
theorem dM_say_2 : decode cM_say 2 = .ok (.putfield 28, 3) := by decide +kernel
theorem dM_say_5 : decode cM_say 5 = .ok (.iconst 0, 1) := by decide +kernel
theorem dM_say_6 : decode cM_say 6 = .ok (.istore 6, 2) := by decide +kernel
theorem dM_say_8 : decode cM_say 8 = .ok (.iload 6, 2) := by decide +kernel
theorem dM_say_10 : decode cM_say 10 = .ok (.bipush 20, 2) := by decide +kernel
theorem dM_say_12 : decode cM_say 12 = .ok (.if_icmp .ge 81, 3) := by decide +kernel
theorem dM_say_15 : decode cM_say 15 = .ok (.iload 6, 2) := by decide +kernel
theorem dM_say_17 : decode cM_say 17 = .ok (.iconst 4, 1) := by decide +kernel
theorem dM_say_18 : decode cM_say 18 = .ok (.if_icmp .ge 7, 3) := by decide +kernel
theorem dM_say_21 : decode cM_say 21 = .ok (.iload_n 1, 1) := by decide +kernel
theorem dM_say_22 : decode cM_say 22 = .ok (.goto 39, 3) := by decide +kernel
theorem dM_say_25 : decode cM_say 25 = .ok (.iload 6, 2) := by decide +kernel
theorem dM_say_27 : decode cM_say 27 = .ok (.bipush 8, 2) := by decide +kernel
theorem dM_say_29 : decode cM_say 29 = .ok (.if_icmp .ge 7, 3) := by decide +kernel
theorem dM_say_32 : decode cM_say 32 = .ok (.iload_n 2, 1) := by decide +kernel
theorem dM_say_33 : decode cM_say 33 = .ok (.goto 28, 3) := by decide +kernel
theorem dM_say_36 : decode cM_say 36 = .ok (.iload 6, 2) := by decide +kernel
theorem dM_say_38 : decode cM_say 38 = .ok (.bipush 12, 2) := by decide +kernel
theorem dM_say_40 : decode cM_say 40 = .ok (.if_icmp .ge 7, 3) := by decide +kernel
theorem dM_say_43 : decode cM_say 43 = .ok (.iload_n 3, 1) := by decide +kernel
theorem dM_say_44 : decode cM_say 44 = .ok (.goto 17, 3) := by decide +kernel
theorem dM_say_47 : decode cM_say 47 = .ok (.iload 6, 2) := by decide +kernel
theorem dM_say_49 : decode cM_say 49 = .ok (.bipush 16, 2) := by decide +kernel
theorem dM_say_51 : decode cM_say 51 = .ok (.if_icmp .ge 8, 3) := by decide +kernel
theorem dM_say_54 : decode cM_say 54 = .ok (.iload 4, 2) := by decide +kernel
theorem dM_say_56 : decode cM_say 56 = .ok (.goto 5, 3) := by decide +kernel
theorem dM_say_59 : decode cM_say 59 = .ok (.iload 5, 2) := by decide +kernel
theorem dM_say_61 : decode cM_say 61 = .ok (.istore 7, 2) := by decide +kernel
theorem dM_say_63 : decode cM_say 63 = .ok (.aload_n 0, 1) := by decide +kernel
theorem dM_say_64 : decode cM_say 64 = .ok (.getfield 7, 3) := by decide +kernel
theorem dM_say_67 : decode cM_say 67 = .ok (.iload 6, 2) := by decide +kernel
theorem dM_say_69 : decode cM_say 69 = .ok (.iload 7, 2) := by decide +kernel
theorem dM_say_71 : decode cM_say 71 = .ok (.bipush 24, 2) := by decide +kernel
theorem dM_say_73 : decode cM_say 73 = .ok (.bipush 8, 2) := by decide +kernel
theorem dM_say_75 : decode cM_say 75 = .ok (.iload 6, 2) := by decide +kernel
theorem dM_say_77 : decode cM_say 77 = .ok (.iconst 4, 1) := by decide +kernel
theorem dM_say_78 : decode cM_say 78 = .ok (.irem, 1) := by decide +kernel
theorem dM_say_79 : decode cM_say 79 = .ok (.imul, 1) := by decide +kernel
theorem dM_say_80 : decode cM_say 80 = .ok (.isub, 1) := by decide +kernel
theorem dM_say_81 : decode cM_say 81 = .ok (.ishr, 1) := by decide +kernel
theorem dM_say_82 : decode cM_say 82 = .ok (.sipush 255, 3) := by decide +kernel
theorem dM_say_85 : decode cM_say 85 = .ok (.iand, 1) := by decide +kernel
theorem dM_say_86 : decode cM_say 86 = .ok (.iastore, 1) := by decide +kernel
theorem dM_say_87 : decode cM_say 87 = .ok (.iinc 6 1, 3) := by decide +kernel
theorem dM_say_90 : decode cM_say 90 = .ok (.goto (-82), 3) := by decide +kernel
theorem dM_say_93 : decode cM_say 93 = .ok (.return_, 1) := by decide +kernel
theorem dM_isDirectory_0 : decode cM_isDirectory 0 = .ok (.iload_n 0, 1) := by decide +kernel
theorem dM_isDirectory_1 : decode cM_isDirectory 1 = .ok (.ifCond .lt 13, 3) := by decide +kernel
theorem dM_isDirectory_4 : decode cM_isDirectory 4 = .ok (.iload_n 0, 1) := by decide +kernel
theorem dM_isDirectory_5 : decode cM_isDirectory 5 = .ok (.bipush 8, 2) := by decide +kernel
theorem dM_isDirectory_7 : decode cM_isDirectory 7 = .ok (.if_icmp .ge 7, 3) := by decide +kernel
theorem dM_isDirectory_10 : decode cM_isDirectory 10 = .ok (.iconst 1, 1) := by decide +kernel
theorem dM_isDirectory_11 : decode cM_isDirectory 11 = .ok (.goto 4, 3) := by decide +kernel
theorem dM_isDirectory_14 : decode cM_isDirectory 14 = .ok (.iconst 0, 1) := by decide +kernel
theorem dM_isDirectory_15 : decode cM_isDirectory 15 = .ok (.ireturn, 1) := by decide +kernel
theorem dM_isName_0 : decode cM_isName 0 = .ok (.iload_n 1, 1) := by decide +kernel
theorem dM_isName_1 : decode cM_isName 1 = .ok (.ifCond .le 13, 3) := by decide +kernel
theorem dM_isName_4 : decode cM_isName 4 = .ok (.iload_n 1, 1) := by decide +kernel
theorem dM_isName_5 : decode cM_isName 5 = .ok (.bipush 21, 2) := by decide +kernel
theorem dM_isName_7 : decode cM_isName 7 = .ok (.if_icmp .ge 7, 3) := by decide +kernel
theorem dM_isName_10 : decode cM_isName 10 = .ok (.iconst 1, 1) := by decide +kernel
theorem dM_isName_11 : decode cM_isName 11 = .ok (.goto 4, 3) := by decide +kernel
theorem dM_isName_14 : decode cM_isName 14 = .ok (.iconst 0, 1) := by decide +kernel
theorem dM_isName_15 : decode cM_isName 15 = .ok (.istore_n 2, 1) := by decide +kernel
theorem dM_isName_16 : decode cM_isName 16 = .ok (.iconst 0, 1) := by decide +kernel
theorem dM_isName_17 : decode cM_isName 17 = .ok (.istore_n 3, 1) := by decide +kernel
theorem dM_isName_18 : decode cM_isName 18 = .ok (.iload_n 3, 1) := by decide +kernel
theorem dM_isName_19 : decode cM_isName 19 = .ok (.iload_n 1, 1) := by decide +kernel
theorem dM_isName_20 : decode cM_isName 20 = .ok (.if_icmp .ge 39, 3) := by decide +kernel
theorem dM_isName_23 : decode cM_isName 23 = .ok (.iload_n 2, 1) := by decide +kernel
theorem dM_isName_24 : decode cM_isName 24 = .ok (.ifCond .eq 35, 3) := by decide +kernel
theorem dM_isName_27 : decode cM_isName 27 = .ok (.aload_n 0, 1) := by decide +kernel
theorem dM_isName_28 : decode cM_isName 28 = .ok (.getfield 7, 3) := by decide +kernel
theorem dM_isName_31 : decode cM_isName 31 = .ok (.iload_n 3, 1) := by decide +kernel
theorem dM_isName_32 : decode cM_isName 32 = .ok (.iaload, 1) := by decide +kernel
theorem dM_isName_33 : decode cM_isName 33 = .ok (.ifCond .eq 18, 3) := by decide +kernel
theorem dM_isName_36 : decode cM_isName 36 = .ok (.aload_n 0, 1) := by decide +kernel
theorem dM_isName_37 : decode cM_isName 37 = .ok (.getfield 7, 3) := by decide +kernel
theorem dM_isName_40 : decode cM_isName 40 = .ok (.iload_n 3, 1) := by decide +kernel
theorem dM_isName_41 : decode cM_isName 41 = .ok (.iaload, 1) := by decide +kernel
theorem dM_isName_42 : decode cM_isName 42 = .ok (.bipush 47, 2) := by decide +kernel
theorem dM_isName_44 : decode cM_isName 44 = .ok (.if_icmp .eq 7, 3) := by decide +kernel
theorem dM_isName_47 : decode cM_isName 47 = .ok (.iconst 1, 1) := by decide +kernel
theorem dM_isName_48 : decode cM_isName 48 = .ok (.goto 4, 3) := by decide +kernel
theorem dM_isName_51 : decode cM_isName 51 = .ok (.iconst 0, 1) := by decide +kernel
theorem dM_isName_52 : decode cM_isName 52 = .ok (.istore_n 2, 1) := by decide +kernel
theorem dM_isName_53 : decode cM_isName 53 = .ok (.iinc 3 1, 3) := by decide +kernel
theorem dM_isName_56 : decode cM_isName 56 = .ok (.goto (-38), 3) := by decide +kernel
theorem dM_isName_59 : decode cM_isName 59 = .ok (.iload_n 2, 1) := by decide +kernel
theorem dM_isName_60 : decode cM_isName 60 = .ok (.ireturn, 1) := by decide +kernel
theorem dM_compare_0 : decode cM_compare 0 = .ok (.iconst 0, 1) := by decide +kernel
theorem dM_compare_1 : decode cM_compare 1 = .ok (.istore_n 3, 1) := by decide +kernel
theorem dM_compare_2 : decode cM_compare 2 = .ok (.iload_n 3, 1) := by decide +kernel
theorem dM_compare_3 : decode cM_compare 3 = .ok (.iload_n 1, 1) := by decide +kernel
theorem dM_compare_4 : decode cM_compare 4 = .ok (.if_icmp .ge 47, 3) := by decide +kernel
theorem dM_compare_7 : decode cM_compare 7 = .ok (.iload_n 3, 1) := by decide +kernel
theorem dM_compare_8 : decode cM_compare 8 = .ok (.aload_n 0, 1) := by decide +kernel
theorem dM_compare_9 : decode cM_compare 9 = .ok (.getfield 19, 3) := by decide +kernel
theorem dM_compare_12 : decode cM_compare 12 = .ok (.iload_n 2, 1) := by decide +kernel
theorem dM_compare_13 : decode cM_compare 13 = .ok (.iaload, 1) := by decide +kernel
theorem dM_compare_14 : decode cM_compare 14 = .ok (.if_icmp .ge 37, 3) := by decide +kernel
theorem dM_compare_17 : decode cM_compare 17 = .ok (.aload_n 0, 1) := by decide +kernel
theorem dM_compare_18 : decode cM_compare 18 = .ok (.getfield 7, 3) := by decide +kernel
theorem dM_compare_21 : decode cM_compare 21 = .ok (.iload_n 3, 1) := by decide +kernel
theorem dM_compare_22 : decode cM_compare 22 = .ok (.iaload, 1) := by decide +kernel
theorem dM_compare_23 : decode cM_compare 23 = .ok (.aload_n 0, 1) := by decide +kernel
theorem dM_compare_24 : decode cM_compare 24 = .ok (.getfield 22, 3) := by decide +kernel
theorem dM_compare_27 : decode cM_compare 27 = .ok (.bipush 20, 2) := by decide +kernel
theorem dM_compare_29 : decode cM_compare 29 = .ok (.iload_n 2, 1) := by decide +kernel
theorem dM_compare_30 : decode cM_compare 30 = .ok (.imul, 1) := by decide +kernel
theorem dM_compare_31 : decode cM_compare 31 = .ok (.iload_n 3, 1) := by decide +kernel
theorem dM_compare_32 : decode cM_compare 32 = .ok (.iadd, 1) := by decide +kernel
theorem dM_compare_33 : decode cM_compare 33 = .ok (.iaload, 1) := by decide +kernel
theorem dM_compare_34 : decode cM_compare 34 = .ok (.isub, 1) := by decide +kernel
theorem dM_compare_35 : decode cM_compare 35 = .ok (.istore 4, 2) := by decide +kernel
theorem dM_compare_37 : decode cM_compare 37 = .ok (.iload 4, 2) := by decide +kernel
theorem dM_compare_39 : decode cM_compare 39 = .ok (.ifCond .eq 6, 3) := by decide +kernel
theorem dM_compare_42 : decode cM_compare 42 = .ok (.iload 4, 2) := by decide +kernel
theorem dM_compare_44 : decode cM_compare 44 = .ok (.ireturn, 1) := by decide +kernel
theorem dM_compare_45 : decode cM_compare 45 = .ok (.iinc 3 1, 3) := by decide +kernel
theorem dM_compare_48 : decode cM_compare 48 = .ok (.goto (-46), 3) := by decide +kernel
theorem dM_compare_51 : decode cM_compare 51 = .ok (.iload_n 1, 1) := by decide +kernel
theorem dM_compare_52 : decode cM_compare 52 = .ok (.aload_n 0, 1) := by decide +kernel
theorem dM_compare_53 : decode cM_compare 53 = .ok (.getfield 19, 3) := by decide +kernel
theorem dM_compare_56 : decode cM_compare 56 = .ok (.iload_n 2, 1) := by decide +kernel
theorem dM_compare_57 : decode cM_compare 57 = .ok (.iaload, 1) := by decide +kernel
theorem dM_compare_58 : decode cM_compare 58 = .ok (.isub, 1) := by decide +kernel
theorem dM_compare_59 : decode cM_compare 59 = .ok (.ireturn, 1) := by decide +kernel
theorem dM_place_0 : decode cM_place 0 = .ok (.iconst 0, 1) := by decide +kernel
theorem dM_place_1 : decode cM_place 1 = .ok (.istore_n 3, 1) := by decide +kernel
theorem dM_place_2 : decode cM_place 2 = .ok (.iload_n 3, 1) := by decide +kernel
theorem dM_place_3 : decode cM_place 3 = .ok (.aload_n 0, 1) := by decide +kernel
theorem dM_place_4 : decode cM_place 4 = .ok (.getfield 13, 3) := by decide +kernel
theorem dM_place_7 : decode cM_place 7 = .ok (.iload_n 1, 1) := by decide +kernel
theorem dM_place_8 : decode cM_place 8 = .ok (.iaload, 1) := by decide +kernel
theorem dM_place_9 : decode cM_place 9 = .ok (.if_icmp .ge 23, 3) := by decide +kernel
theorem dM_place_12 : decode cM_place 12 = .ok (.aload_n 0, 1) := by decide +kernel
theorem dM_place_13 : decode cM_place 13 = .ok (.iload_n 2, 1) := by decide +kernel
theorem dM_place_14 : decode cM_place 14 = .ok (.bipush 48, 2) := by decide +kernel
theorem dM_place_16 : decode cM_place 16 = .ok (.iload_n 1, 1) := by decide +kernel
theorem dM_place_17 : decode cM_place 17 = .ok (.imul, 1) := by decide +kernel
theorem dM_place_18 : decode cM_place 18 = .ok (.iload_n 3, 1) := by decide +kernel
theorem dM_place_19 : decode cM_place 19 = .ok (.iadd, 1) := by decide +kernel
theorem dM_place_20 : decode cM_place 20 = .ok (.invokevirtual 32, 3) := by decide +kernel
theorem dM_place_23 : decode cM_place 23 = .ok (.ifCond .le 9, 3) := by decide +kernel
theorem dM_place_26 : decode cM_place 26 = .ok (.iinc 3 1, 3) := by decide +kernel
theorem dM_place_29 : decode cM_place 29 = .ok (.goto (-27), 3) := by decide +kernel
theorem dM_place_32 : decode cM_place 32 = .ok (.bipush 48, 2) := by decide +kernel
theorem dM_place_34 : decode cM_place 34 = .ok (.iload_n 1, 1) := by decide +kernel
theorem dM_place_35 : decode cM_place 35 = .ok (.imul, 1) := by decide +kernel
theorem dM_place_36 : decode cM_place 36 = .ok (.iload_n 3, 1) := by decide +kernel
theorem dM_place_37 : decode cM_place 37 = .ok (.iadd, 1) := by decide +kernel
theorem dM_place_38 : decode cM_place 38 = .ok (.ireturn, 1) := by decide +kernel
theorem dM_isAt_0 : decode cM_isAt 0 = .ok (.iload_n 1, 1) := by decide +kernel
theorem dM_isAt_1 : decode cM_isAt 1 = .ok (.bipush 48, 2) := by decide +kernel
theorem dM_isAt_3 : decode cM_isAt 3 = .ok (.iload_n 2, 1) := by decide +kernel
theorem dM_isAt_4 : decode cM_isAt 4 = .ok (.imul, 1) := by decide +kernel
theorem dM_isAt_5 : decode cM_isAt 5 = .ok (.aload_n 0, 1) := by decide +kernel
theorem dM_isAt_6 : decode cM_isAt 6 = .ok (.getfield 13, 3) := by decide +kernel
theorem dM_isAt_9 : decode cM_isAt 9 = .ok (.iload_n 2, 1) := by decide +kernel
theorem dM_isAt_10 : decode cM_isAt 10 = .ok (.iaload, 1) := by decide +kernel
theorem dM_isAt_11 : decode cM_isAt 11 = .ok (.iadd, 1) := by decide +kernel
theorem dM_isAt_12 : decode cM_isAt 12 = .ok (.if_icmp .ge 16, 3) := by decide +kernel
theorem dM_isAt_15 : decode cM_isAt 15 = .ok (.aload_n 0, 1) := by decide +kernel
theorem dM_isAt_16 : decode cM_isAt 16 = .ok (.iload_n 3, 1) := by decide +kernel
theorem dM_isAt_17 : decode cM_isAt 17 = .ok (.iload_n 1, 1) := by decide +kernel
theorem dM_isAt_18 : decode cM_isAt 18 = .ok (.invokevirtual 32, 3) := by decide +kernel
theorem dM_isAt_21 : decode cM_isAt 21 = .ok (.ifCond .ne 7, 3) := by decide +kernel
theorem dM_isAt_24 : decode cM_isAt 24 = .ok (.iconst 1, 1) := by decide +kernel
theorem dM_isAt_25 : decode cM_isAt 25 = .ok (.goto 4, 3) := by decide +kernel
theorem dM_isAt_28 : decode cM_isAt 28 = .ok (.iconst 0, 1) := by decide +kernel
theorem dM_isAt_29 : decode cM_isAt 29 = .ok (.ireturn, 1) := by decide +kernel
theorem dM_move_0 : decode cM_move 0 = .ok (.aload_n 0, 1) := by decide +kernel
theorem dM_move_1 : decode cM_move 1 = .ok (.getfield 16, 3) := by decide +kernel
theorem dM_move_4 : decode cM_move 4 = .ok (.iload_n 2, 1) := by decide +kernel
theorem dM_move_5 : decode cM_move 5 = .ok (.aload_n 0, 1) := by decide +kernel
theorem dM_move_6 : decode cM_move 6 = .ok (.getfield 16, 3) := by decide +kernel
theorem dM_move_9 : decode cM_move 9 = .ok (.iload_n 1, 1) := by decide +kernel
theorem dM_move_10 : decode cM_move 10 = .ok (.iaload, 1) := by decide +kernel
theorem dM_move_11 : decode cM_move 11 = .ok (.iastore, 1) := by decide +kernel
theorem dM_move_12 : decode cM_move 12 = .ok (.aload_n 0, 1) := by decide +kernel
theorem dM_move_13 : decode cM_move 13 = .ok (.getfield 19, 3) := by decide +kernel
theorem dM_move_16 : decode cM_move 16 = .ok (.iload_n 2, 1) := by decide +kernel
theorem dM_move_17 : decode cM_move 17 = .ok (.aload_n 0, 1) := by decide +kernel
theorem dM_move_18 : decode cM_move 18 = .ok (.getfield 19, 3) := by decide +kernel
theorem dM_move_21 : decode cM_move 21 = .ok (.iload_n 1, 1) := by decide +kernel
theorem dM_move_22 : decode cM_move 22 = .ok (.iaload, 1) := by decide +kernel
theorem dM_move_23 : decode cM_move 23 = .ok (.iastore, 1) := by decide +kernel
theorem dM_move_24 : decode cM_move 24 = .ok (.iconst 0, 1) := by decide +kernel
theorem dM_move_25 : decode cM_move 25 = .ok (.istore_n 3, 1) := by decide +kernel
theorem dM_move_26 : decode cM_move 26 = .ok (.iload_n 3, 1) := by decide +kernel
theorem dM_move_27 : decode cM_move 27 = .ok (.bipush 20, 2) := by decide +kernel
theorem dM_move_29 : decode cM_move 29 = .ok (.if_icmp .ge 31, 3) := by decide +kernel
theorem dM_move_32 : decode cM_move 32 = .ok (.aload_n 0, 1) := by decide +kernel
theorem dM_move_33 : decode cM_move 33 = .ok (.getfield 22, 3) := by decide +kernel
theorem dM_move_36 : decode cM_move 36 = .ok (.bipush 20, 2) := by decide +kernel
theorem dM_move_38 : decode cM_move 38 = .ok (.iload_n 2, 1) := by decide +kernel
theorem dM_move_39 : decode cM_move 39 = .ok (.imul, 1) := by decide +kernel
theorem dM_move_40 : decode cM_move 40 = .ok (.iload_n 3, 1) := by decide +kernel
theorem dM_move_41 : decode cM_move 41 = .ok (.iadd, 1) := by decide +kernel
theorem dM_move_42 : decode cM_move 42 = .ok (.aload_n 0, 1) := by decide +kernel
theorem dM_move_43 : decode cM_move 43 = .ok (.getfield 22, 3) := by decide +kernel
theorem dM_move_46 : decode cM_move 46 = .ok (.bipush 20, 2) := by decide +kernel
theorem dM_move_48 : decode cM_move 48 = .ok (.iload_n 1, 1) := by decide +kernel
theorem dM_move_49 : decode cM_move 49 = .ok (.imul, 1) := by decide +kernel
theorem dM_move_50 : decode cM_move 50 = .ok (.iload_n 3, 1) := by decide +kernel
theorem dM_move_51 : decode cM_move 51 = .ok (.iadd, 1) := by decide +kernel
theorem dM_move_52 : decode cM_move 52 = .ok (.iaload, 1) := by decide +kernel
theorem dM_move_53 : decode cM_move 53 = .ok (.iastore, 1) := by decide +kernel
theorem dM_move_54 : decode cM_move 54 = .ok (.iinc 3 1, 3) := by decide +kernel
theorem dM_move_57 : decode cM_move 57 = .ok (.goto (-31), 3) := by decide +kernel
theorem dM_move_60 : decode cM_move 60 = .ok (.return_, 1) := by decide +kernel
theorem dM_isId_0 : decode cM_isId 0 = .ok (.iload_n 0, 1) := by decide +kernel
theorem dM_isId_1 : decode cM_isId 1 = .ok (.ifCond .le 13, 3) := by decide +kernel
theorem dM_isId_4 : decode cM_isId 4 = .ok (.iload_n 0, 1) := by decide +kernel
theorem dM_isId_5 : decode cM_isId 5 = .ok (.ldc 36, 2) := by decide +kernel
theorem dM_isId_7 : decode cM_isId 7 = .ok (.if_icmp .ge 7, 3) := by decide +kernel
theorem dM_isId_10 : decode cM_isId 10 = .ok (.iconst 1, 1) := by decide +kernel
theorem dM_isId_11 : decode cM_isId 11 = .ok (.goto 4, 3) := by decide +kernel
theorem dM_isId_14 : decode cM_isId 14 = .ok (.iconst 0, 1) := by decide +kernel
theorem dM_isId_15 : decode cM_isId 15 = .ok (.ireturn, 1) := by decide +kernel
theorem dM_add_0 : decode cM_add 0 = .ok (.iload_n 1, 1) := by decide +kernel
theorem dM_add_1 : decode cM_add 1 = .ok (.invokestatic 37, 3) := by decide +kernel
theorem dM_add_4 : decode cM_add 4 = .ok (.ifCond .eq 18, 3) := by decide +kernel
theorem dM_add_7 : decode cM_add 7 = .ok (.aload_n 0, 1) := by decide +kernel
theorem dM_add_8 : decode cM_add 8 = .ok (.iload_n 2, 1) := by decide +kernel
theorem dM_add_9 : decode cM_add 9 = .ok (.invokevirtual 41, 3) := by decide +kernel
theorem dM_add_12 : decode cM_add 12 = .ok (.ifCond .eq 10, 3) := by decide +kernel
theorem dM_add_15 : decode cM_add 15 = .ok (.iload_n 3, 1) := by decide +kernel
theorem dM_add_16 : decode cM_add 16 = .ok (.invokestatic 44, 3) := by decide +kernel
theorem dM_add_19 : decode cM_add 19 = .ok (.ifCond .ne 7, 3) := by decide +kernel
theorem dM_add_22 : decode cM_add 22 = .ok (.iconst 1, 1) := by decide +kernel
theorem dM_add_23 : decode cM_add 23 = .ok (.goto 4, 3) := by decide +kernel
theorem dM_add_26 : decode cM_add 26 = .ok (.iconst 0, 1) := by decide +kernel
theorem dM_add_27 : decode cM_add 27 = .ok (.istore 4, 2) := by decide +kernel
theorem dM_add_29 : decode cM_add 29 = .ok (.iload 4, 2) := by decide +kernel
theorem dM_add_31 : decode cM_add 31 = .ok (.ifCond .eq 7, 3) := by decide +kernel
theorem dM_add_34 : decode cM_add 34 = .ok (.iconst 0, 1) := by decide +kernel
theorem dM_add_35 : decode cM_add 35 = .ok (.goto 9, 3) := by decide +kernel
theorem dM_add_38 : decode cM_add 38 = .ok (.aload_n 0, 1) := by decide +kernel
theorem dM_add_39 : decode cM_add 39 = .ok (.iload_n 1, 1) := by decide +kernel
theorem dM_add_40 : decode cM_add 40 = .ok (.iload_n 2, 1) := by decide +kernel
theorem dM_add_41 : decode cM_add 41 = .ok (.invokevirtual 47, 3) := by decide +kernel
theorem dM_add_44 : decode cM_add 44 = .ok (.istore 5, 2) := by decide +kernel
theorem dM_add_46 : decode cM_add 46 = .ok (.aload_n 0, 1) := by decide +kernel
theorem dM_add_47 : decode cM_add 47 = .ok (.iload 4, 2) := by decide +kernel
theorem dM_add_49 : decode cM_add 49 = .ok (.iload 4, 2) := by decide +kernel
theorem dM_add_51 : decode cM_add 51 = .ok (.ifCond .ne 29, 3) := by decide +kernel
theorem dM_add_54 : decode cM_add 54 = .ok (.aload_n 0, 1) := by decide +kernel
theorem dM_add_55 : decode cM_add 55 = .ok (.iload 5, 2) := by decide +kernel
theorem dM_add_57 : decode cM_add 57 = .ok (.iload_n 1, 1) := by decide +kernel
theorem dM_add_58 : decode cM_add 58 = .ok (.iload_n 2, 1) := by decide +kernel
theorem dM_add_59 : decode cM_add 59 = .ok (.invokevirtual 50, 3) := by decide +kernel
theorem dM_add_62 : decode cM_add 62 = .ok (.ifCond .ne 14, 3) := by decide +kernel
theorem dM_add_65 : decode cM_add 65 = .ok (.aload_n 0, 1) := by decide +kernel
theorem dM_add_66 : decode cM_add 66 = .ok (.getfield 13, 3) := by decide +kernel
theorem dM_add_69 : decode cM_add 69 = .ok (.iload_n 1, 1) := by decide +kernel
theorem dM_add_70 : decode cM_add 70 = .ok (.iaload, 1) := by decide +kernel
theorem dM_add_71 : decode cM_add 71 = .ok (.bipush 48, 2) := by decide +kernel
theorem dM_add_73 : decode cM_add 73 = .ok (.if_icmp .ne 7, 3) := by decide +kernel
theorem dM_add_76 : decode cM_add 76 = .ok (.iconst 1, 1) := by decide +kernel
theorem dM_add_77 : decode cM_add 77 = .ok (.goto 4, 3) := by decide +kernel
theorem dM_add_80 : decode cM_add 80 = .ok (.iconst 0, 1) := by decide +kernel
theorem dM_add_81 : decode cM_add 81 = .ok (.invokevirtual 54, 3) := by decide +kernel
theorem dM_add_84 : decode cM_add 84 = .ok (.ifCond .eq 5, 3) := by decide +kernel
theorem dM_add_87 : decode cM_add 87 = .ok (.iconst 0, 1) := by decide +kernel
theorem dM_add_88 : decode cM_add 88 = .ok (.ireturn, 1) := by decide +kernel
theorem dM_add_89 : decode cM_add 89 = .ok (.bipush 48, 2) := by decide +kernel
theorem dM_add_91 : decode cM_add 91 = .ok (.iload_n 1, 1) := by decide +kernel
theorem dM_add_92 : decode cM_add 92 = .ok (.imul, 1) := by decide +kernel
theorem dM_add_93 : decode cM_add 93 = .ok (.aload_n 0, 1) := by decide +kernel
theorem dM_add_94 : decode cM_add 94 = .ok (.getfield 13, 3) := by decide +kernel
theorem dM_add_97 : decode cM_add 97 = .ok (.iload_n 1, 1) := by decide +kernel
theorem dM_add_98 : decode cM_add 98 = .ok (.iaload, 1) := by decide +kernel
theorem dM_add_99 : decode cM_add 99 = .ok (.iadd, 1) := by decide +kernel
theorem dM_add_100 : decode cM_add 100 = .ok (.istore 6, 2) := by decide +kernel
theorem dM_add_102 : decode cM_add 102 = .ok (.iload 6, 2) := by decide +kernel
theorem dM_add_104 : decode cM_add 104 = .ok (.iload 5, 2) := by decide +kernel
theorem dM_add_106 : decode cM_add 106 = .ok (.if_icmp .le 19, 3) := by decide +kernel
theorem dM_add_109 : decode cM_add 109 = .ok (.aload_n 0, 1) := by decide +kernel
theorem dM_add_110 : decode cM_add 110 = .ok (.iload 6, 2) := by decide +kernel
theorem dM_add_112 : decode cM_add 112 = .ok (.iconst 1, 1) := by decide +kernel
theorem dM_add_113 : decode cM_add 113 = .ok (.isub, 1) := by decide +kernel
theorem dM_add_114 : decode cM_add 114 = .ok (.iload 6, 2) := by decide +kernel
theorem dM_add_116 : decode cM_add 116 = .ok (.invokevirtual 58, 3) := by decide +kernel
theorem dM_add_119 : decode cM_add 119 = .ok (.iinc 6 (-1), 3) := by decide +kernel
theorem dM_add_122 : decode cM_add 122 = .ok (.goto (-20), 3) := by decide +kernel
theorem dM_add_125 : decode cM_add 125 = .ok (.aload_n 0, 1) := by decide +kernel
theorem dM_add_126 : decode cM_add 126 = .ok (.getfield 16, 3) := by decide +kernel
theorem dM_add_129 : decode cM_add 129 = .ok (.iload 5, 2) := by decide +kernel
theorem dM_add_131 : decode cM_add 131 = .ok (.iload_n 3, 1) := by decide +kernel
theorem dM_add_132 : decode cM_add 132 = .ok (.iastore, 1) := by decide +kernel
theorem dM_add_133 : decode cM_add 133 = .ok (.aload_n 0, 1) := by decide +kernel
theorem dM_add_134 : decode cM_add 134 = .ok (.getfield 19, 3) := by decide +kernel
theorem dM_add_137 : decode cM_add 137 = .ok (.iload 5, 2) := by decide +kernel
theorem dM_add_139 : decode cM_add 139 = .ok (.iload_n 2, 1) := by decide +kernel
theorem dM_add_140 : decode cM_add 140 = .ok (.iastore, 1) := by decide +kernel
theorem dM_add_141 : decode cM_add 141 = .ok (.iconst 0, 1) := by decide +kernel
theorem dM_add_142 : decode cM_add 142 = .ok (.istore 6, 2) := by decide +kernel
theorem dM_add_144 : decode cM_add 144 = .ok (.iload 6, 2) := by decide +kernel
theorem dM_add_146 : decode cM_add 146 = .ok (.iload_n 2, 1) := by decide +kernel
theorem dM_add_147 : decode cM_add 147 = .ok (.if_icmp .ge 29, 3) := by decide +kernel
theorem dM_add_150 : decode cM_add 150 = .ok (.aload_n 0, 1) := by decide +kernel
theorem dM_add_151 : decode cM_add 151 = .ok (.getfield 22, 3) := by decide +kernel
theorem dM_add_154 : decode cM_add 154 = .ok (.bipush 20, 2) := by decide +kernel
theorem dM_add_156 : decode cM_add 156 = .ok (.iload 5, 2) := by decide +kernel
theorem dM_add_158 : decode cM_add 158 = .ok (.imul, 1) := by decide +kernel
theorem dM_add_159 : decode cM_add 159 = .ok (.iload 6, 2) := by decide +kernel
theorem dM_add_161 : decode cM_add 161 = .ok (.iadd, 1) := by decide +kernel
theorem dM_add_162 : decode cM_add 162 = .ok (.aload_n 0, 1) := by decide +kernel
theorem dM_add_163 : decode cM_add 163 = .ok (.getfield 7, 3) := by decide +kernel
theorem dM_add_166 : decode cM_add 166 = .ok (.iload 6, 2) := by decide +kernel
theorem dM_add_168 : decode cM_add 168 = .ok (.iaload, 1) := by decide +kernel
theorem dM_add_169 : decode cM_add 169 = .ok (.iastore, 1) := by decide +kernel
theorem dM_add_170 : decode cM_add 170 = .ok (.iinc 6 1, 3) := by decide +kernel
theorem dM_add_173 : decode cM_add 173 = .ok (.goto (-29), 3) := by decide +kernel
theorem dM_add_176 : decode cM_add 176 = .ok (.aload_n 0, 1) := by decide +kernel
theorem dM_add_177 : decode cM_add 177 = .ok (.getfield 13, 3) := by decide +kernel
theorem dM_add_180 : decode cM_add 180 = .ok (.iload_n 1, 1) := by decide +kernel
theorem dM_add_181 : decode cM_add 181 = .ok (.dup2, 1) := by decide +kernel
theorem dM_add_182 : decode cM_add 182 = .ok (.iaload, 1) := by decide +kernel
theorem dM_add_183 : decode cM_add 183 = .ok (.iconst 1, 1) := by decide +kernel
theorem dM_add_184 : decode cM_add 184 = .ok (.iadd, 1) := by decide +kernel
theorem dM_add_185 : decode cM_add 185 = .ok (.iastore, 1) := by decide +kernel
theorem dM_add_186 : decode cM_add 186 = .ok (.aload_n 0, 1) := by decide +kernel
theorem dM_add_187 : decode cM_add 187 = .ok (.getfield 13, 3) := by decide +kernel
theorem dM_add_190 : decode cM_add 190 = .ok (.iload_n 1, 1) := by decide +kernel
theorem dM_add_191 : decode cM_add 191 = .ok (.iaload, 1) := by decide +kernel
theorem dM_add_192 : decode cM_add 192 = .ok (.ireturn, 1) := by decide +kernel
theorem dM_find_0 : decode cM_find 0 = .ok (.aload_n 0, 1) := by decide +kernel
theorem dM_find_1 : decode cM_find 1 = .ok (.iload_n 1, 1) := by decide +kernel
theorem dM_find_2 : decode cM_find 2 = .ok (.invokestatic 37, 3) := by decide +kernel
theorem dM_find_5 : decode cM_find 5 = .ok (.ifCond .eq 11, 3) := by decide +kernel
theorem dM_find_8 : decode cM_find 8 = .ok (.aload_n 0, 1) := by decide +kernel
theorem dM_find_9 : decode cM_find 9 = .ok (.iload_n 2, 1) := by decide +kernel
theorem dM_find_10 : decode cM_find 10 = .ok (.invokevirtual 41, 3) := by decide +kernel
theorem dM_find_13 : decode cM_find 13 = .ok (.ifCond .ne 7, 3) := by decide +kernel
theorem dM_find_16 : decode cM_find 16 = .ok (.iconst 1, 1) := by decide +kernel
theorem dM_find_17 : decode cM_find 17 = .ok (.goto 4, 3) := by decide +kernel
theorem dM_find_20 : decode cM_find 20 = .ok (.iconst 0, 1) := by decide +kernel
theorem dM_find_21 : decode cM_find 21 = .ok (.iconst 0, 1) := by decide +kernel
theorem dM_find_22 : decode cM_find 22 = .ok (.invokevirtual 54, 3) := by decide +kernel
theorem dM_find_25 : decode cM_find 25 = .ok (.ifCond .eq 5, 3) := by decide +kernel
theorem dM_find_28 : decode cM_find 28 = .ok (.iconst 0, 1) := by decide +kernel
theorem dM_find_29 : decode cM_find 29 = .ok (.ireturn, 1) := by decide +kernel
theorem dM_find_30 : decode cM_find 30 = .ok (.aload_n 0, 1) := by decide +kernel
theorem dM_find_31 : decode cM_find 31 = .ok (.iload_n 1, 1) := by decide +kernel
theorem dM_find_32 : decode cM_find 32 = .ok (.iload_n 2, 1) := by decide +kernel
theorem dM_find_33 : decode cM_find 33 = .ok (.invokevirtual 47, 3) := by decide +kernel
theorem dM_find_36 : decode cM_find 36 = .ok (.istore_n 3, 1) := by decide +kernel
theorem dM_find_37 : decode cM_find 37 = .ok (.aload_n 0, 1) := by decide +kernel
theorem dM_find_38 : decode cM_find 38 = .ok (.iload_n 3, 1) := by decide +kernel
theorem dM_find_39 : decode cM_find 39 = .ok (.iload_n 1, 1) := by decide +kernel
theorem dM_find_40 : decode cM_find 40 = .ok (.iload_n 2, 1) := by decide +kernel
theorem dM_find_41 : decode cM_find 41 = .ok (.invokevirtual 50, 3) := by decide +kernel
theorem dM_find_44 : decode cM_find 44 = .ok (.ifCond .eq 12, 3) := by decide +kernel
theorem dM_find_47 : decode cM_find 47 = .ok (.aload_n 0, 1) := by decide +kernel
theorem dM_find_48 : decode cM_find 48 = .ok (.getfield 16, 3) := by decide +kernel
theorem dM_find_51 : decode cM_find 51 = .ok (.iload_n 3, 1) := by decide +kernel
theorem dM_find_52 : decode cM_find 52 = .ok (.iaload, 1) := by decide +kernel
theorem dM_find_53 : decode cM_find 53 = .ok (.goto 4, 3) := by decide +kernel
theorem dM_find_56 : decode cM_find 56 = .ok (.iconst (-1), 1) := by decide +kernel
theorem dM_find_57 : decode cM_find 57 = .ok (.ireturn, 1) := by decide +kernel
theorem dM_remove_0 : decode cM_remove 0 = .ok (.iload_n 1, 1) := by decide +kernel
theorem dM_remove_1 : decode cM_remove 1 = .ok (.invokestatic 37, 3) := by decide +kernel
theorem dM_remove_4 : decode cM_remove 4 = .ok (.ifCond .eq 11, 3) := by decide +kernel
theorem dM_remove_7 : decode cM_remove 7 = .ok (.aload_n 0, 1) := by decide +kernel
theorem dM_remove_8 : decode cM_remove 8 = .ok (.iload_n 2, 1) := by decide +kernel
theorem dM_remove_9 : decode cM_remove 9 = .ok (.invokevirtual 41, 3) := by decide +kernel
theorem dM_remove_12 : decode cM_remove 12 = .ok (.ifCond .ne 7, 3) := by decide +kernel
theorem dM_remove_15 : decode cM_remove 15 = .ok (.iconst 1, 1) := by decide +kernel
theorem dM_remove_16 : decode cM_remove 16 = .ok (.goto 4, 3) := by decide +kernel
theorem dM_remove_19 : decode cM_remove 19 = .ok (.iconst 0, 1) := by decide +kernel
theorem dM_remove_20 : decode cM_remove 20 = .ok (.istore_n 3, 1) := by decide +kernel
theorem dM_remove_21 : decode cM_remove 21 = .ok (.iload_n 3, 1) := by decide +kernel
theorem dM_remove_22 : decode cM_remove 22 = .ok (.ifCond .eq 7, 3) := by decide +kernel
theorem dM_remove_25 : decode cM_remove 25 = .ok (.iconst 0, 1) := by decide +kernel
theorem dM_remove_26 : decode cM_remove 26 = .ok (.goto 9, 3) := by decide +kernel
theorem dM_remove_29 : decode cM_remove 29 = .ok (.aload_n 0, 1) := by decide +kernel
theorem dM_remove_30 : decode cM_remove 30 = .ok (.iload_n 1, 1) := by decide +kernel
theorem dM_remove_31 : decode cM_remove 31 = .ok (.iload_n 2, 1) := by decide +kernel
theorem dM_remove_32 : decode cM_remove 32 = .ok (.invokevirtual 47, 3) := by decide +kernel
theorem dM_remove_35 : decode cM_remove 35 = .ok (.istore 4, 2) := by decide +kernel
theorem dM_remove_37 : decode cM_remove 37 = .ok (.aload_n 0, 1) := by decide +kernel
theorem dM_remove_38 : decode cM_remove 38 = .ok (.iload_n 3, 1) := by decide +kernel
theorem dM_remove_39 : decode cM_remove 39 = .ok (.iload_n 3, 1) := by decide +kernel
theorem dM_remove_40 : decode cM_remove 40 = .ok (.ifCond .ne 18, 3) := by decide +kernel
theorem dM_remove_43 : decode cM_remove 43 = .ok (.aload_n 0, 1) := by decide +kernel
theorem dM_remove_44 : decode cM_remove 44 = .ok (.iload 4, 2) := by decide +kernel
theorem dM_remove_46 : decode cM_remove 46 = .ok (.iload_n 1, 1) := by decide +kernel
theorem dM_remove_47 : decode cM_remove 47 = .ok (.iload_n 2, 1) := by decide +kernel
theorem dM_remove_48 : decode cM_remove 48 = .ok (.invokevirtual 50, 3) := by decide +kernel
theorem dM_remove_51 : decode cM_remove 51 = .ok (.ifCond .ne 7, 3) := by decide +kernel
theorem dM_remove_54 : decode cM_remove 54 = .ok (.iconst 1, 1) := by decide +kernel
theorem dM_remove_55 : decode cM_remove 55 = .ok (.goto 4, 3) := by decide +kernel
theorem dM_remove_58 : decode cM_remove 58 = .ok (.iconst 0, 1) := by decide +kernel
theorem dM_remove_59 : decode cM_remove 59 = .ok (.invokevirtual 54, 3) := by decide +kernel
theorem dM_remove_62 : decode cM_remove 62 = .ok (.ifCond .eq 5, 3) := by decide +kernel
theorem dM_remove_65 : decode cM_remove 65 = .ok (.iconst 0, 1) := by decide +kernel
theorem dM_remove_66 : decode cM_remove 66 = .ok (.ireturn, 1) := by decide +kernel
theorem dM_remove_67 : decode cM_remove 67 = .ok (.aload_n 0, 1) := by decide +kernel
theorem dM_remove_68 : decode cM_remove 68 = .ok (.getfield 16, 3) := by decide +kernel
theorem dM_remove_71 : decode cM_remove 71 = .ok (.iload 4, 2) := by decide +kernel
theorem dM_remove_73 : decode cM_remove 73 = .ok (.iaload, 1) := by decide +kernel
theorem dM_remove_74 : decode cM_remove 74 = .ok (.istore 5, 2) := by decide +kernel
theorem dM_remove_76 : decode cM_remove 76 = .ok (.aload_n 0, 1) := by decide +kernel
theorem dM_remove_77 : decode cM_remove 77 = .ok (.getfield 13, 3) := by decide +kernel
theorem dM_remove_80 : decode cM_remove 80 = .ok (.iload_n 1, 1) := by decide +kernel
theorem dM_remove_81 : decode cM_remove 81 = .ok (.dup2, 1) := by decide +kernel
theorem dM_remove_82 : decode cM_remove 82 = .ok (.iaload, 1) := by decide +kernel
theorem dM_remove_83 : decode cM_remove 83 = .ok (.iconst 1, 1) := by decide +kernel
theorem dM_remove_84 : decode cM_remove 84 = .ok (.isub, 1) := by decide +kernel
theorem dM_remove_85 : decode cM_remove 85 = .ok (.iastore, 1) := by decide +kernel
theorem dM_remove_86 : decode cM_remove 86 = .ok (.iload 4, 2) := by decide +kernel
theorem dM_remove_88 : decode cM_remove 88 = .ok (.istore 6, 2) := by decide +kernel
theorem dM_remove_90 : decode cM_remove 90 = .ok (.iload 6, 2) := by decide +kernel
theorem dM_remove_92 : decode cM_remove 92 = .ok (.bipush 48, 2) := by decide +kernel
theorem dM_remove_94 : decode cM_remove 94 = .ok (.iload_n 1, 1) := by decide +kernel
theorem dM_remove_95 : decode cM_remove 95 = .ok (.imul, 1) := by decide +kernel
theorem dM_remove_96 : decode cM_remove 96 = .ok (.aload_n 0, 1) := by decide +kernel
theorem dM_remove_97 : decode cM_remove 97 = .ok (.getfield 13, 3) := by decide +kernel
theorem dM_remove_100 : decode cM_remove 100 = .ok (.iload_n 1, 1) := by decide +kernel
theorem dM_remove_101 : decode cM_remove 101 = .ok (.iaload, 1) := by decide +kernel
theorem dM_remove_102 : decode cM_remove 102 = .ok (.iadd, 1) := by decide +kernel
theorem dM_remove_103 : decode cM_remove 103 = .ok (.if_icmp .ge 19, 3) := by decide +kernel
theorem dM_remove_106 : decode cM_remove 106 = .ok (.aload_n 0, 1) := by decide +kernel
theorem dM_remove_107 : decode cM_remove 107 = .ok (.iload 6, 2) := by decide +kernel
theorem dM_remove_109 : decode cM_remove 109 = .ok (.iconst 1, 1) := by decide +kernel
theorem dM_remove_110 : decode cM_remove 110 = .ok (.iadd, 1) := by decide +kernel
theorem dM_remove_111 : decode cM_remove 111 = .ok (.iload 6, 2) := by decide +kernel
theorem dM_remove_113 : decode cM_remove 113 = .ok (.invokevirtual 58, 3) := by decide +kernel
theorem dM_remove_116 : decode cM_remove 116 = .ok (.iinc 6 1, 3) := by decide +kernel
theorem dM_remove_119 : decode cM_remove 119 = .ok (.goto (-29), 3) := by decide +kernel
theorem dM_remove_122 : decode cM_remove 122 = .ok (.iload 5, 2) := by decide +kernel
theorem dM_remove_124 : decode cM_remove 124 = .ok (.ireturn, 1) := by decide +kernel
theorem dM_change_0 : decode cM_change 0 = .ok (.iload_n 1, 1) := by decide +kernel
theorem dM_change_1 : decode cM_change 1 = .ok (.invokestatic 37, 3) := by decide +kernel
theorem dM_change_4 : decode cM_change 4 = .ok (.ifCond .eq 18, 3) := by decide +kernel
theorem dM_change_7 : decode cM_change 7 = .ok (.aload_n 0, 1) := by decide +kernel
theorem dM_change_8 : decode cM_change 8 = .ok (.iload_n 2, 1) := by decide +kernel
theorem dM_change_9 : decode cM_change 9 = .ok (.invokevirtual 41, 3) := by decide +kernel
theorem dM_change_12 : decode cM_change 12 = .ok (.ifCond .eq 10, 3) := by decide +kernel
theorem dM_change_15 : decode cM_change 15 = .ok (.iload_n 3, 1) := by decide +kernel
theorem dM_change_16 : decode cM_change 16 = .ok (.invokestatic 44, 3) := by decide +kernel
theorem dM_change_19 : decode cM_change 19 = .ok (.ifCond .ne 7, 3) := by decide +kernel
theorem dM_change_22 : decode cM_change 22 = .ok (.iconst 1, 1) := by decide +kernel
theorem dM_change_23 : decode cM_change 23 = .ok (.goto 4, 3) := by decide +kernel
theorem dM_change_26 : decode cM_change 26 = .ok (.iconst 0, 1) := by decide +kernel
theorem dM_change_27 : decode cM_change 27 = .ok (.istore 4, 2) := by decide +kernel
theorem dM_change_29 : decode cM_change 29 = .ok (.iload 4, 2) := by decide +kernel
theorem dM_change_31 : decode cM_change 31 = .ok (.ifCond .eq 7, 3) := by decide +kernel
theorem dM_change_34 : decode cM_change 34 = .ok (.iconst 0, 1) := by decide +kernel
theorem dM_change_35 : decode cM_change 35 = .ok (.goto 9, 3) := by decide +kernel
theorem dM_change_38 : decode cM_change 38 = .ok (.aload_n 0, 1) := by decide +kernel
theorem dM_change_39 : decode cM_change 39 = .ok (.iload_n 1, 1) := by decide +kernel
theorem dM_change_40 : decode cM_change 40 = .ok (.iload_n 2, 1) := by decide +kernel
theorem dM_change_41 : decode cM_change 41 = .ok (.invokevirtual 47, 3) := by decide +kernel
theorem dM_change_44 : decode cM_change 44 = .ok (.istore 5, 2) := by decide +kernel
theorem dM_change_46 : decode cM_change 46 = .ok (.aload_n 0, 1) := by decide +kernel
theorem dM_change_47 : decode cM_change 47 = .ok (.iload 4, 2) := by decide +kernel
theorem dM_change_49 : decode cM_change 49 = .ok (.iload 4, 2) := by decide +kernel
theorem dM_change_51 : decode cM_change 51 = .ok (.ifCond .ne 18, 3) := by decide +kernel
theorem dM_change_54 : decode cM_change 54 = .ok (.aload_n 0, 1) := by decide +kernel
theorem dM_change_55 : decode cM_change 55 = .ok (.iload 5, 2) := by decide +kernel
theorem dM_change_57 : decode cM_change 57 = .ok (.iload_n 1, 1) := by decide +kernel
theorem dM_change_58 : decode cM_change 58 = .ok (.iload_n 2, 1) := by decide +kernel
theorem dM_change_59 : decode cM_change 59 = .ok (.invokevirtual 50, 3) := by decide +kernel
theorem dM_change_62 : decode cM_change 62 = .ok (.ifCond .ne 7, 3) := by decide +kernel
theorem dM_change_65 : decode cM_change 65 = .ok (.iconst 1, 1) := by decide +kernel
theorem dM_change_66 : decode cM_change 66 = .ok (.goto 4, 3) := by decide +kernel
theorem dM_change_69 : decode cM_change 69 = .ok (.iconst 0, 1) := by decide +kernel
theorem dM_change_70 : decode cM_change 70 = .ok (.invokevirtual 54, 3) := by decide +kernel
theorem dM_change_73 : decode cM_change 73 = .ok (.ifCond .eq 5, 3) := by decide +kernel
theorem dM_change_76 : decode cM_change 76 = .ok (.iconst 0, 1) := by decide +kernel
theorem dM_change_77 : decode cM_change 77 = .ok (.ireturn, 1) := by decide +kernel
theorem dM_change_78 : decode cM_change 78 = .ok (.aload_n 0, 1) := by decide +kernel
theorem dM_change_79 : decode cM_change 79 = .ok (.getfield 16, 3) := by decide +kernel
theorem dM_change_82 : decode cM_change 82 = .ok (.iload 5, 2) := by decide +kernel
theorem dM_change_84 : decode cM_change 84 = .ok (.iaload, 1) := by decide +kernel
theorem dM_change_85 : decode cM_change 85 = .ok (.istore 6, 2) := by decide +kernel
theorem dM_change_87 : decode cM_change 87 = .ok (.aload_n 0, 1) := by decide +kernel
theorem dM_change_88 : decode cM_change 88 = .ok (.getfield 16, 3) := by decide +kernel
theorem dM_change_91 : decode cM_change 91 = .ok (.iload 5, 2) := by decide +kernel
theorem dM_change_93 : decode cM_change 93 = .ok (.iload_n 3, 1) := by decide +kernel
theorem dM_change_94 : decode cM_change 94 = .ok (.iastore, 1) := by decide +kernel
theorem dM_change_95 : decode cM_change 95 = .ok (.iload 6, 2) := by decide +kernel
theorem dM_change_97 : decode cM_change 97 = .ok (.ireturn, 1) := by decide +kernel
theorem dM_size_0 : decode cM_size 0 = .ok (.aload_n 0, 1) := by decide +kernel
theorem dM_size_1 : decode cM_size 1 = .ok (.iload_n 1, 1) := by decide +kernel
theorem dM_size_2 : decode cM_size 2 = .ok (.invokestatic 37, 3) := by decide +kernel
theorem dM_size_5 : decode cM_size 5 = .ok (.ifCond .ne 7, 3) := by decide +kernel
theorem dM_size_8 : decode cM_size 8 = .ok (.iconst 1, 1) := by decide +kernel
theorem dM_size_9 : decode cM_size 9 = .ok (.goto 4, 3) := by decide +kernel
theorem dM_size_12 : decode cM_size 12 = .ok (.iconst 0, 1) := by decide +kernel
theorem dM_size_13 : decode cM_size 13 = .ok (.iconst 0, 1) := by decide +kernel
theorem dM_size_14 : decode cM_size 14 = .ok (.invokevirtual 54, 3) := by decide +kernel
theorem dM_size_17 : decode cM_size 17 = .ok (.ifCond .eq 5, 3) := by decide +kernel
theorem dM_size_20 : decode cM_size 20 = .ok (.iconst 0, 1) := by decide +kernel
theorem dM_size_21 : decode cM_size 21 = .ok (.ireturn, 1) := by decide +kernel
theorem dM_size_22 : decode cM_size 22 = .ok (.aload_n 0, 1) := by decide +kernel
theorem dM_size_23 : decode cM_size 23 = .ok (.getfield 13, 3) := by decide +kernel
theorem dM_size_26 : decode cM_size 26 = .ok (.iload_n 1, 1) := by decide +kernel
theorem dM_size_27 : decode cM_size 27 = .ok (.iaload, 1) := by decide +kernel
theorem dM_size_28 : decode cM_size 28 = .ok (.ireturn, 1) := by decide +kernel
theorem dM_nth_0 : decode cM_nth 0 = .ok (.aload_n 0, 1) := by decide +kernel
theorem dM_nth_1 : decode cM_nth 1 = .ok (.iload_n 1, 1) := by decide +kernel
theorem dM_nth_2 : decode cM_nth 2 = .ok (.invokestatic 37, 3) := by decide +kernel
theorem dM_nth_5 : decode cM_nth 5 = .ok (.ifCond .eq 7, 3) := by decide +kernel
theorem dM_nth_8 : decode cM_nth 8 = .ok (.iload_n 2, 1) := by decide +kernel
theorem dM_nth_9 : decode cM_nth 9 = .ok (.ifCond .ge 7, 3) := by decide +kernel
theorem dM_nth_12 : decode cM_nth 12 = .ok (.iconst 1, 1) := by decide +kernel
theorem dM_nth_13 : decode cM_nth 13 = .ok (.goto 4, 3) := by decide +kernel
theorem dM_nth_16 : decode cM_nth 16 = .ok (.iconst 0, 1) := by decide +kernel
theorem dM_nth_17 : decode cM_nth 17 = .ok (.iconst 0, 1) := by decide +kernel
theorem dM_nth_18 : decode cM_nth 18 = .ok (.invokevirtual 54, 3) := by decide +kernel
theorem dM_nth_21 : decode cM_nth 21 = .ok (.ifCond .eq 5, 3) := by decide +kernel
theorem dM_nth_24 : decode cM_nth 24 = .ok (.iconst 0, 1) := by decide +kernel
theorem dM_nth_25 : decode cM_nth 25 = .ok (.ireturn, 1) := by decide +kernel
theorem dM_nth_26 : decode cM_nth 26 = .ok (.aload_n 0, 1) := by decide +kernel
theorem dM_nth_27 : decode cM_nth 27 = .ok (.iload_n 2, 1) := by decide +kernel
theorem dM_nth_28 : decode cM_nth 28 = .ok (.aload_n 0, 1) := by decide +kernel
theorem dM_nth_29 : decode cM_nth 29 = .ok (.getfield 13, 3) := by decide +kernel
theorem dM_nth_32 : decode cM_nth 32 = .ok (.iload_n 1, 1) := by decide +kernel
theorem dM_nth_33 : decode cM_nth 33 = .ok (.iaload, 1) := by decide +kernel
theorem dM_nth_34 : decode cM_nth 34 = .ok (.if_icmp .ge 17, 3) := by decide +kernel
theorem dM_nth_37 : decode cM_nth 37 = .ok (.aload_n 0, 1) := by decide +kernel
theorem dM_nth_38 : decode cM_nth 38 = .ok (.getfield 19, 3) := by decide +kernel
theorem dM_nth_41 : decode cM_nth 41 = .ok (.bipush 48, 2) := by decide +kernel
theorem dM_nth_43 : decode cM_nth 43 = .ok (.iload_n 1, 1) := by decide +kernel
theorem dM_nth_44 : decode cM_nth 44 = .ok (.imul, 1) := by decide +kernel
theorem dM_nth_45 : decode cM_nth 45 = .ok (.iload_n 2, 1) := by decide +kernel
theorem dM_nth_46 : decode cM_nth 46 = .ok (.iadd, 1) := by decide +kernel
theorem dM_nth_47 : decode cM_nth 47 = .ok (.iaload, 1) := by decide +kernel
theorem dM_nth_48 : decode cM_nth 48 = .ok (.goto 4, 3) := by decide +kernel
theorem dM_nth_51 : decode cM_nth 51 = .ok (.iconst 0, 1) := by decide +kernel
theorem dM_nth_52 : decode cM_nth 52 = .ok (.putfield 62, 3) := by decide +kernel
theorem dM_nth_55 : decode cM_nth 55 = .ok (.iconst 0, 1) := by decide +kernel
theorem dM_nth_56 : decode cM_nth 56 = .ok (.istore_n 3, 1) := by decide +kernel
theorem dM_nth_57 : decode cM_nth 57 = .ok (.iload_n 3, 1) := by decide +kernel
theorem dM_nth_58 : decode cM_nth 58 = .ok (.aload_n 0, 1) := by decide +kernel
theorem dM_nth_59 : decode cM_nth 59 = .ok (.getfield 62, 3) := by decide +kernel
theorem dM_nth_62 : decode cM_nth 62 = .ok (.if_icmp .ge 31, 3) := by decide +kernel
theorem dM_nth_65 : decode cM_nth 65 = .ok (.aload_n 0, 1) := by decide +kernel
theorem dM_nth_66 : decode cM_nth 66 = .ok (.getfield 25, 3) := by decide +kernel
theorem dM_nth_69 : decode cM_nth 69 = .ok (.iload_n 3, 1) := by decide +kernel
theorem dM_nth_70 : decode cM_nth 70 = .ok (.aload_n 0, 1) := by decide +kernel
theorem dM_nth_71 : decode cM_nth 71 = .ok (.getfield 22, 3) := by decide +kernel
theorem dM_nth_74 : decode cM_nth 74 = .ok (.bipush 20, 2) := by decide +kernel
theorem dM_nth_76 : decode cM_nth 76 = .ok (.bipush 48, 2) := by decide +kernel
theorem dM_nth_78 : decode cM_nth 78 = .ok (.iload_n 1, 1) := by decide +kernel
theorem dM_nth_79 : decode cM_nth 79 = .ok (.imul, 1) := by decide +kernel
theorem dM_nth_80 : decode cM_nth 80 = .ok (.iload_n 2, 1) := by decide +kernel
theorem dM_nth_81 : decode cM_nth 81 = .ok (.iadd, 1) := by decide +kernel
theorem dM_nth_82 : decode cM_nth 82 = .ok (.imul, 1) := by decide +kernel
theorem dM_nth_83 : decode cM_nth 83 = .ok (.iload_n 3, 1) := by decide +kernel
theorem dM_nth_84 : decode cM_nth 84 = .ok (.iadd, 1) := by decide +kernel
theorem dM_nth_85 : decode cM_nth 85 = .ok (.iaload, 1) := by decide +kernel
theorem dM_nth_86 : decode cM_nth 86 = .ok (.iastore, 1) := by decide +kernel
theorem dM_nth_87 : decode cM_nth 87 = .ok (.iinc 3 1, 3) := by decide +kernel
theorem dM_nth_90 : decode cM_nth 90 = .ok (.goto (-33), 3) := by decide +kernel
theorem dM_nth_93 : decode cM_nth 93 = .ok (.aload_n 0, 1) := by decide +kernel
theorem dM_nth_94 : decode cM_nth 94 = .ok (.getfield 62, 3) := by decide +kernel
theorem dM_nth_97 : decode cM_nth 97 = .ok (.ifCond .ne 7, 3) := by decide +kernel
theorem dM_nth_100 : decode cM_nth 100 = .ok (.iconst (-1), 1) := by decide +kernel
theorem dM_nth_101 : decode cM_nth 101 = .ok (.goto 7, 3) := by decide +kernel
theorem dM_nth_104 : decode cM_nth 104 = .ok (.aload_n 0, 1) := by decide +kernel
theorem dM_nth_105 : decode cM_nth 105 = .ok (.getfield 62, 3) := by decide +kernel
theorem dM_nth_108 : decode cM_nth 108 = .ok (.ireturn, 1) := by decide +kernel
theorem dM_byteAt_0 : decode cM_byteAt 0 = .ok (.aload_n 0, 1) := by decide +kernel
theorem dM_byteAt_1 : decode cM_byteAt 1 = .ok (.iload_n 1, 1) := by decide +kernel
theorem dM_byteAt_2 : decode cM_byteAt 2 = .ok (.ifCond .ge 7, 3) := by decide +kernel
theorem dM_byteAt_5 : decode cM_byteAt 5 = .ok (.iconst 1, 1) := by decide +kernel
theorem dM_byteAt_6 : decode cM_byteAt 6 = .ok (.goto 4, 3) := by decide +kernel
theorem dM_byteAt_9 : decode cM_byteAt 9 = .ok (.iconst 0, 1) := by decide +kernel
theorem dM_byteAt_10 : decode cM_byteAt 10 = .ok (.iconst 0, 1) := by decide +kernel
theorem dM_byteAt_11 : decode cM_byteAt 11 = .ok (.invokevirtual 54, 3) := by decide +kernel
theorem dM_byteAt_14 : decode cM_byteAt 14 = .ok (.ifCond .eq 5, 3) := by decide +kernel
theorem dM_byteAt_17 : decode cM_byteAt 17 = .ok (.iconst 0, 1) := by decide +kernel
theorem dM_byteAt_18 : decode cM_byteAt 18 = .ok (.ireturn, 1) := by decide +kernel
theorem dM_byteAt_19 : decode cM_byteAt 19 = .ok (.iload_n 1, 1) := by decide +kernel
theorem dM_byteAt_20 : decode cM_byteAt 20 = .ok (.aload_n 0, 1) := by decide +kernel
theorem dM_byteAt_21 : decode cM_byteAt 21 = .ok (.getfield 62, 3) := by decide +kernel
theorem dM_byteAt_24 : decode cM_byteAt 24 = .ok (.if_icmp .ge 12, 3) := by decide +kernel
theorem dM_byteAt_27 : decode cM_byteAt 27 = .ok (.aload_n 0, 1) := by decide +kernel
theorem dM_byteAt_28 : decode cM_byteAt 28 = .ok (.getfield 25, 3) := by decide +kernel
theorem dM_byteAt_31 : decode cM_byteAt 31 = .ok (.iload_n 1, 1) := by decide +kernel
theorem dM_byteAt_32 : decode cM_byteAt 32 = .ok (.iaload, 1) := by decide +kernel
theorem dM_byteAt_33 : decode cM_byteAt 33 = .ok (.goto 4, 3) := by decide +kernel
theorem dM_byteAt_36 : decode cM_byteAt 36 = .ok (.iconst (-1), 1) := by decide +kernel
theorem dM_byteAt_37 : decode cM_byteAt 37 = .ok (.ireturn, 1) := by decide +kernel
end
section
theorem dL_add_0 : decode cL_add 0 = .ok (.aload 4, 2) := by decide +kernel
theorem dL_add_2 : decode cL_add 2 = .ok (.iconst 0, 1) := by decide +kernel
theorem dL_add_3 : decode cL_add 3 = .ok (.aload_n 0, 1) := by decide +kernel
theorem dL_add_4 : decode cL_add 4 = .ok (.iload_n 1, 1) := by decide +kernel
theorem dL_add_5 : decode cL_add 5 = .ok (.iload_n 2, 1) := by decide +kernel
theorem dL_add_6 : decode cL_add 6 = .ok (.iload_n 3, 1) := by decide +kernel
theorem dL_add_7 : decode cL_add 7 = .ok (.invokevirtual 7, 3) := by decide +kernel
theorem dL_add_10 : decode cL_add 10 = .ok (.i2l, 1) := by decide +kernel
theorem dL_add_11 : decode cL_add 11 = .ok (.lastore, 1) := by decide +kernel
theorem dL_add_12 : decode cL_add 12 = .ok (.goto 11, 3) := by decide +kernel
theorem dL_add_15 : decode cL_add 15 = .ok (.astore 5, 2) := by decide +kernel
theorem dL_add_17 : decode cL_add 17 = .ok (.iconst 1, 1) := by decide +kernel
theorem dL_add_18 : decode cL_add 18 = .ok (.ireturn, 1) := by decide +kernel
theorem dL_add_19 : decode cL_add 19 = .ok (.astore 5, 2) := by decide +kernel
theorem dL_add_21 : decode cL_add 21 = .ok (.iconst 2, 1) := by decide +kernel
theorem dL_add_22 : decode cL_add 22 = .ok (.ireturn, 1) := by decide +kernel
theorem dL_add_23 : decode cL_add 23 = .ok (.iconst 0, 1) := by decide +kernel
theorem dL_add_24 : decode cL_add 24 = .ok (.ireturn, 1) := by decide +kernel
theorem dL_find_0 : decode cL_find 0 = .ok (.aload_n 3, 1) := by decide +kernel
theorem dL_find_1 : decode cL_find 1 = .ok (.iconst 0, 1) := by decide +kernel
theorem dL_find_2 : decode cL_find 2 = .ok (.aload_n 0, 1) := by decide +kernel
theorem dL_find_3 : decode cL_find 3 = .ok (.iload_n 1, 1) := by decide +kernel
theorem dL_find_4 : decode cL_find 4 = .ok (.iload_n 2, 1) := by decide +kernel
theorem dL_find_5 : decode cL_find 5 = .ok (.invokevirtual 17, 3) := by decide +kernel
theorem dL_find_8 : decode cL_find 8 = .ok (.i2l, 1) := by decide +kernel
theorem dL_find_9 : decode cL_find 9 = .ok (.lastore, 1) := by decide +kernel
theorem dL_find_10 : decode cL_find 10 = .ok (.goto 7, 3) := by decide +kernel
theorem dL_find_13 : decode cL_find 13 = .ok (.astore 4, 2) := by decide +kernel
theorem dL_find_15 : decode cL_find 15 = .ok (.iconst 1, 1) := by decide +kernel
theorem dL_find_16 : decode cL_find 16 = .ok (.ireturn, 1) := by decide +kernel
theorem dL_find_17 : decode cL_find 17 = .ok (.iconst 0, 1) := by decide +kernel
theorem dL_find_18 : decode cL_find 18 = .ok (.ireturn, 1) := by decide +kernel
theorem dL_remove_0 : decode cL_remove 0 = .ok (.aload_n 3, 1) := by decide +kernel
theorem dL_remove_1 : decode cL_remove 1 = .ok (.iconst 0, 1) := by decide +kernel
theorem dL_remove_2 : decode cL_remove 2 = .ok (.aload_n 0, 1) := by decide +kernel
theorem dL_remove_3 : decode cL_remove 3 = .ok (.iload_n 1, 1) := by decide +kernel
theorem dL_remove_4 : decode cL_remove 4 = .ok (.iload_n 2, 1) := by decide +kernel
theorem dL_remove_5 : decode cL_remove 5 = .ok (.invokevirtual 21, 3) := by decide +kernel
theorem dL_remove_8 : decode cL_remove 8 = .ok (.i2l, 1) := by decide +kernel
theorem dL_remove_9 : decode cL_remove 9 = .ok (.lastore, 1) := by decide +kernel
theorem dL_remove_10 : decode cL_remove 10 = .ok (.goto 11, 3) := by decide +kernel
theorem dL_remove_13 : decode cL_remove 13 = .ok (.astore 4, 2) := by decide +kernel
theorem dL_remove_15 : decode cL_remove 15 = .ok (.iconst 1, 1) := by decide +kernel
theorem dL_remove_16 : decode cL_remove 16 = .ok (.ireturn, 1) := by decide +kernel
theorem dL_remove_17 : decode cL_remove 17 = .ok (.astore 4, 2) := by decide +kernel
theorem dL_remove_19 : decode cL_remove 19 = .ok (.iconst 2, 1) := by decide +kernel
theorem dL_remove_20 : decode cL_remove 20 = .ok (.ireturn, 1) := by decide +kernel
theorem dL_remove_21 : decode cL_remove 21 = .ok (.iconst 0, 1) := by decide +kernel
theorem dL_remove_22 : decode cL_remove 22 = .ok (.ireturn, 1) := by decide +kernel
theorem dL_change_0 : decode cL_change 0 = .ok (.aload 4, 2) := by decide +kernel
theorem dL_change_2 : decode cL_change 2 = .ok (.iconst 0, 1) := by decide +kernel
theorem dL_change_3 : decode cL_change 3 = .ok (.aload_n 0, 1) := by decide +kernel
theorem dL_change_4 : decode cL_change 4 = .ok (.iload_n 1, 1) := by decide +kernel
theorem dL_change_5 : decode cL_change 5 = .ok (.iload_n 2, 1) := by decide +kernel
theorem dL_change_6 : decode cL_change 6 = .ok (.iload_n 3, 1) := by decide +kernel
theorem dL_change_7 : decode cL_change 7 = .ok (.invokevirtual 24, 3) := by decide +kernel
theorem dL_change_10 : decode cL_change 10 = .ok (.i2l, 1) := by decide +kernel
theorem dL_change_11 : decode cL_change 11 = .ok (.lastore, 1) := by decide +kernel
theorem dL_change_12 : decode cL_change 12 = .ok (.goto 11, 3) := by decide +kernel
theorem dL_change_15 : decode cL_change 15 = .ok (.astore 5, 2) := by decide +kernel
theorem dL_change_17 : decode cL_change 17 = .ok (.iconst 1, 1) := by decide +kernel
theorem dL_change_18 : decode cL_change 18 = .ok (.ireturn, 1) := by decide +kernel
theorem dL_change_19 : decode cL_change 19 = .ok (.astore 5, 2) := by decide +kernel
theorem dL_change_21 : decode cL_change 21 = .ok (.iconst 2, 1) := by decide +kernel
theorem dL_change_22 : decode cL_change 22 = .ok (.ireturn, 1) := by decide +kernel
theorem dL_change_23 : decode cL_change 23 = .ok (.iconst 0, 1) := by decide +kernel
theorem dL_change_24 : decode cL_change 24 = .ok (.ireturn, 1) := by decide +kernel
theorem dL_size_0 : decode cL_size 0 = .ok (.aload_n 2, 1) := by decide +kernel
theorem dL_size_1 : decode cL_size 1 = .ok (.iconst 0, 1) := by decide +kernel
theorem dL_size_2 : decode cL_size 2 = .ok (.aload_n 0, 1) := by decide +kernel
theorem dL_size_3 : decode cL_size 3 = .ok (.iload_n 1, 1) := by decide +kernel
theorem dL_size_4 : decode cL_size 4 = .ok (.invokevirtual 27, 3) := by decide +kernel
theorem dL_size_7 : decode cL_size 7 = .ok (.i2l, 1) := by decide +kernel
theorem dL_size_8 : decode cL_size 8 = .ok (.lastore, 1) := by decide +kernel
theorem dL_size_9 : decode cL_size 9 = .ok (.goto 6, 3) := by decide +kernel
theorem dL_size_12 : decode cL_size 12 = .ok (.astore_n 3, 1) := by decide +kernel
theorem dL_size_13 : decode cL_size 13 = .ok (.iconst 1, 1) := by decide +kernel
theorem dL_size_14 : decode cL_size 14 = .ok (.ireturn, 1) := by decide +kernel
theorem dL_size_15 : decode cL_size 15 = .ok (.iconst 0, 1) := by decide +kernel
theorem dL_size_16 : decode cL_size 16 = .ok (.ireturn, 1) := by decide +kernel
theorem dL_nth_0 : decode cL_nth 0 = .ok (.aload_n 3, 1) := by decide +kernel
theorem dL_nth_1 : decode cL_nth 1 = .ok (.iconst 0, 1) := by decide +kernel
theorem dL_nth_2 : decode cL_nth 2 = .ok (.aload_n 0, 1) := by decide +kernel
theorem dL_nth_3 : decode cL_nth 3 = .ok (.iload_n 1, 1) := by decide +kernel
theorem dL_nth_4 : decode cL_nth 4 = .ok (.iload_n 2, 1) := by decide +kernel
theorem dL_nth_5 : decode cL_nth 5 = .ok (.invokevirtual 31, 3) := by decide +kernel
theorem dL_nth_8 : decode cL_nth 8 = .ok (.i2l, 1) := by decide +kernel
theorem dL_nth_9 : decode cL_nth 9 = .ok (.lastore, 1) := by decide +kernel
theorem dL_nth_10 : decode cL_nth 10 = .ok (.goto 7, 3) := by decide +kernel
theorem dL_nth_13 : decode cL_nth 13 = .ok (.astore 4, 2) := by decide +kernel
theorem dL_nth_15 : decode cL_nth 15 = .ok (.iconst 1, 1) := by decide +kernel
theorem dL_nth_16 : decode cL_nth 16 = .ok (.ireturn, 1) := by decide +kernel
theorem dL_nth_17 : decode cL_nth 17 = .ok (.iconst 0, 1) := by decide +kernel
theorem dL_nth_18 : decode cL_nth 18 = .ok (.ireturn, 1) := by decide +kernel
theorem dL_byteAt_0 : decode cL_byteAt 0 = .ok (.aload_n 2, 1) := by decide +kernel
theorem dL_byteAt_1 : decode cL_byteAt 1 = .ok (.iconst 0, 1) := by decide +kernel
theorem dL_byteAt_2 : decode cL_byteAt 2 = .ok (.aload_n 0, 1) := by decide +kernel
theorem dL_byteAt_3 : decode cL_byteAt 3 = .ok (.iload_n 1, 1) := by decide +kernel
theorem dL_byteAt_4 : decode cL_byteAt 4 = .ok (.invokevirtual 34, 3) := by decide +kernel
theorem dL_byteAt_7 : decode cL_byteAt 7 = .ok (.i2l, 1) := by decide +kernel
theorem dL_byteAt_8 : decode cL_byteAt 8 = .ok (.lastore, 1) := by decide +kernel
theorem dL_byteAt_9 : decode cL_byteAt 9 = .ok (.goto 6, 3) := by decide +kernel
theorem dL_byteAt_12 : decode cL_byteAt 12 = .ok (.astore_n 3, 1) := by decide +kernel
theorem dL_byteAt_13 : decode cL_byteAt 13 = .ok (.iconst 1, 1) := by decide +kernel
theorem dL_byteAt_14 : decode cL_byteAt 14 = .ok (.ireturn, 1) := by decide +kernel
theorem dL_byteAt_15 : decode cL_byteAt 15 = .ok (.iconst 0, 1) := by decide +kernel
theorem dL_byteAt_16 : decode cL_byteAt 16 = .ok (.ireturn, 1) := by decide +kernel
end
section
theorem dL_law_0 : decode cL_law 0 = .ok (.new 8, 3) := by decide +kernel
theorem dL_law_3 : decode cL_law 3 = .ok (.dup, 1) := by decide +kernel
theorem dL_law_4 : decode cL_law 4 = .ok (.invokespecial 37, 3) := by decide +kernel
theorem dL_law_7 : decode cL_law 7 = .ok (.astore_n 1, 1) := by decide +kernel
theorem dL_law_8 : decode cL_law 8 = .ok (.new 38, 3) := by decide +kernel
theorem dL_law_11 : decode cL_law 11 = .ok (.dup, 1) := by decide +kernel
theorem dL_law_12 : decode cL_law 12 = .ok (.invokespecial 40, 3) := by decide +kernel
theorem dL_law_15 : decode cL_law 15 = .ok (.astore_n 2, 1) := by decide +kernel
theorem dL_law_16 : decode cL_law 16 = .ok (.iconst 1, 1) := by decide +kernel
theorem dL_law_17 : decode cL_law 17 = .ok (.newarray .long, 2) := by decide +kernel
theorem dL_law_19 : decode cL_law 19 = .ok (.astore_n 3, 1) := by decide +kernel
theorem dL_law_20 : decode cL_law 20 = .ok (.iconst 0, 1) := by decide +kernel
theorem dL_law_21 : decode cL_law 21 = .ok (.istore 4, 2) := by decide +kernel
theorem dL_law_23 : decode cL_law 23 = .ok (.iload 4, 2) := by decide +kernel
theorem dL_law_25 : decode cL_law 25 = .ok (.aload_n 0, 1) := by decide +kernel
theorem dL_law_26 : decode cL_law 26 = .ok (.arraylength, 1) := by decide +kernel
theorem dL_law_27 : decode cL_law 27 = .ok (.bipush 6, 2) := by decide +kernel
theorem dL_law_29 : decode cL_law 29 = .ok (.isub, 1) := by decide +kernel
theorem dL_law_30 : decode cL_law 30 = .ok (.if_icmp .gt 611, 3) := by decide +kernel
theorem dL_law_33 : decode cL_law 33 = .ok (.aload_n 0, 1) := by decide +kernel
theorem dL_law_34 : decode cL_law 34 = .ok (.iload 4, 2) := by decide +kernel
theorem dL_law_36 : decode cL_law 36 = .ok (.iaload, 1) := by decide +kernel
theorem dL_law_37 : decode cL_law 37 = .ok (.bipush 7, 2) := by decide +kernel
theorem dL_law_39 : decode cL_law 39 = .ok (.iand, 1) := by decide +kernel
theorem dL_law_40 : decode cL_law 40 = .ok (.tableswitch 595 0 7 #[48, 119, 199, 267, 335, 415, 471, 539], 48) := by decide +kernel
theorem dL_law_88 : decode cL_law 88 = .ok (.aload_n 1, 1) := by decide +kernel
theorem dL_law_89 : decode cL_law 89 = .ok (.aload_n 0, 1) := by decide +kernel
theorem dL_law_90 : decode cL_law 90 = .ok (.iload 4, 2) := by decide +kernel
theorem dL_law_92 : decode cL_law 92 = .ok (.iconst 1, 1) := by decide +kernel
theorem dL_law_93 : decode cL_law 93 = .ok (.iadd, 1) := by decide +kernel
theorem dL_law_94 : decode cL_law 94 = .ok (.iaload, 1) := by decide +kernel
theorem dL_law_95 : decode cL_law 95 = .ok (.aload_n 0, 1) := by decide +kernel
theorem dL_law_96 : decode cL_law 96 = .ok (.iload 4, 2) := by decide +kernel
theorem dL_law_98 : decode cL_law 98 = .ok (.iconst 2, 1) := by decide +kernel
theorem dL_law_99 : decode cL_law 99 = .ok (.iadd, 1) := by decide +kernel
theorem dL_law_100 : decode cL_law 100 = .ok (.iaload, 1) := by decide +kernel
theorem dL_law_101 : decode cL_law 101 = .ok (.aload_n 0, 1) := by decide +kernel
theorem dL_law_102 : decode cL_law 102 = .ok (.iload 4, 2) := by decide +kernel
theorem dL_law_104 : decode cL_law 104 = .ok (.iconst 3, 1) := by decide +kernel
theorem dL_law_105 : decode cL_law 105 = .ok (.iadd, 1) := by decide +kernel
theorem dL_law_106 : decode cL_law 106 = .ok (.iaload, 1) := by decide +kernel
theorem dL_law_107 : decode cL_law 107 = .ok (.aload_n 0, 1) := by decide +kernel
theorem dL_law_108 : decode cL_law 108 = .ok (.iload 4, 2) := by decide +kernel
theorem dL_law_110 : decode cL_law 110 = .ok (.iconst 4, 1) := by decide +kernel
theorem dL_law_111 : decode cL_law 111 = .ok (.iadd, 1) := by decide +kernel
theorem dL_law_112 : decode cL_law 112 = .ok (.iaload, 1) := by decide +kernel
theorem dL_law_113 : decode cL_law 113 = .ok (.aload_n 0, 1) := by decide +kernel
theorem dL_law_114 : decode cL_law 114 = .ok (.iload 4, 2) := by decide +kernel
theorem dL_law_116 : decode cL_law 116 = .ok (.iconst 5, 1) := by decide +kernel
theorem dL_law_117 : decode cL_law 117 = .ok (.iadd, 1) := by decide +kernel
theorem dL_law_118 : decode cL_law 118 = .ok (.iaload, 1) := by decide +kernel
theorem dL_law_119 : decode cL_law 119 = .ok (.invokevirtual 41, 3) := by decide +kernel
theorem dL_law_122 : decode cL_law 122 = .ok (.aload_n 2, 1) := by decide +kernel
theorem dL_law_123 : decode cL_law 123 = .ok (.aload_n 0, 1) := by decide +kernel
theorem dL_law_124 : decode cL_law 124 = .ok (.iload 4, 2) := by decide +kernel
theorem dL_law_126 : decode cL_law 126 = .ok (.iconst 1, 1) := by decide +kernel
theorem dL_law_127 : decode cL_law 127 = .ok (.iadd, 1) := by decide +kernel
theorem dL_law_128 : decode cL_law 128 = .ok (.iaload, 1) := by decide +kernel
theorem dL_law_129 : decode cL_law 129 = .ok (.aload_n 0, 1) := by decide +kernel
theorem dL_law_130 : decode cL_law 130 = .ok (.iload 4, 2) := by decide +kernel
theorem dL_law_132 : decode cL_law 132 = .ok (.iconst 2, 1) := by decide +kernel
theorem dL_law_133 : decode cL_law 133 = .ok (.iadd, 1) := by decide +kernel
theorem dL_law_134 : decode cL_law 134 = .ok (.iaload, 1) := by decide +kernel
theorem dL_law_135 : decode cL_law 135 = .ok (.aload_n 0, 1) := by decide +kernel
theorem dL_law_136 : decode cL_law 136 = .ok (.iload 4, 2) := by decide +kernel
theorem dL_law_138 : decode cL_law 138 = .ok (.iconst 3, 1) := by decide +kernel
theorem dL_law_139 : decode cL_law 139 = .ok (.iadd, 1) := by decide +kernel
theorem dL_law_140 : decode cL_law 140 = .ok (.iaload, 1) := by decide +kernel
theorem dL_law_141 : decode cL_law 141 = .ok (.aload_n 0, 1) := by decide +kernel
theorem dL_law_142 : decode cL_law 142 = .ok (.iload 4, 2) := by decide +kernel
theorem dL_law_144 : decode cL_law 144 = .ok (.iconst 4, 1) := by decide +kernel
theorem dL_law_145 : decode cL_law 145 = .ok (.iadd, 1) := by decide +kernel
theorem dL_law_146 : decode cL_law 146 = .ok (.iaload, 1) := by decide +kernel
theorem dL_law_147 : decode cL_law 147 = .ok (.aload_n 0, 1) := by decide +kernel
theorem dL_law_148 : decode cL_law 148 = .ok (.iload 4, 2) := by decide +kernel
theorem dL_law_150 : decode cL_law 150 = .ok (.iconst 5, 1) := by decide +kernel
theorem dL_law_151 : decode cL_law 151 = .ok (.iadd, 1) := by decide +kernel
theorem dL_law_152 : decode cL_law 152 = .ok (.iaload, 1) := by decide +kernel
theorem dL_law_153 : decode cL_law 153 = .ok (.invokevirtual 45, 3) := by decide +kernel
theorem dL_law_156 : decode cL_law 156 = .ok (.goto 479, 3) := by decide +kernel
theorem dL_law_159 : decode cL_law 159 = .ok (.aload_n 1, 1) := by decide +kernel
theorem dL_law_160 : decode cL_law 160 = .ok (.aload_n 0, 1) := by decide +kernel
theorem dL_law_161 : decode cL_law 161 = .ok (.iload 4, 2) := by decide +kernel
theorem dL_law_163 : decode cL_law 163 = .ok (.iconst 1, 1) := by decide +kernel
theorem dL_law_164 : decode cL_law 164 = .ok (.iadd, 1) := by decide +kernel
theorem dL_law_165 : decode cL_law 165 = .ok (.iaload, 1) := by decide +kernel
theorem dL_law_166 : decode cL_law 166 = .ok (.aload_n 0, 1) := by decide +kernel
theorem dL_law_167 : decode cL_law 167 = .ok (.iload 4, 2) := by decide +kernel
theorem dL_law_169 : decode cL_law 169 = .ok (.iconst 2, 1) := by decide +kernel
theorem dL_law_170 : decode cL_law 170 = .ok (.iadd, 1) := by decide +kernel
theorem dL_law_171 : decode cL_law 171 = .ok (.iaload, 1) := by decide +kernel
theorem dL_law_172 : decode cL_law 172 = .ok (.aload_n 0, 1) := by decide +kernel
theorem dL_law_173 : decode cL_law 173 = .ok (.iload 4, 2) := by decide +kernel
theorem dL_law_175 : decode cL_law 175 = .ok (.iconst 3, 1) := by decide +kernel
theorem dL_law_176 : decode cL_law 176 = .ok (.iadd, 1) := by decide +kernel
theorem dL_law_177 : decode cL_law 177 = .ok (.iaload, 1) := by decide +kernel
theorem dL_law_178 : decode cL_law 178 = .ok (.aload_n 3, 1) := by decide +kernel
theorem dL_law_179 : decode cL_law 179 = .ok (.invokestatic 46, 3) := by decide +kernel
theorem dL_law_182 : decode cL_law 182 = .ok (.istore 5, 2) := by decide +kernel
theorem dL_law_184 : decode cL_law 184 = .ok (.aload_n 2, 1) := by decide +kernel
theorem dL_law_185 : decode cL_law 185 = .ok (.aload_n 0, 1) := by decide +kernel
theorem dL_law_186 : decode cL_law 186 = .ok (.iload 4, 2) := by decide +kernel
theorem dL_law_188 : decode cL_law 188 = .ok (.iconst 1, 1) := by decide +kernel
theorem dL_law_189 : decode cL_law 189 = .ok (.iadd, 1) := by decide +kernel
theorem dL_law_190 : decode cL_law 190 = .ok (.iaload, 1) := by decide +kernel
theorem dL_law_191 : decode cL_law 191 = .ok (.aload_n 0, 1) := by decide +kernel
theorem dL_law_192 : decode cL_law 192 = .ok (.iload 4, 2) := by decide +kernel
theorem dL_law_194 : decode cL_law 194 = .ok (.iconst 2, 1) := by decide +kernel
theorem dL_law_195 : decode cL_law 195 = .ok (.iadd, 1) := by decide +kernel
theorem dL_law_196 : decode cL_law 196 = .ok (.iaload, 1) := by decide +kernel
theorem dL_law_197 : decode cL_law 197 = .ok (.aload_n 0, 1) := by decide +kernel
theorem dL_law_198 : decode cL_law 198 = .ok (.iload 4, 2) := by decide +kernel
theorem dL_law_200 : decode cL_law 200 = .ok (.iconst 3, 1) := by decide +kernel
theorem dL_law_201 : decode cL_law 201 = .ok (.iadd, 1) := by decide +kernel
theorem dL_law_202 : decode cL_law 202 = .ok (.iaload, 1) := by decide +kernel
theorem dL_law_203 : decode cL_law 203 = .ok (.invokevirtual 51, 3) := by decide +kernel
theorem dL_law_206 : decode cL_law 206 = .ok (.istore 6, 2) := by decide +kernel
theorem dL_law_208 : decode cL_law 208 = .ok (.aload_n 2, 1) := by decide +kernel
theorem dL_law_209 : decode cL_law 209 = .ok (.invokevirtual 52, 3) := by decide +kernel
theorem dL_law_212 : decode cL_law 212 = .ok (.iload 5, 2) := by decide +kernel
theorem dL_law_214 : decode cL_law 214 = .ok (.if_icmp .eq 5, 3) := by decide +kernel
theorem dL_law_217 : decode cL_law 217 = .ok (.iconst 0, 1) := by decide +kernel
theorem dL_law_218 : decode cL_law 218 = .ok (.ireturn, 1) := by decide +kernel
theorem dL_law_219 : decode cL_law 219 = .ok (.iload 5, 2) := by decide +kernel
theorem dL_law_221 : decode cL_law 221 = .ok (.ifCond .ne 15, 3) := by decide +kernel
theorem dL_law_224 : decode cL_law 224 = .ok (.aload_n 3, 1) := by decide +kernel
theorem dL_law_225 : decode cL_law 225 = .ok (.iconst 0, 1) := by decide +kernel
theorem dL_law_226 : decode cL_law 226 = .ok (.laload, 1) := by decide +kernel
theorem dL_law_227 : decode cL_law 227 = .ok (.iload 6, 2) := by decide +kernel
theorem dL_law_229 : decode cL_law 229 = .ok (.i2l, 1) := by decide +kernel
theorem dL_law_230 : decode cL_law 230 = .ok (.lcmp, 1) := by decide +kernel
theorem dL_law_231 : decode cL_law 231 = .ok (.ifCond .eq 5, 3) := by decide +kernel
theorem dL_law_234 : decode cL_law 234 = .ok (.iconst 0, 1) := by decide +kernel
theorem dL_law_235 : decode cL_law 235 = .ok (.ireturn, 1) := by decide +kernel
theorem dL_law_236 : decode cL_law 236 = .ok (.goto 399, 3) := by decide +kernel
theorem dL_law_239 : decode cL_law 239 = .ok (.aload_n 1, 1) := by decide +kernel
theorem dL_law_240 : decode cL_law 240 = .ok (.aload_n 0, 1) := by decide +kernel
theorem dL_law_241 : decode cL_law 241 = .ok (.iload 4, 2) := by decide +kernel
theorem dL_law_243 : decode cL_law 243 = .ok (.iconst 1, 1) := by decide +kernel
theorem dL_law_244 : decode cL_law 244 = .ok (.iadd, 1) := by decide +kernel
end
section
theorem dL_law_245 : decode cL_law 245 = .ok (.iaload, 1) := by decide +kernel
theorem dL_law_246 : decode cL_law 246 = .ok (.aload_n 0, 1) := by decide +kernel
theorem dL_law_247 : decode cL_law 247 = .ok (.iload 4, 2) := by decide +kernel
theorem dL_law_249 : decode cL_law 249 = .ok (.iconst 2, 1) := by decide +kernel
theorem dL_law_250 : decode cL_law 250 = .ok (.iadd, 1) := by decide +kernel
theorem dL_law_251 : decode cL_law 251 = .ok (.iaload, 1) := by decide +kernel
theorem dL_law_252 : decode cL_law 252 = .ok (.aload_n 3, 1) := by decide +kernel
theorem dL_law_253 : decode cL_law 253 = .ok (.invokestatic 56, 3) := by decide +kernel
theorem dL_law_256 : decode cL_law 256 = .ok (.istore 5, 2) := by decide +kernel
theorem dL_law_258 : decode cL_law 258 = .ok (.aload_n 2, 1) := by decide +kernel
theorem dL_law_259 : decode cL_law 259 = .ok (.aload_n 0, 1) := by decide +kernel
theorem dL_law_260 : decode cL_law 260 = .ok (.iload 4, 2) := by decide +kernel
theorem dL_law_262 : decode cL_law 262 = .ok (.iconst 1, 1) := by decide +kernel
theorem dL_law_263 : decode cL_law 263 = .ok (.iadd, 1) := by decide +kernel
theorem dL_law_264 : decode cL_law 264 = .ok (.iaload, 1) := by decide +kernel
theorem dL_law_265 : decode cL_law 265 = .ok (.aload_n 0, 1) := by decide +kernel
theorem dL_law_266 : decode cL_law 266 = .ok (.iload 4, 2) := by decide +kernel
theorem dL_law_268 : decode cL_law 268 = .ok (.iconst 2, 1) := by decide +kernel
theorem dL_law_269 : decode cL_law 269 = .ok (.iadd, 1) := by decide +kernel
theorem dL_law_270 : decode cL_law 270 = .ok (.iaload, 1) := by decide +kernel
theorem dL_law_271 : decode cL_law 271 = .ok (.invokevirtual 59, 3) := by decide +kernel
theorem dL_law_274 : decode cL_law 274 = .ok (.istore 6, 2) := by decide +kernel
theorem dL_law_276 : decode cL_law 276 = .ok (.aload_n 2, 1) := by decide +kernel
theorem dL_law_277 : decode cL_law 277 = .ok (.invokevirtual 52, 3) := by decide +kernel
theorem dL_law_280 : decode cL_law 280 = .ok (.iload 5, 2) := by decide +kernel
theorem dL_law_282 : decode cL_law 282 = .ok (.if_icmp .eq 5, 3) := by decide +kernel
theorem dL_law_285 : decode cL_law 285 = .ok (.iconst 0, 1) := by decide +kernel
theorem dL_law_286 : decode cL_law 286 = .ok (.ireturn, 1) := by decide +kernel
theorem dL_law_287 : decode cL_law 287 = .ok (.iload 5, 2) := by decide +kernel
theorem dL_law_289 : decode cL_law 289 = .ok (.ifCond .ne 15, 3) := by decide +kernel
theorem dL_law_292 : decode cL_law 292 = .ok (.aload_n 3, 1) := by decide +kernel
theorem dL_law_293 : decode cL_law 293 = .ok (.iconst 0, 1) := by decide +kernel
theorem dL_law_294 : decode cL_law 294 = .ok (.laload, 1) := by decide +kernel
theorem dL_law_295 : decode cL_law 295 = .ok (.iload 6, 2) := by decide +kernel
theorem dL_law_297 : decode cL_law 297 = .ok (.i2l, 1) := by decide +kernel
theorem dL_law_298 : decode cL_law 298 = .ok (.lcmp, 1) := by decide +kernel
theorem dL_law_299 : decode cL_law 299 = .ok (.ifCond .eq 5, 3) := by decide +kernel
theorem dL_law_302 : decode cL_law 302 = .ok (.iconst 0, 1) := by decide +kernel
theorem dL_law_303 : decode cL_law 303 = .ok (.ireturn, 1) := by decide +kernel
theorem dL_law_304 : decode cL_law 304 = .ok (.goto 331, 3) := by decide +kernel
theorem dL_law_307 : decode cL_law 307 = .ok (.aload_n 1, 1) := by decide +kernel
theorem dL_law_308 : decode cL_law 308 = .ok (.aload_n 0, 1) := by decide +kernel
theorem dL_law_309 : decode cL_law 309 = .ok (.iload 4, 2) := by decide +kernel
theorem dL_law_311 : decode cL_law 311 = .ok (.iconst 1, 1) := by decide +kernel
theorem dL_law_312 : decode cL_law 312 = .ok (.iadd, 1) := by decide +kernel
theorem dL_law_313 : decode cL_law 313 = .ok (.iaload, 1) := by decide +kernel
theorem dL_law_314 : decode cL_law 314 = .ok (.aload_n 0, 1) := by decide +kernel
theorem dL_law_315 : decode cL_law 315 = .ok (.iload 4, 2) := by decide +kernel
theorem dL_law_317 : decode cL_law 317 = .ok (.iconst 2, 1) := by decide +kernel
theorem dL_law_318 : decode cL_law 318 = .ok (.iadd, 1) := by decide +kernel
theorem dL_law_319 : decode cL_law 319 = .ok (.iaload, 1) := by decide +kernel
theorem dL_law_320 : decode cL_law 320 = .ok (.aload_n 3, 1) := by decide +kernel
theorem dL_law_321 : decode cL_law 321 = .ok (.invokestatic 60, 3) := by decide +kernel
theorem dL_law_324 : decode cL_law 324 = .ok (.istore 5, 2) := by decide +kernel
theorem dL_law_326 : decode cL_law 326 = .ok (.aload_n 2, 1) := by decide +kernel
theorem dL_law_327 : decode cL_law 327 = .ok (.aload_n 0, 1) := by decide +kernel
theorem dL_law_328 : decode cL_law 328 = .ok (.iload 4, 2) := by decide +kernel
theorem dL_law_330 : decode cL_law 330 = .ok (.iconst 1, 1) := by decide +kernel
theorem dL_law_331 : decode cL_law 331 = .ok (.iadd, 1) := by decide +kernel
theorem dL_law_332 : decode cL_law 332 = .ok (.iaload, 1) := by decide +kernel
theorem dL_law_333 : decode cL_law 333 = .ok (.aload_n 0, 1) := by decide +kernel
theorem dL_law_334 : decode cL_law 334 = .ok (.iload 4, 2) := by decide +kernel
theorem dL_law_336 : decode cL_law 336 = .ok (.iconst 2, 1) := by decide +kernel
theorem dL_law_337 : decode cL_law 337 = .ok (.iadd, 1) := by decide +kernel
theorem dL_law_338 : decode cL_law 338 = .ok (.iaload, 1) := by decide +kernel
theorem dL_law_339 : decode cL_law 339 = .ok (.invokevirtual 62, 3) := by decide +kernel
theorem dL_law_342 : decode cL_law 342 = .ok (.istore 6, 2) := by decide +kernel
theorem dL_law_344 : decode cL_law 344 = .ok (.aload_n 2, 1) := by decide +kernel
theorem dL_law_345 : decode cL_law 345 = .ok (.invokevirtual 52, 3) := by decide +kernel
theorem dL_law_348 : decode cL_law 348 = .ok (.iload 5, 2) := by decide +kernel
theorem dL_law_350 : decode cL_law 350 = .ok (.if_icmp .eq 5, 3) := by decide +kernel
theorem dL_law_353 : decode cL_law 353 = .ok (.iconst 0, 1) := by decide +kernel
theorem dL_law_354 : decode cL_law 354 = .ok (.ireturn, 1) := by decide +kernel
theorem dL_law_355 : decode cL_law 355 = .ok (.iload 5, 2) := by decide +kernel
theorem dL_law_357 : decode cL_law 357 = .ok (.ifCond .ne 15, 3) := by decide +kernel
theorem dL_law_360 : decode cL_law 360 = .ok (.aload_n 3, 1) := by decide +kernel
theorem dL_law_361 : decode cL_law 361 = .ok (.iconst 0, 1) := by decide +kernel
theorem dL_law_362 : decode cL_law 362 = .ok (.laload, 1) := by decide +kernel
theorem dL_law_363 : decode cL_law 363 = .ok (.iload 6, 2) := by decide +kernel
theorem dL_law_365 : decode cL_law 365 = .ok (.i2l, 1) := by decide +kernel
theorem dL_law_366 : decode cL_law 366 = .ok (.lcmp, 1) := by decide +kernel
theorem dL_law_367 : decode cL_law 367 = .ok (.ifCond .eq 5, 3) := by decide +kernel
theorem dL_law_370 : decode cL_law 370 = .ok (.iconst 0, 1) := by decide +kernel
theorem dL_law_371 : decode cL_law 371 = .ok (.ireturn, 1) := by decide +kernel
theorem dL_law_372 : decode cL_law 372 = .ok (.goto 263, 3) := by decide +kernel
theorem dL_law_375 : decode cL_law 375 = .ok (.aload_n 1, 1) := by decide +kernel
theorem dL_law_376 : decode cL_law 376 = .ok (.aload_n 0, 1) := by decide +kernel
theorem dL_law_377 : decode cL_law 377 = .ok (.iload 4, 2) := by decide +kernel
theorem dL_law_379 : decode cL_law 379 = .ok (.iconst 1, 1) := by decide +kernel
theorem dL_law_380 : decode cL_law 380 = .ok (.iadd, 1) := by decide +kernel
theorem dL_law_381 : decode cL_law 381 = .ok (.iaload, 1) := by decide +kernel
theorem dL_law_382 : decode cL_law 382 = .ok (.aload_n 0, 1) := by decide +kernel
theorem dL_law_383 : decode cL_law 383 = .ok (.iload 4, 2) := by decide +kernel
theorem dL_law_385 : decode cL_law 385 = .ok (.iconst 2, 1) := by decide +kernel
theorem dL_law_386 : decode cL_law 386 = .ok (.iadd, 1) := by decide +kernel
theorem dL_law_387 : decode cL_law 387 = .ok (.iaload, 1) := by decide +kernel
theorem dL_law_388 : decode cL_law 388 = .ok (.aload_n 0, 1) := by decide +kernel
theorem dL_law_389 : decode cL_law 389 = .ok (.iload 4, 2) := by decide +kernel
theorem dL_law_391 : decode cL_law 391 = .ok (.iconst 3, 1) := by decide +kernel
theorem dL_law_392 : decode cL_law 392 = .ok (.iadd, 1) := by decide +kernel
theorem dL_law_393 : decode cL_law 393 = .ok (.iaload, 1) := by decide +kernel
theorem dL_law_394 : decode cL_law 394 = .ok (.aload_n 3, 1) := by decide +kernel
theorem dL_law_395 : decode cL_law 395 = .ok (.invokestatic 63, 3) := by decide +kernel
theorem dL_law_398 : decode cL_law 398 = .ok (.istore 5, 2) := by decide +kernel
theorem dL_law_400 : decode cL_law 400 = .ok (.aload_n 2, 1) := by decide +kernel
theorem dL_law_401 : decode cL_law 401 = .ok (.aload_n 0, 1) := by decide +kernel
theorem dL_law_402 : decode cL_law 402 = .ok (.iload 4, 2) := by decide +kernel
theorem dL_law_404 : decode cL_law 404 = .ok (.iconst 1, 1) := by decide +kernel
theorem dL_law_405 : decode cL_law 405 = .ok (.iadd, 1) := by decide +kernel
theorem dL_law_406 : decode cL_law 406 = .ok (.iaload, 1) := by decide +kernel
theorem dL_law_407 : decode cL_law 407 = .ok (.aload_n 0, 1) := by decide +kernel
theorem dL_law_408 : decode cL_law 408 = .ok (.iload 4, 2) := by decide +kernel
theorem dL_law_410 : decode cL_law 410 = .ok (.iconst 2, 1) := by decide +kernel
theorem dL_law_411 : decode cL_law 411 = .ok (.iadd, 1) := by decide +kernel
theorem dL_law_412 : decode cL_law 412 = .ok (.iaload, 1) := by decide +kernel
theorem dL_law_413 : decode cL_law 413 = .ok (.aload_n 0, 1) := by decide +kernel
theorem dL_law_414 : decode cL_law 414 = .ok (.iload 4, 2) := by decide +kernel
theorem dL_law_416 : decode cL_law 416 = .ok (.iconst 3, 1) := by decide +kernel
theorem dL_law_417 : decode cL_law 417 = .ok (.iadd, 1) := by decide +kernel
theorem dL_law_418 : decode cL_law 418 = .ok (.iaload, 1) := by decide +kernel
theorem dL_law_419 : decode cL_law 419 = .ok (.invokevirtual 65, 3) := by decide +kernel
theorem dL_law_422 : decode cL_law 422 = .ok (.istore 6, 2) := by decide +kernel
theorem dL_law_424 : decode cL_law 424 = .ok (.aload_n 2, 1) := by decide +kernel
theorem dL_law_425 : decode cL_law 425 = .ok (.invokevirtual 52, 3) := by decide +kernel
theorem dL_law_428 : decode cL_law 428 = .ok (.iload 5, 2) := by decide +kernel
theorem dL_law_430 : decode cL_law 430 = .ok (.if_icmp .eq 5, 3) := by decide +kernel
theorem dL_law_433 : decode cL_law 433 = .ok (.iconst 0, 1) := by decide +kernel
theorem dL_law_434 : decode cL_law 434 = .ok (.ireturn, 1) := by decide +kernel
theorem dL_law_435 : decode cL_law 435 = .ok (.iload 5, 2) := by decide +kernel
theorem dL_law_437 : decode cL_law 437 = .ok (.ifCond .ne 15, 3) := by decide +kernel
theorem dL_law_440 : decode cL_law 440 = .ok (.aload_n 3, 1) := by decide +kernel
theorem dL_law_441 : decode cL_law 441 = .ok (.iconst 0, 1) := by decide +kernel
theorem dL_law_442 : decode cL_law 442 = .ok (.laload, 1) := by decide +kernel
theorem dL_law_443 : decode cL_law 443 = .ok (.iload 6, 2) := by decide +kernel
theorem dL_law_445 : decode cL_law 445 = .ok (.i2l, 1) := by decide +kernel
theorem dL_law_446 : decode cL_law 446 = .ok (.lcmp, 1) := by decide +kernel
theorem dL_law_447 : decode cL_law 447 = .ok (.ifCond .eq 5, 3) := by decide +kernel
theorem dL_law_450 : decode cL_law 450 = .ok (.iconst 0, 1) := by decide +kernel
theorem dL_law_451 : decode cL_law 451 = .ok (.ireturn, 1) := by decide +kernel
theorem dL_law_452 : decode cL_law 452 = .ok (.goto 183, 3) := by decide +kernel
end
section
theorem dL_law_455 : decode cL_law 455 = .ok (.aload_n 1, 1) := by decide +kernel
theorem dL_law_456 : decode cL_law 456 = .ok (.aload_n 0, 1) := by decide +kernel
theorem dL_law_457 : decode cL_law 457 = .ok (.iload 4, 2) := by decide +kernel
theorem dL_law_459 : decode cL_law 459 = .ok (.iconst 1, 1) := by decide +kernel
theorem dL_law_460 : decode cL_law 460 = .ok (.iadd, 1) := by decide +kernel
theorem dL_law_461 : decode cL_law 461 = .ok (.iaload, 1) := by decide +kernel
theorem dL_law_462 : decode cL_law 462 = .ok (.aload_n 3, 1) := by decide +kernel
theorem dL_law_463 : decode cL_law 463 = .ok (.invokestatic 66, 3) := by decide +kernel
theorem dL_law_466 : decode cL_law 466 = .ok (.istore 5, 2) := by decide +kernel
theorem dL_law_468 : decode cL_law 468 = .ok (.aload_n 2, 1) := by decide +kernel
theorem dL_law_469 : decode cL_law 469 = .ok (.aload_n 0, 1) := by decide +kernel
theorem dL_law_470 : decode cL_law 470 = .ok (.iload 4, 2) := by decide +kernel
theorem dL_law_472 : decode cL_law 472 = .ok (.iconst 1, 1) := by decide +kernel
theorem dL_law_473 : decode cL_law 473 = .ok (.iadd, 1) := by decide +kernel
theorem dL_law_474 : decode cL_law 474 = .ok (.iaload, 1) := by decide +kernel
theorem dL_law_475 : decode cL_law 475 = .ok (.invokevirtual 69, 3) := by decide +kernel
theorem dL_law_478 : decode cL_law 478 = .ok (.istore 6, 2) := by decide +kernel
theorem dL_law_480 : decode cL_law 480 = .ok (.aload_n 2, 1) := by decide +kernel
theorem dL_law_481 : decode cL_law 481 = .ok (.invokevirtual 52, 3) := by decide +kernel
theorem dL_law_484 : decode cL_law 484 = .ok (.iload 5, 2) := by decide +kernel
theorem dL_law_486 : decode cL_law 486 = .ok (.if_icmp .eq 5, 3) := by decide +kernel
theorem dL_law_489 : decode cL_law 489 = .ok (.iconst 0, 1) := by decide +kernel
theorem dL_law_490 : decode cL_law 490 = .ok (.ireturn, 1) := by decide +kernel
theorem dL_law_491 : decode cL_law 491 = .ok (.iload 5, 2) := by decide +kernel
theorem dL_law_493 : decode cL_law 493 = .ok (.ifCond .ne 15, 3) := by decide +kernel
theorem dL_law_496 : decode cL_law 496 = .ok (.aload_n 3, 1) := by decide +kernel
theorem dL_law_497 : decode cL_law 497 = .ok (.iconst 0, 1) := by decide +kernel
theorem dL_law_498 : decode cL_law 498 = .ok (.laload, 1) := by decide +kernel
theorem dL_law_499 : decode cL_law 499 = .ok (.iload 6, 2) := by decide +kernel
theorem dL_law_501 : decode cL_law 501 = .ok (.i2l, 1) := by decide +kernel
theorem dL_law_502 : decode cL_law 502 = .ok (.lcmp, 1) := by decide +kernel
theorem dL_law_503 : decode cL_law 503 = .ok (.ifCond .eq 5, 3) := by decide +kernel
theorem dL_law_506 : decode cL_law 506 = .ok (.iconst 0, 1) := by decide +kernel
theorem dL_law_507 : decode cL_law 507 = .ok (.ireturn, 1) := by decide +kernel
theorem dL_law_508 : decode cL_law 508 = .ok (.goto 127, 3) := by decide +kernel
theorem dL_law_511 : decode cL_law 511 = .ok (.aload_n 1, 1) := by decide +kernel
theorem dL_law_512 : decode cL_law 512 = .ok (.aload_n 0, 1) := by decide +kernel
theorem dL_law_513 : decode cL_law 513 = .ok (.iload 4, 2) := by decide +kernel
theorem dL_law_515 : decode cL_law 515 = .ok (.iconst 1, 1) := by decide +kernel
theorem dL_law_516 : decode cL_law 516 = .ok (.iadd, 1) := by decide +kernel
theorem dL_law_517 : decode cL_law 517 = .ok (.iaload, 1) := by decide +kernel
theorem dL_law_518 : decode cL_law 518 = .ok (.aload_n 0, 1) := by decide +kernel
theorem dL_law_519 : decode cL_law 519 = .ok (.iload 4, 2) := by decide +kernel
theorem dL_law_521 : decode cL_law 521 = .ok (.iconst 2, 1) := by decide +kernel
theorem dL_law_522 : decode cL_law 522 = .ok (.iadd, 1) := by decide +kernel
theorem dL_law_523 : decode cL_law 523 = .ok (.iaload, 1) := by decide +kernel
theorem dL_law_524 : decode cL_law 524 = .ok (.aload_n 3, 1) := by decide +kernel
theorem dL_law_525 : decode cL_law 525 = .ok (.invokestatic 70, 3) := by decide +kernel
theorem dL_law_528 : decode cL_law 528 = .ok (.istore 5, 2) := by decide +kernel
theorem dL_law_530 : decode cL_law 530 = .ok (.aload_n 2, 1) := by decide +kernel
theorem dL_law_531 : decode cL_law 531 = .ok (.aload_n 0, 1) := by decide +kernel
theorem dL_law_532 : decode cL_law 532 = .ok (.iload 4, 2) := by decide +kernel
theorem dL_law_534 : decode cL_law 534 = .ok (.iconst 1, 1) := by decide +kernel
theorem dL_law_535 : decode cL_law 535 = .ok (.iadd, 1) := by decide +kernel
theorem dL_law_536 : decode cL_law 536 = .ok (.iaload, 1) := by decide +kernel
theorem dL_law_537 : decode cL_law 537 = .ok (.aload_n 0, 1) := by decide +kernel
theorem dL_law_538 : decode cL_law 538 = .ok (.iload 4, 2) := by decide +kernel
theorem dL_law_540 : decode cL_law 540 = .ok (.iconst 2, 1) := by decide +kernel
theorem dL_law_541 : decode cL_law 541 = .ok (.iadd, 1) := by decide +kernel
theorem dL_law_542 : decode cL_law 542 = .ok (.iaload, 1) := by decide +kernel
theorem dL_law_543 : decode cL_law 543 = .ok (.invokevirtual 72, 3) := by decide +kernel
theorem dL_law_546 : decode cL_law 546 = .ok (.istore 6, 2) := by decide +kernel
theorem dL_law_548 : decode cL_law 548 = .ok (.aload_n 2, 1) := by decide +kernel
theorem dL_law_549 : decode cL_law 549 = .ok (.invokevirtual 52, 3) := by decide +kernel
theorem dL_law_552 : decode cL_law 552 = .ok (.iload 5, 2) := by decide +kernel
theorem dL_law_554 : decode cL_law 554 = .ok (.if_icmp .eq 5, 3) := by decide +kernel
theorem dL_law_557 : decode cL_law 557 = .ok (.iconst 0, 1) := by decide +kernel
theorem dL_law_558 : decode cL_law 558 = .ok (.ireturn, 1) := by decide +kernel
theorem dL_law_559 : decode cL_law 559 = .ok (.iload 5, 2) := by decide +kernel
theorem dL_law_561 : decode cL_law 561 = .ok (.ifCond .ne 15, 3) := by decide +kernel
theorem dL_law_564 : decode cL_law 564 = .ok (.aload_n 3, 1) := by decide +kernel
theorem dL_law_565 : decode cL_law 565 = .ok (.iconst 0, 1) := by decide +kernel
theorem dL_law_566 : decode cL_law 566 = .ok (.laload, 1) := by decide +kernel
theorem dL_law_567 : decode cL_law 567 = .ok (.iload 6, 2) := by decide +kernel
theorem dL_law_569 : decode cL_law 569 = .ok (.i2l, 1) := by decide +kernel
theorem dL_law_570 : decode cL_law 570 = .ok (.lcmp, 1) := by decide +kernel
theorem dL_law_571 : decode cL_law 571 = .ok (.ifCond .eq 5, 3) := by decide +kernel
theorem dL_law_574 : decode cL_law 574 = .ok (.iconst 0, 1) := by decide +kernel
theorem dL_law_575 : decode cL_law 575 = .ok (.ireturn, 1) := by decide +kernel
theorem dL_law_576 : decode cL_law 576 = .ok (.goto 59, 3) := by decide +kernel
theorem dL_law_579 : decode cL_law 579 = .ok (.aload_n 1, 1) := by decide +kernel
theorem dL_law_580 : decode cL_law 580 = .ok (.aload_n 0, 1) := by decide +kernel
theorem dL_law_581 : decode cL_law 581 = .ok (.iload 4, 2) := by decide +kernel
theorem dL_law_583 : decode cL_law 583 = .ok (.iconst 1, 1) := by decide +kernel
theorem dL_law_584 : decode cL_law 584 = .ok (.iadd, 1) := by decide +kernel
theorem dL_law_585 : decode cL_law 585 = .ok (.iaload, 1) := by decide +kernel
theorem dL_law_586 : decode cL_law 586 = .ok (.aload_n 3, 1) := by decide +kernel
theorem dL_law_587 : decode cL_law 587 = .ok (.invokestatic 73, 3) := by decide +kernel
theorem dL_law_590 : decode cL_law 590 = .ok (.istore 5, 2) := by decide +kernel
theorem dL_law_592 : decode cL_law 592 = .ok (.aload_n 2, 1) := by decide +kernel
theorem dL_law_593 : decode cL_law 593 = .ok (.aload_n 0, 1) := by decide +kernel
theorem dL_law_594 : decode cL_law 594 = .ok (.iload 4, 2) := by decide +kernel
theorem dL_law_596 : decode cL_law 596 = .ok (.iconst 1, 1) := by decide +kernel
theorem dL_law_597 : decode cL_law 597 = .ok (.iadd, 1) := by decide +kernel
theorem dL_law_598 : decode cL_law 598 = .ok (.iaload, 1) := by decide +kernel
theorem dL_law_599 : decode cL_law 599 = .ok (.invokevirtual 75, 3) := by decide +kernel
theorem dL_law_602 : decode cL_law 602 = .ok (.istore 6, 2) := by decide +kernel
theorem dL_law_604 : decode cL_law 604 = .ok (.aload_n 2, 1) := by decide +kernel
theorem dL_law_605 : decode cL_law 605 = .ok (.invokevirtual 52, 3) := by decide +kernel
theorem dL_law_608 : decode cL_law 608 = .ok (.iload 5, 2) := by decide +kernel
theorem dL_law_610 : decode cL_law 610 = .ok (.if_icmp .eq 5, 3) := by decide +kernel
theorem dL_law_613 : decode cL_law 613 = .ok (.iconst 0, 1) := by decide +kernel
theorem dL_law_614 : decode cL_law 614 = .ok (.ireturn, 1) := by decide +kernel
theorem dL_law_615 : decode cL_law 615 = .ok (.iload 5, 2) := by decide +kernel
theorem dL_law_617 : decode cL_law 617 = .ok (.ifCond .ne 15, 3) := by decide +kernel
theorem dL_law_620 : decode cL_law 620 = .ok (.aload_n 3, 1) := by decide +kernel
theorem dL_law_621 : decode cL_law 621 = .ok (.iconst 0, 1) := by decide +kernel
theorem dL_law_622 : decode cL_law 622 = .ok (.laload, 1) := by decide +kernel
theorem dL_law_623 : decode cL_law 623 = .ok (.iload 6, 2) := by decide +kernel
theorem dL_law_625 : decode cL_law 625 = .ok (.i2l, 1) := by decide +kernel
theorem dL_law_626 : decode cL_law 626 = .ok (.lcmp, 1) := by decide +kernel
theorem dL_law_627 : decode cL_law 627 = .ok (.ifCond .eq 5, 3) := by decide +kernel
theorem dL_law_630 : decode cL_law 630 = .ok (.iconst 0, 1) := by decide +kernel
theorem dL_law_631 : decode cL_law 631 = .ok (.ireturn, 1) := by decide +kernel
theorem dL_law_632 : decode cL_law 632 = .ok (.goto 3, 3) := by decide +kernel
theorem dL_law_635 : decode cL_law 635 = .ok (.iinc 4 6, 3) := by decide +kernel
theorem dL_law_638 : decode cL_law 638 = .ok (.goto (-615), 3) := by decide +kernel
theorem dL_law_641 : decode cL_law 641 = .ok (.iconst 1, 1) := by decide +kernel
theorem dL_law_642 : decode cL_law 642 = .ok (.ireturn, 1) := by decide +kernel
end
section
/-! chains of slots in a row of links: pure -/
section
/-- the links from place p on lead through the slots of the list, and end -/
def hn_ch (ln : Nat → Int32) : Nat → List Nat → Prop
  | p, [] => ln p = -1
  | p, s :: l => ln p = nI s ∧ s < 384 ∧ hn_ch ln s l
/-- the last place whose slot is below K -/
def hn_pl (nm : Nat → Nat) (K : Nat) : Nat → List Nat → Nat
  | p, [] => p
  | p, s :: l => if nm s < K then hn_pl nm K s l else p
/-- put in, in order -/
def hn_ins (nm : Nat → Nat) (K s : Nat) : List Nat → List Nat
  | [] => [s]
  | t :: l => if nm t < K then t :: hn_ins nm K s l else s :: t :: l
/-- strictly rising -/
def hn_srt (nm : Nat → Nat) : List Nat → Prop
  | [] => True
  | s :: l => (∀ t ∈ l, nm s < nm t) ∧ hn_srt nm l
/-- the first that is not below K -/
def hn_fst (nm : Nat → Nat) (K : Nat) : List Nat → Option Nat
  | [] => none
  | s :: l => if nm s < K then hn_fst nm K l else some s

theorem hn_ch_lt {ln : Nat → Int32} : ∀ {l : List Nat} {p : Nat}, hn_ch ln p l → ∀ t ∈ l, t < 384
  | [], _, _, _, h => by cases h
  | s :: l, _, ⟨_, h2, h3⟩, t, h => by
    rcases List.mem_cons.mp h with rfl | h
    · exact h2
    · exact hn_ch_lt h3 t h
theorem hn_ch_keep {ln ln' : Nat → Int32} : ∀ {l : List Nat} {p : Nat}, hn_ch ln p l → ln' p = ln p → (∀ t ∈ l, ln' t = ln t) → hn_ch ln' p l
  | [], _, h, e, _ => e.trans h
  | s :: l, _, ⟨h1, h2, h3⟩, e, k => ⟨e.trans h1, h2, hn_ch_keep h3 (k s List.mem_cons_self) (fun t ht => k t (List.mem_cons_of_mem _ ht))⟩
theorem hn_pl_mem (nm : Nat → Nat) (K : Nat) : ∀ (l : List Nat) (p : Nat), hn_pl nm K p l = p ∨ hn_pl nm K p l ∈ l
  | [], _ => Or.inl rfl
  | s :: l, p => by
    unfold hn_pl
    by_cases h : nm s < K
    · rw [if_pos h]
      rcases hn_pl_mem nm K l s with e | e
      · rw [e]; exact Or.inr List.mem_cons_self
      · exact Or.inr (List.mem_cons_of_mem _ e)
    · rw [if_neg h]; exact Or.inl rfl
/-- what stands behind the place -/
theorem hn_pl_next {ln : Nat → Int32} {nm : Nat → Nat} {K : Nat} : ∀ {l : List Nat} {p : Nat}, hn_ch ln p l → (hn_fst nm K l = none ∧ ln (hn_pl nm K p l) = -1) ∨ ∃ s, hn_fst nm K l = some s ∧ ln (hn_pl nm K p l) = nI s ∧ s ∈ l ∧ ¬ nm s < K
  | [], _, h => Or.inl ⟨rfl, h⟩
  | s :: l, p, ⟨h1, h2, h3⟩ => by
    unfold hn_pl hn_fst
    by_cases h : nm s < K
    · rw [if_pos h, if_pos h]
      rcases hn_pl_next (nm := nm) (K := K) h3 with ⟨a, b⟩ | ⟨t, a, b, c, d⟩
      · exact Or.inl ⟨a, b⟩
      · exact Or.inr ⟨t, a, b, List.mem_cons_of_mem _ c, d⟩
    · rw [if_neg h, if_neg h]
      exact Or.inr ⟨s, rfl, h1, List.mem_cons_self, h⟩
theorem hn_ins_mem {nm : Nat → Nat} {K s t : Nat} : ∀ {l : List Nat}, t ∈ hn_ins nm K s l ↔ t = s ∨ t ∈ l
  | [] => by unfold hn_ins; simp
  | x :: l => by
    unfold hn_ins
    by_cases h : nm x < K
    · rw [if_pos h]
      simp only [List.mem_cons, hn_ins_mem]
      constructor
      · rintro (h | h | h)
        · exact Or.inr (Or.inl h)
        · exact Or.inl h
        · exact Or.inr (Or.inr h)
      · rintro (h | h | h)
        · exact Or.inr (Or.inl h)
        · exact Or.inl h
        · exact Or.inr (Or.inr h)
    · rw [if_neg h]; simp
theorem hn_ins_len {nm : Nat → Nat} {K s : Nat} : ∀ {l : List Nat}, (hn_ins nm K s l).length = l.length + 1
  | [] => rfl
  | x :: l => by
    unfold hn_ins
    by_cases h : nm x < K
    · rw [if_pos h]; simp [hn_ins_len]
    · rw [if_neg h]; rfl
theorem hn_ins_srt {nm : Nat → Nat} {K s : Nat} (hs : nm s = K) : ∀ {l : List Nat}, hn_srt nm l → (∀ t ∈ l, nm t ≠ K) → hn_srt nm (hn_ins nm K s l)
  | [], _, _ => ⟨fun _ h => (by cases h), trivial⟩
  | x :: l, ⟨h1, h2⟩, hn => by
    unfold hn_ins
    by_cases h : nm x < K
    · rw [if_pos h]
      refine ⟨fun t ht => ?_, hn_ins_srt hs h2 (fun t ht => hn t (List.mem_cons_of_mem _ ht))⟩
      rcases hn_ins_mem.mp ht with rfl | ht
      · omega
      · exact h1 t ht
    · rw [if_neg h]
      have hx := hn x List.mem_cons_self
      refine ⟨fun t ht => ?_, h1, h2⟩
      rcases List.mem_cons.mp ht with rfl | ht
      · omega
      · have := h1 t ht
        omega
/-- no slot stands twice -/
def hn_nd : List Nat → Prop
  | [] => True
  | s :: l => s ∉ l ∧ hn_nd l
theorem hn_srt_nd {nm : Nat → Nat} : ∀ {l : List Nat}, hn_srt nm l → hn_nd l
  | [], _ => trivial
  | s :: l, ⟨h1, h2⟩ => ⟨fun h => absurd (h1 s h) (Nat.lt_irrefl _), hn_srt_nd h2⟩
theorem hn_srt_inj {nm : Nat → Nat} : ∀ {l : List Nat}, hn_srt nm l → ∀ {s t : Nat}, s ∈ l → t ∈ l → nm s = nm t → s = t
  | x :: l, ⟨h1, h2⟩, s, t, hs, ht, e => by
    rcases List.mem_cons.mp hs with e1 | hs'
    · rcases List.mem_cons.mp ht with e2 | ht'
      · rw [e1, e2]
      · rw [e1] at e
        exact absurd e (Nat.ne_of_lt (h1 t ht'))
    · rcases List.mem_cons.mp ht with e2 | ht'
      · rw [e2] at e
        exact absurd e.symm (Nat.ne_of_lt (h1 s hs'))
      · exact hn_srt_inj h2 hs' ht' e
/-- the first that is not below K is the one that is K, if there is one -/
theorem hn_fst_srt {nm : Nat → Nat} {K : Nat} : ∀ {l : List Nat}, hn_srt nm l → ∀ {s : Nat}, s ∈ l → nm s = K → hn_fst nm K l = some s
  | x :: l, ⟨h1, h2⟩, s, hs, e => by
    unfold hn_fst
    rcases List.mem_cons.mp hs with rfl | hs
    · rw [if_neg (by omega)]
    · have := h1 s hs
      rw [if_pos (by omega)]
      exact hn_fst_srt h2 hs e
theorem hn_fst_mem {nm : Nat → Nat} {K : Nat} : ∀ {l : List Nat} {s : Nat}, hn_fst nm K l = some s → s ∈ l
  | x :: l, s, h => by
    unfold hn_fst at h
    by_cases hx : nm x < K
    · rw [if_pos hx] at h; exact List.mem_cons_of_mem _ (hn_fst_mem h)
    · rw [if_neg hx] at h; cases h; exact List.mem_cons_self
/-- a slot is put into its chain -/
theorem hn_ch_ins {ln : Nat → Int32} {nm : Nat → Nat} {K s : Nat} (hs : s < 384) : ∀ {l : List Nat} {p : Nat}, hn_ch ln p l → p ∉ l → hn_nd l → s ≠ p → s ∉ l →
    hn_ch (upd (upd ln s (ln (hn_pl nm K p l))) (hn_pl nm K p l) (nI s)) p (hn_ins nm K s l)
  | [], p, h, _, _, hsp, _ => by
    unfold hn_pl hn_ins
    refine ⟨pk_us, hs, ?_⟩
    show upd (upd ln s (ln p)) p (nI s) s = -1
    rw [pk_un hsp, pk_us]; exact h
  | x :: l, p, ⟨h1, h2, h3⟩, hp, ⟨n1, n2⟩, hsp, hsl => by
    have hpx : p ≠ x := fun e => hp (by rw [e]; exact List.mem_cons_self)
    have hsx : s ≠ x := fun e => hsl (by rw [e]; exact List.mem_cons_self)
    have hsl' : s ∉ l := fun e => hsl (List.mem_cons_of_mem _ e)
    have hpl : p ∉ l := fun e => hp (List.mem_cons_of_mem _ e)
    unfold hn_pl hn_ins
    by_cases h : nm x < K
    · rw [if_pos h, if_pos h]
      refine ⟨?_, h2, hn_ch_ins hs h3 n1 n2 hsx hsl'⟩
      have hq : p ≠ hn_pl nm K x l := by
        rcases hn_pl_mem nm K l x with e | e
        · rw [e]; exact hpx
        · intro z; exact hpl (by rw [z]; exact e)
      rw [pk_un hq, pk_un (Ne.symm hsp)]; exact h1
    · rw [if_neg h, if_neg h]
      refine ⟨pk_us, hs, ?_, h2, ?_⟩
      · show upd (upd ln s (ln p)) p (nI s) s = nI x
        rw [pk_un hsp, pk_us]; exact h1
      · refine hn_ch_keep h3 ?_ (fun t ht => ?_)
        · rw [pk_un (Ne.symm hpx), pk_un (Ne.symm hsx)]
        · rw [pk_un (fun e => hpl (by rw [← e]; exact ht)), pk_un (fun e => hsl' (by rw [← e]; exact ht))]
/-- a slot is taken out of its chain -/
def hn_rmv (s : Nat) : List Nat → List Nat
  | [] => []
  | t :: l => if t = s then l else t :: hn_rmv s l
theorem hn_rmv_mem {s t : Nat} : ∀ {l : List Nat}, hn_nd l → (t ∈ hn_rmv s l ↔ t ∈ l ∧ t ≠ s)
  | [], _ => by unfold hn_rmv; simp
  | x :: l, ⟨h1, h2⟩ => by
    unfold hn_rmv
    by_cases h : x = s
    · rw [if_pos h]
      subst h
      simp only [List.mem_cons]
      constructor
      · intro ht; exact ⟨Or.inr ht, fun e => h1 (by rw [← e]; exact ht)⟩
      · rintro ⟨h3 | h3, h4⟩
        · exact absurd h3 h4
        · exact h3
    · rw [if_neg h]
      simp only [List.mem_cons, hn_rmv_mem h2]
      constructor
      · rintro (h3 | ⟨h3, h4⟩)
        · exact ⟨Or.inl h3, by rw [h3]; exact h⟩
        · exact ⟨Or.inr h3, h4⟩
      · rintro ⟨h3 | h3, h4⟩
        · exact Or.inl h3
        · exact Or.inr ⟨h3, h4⟩
theorem hn_rmv_nd {s : Nat} : ∀ {l : List Nat}, hn_nd l → hn_nd (hn_rmv s l)
  | [], _ => trivial
  | x :: l, ⟨h1, h2⟩ => by
    unfold hn_rmv
    by_cases h : x = s
    · rw [if_pos h]; exact h2
    · rw [if_neg h]
      exact ⟨fun hx => h1 ((hn_rmv_mem h2).mp hx).1, hn_rmv_nd h2⟩
theorem hn_rmv_srt {nm : Nat → Nat} {s : Nat} : ∀ {l : List Nat}, hn_srt nm l → hn_srt nm (hn_rmv s l)
  | [], _ => trivial
  | x :: l, ⟨h1, h2⟩ => by
    unfold hn_rmv
    by_cases h : x = s
    · rw [if_pos h]; exact h2
    · rw [if_neg h]
      exact ⟨fun t ht => h1 t ((hn_rmv_mem (hn_srt_nd h2)).mp ht).1, hn_rmv_srt h2⟩
theorem hn_rmv_len {s : Nat} : ∀ {l : List Nat}, s ∈ l → (hn_rmv s l).length + 1 = l.length
  | x :: l, hs => by
    unfold hn_rmv
    by_cases h : x = s
    · rw [if_pos h]; rfl
    · rw [if_neg h]
      rcases List.mem_cons.mp hs with e | hs
      · exact absurd e.symm h
      · simp [hn_rmv_len hs]
theorem hn_ch_rmv {ln : Nat → Int32} {nm : Nat → Nat} {K s : Nat} (hK : nm s = K) : ∀ {l : List Nat} {p : Nat}, hn_ch ln p l → hn_srt nm l → p ∉ l → s ∈ l →
    ln (hn_pl nm K p l) = nI s ∧ hn_ch (upd ln (hn_pl nm K p l) (ln s)) p (hn_rmv s l)
  | x :: l, p, ⟨h1, h2, h3⟩, ⟨s1, s2⟩, hp, hs => by
    have hpx : p ≠ x := fun e => hp (by rw [e]; exact List.mem_cons_self)
    have hpl : p ∉ l := fun e => hp (List.mem_cons_of_mem _ e)
    have hxl : x ∉ l := fun h => absurd (s1 x h) (Nat.lt_irrefl _)
    unfold hn_pl hn_rmv
    by_cases h : x = s
    · rw [if_neg (show ¬ nm x < K by rw [h, hK]; exact Nat.lt_irrefl _), if_pos h]
      refine ⟨by rw [h1, h], ?_⟩
      subst h
      cases l with
      | nil => show upd ln p (ln x) p = -1; rw [pk_us]; exact h3
      | cons y l =>
        obtain ⟨g1, g2, g3⟩ := h3
        refine ⟨by rw [pk_us]; exact g1, g2, hn_ch_keep g3 ?_ (fun t ht => ?_)⟩
        · exact pk_un (fun e => hpl (by rw [← e]; exact List.mem_cons_self))
        · exact pk_un (fun e => hpl (by rw [← e]; exact List.mem_cons_of_mem _ ht))
    · have hs' : s ∈ l := by
        rcases List.mem_cons.mp hs with e | hs
        · exact absurd e.symm h
        · exact hs
      have hlt : nm x < K := by have := s1 s hs'; omega
      rw [if_pos hlt, if_neg h]
      obtain ⟨g1, g2⟩ := hn_ch_rmv hK h3 s2 hxl hs'
      refine ⟨g1, ?_, h2, g2⟩
      have hq : p ≠ hn_pl nm K x l := by
        rcases hn_pl_mem nm K l x with e | e
        · rw [e]; exact hpx
        · intro z; exact hpl (by rw [z]; exact e)
      rw [pk_un hq]; exact h1
end
end
section
/-! words without a sign, and the number that five of them are: pure -/
section
def hn_u (x : Int32) : Nat := x.toUInt32.toNat
theorem hn_u_lt (x : Int32) : hn_u x < 4294967296 := x.toUInt32.toNat_lt
theorem hn_u_bv (x : Int32) : x.toBitVec.toNat = hn_u x := rfl
theorem hn_u_inj {x y : Int32} (h : hn_u x = hn_u y) : x = y := Int32.toBitVec_inj.mp (BitVec.eq_of_toNat_eq h)
theorem hn_nat_xor {a : Nat} (h : a < 4294967296) : a ^^^ 2 ^ 31 = (a + 2147483648) % 4294967296 := by
  have h1 : (a ^^^ 2 ^ 31) % 2 ^ 31 = a % 2 ^ 31 := by rw [Nat.xor_mod_two_pow, Nat.mod_self, Nat.xor_zero]
  have h2 : (a ^^^ 2 ^ 31) / 2 ^ 31 = (a / 2 ^ 31) ^^^ 1 := by rw [Nat.xor_div_two_pow, Nat.div_self (Nat.two_pow_pos 31)]
  have h3 : a / 2 ^ 31 = 0 ∨ a / 2 ^ 31 = 1 := by omega
  generalize a ^^^ 2 ^ 31 = t at h1 h2
  rcases h3 with h3 | h3
  · rw [h3] at h2
    have h2 : t / 2 ^ 31 = 1 := h2
    omega
  · rw [h3] at h2
    have h2 : t / 2 ^ 31 = 0 := h2
    omega
theorem hn_u_xor (x : Int32) : hn_u (x ^^^ (-2147483648)) = (hn_u x + 2147483648) % 4294967296 := by
  rw [← hn_nat_xor (hn_u_lt x)]
  exact UInt32.toNat_xor _ _
theorem hn_u_int (x : Int32) : x.toInt = if 2 * hn_u x < 4294967296 then (hn_u x : Int) else (hn_u x : Int) - 4294967296 := BitVec.toInt_eq_toNat_cond _
/-- compared without a sign -/
theorem hn_u_le (x y : Int32) : (x ^^^ (-2147483648)) ≤ (y ^^^ (-2147483648)) ↔ hn_u x ≤ hn_u y := by
  have hx := hn_u_lt x
  have hy := hn_u_lt y
  rw [Int32.le_iff_toInt_le, hn_u_int, hn_u_int, hn_u_xor, hn_u_xor]
  omega
theorem hn_u_ltx (x y : Int32) : (x ^^^ (-2147483648)) < (y ^^^ (-2147483648)) ↔ hn_u x < hn_u y := by
  have hx := hn_u_lt x
  have hy := hn_u_lt y
  rw [Int32.lt_iff_toInt_lt, hn_u_int, hn_u_int, hn_u_xor, hn_u_xor]
  omega
/-- the number of the five words from b on -/
def hn_nm (w : Nat → Int32) (b : Nat) : Nat := (((hn_u (w b) * 4294967296 + hn_u (w (b + 1))) * 4294967296 + hn_u (w (b + 2))) * 4294967296 + hn_u (w (b + 3))) * 4294967296 + hn_u (w (b + 4))
theorem hn_nm_eq {w v : Nat → Int32} {b c : Nat} (h : hn_nm w b = hn_nm v c) : ∀ i, i < 5 → w (b + i) = v (c + i) := by
  have a0 := hn_u_lt (w b); have a1 := hn_u_lt (w (b + 1)); have a2 := hn_u_lt (w (b + 2)); have a3 := hn_u_lt (w (b + 3)); have a4 := hn_u_lt (w (b + 4))
  have c0 := hn_u_lt (v c); have c1 := hn_u_lt (v (c + 1)); have c2 := hn_u_lt (v (c + 2)); have c3 := hn_u_lt (v (c + 3)); have c4 := hn_u_lt (v (c + 4))
  unfold hn_nm at h
  intro i hi
  apply hn_u_inj
  rcases (show i = 0 ∨ i = 1 ∨ i = 2 ∨ i = 3 ∨ i = 4 by omega) with rfl | rfl | rfl | rfl | rfl
  · show hn_u (w b) = hn_u (v c); omega
  · omega
  · omega
  · omega
  · omega
theorem hn_nm_of {w v : Nat → Int32} {b c : Nat} (h : ∀ i, i < 5 → w (b + i) = v (c + i)) : hn_nm w b = hn_nm v c := by
  unfold hn_nm
  have h0 : w b = v c := h 0 (by decide)
  rw [h0, h 1 (by decide), h 2 (by decide), h 3 (by decide), h 4 (by decide)]
/-- the first word that differs decides -/
theorem hn_nm_lt {w v : Nat → Int32} {b c : Nat} {i : Nat} (hi : i < 5) (h : ∀ j, j < i → w (b + j) = v (c + j)) (hl : hn_u (w (b + i)) < hn_u (v (c + i))) : hn_nm w b < hn_nm v c := by
  have a0 := hn_u_lt (w b); have a1 := hn_u_lt (w (b + 1)); have a2 := hn_u_lt (w (b + 2)); have a3 := hn_u_lt (w (b + 3)); have a4 := hn_u_lt (w (b + 4))
  have c0 := hn_u_lt (v c); have c1 := hn_u_lt (v (c + 1)); have c2 := hn_u_lt (v (c + 2)); have c3 := hn_u_lt (v (c + 3)); have c4 := hn_u_lt (v (c + 4))
  unfold hn_nm
  rcases (show i = 0 ∨ i = 1 ∨ i = 2 ∨ i = 3 ∨ i = 4 by omega) with rfl | rfl | rfl | rfl | rfl
  · have hl : hn_u (w b) < hn_u (v c) := hl
    omega
  · have e0 : w b = v c := h 0 (by decide)
    rw [e0]; omega
  · have e0 : w b = v c := h 0 (by decide)
    have e1 := h 1 (by decide)
    rw [e0, e1]; omega
  · have e0 : w b = v c := h 0 (by decide)
    have e1 := h 1 (by decide)
    have e2 := h 2 (by decide)
    rw [e0, e1, e2]; omega
  · have e0 : w b = v c := h 0 (by decide)
    have e1 := h 1 (by decide)
    have e2 := h 2 (by decide)
    have e3 := h 3 (by decide)
    rw [e0, e1, e2, e3]; omega
/-- what compareWithKey answers -/
def hn_cmp (a k : Nat) : Int32 := if a < k then -1 else if a = k then 0 else 1
end
end
section
/-! the state of the class, and what holds of it: pure -/
section
/-- row k of the state gets other contents -/
def hn_up (σ : Nat → Nat → Int32) (k : Nat) (f : Nat → Int32) : Nat → Nat → Int32 := fun j => if j = k then f else σ j
theorem hn_up_s {σ : Nat → Nat → Int32} {k : Nat} {f : Nat → Int32} : hn_up σ k f k = f := if_pos rfl
theorem hn_up_n {σ : Nat → Nat → Int32} {k j : Nat} {f : Nat → Int32} (h : j ≠ k) : hn_up σ k f j = σ j := if_neg h
/-- the hash of the words from b on, i of them -/
def hn_h (w : Nat → Int32) (b : Nat) : Nat → Int32
  | 0 => 0
  | i + 1 => (hn_h w b i ^^^ w (b + i)) * (-1640531535)
def hn_bk (w : Nat → Int32) (b : Nat) : Nat := hn_u (hn_h w b 5) / 268435456
theorem hn_bk_lt (w : Nat → Int32) (b : Nat) : hn_bk w b < 16 := by
  have := hn_u_lt (hn_h w b 5)
  unfold hn_bk
  omega
theorem hn_h_of {w v : Nat → Int32} {b c : Nat} (h : ∀ i, i < 5 → w (b + i) = v (c + i)) : ∀ n, n ≤ 5 → hn_h w b n = hn_h v c n
  | 0, _ => rfl
  | n + 1, hn => by
    show (hn_h w b n ^^^ w (b + n)) * _ = (hn_h v c n ^^^ v (c + n)) * _
    rw [hn_h_of h n (by omega), h n (by omega)]
theorem hn_bk_of {w v : Nat → Int32} {b c : Nat} (h : ∀ i, i < 5 → w (b + i) = v (c + i)) : hn_bk w b = hn_bk v c := by
  unfold hn_bk
  rw [hn_h_of h 5 (Nat.le_refl _)]
theorem hn_bk_nm {w v : Nat → Int32} {b c : Nat} (h : hn_nm w b = hn_nm v c) : hn_bk w b = hn_bk v c := hn_bk_of (hn_nm_eq h)
/-- the number of the name in slot s -/
abbrev hn_ns (σ : Nat → Nat → Int32) (s : Nat) : Nat := hn_nm (σ 4) (5 * s)
/-- the invariant: L d: the slots of directory d in order; B j: those of bucket j -/
def hn_I (σ : Nat → Nat → Int32) (L B : Nat → List Nat) : Prop :=
  (∀ d, d < 8 → hn_ch (σ 9) (384 + d) (L d) ∧ hn_srt (hn_ns σ) (L d) ∧ (∀ s ∈ L d, 48 * d ≤ s ∧ s < 48 * d + 48) ∧ σ 7 d = nI (L d).length) ∧
  (∀ j, j < 128 → hn_ch (σ 8) (384 + j) (B j) ∧ hn_srt (hn_ns σ) (B j) ∧ ∀ s, s ∈ B j ↔ s ∈ L (j / 16) ∧ hn_bk (σ 4) (5 * s) = j % 16) ∧
  (∀ s, s < 384 → (σ 5 s = 0 ↔ s ∉ L (s / 48)))
/-- a list of different numbers below n has at most n of them -/
theorem hn_ph : ∀ (n : Nat) (l : List Nat), hn_nd l → (∀ x ∈ l, x < n) → l.length ≤ n
  | 0, [], _, _ => Nat.le_refl _
  | 0, x :: l, _, h => absurd (h x List.mem_cons_self) (Nat.not_lt_zero _)
  | n + 1, l, hd, h => by
    by_cases hm : n ∈ l
    · have h1 := hn_rmv_len hm
      have hd' : hn_nd (hn_rmv n l) := hn_rmv_nd hd
      have := hn_ph n (hn_rmv n l) hd' (fun x hx => by
        obtain ⟨h3, h4⟩ := (hn_rmv_mem hd).mp hx
        have := h x h3
        omega)
      omega
    · have := hn_ph n l hd (fun x hx => by
        have h3 := h x hx
        have h4 : x ≠ n := fun e => hm (by rw [← e]; exact hx)
        omega)
      omega
/-- .. and if it has n of them, it has all -/
theorem hn_pf : ∀ (n : Nat) (l : List Nat), hn_nd l → (∀ x ∈ l, x < n) → l.length = n → ∀ x, x < n → x ∈ l
  | 0, _, _, _, _ => fun x h => absurd h (Nat.not_lt_zero _)
  | n + 1, l, hd, h, hl => by
    by_cases hm : n ∈ l
    · have h1 := hn_rmv_len hm
      have hd' : hn_nd (hn_rmv n l) := hn_rmv_nd hd
      have ih := hn_pf n (hn_rmv n l) hd' (fun x hx => by
        obtain ⟨h3, h4⟩ := (hn_rmv_mem hd).mp hx
        have := h x h3
        omega) (by omega)
      intro x hx
      by_cases e : x = n
      · rw [e]; exact hm
      · exact ((hn_rmv_mem hd).mp (ih x (by omega))).1
    · have := hn_ph n l hd (fun x hx => by
        have h3 := h x hx
        have h4 : x ≠ n := fun e => hm (by rw [← e]; exact hx)
        omega)
      omega
end
end
section
/-! a name comes, a name goes: what holds of the state stays: pure -/
section
def hn_ul (L : Nat → List Nat) (d : Nat) (l : List Nat) : Nat → List Nat := fun j => if j = d then l else L j
theorem hn_ul_s {L : Nat → List Nat} {d : Nat} {l : List Nat} : hn_ul L d l d = l := if_pos rfl
theorem hn_ul_n {L : Nat → List Nat} {d j : Nat} {l : List Nat} (h : j ≠ d) : hn_ul L d l j = L j := if_neg h
theorem hn_srt_cg {nm nm' : Nat → Nat} : ∀ {l : List Nat}, hn_srt nm l → (∀ t ∈ l, nm' t = nm t) → hn_srt nm' l
  | [], _, _ => trivial
  | s :: l, ⟨h1, h2⟩, e => ⟨fun t ht => by rw [e s List.mem_cons_self, e t (List.mem_cons_of_mem _ ht)]; exact h1 t ht, hn_srt_cg h2 (fun t ht => e t (List.mem_cons_of_mem _ ht))⟩
theorem hn_head {L : List Nat} {d p : Nat} (h : ∀ s ∈ L, 48 * d ≤ s ∧ s < 48 * d + 48) (hd : d < 8) (hp : 384 ≤ p) : p ∉ L := fun z => by
  have := h p z
  omega
theorem hn_I.L {σ : Nat → Nat → Int32} {L B : Nat → List Nat} (h : hn_I σ L B) {d : Nat} (hd : d < 8) : ∀ s ∈ L d, s / 48 = d ∧ s < 384 := fun s hs => by
  have := (h.1 d hd).2.2.1 s hs
  omega
theorem hn_I.B {σ : Nat → Nat → Int32} {L B : Nat → List Nat} (h : hn_I σ L B) {j : Nat} (hj : j < 128) : ∀ s ∈ B j, s / 48 = j / 16 ∧ s < 384 ∧ hn_bk (σ 4) (5 * s) = j % 16 := fun s hs => by
  obtain ⟨h1, h2⟩ := ((h.2.1 j hj).2.2 s).mp hs
  have := h.L (d := j / 16) (by omega) s h1
  exact ⟨this.1, this.2, h2⟩
theorem hn_add_I {σ σ' : Nat → Nat → Int32} {L B : Nat → List Nat} {d s K j : Nat} {key : Nat → Int32} {n : Int32} (hI : hn_I σ L B) (hd : d < 8) (hs : 48 * d ≤ s ∧ s < 48 * d + 48) (hsL : s ∉ L d)
    (hK : hn_nm key 0 = K) (hno : ∀ t ∈ L d, hn_ns σ t ≠ K) (hj : j = 16 * d + hn_bk key 0) (hn : n ≠ 0)
    (h4a : ∀ i, i < 5 → σ' 4 (5 * s + i) = key i) (h4b : ∀ t, t ≠ s → ∀ i, i < 5 → σ' 4 (5 * t + i) = σ 4 (5 * t + i)) (h5 : σ' 5 = upd (σ 5) s n)
    (h7 : σ' 7 = upd (σ 7) d (nI ((L d).length + 1)))
    (h8 : σ' 8 = upd (upd (σ 8) s (σ 8 (hn_pl (hn_ns σ') K (384 + j) (B j)))) (hn_pl (hn_ns σ') K (384 + j) (B j)) (nI s))
    (h9 : σ' 9 = upd (upd (σ 9) s (σ 9 (hn_pl (hn_ns σ') K (384 + d) (L d)))) (hn_pl (hn_ns σ') K (384 + d) (L d)) (nI s)) :
    hn_I σ' (hn_ul L d (hn_ins (hn_ns σ') K s (L d))) (hn_ul B j (hn_ins (hn_ns σ') K s (B j))) := by
  have hb := hn_bk_lt key 0
  have hj8 : j < 128 := by omega
  have hjd : j / 16 = d := by omega
  have hs384 : s < 384 := by omega
  have hs48 : s / 48 = d := by omega
  have hws : ∀ i, i < 5 → σ' 4 (5 * s + i) = key (0 + i) := fun i hi => by rw [Nat.zero_add]; exact h4a i hi
  have hns : hn_ns σ' s = K := (hn_nm_of hws).trans hK
  have hbs : hn_bk (σ' 4) (5 * s) = hn_bk key 0 := hn_bk_of hws
  have hnt : ∀ t, t ≠ s → hn_ns σ' t = hn_ns σ t := fun t ht => hn_nm_of (h4b t ht)
  have hbt : ∀ t, t ≠ s → hn_bk (σ' 4) (5 * t) = hn_bk (σ 4) (5 * t) := fun t ht => hn_bk_of (h4b t ht)
  have hsL' : ∀ d', d' < 8 → s ∉ L d' := fun d' h' z => by
    have := hI.L h' s z
    have e : d' = d := by omega
    rw [e] at z
    exact hsL z
  have hsB' : ∀ j', j' < 128 → s ∉ B j' := fun j' h' z => hsL' (j' / 16) (by omega) (((hI.2.1 j' h').2.2 s).mp z).1
  have hneL : ∀ d', d' < 8 → ∀ t ∈ L d', t ≠ s := fun d' h' t ht e => hsL' d' h' (by rw [← e]; exact ht)
  have hneB : ∀ j', j' < 128 → ∀ t ∈ B j', t ≠ s := fun j' h' t ht e => hsB' j' h' (by rw [← e]; exact ht)
  have srtL : ∀ d', d' < 8 → hn_srt (hn_ns σ') (L d') := fun d' h' => hn_srt_cg (hI.1 d' h').2.1 (fun t ht => hnt t (hneL d' h' t ht))
  have srtB : ∀ j', j' < 128 → hn_srt (hn_ns σ') (B j') := fun j' h' => hn_srt_cg (hI.2.1 j' h').2.1 (fun t ht => hnt t (hneB j' h' t ht))
  have hnoL : ∀ t ∈ L d, hn_ns σ' t ≠ K := fun t ht => by rw [hnt t (hneL d hd t ht)]; exact hno t ht
  have hnoB : ∀ t ∈ B j, hn_ns σ' t ≠ K := fun t ht => hnoL t (by have := (((hI.2.1 j hj8).2.2 t).mp ht).1; rw [hjd] at this; exact this)
  have q9 := hn_pl_mem (hn_ns σ') K (L d) (384 + d)
  have q8 := hn_pl_mem (hn_ns σ') K (B j) (384 + j)
  refine ⟨fun d' h' => ?_, fun j' h' => ?_, fun t ht => ?_⟩
  · by_cases e : d' = d
    · subst e
      rw [hn_ul_s]
      refine ⟨?_, hn_ins_srt hns (srtL _ hd) hnoL, fun t ht => ?_, ?_⟩
      · rw [h9]
        exact hn_ch_ins hs384 (hI.1 _ hd).1 (hn_head (hI.1 _ hd).2.2.1 hd (by omega)) (hn_srt_nd (hI.1 _ hd).2.1) (by omega) hsL
      · rcases hn_ins_mem.mp ht with rfl | ht
        · exact hs
        · exact (hI.1 _ hd).2.2.1 t ht
      · rw [h7, pk_us, hn_ins_len]
    · rw [hn_ul_n e]
      refine ⟨?_, srtL d' h', (hI.1 d' h').2.2.1, ?_⟩
      · rw [h9]
        refine hn_ch_keep (hI.1 d' h').1 ?_ (fun t ht => ?_)
        · rw [pk_un, pk_un (by omega)]
          rcases q9 with z | z
          · rw [z]; omega
          · have := hI.L hd _ z
            omega
        · have ht' := hI.L h' t ht
          rw [pk_un, pk_un (hneL d' h' t ht)]
          rcases q9 with z | z
          · rw [z]; omega
          · have := hI.L hd _ z
            intro e2
            rw [← e2] at this
            omega
      · rw [h7, pk_un e]
        exact (hI.1 d' h').2.2.2
  · have mem : ∀ t, t ∈ hn_ul L d (hn_ins (hn_ns σ') K s (L d)) (j' / 16) ↔ (t = s ∧ j' / 16 = d) ∨ t ∈ L (j' / 16) := fun t => by
      by_cases e : j' / 16 = d
      · rw [e, hn_ul_s, hn_ins_mem]; simp
      · rw [hn_ul_n e]; simp [e]
    by_cases e : j' = j
    · subst e
      rw [hn_ul_s]
      refine ⟨?_, hn_ins_srt hns (srtB _ hj8) hnoB, fun t => ?_⟩
      · rw [h8]
        exact hn_ch_ins hs384 (hI.2.1 _ hj8).1 (fun z => by have := hI.B hj8 _ z; omega) (hn_srt_nd (hI.2.1 _ hj8).2.1) (by omega) (hsB' _ hj8)
      · rw [hn_ins_mem, mem t]
        by_cases ets : t = s
        · subst ets
          rw [hbs]
          constructor
          · intro _; exact ⟨Or.inl ⟨rfl, hjd⟩, by omega⟩
          · intro _; exact Or.inl rfl
        · rw [hbt t ets, (hI.2.1 _ hj8).2.2 t]
          constructor
          · rintro (z | ⟨z1, z2⟩)
            · exact absurd z ets
            · exact ⟨Or.inr z1, z2⟩
          · rintro ⟨z | z, z2⟩
            · exact absurd z.1 ets
            · exact Or.inr ⟨z, z2⟩
    · rw [hn_ul_n e]
      refine ⟨?_, srtB j' h', fun t => ?_⟩
      · rw [h8]
        refine hn_ch_keep (hI.2.1 j' h').1 ?_ (fun t ht => ?_)
        · rw [pk_un, pk_un (by omega)]
          rcases q8 with z | z
          · rw [z]; omega
          · have := hI.B hj8 _ z
            omega
        · have ht' := hI.B h' t ht
          rw [pk_un, pk_un (hneB j' h' t ht)]
          rcases q8 with z | z
          · rw [z]; omega
          · have := hI.B hj8 _ z
            intro e2
            rw [← e2] at this
            omega
      · rw [mem t, (hI.2.1 j' h').2.2 t]
        by_cases ets : t = s
        · subst ets
          rw [hbs]
          constructor
          · rintro ⟨z, -⟩
            exact absurd z (hsL' _ (by omega))
          · rintro ⟨z | z, z2⟩
            · exact absurd (show j' = j by omega) e
            · exact absurd z (hsL' _ (by omega))
        · rw [hbt t ets]
          constructor
          · rintro ⟨z1, z2⟩; exact ⟨Or.inr z1, z2⟩
          · rintro ⟨z | z, z2⟩
            · exact absurd z.1 ets
            · exact ⟨z, z2⟩
  · rw [h5]
    by_cases e : t = s
    · subst e
      rw [pk_us, hs48, hn_ul_s]
      constructor
      · intro z; exact absurd z hn
      · intro z; exact absurd (hn_ins_mem.mpr (Or.inl rfl)) z
    · rw [pk_un e, hI.2.2 t ht]
      by_cases e2 : t / 48 = d
      · rw [e2, hn_ul_s, hn_ins_mem]
        constructor
        · rintro z (z2 | z2)
          · exact e z2
          · exact z z2
        · intro z z2; exact z (Or.inr z2)
      · rw [hn_ul_n e2]
theorem hn_rem_I {σ σ' : Nat → Nat → Int32} {L B : Nat → List Nat} {d s K j : Nat} (hI : hn_I σ L B) (hd : d < 8) (hsL : s ∈ L d)
    (hK : hn_ns σ s = K) (hj : j = 16 * d + hn_bk (σ 4) (5 * s)) (h4 : σ' 4 = σ 4) (h5 : σ' 5 = upd (σ 5) s 0)
    (h7 : σ' 7 = upd (σ 7) d (nI ((L d).length - 1)))
    (h8 : σ' 8 = upd (σ 8) (hn_pl (hn_ns σ) K (384 + j) (B j)) (σ 8 s))
    (h9 : σ' 9 = upd (σ 9) (hn_pl (hn_ns σ) K (384 + d) (L d)) (σ 9 s)) :
    hn_I σ' (hn_ul L d (hn_rmv s (L d))) (hn_ul B j (hn_rmv s (B j))) := by
  have hb := hn_bk_lt (σ 4) (5 * s)
  have hj8 : j < 128 := by omega
  have hjd : j / 16 = d := by omega
  have hjm : hn_bk (σ 4) (5 * s) = j % 16 := by omega
  have hs0 := hI.L hd s hsL
  have hsB : s ∈ B j := ((hI.2.1 j hj8).2.2 s).mpr ⟨by rw [hjd]; exact hsL, hjm⟩
  have hns : ∀ t, hn_ns σ' t = hn_ns σ t := fun t => by show hn_nm (σ' 4) (5 * t) = _; rw [h4]
  have q9 := hn_pl_mem (hn_ns σ) K (L d) (384 + d)
  have q8 := hn_pl_mem (hn_ns σ) K (B j) (384 + j)
  have ndL := hn_srt_nd (hI.1 d hd).2.1
  have ndB := hn_srt_nd (hI.2.1 j hj8).2.1
  have cg : ∀ l, hn_srt (hn_ns σ) l → hn_srt (hn_ns σ') l := fun l h => hn_srt_cg h (fun t _ => hns t)
  refine ⟨fun d' h' => ?_, fun j' h' => ?_, fun t ht => ?_⟩
  · by_cases e : d' = d
    · subst e
      rw [hn_ul_s]
      refine ⟨?_, cg _ (hn_rmv_srt (hI.1 _ hd).2.1), fun t ht => (hI.1 _ hd).2.2.1 t ((hn_rmv_mem ndL).mp ht).1, ?_⟩
      · rw [h9]
        exact (hn_ch_rmv hK (hI.1 _ hd).1 (hI.1 _ hd).2.1 (hn_head (hI.1 _ hd).2.2.1 hd (by omega)) hsL).2
      · have := hn_rmv_len hsL
        rw [h7, pk_us, ← this, Nat.add_sub_cancel]
    · rw [hn_ul_n e]
      refine ⟨?_, cg _ (hI.1 d' h').2.1, (hI.1 d' h').2.2.1, ?_⟩
      · rw [h9]
        refine hn_ch_keep (hI.1 d' h').1 ?_ (fun t ht => ?_)
        · rw [pk_un]
          rcases q9 with z | z
          · rw [z]; omega
          · have := hI.L hd _ z
            omega
        · have ht' := hI.L h' t ht
          rw [pk_un]
          rcases q9 with z | z
          · rw [z]; omega
          · have := hI.L hd _ z
            intro e2
            rw [← e2] at this
            omega
      · rw [h7, pk_un e]
        exact (hI.1 d' h').2.2.2
  · have mem : ∀ t, t ∈ hn_ul L d (hn_rmv s (L d)) (j' / 16) ↔ t ≠ s ∧ t ∈ L (j' / 16) := fun t => by
      by_cases e : j' / 16 = d
      · rw [e, hn_ul_s, hn_rmv_mem ndL]
        exact ⟨fun h => ⟨h.2, h.1⟩, fun h => ⟨h.2, h.1⟩⟩
      · rw [hn_ul_n e]
        refine ⟨fun h => ⟨fun e2 => ?_, h⟩, fun h => h.2⟩
        have := hI.L (d := j' / 16) (by omega) t h
        rw [e2] at this
        omega
    by_cases e : j' = j
    · subst e
      rw [hn_ul_s]
      refine ⟨?_, cg _ (hn_rmv_srt (hI.2.1 _ hj8).2.1), fun t => ?_⟩
      · rw [h8]
        exact (hn_ch_rmv hK (hI.2.1 _ hj8).1 (hI.2.1 _ hj8).2.1 (fun z => by have := hI.B hj8 _ z; omega) hsB).2
      · rw [hn_rmv_mem ndB, mem t, h4, (hI.2.1 _ hj8).2.2 t]
        constructor
        · rintro ⟨⟨z1, z2⟩, z3⟩; exact ⟨⟨z3, z1⟩, z2⟩
        · rintro ⟨⟨z1, z2⟩, z3⟩; exact ⟨⟨z2, z3⟩, z1⟩
    · rw [hn_ul_n e]
      refine ⟨?_, cg _ (hI.2.1 j' h').2.1, fun t => ?_⟩
      · rw [h8]
        refine hn_ch_keep (hI.2.1 j' h').1 ?_ (fun t ht => ?_)
        · rw [pk_un]
          rcases q8 with z | z
          · rw [z]; omega
          · have := hI.B hj8 _ z
            omega
        · have ht' := hI.B h' t ht
          rw [pk_un]
          rcases q8 with z | z
          · rw [z]; omega
          · have := hI.B hj8 _ z
            intro e2
            rw [← e2] at this
            omega
      · rw [mem t, h4, (hI.2.1 j' h').2.2 t]
        constructor
        · rintro ⟨z1, z2⟩
          refine ⟨⟨fun e2 => ?_, z1⟩, z2⟩
          have := hI.L (d := j' / 16) (by omega) t z1
          rw [e2] at this z2
          omega
        · rintro ⟨⟨z1, z2⟩, z3⟩; exact ⟨z2, z3⟩
  · rw [h5]
    by_cases e : t = s
    · subst e
      rw [pk_us, hs0.1, hn_ul_s, hn_rmv_mem ndL]
      simp
    · rw [pk_un e, hI.2.2 t ht]
      by_cases e2 : t / 48 = d
      · rw [e2, hn_ul_s, hn_rmv_mem ndL]
        simp [e]
      · rw [hn_ul_n e2]
end
end
section
/-! bytes and masks: pure -/
section
theorem hn_nI_u {n : Nat} (h : n < 4294967296) : hn_u (nI n) = n := pk_tn h
theorem hn_of_u (x : Int32) : x = nI (hn_u x) := by
  apply hn_u_inj
  rw [hn_nI_u (hn_u_lt x)]
/-- the high bits alone -/
theorem hn_and_hi (a k : Nat) (h : a < 2 ^ 32) (hk : k ≤ 32) : a &&& (2 ^ 32 - 2 ^ k) = a / 2 ^ k * 2 ^ k := by
  have e : 2 ^ 32 - 2 ^ k = (2 ^ (32 - k) - 1) <<< k := by
    rw [Nat.shiftLeft_eq, Nat.sub_mul, ← Nat.pow_add, Nat.one_mul, Nat.sub_add_cancel hk]
  rw [e, ← Nat.shiftRight_eq_div_pow, ← Nat.shiftLeft_eq]
  apply Nat.eq_of_testBit_eq
  intro i
  rw [Nat.testBit_and, Nat.testBit_shiftLeft, Nat.testBit_shiftLeft, Nat.testBit_shiftRight, Nat.testBit_two_pow_sub_one]
  by_cases hi : k ≤ i
  · rw [show k + (i - k) = i by omega]
    by_cases h2 : i < 32
    · simp [hi, show i - k < 32 - k by omega]
    · rw [Nat.testBit_lt_two_pow (show a < 2 ^ i from Nat.lt_of_lt_of_le h (Nat.pow_le_pow_right (by decide) (by omega)))]
      simp
  · simp [hi]
/-- the mask of an int's first c bytes, as the class has it -/
def hn_mask (c : Int32) : Int32 := if c ≤ 0 then 0 else if 4 ≤ c then -1 else (-1) <<< ((8 * (4 - c)) &&& 31)
theorem hn_u_and (x y : Int32) : hn_u (x &&& y) = hn_u x &&& hn_u y := UInt32.toNat_and _ _
theorem hn_mask_0 {c : Int32} (h : c ≤ 0) (x : Int32) : hn_u (x &&& hn_mask c) = 0 := by
  unfold hn_mask
  rw [if_pos h, hn_u_and]
  exact Nat.and_zero _
theorem hn_mask_4 {c : Int32} (h : 4 ≤ c) (x : Int32) : hn_u (x &&& hn_mask c) = hn_u x := by
  have h0 : ¬ c ≤ 0 := fun z => absurd (Int32.le_trans h z) (by decide)
  unfold hn_mask
  rw [if_neg h0, if_pos h, hn_u_and]
  have e : hn_u (-1) = 2 ^ 32 - 2 ^ 0 := by decide +kernel
  rw [e, hn_and_hi _ 0 (hn_u_lt x) (by decide)]
  simp
theorem hn_mask_k {k : Nat} (h1 : 1 ≤ k) (h2 : k ≤ 3) (x : Int32) : hn_u (x &&& hn_mask (nI k)) = hn_u x / 2 ^ (8 * (4 - k)) * 2 ^ (8 * (4 - k)) := by
  rw [hn_u_and]
  have e : hn_u (hn_mask (nI k)) = 2 ^ 32 - 2 ^ (8 * (4 - k)) := by
    rcases (show k = 1 ∨ k = 2 ∨ k = 3 by omega) with rfl | rfl | rfl <;> decide +kernel
  rw [e]
  exact hn_and_hi _ _ (hn_u_lt x) (by omega)
/-- the words of a name of n bytes: those at hand, cut off behind byte n -/
def hn_cut (w : Nat → Int32) (n : Nat) : Nat → Int32 := fun i => w i &&& hn_mask (nI n - nI (4 * i))
theorem hn_cut_u (w : Nat → Int32) {n i : Nat} (hn : n ≤ 20) (hi : i < 5) : hn_u (hn_cut w n i) = if n ≤ 4 * i then 0 else if 4 * i + 4 ≤ n then hn_u (w i) else hn_u (w i) / 2 ^ (8 * (4 * i + 4 - n)) * 2 ^ (8 * (4 * i + 4 - n)) := by
  unfold hn_cut
  by_cases h : n ≤ 4 * i
  · rw [if_pos h]
    refine hn_mask_0 ?_ _
    rw [Int32.le_iff_toInt_le, pk_sub_toInt (by omega) (by omega)]
    show (n : Int) - (4 * i : Nat) ≤ 0
    omega
  · rw [if_neg h, pk_sub (by omega)]
    by_cases h2 : 4 * i + 4 ≤ n
    · rw [if_pos h2]
      exact hn_mask_4 (show (4 : Int32) ≤ nI (n - 4 * i) from nI_le (a := 4) (by omega) (by omega)) _
    · rw [if_neg h2, hn_mask_k (by omega) (by omega)]
      rw [show 4 - (n - 4 * i) = 4 * i + 4 - n by omega]
/-- byte i of the words -/
def hn_by (w : Nat → Int32) (i : Nat) : Nat := hn_u (w (i / 4)) / 2 ^ (24 - 8 * (i % 4)) % 256
theorem hn_by_lt (w : Nat → Int32) (i : Nat) : hn_by w i < 256 := Nat.mod_lt _ (by decide)
theorem hn_shu : ∀ k, k < 4 → (((nI (24 - 8 * k)).toUInt32 &&& Int32.toUInt32 31).toBitVec % 32).toNat = 24 - 8 * k := by decide +kernel
theorem hn_by_row (x : Int32) {k : Nat} (hk : k < 4) : (x.toUInt32 >>> ((nI (24 - 8 * k)).toUInt32 &&& Int32.toUInt32 31)).toInt32 &&& 255 = nI (hn_u x / 2 ^ (24 - 8 * k) % 256) := by
  rw [pk_and _ (m := 255) 8 (by decide +kernel), pk_ushr x _ _ (hn_shu k hk)]
  rfl
/-- the number of n bytes -/
def hn_bn (f : Nat → Nat) : Nat → Nat
  | 0 => 0
  | n + 1 => hn_bn f n * 256 + f n
theorem hn_bn_of {f g : Nat → Nat} : ∀ n, (∀ k, k < n → f k = g k) → hn_bn f n = hn_bn g n
  | 0, _ => rfl
  | n + 1, h => by
    show hn_bn f n * 256 + f n = hn_bn g n * 256 + g n
    rw [hn_bn_of n (fun k hk => h k (by omega)), h n (by omega)]
theorem hn_bn_lt0 {f g : Nat → Nat} (hf : ∀ k, f k < 256) {n : Nat} (h : hn_bn f n < hn_bn g n) : ∀ m, hn_bn f (n + m) < hn_bn g (n + m)
  | 0 => h
  | m + 1 => by
    have := hn_bn_lt0 hf h m
    have h2 := hf (n + m)
    show hn_bn f (n + m) * 256 + f (n + m) < hn_bn g (n + m) * 256 + g (n + m)
    omega
/-- the first byte that differs decides -/
theorem hn_bn_lt {f g : Nat → Nat} (hf : ∀ k, f k < 256) {k n : Nat} (hk : k < n) (h : ∀ j, j < k → f j = g j) (hl : f k < g k) : hn_bn f n < hn_bn g n := by
  have h1 : hn_bn f (k + 1) < hn_bn g (k + 1) := by
    show hn_bn f k * 256 + f k < hn_bn g k * 256 + g k
    rw [hn_bn_of k h]
    omega
  have := hn_bn_lt0 hf h1 (n - (k + 1))
  rw [show k + 1 + (n - (k + 1)) = n by omega] at this
  exact this
theorem hn_bn_4 (f : Nat → Nat) (k : Nat) : hn_bn f (k + 4) = hn_bn f k * 4294967296 + (((f k * 256 + f (k + 1)) * 256 + f (k + 2)) * 256 + f (k + 3)) := by
  show ((((hn_bn f k * 256 + f k) * 256 + f (k + 1)) * 256 + f (k + 2)) * 256 + f (k + 3)) = _
  omega
theorem hn_by_w (w : Nat → Int32) (i : Nat) : ((hn_by w (4 * i) * 256 + hn_by w (4 * i + 1)) * 256 + hn_by w (4 * i + 2)) * 256 + hn_by w (4 * i + 3) = hn_u (w i) := by
  have := hn_u_lt (w i)
  unfold hn_by
  rw [show 4 * i / 4 = i by omega, show (4 * i + 1) / 4 = i by omega, show (4 * i + 2) / 4 = i by omega, show (4 * i + 3) / 4 = i by omega,
    show 4 * i % 4 = 0 by omega, show (4 * i + 1) % 4 = 1 by omega, show (4 * i + 2) % 4 = 2 by omega, show (4 * i + 3) % 4 = 3 by omega]
  show ((hn_u (w i) / 16777216 % 256 * 256 + hn_u (w i) / 65536 % 256) * 256 + hn_u (w i) / 256 % 256) * 256 + hn_u (w i) / 1 % 256 = hn_u (w i)
  omega
/-- the number of five words is that of their twenty bytes -/
theorem hn_nm_bn (w : Nat → Int32) : hn_nm w 0 = hn_bn (hn_by w) 20 := by
  have h0 := hn_by_w w 0
  have h1 := hn_by_w w 1
  have h2 := hn_by_w w 2
  have h3 := hn_by_w w 3
  have h4 := hn_by_w w 4
  have e := hn_bn_4 (hn_by w)
  rw [show (20 : Nat) = 16 + 4 from rfl, e 16, show (16 : Nat) = 12 + 4 from rfl, e 12, show (12 : Nat) = 8 + 4 from rfl, e 8, show (8 : Nat) = 4 + 4 from rfl, e 4, show (4 : Nat) = 0 + 4 from rfl, e 0]
  unfold hn_nm
  simp only [Nat.zero_add]
  rw [← h0, ← h1, ← h2, ← h3, ← h4]
  show _ = ((((0 * 4294967296 + _) * 4294967296 + _) * 4294967296 + _) * 4294967296 + _) * 4294967296 + _
  rw [Nat.zero_mul]
  simp only [Nat.zero_add]
/-- the bytes of a cut name -/
theorem hn_cut_by (w : Nat → Int32) {n k : Nat} (hn : n ≤ 20) (hk : k < 20) : hn_by (hn_cut w n) k = if k < n then hn_by w k else 0 := by
  have hu := hn_u_lt (w (k / 4))
  unfold hn_by
  rw [hn_cut_u w hn (i := k / 4) (by omega)]
  generalize hn_u (w (k / 4)) = u at hu ⊢
  by_cases h1 : n ≤ 4 * (k / 4)
  · rw [if_pos h1, if_neg (by omega), Nat.zero_div, Nat.zero_mod]
  · rw [if_neg h1]
    by_cases h2 : 4 * (k / 4) + 4 ≤ n
    · rw [if_pos h2, if_pos (by omega)]
    · rw [if_neg h2]
      obtain ⟨c, hc⟩ : ∃ c, c = 4 * (k / 4) + 4 - n := ⟨_, rfl⟩
      obtain ⟨j, hj⟩ : ∃ j, j = k % 4 := ⟨_, rfl⟩
      have hd : k < n ↔ j + c < 4 := by omega
      rw [← hc, ← hj]
      have hc3 : c = 1 ∨ c = 2 ∨ c = 3 := by omega
      have hj3 : j = 0 ∨ j = 1 ∨ j = 2 ∨ j = 3 := by omega
      by_cases hlt : k < n
      · rw [if_pos hlt]
        have hd := hd.mp hlt
        rcases hc3 with e | e | e <;> rcases hj3 with e2 | e2 | e2 | e2 <;> rw [e, e2] at hd <;> rw [e, e2] <;> first | omega | (exfalso; revert hd; decide)
      · rw [if_neg hlt]
        have hd : ¬ j + c < 4 := fun z => hlt (hd.mpr z)
        rcases hc3 with e | e | e <;> rcases hj3 with e2 | e2 | e2 | e2 <;> rw [e, e2] at hd <;> rw [e, e2] <;> first | omega | (exfalso; revert hd; decide)
end
end
section
/-! what the readers answer: pure -/
section
def hn_isl (x : Int32) : Int32 := if x < 0 then 0 else if 384 ≤ x then 0 else 1
theorem hn_isl_m1 : hn_isl (-1) = 0 := by decide +kernel
theorem hn_isl_n {s : Nat} (h : s < 384) : hn_isl (nI s) = 1 := by
  unfold hn_isl
  rw [if_neg (nI_pos (by omega)), if_neg (show ¬ (384 : Int32) ≤ nI s from nI_ge (a := s) (b := 384) h (by decide))]
theorem hn_cmp_lt {a k : Nat} (h : a < k) : hn_cmp a k = -1 := if_pos h
theorem hn_cmp_eq {a k : Nat} (h : a = k) : hn_cmp a k = 0 := by
  unfold hn_cmp
  rw [if_neg (by omega), if_pos h]
theorem hn_cmp_gt {a k : Nat} (h : k < a) : hn_cmp a k = 1 := by
  unfold hn_cmp
  rw [if_neg (by omega), if_neg (by omega)]
theorem hn_cmp_neg {a k : Nat} : hn_cmp a k < 0 ↔ a < k := by
  rcases Nat.lt_trichotomy a k with h | h | h
  · rw [hn_cmp_lt h]; exact ⟨fun _ => h, fun _ => by decide⟩
  · rw [hn_cmp_eq h]; exact ⟨fun z => absurd z (by decide), fun z => by omega⟩
  · rw [hn_cmp_gt h]; exact ⟨fun z => absurd z (by decide), fun z => by omega⟩
theorem hn_cmp_zero {a k : Nat} : hn_cmp a k = 0 ↔ a = k := by
  rcases Nat.lt_trichotomy a k with h | h | h
  · rw [hn_cmp_lt h]; exact ⟨fun z => absurd z (by decide), fun z => by omega⟩
  · rw [hn_cmp_eq h]; exact ⟨fun _ => h, fun _ => rfl⟩
  · rw [hn_cmp_gt h]; exact ⟨fun z => absurd z (by decide), fun z => by omega⟩
theorem hn_z {v : Nat → Int32} {w : Nat → Int32} {b i : Nat} (h : ∀ j, j < i → w (b + j) = v j) : ∀ j, j < i → w (b + j) = v (0 + j) := fun j hj => by rw [Nat.zero_add]; exact h j hj
theorem hn_cw0 {w v : Nat → Int32} {b : Nat} (h : ∀ j, j < 5 → w (b + j) = v j) : hn_cmp (hn_nm w b) (hn_nm v 0) = 0 := hn_cmp_eq (hn_nm_of (hn_z h))
theorem hn_cw1 {w v : Nat → Int32} {b i : Nat} (hi : i < 5) (h : ∀ j, j < i → w (b + j) = v j) (c : ¬ (v i ^^^ (-2147483648)) ≤ (w (b + i) ^^^ (-2147483648))) : hn_cmp (hn_nm w b) (hn_nm v 0) = -1 := by
  rw [hn_u_le] at c
  exact hn_cmp_lt (hn_nm_lt hi (hn_z h) (by rw [Nat.zero_add]; omega))
theorem hn_cw2 {w v : Nat → Int32} {b i : Nat} (hi : i < 5) (h : ∀ j, j < i → w (b + j) = v j) (ne : ¬ w (b + i) = v i) (c : (v i ^^^ (-2147483648)) ≤ (w (b + i) ^^^ (-2147483648))) : hn_cmp (hn_nm w b) (hn_nm v 0) = 1 := by
  rw [hn_u_le] at c
  have hne : hn_u (w (b + i)) ≠ hn_u (v i) := fun z => ne (hn_u_inj z)
  exact hn_cmp_gt (hn_nm_lt hi (fun j hj => (hn_z h j hj).symm) (by rw [Nat.zero_add]; omega))
theorem hn_ush28 (x : Int32) : (x.toUInt32 >>> ((28 : Int32).toUInt32 &&& Int32.toUInt32 31)).toInt32 = nI (hn_u x / 268435456) := by
  apply hn_u_inj
  have := hn_u_lt x
  rw [hn_nI_u (by omega)]
  exact pk_ushr x 28 28 (by decide +kernel)
/-- what slotOfKey answers of a bucket's slots -/
def hn_find (nm : Nat → Nat) (K : Nat) (l : List Nat) : Int32 := match hn_fst nm K l with
  | none => -1
  | some s => if nm s = K then nI s else -1
theorem hn_find_in {nm : Nat → Nat} {K s : Nat} {l : List Nat} (h : hn_srt nm l) (hs : s ∈ l) (hK : nm s = K) : hn_find nm K l = nI s := by
  unfold hn_find
  rw [hn_fst_srt h hs hK]
  exact if_pos hK
theorem hn_find_no {nm : Nat → Nat} {K : Nat} {l : List Nat} (h : ∀ s ∈ l, nm s ≠ K) : hn_find nm K l = -1 := by
  unfold hn_find
  cases hf : hn_fst nm K l with
  | none => rfl
  | some s => exact if_neg (h s (hn_fst_mem hf))
/-- what freeSlot answers: the first free one of k from s on -/
def hn_fr (f : Nat → Int32) : Nat → Nat → Int32
  | _, 0 => -1
  | s, k + 1 => if f s = 0 then nI s else hn_fr f (s + 1) k
theorem hn_fr_no {f : Nat → Int32} : ∀ (k s : Nat), (∀ t, s ≤ t → t < s + k → f t ≠ 0) → hn_fr f s k = -1
  | 0, _, _ => rfl
  | k + 1, s, h => by
    unfold hn_fr
    rw [if_neg (h s (Nat.le_refl _) (by omega))]
    exact hn_fr_no k (s + 1) (fun t h1 h2 => h t (by omega) (by omega))
theorem hn_fr_yes {f : Nat → Int32} : ∀ (k s : Nat), (∃ t, s ≤ t ∧ t < s + k ∧ f t = 0) → ∃ t, s ≤ t ∧ t < s + k ∧ f t = 0 ∧ hn_fr f s k = nI t
  | 0, s, ⟨t, h1, h2, _⟩ => absurd h2 (by omega)
  | k + 1, s, ⟨t, h1, h2, h3⟩ => by
    unfold hn_fr
    by_cases h : f s = 0
    · exact ⟨s, Nat.le_refl _, by omega, h, if_pos h⟩
    · have hne : t ≠ s := fun e => h (by rw [← e]; exact h3)
      obtain ⟨u, g1, g2, g3, g4⟩ := hn_fr_yes k (s + 1) ⟨t, by omega, by omega, h3⟩
      exact ⟨u, by omega, by omega, g3, by rw [if_neg h]; exact g4⟩
/-- the k-th of a chain -/
theorem hn_ch_hd {ln : Nat → Int32} : ∀ {l : List Nat} {p : Nat}, hn_ch ln p l → 0 < l.length → ln p = nI (l.getD 0 0)
  | [], _, _, h => absurd h (Nat.lt_irrefl 0)
  | s :: l, _, ⟨h1, _, _⟩, _ => h1
theorem hn_ch_nx {ln : Nat → Int32} : ∀ {l : List Nat} {p : Nat}, hn_ch ln p l → ∀ i, i + 1 < l.length → ln (l.getD i 0) = nI (l.getD (i + 1) 0)
  | [], _, _, i, h => absurd h (Nat.not_lt_zero _)
  | s :: l, _, ⟨_, _, h3⟩, 0, h => hn_ch_hd h3 (by have : 0 + 1 < l.length + 1 := h; omega)
  | s :: l, _, ⟨_, _, h3⟩, i + 1, h => hn_ch_nx h3 i (by have : i + 1 + 1 < l.length + 1 := h; omega)
theorem hn_ch_gl {ln : Nat → Int32} : ∀ {l : List Nat} {p : Nat}, hn_ch ln p l → ∀ i, i < l.length → l.getD i 0 < 384
  | [], _, _, i, h => absurd h (Nat.not_lt_zero _)
  | s :: l, _, ⟨_, h2, h3⟩, 0, _ => h2
  | s :: l, _, ⟨_, h2, h3⟩, i + 1, h => hn_ch_gl h3 i (by have : i + 1 < l.length + 1 := h; omega)
/-- the slot of the k-th name -/
def hn_nth (l : List Nat) (k : Nat) : Int32 := if l.length ≤ k then -1 else nI (l.getD k 0)
end
end
section
/-! the worlds; what a reader asks -/
section
def hn_ty (cI cL : ClassId) : List (ClassId × FieldType) := [(cI, .int), (cL, .long)]
/-- an object of the class at ad 0, its rows at ad 1 .. ad 9 -/
abbrev hn_wX (ad : Nat → Nat) (cI : ClassId) (σ : Nat → Nat → Int32) : va_W :=
  [(ad 0, .inr (0, [.ref (ad 1), .ref (ad 2), .ref (ad 3), .int (σ 0 0), .ref (ad 4), .ref (ad 5), .ref (ad 6), .ref (ad 7), .ref (ad 8), .ref (ad 9)])),
   (ad 1, .inl (cI, 5, .inl (σ 1))), (ad 2, .inl (cI, 5, .inl (σ 2))), (ad 3, .inl (cI, 5, .inl (σ 3))), (ad 4, .inl (cI, 1920, .inl (σ 4))), (ad 5, .inl (cI, 384, .inl (σ 5))),
   (ad 6, .inl (cI, 384, .inl (σ 6))), (ad 7, .inl (cI, 8, .inl (σ 7))), (ad 8, .inl (cI, 512, .inl (σ 8))), (ad 9, .inl (cI, 392, .inl (σ 9)))]
/-- what a reader of a world asks -/
def hn_PR (D : va_G) (cl : List vw_C) (tys : List (ClassId × FieldType)) (w : va_W) (As : List Value) : Array Value → State → Prop := va_Pc As (fun U => va_P D cl w U.heap ∧ va_K D cl tys U)
theorem hn_PR_blind {D : va_G} {cl : List vw_C} {tys : List (ClassId × FieldType)} {w : va_W} {As : List Value} : FrameBlind (hn_PR D cl tys w As) := fun a U g mk q => ⟨q.1, q.2.1, va_K.moved (u := U) (U := U.calling g mk a) (Vm.Alike.refl U.vm) q.2.2⟩
theorem hn_preS {D : va_G} {cl : List vw_C} {tys : List (ClassId × FieldType)} {w : va_W} {As : List Value} {s : State} {H : Heap} (hP : va_P D cl w H) (hK : va_K D cl tys s) : PreS s H (hn_PR D cl tys w As) As :=
  ⟨hn_PR_blind, fun U hU hW => ⟨rfl, by rw [hU]; exact hP, va_K.moved hW.alike hK⟩⟩
theorem hn_preV {D : va_G} {cl : List vw_C} {tys : List (ClassId × FieldType)} {w : va_W} {As : List Value} {s : State} {H : Heap} {b ci q0 : Nat} {q : vw_C} {fs : List Value} (hP : va_P D cl w H) (hK : va_K D cl tys s) (hc : cl[ci]? = some q) (he : w[q0]? = some (b, .inr (ci, fs))) : PreV s H q.1 b (hn_PR D cl tys w (.ref b :: As)) As :=
  ⟨hn_PR_blind, va_recv hK hP hc he, fun U hU hW => ⟨rfl, by rw [hU]; exact hP, va_K.moved hW.alike hK⟩⟩
theorem hn_pre0 {As : List Value} {s : State} {H : Heap} : PreS s H (va_Pc As (fun _ => True)) As := ⟨fun _ _ _ _ q => q, fun _ _ _ => ⟨rfl, trivial⟩⟩
end
end
section
/-! names as numbers, the entries of a directory, the reference's state: pure -/
section
/-- a name: its number, its length, its id -/
abbrev hn_E : Type := Nat × Nat × Int32
def hn_e0 : hn_E := (0, 0, 0)
def hn_kb (K k : Nat) : Nat := K / 256 ^ (19 - k) % 256
theorem hn_kb_lt (K k : Nat) : hn_kb K k < 256 := Nat.mod_lt _ (by decide)
def hn_wf (e : hn_E) : Prop := 1 ≤ e.2.1 ∧ e.2.1 ≤ 20 ∧ e.1 < 256 ^ 20 ∧ (∀ k, k < e.2.1 → hn_kb e.1 k ≠ 0) ∧ (∀ k, e.2.1 ≤ k → k < 20 → hn_kb e.1 k = 0)
/-- the first n bytes, zeros behind -/
def hn_hc (h : Nat → Nat) (n : Nat) : Nat → Nat := fun k => if k < n then h k else 0
theorem hn_hc_lt {h : Nat → Nat} (hh : ∀ k, h k < 256) (n k : Nat) : hn_hc h n k < 256 := by
  unfold hn_hc
  by_cases hk : k < n
  · rw [if_pos hk]; exact hh k
  · rw [if_neg hk]; decide
def hn_num (h : Nat → Nat) (n : Nat) : Nat := hn_bn (hn_hc h n) 20
def hn_name (h : Nat → Nat) (n : Int32) : Prop := ∃ j, n = nI j ∧ 1 ≤ j ∧ j ≤ 20 ∧ ∀ k, k < j → h k ≠ 0 ∧ h k ≠ 47
theorem hn_bn_b {f : Nat → Nat} (hf : ∀ k, f k < 256) : ∀ n, hn_bn f n < 256 ^ n
  | 0 => by show 0 < 1; decide
  | n + 1 => by
    have := hn_bn_b hf n
    have h2 := hf n
    show hn_bn f n * 256 + f n < 256 ^ n * 256
    omega
theorem hn_bn_d {f : Nat → Nat} (hf : ∀ k, f k < 256) : ∀ (n k : Nat), k < n → hn_bn f n / 256 ^ (n - 1 - k) % 256 = f k
  | 0, k, h => absurd h (Nat.not_lt_zero _)
  | n + 1, k, h => by
    have h2 := hf n
    show (hn_bn f n * 256 + f n) / 256 ^ (n + 1 - 1 - k) % 256 = f k
    by_cases e : k = n
    · subst e
      rw [show k + 1 - 1 - k = 0 by omega, Nat.pow_zero, Nat.div_one]
      omega
    · have ih := hn_bn_d hf n k (by omega)
      rw [show n + 1 - 1 - k = (n - 1 - k) + 1 by omega, Nat.pow_succ, Nat.mul_comm (256 ^ (n - 1 - k)) 256, ← Nat.div_div_eq_div_mul]
      rw [show (hn_bn f n * 256 + f n) / 256 = hn_bn f n by omega]
      exact ih
theorem hn_kb_bn {f : Nat → Nat} (hf : ∀ k, f k < 256) {k : Nat} (hk : k < 20) : hn_kb (hn_bn f 20) k = f k := hn_bn_d hf 20 k hk
theorem hn_bn_kb0 (K : Nat) : ∀ n, n ≤ 20 → hn_bn (hn_kb K) n = K / 256 ^ (20 - n) % 256 ^ n
  | 0, _ => by rw [Nat.pow_zero, Nat.mod_one]; rfl
  | n + 1, h => by
    have ih := hn_bn_kb0 K n (by omega)
    show hn_bn (hn_kb K) n * 256 + K / 256 ^ (19 - n) % 256 = _
    rw [ih, show 20 - (n + 1) = 19 - n by omega, show 20 - n = (19 - n) + 1 by omega, Nat.pow_succ, ← Nat.div_div_eq_div_mul, Nat.pow_succ, Nat.mul_comm (256 ^ n) 256, Nat.mod_mul, Nat.mul_comm]
    omega
theorem hn_bn_kb {K : Nat} (h : K < 256 ^ 20) : hn_bn (hn_kb K) 20 = K := by
  rw [hn_bn_kb0 K 20 (by decide), show 20 - 20 = 0 from rfl, Nat.pow_zero, Nat.div_one, Nat.mod_eq_of_lt h]
theorem hn_num_lt {h : Nat → Nat} (hh : ∀ k, h k < 256) (n : Nat) : hn_num h n < 256 ^ 20 := hn_bn_b (hn_hc_lt hh n) 20
theorem hn_num_wf {h : Nat → Nat} (hh : ∀ k, h k < 256) {n : Nat} (h1 : 1 ≤ n) (h2 : n ≤ 20) (hz : ∀ k, k < n → h k ≠ 0) (x : Int32) : hn_wf (hn_num h n, n, x) := by
  refine ⟨h1, h2, hn_num_lt hh n, fun k hk => ?_, fun k h3 h4 => ?_⟩
  · show hn_kb (hn_num h n) k ≠ 0
    have hk : k < n := hk
    rw [show hn_kb (hn_num h n) k = hn_hc h n k from hn_kb_bn (hn_hc_lt hh n) (by omega)]
    unfold hn_hc
    rw [if_pos hk]
    exact hz k hk
  · show hn_kb (hn_num h n) k = 0
    have h3 : n ≤ k := h3
    rw [show hn_kb (hn_num h n) k = hn_hc h n k from hn_kb_bn (hn_hc_lt hh n) h4]
    exact if_neg (by omega)
/-- how the reference's comparison tells two names' numbers apart -/
theorem hn_ce_lt {h : Nat → Nat} {n k : Nat} {e : hn_E} (hh : ∀ k, h k < 256) (hw : hn_wf e) (hn : n ≤ 20) (hk : k < n) (hj : ∀ j, j < k → h j = hn_kb e.1 j) (hl : h k < hn_kb e.1 k) : hn_num h n < e.1 := by
  have := hn_bn_lt (f := hn_hc h n) (g := hn_kb e.1) (hn_hc_lt hh n) (k := k) (n := 20) (by omega) (fun j hj2 => by rw [← hj j hj2]; exact if_pos (by omega)) (by rw [show hn_hc h n k = h k from if_pos hk]; exact hl)
  rw [hn_bn_kb hw.2.2.1] at this
  exact this
theorem hn_ce_gt {h : Nat → Nat} {n k : Nat} {e : hn_E} (hw : hn_wf e) (hn : n ≤ 20) (hk : k < n) (hj : ∀ j, j < k → h j = hn_kb e.1 j) (hl : hn_kb e.1 k < h k) : e.1 < hn_num h n := by
  have := hn_bn_lt (f := hn_kb e.1) (g := hn_hc h n) (hn_kb_lt e.1) (k := k) (n := 20) (by omega) (fun j hj2 => by rw [← hj j hj2]; exact (if_pos (by omega)).symm) (by rw [show hn_hc h n k = h k from if_pos hk]; exact hl)
  rw [hn_bn_kb hw.2.2.1] at this
  exact this
theorem hn_ce_end {h : Nat → Nat} {n : Nat} {e : hn_E} (hh : ∀ k, h k < 256) (hw : hn_wf e) (h1 : 1 ≤ n) (hn : n ≤ 20) (hz : ∀ k, k < n → h k ≠ 0) (hj : ∀ j, j < n → j < e.2.1 → h j = hn_kb e.1 j) :
    (n < e.2.1 → hn_num h n < e.1) ∧ (n = e.2.1 → hn_num h n = e.1) ∧ (e.2.1 < n → e.1 < hn_num h n) := by
  refine ⟨fun hl => ?_, fun he => ?_, fun hl => ?_⟩
  · have := hn_bn_lt (f := hn_hc h n) (g := hn_kb e.1) (hn_hc_lt hh n) (k := n) (n := 20) (by have := hw.2.1; omega) (fun j hj2 => by rw [← hj j hj2 (by omega)]; exact if_pos (by omega)) (by
      rw [show hn_hc h n n = 0 from if_neg (Nat.lt_irrefl _)]
      have := hw.2.2.2.1 n hl
      omega)
    rw [hn_bn_kb hw.2.2.1] at this
    exact this
  · have := hn_bn_of (f := hn_hc h n) (g := hn_kb e.1) 20 (fun j hj2 => by
      by_cases hjn : j < n
      · rw [← hj j hjn (by omega)]; exact if_pos hjn
      · rw [hw.2.2.2.2 j (by omega) hj2]; exact if_neg hjn)
    rw [hn_bn_kb hw.2.2.1] at this
    exact this
  · have := hn_bn_lt (f := hn_kb e.1) (g := hn_hc h n) (hn_kb_lt e.1) (k := e.2.1) (n := 20) (by omega) (fun j hj2 => by rw [← hj j (by omega) hj2]; exact (if_pos (by omega)).symm) (by
      rw [show hn_hc h n e.2.1 = h e.2.1 from if_pos hl, hw.2.2.2.2 e.2.1 (Nat.le_refl _) (by omega)]
      have := hz e.2.1 hl
      omega)
    rw [hn_bn_kb hw.2.2.1] at this
    exact this
/-- names in order -/
def hn_es : List hn_E → Prop
  | [] => True
  | e :: l => (∀ x ∈ l, e.1 < x.1) ∧ hn_es l
def hn_DO (D : Nat → List hn_E) : Prop := ∀ d, d < 8 → hn_es (D d) ∧ (D d).length ≤ 48 ∧ ∀ e ∈ D d, hn_wf e
/-- how many stand ahead of K -/
def hn_pc (K : Nat) : List hn_E → Nat
  | [] => 0
  | e :: l => if e.1 < K then hn_pc K l + 1 else 0
theorem hn_pc_le (K : Nat) : ∀ l : List hn_E, hn_pc K l ≤ l.length
  | [] => Nat.le_refl _
  | e :: l => by
    unfold hn_pc
    by_cases h : e.1 < K
    · rw [if_pos h]; exact Nat.succ_le_succ (hn_pc_le K l)
    · rw [if_neg h]; exact Nat.zero_le _
theorem hn_pc_below {K : Nat} : ∀ {l : List hn_E} {j : Nat}, j < hn_pc K l → (l.getD j hn_e0).1 < K
  | [], j, h => absurd h (Nat.not_lt_zero _)
  | e :: l, j, h => by
    unfold hn_pc at h
    by_cases h1 : e.1 < K
    · rw [if_pos h1] at h
      cases j with
      | zero => exact h1
      | succ j => exact hn_pc_below (l := l) (j := j) (by omega)
    · rw [if_neg h1] at h; exact absurd h (Nat.not_lt_zero _)
theorem hn_pc_at {K : Nat} : ∀ {l : List hn_E}, hn_pc K l < l.length → ¬ (l.getD (hn_pc K l) hn_e0).1 < K
  | [], h => absurd h (Nat.not_lt_zero _)
  | e :: l, h => by
    unfold hn_pc at h ⊢
    by_cases h1 : e.1 < K
    · rw [if_pos h1] at h ⊢
      exact hn_pc_at (l := l) (by have : hn_pc K l + 1 < l.length + 1 := h; omega)
    · rw [if_neg h1]; exact h1
/-- the reference's state: h the bytes at hand, D the directories, told: tn bytes tb -/
def hn_MR (τ : Nat → Nat → Int32) (h : Nat → Nat) (D : Nat → List hn_E) (tn : Nat) (tb : Nat → Nat) : Prop :=
  (∀ k, k < 20 → τ 1 k = nI (h k)) ∧ (∀ k, h k < 256) ∧
  (∀ d, d < 8 → τ 2 d = nI (D d).length ∧ ∀ j, j < (D d).length → τ 3 (48 * d + j) = ((D d).getD j hn_e0).2.2 ∧ τ 4 (48 * d + j) = nI ((D d).getD j hn_e0).2.1 ∧
    ∀ k, k < ((D d).getD j hn_e0).2.1 → τ 5 (20 * (48 * d + j) + k) = nI (hn_kb ((D d).getD j hn_e0).1 k)) ∧
  τ 0 1 = nI tn ∧ tn ≤ 20 ∧ (∀ k, k < tn → τ 6 k = nI (tb k))
abbrev hn_wM (am : Nat → Nat) (cI : ClassId) (τ : Nat → Nat → Int32) : va_W :=
  [(am 0, .inr (1, [.int (τ 0 0), .ref (am 1), .ref (am 2), .ref (am 3), .ref (am 4), .ref (am 5), .ref (am 6), .int (τ 0 1)])),
   (am 1, .inl (cI, 20, .inl (τ 1))), (am 2, .inl (cI, 8, .inl (τ 2))), (am 3, .inl (cI, 384, .inl (τ 3))), (am 4, .inl (cI, 384, .inl (τ 4))), (am 5, .inl (cI, 7680, .inl (τ 5))), (am 6, .inl (cI, 20, .inl (τ 6)))]
theorem hn_getD_mem {l : List hn_E} {j : Nat} (h : j < l.length) : l.getD j hn_e0 ∈ l := by
  rw [List.getD_eq_getElem?_getD, List.getElem?_eq_getElem h]
  exact List.getElem_mem h
theorem hn_eq {i j : Nat} (h1 : i < 2147483648) (h2 : j < 2147483648) : nI i - nI j = 0 ↔ i = j := by
  constructor
  · intro z
    have z2 : nI i = nI j := by
      have := congrArg (· + nI j) z
      simpa using this
    exact (nI_eq h1 h2).mp z2
  · intro z
    rw [z]
    simp
/-- a reader whose answer is one of some -/
def hn_QE (P : Int32 → Prop) : Array Value → State → Outcome → State → Prop := fun _ st o t => ∃ r : Int32, P r ∧ o = .returned (some (.int r)) ∧ t.heap = st.heap
theorem hn_callE {p : Program} {l : Launch} {e : Env} {R : Room} {s : State} {m : MethodId} {args : Array Value} {below : List Frame} {meth : Method} {c : Code} {H : Heap} {locs : List Loc} {cells slots : Nat} {Q : State → Prop} {g : JFrame} {rest : List Value} {a : Array Value} {P : Int32 → Prop}
    (hr : CallRun p l e R s m args below meth c H locs cells slots 0 0 g rest (hn_QE P a) (fun _ => False)) (kk : ∀ z : Int32, P z → W p l e R s m args below meth c H locs cells slots Q { g with pc := g.pc + 3, stack := .int z :: rest }) : W p l e R s m args below meth c H locs cells slots Q g := by
  intro T hT X
  obtain ⟨v, st₀, t, T', L, h0, X', hL, e1, ⟨z, hz, hv, hh⟩, st⟩ := hr T hT X
  cases hv
  obtain ⟨t2, a1, b1⟩ := kk z hz T' (by rw [e1, hh, h0]) (Stand.forget X' (fun q h => (hL q h).elim))
  exact ⟨t2, st t2 a1, b1⟩
end
end
section
/-! what the reference's readers answer: pure -/
section
def hn_dir (x : Int32) : Prop := ∃ j, j < 8 ∧ x = nI j
def hn_isid (x : Int32) : Prop := 0 < x ∧ x < 65536
def hn_tf (P : Prop) (r : Int32) : Prop := (r = 1 ∧ P) ∨ (r = 0 ∧ ¬ P)
theorem hn_dir_no1 {x : Int32} (h : x < 0) : ¬ hn_dir x := fun ⟨j, hj, e⟩ => by
  rw [e] at h
  exact absurd h (nI_pos (by omega))
theorem hn_dir_no2 {x : Int32} (h : 8 ≤ x) : ¬ hn_dir x := fun ⟨j, hj, e⟩ => by
  rw [e] at h
  exact absurd h (nI_ge (a := j) (b := 8) hj (by decide))
theorem hn_dir_yes {x : Int32} (h1 : ¬ x < 0) (h2 : ¬ 8 ≤ x) : hn_dir x := by
  rcases pk_ix x (n := 8) (by decide) with h | h | ⟨j, h3, h4⟩
  · exact absurd h h1
  · exact absurd h h2
  · exact ⟨j, h3, h4⟩
theorem hn_name_no1 {h : Nat → Nat} {x : Int32} (h9 : x ≤ 0) : ¬ hn_name h x := fun ⟨j, e, h1, h2, _⟩ => by
  rw [e] at h9
  exact absurd h9 (nI_nle (by omega) (by omega))
theorem hn_name_no2 {h : Nat → Nat} {x : Int32} (h9 : 21 ≤ x) : ¬ hn_name h x := fun ⟨j, e, h1, h2, _⟩ => by
  rw [e] at h9
  exact absurd h9 (nI_ge (a := j) (b := 21) (by omega) (by decide))
theorem hn_name_r {x : Int32} (h1 : ¬ x ≤ 0) (h2 : ¬ 21 ≤ x) : ∃ j, x = nI j ∧ 1 ≤ j ∧ j ≤ 20 := by
  rcases pk_ix x (n := 21) (by decide) with h | h | ⟨j, h3, h4⟩
  · exact absurd (Int32.le_of_lt h) h1
  · exact absurd h h2
  · refine ⟨j, h4, ?_, by omega⟩
    rcases Nat.eq_zero_or_pos j with z | z
    · rw [h4, z] at h1; exact absurd (show nI 0 ≤ 0 by decide) h1
    · exact z
theorem hn_name_no3 {h : Nat → Nat} {j k : Nat} (hj : j ≤ 20) (hk : k < j) (hb : h k = 0 ∨ h k = 47) : ¬ hn_name h (nI j) := fun ⟨i, e, _, h2, h3⟩ => by
  have e : j = i := (nI_eq (by omega) (by omega)).mp e
  subst e
  rcases hb with z | z
  · exact (h3 k hk).1 z
  · exact (h3 k hk).2 z
theorem hn_b0 {b : Nat} (h : b < 256) : nI b = 0 ↔ b = 0 := nI_eq (a := b) (b := 0) (by omega) (by decide)
theorem hn_b47 {b : Nat} (h : b < 256) : nI b = 47 ↔ b = 47 := nI_eq (a := b) (b := 47) (by omega) (by decide)
/-- what compare answers -/
def hn_cmpP (K Kh : Nat) (r : Int32) : Prop := (0 < r ↔ K < Kh) ∧ (r = 0 ↔ K = Kh)
theorem hn_cp {a b K Kh : Nat} (ha : a < 256) (hb : b < 256) (h1 : a < b → Kh < K) (h2 : a = b → Kh = K) (h3 : b < a → K < Kh) : hn_cmpP K Kh (nI a - nI b) := by
  have e : (nI a - nI b).toInt = (a : Int) - b := pk_sub_toInt (by omega) (by omega)
  have p1 : 0 < nI a - nI b ↔ b < a := by
    rw [Int32.lt_iff_toInt_lt, e]
    show (0 : Int) < (a : Int) - b ↔ b < a
    omega
  refine ⟨p1.trans ?_, (hn_eq (by omega) (by omega)).trans ?_⟩
  · rcases Nat.lt_trichotomy a b with h | h | h
    · have := h1 h; omega
    · have := h2 h; omega
    · have := h3 h; omega
  · rcases Nat.lt_trichotomy a b with h | h | h
    · have := h1 h; omega
    · have := h2 h; omega
    · have := h3 h; omega
theorem hn_pc_step {K : Nat} : ∀ {l : List hn_E} {j : Nat}, (∀ i, i < j → (l.getD i hn_e0).1 < K) → j ≤ l.length → (j = l.length ∨ ¬ (l.getD j hn_e0).1 < K) → hn_pc K l = j
  | [], j, _, h2, _ => by
    have h2 : j ≤ 0 := h2
    have : j = 0 := by omega
    rw [this]; rfl
  | e :: l, 0, _, _, h3 => by
    unfold hn_pc
    rcases h3 with h3 | h3
    · exact absurd h3 (by show 0 ≠ l.length + 1; omega)
    · exact if_neg h3
  | e :: l, j + 1, h1, h2, h3 => by
    unfold hn_pc
    rw [if_pos (show e.1 < K from h1 0 (by omega))]
    have h2 : j + 1 ≤ l.length + 1 := h2
    have := hn_pc_step (K := K) (l := l) (j := j) (fun i hi => h1 (i + 1) (by omega)) (by omega) (by
      rcases h3 with h3 | h3
      · have h3 : j + 1 = l.length + 1 := h3
        exact Or.inl (by omega)
      · exact Or.inr h3)
    omega
end
end
section
set_option maxHeartbeats 4000000 in
set_option maxRecDepth 100000 in
theorem cX_isSlot_ok (l : Launch) (x : Int32) : Met l yX_isSlot wX_isSlot ({ frames := 0, cells := 0, slots := 0, locals := 0 }) (va_Pc [.int x] (fun _ => True)) (QcRead (hn_isl x)) 0 0 (fun _ => False) := by
  refine Met.ofW (cc := cX_isSlot) (maxL := 1) (ret := (some .boolean)) (by decide) rfl ?_
  intro p e s m args below meth c s₁ B hml hv
  obtain ⟨rfl, -⟩ := hv
  have hx := B.exec
  have hb := B.bytes
  have hr := B.returns
  have hts0 := atoms_spec (ws := wX_isSlot) B.pre
  have hts : ∀ w ∈ hn_tb, w.before _ s = true := fun w hw => hts0 w (List.mem_cons_of_mem _ hw)
  have hown : s.vm.findClass RX = some m.cls := findClass_of_methodNamed B.named
  have hlocks := B.notSynchronized
  have hl := lv_entry [.int x] (n := 1) (Nat.le_of_ble_eq_true rfl)
  rw [lg_entry_eq]
  generalize (lg_sl [.int x] ++ List.replicate (1 - (lg_sl [.int x]).length) Slot.unset).toArray = ls at hl ⊢
  have hl : lv_has ls 1 [(0, .int x)] := hl
  refine lv_iload_n hx hb dX_isSlot_0 rfl (lv_at hl 0 rfl) ?_
  refine lv_if_lt (tgt := 15) hx hb dX_isSlot_1 (by decide) (fun c_1 => ?_) (fun c_1 => ?_)
  · skip
    refine lv_iconst (v := 0) hx hb dX_isSlot_15 (by decide) ?_
    exact W.zret (v := 0) hx hb hr rfl (fun t9 ht9 _ => ⟨congrArg (fun z => Outcome.returned (some (Value.int z))) (show (0 : Int32) = hn_isl x from (by unfold hn_isl; rw [if_pos c_1])), ht9⟩) (fun q h => nomatch h) dX_isSlot_16
  · skip
    refine lv_iload_n hx hb dX_isSlot_4 rfl (lv_at hl 0 rfl) ?_
    refine lv_sipush (v := 384) hx hb dX_isSlot_5 (by decide) ?_
    refine lv_icmp_ge (tgt := 15) hx hb dX_isSlot_8 (by decide) (fun c_2 => ?_) (fun c_2 => ?_)
    · skip
      refine lv_iconst (v := 0) hx hb dX_isSlot_15 (by decide) ?_
      exact W.zret (v := 0) hx hb hr rfl (fun t9 ht9 _ => ⟨congrArg (fun z => Outcome.returned (some (Value.int z))) (show (0 : Int32) = hn_isl x from (by unfold hn_isl; rw [if_neg c_1, if_pos c_2])), ht9⟩) (fun q h => nomatch h) dX_isSlot_16
    · skip
      refine lv_iconst (v := 1) hx hb dX_isSlot_11 (by decide) ?_
      refine lv_goto (tgt := 16) hx hb dX_isSlot_12 (by decide) ?_
      exact W.zret (v := 1) hx hb hr rfl (fun t9 ht9 _ => ⟨congrArg (fun z => Outcome.returned (some (Value.int z))) (show (1 : Int32) = hn_isl x from (by unfold hn_isl; rw [if_neg c_1, if_neg c_2])), ht9⟩) (fun q h => nomatch h) dX_isSlot_16

set_option maxHeartbeats 4000000 in
set_option maxRecDepth 100000 in
theorem cX_orderHead_ok (l : Launch) (x : Int32) : Met l yX_orderHead wX_orderHead ({ frames := 0, cells := 0, slots := 0, locals := 0 }) (va_Pc [.int x] (fun _ => True)) (QcRead (384 + x)) 0 0 (fun _ => False) := by
  refine Met.ofW (cc := cX_orderHead) (maxL := 1) (ret := (some .int)) (by decide) rfl ?_
  intro p e s m args below meth c s₁ B hml hv
  obtain ⟨rfl, -⟩ := hv
  have hx := B.exec
  have hb := B.bytes
  have hr := B.returns
  have hts0 := atoms_spec (ws := wX_orderHead) B.pre
  have hts : ∀ w ∈ hn_tb, w.before _ s = true := fun w hw => hts0 w (List.mem_cons_of_mem _ hw)
  have hown : s.vm.findClass RX = some m.cls := findClass_of_methodNamed B.named
  have hlocks := B.notSynchronized
  have hl := lv_entry [.int x] (n := 1) (Nat.le_of_ble_eq_true rfl)
  rw [lg_entry_eq]
  generalize (lg_sl [.int x] ++ List.replicate (1 - (lg_sl [.int x]).length) Slot.unset).toArray = ls at hl ⊢
  have hl : lv_has ls 1 [(0, .int x)] := hl
  refine lv_sipush (v := 384) hx hb dX_orderHead_0 (by decide) ?_
  refine lv_iload_n hx hb dX_orderHead_3 rfl (lv_at hl 0 rfl) ?_
  refine lv_iadd hx hb dX_orderHead_4 ?_
  exact W.iret (v := (384 + x)) hx hb hr (fun t9 ht9 _ => ⟨congrArg (fun z => Outcome.returned (some (Value.int z))) (show (384 + x : Int32) = 384 + x from rfl), ht9⟩) (fun q h => nomatch h) dX_orderHead_5

set_option maxHeartbeats 4000000 in
set_option maxRecDepth 100000 in
theorem cX_maskOfFirst_ok (l : Launch) (x : Int32) : Met l yX_maskOfFirst wX_maskOfFirst ({ frames := 0, cells := 0, slots := 0, locals := 0 }) (va_Pc [.int x] (fun _ => True)) (QcRead (hn_mask x)) 0 0 (fun _ => False) := by
  refine Met.ofW (cc := cX_maskOfFirst) (maxL := 1) (ret := (some .int)) (by decide) rfl ?_
  intro p e s m args below meth c s₁ B hml hv
  obtain ⟨rfl, -⟩ := hv
  have hx := B.exec
  have hb := B.bytes
  have hr := B.returns
  have hts0 := atoms_spec (ws := wX_maskOfFirst) B.pre
  have hts : ∀ w ∈ hn_tb, w.before _ s = true := fun w hw => hts0 w (List.mem_cons_of_mem _ hw)
  have hown : s.vm.findClass RX = some m.cls := findClass_of_methodNamed B.named
  have hlocks := B.notSynchronized
  have hl := lv_entry [.int x] (n := 1) (Nat.le_of_ble_eq_true rfl)
  rw [lg_entry_eq]
  generalize (lg_sl [.int x] ++ List.replicate (1 - (lg_sl [.int x]).length) Slot.unset).toArray = ls at hl ⊢
  have hl : lv_has ls 1 [(0, .int x)] := hl
  refine lv_iload_n hx hb dX_maskOfFirst_0 rfl (lv_at hl 0 rfl) ?_
  refine lv_if_gt (tgt := 6) hx hb dX_maskOfFirst_1 (by decide) (fun c_3 => ?_) (fun c_3 => ?_)
  · skip
    refine lv_iload_n hx hb dX_maskOfFirst_6 rfl (lv_at hl 0 rfl) ?_
    refine lv_iconst (v := 4) hx hb dX_maskOfFirst_7 (by decide) ?_
    refine lv_icmp_lt (tgt := 15) hx hb dX_maskOfFirst_8 (by decide) (fun c_4 => ?_) (fun c_4 => ?_)
    · skip
      refine lv_iconst (v := (-1)) hx hb dX_maskOfFirst_15 (by decide) ?_
      refine lv_bipush (v := 8) hx hb dX_maskOfFirst_16 (by decide) ?_
      refine lv_iconst (v := 4) hx hb dX_maskOfFirst_18 (by decide) ?_
      refine lv_iload_n hx hb dX_maskOfFirst_19 rfl (lv_at hl 0 rfl) ?_
      refine lv_isub hx hb dX_maskOfFirst_20 ?_
      refine lv_imul hx hb dX_maskOfFirst_21 ?_
      refine lv_ishl hx hb dX_maskOfFirst_22 ?_
      exact W.iret (v := ((-1) <<< ((8 * (4 - x)) &&& 31))) hx hb hr (fun t9 ht9 _ => ⟨congrArg (fun z => Outcome.returned (some (Value.int z))) (show ((-1) <<< ((8 * (4 - x)) &&& 31) : Int32) = hn_mask x from (by unfold hn_mask; rw [if_neg (Int32.not_le.mpr c_3), if_neg (Int32.not_le.mpr c_4)])), ht9⟩) (fun q h => nomatch h) dX_maskOfFirst_23
    · skip
      refine lv_iconst (v := (-1)) hx hb dX_maskOfFirst_11 (by decide) ?_
      refine lv_goto (tgt := 23) hx hb dX_maskOfFirst_12 (by decide) ?_
      exact W.iret (v := (-1)) hx hb hr (fun t9 ht9 _ => ⟨congrArg (fun z => Outcome.returned (some (Value.int z))) (show ((-1) : Int32) = hn_mask x from (by unfold hn_mask; rw [if_neg (Int32.not_le.mpr c_3), if_pos (Int32.not_lt.mp c_4)])), ht9⟩) (fun q h => nomatch h) dX_maskOfFirst_23
  · skip
    refine lv_iconst (v := 0) hx hb dX_maskOfFirst_4 (by decide) ?_
    exact W.iret (v := 0) hx hb hr (fun t9 ht9 _ => ⟨congrArg (fun z => Outcome.returned (some (Value.int z))) (show (0 : Int32) = hn_mask x from (by unfold hn_mask; rw [if_pos (Int32.not_lt.mp c_3)])), ht9⟩) (fun q h => nomatch h) dX_maskOfFirst_5

set_option maxHeartbeats 4000000 in
set_option maxRecDepth 100000 in
theorem cX_byteOf_ok (l : Launch) (D : va_G) (cI cL : ClassId) (w : va_W) (q0 n : Nat) (a : Nat) (f : Nat → Int32) (hq : w[q0]? = some (a, .inl (cI, n, .inl f))) (hn9 : 5 ≤ n) (hn8 : n < 2 ^ 31) (i : Nat) (hi : i < 20) : Met l yX_byteOf wX_byteOf ({ frames := 0, cells := 0, slots := 0, locals := 0 }) (hn_PR D vwCl (hn_ty cI cL) w [.ref a, .int (nI i)]) (QcRead (nI (hn_by f i))) 0 0 (fun _ => False) := by
  refine Met.ofW (cc := cX_byteOf) (maxL := 2) (ret := (some .int)) (by decide) rfl ?_
  intro p e s m args below meth c s₁ B hml hv
  obtain ⟨rfl, hP, hK⟩ := hv
  have hx := B.exec
  have hb := B.bytes
  have hr := B.returns
  have hts0 := atoms_spec (ws := wX_byteOf) B.pre
  have hts : ∀ w ∈ hn_tb, w.before _ s = true := fun w hw => hts0 w (List.mem_cons_of_mem _ hw)
  have hown : s.vm.findClass RX = some m.cls := findClass_of_methodNamed B.named
  have hlocks := B.notSynchronized
  have hl := lv_entry [.ref a, .int (nI i)] (n := 2) (Nat.le_of_ble_eq_true rfl)
  rw [lg_entry_eq]
  generalize (lg_sl [.ref a, .int (nI i)] ++ List.replicate (2 - (lg_sl [.ref a, .int (nI i)]).length) Slot.unset).toArray = ls at hl ⊢
  have hl : lv_has ls 2 [(0, .ref a), (1, .int (nI i))] := hl
  refine lv_aload_n hx hb dX_byteOf_0 rfl (lv_at hl 0 rfl) ?_
  refine lv_iload_n hx hb dX_byteOf_1 rfl (lv_at hl 1 rfl) ?_
  refine lv_iconst (v := 4) hx hb dX_byteOf_2 (by decide) ?_
  refine lv_idiv hx hb dX_byteOf_3 (by decide) ?_
  rw [show ((nI i) / 4 : Int32) = nI (i / 4) from pk_div (d := 4) (by omega) (by decide) (by decide)]
  refine va_iald hx hb hK hP q0 0 hq rfl (vp_in_nI (show i / 4 < n from by omega) (by omega)) dX_byteOf_4 ?_
  rw [nI_clamp (show i / 4 < 2 ^ 31 by omega)]
  refine lv_bipush (v := 24) hx hb dX_byteOf_5 (by decide) ?_
  refine lv_bipush (v := 8) hx hb dX_byteOf_7 (by decide) ?_
  refine lv_iload_n hx hb dX_byteOf_9 rfl (lv_at hl 1 rfl) ?_
  refine lv_iconst (v := 4) hx hb dX_byteOf_10 (by decide) ?_
  refine lv_irem hx hb dX_byteOf_11 (by decide) ?_
  rw [show ((nI i) - (nI i) / 4 * 4 : Int32) = nI (i % 4) from pk_rem (d := 4) (by omega) (by decide) (by decide)]
  refine lv_imul hx hb dX_byteOf_12 ?_
  rw [show (8 * (nI (i % 4)) : Int32) = nI (8 * (i % 4)) from pk_mul 8 (i % 4)]
  refine lv_isub hx hb dX_byteOf_13 ?_
  rw [show (24 - (nI (8 * (i % 4))) : Int32) = nI (24 - 8 * (i % 4)) from pk_sub (a := 24) (by omega)]
  refine lv_iushr hx hb dX_byteOf_14 rfl ?_
  refine lv_sipush (v := 255) hx hb dX_byteOf_15 (by decide) ?_
  refine lv_iand hx hb dX_byteOf_18 ?_
  exact W.iret (v := ((((f (i / 4)).toUInt32 >>> ((nI (24 - 8 * (i % 4))).toUInt32 &&& Int32.toUInt32 31)).toInt32) &&& 255)) hx hb hr (fun t9 ht9 _ => ⟨congrArg (fun z => Outcome.returned (some (Value.int z))) (show ((((f (i / 4)).toUInt32 >>> ((nI (24 - 8 * (i % 4))).toUInt32 &&& Int32.toUInt32 31)).toInt32) &&& 255 : Int32) = nI (hn_by f i) from hn_by_row (f (i / 4)) (k := i % 4) (by omega)), ht9⟩) (fun q h => nomatch h) dX_byteOf_19

set_option maxHeartbeats 4000000 in
set_option maxRecDepth 100000 in
theorem cX_bucketHead_ok (l : Launch) (D : va_G) (cI cL : ClassId) (ad : Nat → Nat) (σ : Nat → Nat → Int32) (d : Nat) (hd : d < 8) : Met l yX_bucketHead wX_bucketHead ({ frames := 0, cells := 0, slots := 0, locals := 0 }) (hn_PR D vwCl (hn_ty cI cL) (hn_wX ad cI σ) [.ref (ad 0), .int (nI d)]) (QcRead (nI (384 + d * 16 + hn_bk (σ 2) 0))) 0 0 (fun _ => False) := by
  refine Met.ofW (cc := cX_bucketHead) (maxL := 4) (ret := (some .int)) (by decide) rfl ?_
  intro p e s m args below meth c s₁ B hml hv
  obtain ⟨rfl, hP, hK⟩ := hv
  have hx := B.exec
  have hb := B.bytes
  have hr := B.returns
  have hts0 := atoms_spec (ws := wX_bucketHead) B.pre
  have hts : ∀ w ∈ hn_tb, w.before _ s = true := fun w hw => hts0 w (List.mem_cons_of_mem _ hw)
  have hown : s.vm.findClass RX = some m.cls := findClass_of_methodNamed B.named
  have hlocks := B.notSynchronized
  have hl := lv_entry [.ref (ad 0), .int (nI d)] (n := 4) (Nat.le_of_ble_eq_true rfl)
  rw [lg_entry_eq]
  generalize (lg_sl [.ref (ad 0), .int (nI d)] ++ List.replicate (4 - (lg_sl [.ref (ad 0), .int (nI d)]).length) Slot.unset).toArray = ls at hl ⊢
  have hl : lv_has ls 4 [(0, .ref (ad 0)), (1, .int (nI d))] := hl
  refine lv_iconst (v := 0) hx hb dX_bucketHead_0 (by decide) ?_
  refine lv_istore_n (lv' := [(2, .int 0), (0, .ref (ad 0)), (1, .int (nI d))]) hx hb dX_bucketHead_1 rfl hl (by decide) rfl (fun ls hl => ?_)
  refine lv_iconst (v := 0) hx hb dX_bucketHead_2 (by decide) ?_
  refine lv_istore_n (lv' := [(3, .int 0), (2, .int 0), (0, .ref (ad 0)), (1, .int (nI d))]) hx hb dX_bucketHead_3 rfl hl (by decide) rfl (fun ls hl => ?_)
  suffices loop : ∀ (k i : Nat), i + k = 5 → ∀ ls : Array Slot, lv_has ls 4 [(0, .ref (ad 0)), (1, .int (nI d)), (2, .int (hn_h (σ 2) 0 i)), (3, .int (nI i))] → W p l e (headSpec wX_bucketHead ({ frames := 0, cells := 0, slots := 0, locals := 0 })).room s m [.ref (ad 0), .int (nI d)].toArray below meth c s.heap [] 0 0 (MQ below (QcRead (nI (384 + d * 16 + hn_bk (σ 2) 0))) [.ref (ad 0), .int (nI d)].toArray s 0 0 (fun _ => False)) (F0 m 4 ls []) from loop 5 0 rfl ls (lv_sub hl [2, 3, 1, 0] rfl)
  intro k
  induction k with
  | zero =>
    intro i hi ls hl
    have hi : i = 5 := hi
    subst hi
    refine lv_iload_n hx hb dX_bucketHead_4 rfl (lv_at hl 3 rfl) ?_
    refine lv_iconst (v := 5) hx hb dX_bucketHead_5 (by decide) ?_
    refine lv_icmp_ge (tgt := 27) hx hb dX_bucketHead_6 (by decide) (fun c_5 => ?_) (fun c_5 => absurd (show (5 : Int32) ≤ nI 5 by decide) c_5)
    refine lv_sipush (v := 384) hx hb dX_bucketHead_27 (by decide) ?_
    refine lv_iload_n hx hb dX_bucketHead_30 rfl (lv_at hl 1 rfl) ?_
    refine lv_bipush (v := 16) hx hb dX_bucketHead_31 (by decide) ?_
    refine lv_imul hx hb dX_bucketHead_33 ?_
    refine lv_iadd hx hb dX_bucketHead_34 ?_
    rw [show (384 + ((nI d) * 16) : Int32) = nI (384 + d * 16) from by rw [show (16 : Int32) = nI 16 from rfl, pk_mul, show (384 : Int32) = nI 384 from rfl, nI_add]]
    refine lv_iload_n hx hb dX_bucketHead_35 rfl (lv_at hl 2 rfl) ?_
    refine lv_bipush (v := 28) hx hb dX_bucketHead_36 (by decide) ?_
    refine lv_iushr (v := nI (hn_bk (σ 2) 0)) hx hb dX_bucketHead_38 (hn_ush28 _) ?_
    refine lv_iadd hx hb dX_bucketHead_39 ?_
    exact W.iret (v := ((nI (384 + d * 16)) + (nI (hn_bk (σ 2) 0)))) hx hb hr (fun t9 ht9 _ => ⟨congrArg (fun z => Outcome.returned (some (Value.int z))) (show ((nI (384 + d * 16)) + (nI (hn_bk (σ 2) 0)) : Int32) = nI (384 + d * 16 + hn_bk (σ 2) 0) from nI_add _ _), ht9⟩) (fun q h => nomatch h) dX_bucketHead_40
  | succ k ih =>
    intro i hi ls hl
    refine lv_iload_n hx hb dX_bucketHead_4 rfl (lv_at hl 3 rfl) ?_
    refine lv_iconst (v := 5) hx hb dX_bucketHead_5 (by decide) ?_
    refine lv_icmp_ge (tgt := 27) hx hb dX_bucketHead_6 (by decide) (fun c_6 => absurd c_6 (nI_ge (a := i) (b := 5) (by omega) (by decide))) (fun c_6 => ?_)
    refine lv_iload_n hx hb dX_bucketHead_9 rfl (lv_at hl 2 rfl) ?_
    refine lv_aload_n hx hb dX_bucketHead_10 rfl (lv_at hl 0 rfl) ?_
    refine va_get (D := D) (ci := 0) (v := .ref (ad 2)) (C := RX) (T := FX) (N := 10) hx hb hts iX hown hK hP 0 rfl rfl 1 (by decide) (hts _ mX_f_key) (fun _ h9 => h9) rfl dX_bucketHead_11 ?_
    refine lv_iload_n hx hb dX_bucketHead_14 rfl (lv_at hl 3 rfl) ?_
    refine va_iald hx hb hK hP 2 0 rfl rfl (vp_in_nI (show i < 5 from by omega) (by omega)) dX_bucketHead_15 ?_
    rw [nI_clamp (show i < 2 ^ 31 by omega)]
    refine lv_ixor hx hb dX_bucketHead_16 ?_
    refine lv_ldc (v := (-1640531535)) hx hb hown (hts _ mX_k_m1640531535) dX_bucketHead_17 ?_
    refine lv_imul hx hb dX_bucketHead_19 ?_
    rw [show (((hn_h (σ 2) 0 i) ^^^ ((σ 2) i)) * (-1640531535) : Int32) = hn_h (σ 2) 0 (i + 1) from by show _ = (hn_h (σ 2) 0 i ^^^ σ 2 (0 + i)) * _; rw [Nat.zero_add]]
    refine lv_istore_n (lv' := [(2, .int (hn_h (σ 2) 0 (i + 1))), (0, .ref (ad 0)), (1, .int (nI d)), (3, .int (nI i))]) hx hb dX_bucketHead_20 rfl hl (by decide) rfl (fun ls hl => ?_)
    refine lv_iinc (v := nI (i + 1)) (lv' := [(3, .int (nI (i + 1))), (2, .int (hn_h (σ 2) 0 (i + 1))), (0, .ref (ad 0)), (1, .int (nI d))]) hx hb dX_bucketHead_21 hl (k := 3) rfl (nI_1 i) (by decide) rfl (fun ls hl => ?_)
    refine lv_goto (tgt := 4) hx hb dX_bucketHead_24 (by decide) ?_
    exact ih (i + 1) (by omega) ls (lv_sub hl [2, 3, 1, 0] rfl)

set_option maxHeartbeats 4000000 in
set_option maxRecDepth 100000 in
theorem cX_compareWithKey_ok (l : Launch) (D : va_G) (cI cL : ClassId) (ad : Nat → Nat) (σ : Nat → Nat → Int32) (t : Nat) (ht : t < 384) : Met l yX_compareWithKey wX_compareWithKey ({ frames := 0, cells := 0, slots := 0, locals := 0 }) (hn_PR D vwCl (hn_ty cI cL) (hn_wX ad cI σ) [.ref (ad 0), .int (nI t)]) (QcRead (hn_cmp (hn_nm (σ 4) (5 * t)) (hn_nm (σ 2) 0))) 0 0 (fun _ => False) := by
  refine Met.ofW (cc := cX_compareWithKey) (maxL := 4) (ret := (some .int)) (by decide) rfl ?_
  intro p e s m args below meth c s₁ B hml hv
  obtain ⟨rfl, hP, hK⟩ := hv
  have hx := B.exec
  have hb := B.bytes
  have hr := B.returns
  have hts0 := atoms_spec (ws := wX_compareWithKey) B.pre
  have hts : ∀ w ∈ hn_tb, w.before _ s = true := fun w hw => hts0 w (List.mem_cons_of_mem _ hw)
  have hown : s.vm.findClass RX = some m.cls := findClass_of_methodNamed B.named
  have hlocks := B.notSynchronized
  have hl := lv_entry [.ref (ad 0), .int (nI t)] (n := 4) (Nat.le_of_ble_eq_true rfl)
  rw [lg_entry_eq]
  generalize (lg_sl [.ref (ad 0), .int (nI t)] ++ List.replicate (4 - (lg_sl [.ref (ad 0), .int (nI t)]).length) Slot.unset).toArray = ls at hl ⊢
  have hl : lv_has ls 4 [(0, .ref (ad 0)), (1, .int (nI t))] := hl
  refine lv_iconst (v := 0) hx hb dX_compareWithKey_0 (by decide) ?_
  refine lv_istore_n (lv' := [(2, .int 0), (0, .ref (ad 0)), (1, .int (nI t))]) hx hb dX_compareWithKey_1 rfl hl (by decide) rfl (fun ls hl => ?_)
  suffices loop : ∀ (k i : Nat), i + k = 5 → (∀ j, j < i → σ 4 (5 * t + j) = σ 2 j) → ∀ ls : Array Slot, lv_has ls 4 [(0, .ref (ad 0)), (1, .int (nI t)), (2, .int (nI i))] → W p l e (headSpec wX_compareWithKey ({ frames := 0, cells := 0, slots := 0, locals := 0 })).room s m [.ref (ad 0), .int (nI t)].toArray below meth c s.heap [] 0 0 (MQ below (QcRead (hn_cmp (hn_nm (σ 4) (5 * t)) (hn_nm (σ 2) 0))) [.ref (ad 0), .int (nI t)].toArray s 0 0 (fun _ => False)) (F0 m 2 ls []) from loop 5 0 rfl (fun j h => absurd h (Nat.not_lt_zero _)) ls (lv_sub hl [1, 2, 0] rfl)
  intro k
  induction k with
  | zero =>
    intro i hi hj ls hl
    have hi : i = 5 := hi
    subst hi
    refine lv_iload_n hx hb dX_compareWithKey_2 rfl (lv_at hl 2 rfl) ?_
    refine lv_iconst (v := 5) hx hb dX_compareWithKey_3 (by decide) ?_
    refine lv_icmp_ge (tgt := 56) hx hb dX_compareWithKey_4 (by decide) (fun c_7 => ?_) (fun c_7 => absurd (show (5 : Int32) ≤ nI 5 by decide) c_7)
    refine lv_iconst (v := 0) hx hb dX_compareWithKey_56 (by decide) ?_
    exact W.iret (v := 0) hx hb hr (fun t9 ht9 _ => ⟨congrArg (fun z => Outcome.returned (some (Value.int z))) (show (0 : Int32) = hn_cmp (hn_nm (σ 4) (5 * t)) (hn_nm (σ 2) 0) from (hn_cw0 hj).symm), ht9⟩) (fun q h => nomatch h) dX_compareWithKey_57
  | succ k ih =>
    intro i hi hj ls hl
    refine lv_iload_n hx hb dX_compareWithKey_2 rfl (lv_at hl 2 rfl) ?_
    refine lv_iconst (v := 5) hx hb dX_compareWithKey_3 (by decide) ?_
    refine lv_icmp_ge (tgt := 56) hx hb dX_compareWithKey_4 (by decide) (fun c_8 => absurd c_8 (nI_ge (a := i) (b := 5) (by omega) (by decide))) (fun c_8 => ?_)
    refine lv_aload_n hx hb dX_compareWithKey_7 rfl (lv_at hl 0 rfl) ?_
    refine va_get (D := D) (ci := 0) (v := .ref (ad 4)) (C := RX) (T := FX) (N := 10) hx hb hts iX hown hK hP 0 rfl rfl 4 (by decide) (hts _ mX_f_words) (fun _ h9 => h9) rfl dX_compareWithKey_8 ?_
    refine lv_iload_n hx hb dX_compareWithKey_11 rfl (lv_at hl 1 rfl) ?_
    refine lv_iconst (v := 5) hx hb dX_compareWithKey_12 (by decide) ?_
    refine lv_imul hx hb dX_compareWithKey_13 ?_
    refine lv_iload_n hx hb dX_compareWithKey_14 rfl (lv_at hl 2 rfl) ?_
    refine lv_iadd hx hb dX_compareWithKey_15 ?_
    rw [show (((nI t) * 5) + (nI i) : Int32) = nI (5 * t + i) from by rw [show (5 : Int32) = nI 5 from rfl, pk_mul, nI_add, Nat.mul_comm]]
    refine va_iald hx hb hK hP 4 0 rfl rfl (vp_in_nI (show 5 * t + i < 1920 from by omega) (by omega)) dX_compareWithKey_16 ?_
    rw [nI_clamp (show 5 * t + i < 2 ^ 31 by omega)]
    refine lv_istore_n (lv' := [(3, .int ((σ 4) (5 * t + i))), (0, .ref (ad 0)), (1, .int (nI t)), (2, .int (nI i))]) hx hb dX_compareWithKey_17 rfl hl (by decide) rfl (fun ls hl => ?_)
    refine lv_iload_n hx hb dX_compareWithKey_18 rfl (lv_at hl 0 rfl) ?_
    refine lv_aload_n hx hb dX_compareWithKey_19 rfl (lv_at hl 1 rfl) ?_
    refine va_get (D := D) (ci := 0) (v := .ref (ad 2)) (C := RX) (T := FX) (N := 10) hx hb hts iX hown hK hP 0 rfl rfl 1 (by decide) (hts _ mX_f_key) (fun _ h9 => h9) rfl dX_compareWithKey_20 ?_
    refine lv_iload_n hx hb dX_compareWithKey_23 rfl (lv_at hl 3 rfl) ?_
    refine va_iald hx hb hK hP 2 0 rfl rfl (vp_in_nI (show i < 5 from by omega) (by omega)) dX_compareWithKey_24 ?_
    rw [nI_clamp (show i < 2 ^ 31 by omega)]
    refine lv_icmp_eq (tgt := 50) hx hb dX_compareWithKey_25 (by decide) (fun c_9 => ?_) (fun c_9 => ?_)
    · skip
      refine lv_iinc (v := nI (i + 1)) (lv' := [(2, .int (nI (i + 1))), (3, .int ((σ 4) (5 * t + i))), (0, .ref (ad 0)), (1, .int (nI t))]) hx hb dX_compareWithKey_50 hl (k := 3) rfl (nI_1 i) (by decide) rfl (fun ls hl => ?_)
      refine lv_goto (tgt := 2) hx hb dX_compareWithKey_53 (by decide) ?_
      exact ih (i + 1) (by omega) (lt_s hj c_9) ls (lv_sub hl [2, 3, 0] rfl)
    · skip
      refine lv_iload_n hx hb dX_compareWithKey_28 rfl (lv_at hl 0 rfl) ?_
      refine lv_ldc (v := (-2147483648)) hx hb hown (hts _ mX_k_m2147483648) dX_compareWithKey_29 ?_
      refine lv_ixor hx hb dX_compareWithKey_31 ?_
      refine lv_aload_n hx hb dX_compareWithKey_32 rfl (lv_at hl 1 rfl) ?_
      refine va_get (D := D) (ci := 0) (v := .ref (ad 2)) (C := RX) (T := FX) (N := 10) hx hb hts iX hown hK hP 0 rfl rfl 1 (by decide) (hts _ mX_f_key) (fun _ h9 => h9) rfl dX_compareWithKey_33 ?_
      refine lv_iload_n hx hb dX_compareWithKey_36 rfl (lv_at hl 3 rfl) ?_
      refine va_iald hx hb hK hP 2 0 rfl rfl (vp_in_nI (show i < 5 from by omega) (by omega)) dX_compareWithKey_37 ?_
      rw [nI_clamp (show i < 2 ^ 31 by omega)]
      refine lv_ldc (v := (-2147483648)) hx hb hown (hts _ mX_k_m2147483648) dX_compareWithKey_38 ?_
      refine lv_ixor hx hb dX_compareWithKey_40 ?_
      refine lv_icmp_ge (tgt := 48) hx hb dX_compareWithKey_41 (by decide) (fun c_10 => ?_) (fun c_10 => ?_)
      · skip
        refine lv_iconst (v := 1) hx hb dX_compareWithKey_48 (by decide) ?_
        exact W.iret (v := 1) hx hb hr (fun t9 ht9 _ => ⟨congrArg (fun z => Outcome.returned (some (Value.int z))) (show (1 : Int32) = hn_cmp (hn_nm (σ 4) (5 * t)) (hn_nm (σ 2) 0) from (hn_cw2 (by omega) hj c_9 c_10).symm), ht9⟩) (fun q h => nomatch h) dX_compareWithKey_49
      · skip
        refine lv_iconst (v := (-1)) hx hb dX_compareWithKey_44 (by decide) ?_
        refine lv_goto (tgt := 49) hx hb dX_compareWithKey_45 (by decide) ?_
        exact W.iret (v := (-1)) hx hb hr (fun t9 ht9 _ => ⟨congrArg (fun z => Outcome.returned (some (Value.int z))) (show ((-1) : Int32) = hn_cmp (hn_nm (σ 4) (5 * t)) (hn_nm (σ 2) 0) from (hn_cw1 (by omega) hj c_10).symm), ht9⟩) (fun q h => nomatch h) dX_compareWithKey_49

set_option maxHeartbeats 4000000 in
set_option maxRecDepth 100000 in
theorem cX_placeBeforeKey_ok (l : Launch) (D : va_G) (cI cL : ClassId) (ad : Nat → Nat) (σ : Nat → Nat → Int32) (q0 n a : Nat) (f : Nat → Int32) (hq : (hn_wX ad cI σ)[q0]? = some (a, .inl (cI, n, .inl f))) (hn9 : 384 ≤ n) (hn8 : n < 2 ^ 31) (h : Nat) (hh : h < n) (l9 : List Nat) (hlen : l9.length ≤ 48) (hch : hn_ch f h l9) : Met l yX_placeBeforeKey wX_placeBeforeKey ({ frames := 1, cells := 0, slots := 0, locals := 23 }) (hn_PR D vwCl (hn_ty cI cL) (hn_wX ad cI σ) [.ref (ad 0), .ref a, .int (nI h)]) (QcRead (nI (hn_pl (hn_ns σ) (hn_nm (σ 2) 0) h l9))) 0 0 (fun _ => False) := by
  refine Met.ofW (cc := cX_placeBeforeKey) (maxL := 6) (ret := (some .int)) (by decide) rfl ?_
  intro p e s m args below meth c s₁ B hml hv
  obtain ⟨rfl, hP, hK⟩ := hv
  have hx := B.exec
  have hb := B.bytes
  have hr := B.returns
  have hts0 := atoms_spec (ws := wX_placeBeforeKey) B.pre
  have hts : ∀ w ∈ hn_tb, w.before _ s = true := fun w hw => hts0 w (List.mem_cons_of_mem _ hw)
  have hown : s.vm.findClass RX = some m.cls := findClass_of_methodNamed B.named
  have hlocks := B.notSynchronized
  have hl := lv_entry [.ref (ad 0), .ref a, .int (nI h)] (n := 6) (Nat.le_of_ble_eq_true rfl)
  rw [lg_entry_eq]
  generalize (lg_sl [.ref (ad 0), .ref a, .int (nI h)] ++ List.replicate (6 - (lg_sl [.ref (ad 0), .ref a, .int (nI h)]).length) Slot.unset).toArray = ls at hl ⊢
  have hl : lv_has ls 6 [(0, .ref (ad 0)), (1, .ref a), (2, .int (nI h))] := hl
  refine lv_iload_n hx hb dX_placeBeforeKey_0 rfl (lv_at hl 2 rfl) ?_
  refine lv_istore_n (lv' := [(3, .int (nI h)), (0, .ref (ad 0)), (1, .ref a), (2, .int (nI h))]) hx hb dX_placeBeforeKey_1 rfl hl (by decide) rfl (fun ls hl => ?_)
  refine lv_iconst (v := 0) hx hb dX_placeBeforeKey_2 (by decide) ?_
  refine lv_istore (lv' := [(4, .int 0), (3, .int (nI h)), (0, .ref (ad 0)), (1, .ref a), (2, .int (nI h))]) hx hb dX_placeBeforeKey_3 hl (by decide) rfl (fun ls hl => ?_)
  suffices loop : ∀ (k i p9 : Nat) (r : List Nat), i + k = 48 → r.length ≤ k → p9 < n → hn_ch f p9 r → hn_pl (hn_ns σ) (hn_nm (σ 2) 0) p9 r = hn_pl (hn_ns σ) (hn_nm (σ 2) 0) h l9 → ∀ ls : Array Slot, lv_has ls 6 [(0, .ref (ad 0)), (1, .ref a), (3, .int (nI p9)), (4, .int (nI i))] → W p l e (headSpec wX_placeBeforeKey ({ frames := 1, cells := 0, slots := 0, locals := 23 })).room s m [.ref (ad 0), .ref a, .int (nI h)].toArray below meth c s.heap [] 0 0 (MQ below (QcRead (nI (hn_pl (hn_ns σ) (hn_nm (σ 2) 0) h l9))) [.ref (ad 0), .ref a, .int (nI h)].toArray s 0 0 (fun _ => False)) (F0 m 5 ls []) from loop 48 0 h l9 rfl hlen hh hch rfl ls (lv_sub hl [2, 3, 1, 0] rfl)
  intro k
  induction k with
  | zero =>
    intro i p9 r hi hr9 hp hc hpl ls hl
    have hi : i = 48 := hi
    subst hi
    have hr0 : r = [] := List.eq_nil_of_length_eq_zero (Nat.le_zero.mp hr9)
    subst hr0
    refine lv_iload hx hb dX_placeBeforeKey_5 (lv_at hl 3 rfl) ?_
    refine lv_bipush (v := 48) hx hb dX_placeBeforeKey_7 (by decide) ?_
    refine lv_icmp_ge (tgt := 46) hx hb dX_placeBeforeKey_9 (by decide) (fun c_11 => ?_) (fun c_11 => absurd (show (48 : Int32) ≤ nI 48 by decide) c_11)
    refine lv_iload_n hx hb dX_placeBeforeKey_46 rfl (lv_at hl 2 rfl) ?_
    exact W.iret (v := (nI p9)) hx hb hr (fun t9 ht9 _ => ⟨congrArg (fun z => Outcome.returned (some (Value.int z))) (show (nI p9 : Int32) = nI (hn_pl (hn_ns σ) (hn_nm (σ 2) 0) h l9) from congrArg nI hpl), ht9⟩) (fun q h => nomatch h) dX_placeBeforeKey_47
  | succ k ih =>
    intro i p9 r hi hr9 hp hc hpl ls hl
    refine lv_iload hx hb dX_placeBeforeKey_5 (lv_at hl 3 rfl) ?_
    refine lv_bipush (v := 48) hx hb dX_placeBeforeKey_7 (by decide) ?_
    refine lv_icmp_ge (tgt := 46) hx hb dX_placeBeforeKey_9 (by decide) (fun c_12 => absurd c_12 (nI_ge (a := i) (b := 48) (by omega) (by decide))) (fun c_12 => ?_)
    refine lv_aload_n hx hb dX_placeBeforeKey_12 rfl (lv_at hl 1 rfl) ?_
    refine lv_iload_n hx hb dX_placeBeforeKey_13 rfl (lv_at hl 2 rfl) ?_
    refine va_iald hx hb hK hP q0 0 hq rfl (vp_in_nI (show p9 < n from hp) (by omega)) dX_placeBeforeKey_14 ?_
    rw [nI_clamp (show p9 < 2 ^ 31 by omega)]
    cases r with
    | nil =>
      rw [show f p9 = -1 from hc]
      refine lv_istore (lv' := [(5, .int (-1)), (0, .ref (ad 0)), (1, .ref a), (3, .int (nI p9)), (4, .int (nI i))]) hx hb dX_placeBeforeKey_15 hl (by decide) rfl (fun ls hl => ?_)
      refine lv_iload hx hb dX_placeBeforeKey_17 (lv_at hl 0 rfl) ?_
      refine W.callR (W.runS (As := [.int (-1)]) (rest := []) ⟨hx, hb, hml, hown, hts⟩ (cX_isSlot_ok l (-1)) (cwS 1 hts gX_X_isSlot rfl rfl rfl (by decide +kernel) ⟨Nat.le_of_ble_eq_true rfl, Nat.le_of_ble_eq_true rfl⟩) hn_pre0 rfl rfl hl.1 rfl (lv_room (Nat.le_of_ble_eq_true rfl)) dX_placeBeforeKey_19 ⟨Nat.zero_le _, Nat.zero_le _⟩) ?_
      refine W.eq (g2 := F0 m 22 ls [.int (hn_isl (-1))]) rfl ?_
      rw [show (hn_isl (-1) : Int32) = 0 from hn_isl_m1]
      refine lv_if_eq (tgt := 46) hx hb dX_placeBeforeKey_22 (by decide) (fun c_13 => ?_) (fun c_13 => absurd rfl c_13)
      refine lv_iload_n hx hb dX_placeBeforeKey_46 rfl (lv_at hl 3 rfl) ?_
      exact W.iret (v := (nI p9)) hx hb hr (fun t9 ht9 _ => ⟨congrArg (fun z => Outcome.returned (some (Value.int z))) (show (nI p9 : Int32) = nI (hn_pl (hn_ns σ) (hn_nm (σ 2) 0) h l9) from congrArg nI hpl), ht9⟩) (fun q h => nomatch h) dX_placeBeforeKey_47
    | cons t r =>
      obtain ⟨hc1, hc2, hc3⟩ := hc
      rw [hc1]
      refine lv_istore (lv' := [(5, .int (nI t)), (0, .ref (ad 0)), (1, .ref a), (3, .int (nI p9)), (4, .int (nI i))]) hx hb dX_placeBeforeKey_15 hl (by decide) rfl (fun ls hl => ?_)
      refine lv_iload hx hb dX_placeBeforeKey_17 (lv_at hl 0 rfl) ?_
      refine W.callR (W.runS (As := [.int (nI t)]) (rest := []) ⟨hx, hb, hml, hown, hts⟩ (cX_isSlot_ok l (nI t)) (cwS 1 hts gX_X_isSlot rfl rfl rfl (by decide +kernel) ⟨Nat.le_of_ble_eq_true rfl, Nat.le_of_ble_eq_true rfl⟩) hn_pre0 rfl rfl hl.1 rfl (lv_room (Nat.le_of_ble_eq_true rfl)) dX_placeBeforeKey_19 ⟨Nat.zero_le _, Nat.zero_le _⟩) ?_
      refine W.eq (g2 := F0 m 22 ls [.int (hn_isl (nI t))]) rfl ?_
      rw [show (hn_isl (nI t) : Int32) = 1 from hn_isl_n hc2]
      refine lv_if_eq (tgt := 46) hx hb dX_placeBeforeKey_22 (by decide) (fun c_14 => absurd c_14 (by decide)) (fun c_14 => ?_)
      refine lv_aload_n hx hb dX_placeBeforeKey_25 rfl (lv_at hl 1 rfl) ?_
      refine lv_iload hx hb dX_placeBeforeKey_26 (lv_at hl 0 rfl) ?_
      refine W.callR (W.runV (As := [.int (nI t)]) (rest := []) ⟨hx, hb, hml, hown, hts⟩ (cX_compareWithKey_ok l D cI cL ad σ t hc2) (cwV 1 hts gX_X_compareWithKey rfl rfl rfl (by decide +kernel) ⟨Nat.le_of_ble_eq_true rfl, Nat.le_of_ble_eq_true rfl⟩) (hn_preV hP hK (ci := 0) (q0 := 0) rfl rfl) rfl rfl hl.1 rfl (lv_room (Nat.le_of_ble_eq_true rfl)) dX_placeBeforeKey_28 ⟨Nat.zero_le _, Nat.zero_le _⟩) ?_
      refine W.eq (g2 := F0 m 31 ls [.int (hn_cmp (hn_ns σ t) (hn_nm (σ 2) 0))]) rfl ?_
      refine lv_if_lt (tgt := 37) hx hb dX_placeBeforeKey_31 (by decide) (fun c_15 => ?_) (fun c_15 => ?_)
      · skip
        refine lv_iload hx hb dX_placeBeforeKey_37 (lv_at hl 0 rfl) ?_
        refine lv_istore_n (lv' := [(3, .int (nI t)), (5, .int (nI t)), (0, .ref (ad 0)), (1, .ref a), (4, .int (nI i))]) hx hb dX_placeBeforeKey_39 rfl hl (by decide) rfl (fun ls hl => ?_)
        refine lv_iinc (v := nI (i + 1)) (lv' := [(4, .int (nI (i + 1))), (3, .int (nI t)), (5, .int (nI t)), (0, .ref (ad 0)), (1, .ref a)]) hx hb dX_placeBeforeKey_40 hl (k := 4) rfl (nI_1 i) (by decide) rfl (fun ls hl => ?_)
        refine lv_goto (tgt := 5) hx hb dX_placeBeforeKey_43 (by decide) ?_
        exact ih (i + 1) t r (by omega) (by have : r.length + 1 ≤ k + 1 := hr9; omega) (by omega) hc3 (by rw [← hpl]; exact (if_pos (hn_cmp_neg.mp c_15)).symm) ls (lv_sub hl [3, 4, 1, 0] rfl)
      · skip
        refine lv_goto (tgt := 46) hx hb dX_placeBeforeKey_34 (by decide) ?_
        refine lv_iload_n hx hb dX_placeBeforeKey_46 rfl (lv_at hl 3 rfl) ?_
        exact W.iret (v := (nI p9)) hx hb hr (fun t9 ht9 _ => ⟨congrArg (fun z => Outcome.returned (some (Value.int z))) (show (nI p9 : Int32) = nI (hn_pl (hn_ns σ) (hn_nm (σ 2) 0) h l9) from congrArg nI (show p9 = hn_pl (hn_ns σ) (hn_nm (σ 2) 0) h l9 by rw [← hpl]; exact (if_neg (fun z => c_15 (hn_cmp_neg.mpr z))).symm)), ht9⟩) (fun q h => nomatch h) dX_placeBeforeKey_47

set_option maxHeartbeats 4000000 in
set_option maxRecDepth 100000 in
theorem cX_slotOfKey_ok (l : Launch) (D : va_G) (cI cL : ClassId) (ad : Nat → Nat) (σ : Nat → Nat → Int32) (d : Nat) (hd : d < 8) (l9 : List Nat) (hlen : l9.length ≤ 48) (hch : hn_ch (σ 8) (384 + d * 16 + hn_bk (σ 2) 0) l9) : Met l yX_slotOfKey wX_slotOfKey ({ frames := 2, cells := 0, slots := 0, locals := 48 }) (hn_PR D vwCl (hn_ty cI cL) (hn_wX ad cI σ) [.ref (ad 0), .int (nI d)]) (QcRead (hn_find (hn_ns σ) (hn_nm (σ 2) 0) l9)) 0 0 (fun _ => False) := by
  refine Met.ofW (cc := cX_slotOfKey) (maxL := 3) (ret := (some .int)) (by decide) rfl ?_
  intro p e s m args below meth c s₁ B hml hv
  obtain ⟨rfl, hP, hK⟩ := hv
  have hx := B.exec
  have hb := B.bytes
  have hr := B.returns
  have hts0 := atoms_spec (ws := wX_slotOfKey) B.pre
  have hts : ∀ w ∈ hn_tb, w.before _ s = true := fun w hw => hts0 w (List.mem_cons_of_mem _ hw)
  have hown : s.vm.findClass RX = some m.cls := findClass_of_methodNamed B.named
  have hlocks := B.notSynchronized
  have hl := lv_entry [.ref (ad 0), .int (nI d)] (n := 3) (Nat.le_of_ble_eq_true rfl)
  rw [lg_entry_eq]
  generalize (lg_sl [.ref (ad 0), .int (nI d)] ++ List.replicate (3 - (lg_sl [.ref (ad 0), .int (nI d)]).length) Slot.unset).toArray = ls at hl ⊢
  have hl : lv_has ls 3 [(0, .ref (ad 0)), (1, .int (nI d))] := hl
  refine lv_aload_n hx hb dX_slotOfKey_0 rfl (lv_at hl 0 rfl) ?_
  refine va_get (D := D) (ci := 0) (v := .ref (ad 8)) (C := RX) (T := FX) (N := 10) hx hb hts iX hown hK hP 0 rfl rfl 8 (by decide) (hts _ mX_f_bucketLinks) (fun _ h9 => h9) rfl dX_slotOfKey_1 ?_
  refine lv_aload_n hx hb dX_slotOfKey_4 rfl (lv_at hl 0 rfl) ?_
  refine lv_aload_n hx hb dX_slotOfKey_5 rfl (lv_at hl 0 rfl) ?_
  refine va_get (D := D) (ci := 0) (v := .ref (ad 8)) (C := RX) (T := FX) (N := 10) hx hb hts iX hown hK hP 0 rfl rfl 8 (by decide) (hts _ mX_f_bucketLinks) (fun _ h9 => h9) rfl dX_slotOfKey_6 ?_
  refine lv_aload_n hx hb dX_slotOfKey_9 rfl (lv_at hl 0 rfl) ?_
  refine lv_iload_n hx hb dX_slotOfKey_10 rfl (lv_at hl 1 rfl) ?_
  refine W.callR (W.runV (As := [.int (nI d)]) (rest := [.ref (ad 8), .ref (ad 0), .ref (ad 8)]) ⟨hx, hb, hml, hown, hts⟩ (cX_bucketHead_ok l D cI cL ad σ d hd) (cwV 1 hts gX_X_bucketHead rfl rfl rfl (by decide +kernel) ⟨Nat.le_of_ble_eq_true rfl, Nat.le_of_ble_eq_true rfl⟩) (hn_preV hP hK (ci := 0) (q0 := 0) rfl rfl) rfl rfl hl.1 rfl (lv_room (Nat.le_of_ble_eq_true rfl)) dX_slotOfKey_11 ⟨Nat.zero_le _, Nat.zero_le _⟩) ?_
  refine W.eq (g2 := F0 m 14 ls [.int (nI (384 + d * 16 + hn_bk (σ 2) 0)), .ref (ad 8), .ref (ad 0), .ref (ad 8)]) rfl ?_
  have hb16 := hn_bk_lt (σ 2) 0
  refine W.callR (W.runV (As := [.ref (ad 8), .int (nI (384 + d * 16 + hn_bk (σ 2) 0))]) (rest := [.ref (ad 8)]) ⟨hx, hb, hml, hown, hts⟩ (cX_placeBeforeKey_ok l D cI cL ad σ 8 512 (ad 8) (σ 8) rfl (by decide) (by decide) (384 + d * 16 + hn_bk (σ 2) 0) (by omega) l9 hlen hch) (cwV 2 hts gX_X_placeBeforeKey rfl rfl rfl (by decide +kernel) ⟨Nat.le_of_ble_eq_true rfl, Nat.le_of_ble_eq_true rfl⟩) (hn_preV hP hK (ci := 0) (q0 := 0) rfl rfl) rfl rfl hl.1 rfl (lv_room (Nat.le_of_ble_eq_true rfl)) dX_slotOfKey_14 ⟨Nat.zero_le _, Nat.zero_le _⟩) ?_
  refine W.eq (g2 := F0 m 17 ls [.int (nI (hn_pl (hn_ns σ) (hn_nm (σ 2) 0) (384 + d * 16 + hn_bk (σ 2) 0) l9)), .ref (ad 8)]) rfl ?_
  have hpl : hn_pl (hn_ns σ) (hn_nm (σ 2) 0) (384 + d * 16 + hn_bk (σ 2) 0) l9 < 512 := by
    rcases hn_pl_mem (hn_ns σ) (hn_nm (σ 2) 0) l9 (384 + d * 16 + hn_bk (σ 2) 0) with z | z
    · rw [z]; omega
    · exact Nat.lt_trans (hn_ch_lt hch _ z) (by decide)
  refine va_iald hx hb hK hP 8 0 rfl rfl (vp_in_nI (show hn_pl (hn_ns σ) (hn_nm (σ 2) 0) (384 + d * 16 + hn_bk (σ 2) 0) l9 < 512 from hpl) (by omega)) dX_slotOfKey_17 ?_
  rw [nI_clamp (show hn_pl (hn_ns σ) (hn_nm (σ 2) 0) (384 + d * 16 + hn_bk (σ 2) 0) l9 < 2 ^ 31 by omega)]
  rcases hn_pl_next (nm := hn_ns σ) (K := hn_nm (σ 2) 0) hch with ⟨hf, hv9⟩ | ⟨t, hf, hv9, ht9, hge⟩
  · rw [hv9]
    refine lv_istore_n (lv' := [(2, .int (-1)), (0, .ref (ad 0)), (1, .int (nI d))]) hx hb dX_slotOfKey_18 rfl hl (by decide) rfl (fun ls hl => ?_)
    refine lv_iload_n hx hb dX_slotOfKey_19 rfl (lv_at hl 0 rfl) ?_
    refine W.callR (W.runS (As := [.int (-1)]) (rest := []) ⟨hx, hb, hml, hown, hts⟩ (cX_isSlot_ok l (-1)) (cwS 1 hts gX_X_isSlot rfl rfl rfl (by decide +kernel) ⟨Nat.le_of_ble_eq_true rfl, Nat.le_of_ble_eq_true rfl⟩) hn_pre0 rfl rfl hl.1 rfl (lv_room (Nat.le_of_ble_eq_true rfl)) dX_slotOfKey_20 ⟨Nat.zero_le _, Nat.zero_le _⟩) ?_
    refine W.eq (g2 := F0 m 23 ls [.int (hn_isl (-1))]) rfl ?_
    rw [show (hn_isl (-1) : Int32) = 0 from hn_isl_m1]
    refine lv_if_eq (tgt := 38) hx hb dX_slotOfKey_23 (by decide) (fun c_16 => ?_) (fun c_16 => absurd rfl c_16)
    refine lv_iconst (v := (-1)) hx hb dX_slotOfKey_38 (by decide) ?_
    exact W.iret (v := (-1)) hx hb hr (fun t9 ht9 _ => ⟨congrArg (fun z => Outcome.returned (some (Value.int z))) (show ((-1) : Int32) = hn_find (hn_ns σ) (hn_nm (σ 2) 0) l9 from (show (-1 : Int32) = hn_find _ _ _ by unfold hn_find; rw [hf])), ht9⟩) (fun q h => nomatch h) dX_slotOfKey_39
  · rw [hv9]
    have ht8 := hn_ch_lt hch t ht9
    refine lv_istore_n (lv' := [(2, .int (nI t)), (0, .ref (ad 0)), (1, .int (nI d))]) hx hb dX_slotOfKey_18 rfl hl (by decide) rfl (fun ls hl => ?_)
    refine lv_iload_n hx hb dX_slotOfKey_19 rfl (lv_at hl 0 rfl) ?_
    refine W.callR (W.runS (As := [.int (nI t)]) (rest := []) ⟨hx, hb, hml, hown, hts⟩ (cX_isSlot_ok l (nI t)) (cwS 1 hts gX_X_isSlot rfl rfl rfl (by decide +kernel) ⟨Nat.le_of_ble_eq_true rfl, Nat.le_of_ble_eq_true rfl⟩) hn_pre0 rfl rfl hl.1 rfl (lv_room (Nat.le_of_ble_eq_true rfl)) dX_slotOfKey_20 ⟨Nat.zero_le _, Nat.zero_le _⟩) ?_
    refine W.eq (g2 := F0 m 23 ls [.int (hn_isl (nI t))]) rfl ?_
    rw [show (hn_isl (nI t) : Int32) = 1 from hn_isl_n ht8]
    refine lv_if_eq (tgt := 38) hx hb dX_slotOfKey_23 (by decide) (fun c_17 => absurd c_17 (by decide)) (fun c_17 => ?_)
    refine lv_aload_n hx hb dX_slotOfKey_26 rfl (lv_at hl 1 rfl) ?_
    refine lv_iload_n hx hb dX_slotOfKey_27 rfl (lv_at hl 0 rfl) ?_
    refine W.callR (W.runV (As := [.int (nI t)]) (rest := []) ⟨hx, hb, hml, hown, hts⟩ (cX_compareWithKey_ok l D cI cL ad σ t ht8) (cwV 1 hts gX_X_compareWithKey rfl rfl rfl (by decide +kernel) ⟨Nat.le_of_ble_eq_true rfl, Nat.le_of_ble_eq_true rfl⟩) (hn_preV hP hK (ci := 0) (q0 := 0) rfl rfl) rfl rfl hl.1 rfl (lv_room (Nat.le_of_ble_eq_true rfl)) dX_slotOfKey_28 ⟨Nat.zero_le _, Nat.zero_le _⟩) ?_
    refine W.eq (g2 := F0 m 31 ls [.int (hn_cmp (hn_ns σ t) (hn_nm (σ 2) 0))]) rfl ?_
    refine lv_if_ne (tgt := 38) hx hb dX_slotOfKey_31 (by decide) (fun c_18 => ?_) (fun c_18 => ?_)
    · skip
      refine lv_iconst (v := (-1)) hx hb dX_slotOfKey_38 (by decide) ?_
      exact W.iret (v := (-1)) hx hb hr (fun t9 ht9 _ => ⟨congrArg (fun z => Outcome.returned (some (Value.int z))) (show ((-1) : Int32) = hn_find (hn_ns σ) (hn_nm (σ 2) 0) l9 from (show (-1 : Int32) = hn_find _ _ _ by unfold hn_find; rw [hf]; exact (if_neg (fun z => c_18 (hn_cmp_zero.mpr z))).symm)), ht9⟩) (fun q h => nomatch h) dX_slotOfKey_39
    · skip
      refine lv_iload_n hx hb dX_slotOfKey_34 rfl (lv_at hl 0 rfl) ?_
      refine lv_goto (tgt := 39) hx hb dX_slotOfKey_35 (by decide) ?_
      exact W.iret (v := (nI t)) hx hb hr (fun t9 ht9 _ => ⟨congrArg (fun z => Outcome.returned (some (Value.int z))) (show (nI t : Int32) = hn_find (hn_ns σ) (hn_nm (σ 2) 0) l9 from (show nI t = hn_find _ _ _ by unfold hn_find; rw [hf]; exact (if_pos (hn_cmp_zero.mp c_18)).symm)), ht9⟩) (fun q h => nomatch h) dX_slotOfKey_39

set_option maxHeartbeats 4000000 in
set_option maxRecDepth 100000 in
theorem cX_freeSlot_ok (l : Launch) (D : va_G) (cI cL : ClassId) (ad : Nat → Nat) (σ : Nat → Nat → Int32) (d : Nat) (hd : d < 8) : Met l yX_freeSlot wX_freeSlot ({ frames := 0, cells := 0, slots := 0, locals := 0 }) (hn_PR D vwCl (hn_ty cI cL) (hn_wX ad cI σ) [.ref (ad 0), .int (nI d)]) (QcRead (hn_fr (σ 5) (d * 48) 48)) 0 0 (fun _ => False) := by
  refine Met.ofW (cc := cX_freeSlot) (maxL := 4) (ret := (some .int)) (by decide) rfl ?_
  intro p e s m args below meth c s₁ B hml hv
  obtain ⟨rfl, hP, hK⟩ := hv
  have hx := B.exec
  have hb := B.bytes
  have hr := B.returns
  have hts0 := atoms_spec (ws := wX_freeSlot) B.pre
  have hts : ∀ w ∈ hn_tb, w.before _ s = true := fun w hw => hts0 w (List.mem_cons_of_mem _ hw)
  have hown : s.vm.findClass RX = some m.cls := findClass_of_methodNamed B.named
  have hlocks := B.notSynchronized
  have hl := lv_entry [.ref (ad 0), .int (nI d)] (n := 4) (Nat.le_of_ble_eq_true rfl)
  rw [lg_entry_eq]
  generalize (lg_sl [.ref (ad 0), .int (nI d)] ++ List.replicate (4 - (lg_sl [.ref (ad 0), .int (nI d)]).length) Slot.unset).toArray = ls at hl ⊢
  have hl : lv_has ls 4 [(0, .ref (ad 0)), (1, .int (nI d))] := hl
  refine lv_iload_n hx hb dX_freeSlot_0 rfl (lv_at hl 1 rfl) ?_
  refine lv_bipush (v := 48) hx hb dX_freeSlot_1 (by decide) ?_
  refine lv_imul hx hb dX_freeSlot_3 ?_
  rw [show ((nI d) * 48 : Int32) = nI (d * 48) from pk_mul d 48]
  refine lv_istore_n (lv' := [(2, .int (nI (d * 48))), (0, .ref (ad 0)), (1, .int (nI d))]) hx hb dX_freeSlot_4 rfl hl (by decide) rfl (fun ls hl => ?_)
  refine lv_iload_n hx hb dX_freeSlot_5 rfl (lv_at hl 0 rfl) ?_
  refine lv_istore_n (lv' := [(3, .int (nI (d * 48))), (2, .int (nI (d * 48))), (0, .ref (ad 0)), (1, .int (nI d))]) hx hb dX_freeSlot_6 rfl hl (by decide) rfl (fun ls hl => ?_)
  suffices loop : ∀ (k i : Nat), i + k = d * 48 + 48 → hn_fr (σ 5) i k = hn_fr (σ 5) (d * 48) 48 → ∀ ls : Array Slot, lv_has ls 4 [(0, .ref (ad 0)), (2, .int (nI (d * 48))), (3, .int (nI i))] → W p l e (headSpec wX_freeSlot ({ frames := 0, cells := 0, slots := 0, locals := 0 })).room s m [.ref (ad 0), .int (nI d)].toArray below meth c s.heap [] 0 0 (MQ below (QcRead (hn_fr (σ 5) (d * 48) 48)) [.ref (ad 0), .int (nI d)].toArray s 0 0 (fun _ => False)) (F0 m 7 ls []) from loop 48 (d * 48) rfl rfl ls (lv_sub hl [2, 1, 0] rfl)
  intro k
  induction k with
  | zero =>
    intro i hi hf ls hl
    refine lv_iload_n hx hb dX_freeSlot_7 rfl (lv_at hl 2 rfl) ?_
    refine lv_iload_n hx hb dX_freeSlot_8 rfl (lv_at hl 1 rfl) ?_
    refine lv_bipush (v := 48) hx hb dX_freeSlot_9 (by decide) ?_
    refine lv_iadd hx hb dX_freeSlot_11 ?_
    rw [show ((nI (d * 48)) + 48 : Int32) = nI (d * 48 + 48) from nI_add _ 48]
    refine lv_icmp_ge (tgt := 32) hx hb dX_freeSlot_12 (by decide) (fun c_19 => ?_) (fun c_19 => absurd (nI_le (show d * 48 + 48 ≤ i by omega) (by omega)) c_19)
    refine lv_iconst (v := (-1)) hx hb dX_freeSlot_32 (by decide) ?_
    exact W.iret (v := (-1)) hx hb hr (fun t9 ht9 _ => ⟨congrArg (fun z => Outcome.returned (some (Value.int z))) (show ((-1) : Int32) = hn_fr (σ 5) (d * 48) 48 from hf), ht9⟩) (fun q h => nomatch h) dX_freeSlot_33
  | succ k ih =>
    intro i hi hf ls hl
    refine lv_iload_n hx hb dX_freeSlot_7 rfl (lv_at hl 2 rfl) ?_
    refine lv_iload_n hx hb dX_freeSlot_8 rfl (lv_at hl 1 rfl) ?_
    refine lv_bipush (v := 48) hx hb dX_freeSlot_9 (by decide) ?_
    refine lv_iadd hx hb dX_freeSlot_11 ?_
    rw [show ((nI (d * 48)) + 48 : Int32) = nI (d * 48 + 48) from nI_add _ 48]
    refine lv_icmp_ge (tgt := 32) hx hb dX_freeSlot_12 (by decide) (fun c_20 => absurd c_20 (nI_ge (a := i) (b := d * 48 + 48) (by omega) (by omega))) (fun c_20 => ?_)
    refine lv_aload_n hx hb dX_freeSlot_15 rfl (lv_at hl 0 rfl) ?_
    refine va_get (D := D) (ci := 0) (v := .ref (ad 5)) (C := RX) (T := FX) (N := 10) hx hb hts iX hown hK hP 0 rfl rfl 5 (by decide) (hts _ mX_f_lengths) (fun _ h9 => h9) rfl dX_freeSlot_16 ?_
    refine lv_iload_n hx hb dX_freeSlot_19 rfl (lv_at hl 2 rfl) ?_
    refine va_iald hx hb hK hP 5 0 rfl rfl (vp_in_nI (show i < 384 from by omega) (by omega)) dX_freeSlot_20 ?_
    rw [nI_clamp (show i < 2 ^ 31 by omega)]
    refine lv_if_ne (tgt := 26) hx hb dX_freeSlot_21 (by decide) (fun c_21 => ?_) (fun c_21 => ?_)
    · skip
      refine lv_iinc (v := nI (i + 1)) (lv' := [(3, .int (nI (i + 1))), (0, .ref (ad 0)), (2, .int (nI (d * 48)))]) hx hb dX_freeSlot_26 hl (k := 2) rfl (nI_1 i) (by decide) rfl (fun ls hl => ?_)
      refine lv_goto (tgt := 7) hx hb dX_freeSlot_29 (by decide) ?_
      exact ih (i + 1) (by omega) (by rw [← hf]; exact (if_neg c_21).symm) ls (lv_sub hl [1, 2, 0] rfl)
    · skip
      refine lv_iload_n hx hb dX_freeSlot_24 rfl (lv_at hl 2 rfl) ?_
      exact W.iret (v := (nI i)) hx hb hr (fun t9 ht9 _ => ⟨congrArg (fun z => Outcome.returned (some (Value.int z))) (show (nI i : Int32) = hn_fr (σ 5) (d * 48) 48 from (by rw [← hf]; exact (if_pos c_21).symm)), ht9⟩) (fun q h => nomatch h) dX_freeSlot_25

set_option maxHeartbeats 4000000 in
set_option maxRecDepth 100000 in
theorem cX_slotInOrder_ok (l : Launch) (D : va_G) (cI cL : ClassId) (ad : Nat → Nat) (σ : Nat → Nat → Int32) (d : Nat) (hd : d < 8) (l9 : List Nat) (hlen : l9.length ≤ 48) (hcnt : σ 7 d = nI l9.length) (hch : hn_ch (σ 9) (384 + d) l9) (k9 : Nat) (hk9 : k9 < 2 ^ 31) : Met l yX_slotInOrder wX_slotInOrder ({ frames := 1, cells := 0, slots := 0, locals := 20 }) (hn_PR D vwCl (hn_ty cI cL) (hn_wX ad cI σ) [.ref (ad 0), .int (nI d), .int (nI k9)]) (QcRead (hn_nth l9 k9)) 0 0 (fun _ => False) := by
  refine Met.ofW (cc := cX_slotInOrder) (maxL := 5) (ret := (some .int)) (by decide) rfl ?_
  intro p e s m args below meth c s₁ B hml hv
  obtain ⟨rfl, hP, hK⟩ := hv
  have hx := B.exec
  have hb := B.bytes
  have hr := B.returns
  have hts0 := atoms_spec (ws := wX_slotInOrder) B.pre
  have hts : ∀ w ∈ hn_tb, w.before _ s = true := fun w hw => hts0 w (List.mem_cons_of_mem _ hw)
  have hown : s.vm.findClass RX = some m.cls := findClass_of_methodNamed B.named
  have hlocks := B.notSynchronized
  have hl := lv_entry [.ref (ad 0), .int (nI d), .int (nI k9)] (n := 5) (Nat.le_of_ble_eq_true rfl)
  rw [lg_entry_eq]
  generalize (lg_sl [.ref (ad 0), .int (nI d), .int (nI k9)] ++ List.replicate (5 - (lg_sl [.ref (ad 0), .int (nI d), .int (nI k9)]).length) Slot.unset).toArray = ls at hl ⊢
  have hl : lv_has ls 5 [(0, .ref (ad 0)), (1, .int (nI d)), (2, .int (nI k9))] := hl
  refine lv_iload_n hx hb dX_slotInOrder_0 rfl (lv_at hl 2 rfl) ?_
  refine lv_aload_n hx hb dX_slotInOrder_1 rfl (lv_at hl 0 rfl) ?_
  refine va_get (D := D) (ci := 0) (v := .ref (ad 7)) (C := RX) (T := FX) (N := 10) hx hb hts iX hown hK hP 0 rfl rfl 7 (by decide) (hts _ mX_f_counts) (fun _ h9 => h9) rfl dX_slotInOrder_2 ?_
  refine lv_iload_n hx hb dX_slotInOrder_5 rfl (lv_at hl 1 rfl) ?_
  refine va_iald hx hb hK hP 7 0 rfl rfl (vp_in_nI (show d < 8 from hd) (by omega)) dX_slotInOrder_6 ?_
  rw [nI_clamp (show d < 2 ^ 31 by omega)]
  rw [hcnt]
  refine lv_icmp_lt (tgt := 12) hx hb dX_slotInOrder_7 (by decide) (fun c_22 => ?_) (fun c_22 => ?_)
  · skip
    have hk : k9 < l9.length := (nI_ltI (by omega) (by omega)).mp c_22
    refine lv_aload_n hx hb dX_slotInOrder_12 rfl (lv_at hl 0 rfl) ?_
    refine va_get (D := D) (ci := 0) (v := .ref (ad 9)) (C := RX) (T := FX) (N := 10) hx hb hts iX hown hK hP 0 rfl rfl 9 (by decide) (hts _ mX_f_orderLinks) (fun _ h9 => h9) rfl dX_slotInOrder_13 ?_
    refine lv_iload_n hx hb dX_slotInOrder_16 rfl (lv_at hl 1 rfl) ?_
    refine W.callR (W.runS (As := [.int (nI d)]) (rest := [.ref (ad 9)]) ⟨hx, hb, hml, hown, hts⟩ (cX_orderHead_ok l (nI d)) (cwS 1 hts gX_X_orderHead rfl rfl rfl (by decide +kernel) ⟨Nat.le_of_ble_eq_true rfl, Nat.le_of_ble_eq_true rfl⟩) hn_pre0 rfl rfl hl.1 rfl (lv_room (Nat.le_of_ble_eq_true rfl)) dX_slotInOrder_17 ⟨Nat.zero_le _, Nat.zero_le _⟩) ?_
    refine W.eq (g2 := F0 m 20 ls [.int (384 + nI d), .ref (ad 9)]) rfl ?_
    rw [show (384 + nI d : Int32) = nI (384 + d) from nI_add 384 d]
    refine va_iald hx hb hK hP 9 0 rfl rfl (vp_in_nI (show 384 + d < 392 from by omega) (by omega)) dX_slotInOrder_20 ?_
    rw [nI_clamp (show 384 + d < 2 ^ 31 by omega)]
    rw [hn_ch_hd hch (by omega)]
    refine lv_istore_n (lv' := [(3, .int (nI (l9.getD 0 0))), (0, .ref (ad 0)), (1, .int (nI d)), (2, .int (nI k9))]) hx hb dX_slotInOrder_21 rfl hl (by decide) rfl (fun ls hl => ?_)
    refine lv_iconst (v := 0) hx hb dX_slotInOrder_22 (by decide) ?_
    refine lv_istore (lv' := [(4, .int 0), (3, .int (nI (l9.getD 0 0))), (0, .ref (ad 0)), (1, .int (nI d)), (2, .int (nI k9))]) hx hb dX_slotInOrder_23 hl (by decide) rfl (fun ls hl => ?_)
    suffices loop : ∀ (k i : Nat), i + k = k9 → ∀ ls : Array Slot, lv_has ls 5 [(0, .ref (ad 0)), (2, .int (nI k9)), (3, .int (nI (l9.getD i 0))), (4, .int (nI i))] → W p l e (headSpec wX_slotInOrder ({ frames := 1, cells := 0, slots := 0, locals := 20 })).room s m [.ref (ad 0), .int (nI d), .int (nI k9)].toArray below meth c s.heap [] 0 0 (MQ below (QcRead (hn_nth l9 k9)) [.ref (ad 0), .int (nI d), .int (nI k9)].toArray s 0 0 (fun _ => False)) (F0 m 25 ls []) from loop k9 0 (Nat.zero_add _) ls (lv_sub hl [2, 4, 1, 0] rfl)
    intro k
    induction k with
    | zero =>
      intro i hi ls hl
      have hi : k9 = i := by omega
      subst hi
      refine lv_iload hx hb dX_slotInOrder_25 (lv_at hl 3 rfl) ?_
      refine lv_iload_n hx hb dX_slotInOrder_27 rfl (lv_at hl 1 rfl) ?_
      refine lv_icmp_ge (tgt := 51) hx hb dX_slotInOrder_28 (by decide) (fun c_23 => ?_) (fun c_23 => absurd (Int32.le_refl _) c_23)
      refine lv_iload_n hx hb dX_slotInOrder_51 rfl (lv_at hl 2 rfl) ?_
      exact W.iret (v := (nI (l9.getD k9 0))) hx hb hr (fun t9 ht9 _ => ⟨congrArg (fun z => Outcome.returned (some (Value.int z))) (show (nI (l9.getD k9 0) : Int32) = hn_nth l9 k9 from (if_neg (Nat.not_le.mpr hk)).symm), ht9⟩) (fun q h => nomatch h) dX_slotInOrder_52
    | succ k ih =>
      intro i hi ls hl
      refine lv_iload hx hb dX_slotInOrder_25 (lv_at hl 3 rfl) ?_
      refine lv_iload_n hx hb dX_slotInOrder_27 rfl (lv_at hl 1 rfl) ?_
      refine lv_icmp_ge (tgt := 51) hx hb dX_slotInOrder_28 (by decide) (fun c_24 => absurd c_24 (nI_ge (a := i) (b := k9) (by omega) (by omega))) (fun c_24 => ?_)
      have hg := hn_ch_gl hch i (by omega)
      refine lv_iload_n hx hb dX_slotInOrder_31 rfl (lv_at hl 2 rfl) ?_
      refine W.callR (W.runS (As := [.int (nI (l9.getD i 0))]) (rest := []) ⟨hx, hb, hml, hown, hts⟩ (cX_isSlot_ok l (nI (l9.getD i 0))) (cwS 1 hts gX_X_isSlot rfl rfl rfl (by decide +kernel) ⟨Nat.le_of_ble_eq_true rfl, Nat.le_of_ble_eq_true rfl⟩) hn_pre0 rfl rfl hl.1 rfl (lv_room (Nat.le_of_ble_eq_true rfl)) dX_slotInOrder_32 ⟨Nat.zero_le _, Nat.zero_le _⟩) ?_
      refine W.eq (g2 := F0 m 35 ls [.int (hn_isl (nI (l9.getD i 0)))]) rfl ?_
      rw [show (hn_isl (nI (l9.getD i 0)) : Int32) = 1 from hn_isl_n hg]
      refine lv_if_eq (tgt := 51) hx hb dX_slotInOrder_35 (by decide) (fun c_25 => absurd c_25 (by decide)) (fun c_25 => ?_)
      refine lv_aload_n hx hb dX_slotInOrder_38 rfl (lv_at hl 0 rfl) ?_
      refine va_get (D := D) (ci := 0) (v := .ref (ad 9)) (C := RX) (T := FX) (N := 10) hx hb hts iX hown hK hP 0 rfl rfl 9 (by decide) (hts _ mX_f_orderLinks) (fun _ h9 => h9) rfl dX_slotInOrder_39 ?_
      refine lv_iload_n hx hb dX_slotInOrder_42 rfl (lv_at hl 2 rfl) ?_
      refine va_iald hx hb hK hP 9 0 rfl rfl (vp_in_nI (show l9.getD i 0 < 392 from by omega) (by omega)) dX_slotInOrder_43 ?_
      rw [nI_clamp (show l9.getD i 0 < 2 ^ 31 by omega)]
      rw [hn_ch_nx hch i (by omega)]
      refine lv_istore_n (lv' := [(3, .int (nI (l9.getD (i + 1) 0))), (0, .ref (ad 0)), (2, .int (nI k9)), (4, .int (nI i))]) hx hb dX_slotInOrder_44 rfl hl (by decide) rfl (fun ls hl => ?_)
      refine lv_iinc (v := nI (i + 1)) (lv' := [(4, .int (nI (i + 1))), (3, .int (nI (l9.getD (i + 1) 0))), (0, .ref (ad 0)), (2, .int (nI k9))]) hx hb dX_slotInOrder_45 hl (k := 3) rfl (nI_1 i) (by decide) rfl (fun ls hl => ?_)
      refine lv_goto (tgt := 25) hx hb dX_slotInOrder_48 (by decide) ?_
      exact ih (i + 1) (by omega) ls (lv_sub hl [2, 3, 1, 0] rfl)
  · skip
    refine lv_iconst (v := (-1)) hx hb dX_slotInOrder_10 (by decide) ?_
    exact W.iret (v := (-1)) hx hb hr (fun t9 ht9 _ => ⟨congrArg (fun z => Outcome.returned (some (Value.int z))) (show ((-1) : Int32) = hn_nth l9 k9 from (show (-1 : Int32) = hn_nth l9 k9 from (if_pos (Nat.not_lt.mp (fun z => c_22 (nI_lt z (by omega))))).symm)), ht9⟩) (fun q h => nomatch h) dX_slotInOrder_11
end
section
set_option maxHeartbeats 4000000 in
set_option maxRecDepth 100000 in
theorem cM_thrown_ok (l : Launch) (D : va_G) (cI cL : ClassId) (am : Nat → Nat) (τ : Nat → Nat → Int32)  : Met l yM_thrown wM_thrown ({ frames := 0, cells := 0, slots := 0, locals := 0 }) (hn_PR D vwCl (hn_ty cI cL) (hn_wM am cI τ) [.ref (am 0)]) (QcRead (τ 0 0)) 0 0 (fun _ => False) := by
  refine Met.ofW (cc := cM_thrown) (maxL := 1) (ret := (some .int)) (by decide) rfl ?_
  intro p e s m args below meth c s₁ B hml hv
  obtain ⟨rfl, hP, hK⟩ := hv
  have hx := B.exec
  have hb := B.bytes
  have hr := B.returns
  have hts0 := atoms_spec (ws := wM_thrown) B.pre
  have hts : ∀ w ∈ hn_tb, w.before _ s = true := fun w hw => hts0 w (List.mem_cons_of_mem _ hw)
  have hown : s.vm.findClass RM = some m.cls := findClass_of_methodNamed B.named
  have hlocks := B.notSynchronized
  have hl := lv_entry [.ref (am 0)] (n := 1) (Nat.le_of_ble_eq_true rfl)
  rw [lg_entry_eq]
  generalize (lg_sl [.ref (am 0)] ++ List.replicate (1 - (lg_sl [.ref (am 0)]).length) Slot.unset).toArray = ls at hl ⊢
  have hl : lv_has ls 1 [(0, .ref (am 0))] := hl
  refine lv_aload_n hx hb dM_thrown_0 rfl (lv_at hl 0 rfl) ?_
  refine va_get (D := D) (ci := 1) (v := .int (τ 0 0)) (C := RM) (T := FM) (N := 8) hx hb hts iM hown hK hP 0 rfl rfl 0 (by decide) (hts _ mM_f_thrown) (fun _ h9 => h9) rfl dM_thrown_1 ?_
  exact W.iret (v := (τ 0 0)) hx hb hr (fun t9 ht9 _ => ⟨congrArg (fun z => Outcome.returned (some (Value.int z))) (show (τ 0 0 : Int32) = τ 0 0 from rfl), ht9⟩) (fun q h => nomatch h) dM_thrown_4

set_option maxHeartbeats 4000000 in
set_option maxRecDepth 100000 in
theorem cM_isDirectory_ok (l : Launch) (x : Int32) : Met l yM_isDirectory wM_isDirectory ({ frames := 0, cells := 0, slots := 0, locals := 0 }) (va_Pc [.int x] (fun _ => True)) (hn_QE (hn_tf (hn_dir x))) 0 0 (fun _ => False) := by
  refine Met.ofW (cc := cM_isDirectory) (maxL := 1) (ret := (some .boolean)) (by decide) rfl ?_
  intro p e s m args below meth c s₁ B hml hv
  obtain ⟨rfl, -⟩ := hv
  have hx := B.exec
  have hb := B.bytes
  have hr := B.returns
  have hts0 := atoms_spec (ws := wM_isDirectory) B.pre
  have hts : ∀ w ∈ hn_tb, w.before _ s = true := fun w hw => hts0 w (List.mem_cons_of_mem _ hw)
  have hown : s.vm.findClass RM = some m.cls := findClass_of_methodNamed B.named
  have hlocks := B.notSynchronized
  have hl := lv_entry [.int x] (n := 1) (Nat.le_of_ble_eq_true rfl)
  rw [lg_entry_eq]
  generalize (lg_sl [.int x] ++ List.replicate (1 - (lg_sl [.int x]).length) Slot.unset).toArray = ls at hl ⊢
  have hl : lv_has ls 1 [(0, .int x)] := hl
  refine lv_iload_n hx hb dM_isDirectory_0 rfl (lv_at hl 0 rfl) ?_
  refine lv_if_lt (tgt := 14) hx hb dM_isDirectory_1 (by decide) (fun c_1 => ?_) (fun c_1 => ?_)
  · skip
    refine lv_iconst (v := 0) hx hb dM_isDirectory_14 (by decide) ?_
    exact W.zret (v := 0) hx hb hr rfl (fun t9 ht9 _ => ⟨0, Or.inr ⟨rfl, hn_dir_no1 c_1⟩, rfl, ht9⟩) (fun q h => nomatch h) dM_isDirectory_15
  · skip
    refine lv_iload_n hx hb dM_isDirectory_4 rfl (lv_at hl 0 rfl) ?_
    refine lv_bipush (v := 8) hx hb dM_isDirectory_5 (by decide) ?_
    refine lv_icmp_ge (tgt := 14) hx hb dM_isDirectory_7 (by decide) (fun c_2 => ?_) (fun c_2 => ?_)
    · skip
      refine lv_iconst (v := 0) hx hb dM_isDirectory_14 (by decide) ?_
      exact W.zret (v := 0) hx hb hr rfl (fun t9 ht9 _ => ⟨0, Or.inr ⟨rfl, hn_dir_no2 c_2⟩, rfl, ht9⟩) (fun q h => nomatch h) dM_isDirectory_15
    · skip
      refine lv_iconst (v := 1) hx hb dM_isDirectory_10 (by decide) ?_
      refine lv_goto (tgt := 15) hx hb dM_isDirectory_11 (by decide) ?_
      exact W.zret (v := 1) hx hb hr rfl (fun t9 ht9 _ => ⟨1, Or.inl ⟨rfl, hn_dir_yes c_1 c_2⟩, rfl, ht9⟩) (fun q h => nomatch h) dM_isDirectory_15

set_option maxHeartbeats 4000000 in
set_option maxRecDepth 100000 in
theorem cM_isId_ok (l : Launch) (x : Int32) : Met l yM_isId wM_isId ({ frames := 0, cells := 0, slots := 0, locals := 0 }) (va_Pc [.int x] (fun _ => True)) (hn_QE (hn_tf (hn_isid x))) 0 0 (fun _ => False) := by
  refine Met.ofW (cc := cM_isId) (maxL := 1) (ret := (some .boolean)) (by decide) rfl ?_
  intro p e s m args below meth c s₁ B hml hv
  obtain ⟨rfl, -⟩ := hv
  have hx := B.exec
  have hb := B.bytes
  have hr := B.returns
  have hts0 := atoms_spec (ws := wM_isId) B.pre
  have hts : ∀ w ∈ hn_tb, w.before _ s = true := fun w hw => hts0 w (List.mem_cons_of_mem _ hw)
  have hown : s.vm.findClass RM = some m.cls := findClass_of_methodNamed B.named
  have hlocks := B.notSynchronized
  have hl := lv_entry [.int x] (n := 1) (Nat.le_of_ble_eq_true rfl)
  rw [lg_entry_eq]
  generalize (lg_sl [.int x] ++ List.replicate (1 - (lg_sl [.int x]).length) Slot.unset).toArray = ls at hl ⊢
  have hl : lv_has ls 1 [(0, .int x)] := hl
  refine lv_iload_n hx hb dM_isId_0 rfl (lv_at hl 0 rfl) ?_
  refine lv_if_le (tgt := 14) hx hb dM_isId_1 (by decide) (fun c_3 => ?_) (fun c_3 => ?_)
  · skip
    refine lv_iconst (v := 0) hx hb dM_isId_14 (by decide) ?_
    exact W.zret (v := 0) hx hb hr rfl (fun t9 ht9 _ => ⟨0, Or.inr ⟨rfl, fun z => absurd z.1 (Int32.not_lt.mpr c_3)⟩, rfl, ht9⟩) (fun q h => nomatch h) dM_isId_15
  · skip
    refine lv_iload_n hx hb dM_isId_4 rfl (lv_at hl 0 rfl) ?_
    refine lv_ldc (v := 65536) hx hb hown (hts _ mM_k_65536) dM_isId_5 ?_
    refine lv_icmp_ge (tgt := 14) hx hb dM_isId_7 (by decide) (fun c_4 => ?_) (fun c_4 => ?_)
    · skip
      refine lv_iconst (v := 0) hx hb dM_isId_14 (by decide) ?_
      exact W.zret (v := 0) hx hb hr rfl (fun t9 ht9 _ => ⟨0, Or.inr ⟨rfl, fun z => absurd z.2 (Int32.not_lt.mpr c_4)⟩, rfl, ht9⟩) (fun q h => nomatch h) dM_isId_15
    · skip
      refine lv_iconst (v := 1) hx hb dM_isId_10 (by decide) ?_
      refine lv_goto (tgt := 15) hx hb dM_isId_11 (by decide) ?_
      exact W.zret (v := 1) hx hb hr rfl (fun t9 ht9 _ => ⟨1, Or.inl ⟨rfl, ⟨Int32.not_le.mp c_3, Int32.not_le.mp c_4⟩⟩, rfl, ht9⟩) (fun q h => nomatch h) dM_isId_15

set_option maxHeartbeats 4000000 in
set_option maxRecDepth 100000 in
theorem cM_isName_ok (l : Launch) (D : va_G) (cI cL : ClassId) (am : Nat → Nat) (τ : Nat → Nat → Int32) (h : Nat → Nat) (hR1 : ∀ k, k < 20 → τ 1 k = nI (h k)) (hR2 : ∀ k, h k < 256) (x : Int32) : Met l yM_isName wM_isName ({ frames := 0, cells := 0, slots := 0, locals := 0 }) (hn_PR D vwCl (hn_ty cI cL) (hn_wM am cI τ) [.ref (am 0), .int x]) (hn_QE (hn_tf (hn_name h x))) 0 0 (fun _ => False) := by
  refine Met.ofW (cc := cM_isName) (maxL := 4) (ret := (some .boolean)) (by decide) rfl ?_
  intro p e s m args below meth c s₁ B hml hv
  obtain ⟨rfl, hP, hK⟩ := hv
  have hx := B.exec
  have hb := B.bytes
  have hr := B.returns
  have hts0 := atoms_spec (ws := wM_isName) B.pre
  have hts : ∀ w ∈ hn_tb, w.before _ s = true := fun w hw => hts0 w (List.mem_cons_of_mem _ hw)
  have hown : s.vm.findClass RM = some m.cls := findClass_of_methodNamed B.named
  have hlocks := B.notSynchronized
  have hl := lv_entry [.ref (am 0), .int x] (n := 4) (Nat.le_of_ble_eq_true rfl)
  rw [lg_entry_eq]
  generalize (lg_sl [.ref (am 0), .int x] ++ List.replicate (4 - (lg_sl [.ref (am 0), .int x]).length) Slot.unset).toArray = ls at hl ⊢
  have hl : lv_has ls 4 [(0, .ref (am 0)), (1, .int x)] := hl
  refine lv_iload_n hx hb dM_isName_0 rfl (lv_at hl 1 rfl) ?_
  refine lv_if_le (tgt := 14) hx hb dM_isName_1 (by decide) (fun c_5 => ?_) (fun c_5 => ?_)
  · skip
    refine lv_iconst (v := 0) hx hb dM_isName_14 (by decide) ?_
    refine lv_istore_n (lv' := [(2, .int 0), (0, .ref (am 0)), (1, .int x)]) hx hb dM_isName_15 rfl hl (by decide) rfl (fun ls hl => ?_)
    refine lv_iconst (v := 0) hx hb dM_isName_16 (by decide) ?_
    refine lv_istore_n (lv' := [(3, .int 0), (2, .int 0), (0, .ref (am 0)), (1, .int x)]) hx hb dM_isName_17 rfl hl (by decide) rfl (fun ls hl => ?_)
    refine lv_iload_n hx hb dM_isName_18 rfl (lv_at hl 0 rfl) ?_
    refine lv_iload_n hx hb dM_isName_19 rfl (lv_at hl 3 rfl) ?_
    refine lv_icmp_ge (tgt := 59) hx hb dM_isName_20 (by decide) (fun c_6 => ?_) (fun c_6 => ?_)
    · skip
      refine lv_iload_n hx hb dM_isName_59 rfl (lv_at hl 1 rfl) ?_
      exact W.zret (v := 0) hx hb hr rfl (fun t9 ht9 _ => ⟨0, Or.inr ⟨rfl, hn_name_no1 c_5⟩, rfl, ht9⟩) (fun q h => nomatch h) dM_isName_60
    · skip
      refine lv_iload_n hx hb dM_isName_23 rfl (lv_at hl 1 rfl) ?_
      refine lv_if_eq (tgt := 59) hx hb dM_isName_24 (by decide) (fun c_7 => ?_) (fun c_7 => absurd rfl c_7)
      refine lv_iload_n hx hb dM_isName_59 rfl (lv_at hl 1 rfl) ?_
      exact W.zret (v := 0) hx hb hr rfl (fun t9 ht9 _ => ⟨0, Or.inr ⟨rfl, hn_name_no1 c_5⟩, rfl, ht9⟩) (fun q h => nomatch h) dM_isName_60
  · skip
    refine lv_iload_n hx hb dM_isName_4 rfl (lv_at hl 1 rfl) ?_
    refine lv_bipush (v := 21) hx hb dM_isName_5 (by decide) ?_
    refine lv_icmp_ge (tgt := 14) hx hb dM_isName_7 (by decide) (fun c_8 => ?_) (fun c_8 => ?_)
    · skip
      refine lv_iconst (v := 0) hx hb dM_isName_14 (by decide) ?_
      refine lv_istore_n (lv' := [(2, .int 0), (0, .ref (am 0)), (1, .int x)]) hx hb dM_isName_15 rfl hl (by decide) rfl (fun ls hl => ?_)
      refine lv_iconst (v := 0) hx hb dM_isName_16 (by decide) ?_
      refine lv_istore_n (lv' := [(3, .int 0), (2, .int 0), (0, .ref (am 0)), (1, .int x)]) hx hb dM_isName_17 rfl hl (by decide) rfl (fun ls hl => ?_)
      refine lv_iload_n hx hb dM_isName_18 rfl (lv_at hl 0 rfl) ?_
      refine lv_iload_n hx hb dM_isName_19 rfl (lv_at hl 3 rfl) ?_
      refine lv_icmp_ge (tgt := 59) hx hb dM_isName_20 (by decide) (fun c_9 => ?_) (fun c_9 => ?_)
      · skip
        refine lv_iload_n hx hb dM_isName_59 rfl (lv_at hl 1 rfl) ?_
        exact W.zret (v := 0) hx hb hr rfl (fun t9 ht9 _ => ⟨0, Or.inr ⟨rfl, hn_name_no2 c_8⟩, rfl, ht9⟩) (fun q h => nomatch h) dM_isName_60
      · skip
        refine lv_iload_n hx hb dM_isName_23 rfl (lv_at hl 1 rfl) ?_
        refine lv_if_eq (tgt := 59) hx hb dM_isName_24 (by decide) (fun c_10 => ?_) (fun c_10 => absurd rfl c_10)
        refine lv_iload_n hx hb dM_isName_59 rfl (lv_at hl 1 rfl) ?_
        exact W.zret (v := 0) hx hb hr rfl (fun t9 ht9 _ => ⟨0, Or.inr ⟨rfl, hn_name_no2 c_8⟩, rfl, ht9⟩) (fun q h => nomatch h) dM_isName_60
    · skip
      obtain ⟨j9, e9, hj1, hj2⟩ := hn_name_r c_5 c_8
      subst e9
      refine lv_iconst (v := 1) hx hb dM_isName_10 (by decide) ?_
      refine lv_goto (tgt := 15) hx hb dM_isName_11 (by decide) ?_
      refine lv_istore_n (lv' := [(2, .int 1), (0, .ref (am 0)), (1, .int (nI j9))]) hx hb dM_isName_15 rfl hl (by decide) rfl (fun ls hl => ?_)
      refine lv_iconst (v := 0) hx hb dM_isName_16 (by decide) ?_
      refine lv_istore_n (lv' := [(3, .int 0), (2, .int 1), (0, .ref (am 0)), (1, .int (nI j9))]) hx hb dM_isName_17 rfl hl (by decide) rfl (fun ls hl => ?_)
      suffices loop : ∀ (k i : Nat), i + k = j9 → (∀ j, j < i → h j ≠ 0 ∧ h j ≠ 47) → ∀ ls : Array Slot, lv_has ls 4 [(0, .ref (am 0)), (1, .int (nI j9)), (2, .int 1), (3, .int (nI i))] → W p l e (headSpec wM_isName ({ frames := 0, cells := 0, slots := 0, locals := 0 })).room s m [.ref (am 0), .int (nI j9)].toArray below meth c s.heap [] 0 0 (MQ below (hn_QE (hn_tf (hn_name h (nI j9)))) [.ref (am 0), .int (nI j9)].toArray s 0 0 (fun _ => False)) (F0 m 18 ls []) from loop j9 0 (Nat.zero_add _) (fun j z => absurd z (Nat.not_lt_zero _)) ls (lv_sub hl [2, 3, 1, 0] rfl)
      intro k
      induction k with
      | zero =>
        intro i hi hj ls hl
        have hi : j9 = i := by omega
        subst hi
        refine lv_iload_n hx hb dM_isName_18 rfl (lv_at hl 3 rfl) ?_
        refine lv_iload_n hx hb dM_isName_19 rfl (lv_at hl 1 rfl) ?_
        refine lv_icmp_ge (tgt := 59) hx hb dM_isName_20 (by decide) (fun c_11 => ?_) (fun c_11 => absurd (Int32.le_refl _) c_11)
        refine lv_iload_n hx hb dM_isName_59 rfl (lv_at hl 2 rfl) ?_
        exact W.zret (v := 1) hx hb hr rfl (fun t9 ht9 _ => ⟨1, Or.inl ⟨rfl, j9, rfl, hj1, hj2, hj⟩, rfl, ht9⟩) (fun q h => nomatch h) dM_isName_60
      | succ k ih =>
        intro i hi hj ls hl
        refine lv_iload_n hx hb dM_isName_18 rfl (lv_at hl 3 rfl) ?_
        refine lv_iload_n hx hb dM_isName_19 rfl (lv_at hl 1 rfl) ?_
        refine lv_icmp_ge (tgt := 59) hx hb dM_isName_20 (by decide) (fun c_12 => absurd c_12 (nI_ge (a := i) (b := j9) (by omega) (by omega))) (fun c_12 => ?_)
        refine lv_iload_n hx hb dM_isName_23 rfl (lv_at hl 2 rfl) ?_
        refine lv_if_eq (tgt := 59) hx hb dM_isName_24 (by decide) (fun c_13 => absurd c_13 (by decide)) (fun c_13 => ?_)
        have hb9 := hR2 i
        refine lv_aload_n hx hb dM_isName_27 rfl (lv_at hl 0 rfl) ?_
        refine va_get (D := D) (ci := 1) (v := .ref (am 1)) (C := RM) (T := FM) (N := 8) hx hb hts iM hown hK hP 0 rfl rfl 1 (by decide) (hts _ mM_f_hand) (fun _ h9 => h9) rfl dM_isName_28 ?_
        refine lv_iload_n hx hb dM_isName_31 rfl (lv_at hl 3 rfl) ?_
        refine va_iald hx hb hK hP 1 0 rfl rfl (vp_in_nI (show i < 20 from by omega) (by omega)) dM_isName_32 ?_
        rw [nI_clamp (show i < 2 ^ 31 by omega)]
        rw [show τ 1 i = nI (h i) from hR1 i (by omega)]
        refine lv_if_eq (tgt := 51) hx hb dM_isName_33 (by decide) (fun c_14 => ?_) (fun c_14 => ?_)
        · skip
          refine lv_iconst (v := 0) hx hb dM_isName_51 (by decide) ?_
          refine lv_istore_n (lv' := [(2, .int 0), (0, .ref (am 0)), (1, .int (nI j9)), (3, .int (nI i))]) hx hb dM_isName_52 rfl hl (by decide) rfl (fun ls hl => ?_)
          refine lv_iinc (v := nI (i + 1)) (lv' := [(3, .int (nI (i + 1))), (2, .int 0), (0, .ref (am 0)), (1, .int (nI j9))]) hx hb dM_isName_53 hl (k := 3) rfl (nI_1 i) (by decide) rfl (fun ls hl => ?_)
          refine lv_goto (tgt := 18) hx hb dM_isName_56 (by decide) ?_
          refine lv_iload_n hx hb dM_isName_18 rfl (lv_at hl 0 rfl) ?_
          refine lv_iload_n hx hb dM_isName_19 rfl (lv_at hl 3 rfl) ?_
          refine lv_icmp_ge (tgt := 59) hx hb dM_isName_20 (by decide) (fun c_15 => ?_) (fun c_15 => ?_)
          · skip
            refine lv_iload_n hx hb dM_isName_59 rfl (lv_at hl 1 rfl) ?_
            exact W.zret (v := 0) hx hb hr rfl (fun t9 ht9 _ => ⟨0, Or.inr ⟨rfl, hn_name_no3 (k := i) hj2 (by omega) (Or.inl ((hn_b0 hb9).mp c_14))⟩, rfl, ht9⟩) (fun q h => nomatch h) dM_isName_60
          · skip
            refine lv_iload_n hx hb dM_isName_23 rfl (lv_at hl 1 rfl) ?_
            refine lv_if_eq (tgt := 59) hx hb dM_isName_24 (by decide) (fun c_16 => ?_) (fun c_16 => absurd rfl c_16)
            refine lv_iload_n hx hb dM_isName_59 rfl (lv_at hl 1 rfl) ?_
            exact W.zret (v := 0) hx hb hr rfl (fun t9 ht9 _ => ⟨0, Or.inr ⟨rfl, hn_name_no3 (k := i) hj2 (by omega) (Or.inl ((hn_b0 hb9).mp c_14))⟩, rfl, ht9⟩) (fun q h => nomatch h) dM_isName_60
        · skip
          refine lv_aload_n hx hb dM_isName_36 rfl (lv_at hl 0 rfl) ?_
          refine va_get (D := D) (ci := 1) (v := .ref (am 1)) (C := RM) (T := FM) (N := 8) hx hb hts iM hown hK hP 0 rfl rfl 1 (by decide) (hts _ mM_f_hand) (fun _ h9 => h9) rfl dM_isName_37 ?_
          refine lv_iload_n hx hb dM_isName_40 rfl (lv_at hl 3 rfl) ?_
          refine va_iald hx hb hK hP 1 0 rfl rfl (vp_in_nI (show i < 20 from by omega) (by omega)) dM_isName_41 ?_
          rw [nI_clamp (show i < 2 ^ 31 by omega)]
          rw [show τ 1 i = nI (h i) from hR1 i (by omega)]
          refine lv_bipush (v := 47) hx hb dM_isName_42 (by decide) ?_
          refine lv_icmp_eq (tgt := 51) hx hb dM_isName_44 (by decide) (fun c_17 => ?_) (fun c_17 => ?_)
          · skip
            refine lv_iconst (v := 0) hx hb dM_isName_51 (by decide) ?_
            refine lv_istore_n (lv' := [(2, .int 0), (0, .ref (am 0)), (1, .int (nI j9)), (3, .int (nI i))]) hx hb dM_isName_52 rfl hl (by decide) rfl (fun ls hl => ?_)
            refine lv_iinc (v := nI (i + 1)) (lv' := [(3, .int (nI (i + 1))), (2, .int 0), (0, .ref (am 0)), (1, .int (nI j9))]) hx hb dM_isName_53 hl (k := 3) rfl (nI_1 i) (by decide) rfl (fun ls hl => ?_)
            refine lv_goto (tgt := 18) hx hb dM_isName_56 (by decide) ?_
            refine lv_iload_n hx hb dM_isName_18 rfl (lv_at hl 0 rfl) ?_
            refine lv_iload_n hx hb dM_isName_19 rfl (lv_at hl 3 rfl) ?_
            refine lv_icmp_ge (tgt := 59) hx hb dM_isName_20 (by decide) (fun c_18 => ?_) (fun c_18 => ?_)
            · skip
              refine lv_iload_n hx hb dM_isName_59 rfl (lv_at hl 1 rfl) ?_
              exact W.zret (v := 0) hx hb hr rfl (fun t9 ht9 _ => ⟨0, Or.inr ⟨rfl, hn_name_no3 (k := i) hj2 (by omega) (Or.inr ((hn_b47 hb9).mp c_17))⟩, rfl, ht9⟩) (fun q h => nomatch h) dM_isName_60
            · skip
              refine lv_iload_n hx hb dM_isName_23 rfl (lv_at hl 1 rfl) ?_
              refine lv_if_eq (tgt := 59) hx hb dM_isName_24 (by decide) (fun c_19 => ?_) (fun c_19 => absurd rfl c_19)
              refine lv_iload_n hx hb dM_isName_59 rfl (lv_at hl 1 rfl) ?_
              exact W.zret (v := 0) hx hb hr rfl (fun t9 ht9 _ => ⟨0, Or.inr ⟨rfl, hn_name_no3 (k := i) hj2 (by omega) (Or.inr ((hn_b47 hb9).mp c_17))⟩, rfl, ht9⟩) (fun q h => nomatch h) dM_isName_60
          · skip
            refine lv_iconst (v := 1) hx hb dM_isName_47 (by decide) ?_
            refine lv_goto (tgt := 52) hx hb dM_isName_48 (by decide) ?_
            refine lv_istore_n (lv' := [(2, .int 1), (0, .ref (am 0)), (1, .int (nI j9)), (3, .int (nI i))]) hx hb dM_isName_52 rfl hl (by decide) rfl (fun ls hl => ?_)
            refine lv_iinc (v := nI (i + 1)) (lv' := [(3, .int (nI (i + 1))), (2, .int 1), (0, .ref (am 0)), (1, .int (nI j9))]) hx hb dM_isName_53 hl (k := 3) rfl (nI_1 i) (by decide) rfl (fun ls hl => ?_)
            refine lv_goto (tgt := 18) hx hb dM_isName_56 (by decide) ?_
            exact ih (i + 1) (by omega) (lt_s hj ⟨fun z => c_14 ((hn_b0 hb9).mpr z), fun z => c_17 ((hn_b47 hb9).mpr z)⟩) ls (lv_sub hl [2, 3, 1, 0] rfl)

set_option maxHeartbeats 4000000 in
set_option maxRecDepth 100000 in
theorem cM_compare_ok (l : Launch) (D : va_G) (cI cL : ClassId) (am : Nat → Nat) (τ : Nat → Nat → Int32) (h : Nat → Nat) (hr1 : ∀ k, k < 20 → τ 1 k = nI (h k)) (hh : ∀ k, h k < 256) (n : Nat) (h1 : 1 ≤ n) (h2 : n ≤ 20) (hz : ∀ k, k < n → h k ≠ 0) (i9 : Nat) (hi9 : i9 < 384) (e9 : hn_E) (hw : hn_wf e9) (hr4 : τ 4 i9 = nI e9.2.1) (hr5 : ∀ k, k < e9.2.1 → τ 5 (20 * i9 + k) = nI (hn_kb e9.1 k)) : Met l yM_compare wM_compare ({ frames := 0, cells := 0, slots := 0, locals := 0 }) (hn_PR D vwCl (hn_ty cI cL) (hn_wM am cI τ) [.ref (am 0), .int (nI n), .int (nI i9)]) (hn_QE (hn_cmpP e9.1 (hn_num h n))) 0 0 (fun _ => False) := by
  refine Met.ofW (cc := cM_compare) (maxL := 5) (ret := (some .int)) (by decide) rfl ?_
  intro p e s m args below meth c s₁ B hml hv
  obtain ⟨rfl, hP, hK⟩ := hv
  have hx := B.exec
  have hb := B.bytes
  have hr := B.returns
  have hts0 := atoms_spec (ws := wM_compare) B.pre
  have hts : ∀ w ∈ hn_tb, w.before _ s = true := fun w hw => hts0 w (List.mem_cons_of_mem _ hw)
  have hown : s.vm.findClass RM = some m.cls := findClass_of_methodNamed B.named
  have hlocks := B.notSynchronized
  have hl := lv_entry [.ref (am 0), .int (nI n), .int (nI i9)] (n := 5) (Nat.le_of_ble_eq_true rfl)
  rw [lg_entry_eq]
  generalize (lg_sl [.ref (am 0), .int (nI n), .int (nI i9)] ++ List.replicate (5 - (lg_sl [.ref (am 0), .int (nI n), .int (nI i9)]).length) Slot.unset).toArray = ls at hl ⊢
  have hl : lv_has ls 5 [(0, .ref (am 0)), (1, .int (nI n)), (2, .int (nI i9))] := hl
  have hL1 := hw.1
  have hL2 := hw.2.1
  refine lv_iconst (v := 0) hx hb dM_compare_0 (by decide) ?_
  refine lv_istore_n (lv' := [(3, .int 0), (0, .ref (am 0)), (1, .int (nI n)), (2, .int (nI i9))]) hx hb dM_compare_1 rfl hl (by decide) rfl (fun ls hl => ?_)
  suffices loop : ∀ (f k : Nat), k + f = 20 → k ≤ n → k ≤ e9.2.1 → (∀ j, j < k → h j = hn_kb e9.1 j) → ∀ ls : Array Slot, lv_has ls 5 [(0, .ref (am 0)), (1, .int (nI n)), (2, .int (nI i9)), (3, .int (nI k))] → W p l e (headSpec wM_compare ({ frames := 0, cells := 0, slots := 0, locals := 0 })).room s m [.ref (am 0), .int (nI n), .int (nI i9)].toArray below meth c s.heap [] 0 0 (MQ below (hn_QE (hn_cmpP e9.1 (hn_num h n))) [.ref (am 0), .int (nI n), .int (nI i9)].toArray s 0 0 (fun _ => False)) (F0 m 2 ls []) from loop 20 0 rfl (Nat.zero_le _) (Nat.zero_le _) (fun j z => absurd z (Nat.not_lt_zero _)) ls (lv_sub hl [1, 2, 3, 0] rfl)
  intro f
  induction f with
  | zero =>
    intro k hf hk1 hk2 hj ls hl
    refine lv_iload_n hx hb dM_compare_2 rfl (lv_at hl 3 rfl) ?_
    refine lv_iload_n hx hb dM_compare_3 rfl (lv_at hl 1 rfl) ?_
    refine lv_icmp_ge (tgt := 51) hx hb dM_compare_4 (by decide) (fun c_20 => ?_) (fun c_20 => ?_)
    · skip
      have hkn : k = n := by have := (nI_leI (by omega) (by omega)).mp c_20; omega
      refine lv_iload_n hx hb dM_compare_51 rfl (lv_at hl 1 rfl) ?_
      refine lv_aload_n hx hb dM_compare_52 rfl (lv_at hl 0 rfl) ?_
      refine va_get (D := D) (ci := 1) (v := .ref (am 4)) (C := RM) (T := FM) (N := 8) hx hb hts iM hown hK hP 0 rfl rfl 4 (by decide) (hts _ mM_f_length) (fun _ h9 => h9) rfl dM_compare_53 ?_
      refine lv_iload_n hx hb dM_compare_56 rfl (lv_at hl 2 rfl) ?_
      refine va_iald hx hb hK hP 4 0 rfl rfl (vp_in_nI (show i9 < 384 from by omega) (by omega)) dM_compare_57 ?_
      rw [nI_clamp (show i9 < 2 ^ 31 by omega)]
      rw [show τ 4 i9 = nI e9.2.1 from hr4]
      refine lv_isub hx hb dM_compare_58 ?_
      exact W.iret (v := ((nI n) - (nI e9.2.1))) hx hb hr (fun t9 ht9 _ => ⟨(nI n) - (nI e9.2.1), hn_cp (by omega) (by omega) (hn_ce_end hh hw h1 h2 hz (fun j hj2 _ => hj j (by omega))).1 (hn_ce_end hh hw h1 h2 hz (fun j hj2 _ => hj j (by omega))).2.1 (hn_ce_end hh hw h1 h2 hz (fun j hj2 _ => hj j (by omega))).2.2, rfl, ht9⟩) (fun q h => nomatch h) dM_compare_59
    · skip
      have hkn : k < n := Nat.lt_of_not_le (fun z => c_20 (nI_le z (by omega)))
      refine lv_iload_n hx hb dM_compare_7 rfl (lv_at hl 3 rfl) ?_
      refine lv_aload_n hx hb dM_compare_8 rfl (lv_at hl 0 rfl) ?_
      refine va_get (D := D) (ci := 1) (v := .ref (am 4)) (C := RM) (T := FM) (N := 8) hx hb hts iM hown hK hP 0 rfl rfl 4 (by decide) (hts _ mM_f_length) (fun _ h9 => h9) rfl dM_compare_9 ?_
      refine lv_iload_n hx hb dM_compare_12 rfl (lv_at hl 2 rfl) ?_
      refine va_iald hx hb hK hP 4 0 rfl rfl (vp_in_nI (show i9 < 384 from by omega) (by omega)) dM_compare_13 ?_
      rw [nI_clamp (show i9 < 2 ^ 31 by omega)]
      rw [show τ 4 i9 = nI e9.2.1 from hr4]
      refine lv_icmp_ge (tgt := 51) hx hb dM_compare_14 (by decide) (fun c_21 => ?_) (fun c_21 => ?_)
      · skip
        have hkL : k = e9.2.1 := by have := (nI_leI (by omega) (by omega)).mp c_21; omega
        refine lv_iload_n hx hb dM_compare_51 rfl (lv_at hl 1 rfl) ?_
        refine lv_aload_n hx hb dM_compare_52 rfl (lv_at hl 0 rfl) ?_
        refine va_get (D := D) (ci := 1) (v := .ref (am 4)) (C := RM) (T := FM) (N := 8) hx hb hts iM hown hK hP 0 rfl rfl 4 (by decide) (hts _ mM_f_length) (fun _ h9 => h9) rfl dM_compare_53 ?_
        refine lv_iload_n hx hb dM_compare_56 rfl (lv_at hl 2 rfl) ?_
        refine va_iald hx hb hK hP 4 0 rfl rfl (vp_in_nI (show i9 < 384 from by omega) (by omega)) dM_compare_57 ?_
        rw [nI_clamp (show i9 < 2 ^ 31 by omega)]
        rw [show τ 4 i9 = nI e9.2.1 from hr4]
        refine lv_isub hx hb dM_compare_58 ?_
        exact W.iret (v := ((nI n) - (nI e9.2.1))) hx hb hr (fun t9 ht9 _ => ⟨(nI n) - (nI e9.2.1), hn_cp (by omega) (by omega) (hn_ce_end hh hw h1 h2 hz (fun j _ hj2 => hj j (by omega))).1 (hn_ce_end hh hw h1 h2 hz (fun j _ hj2 => hj j (by omega))).2.1 (hn_ce_end hh hw h1 h2 hz (fun j _ hj2 => hj j (by omega))).2.2, rfl, ht9⟩) (fun q h => nomatch h) dM_compare_59
      · skip
        have hkL : k < e9.2.1 := Nat.lt_of_not_le (fun z => c_21 (nI_le z (by omega)))
        exact absurd hkL (by omega)
  | succ f ih =>
    intro k hf hk1 hk2 hj ls hl
    refine lv_iload_n hx hb dM_compare_2 rfl (lv_at hl 3 rfl) ?_
    refine lv_iload_n hx hb dM_compare_3 rfl (lv_at hl 1 rfl) ?_
    refine lv_icmp_ge (tgt := 51) hx hb dM_compare_4 (by decide) (fun c_22 => ?_) (fun c_22 => ?_)
    · skip
      have hkn : k = n := by have := (nI_leI (by omega) (by omega)).mp c_22; omega
      refine lv_iload_n hx hb dM_compare_51 rfl (lv_at hl 1 rfl) ?_
      refine lv_aload_n hx hb dM_compare_52 rfl (lv_at hl 0 rfl) ?_
      refine va_get (D := D) (ci := 1) (v := .ref (am 4)) (C := RM) (T := FM) (N := 8) hx hb hts iM hown hK hP 0 rfl rfl 4 (by decide) (hts _ mM_f_length) (fun _ h9 => h9) rfl dM_compare_53 ?_
      refine lv_iload_n hx hb dM_compare_56 rfl (lv_at hl 2 rfl) ?_
      refine va_iald hx hb hK hP 4 0 rfl rfl (vp_in_nI (show i9 < 384 from by omega) (by omega)) dM_compare_57 ?_
      rw [nI_clamp (show i9 < 2 ^ 31 by omega)]
      rw [show τ 4 i9 = nI e9.2.1 from hr4]
      refine lv_isub hx hb dM_compare_58 ?_
      exact W.iret (v := ((nI n) - (nI e9.2.1))) hx hb hr (fun t9 ht9 _ => ⟨(nI n) - (nI e9.2.1), hn_cp (by omega) (by omega) (hn_ce_end hh hw h1 h2 hz (fun j hj2 _ => hj j (by omega))).1 (hn_ce_end hh hw h1 h2 hz (fun j hj2 _ => hj j (by omega))).2.1 (hn_ce_end hh hw h1 h2 hz (fun j hj2 _ => hj j (by omega))).2.2, rfl, ht9⟩) (fun q h => nomatch h) dM_compare_59
    · skip
      have hkn : k < n := Nat.lt_of_not_le (fun z => c_22 (nI_le z (by omega)))
      refine lv_iload_n hx hb dM_compare_7 rfl (lv_at hl 3 rfl) ?_
      refine lv_aload_n hx hb dM_compare_8 rfl (lv_at hl 0 rfl) ?_
      refine va_get (D := D) (ci := 1) (v := .ref (am 4)) (C := RM) (T := FM) (N := 8) hx hb hts iM hown hK hP 0 rfl rfl 4 (by decide) (hts _ mM_f_length) (fun _ h9 => h9) rfl dM_compare_9 ?_
      refine lv_iload_n hx hb dM_compare_12 rfl (lv_at hl 2 rfl) ?_
      refine va_iald hx hb hK hP 4 0 rfl rfl (vp_in_nI (show i9 < 384 from by omega) (by omega)) dM_compare_13 ?_
      rw [nI_clamp (show i9 < 2 ^ 31 by omega)]
      rw [show τ 4 i9 = nI e9.2.1 from hr4]
      refine lv_icmp_ge (tgt := 51) hx hb dM_compare_14 (by decide) (fun c_23 => ?_) (fun c_23 => ?_)
      · skip
        have hkL : k = e9.2.1 := by have := (nI_leI (by omega) (by omega)).mp c_23; omega
        refine lv_iload_n hx hb dM_compare_51 rfl (lv_at hl 1 rfl) ?_
        refine lv_aload_n hx hb dM_compare_52 rfl (lv_at hl 0 rfl) ?_
        refine va_get (D := D) (ci := 1) (v := .ref (am 4)) (C := RM) (T := FM) (N := 8) hx hb hts iM hown hK hP 0 rfl rfl 4 (by decide) (hts _ mM_f_length) (fun _ h9 => h9) rfl dM_compare_53 ?_
        refine lv_iload_n hx hb dM_compare_56 rfl (lv_at hl 2 rfl) ?_
        refine va_iald hx hb hK hP 4 0 rfl rfl (vp_in_nI (show i9 < 384 from by omega) (by omega)) dM_compare_57 ?_
        rw [nI_clamp (show i9 < 2 ^ 31 by omega)]
        rw [show τ 4 i9 = nI e9.2.1 from hr4]
        refine lv_isub hx hb dM_compare_58 ?_
        exact W.iret (v := ((nI n) - (nI e9.2.1))) hx hb hr (fun t9 ht9 _ => ⟨(nI n) - (nI e9.2.1), hn_cp (by omega) (by omega) (hn_ce_end hh hw h1 h2 hz (fun j _ hj2 => hj j (by omega))).1 (hn_ce_end hh hw h1 h2 hz (fun j _ hj2 => hj j (by omega))).2.1 (hn_ce_end hh hw h1 h2 hz (fun j _ hj2 => hj j (by omega))).2.2, rfl, ht9⟩) (fun q h => nomatch h) dM_compare_59
      · skip
        have hkL : k < e9.2.1 := Nat.lt_of_not_le (fun z => c_23 (nI_le z (by omega)))
        have hb1 := hh k
        have hb2 := hn_kb_lt e9.1 k
        refine lv_aload_n hx hb dM_compare_17 rfl (lv_at hl 0 rfl) ?_
        refine va_get (D := D) (ci := 1) (v := .ref (am 1)) (C := RM) (T := FM) (N := 8) hx hb hts iM hown hK hP 0 rfl rfl 1 (by decide) (hts _ mM_f_hand) (fun _ h9 => h9) rfl dM_compare_18 ?_
        refine lv_iload_n hx hb dM_compare_21 rfl (lv_at hl 3 rfl) ?_
        refine va_iald hx hb hK hP 1 0 rfl rfl (vp_in_nI (show k < 20 from by omega) (by omega)) dM_compare_22 ?_
        rw [nI_clamp (show k < 2 ^ 31 by omega)]
        rw [show τ 1 k = nI (h k) from hr1 k (by omega)]
        refine lv_aload_n hx hb dM_compare_23 rfl (lv_at hl 0 rfl) ?_
        refine va_get (D := D) (ci := 1) (v := .ref (am 5)) (C := RM) (T := FM) (N := 8) hx hb hts iM hown hK hP 0 rfl rfl 5 (by decide) (hts _ mM_f_bytes) (fun _ h9 => h9) rfl dM_compare_24 ?_
        refine lv_bipush (v := 20) hx hb dM_compare_27 (by decide) ?_
        refine lv_iload_n hx hb dM_compare_29 rfl (lv_at hl 2 rfl) ?_
        refine lv_imul hx hb dM_compare_30 ?_
        refine lv_iload_n hx hb dM_compare_31 rfl (lv_at hl 3 rfl) ?_
        refine lv_iadd hx hb dM_compare_32 ?_
        rw [show ((20 * (nI i9)) + (nI k) : Int32) = nI (20 * i9 + k) from by rw [show (20 : Int32) = nI 20 from rfl, pk_mul, nI_add]]
        refine va_iald hx hb hK hP 5 0 rfl rfl (vp_in_nI (show 20 * i9 + k < 7680 from by omega) (by omega)) dM_compare_33 ?_
        rw [nI_clamp (show 20 * i9 + k < 2 ^ 31 by omega)]
        rw [show τ 5 (20 * i9 + k) = nI (hn_kb e9.1 k) from hr5 k hkL]
        refine lv_isub hx hb dM_compare_34 ?_
        refine lv_istore (lv' := [(4, .int ((nI (h k)) - (nI (hn_kb e9.1 k)))), (0, .ref (am 0)), (1, .int (nI n)), (2, .int (nI i9)), (3, .int (nI k))]) hx hb dM_compare_35 hl (by decide) rfl (fun ls hl => ?_)
        refine lv_iload hx hb dM_compare_37 (lv_at hl 0 rfl) ?_
        refine lv_if_eq (tgt := 45) hx hb dM_compare_39 (by decide) (fun c_24 => ?_) (fun c_24 => ?_)
        · skip
          refine lv_iinc (v := nI (k + 1)) (lv' := [(3, .int (nI (k + 1))), (4, .int ((nI (h k)) - (nI (hn_kb e9.1 k)))), (0, .ref (am 0)), (1, .int (nI n)), (2, .int (nI i9))]) hx hb dM_compare_45 hl (k := 4) rfl (nI_1 k) (by decide) rfl (fun ls hl => ?_)
          refine lv_goto (tgt := 2) hx hb dM_compare_48 (by decide) ?_
          exact ih (k + 1) (by omega) hkn hkL (lt_s hj ((hn_eq (by omega) (by omega)).mp c_24)) ls (lv_sub hl [2, 3, 4, 0] rfl)
        · skip
          refine lv_iload hx hb dM_compare_42 (lv_at hl 0 rfl) ?_
          exact W.iret (v := ((nI (h k)) - (nI (hn_kb e9.1 k)))) hx hb hr (fun t9 ht9 _ => ⟨(nI (h k)) - (nI (hn_kb e9.1 k)), hn_cp hb1 hb2 (fun z => hn_ce_lt hh hw h2 hkn hj z) (fun z => absurd ((hn_eq (by omega) (by omega)).mpr z) c_24) (fun z => hn_ce_gt hw h2 hkn hj z), rfl, ht9⟩) (fun q h => nomatch h) dM_compare_44

set_option maxHeartbeats 4000000 in
set_option maxRecDepth 100000 in
theorem cM_place_ok (l : Launch) (D : va_G) (cI cL : ClassId) (am : Nat → Nat) (τ : Nat → Nat → Int32) (h : Nat → Nat) (D9 : Nat → List hn_E) (tn : Nat) (tb : Nat → Nat) (hR : hn_MR τ h D9 tn tb) (hO : hn_DO D9) (d : Nat) (hd : d < 8) (n : Nat) (h1 : 1 ≤ n) (h2 : n ≤ 20) (hz : ∀ k, k < n → h k ≠ 0)  : Met l yM_place wM_place ({ frames := 1, cells := 0, slots := 0, locals := 24 }) (hn_PR D vwCl (hn_ty cI cL) (hn_wM am cI τ) [.ref (am 0), .int (nI d), .int (nI n)]) (QcRead (nI (48 * d + hn_pc (hn_num h n) (D9 d)))) 0 0 (fun _ => False) := by
  refine Met.ofW (cc := cM_place) (maxL := 4) (ret := (some .int)) (by decide) rfl ?_
  intro p e s m args below meth c s₁ B hml hv
  obtain ⟨rfl, hP, hK⟩ := hv
  have hx := B.exec
  have hb := B.bytes
  have hr := B.returns
  have hts0 := atoms_spec (ws := wM_place) B.pre
  have hts : ∀ w ∈ hn_tb, w.before _ s = true := fun w hw => hts0 w (List.mem_cons_of_mem _ hw)
  have hown : s.vm.findClass RM = some m.cls := findClass_of_methodNamed B.named
  have hlocks := B.notSynchronized
  have hl := lv_entry [.ref (am 0), .int (nI d), .int (nI n)] (n := 4) (Nat.le_of_ble_eq_true rfl)
  rw [lg_entry_eq]
  generalize (lg_sl [.ref (am 0), .int (nI d), .int (nI n)] ++ List.replicate (4 - (lg_sl [.ref (am 0), .int (nI d), .int (nI n)]).length) Slot.unset).toArray = ls at hl ⊢
  have hl : lv_has ls 4 [(0, .ref (am 0)), (1, .int (nI d)), (2, .int (nI n))] := hl
  have hlen := (hO d hd).2.1
  refine lv_iconst (v := 0) hx hb dM_place_0 (by decide) ?_
  refine lv_istore_n (lv' := [(3, .int 0), (0, .ref (am 0)), (1, .int (nI d)), (2, .int (nI n))]) hx hb dM_place_1 rfl hl (by decide) rfl (fun ls hl => ?_)
  suffices loop : ∀ (f j : Nat), j + f = (D9 d).length → (∀ i, i < j → ((D9 d).getD i hn_e0).1 < hn_num h n) → ∀ ls : Array Slot, lv_has ls 4 [(0, .ref (am 0)), (1, .int (nI d)), (2, .int (nI n)), (3, .int (nI j))] → W p l e (headSpec wM_place ({ frames := 1, cells := 0, slots := 0, locals := 24 })).room s m [.ref (am 0), .int (nI d), .int (nI n)].toArray below meth c s.heap [] 0 0 (MQ below (QcRead (nI (48 * d + hn_pc (hn_num h n) (D9 d)))) [.ref (am 0), .int (nI d), .int (nI n)].toArray s 0 0 (fun _ => False)) (F0 m 2 ls []) from loop (D9 d).length 0 (Nat.zero_add _) (fun j z => absurd z (Nat.not_lt_zero _)) ls (lv_sub hl [1, 2, 3, 0] rfl)
  intro f
  induction f with
  | zero =>
    intro j hf hj ls hl
    refine lv_iload_n hx hb dM_place_2 rfl (lv_at hl 3 rfl) ?_
    refine lv_aload_n hx hb dM_place_3 rfl (lv_at hl 0 rfl) ?_
    refine va_get (D := D) (ci := 1) (v := .ref (am 2)) (C := RM) (T := FM) (N := 8) hx hb hts iM hown hK hP 0 rfl rfl 2 (by decide) (hts _ mM_f_many) (fun _ h9 => h9) rfl dM_place_4 ?_
    refine lv_iload_n hx hb dM_place_7 rfl (lv_at hl 1 rfl) ?_
    refine va_iald hx hb hK hP 2 0 rfl rfl (vp_in_nI (show d < 8 from hd) (by omega)) dM_place_8 ?_
    rw [nI_clamp (show d < 2 ^ 31 by omega)]
    rw [show τ 2 d = nI (D9 d).length from (hR.2.2.1 d hd).1]
    refine lv_icmp_ge (tgt := 32) hx hb dM_place_9 (by decide) (fun c_25 => ?_) (fun c_25 => absurd (nI_le (show (D9 d).length ≤ j by omega) (by omega)) c_25)
    refine lv_bipush (v := 48) hx hb dM_place_32 (by decide) ?_
    refine lv_iload_n hx hb dM_place_34 rfl (lv_at hl 1 rfl) ?_
    refine lv_imul hx hb dM_place_35 ?_
    rw [show (48 * (nI d) : Int32) = nI (48 * d) from pk_mul 48 d]
    refine lv_iload_n hx hb dM_place_36 rfl (lv_at hl 3 rfl) ?_
    refine lv_iadd hx hb dM_place_37 ?_
    rw [show ((nI (48 * d)) + (nI j) : Int32) = nI (48 * d + j) from nI_add _ _]
    exact W.iret (v := (nI (48 * d + j))) hx hb hr (fun t9 ht9 _ => ⟨congrArg (fun z => Outcome.returned (some (Value.int z))) (show (nI (48 * d + j) : Int32) = nI (48 * d + hn_pc (hn_num h n) (D9 d)) from congrArg (fun z => nI (48 * d + z)) (hn_pc_step hj (by omega) (Or.inl (by omega))).symm), ht9⟩) (fun q h => nomatch h) dM_place_38
  | succ f ih =>
    intro j hf hj ls hl
    refine lv_iload_n hx hb dM_place_2 rfl (lv_at hl 3 rfl) ?_
    refine lv_aload_n hx hb dM_place_3 rfl (lv_at hl 0 rfl) ?_
    refine va_get (D := D) (ci := 1) (v := .ref (am 2)) (C := RM) (T := FM) (N := 8) hx hb hts iM hown hK hP 0 rfl rfl 2 (by decide) (hts _ mM_f_many) (fun _ h9 => h9) rfl dM_place_4 ?_
    refine lv_iload_n hx hb dM_place_7 rfl (lv_at hl 1 rfl) ?_
    refine va_iald hx hb hK hP 2 0 rfl rfl (vp_in_nI (show d < 8 from hd) (by omega)) dM_place_8 ?_
    rw [nI_clamp (show d < 2 ^ 31 by omega)]
    rw [show τ 2 d = nI (D9 d).length from (hR.2.2.1 d hd).1]
    refine lv_icmp_ge (tgt := 32) hx hb dM_place_9 (by decide) (fun c_26 => absurd c_26 (nI_ge (a := j) (b := (D9 d).length) (by omega) (by omega))) (fun c_26 => ?_)
    have hjl : j < (D9 d).length := by omega
    refine lv_aload_n hx hb dM_place_12 rfl (lv_at hl 0 rfl) ?_
    refine lv_iload_n hx hb dM_place_13 rfl (lv_at hl 2 rfl) ?_
    refine lv_bipush (v := 48) hx hb dM_place_14 (by decide) ?_
    refine lv_iload_n hx hb dM_place_16 rfl (lv_at hl 1 rfl) ?_
    refine lv_imul hx hb dM_place_17 ?_
    rw [show (48 * (nI d) : Int32) = nI (48 * d) from pk_mul 48 d]
    refine lv_iload_n hx hb dM_place_18 rfl (lv_at hl 3 rfl) ?_
    refine lv_iadd hx hb dM_place_19 ?_
    rw [show ((nI (48 * d)) + (nI j) : Int32) = nI (48 * d + j) from nI_add _ _]
    refine hn_callE (W.runV (As := [.int (nI n), .int (nI (48 * d + j))]) (rest := []) ⟨hx, hb, hml, hown, hts⟩ (cM_compare_ok l D cI cL am τ h hR.1 hR.2.1 n h1 h2 hz (48 * d + j) (by omega) ((D9 d).getD j hn_e0) ((hO d hd).2.2 _ (hn_getD_mem hjl)) ((hR.2.2.1 d hd).2 j hjl).2.1 ((hR.2.2.1 d hd).2 j hjl).2.2) (cwV 2 hts gM_M_compare rfl rfl rfl (by decide +kernel) ⟨Nat.le_of_ble_eq_true rfl, Nat.le_of_ble_eq_true rfl⟩) (hn_preV hP hK (ci := 1) (q0 := 0) rfl rfl) rfl rfl hl.1 rfl (lv_room (Nat.le_of_ble_eq_true rfl)) dM_place_20 ⟨Nat.zero_le _, Nat.zero_le _⟩) (fun r hr9 => ?_)
    refine W.eq (g2 := F0 m 23 ls [.int r]) rfl ?_
    refine lv_if_le (tgt := 32) hx hb dM_place_23 (by decide) (fun c_27 => ?_) (fun c_27 => ?_)
    · skip
      refine lv_bipush (v := 48) hx hb dM_place_32 (by decide) ?_
      refine lv_iload_n hx hb dM_place_34 rfl (lv_at hl 1 rfl) ?_
      refine lv_imul hx hb dM_place_35 ?_
      rw [show (48 * (nI d) : Int32) = nI (48 * d) from pk_mul 48 d]
      refine lv_iload_n hx hb dM_place_36 rfl (lv_at hl 3 rfl) ?_
      refine lv_iadd hx hb dM_place_37 ?_
      rw [show ((nI (48 * d)) + (nI j) : Int32) = nI (48 * d + j) from nI_add _ _]
      exact W.iret (v := (nI (48 * d + j))) hx hb hr (fun t9 ht9 _ => ⟨congrArg (fun z => Outcome.returned (some (Value.int z))) (show (nI (48 * d + j) : Int32) = nI (48 * d + hn_pc (hn_num h n) (D9 d)) from congrArg (fun z => nI (48 * d + z)) (hn_pc_step hj (by omega) (Or.inr (fun z => absurd (hr9.1.mpr z) (Int32.not_lt.mpr c_27)))).symm), ht9⟩) (fun q h => nomatch h) dM_place_38
    · skip
      refine lv_iinc (v := nI (j + 1)) (lv' := [(3, .int (nI (j + 1))), (0, .ref (am 0)), (1, .int (nI d)), (2, .int (nI n))]) hx hb dM_place_26 hl (k := 3) rfl (nI_1 j) (by decide) rfl (fun ls hl => ?_)
      refine lv_goto (tgt := 2) hx hb dM_place_29 (by decide) ?_
      exact ih (j + 1) (by omega) (lt_s hj (hr9.1.mp (Int32.not_le.mp c_27))) ls (lv_sub hl [1, 2, 3, 0] rfl)

set_option maxHeartbeats 4000000 in
set_option maxRecDepth 100000 in
theorem cM_isAt_ok (l : Launch) (D : va_G) (cI cL : ClassId) (am : Nat → Nat) (τ : Nat → Nat → Int32) (h : Nat → Nat) (D9 : Nat → List hn_E) (tn : Nat) (tb : Nat → Nat) (hR : hn_MR τ h D9 tn tb) (hO : hn_DO D9) (d : Nat) (hd : d < 8) (n : Nat) (h1 : 1 ≤ n) (h2 : n ≤ 20) (hz : ∀ k, k < n → h k ≠ 0) (p9 : Nat) (hp9 : p9 ≤ 48) : Met l yM_isAt wM_isAt ({ frames := 1, cells := 0, slots := 0, locals := 24 }) (hn_PR D vwCl (hn_ty cI cL) (hn_wM am cI τ) [.ref (am 0), .int (nI (48 * d + p9)), .int (nI d), .int (nI n)]) (hn_QE (hn_tf (p9 < (D9 d).length ∧ ((D9 d).getD p9 hn_e0).1 = hn_num h n))) 0 0 (fun _ => False) := by
  refine Met.ofW (cc := cM_isAt) (maxL := 4) (ret := (some .boolean)) (by decide) rfl ?_
  intro p e s m args below meth c s₁ B hml hv
  obtain ⟨rfl, hP, hK⟩ := hv
  have hx := B.exec
  have hb := B.bytes
  have hr := B.returns
  have hts0 := atoms_spec (ws := wM_isAt) B.pre
  have hts : ∀ w ∈ hn_tb, w.before _ s = true := fun w hw => hts0 w (List.mem_cons_of_mem _ hw)
  have hown : s.vm.findClass RM = some m.cls := findClass_of_methodNamed B.named
  have hlocks := B.notSynchronized
  have hl := lv_entry [.ref (am 0), .int (nI (48 * d + p9)), .int (nI d), .int (nI n)] (n := 4) (Nat.le_of_ble_eq_true rfl)
  rw [lg_entry_eq]
  generalize (lg_sl [.ref (am 0), .int (nI (48 * d + p9)), .int (nI d), .int (nI n)] ++ List.replicate (4 - (lg_sl [.ref (am 0), .int (nI (48 * d + p9)), .int (nI d), .int (nI n)]).length) Slot.unset).toArray = ls at hl ⊢
  have hl : lv_has ls 4 [(0, .ref (am 0)), (1, .int (nI (48 * d + p9))), (2, .int (nI d)), (3, .int (nI n))] := hl
  have hlen := (hO d hd).2.1
  refine lv_iload_n hx hb dM_isAt_0 rfl (lv_at hl 1 rfl) ?_
  refine lv_bipush (v := 48) hx hb dM_isAt_1 (by decide) ?_
  refine lv_iload_n hx hb dM_isAt_3 rfl (lv_at hl 2 rfl) ?_
  refine lv_imul hx hb dM_isAt_4 ?_
  rw [show (48 * (nI d) : Int32) = nI (48 * d) from pk_mul 48 d]
  refine lv_aload_n hx hb dM_isAt_5 rfl (lv_at hl 0 rfl) ?_
  refine va_get (D := D) (ci := 1) (v := .ref (am 2)) (C := RM) (T := FM) (N := 8) hx hb hts iM hown hK hP 0 rfl rfl 2 (by decide) (hts _ mM_f_many) (fun _ h9 => h9) rfl dM_isAt_6 ?_
  refine lv_iload_n hx hb dM_isAt_9 rfl (lv_at hl 2 rfl) ?_
  refine va_iald hx hb hK hP 2 0 rfl rfl (vp_in_nI (show d < 8 from hd) (by omega)) dM_isAt_10 ?_
  rw [nI_clamp (show d < 2 ^ 31 by omega)]
  rw [show τ 2 d = nI (D9 d).length from (hR.2.2.1 d hd).1]
  refine lv_iadd hx hb dM_isAt_11 ?_
  rw [show ((nI (48 * d)) + (nI (D9 d).length) : Int32) = nI (48 * d + (D9 d).length) from nI_add _ _]
  refine lv_icmp_ge (tgt := 28) hx hb dM_isAt_12 (by decide) (fun c_28 => ?_) (fun c_28 => ?_)
  · skip
    refine lv_iconst (v := 0) hx hb dM_isAt_28 (by decide) ?_
    exact W.zret (v := 0) hx hb hr rfl (fun t9 ht9 _ => ⟨0, Or.inr ⟨rfl, fun z => absurd ((nI_leI (by omega) (by omega)).mp c_28) (by omega)⟩, rfl, ht9⟩) (fun q h => nomatch h) dM_isAt_29
  · skip
    have hjl : p9 < (D9 d).length := Nat.lt_of_not_le (fun z => c_28 (nI_le (by omega) (by omega)))
    refine lv_aload_n hx hb dM_isAt_15 rfl (lv_at hl 0 rfl) ?_
    refine lv_iload_n hx hb dM_isAt_16 rfl (lv_at hl 3 rfl) ?_
    refine lv_iload_n hx hb dM_isAt_17 rfl (lv_at hl 1 rfl) ?_
    refine hn_callE (W.runV (As := [.int (nI n), .int (nI (48 * d + p9))]) (rest := []) ⟨hx, hb, hml, hown, hts⟩ (cM_compare_ok l D cI cL am τ h hR.1 hR.2.1 n h1 h2 hz (48 * d + p9) (by omega) ((D9 d).getD p9 hn_e0) ((hO d hd).2.2 _ (hn_getD_mem hjl)) ((hR.2.2.1 d hd).2 p9 hjl).2.1 ((hR.2.2.1 d hd).2 p9 hjl).2.2) (cwV 2 hts gM_M_compare rfl rfl rfl (by decide +kernel) ⟨Nat.le_of_ble_eq_true rfl, Nat.le_of_ble_eq_true rfl⟩) (hn_preV hP hK (ci := 1) (q0 := 0) rfl rfl) rfl rfl hl.1 rfl (lv_room (Nat.le_of_ble_eq_true rfl)) dM_isAt_18 ⟨Nat.zero_le _, Nat.zero_le _⟩) (fun r hr9 => ?_)
    refine W.eq (g2 := F0 m 21 ls [.int r]) rfl ?_
    refine lv_if_ne (tgt := 28) hx hb dM_isAt_21 (by decide) (fun c_29 => ?_) (fun c_29 => ?_)
    · skip
      refine lv_iconst (v := 0) hx hb dM_isAt_28 (by decide) ?_
      exact W.zret (v := 0) hx hb hr rfl (fun t9 ht9 _ => ⟨0, Or.inr ⟨rfl, fun z => c_29 (hr9.2.mpr z.2)⟩, rfl, ht9⟩) (fun q h => nomatch h) dM_isAt_29
    · skip
      refine lv_iconst (v := 1) hx hb dM_isAt_24 (by decide) ?_
      refine lv_goto (tgt := 29) hx hb dM_isAt_25 (by decide) ?_
      exact W.zret (v := 1) hx hb hr rfl (fun t9 ht9 _ => ⟨1, Or.inl ⟨rfl, hjl, hr9.2.mp c_29⟩, rfl, ht9⟩) (fun q h => nomatch h) dM_isAt_29
end
section
/-! what the operations do to the directories: pure -/
section
def hn_has (K : Nat) (l : List hn_E) : Prop := ∃ e ∈ l, e.1 = K
def hn_ud (D : Nat → List hn_E) (d : Nat) (l : List hn_E) : Nat → List hn_E := fun j => if j = d then l else D j
theorem hn_ud_s {D : Nat → List hn_E} {d : Nat} {l : List hn_E} : hn_ud D d l d = l := if_pos rfl
theorem hn_ud_n {D : Nat → List hn_E} {d j : Nat} {l : List hn_E} (h : j ≠ d) : hn_ud D d l j = D j := if_neg h
/-- a name is put in -/
def hn_ei (e : hn_E) : List hn_E → List hn_E
  | [] => [e]
  | x :: l => if x.1 < e.1 then x :: hn_ei e l else e :: x :: l
/-- a name is taken out -/
def hn_er (K : Nat) : List hn_E → List hn_E
  | [] => []
  | x :: l => if x.1 = K then l else x :: hn_er K l
/-- a name gets another id -/
def hn_ec (K : Nat) (i : Int32) : List hn_E → List hn_E
  | [] => []
  | x :: l => if x.1 = K then (x.1, x.2.1, i) :: l else x :: hn_ec K i l
theorem hn_ei_len (e : hn_E) : ∀ l : List hn_E, (hn_ei e l).length = l.length + 1
  | [] => rfl
  | x :: l => by
    unfold hn_ei
    by_cases h : x.1 < e.1
    · rw [if_pos h]; simp [hn_ei_len e l]
    · rw [if_neg h]; rfl
theorem hn_ei_mem {e y : hn_E} : ∀ {l : List hn_E}, y ∈ hn_ei e l → y = e ∨ y ∈ l
  | [], h => Or.inl (List.mem_singleton.mp h)
  | x :: l, h => by
    unfold hn_ei at h
    by_cases h1 : x.1 < e.1
    · rw [if_pos h1] at h
      rcases List.mem_cons.mp h with h | h
      · exact Or.inr (by rw [h]; exact List.mem_cons_self)
      · rcases hn_ei_mem h with h | h
        · exact Or.inl h
        · exact Or.inr (List.mem_cons_of_mem _ h)
    · rw [if_neg h1] at h
      rcases List.mem_cons.mp h with h | h
      · exact Or.inl h
      · exact Or.inr h
theorem hn_ei_es {e : hn_E} : ∀ {l : List hn_E}, hn_es l → ¬ hn_has e.1 l → hn_es (hn_ei e l)
  | [], _, _ => ⟨fun _ h => (nomatch h), trivial⟩
  | x :: l, ⟨h1, h2⟩, hn => by
    unfold hn_ei
    have hx : x.1 ≠ e.1 := fun z => hn ⟨x, List.mem_cons_self, z⟩
    have hl : ¬ hn_has e.1 l := fun ⟨y, hy, z⟩ => hn ⟨y, List.mem_cons_of_mem _ hy, z⟩
    by_cases h : x.1 < e.1
    · rw [if_pos h]
      refine ⟨fun y hy => ?_, hn_ei_es h2 hl⟩
      rcases hn_ei_mem hy with rfl | hy
      · exact h
      · exact h1 y hy
    · rw [if_neg h]
      refine ⟨fun y hy => ?_, h1, h2⟩
      rcases List.mem_cons.mp hy with rfl | hy
      · omega
      · have := h1 y hy
        omega
theorem hn_ei_at {e : hn_E} : ∀ (l : List hn_E) (j : Nat), (hn_ei e l).getD j hn_e0 = if j < hn_pc e.1 l then l.getD j hn_e0 else if j = hn_pc e.1 l then e else l.getD (j - 1) hn_e0
  | [], j => by
    unfold hn_ei hn_pc
    cases j with
    | zero => rfl
    | succ j => simp
  | x :: l, j => by
    unfold hn_ei hn_pc
    by_cases h : x.1 < e.1
    · rw [if_pos h, if_pos h]
      cases j with
      | zero => simp
      | succ j =>
        have ih := hn_ei_at (e := e) l j
        show (hn_ei e l).getD j hn_e0 = _
        rw [ih]
        by_cases h1 : j < hn_pc e.1 l
        · rw [if_pos h1, if_pos (show j + 1 < hn_pc e.1 l + 1 by omega)]; rfl
        · rw [if_neg h1, if_neg (show ¬ j + 1 < hn_pc e.1 l + 1 by omega)]
          by_cases h2 : j = hn_pc e.1 l
          · rw [if_pos h2, if_pos (show j + 1 = hn_pc e.1 l + 1 by omega)]
          · rw [if_neg h2, if_neg (show ¬ j + 1 = hn_pc e.1 l + 1 by omega)]
            obtain ⟨i, rfl⟩ : ∃ i, j = i + 1 := ⟨j - 1, by omega⟩
            rfl
    · rw [if_neg h, if_neg h]
      cases j with
      | zero => simp
      | succ j => simp
theorem hn_er_len {K : Nat} : ∀ {l : List hn_E}, hn_has K l → (hn_er K l).length + 1 = l.length
  | [], ⟨_, h, _⟩ => nomatch h
  | x :: l, ⟨y, hy, e⟩ => by
    unfold hn_er
    by_cases h : x.1 = K
    · rw [if_pos h]; rfl
    · rw [if_neg h]
      rcases List.mem_cons.mp hy with z | hy
      · rw [z] at e; exact absurd e h
      · simp [hn_er_len ⟨y, hy, e⟩]
theorem hn_er_mem {K : Nat} {y : hn_E} : ∀ {l : List hn_E}, y ∈ hn_er K l → y ∈ l
  | [], h => nomatch h
  | x :: l, h => by
    unfold hn_er at h
    by_cases h1 : x.1 = K
    · rw [if_pos h1] at h; exact List.mem_cons_of_mem _ h
    · rw [if_neg h1] at h
      rcases List.mem_cons.mp h with h | h
      · rw [h]; exact List.mem_cons_self
      · exact List.mem_cons_of_mem _ (hn_er_mem h)
theorem hn_er_es {K : Nat} : ∀ {l : List hn_E}, hn_es l → hn_es (hn_er K l)
  | [], _ => trivial
  | x :: l, ⟨h1, h2⟩ => by
    unfold hn_er
    by_cases h : x.1 = K
    · rw [if_pos h]; exact h2
    · rw [if_neg h]
      exact ⟨fun y hy => h1 y (hn_er_mem hy), hn_er_es h2⟩
/-- where K stands, if it is there -/
theorem hn_has_pc {K : Nat} : ∀ {l : List hn_E}, hn_es l → hn_has K l → hn_pc K l < l.length ∧ (l.getD (hn_pc K l) hn_e0).1 = K
  | [], _, ⟨_, h, _⟩ => nomatch h
  | x :: l, ⟨h1, h2⟩, ⟨y, hy, e⟩ => by
    unfold hn_pc
    rcases List.mem_cons.mp hy with z | hy
    · rw [← z, e, if_neg (Nat.lt_irrefl _)]
      exact ⟨Nat.succ_pos _, e⟩
    · have h3 := h1 y hy
      rw [if_pos (show x.1 < K by omega)]
      obtain ⟨g1, g2⟩ := hn_has_pc h2 ⟨y, hy, e⟩
      exact ⟨Nat.succ_lt_succ g1, g2⟩
theorem hn_has_iff {K : Nat} {l : List hn_E} (h : hn_es l) : hn_has K l ↔ hn_pc K l < l.length ∧ (l.getD (hn_pc K l) hn_e0).1 = K :=
  ⟨hn_has_pc h, fun ⟨h1, h2⟩ => ⟨_, hn_getD_mem h1, h2⟩⟩
theorem hn_er_at {K : Nat} : ∀ {l : List hn_E}, hn_es l → hn_has K l → ∀ j, (hn_er K l).getD j hn_e0 = if j < hn_pc K l then l.getD j hn_e0 else l.getD (j + 1) hn_e0
  | [], _, ⟨_, h, _⟩, _ => nomatch h
  | x :: l, ⟨h1, h2⟩, ⟨y, hy, e⟩, j => by
    unfold hn_er hn_pc
    rcases List.mem_cons.mp hy with z | hy
    · rw [← z, e, if_pos rfl, if_neg (Nat.lt_irrefl _), if_neg (Nat.not_lt_zero _)]
      rfl
    · have h3 := h1 y hy
      rw [if_neg (show ¬ x.1 = K by omega), if_pos (show x.1 < K by omega)]
      cases j with
      | zero => simp
      | succ j =>
        have ih := hn_er_at h2 ⟨y, hy, e⟩ j
        show (hn_er K l).getD j hn_e0 = _
        rw [ih]
        by_cases h4 : j < hn_pc K l
        · rw [if_pos h4, if_pos (show j + 1 < hn_pc K l + 1 by omega)]; rfl
        · rw [if_neg h4, if_neg (show ¬ j + 1 < hn_pc K l + 1 by omega)]; rfl
theorem hn_ec_len (K : Nat) (i : Int32) : ∀ l : List hn_E, (hn_ec K i l).length = l.length
  | [] => rfl
  | x :: l => by
    unfold hn_ec
    by_cases h : x.1 = K
    · rw [if_pos h]; rfl
    · rw [if_neg h]; simp [hn_ec_len K i l]
theorem hn_ec_mem {K : Nat} {i : Int32} {y : hn_E} : ∀ {l : List hn_E}, y ∈ hn_ec K i l → ∃ x ∈ l, y.1 = x.1 ∧ y.2.1 = x.2.1
  | [], h => nomatch h
  | x :: l, h => by
    unfold hn_ec at h
    by_cases h1 : x.1 = K
    · rw [if_pos h1] at h
      rcases List.mem_cons.mp h with h | h
      · exact ⟨x, List.mem_cons_self, by rw [h], by rw [h]⟩
      · exact ⟨y, List.mem_cons_of_mem _ h, rfl, rfl⟩
    · rw [if_neg h1] at h
      rcases List.mem_cons.mp h with h | h
      · exact ⟨x, List.mem_cons_self, by rw [h], by rw [h]⟩
      · obtain ⟨z, hz, e⟩ := hn_ec_mem h
        exact ⟨z, List.mem_cons_of_mem _ hz, e⟩
theorem hn_ec_es {K : Nat} {i : Int32} : ∀ {l : List hn_E}, hn_es l → hn_es (hn_ec K i l)
  | [], _ => trivial
  | x :: l, ⟨h1, h2⟩ => by
    unfold hn_ec
    by_cases h : x.1 = K
    · rw [if_pos h]; exact ⟨h1, h2⟩
    · rw [if_neg h]
      refine ⟨fun y hy => ?_, hn_ec_es h2⟩
      obtain ⟨z, hz, e, _⟩ := hn_ec_mem hy
      rw [e]
      exact h1 z hz
theorem hn_ec_at {K : Nat} {i : Int32} : ∀ {l : List hn_E}, hn_es l → hn_has K l → ∀ j, (hn_ec K i l).getD j hn_e0 = if j = hn_pc K l then ((l.getD j hn_e0).1, (l.getD j hn_e0).2.1, i) else l.getD j hn_e0
  | [], _, ⟨_, h, _⟩, _ => nomatch h
  | x :: l, ⟨h1, h2⟩, ⟨y, hy, e⟩, j => by
    unfold hn_ec hn_pc
    rcases List.mem_cons.mp hy with z | hy
    · rw [← z, e, if_pos rfl, if_neg (Nat.lt_irrefl _)]
      cases j with
      | zero => simp [e]
      | succ j => simp
    · have h3 := h1 y hy
      rw [if_neg (show ¬ x.1 = K by omega), if_pos (show x.1 < K by omega)]
      cases j with
      | zero => simp
      | succ j =>
        have ih := hn_ec_at (i := i) h2 ⟨y, hy, e⟩ j
        show (hn_ec K i l).getD j hn_e0 = _
        rw [ih]
        by_cases h4 : j = hn_pc K l
        · rw [if_pos h4, if_pos (show j + 1 = hn_pc K l + 1 by omega)]; rfl
        · rw [if_neg h4, if_neg (show ¬ j + 1 = hn_pc K l + 1 by omega)]; rfl
/-- slot i of the reference holds the entry e -/
def hn_sl (τ : Nat → Nat → Int32) (i : Nat) (e : hn_E) : Prop := τ 3 i = e.2.2 ∧ τ 4 i = nI e.2.1 ∧ ∀ k, k < e.2.1 → τ 5 (20 * i + k) = nI (hn_kb e.1 k)
theorem hn_sl_keep {τ τ' : Nat → Nat → Int32} {i : Nat} {e : hn_E} (h : hn_sl τ i e) (hn : e.2.1 ≤ 20) (h3 : τ' 3 i = τ 3 i) (h4 : τ' 4 i = τ 4 i) (h5 : ∀ k, k < 20 → τ' 5 (20 * i + k) = τ 5 (20 * i + k)) : hn_sl τ' i e :=
  ⟨h3.trans h.1, h4.trans h.2.1, fun k hk => (h5 k (by omega)).trans (h.2.2 k hk)⟩
/-- the reference's rows beside the entries -/
def hn_MH (τ : Nat → Nat → Int32) (h : Nat → Nat) (tn TK : Nat) : Prop := (∀ k, k < 20 → τ 1 k = nI (h k)) ∧ (∀ k, h k < 256) ∧ τ 0 1 = nI tn ∧ tn ≤ 20 ∧ (∀ k, k < tn → τ 6 k = nI (hn_kb TK k))
def hn_MD (τ : Nat → Nat → Int32) (D : Nat → List hn_E) : Prop := ∀ d, d < 8 → τ 2 d = nI (D d).length ∧ ∀ j, j < (D d).length → hn_sl τ (48 * d + j) ((D d).getD j hn_e0)
theorem hn_MR_iff {τ : Nat → Nat → Int32} {h : Nat → Nat} {D : Nat → List hn_E} {tn TK : Nat} : hn_MR τ h D tn (hn_kb TK) ↔ hn_MH τ h tn TK ∧ hn_MD τ D :=
  ⟨fun ⟨a, b, c, d, e, f⟩ => ⟨⟨a, b, d, e, f⟩, c⟩, fun ⟨⟨a, b, d, e, f⟩, c⟩ => ⟨a, b, c, d, e, f⟩⟩
theorem hn_MH_keep {τ τ' : Nat → Nat → Int32} {h : Nat → Nat} {tn TK : Nat} (hm : hn_MH τ h tn TK) (h0 : τ' 0 1 = τ 0 1) (h1 : τ' 1 = τ 1) (h6 : τ' 6 = τ 6) : hn_MH τ' h tn TK := by
  obtain ⟨a, b, d, e, f⟩ := hm
  exact ⟨by rw [h1]; exact a, b, h0.trans d, e, by rw [h6]; exact f⟩
theorem hn_MD_keep {τ τ' : Nat → Nat → Int32} {D : Nat → List hn_E} (hm : hn_MD τ D) (h2 : τ' 2 = τ 2) (h3 : τ' 3 = τ 3) (h4 : τ' 4 = τ 4) (h5 : τ' 5 = τ 5) : hn_MD τ' D := by
  intro d hd
  obtain ⟨a, b⟩ := hm d hd
  refine ⟨by rw [h2]; exact a, fun j hj => ?_⟩
  obtain ⟨g1, g2, g3⟩ := b j hj
  exact ⟨by rw [h3]; exact g1, by rw [h4]; exact g2, by rw [h5]; exact g3⟩
/-- an entry's slot of another directory is elsewhere -/
theorem hn_MD_put {τ τ' : Nat → Nat → Int32} {D : Nat → List hn_E} {d : Nat} {l : List hn_E} (hO : hn_DO D) (hm : hn_MD τ D) (hd : d < 8) (h2 : τ' 2 = upd (τ 2) d (nI l.length)) (hl : l.length ≤ 48)
    (hk : ∀ i e, (i < 48 * d ∨ 48 * d + 48 ≤ i) → e.2.1 ≤ 20 → hn_sl τ i e → hn_sl τ' i e) (hn : ∀ j, j < l.length → hn_sl τ' (48 * d + j) (l.getD j hn_e0)) : hn_MD τ' (hn_ud D d l) := by
  intro d' hd'
  by_cases e : d' = d
  · subst e
    rw [hn_ud_s, h2, pk_us]
    exact ⟨rfl, hn⟩
  · rw [hn_ud_n e, h2, pk_un e]
    obtain ⟨a, b⟩ := hm d' hd'
    refine ⟨a, fun j hj => ?_⟩
    have := (hO d' hd').2.1
    exact hk _ _ (by omega) ((hO d' hd').2.2 _ (hn_getD_mem hj)).2.1 (b j hj)
theorem hn_DO_put {D : Nat → List hn_E} {d : Nat} {l : List hn_E} (hO : hn_DO D) (h1 : hn_es l) (h2 : l.length ≤ 48) (h3 : ∀ e ∈ l, hn_wf e) : hn_DO (hn_ud D d l) := by
  intro d' hd'
  by_cases e : d' = d
  · subst e
    rw [hn_ud_s]
    exact ⟨h1, h2, h3⟩
  · rw [hn_ud_n e]
    exact hO d' hd'
/-- five words -/
def hn_w5 (a b c d e : Int32) : Nat → Int32 := fun i => if i = 0 then a else if i = 1 then b else if i = 2 then c else if i = 3 then d else e
theorem hn_shs : ∀ k, k < 4 → ((nI (24 - 8 * k) &&& 31).toBitVec.smod 32).toNat = 24 - 8 * k := by decide +kernel
theorem hn_sby (x : Int32) {k : Nat} (hk : k < 4) : (x >>> (nI (24 - 8 * k) &&& 31)) &&& 255 = nI (hn_u x / 2 ^ (24 - 8 * k) % 256) := by
  rw [pk_and _ (m := 255) 8 (by decide +kernel)]
  have e := pk_shr x (nI (24 - 8 * k) &&& 31) (24 - 8 * k) (hn_shs k hk)
  generalize x >>> (nI (24 - 8 * k) &&& 31) = y at e ⊢
  rw [hn_u_int, hn_u_int, Int.shiftRight_eq_div_pow] at e
  have hx := hn_u_lt x
  have hy := hn_u_lt y
  show nI (hn_u y % 2 ^ 8) = _
  congr 1
  rcases (show k = 0 ∨ k = 1 ∨ k = 2 ∨ k = 3 by omega) with rfl | rfl | rfl | rfl
  · show hn_u y % 256 = hn_u x / 16777216 % 256
    have e : (if 2 * hn_u y < 4294967296 then (hn_u y : Int) else (hn_u y : Int) - 4294967296) = (if 2 * hn_u x < 4294967296 then (hn_u x : Int) else (hn_u x : Int) - 4294967296) / 16777216 := e
    omega
  · show hn_u y % 256 = hn_u x / 65536 % 256
    have e : (if 2 * hn_u y < 4294967296 then (hn_u y : Int) else (hn_u y : Int) - 4294967296) = (if 2 * hn_u x < 4294967296 then (hn_u x : Int) else (hn_u x : Int) - 4294967296) / 65536 := e
    omega
  · show hn_u y % 256 = hn_u x / 256 % 256
    have e : (if 2 * hn_u y < 4294967296 then (hn_u y : Int) else (hn_u y : Int) - 4294967296) = (if 2 * hn_u x < 4294967296 then (hn_u x : Int) else (hn_u x : Int) - 4294967296) / 256 := e
    omega
  · show hn_u y % 256 = hn_u x / 1 % 256
    have e : (if 2 * hn_u y < 4294967296 then (hn_u y : Int) else (hn_u y : Int) - 4294967296) = (if 2 * hn_u x < 4294967296 then (hn_u x : Int) else (hn_u x : Int) - 4294967296) / 1 := e
    omega
end
end
section
/-! what each call asks and gives; what a writer asks -/
section
/-- a good name of a good directory: its place, its length -/
def hn_ok (h : Nat → Nat) (d n : Int32) (j n' : Nat) : Prop := d = nI j ∧ j < 8 ∧ n = nI n' ∧ 1 ≤ n' ∧ n' ≤ 20 ∧ ∀ k, k < n' → h k ≠ 0 ∧ h k ≠ 47
theorem hn_ok_of {h : Nat → Nat} {d n : Int32} (h1 : hn_dir d) (h2 : hn_name h n) : ∃ j n', hn_ok h d n j n' := by
  obtain ⟨j, hj, e⟩ := h1
  obtain ⟨n', e2, g1, g2, g3⟩ := h2
  exact ⟨j, n', e, hj, e2, g1, g2, g3⟩
theorem hn_ok_dir {h : Nat → Nat} {d n : Int32} {j n' : Nat} (h1 : hn_ok h d n j n') : hn_dir d := ⟨j, h1.2.1, h1.1⟩
theorem hn_ok_name {h : Nat → Nat} {d n : Int32} {j n' : Nat} (h1 : hn_ok h d n j n') : hn_name h n := ⟨n', h1.2.2.1, h1.2.2.2⟩
theorem hn_ok_inj {h : Nat → Nat} {d n : Int32} {j n' j2 n2 : Nat} (h1 : hn_ok h d n j n') (h2 : hn_ok h d n j2 n2) : j = j2 ∧ n' = n2 := by
  obtain ⟨a1, a2, a3, a4, a5, -⟩ := h1
  obtain ⟨b1, b2, b3, b4, b5, -⟩ := h2
  exact ⟨(nI_eq (by omega) (by omega)).mp (a1.symm.trans b1), (nI_eq (by omega) (by omega)).mp (a3.symm.trans b3)⟩
def hn_addS (h : Nat → Nat) (D : Nat → List hn_E) (d n x : Int32) (c : Nat) (r : Int32) (D' : Nat → List hn_E) : Prop :=
  (c = 1 ∧ D' = D ∧ ¬ (hn_dir d ∧ hn_name h n ∧ hn_isid x)) ∨
  (∃ j n', hn_ok h d n j n' ∧ hn_isid x ∧ ((c = 2 ∧ D' = D ∧ (hn_has (hn_num h n') (D j) ∨ (D j).length = 48)) ∨
    (c = 0 ∧ ¬ hn_has (hn_num h n') (D j) ∧ ¬ (D j).length = 48 ∧ D' = hn_ud D j (hn_ei (hn_num h n', n', x) (D j)) ∧ r = nI ((D j).length + 1))))
def hn_findS (h : Nat → Nat) (D : Nat → List hn_E) (d n : Int32) (c : Nat) (r : Int32) : Prop :=
  (c = 1 ∧ ¬ (hn_dir d ∧ hn_name h n)) ∨
  (∃ j n', hn_ok h d n j n' ∧ c = 0 ∧ ((hn_has (hn_num h n') (D j) ∧ r = ((D j).getD (hn_pc (hn_num h n') (D j)) hn_e0).2.2) ∨ (¬ hn_has (hn_num h n') (D j) ∧ r = -1)))
def hn_removeS (h : Nat → Nat) (D : Nat → List hn_E) (d n : Int32) (c : Nat) (r : Int32) (D' : Nat → List hn_E) : Prop :=
  (c = 1 ∧ D' = D ∧ ¬ (hn_dir d ∧ hn_name h n)) ∨
  (∃ j n', hn_ok h d n j n' ∧ ((c = 2 ∧ D' = D ∧ ¬ hn_has (hn_num h n') (D j)) ∨
    (c = 0 ∧ hn_has (hn_num h n') (D j) ∧ D' = hn_ud D j (hn_er (hn_num h n') (D j)) ∧ r = ((D j).getD (hn_pc (hn_num h n') (D j)) hn_e0).2.2)))
def hn_changeS (h : Nat → Nat) (D : Nat → List hn_E) (d n x : Int32) (c : Nat) (r : Int32) (D' : Nat → List hn_E) : Prop :=
  (c = 1 ∧ D' = D ∧ ¬ (hn_dir d ∧ hn_name h n ∧ hn_isid x)) ∨
  (∃ j n', hn_ok h d n j n' ∧ hn_isid x ∧ ((c = 2 ∧ D' = D ∧ ¬ hn_has (hn_num h n') (D j)) ∨
    (c = 0 ∧ hn_has (hn_num h n') (D j) ∧ D' = hn_ud D j (hn_ec (hn_num h n') x (D j)) ∧ r = ((D j).getD (hn_pc (hn_num h n') (D j)) hn_e0).2.2)))
def hn_sizeS (D : Nat → List hn_E) (d : Int32) (c : Nat) (r : Int32) : Prop := (c = 1 ∧ ¬ hn_dir d) ∨ (∃ j, d = nI j ∧ j < 8 ∧ c = 0 ∧ r = nI (D j).length)
def hn_nthS (D : Nat → List hn_E) (tn TK : Nat) (d k : Int32) (c : Nat) (r : Int32) (tn' TK' : Nat) : Prop :=
  (c = 1 ∧ tn' = tn ∧ TK' = TK ∧ ¬ (hn_dir d ∧ ¬ k < 0)) ∨
  (∃ j k', d = nI j ∧ j < 8 ∧ k = nI k' ∧ k' < 2 ^ 31 ∧ c = 0 ∧ (((D j).length ≤ k' ∧ r = -1 ∧ tn' = 0 ∧ TK' = 0) ∨
    (k' < (D j).length ∧ r = nI ((D j).getD k' hn_e0).2.1 ∧ tn' = ((D j).getD k' hn_e0).2.1 ∧ TK' = ((D j).getD k' hn_e0).1)))
def hn_byteS (tn TK : Nat) (i : Int32) (c : Nat) (r : Int32) : Prop := (c = 1 ∧ i < 0) ∨ (∃ i', i = nI i' ∧ i' < 2 ^ 31 ∧ c = 0 ∧ ((i' < tn ∧ r = nI (hn_kb TK i')) ∨ (tn ≤ i' ∧ r = -1)))
/-! one answer alone -/
theorem hn_add1 {h : Nat → Nat} {D D1 D2 : Nat → List hn_E} {d n x r1 r2 : Int32} {c1 c2 : Nat} (a : hn_addS h D d n x c1 r1 D1) (b : hn_addS h D d n x c2 r2 D2) : c1 = c2 ∧ D1 = D2 ∧ (c1 = 0 → r1 = r2) := by
  rcases a with ⟨a1, a2, a3⟩ | ⟨j, n', ho, hi, a⟩
  · rcases b with ⟨b1, b2, b3⟩ | ⟨j2, n2, ho2, hi2, b⟩
    · exact ⟨a1.trans b1.symm, a2.trans b2.symm, fun z => by omega⟩
    · exact absurd ⟨hn_ok_dir ho2, hn_ok_name ho2, hi2⟩ a3
  · rcases b with ⟨b1, b2, b3⟩ | ⟨j2, n2, ho2, hi2, b⟩
    · exact absurd ⟨hn_ok_dir ho, hn_ok_name ho, hi⟩ b3
    · obtain ⟨e1, e2⟩ := hn_ok_inj ho ho2
      subst e1; subst e2
      rcases a with ⟨a1, a2, a3⟩ | ⟨a1, a2, a3, a4, a5⟩
      · rcases b with ⟨b1, b2, b3⟩ | ⟨b1, b2, b3, b4, b5⟩
        · exact ⟨a1.trans b1.symm, a2.trans b2.symm, fun z => by omega⟩
        · rcases a3 with z | z
          · exact absurd z b2
          · exact absurd z b3
      · rcases b with ⟨b1, b2, b3⟩ | ⟨b1, b2, b3, b4, b5⟩
        · rcases b3 with z | z
          · exact absurd z a2
          · exact absurd z a3
        · exact ⟨a1.trans b1.symm, a4.trans b4.symm, fun _ => a5.trans b5.symm⟩
theorem hn_find1 {h : Nat → Nat} {D : Nat → List hn_E} {d n r1 r2 : Int32} {c1 c2 : Nat} (a : hn_findS h D d n c1 r1) (b : hn_findS h D d n c2 r2) : c1 = c2 ∧ (c1 = 0 → r1 = r2) := by
  rcases a with ⟨a1, a3⟩ | ⟨j, n', ho, a0, a⟩
  · rcases b with ⟨b1, b3⟩ | ⟨j2, n2, ho2, b0, b⟩
    · exact ⟨a1.trans b1.symm, fun z => by omega⟩
    · exact absurd ⟨hn_ok_dir ho2, hn_ok_name ho2⟩ a3
  · rcases b with ⟨b1, b3⟩ | ⟨j2, n2, ho2, b0, b⟩
    · exact absurd ⟨hn_ok_dir ho, hn_ok_name ho⟩ b3
    · obtain ⟨e1, e2⟩ := hn_ok_inj ho ho2
      subst e1; subst e2
      refine ⟨a0.trans b0.symm, fun _ => ?_⟩
      rcases a with ⟨a1, a2⟩ | ⟨a1, a2⟩
      · rcases b with ⟨b1, b2⟩ | ⟨b1, b2⟩
        · exact a2.trans b2.symm
        · exact absurd a1 b1
      · rcases b with ⟨b1, b2⟩ | ⟨b1, b2⟩
        · exact absurd b1 a1
        · exact a2.trans b2.symm
theorem hn_remove1 {h : Nat → Nat} {D D1 D2 : Nat → List hn_E} {d n r1 r2 : Int32} {c1 c2 : Nat} (a : hn_removeS h D d n c1 r1 D1) (b : hn_removeS h D d n c2 r2 D2) : c1 = c2 ∧ D1 = D2 ∧ (c1 = 0 → r1 = r2) := by
  rcases a with ⟨a1, a2, a3⟩ | ⟨j, n', ho, a⟩
  · rcases b with ⟨b1, b2, b3⟩ | ⟨j2, n2, ho2, b⟩
    · exact ⟨a1.trans b1.symm, a2.trans b2.symm, fun z => by omega⟩
    · exact absurd ⟨hn_ok_dir ho2, hn_ok_name ho2⟩ a3
  · rcases b with ⟨b1, b2, b3⟩ | ⟨j2, n2, ho2, b⟩
    · exact absurd ⟨hn_ok_dir ho, hn_ok_name ho⟩ b3
    · obtain ⟨e1, e2⟩ := hn_ok_inj ho ho2
      subst e1; subst e2
      rcases a with ⟨a1, a2, a3⟩ | ⟨a1, a2, a3, a4⟩
      · rcases b with ⟨b1, b2, b3⟩ | ⟨b1, b2, b3, b4⟩
        · exact ⟨a1.trans b1.symm, a2.trans b2.symm, fun z => by omega⟩
        · exact absurd b2 a3
      · rcases b with ⟨b1, b2, b3⟩ | ⟨b1, b2, b3, b4⟩
        · exact absurd a2 b3
        · exact ⟨a1.trans b1.symm, a3.trans b3.symm, fun _ => a4.trans b4.symm⟩
theorem hn_change1 {h : Nat → Nat} {D D1 D2 : Nat → List hn_E} {d n x r1 r2 : Int32} {c1 c2 : Nat} (a : hn_changeS h D d n x c1 r1 D1) (b : hn_changeS h D d n x c2 r2 D2) : c1 = c2 ∧ D1 = D2 ∧ (c1 = 0 → r1 = r2) := by
  rcases a with ⟨a1, a2, a3⟩ | ⟨j, n', ho, hi, a⟩
  · rcases b with ⟨b1, b2, b3⟩ | ⟨j2, n2, ho2, hi2, b⟩
    · exact ⟨a1.trans b1.symm, a2.trans b2.symm, fun z => by omega⟩
    · exact absurd ⟨hn_ok_dir ho2, hn_ok_name ho2, hi2⟩ a3
  · rcases b with ⟨b1, b2, b3⟩ | ⟨j2, n2, ho2, hi2, b⟩
    · exact absurd ⟨hn_ok_dir ho, hn_ok_name ho, hi⟩ b3
    · obtain ⟨e1, e2⟩ := hn_ok_inj ho ho2
      subst e1; subst e2
      rcases a with ⟨a1, a2, a3⟩ | ⟨a1, a2, a3, a4⟩
      · rcases b with ⟨b1, b2, b3⟩ | ⟨b1, b2, b3, b4⟩
        · exact ⟨a1.trans b1.symm, a2.trans b2.symm, fun z => by omega⟩
        · exact absurd b2 a3
      · rcases b with ⟨b1, b2, b3⟩ | ⟨b1, b2, b3, b4⟩
        · exact absurd a2 b3
        · exact ⟨a1.trans b1.symm, a3.trans b3.symm, fun _ => a4.trans b4.symm⟩
theorem hn_size1 {D : Nat → List hn_E} {d r1 r2 : Int32} {c1 c2 : Nat} (a : hn_sizeS D d c1 r1) (b : hn_sizeS D d c2 r2) : c1 = c2 ∧ (c1 = 0 → r1 = r2) := by
  rcases a with ⟨a1, a2⟩ | ⟨j, a1, a2, a3, a4⟩
  · rcases b with ⟨b1, b2⟩ | ⟨j2, b1, b2, b3, b4⟩
    · exact ⟨a1.trans b1.symm, fun z => by omega⟩
    · exact absurd ⟨j2, b2, b1⟩ a2
  · rcases b with ⟨b1, b2⟩ | ⟨j2, b1, b2, b3, b4⟩
    · exact absurd ⟨j, a2, a1⟩ b2
    · have e : j = j2 := (nI_eq (by omega) (by omega)).mp (a1.symm.trans b1)
      subst e
      exact ⟨a3.trans b3.symm, fun _ => a4.trans b4.symm⟩
theorem hn_nth1 {D : Nat → List hn_E} {tn TK t1 t2 K1 K2 : Nat} {d k r1 r2 : Int32} {c1 c2 : Nat} (a : hn_nthS D tn TK d k c1 r1 t1 K1) (b : hn_nthS D tn TK d k c2 r2 t2 K2) : c1 = c2 ∧ t1 = t2 ∧ K1 = K2 ∧ (c1 = 0 → r1 = r2) := by
  rcases a with ⟨a1, a2, a3, a4⟩ | ⟨j, k', a1, a2, a3, a4, a5, a⟩
  · rcases b with ⟨b1, b2, b3, b4⟩ | ⟨j2, k2, b1, b2, b3, b4, b5, b⟩
    · exact ⟨a1.trans b1.symm, a2.trans b2.symm, a3.trans b3.symm, fun z => by omega⟩
    · exact absurd ⟨⟨j2, b2, b1⟩, by rw [b3]; exact nI_pos b4⟩ a4
  · rcases b with ⟨b1, b2, b3, b4⟩ | ⟨j2, k2, b1, b2, b3, b4, b5, b⟩
    · exact absurd ⟨⟨j, a2, a1⟩, by rw [a3]; exact nI_pos a4⟩ b4
    · have e : j = j2 := (nI_eq (by omega) (by omega)).mp (a1.symm.trans b1)
      have e2 : k' = k2 := (nI_eq a4 b4).mp (a3.symm.trans b3)
      subst e; subst e2
      refine ⟨a5.trans b5.symm, ?_⟩
      rcases a with ⟨x1, x2, x3, x4⟩ | ⟨x1, x2, x3, x4⟩
      · rcases b with ⟨y1, y2, y3, y4⟩ | ⟨y1, y2, y3, y4⟩
        · exact ⟨x3.trans y3.symm, x4.trans y4.symm, fun _ => x2.trans y2.symm⟩
        · exact absurd y1 (by omega)
      · rcases b with ⟨y1, y2, y3, y4⟩ | ⟨y1, y2, y3, y4⟩
        · exact absurd y1 (by omega)
        · exact ⟨x3.trans y3.symm, x4.trans y4.symm, fun _ => x2.trans y2.symm⟩
theorem hn_byte1 {tn TK : Nat} {i r1 r2 : Int32} {c1 c2 : Nat} (a : hn_byteS tn TK i c1 r1) (b : hn_byteS tn TK i c2 r2) : c1 = c2 ∧ (c1 = 0 → r1 = r2) := by
  rcases a with ⟨a1, a2⟩ | ⟨j, a1, a2, a3, a⟩
  · rcases b with ⟨b1, b2⟩ | ⟨j2, b1, b2, b3, b⟩
    · exact ⟨a1.trans b1.symm, fun z => by omega⟩
    · rw [b1] at a2; exact absurd a2 (nI_pos b2)
  · rcases b with ⟨b1, b2⟩ | ⟨j2, b1, b2, b3, b⟩
    · rw [a1] at b2; exact absurd b2 (nI_pos a2)
    · have e : j = j2 := (nI_eq a2 b2).mp (a1.symm.trans b1)
      subst e
      refine ⟨a3.trans b3.symm, fun _ => ?_⟩
      rcases a with ⟨x1, x2⟩ | ⟨x1, x2⟩
      · rcases b with ⟨y1, y2⟩ | ⟨y1, y2⟩
        · exact x2.trans y2.symm
        · exact absurd y1 (by omega)
      · rcases b with ⟨y1, y2⟩ | ⟨y1, y2⟩
        · exact absurd y1 (by omega)
        · exact x2.trans y2.symm
/-! what a writer asks, and what it leaves -/
def hn_PW (D : va_G) (tys : List (ClassId × FieldType)) (w : va_W) (sz : Nat) (As : List Value) : Array Value → State → Prop := va_Pc As (fun U => U.heap.size = sz ∧ va_P D vwCl w U.heap ∧ va_K D vwCl tys U ∧ va_D (fun _ => True) w)
abbrev hn_at (D : va_G) (tys : List (ClassId × FieldType)) (A : Nat → Prop) (w : va_W) (t : State) : Prop := va_P D vwCl w t.heap ∧ va_K D vwCl tys t ∧ va_D A w
theorem hn_preVW {D : va_G} {tys : List (ClassId × FieldType)} {w : va_W} {As : List Value} {s : State} {H : Heap} {b ci q0 : Nat} {q : vw_C} {fs : List Value} {A : Nat → Prop} (hP : va_P D vwCl w H) (hK : va_K D vwCl tys s) (hD : va_D A w) (hc : vwCl[ci]? = some q) (he : w[q0]? = some (b, .inr (ci, fs))) : PreV s H q.1 b (hn_PW D tys w H.size (.ref b :: As)) As :=
  ⟨fun a U g mk z => by obtain ⟨z0, z1, zP, zK, zD⟩ := z; exact ⟨z0, z1, zP, va_K.moved (u := U) (U := U.calling g mk a) (Vm.Alike.refl U.vm) zK, zD⟩, va_recv hK hP hc he, fun U hU hW => ⟨rfl, by rw [hU], by rw [hU]; exact hP, va_K.moved hW.alike hK, hD.weaken (fun _ _ _ _ => trivial)⟩⟩
theorem hn_preIW {D : va_G} {tys : List (ClassId × FieldType)} {w : va_W} {As : List Value} {s : State} {H : Heap} {A : Nat → Prop} (hP : va_P D vwCl w H) (hK : va_K D vwCl tys s) (hD : va_D A w) : PreS s H (hn_PW D tys w H.size As) As :=
  ⟨fun a U g mk z => by obtain ⟨z0, z1, zP, zK, zD⟩ := z; exact ⟨z0, z1, zP, va_K.moved (u := U) (U := U.calling g mk a) (Vm.Alike.refl U.vm) zK, zD⟩, fun U hU hW => ⟨rfl, by rw [hU], by rw [hU]; exact hP, va_K.moved hW.alike hK, hD.weaken (fun _ _ _ _ => trivial)⟩⟩
end
end
section
section
theorem hn_mv1 {t5 o5 : Nat → Int32} {a b k j : Nat} (h1 : ∀ j, j < k → t5 (20 * b + j) = o5 (20 * a + j)) (h2 : ∀ q, ¬ (20 * b ≤ q ∧ q < 20 * b + 20) → t5 q = o5 q) (hj : j < k + 1) (hab : a ≠ b) (hk : k < 20) : upd t5 (20 * b + k) (t5 (20 * a + k)) (20 * b + j) = o5 (20 * a + j) := by
  by_cases e : j = k
  · subst e
    rw [pk_us]
    exact h2 _ (by omega)
  · rw [pk_un (by omega)]
    exact h1 j (by omega)
theorem hn_mv2 {t5 o5 : Nat → Int32} {b k q : Nat} {x : Int32} (h2 : ∀ q, ¬ (20 * b ≤ q ∧ q < 20 * b + 20) → t5 q = o5 q) (hq : ¬ (20 * b ≤ q ∧ q < 20 * b + 20)) (hk : k < 20) : upd t5 (20 * b + k) x q = o5 q := by
  rw [pk_un (by omega)]
  exact h2 q hq
theorem hn_sy1 {t1 : Nat → Int32} {k : Nat} {f : Nat → Int32} (h1 : ∀ j, j < k → t1 j = f j) {j : Nat} (hj : j < k + 1) : upd t1 k (f k) j = f j := by
  by_cases e : j = k
  · rw [e, pk_us]
  · rw [pk_un e]; exact h1 j (by omega)
end
set_option maxHeartbeats 4000000 in
set_option maxRecDepth 100000 in
theorem cM_throwing_ok (l : Launch) (D : va_G) (cI cL : ClassId) (am : Nat → Nat) (τ : Nat → Nat → Int32) (x y : Int32) (sz : Nat) : Met l yM_throwing wM_throwing ({ frames := 0, cells := 0, slots := 0, locals := 0 }) (hn_PW D (hn_ty cI cL) (hn_wM am cI (τ)) sz [.ref (am 0), .int x, .int y]) (va_Qi (fun (r : Int32) (τ9 : Nat → Nat → Int32) => (¬ x = 0 ∧ r = 1 ∧ τ9 = hn_up τ 0 (upd (τ 0) 0 1)) ∨ (x = 0 ∧ ¬ y = 0 ∧ r = 1 ∧ τ9 = hn_up τ 0 (upd (τ 0) 0 2)) ∨ (x = 0 ∧ y = 0 ∧ r = 0 ∧ τ9 = hn_up τ 0 (upd (τ 0) 0 0))) (fun (τ9 : Nat → Nat → Int32) t => hn_at D (hn_ty cI cL) (va_A (hn_wM am cI (τ)) sz) (hn_wM am cI (τ9)) t) (va_A (hn_wM am cI (τ)) sz)) 0 0 (va_A (hn_wM am cI (τ)) sz) := by
  refine Met.ofW (cc := cM_throwing) (maxL := 3) (ret := (some .boolean)) (by decide) rfl ?_
  intro p e s m args below meth c s₁ B hml hv
  obtain ⟨rfl, hsz, hP, hK, hD0⟩ := hv
  subst hsz
  have hD := hD0.self (sz := s.heap.size)
  generalize hAe : va_A (hn_wM am cI (τ)) s.heap.size = A at hD ⊢
  have hA : ∀ q : Nat, s.heap.size ≤ q → A q := fun q h => by rw [← hAe]; exact Or.inr h
  have hS : va_S A s.heap s.heap [] := va_S.rf
  have hP : va_P D vwCl (hn_wM am cI (τ)) s.heap := hP
  have hx := B.exec
  have hb := B.bytes
  have hr := B.returns
  have hts0 := atoms_spec (ws := wM_throwing) B.pre
  have hts : ∀ w ∈ hn_tb, w.before _ s = true := fun w hw => hts0 w (List.mem_cons_of_mem _ hw)
  have hown : s.vm.findClass RM = some m.cls := findClass_of_methodNamed B.named
  have hlocks := B.notSynchronized
  have hl := lv_entry [.ref (am 0), .int x, .int y] (n := 3) (Nat.le_of_ble_eq_true rfl)
  rw [lg_entry_eq]
  generalize (lg_sl [.ref (am 0), .int x, .int y] ++ List.replicate (3 - (lg_sl [.ref (am 0), .int x, .int y]).length) Slot.unset).toArray = ls at hl ⊢
  have hl : lv_has ls 3 [(0, .ref (am 0)), (1, .int x), (2, .int y)] := hl
  refine lv_aload_n hx hb dM_throwing_0 rfl (lv_at hl 0 rfl) ?_
  refine lv_iload_n hx hb dM_throwing_1 rfl (lv_at hl 1 rfl) ?_
  refine lv_if_eq (tgt := 9) hx hb dM_throwing_2 (by decide) (fun c_1 => ?_) (fun c_1 => ?_)
  · skip
    refine lv_iload_n hx hb dM_throwing_9 rfl (lv_at hl 2 rfl) ?_
    refine lv_if_eq (tgt := 17) hx hb dM_throwing_10 (by decide) (fun c_2 => ?_) (fun c_2 => ?_)
    · skip
      refine lv_iconst (v := 0) hx hb dM_throwing_17 (by decide) ?_
      refine va_put (D := D) (ci := 1) (v := .int 0) (ty := .int) (C := RM) (T := FM) (N := 8) hx hb hts iM tM tM_ok nM hown hK hP hD hS 0 rfl rfl 0 (by decide) (hts _ mM_f_thrown) (fun _ h9 => h9) rfl (by decide +kernel) rfl rfl (Nat.le_of_ble_eq_true rfl) dM_throwing_18 (fun H locs hP hD hS => ?_)
      obtain ⟨τ1, eτ1⟩ : ∃ z : Nat → Nat → Int32, z = hn_up (τ) 0 (upd (τ 0) 0 0) := ⟨_, rfl⟩
      have hP : va_P D vwCl (hn_wM am cI (τ1)) H := by rw [eτ1]; exact hP
      have hD : va_D A (hn_wM am cI (τ1)) := by rw [eτ1]; exact hD
      refine lv_aload_n hx hb dM_throwing_21 rfl (lv_at hl 0 rfl) ?_
      refine va_get (D := D) (ci := 1) (v := .int (τ1 0 0)) (C := RM) (T := FM) (N := 8) hx hb hts iM hown hK hP 0 rfl rfl 0 (by decide) (hts _ mM_f_thrown) (fun _ h9 => h9) rfl dM_throwing_22 ?_
      refine lv_if_le (tgt := 32) hx hb dM_throwing_25 (by decide) (fun c_3 => ?_) (fun c_3 => absurd (show τ1 0 0 ≤ 0 by rw [eτ1]; show upd (τ 0) 0 0 0 ≤ 0; rw [pk_us]; decide) c_3)
      refine lv_iconst (v := 0) hx hb dM_throwing_32 (by decide) ?_
      exact W.zret (v := 0) hx hb hr rfl (fun t9 ht9 hW9 => ⟨⟨0, τ1, rfl, Or.inr (Or.inr ⟨c_1, c_2, rfl, eτ1⟩), by rw [ht9]; exact hP, va_K.moved hW9.alike hK, hD⟩, hS.F ht9⟩) hS.2.2 dM_throwing_33
    · skip
      refine lv_iconst (v := 2) hx hb dM_throwing_13 (by decide) ?_
      refine lv_goto (tgt := 18) hx hb dM_throwing_14 (by decide) ?_
      refine va_put (D := D) (ci := 1) (v := .int 2) (ty := .int) (C := RM) (T := FM) (N := 8) hx hb hts iM tM tM_ok nM hown hK hP hD hS 0 rfl rfl 0 (by decide) (hts _ mM_f_thrown) (fun _ h9 => h9) rfl (by decide +kernel) rfl rfl (Nat.le_of_ble_eq_true rfl) dM_throwing_18 (fun H locs hP hD hS => ?_)
      obtain ⟨τ1, eτ1⟩ : ∃ z : Nat → Nat → Int32, z = hn_up (τ) 0 (upd (τ 0) 0 2) := ⟨_, rfl⟩
      have hP : va_P D vwCl (hn_wM am cI (τ1)) H := by rw [eτ1]; exact hP
      have hD : va_D A (hn_wM am cI (τ1)) := by rw [eτ1]; exact hD
      refine lv_aload_n hx hb dM_throwing_21 rfl (lv_at hl 0 rfl) ?_
      refine va_get (D := D) (ci := 1) (v := .int (τ1 0 0)) (C := RM) (T := FM) (N := 8) hx hb hts iM hown hK hP 0 rfl rfl 0 (by decide) (hts _ mM_f_thrown) (fun _ h9 => h9) rfl dM_throwing_22 ?_
      refine lv_if_le (tgt := 32) hx hb dM_throwing_25 (by decide) (fun c_4 => absurd (show upd (τ 0) 0 2 0 ≤ 0 by rw [eτ1] at c_4; exact c_4) (by rw [pk_us]; decide)) (fun c_4 => ?_)
      refine lv_iconst (v := 1) hx hb dM_throwing_28 (by decide) ?_
      refine lv_goto (tgt := 33) hx hb dM_throwing_29 (by decide) ?_
      exact W.zret (v := 1) hx hb hr rfl (fun t9 ht9 hW9 => ⟨⟨1, τ1, rfl, Or.inr (Or.inl ⟨c_1, c_2, rfl, eτ1⟩), by rw [ht9]; exact hP, va_K.moved hW9.alike hK, hD⟩, hS.F ht9⟩) hS.2.2 dM_throwing_33
  · skip
    refine lv_iconst (v := 1) hx hb dM_throwing_5 (by decide) ?_
    refine lv_goto (tgt := 18) hx hb dM_throwing_6 (by decide) ?_
    refine va_put (D := D) (ci := 1) (v := .int 1) (ty := .int) (C := RM) (T := FM) (N := 8) hx hb hts iM tM tM_ok nM hown hK hP hD hS 0 rfl rfl 0 (by decide) (hts _ mM_f_thrown) (fun _ h9 => h9) rfl (by decide +kernel) rfl rfl (Nat.le_of_ble_eq_true rfl) dM_throwing_18 (fun H locs hP hD hS => ?_)
    obtain ⟨τ1, eτ1⟩ : ∃ z : Nat → Nat → Int32, z = hn_up (τ) 0 (upd (τ 0) 0 1) := ⟨_, rfl⟩
    have hP : va_P D vwCl (hn_wM am cI (τ1)) H := by rw [eτ1]; exact hP
    have hD : va_D A (hn_wM am cI (τ1)) := by rw [eτ1]; exact hD
    refine lv_aload_n hx hb dM_throwing_21 rfl (lv_at hl 0 rfl) ?_
    refine va_get (D := D) (ci := 1) (v := .int (τ1 0 0)) (C := RM) (T := FM) (N := 8) hx hb hts iM hown hK hP 0 rfl rfl 0 (by decide) (hts _ mM_f_thrown) (fun _ h9 => h9) rfl dM_throwing_22 ?_
    refine lv_if_le (tgt := 32) hx hb dM_throwing_25 (by decide) (fun c_5 => absurd (show upd (τ 0) 0 1 0 ≤ 0 by rw [eτ1] at c_5; exact c_5) (by rw [pk_us]; decide)) (fun c_5 => ?_)
    refine lv_iconst (v := 1) hx hb dM_throwing_28 (by decide) ?_
    refine lv_goto (tgt := 33) hx hb dM_throwing_29 (by decide) ?_
    exact W.zret (v := 1) hx hb hr rfl (fun t9 ht9 hW9 => ⟨⟨1, τ1, rfl, Or.inl ⟨c_1, rfl, eτ1⟩, by rw [ht9]; exact hP, va_K.moved hW9.alike hK, hD⟩, hS.F ht9⟩) hS.2.2 dM_throwing_33

set_option maxHeartbeats 4000000 in
set_option maxRecDepth 100000 in
theorem cM_move_ok (l : Launch) (D : va_G) (cI cL : ClassId) (am : Nat → Nat) (τ : Nat → Nat → Int32) (a b : Nat) (ha : a < 384) (hb9 : b < 384) (hab : a ≠ b) (sz : Nat) : Met l yM_move wM_move ({ frames := 0, cells := 0, slots := 0, locals := 0 }) (hn_PW D (hn_ty cI cL) (hn_wM am cI (τ)) sz [.ref (am 0), .int (nI a), .int (nI b)]) (va_Qv (fun (τ9 : Nat → Nat → Int32) => τ9 0 = τ 0 ∧ τ9 1 = τ 1 ∧ τ9 2 = τ 2 ∧ τ9 6 = τ 6 ∧ τ9 3 = upd (τ 3) b (τ 3 a) ∧ τ9 4 = upd (τ 4) b (τ 4 a) ∧ (∀ j, j < 20 → τ9 5 (20 * b + j) = τ 5 (20 * a + j)) ∧ ∀ q, ¬ (20 * b ≤ q ∧ q < 20 * b + 20) → τ9 5 q = τ 5 q) (fun (τ9 : Nat → Nat → Int32) t => hn_at D (hn_ty cI cL) (va_A (hn_wM am cI (τ)) sz) (hn_wM am cI (τ9)) t) (va_A (hn_wM am cI (τ)) sz)) 0 0 (va_A (hn_wM am cI (τ)) sz) := by
  refine Met.ofW (cc := cM_move) (maxL := 4) (ret := none) (by decide) rfl ?_
  intro p e s m args below meth c s₁ B hml hv
  obtain ⟨rfl, hsz, hP, hK, hD0⟩ := hv
  subst hsz
  have hD := hD0.self (sz := s.heap.size)
  generalize hAe : va_A (hn_wM am cI (τ)) s.heap.size = A at hD ⊢
  have hA : ∀ q : Nat, s.heap.size ≤ q → A q := fun q h => by rw [← hAe]; exact Or.inr h
  have hS : va_S A s.heap s.heap [] := va_S.rf
  have hP : va_P D vwCl (hn_wM am cI (τ)) s.heap := hP
  have hx := B.exec
  have hb := B.bytes
  have hr := B.returns
  have hts0 := atoms_spec (ws := wM_move) B.pre
  have hts : ∀ w ∈ hn_tb, w.before _ s = true := fun w hw => hts0 w (List.mem_cons_of_mem _ hw)
  have hown : s.vm.findClass RM = some m.cls := findClass_of_methodNamed B.named
  have hlocks := B.notSynchronized
  have hl := lv_entry [.ref (am 0), .int (nI a), .int (nI b)] (n := 4) (Nat.le_of_ble_eq_true rfl)
  rw [lg_entry_eq]
  generalize (lg_sl [.ref (am 0), .int (nI a), .int (nI b)] ++ List.replicate (4 - (lg_sl [.ref (am 0), .int (nI a), .int (nI b)]).length) Slot.unset).toArray = ls at hl ⊢
  have hl : lv_has ls 4 [(0, .ref (am 0)), (1, .int (nI a)), (2, .int (nI b))] := hl
  refine lv_aload_n hx hb dM_move_0 rfl (lv_at hl 0 rfl) ?_
  refine va_get (D := D) (ci := 1) (v := .ref (am 3)) (C := RM) (T := FM) (N := 8) hx hb hts iM hown hK hP 0 rfl rfl 3 (by decide) (hts _ mM_f_id) (fun _ h9 => h9) rfl dM_move_1 ?_
  refine lv_iload_n hx hb dM_move_4 rfl (lv_at hl 2 rfl) ?_
  refine lv_aload_n hx hb dM_move_5 rfl (lv_at hl 0 rfl) ?_
  refine va_get (D := D) (ci := 1) (v := .ref (am 3)) (C := RM) (T := FM) (N := 8) hx hb hts iM hown hK hP 0 rfl rfl 3 (by decide) (hts _ mM_f_id) (fun _ h9 => h9) rfl dM_move_6 ?_
  refine lv_iload_n hx hb dM_move_9 rfl (lv_at hl 1 rfl) ?_
  refine va_iald hx hb hK hP 3 0 rfl rfl (vp_in_nI (show a < 384 from ha) (by omega)) dM_move_10 ?_
  rw [nI_clamp (show a < 2 ^ 31 by omega)]
  refine va_iast hx hb hK hP hD hS 3 0 rfl rfl (vp_in_nI (show b < 384 from hb9) (by omega)) dM_move_11 (fun H locs hP hD hS => ?_)
  rw [nI_clamp (show b < 2 ^ 31 by omega)] at hP hD
  obtain ⟨τ1, eτ1⟩ : ∃ z : Nat → Nat → Int32, z = hn_up (τ) 3 (upd (τ 3) b (τ 3 a)) := ⟨_, rfl⟩
  have hP : va_P D vwCl (hn_wM am cI (τ1)) H := by rw [eτ1]; exact hP
  have hD : va_D A (hn_wM am cI (τ1)) := by rw [eτ1]; exact hD
  refine lv_aload_n hx hb dM_move_12 rfl (lv_at hl 0 rfl) ?_
  refine va_get (D := D) (ci := 1) (v := .ref (am 4)) (C := RM) (T := FM) (N := 8) hx hb hts iM hown hK hP 0 rfl rfl 4 (by decide) (hts _ mM_f_length) (fun _ h9 => h9) rfl dM_move_13 ?_
  refine lv_iload_n hx hb dM_move_16 rfl (lv_at hl 2 rfl) ?_
  refine lv_aload_n hx hb dM_move_17 rfl (lv_at hl 0 rfl) ?_
  refine va_get (D := D) (ci := 1) (v := .ref (am 4)) (C := RM) (T := FM) (N := 8) hx hb hts iM hown hK hP 0 rfl rfl 4 (by decide) (hts _ mM_f_length) (fun _ h9 => h9) rfl dM_move_18 ?_
  refine lv_iload_n hx hb dM_move_21 rfl (lv_at hl 1 rfl) ?_
  refine va_iald hx hb hK hP 4 0 rfl rfl (vp_in_nI (show a < 384 from ha) (by omega)) dM_move_22 ?_
  rw [nI_clamp (show a < 2 ^ 31 by omega)]
  refine va_iast hx hb hK hP hD hS 4 0 rfl rfl (vp_in_nI (show b < 384 from hb9) (by omega)) dM_move_23 (fun H locs hP hD hS => ?_)
  rw [nI_clamp (show b < 2 ^ 31 by omega)] at hP hD
  obtain ⟨τ2, eτ2⟩ : ∃ z : Nat → Nat → Int32, z = hn_up (τ1) 4 (upd (τ1 4) b (τ1 4 a)) := ⟨_, rfl⟩
  have hP : va_P D vwCl (hn_wM am cI (τ2)) H := by rw [eτ2]; exact hP
  have hD : va_D A (hn_wM am cI (τ2)) := by rw [eτ2]; exact hD
  refine lv_iconst (v := 0) hx hb dM_move_24 (by decide) ?_
  refine lv_istore_n (lv' := [(3, .int 0), (0, .ref (am 0)), (1, .int (nI a)), (2, .int (nI b))]) hx hb dM_move_25 rfl hl (by decide) rfl (fun ls hl => ?_)
  have hI : τ2 0 = τ 0 ∧ τ2 1 = τ 1 ∧ τ2 2 = τ 2 ∧ τ2 6 = τ 6 ∧ τ2 3 = upd (τ 3) b (τ 3 a) ∧ τ2 4 = upd (τ 4) b (τ 4 a) ∧ (∀ j, j < 0 → τ2 5 (20 * b + j) = τ 5 (20 * a + j)) ∧ ∀ q, ¬ (20 * b ≤ q ∧ q < 20 * b + 20) → τ2 5 q = τ 5 q := by rw [eτ2, eτ1]; exact ⟨rfl, rfl, rfl, rfl, rfl, rfl, fun j z => absurd z (Nat.not_lt_zero _), fun q _ => rfl⟩
  suffices loop : ∀ (f k : Nat) (τ3 : Nat → Nat → Int32) (H : Heap) (locs : List Loc), k + f = 20 → va_P D vwCl (hn_wM am cI τ3) H → va_D A (hn_wM am cI τ3) → va_S A s.heap H locs → (τ3 0 = τ 0 ∧ τ3 1 = τ 1 ∧ τ3 2 = τ 2 ∧ τ3 6 = τ 6 ∧ τ3 3 = upd (τ 3) b (τ 3 a) ∧ τ3 4 = upd (τ 4) b (τ 4 a) ∧ (∀ j, j < k → τ3 5 (20 * b + j) = τ 5 (20 * a + j)) ∧ ∀ q, ¬ (20 * b ≤ q ∧ q < 20 * b + 20) → τ3 5 q = τ 5 q) → ∀ ls : Array Slot, lv_has ls 4 [(0, .ref (am 0)), (1, .int (nI a)), (2, .int (nI b)), (3, .int (nI k))] → W p l e (headSpec wM_move ({ frames := 0, cells := 0, slots := 0, locals := 0 })).room s m [.ref (am 0), .int (nI a), .int (nI b)].toArray below meth c H locs 0 0 (MQ below (va_Qv (fun (τ9 : Nat → Nat → Int32) => τ9 0 = τ 0 ∧ τ9 1 = τ 1 ∧ τ9 2 = τ 2 ∧ τ9 6 = τ 6 ∧ τ9 3 = upd (τ 3) b (τ 3 a) ∧ τ9 4 = upd (τ 4) b (τ 4 a) ∧ (∀ j, j < 20 → τ9 5 (20 * b + j) = τ 5 (20 * a + j)) ∧ ∀ q, ¬ (20 * b ≤ q ∧ q < 20 * b + 20) → τ9 5 q = τ 5 q) (fun (τ9 : Nat → Nat → Int32) t => hn_at D (hn_ty cI cL) A (hn_wM am cI (τ9)) t) A) [.ref (am 0), .int (nI a), .int (nI b)].toArray s 0 0 A) (F0 m 26 ls []) from loop 20 0 τ2 _ _ rfl hP hD hS hI ls (lv_sub hl [1, 2, 3, 0] rfl)
  intro f
  induction f with
  | zero =>
    intro k τ3 H locs hf hP hD hS hI ls hl
    have hf : k = 20 := hf
    subst hf
    refine lv_iload_n hx hb dM_move_26 rfl (lv_at hl 3 rfl) ?_
    refine lv_bipush (v := 20) hx hb dM_move_27 (by decide) ?_
    refine lv_icmp_ge (tgt := 60) hx hb dM_move_29 (by decide) (fun c_6 => ?_) (fun c_6 => absurd (show (20 : Int32) ≤ nI 20 by decide) c_6)
    exact W.vret hx hb hr (fun t9 ht9 hW9 => ⟨⟨τ3, rfl, hI, by rw [ht9]; exact hP, va_K.moved hW9.alike hK, hD⟩, hS.F ht9⟩) hS.2.2 dM_move_60
  | succ f ih =>
    intro k τ3 H locs hf hP hD hS hI ls hl
    refine lv_iload_n hx hb dM_move_26 rfl (lv_at hl 3 rfl) ?_
    refine lv_bipush (v := 20) hx hb dM_move_27 (by decide) ?_
    refine lv_icmp_ge (tgt := 60) hx hb dM_move_29 (by decide) (fun c_7 => absurd c_7 (nI_ge (a := k) (b := 20) (by omega) (by decide))) (fun c_7 => ?_)
    refine lv_aload_n hx hb dM_move_32 rfl (lv_at hl 0 rfl) ?_
    refine va_get (D := D) (ci := 1) (v := .ref (am 5)) (C := RM) (T := FM) (N := 8) hx hb hts iM hown hK hP 0 rfl rfl 5 (by decide) (hts _ mM_f_bytes) (fun _ h9 => h9) rfl dM_move_33 ?_
    refine lv_bipush (v := 20) hx hb dM_move_36 (by decide) ?_
    refine lv_iload_n hx hb dM_move_38 rfl (lv_at hl 2 rfl) ?_
    refine lv_imul hx hb dM_move_39 ?_
    refine lv_iload_n hx hb dM_move_40 rfl (lv_at hl 3 rfl) ?_
    refine lv_iadd hx hb dM_move_41 ?_
    rw [show ((20 * (nI b)) + (nI k) : Int32) = nI (20 * b + k) from by rw [show (20 : Int32) = nI 20 from rfl, pk_mul, nI_add]]
    refine lv_aload_n hx hb dM_move_42 rfl (lv_at hl 0 rfl) ?_
    refine va_get (D := D) (ci := 1) (v := .ref (am 5)) (C := RM) (T := FM) (N := 8) hx hb hts iM hown hK hP 0 rfl rfl 5 (by decide) (hts _ mM_f_bytes) (fun _ h9 => h9) rfl dM_move_43 ?_
    refine lv_bipush (v := 20) hx hb dM_move_46 (by decide) ?_
    refine lv_iload_n hx hb dM_move_48 rfl (lv_at hl 1 rfl) ?_
    refine lv_imul hx hb dM_move_49 ?_
    refine lv_iload_n hx hb dM_move_50 rfl (lv_at hl 3 rfl) ?_
    refine lv_iadd hx hb dM_move_51 ?_
    rw [show ((20 * (nI a)) + (nI k) : Int32) = nI (20 * a + k) from by rw [show (20 : Int32) = nI 20 from rfl, pk_mul, nI_add]]
    refine va_iald hx hb hK hP 5 0 rfl rfl (vp_in_nI (show 20 * a + k < 7680 from by omega) (by omega)) dM_move_52 ?_
    rw [nI_clamp (show 20 * a + k < 2 ^ 31 by omega)]
    refine va_iast hx hb hK hP hD hS 5 0 rfl rfl (vp_in_nI (show 20 * b + k < 7680 from by omega) (by omega)) dM_move_53 (fun H locs hP hD hS => ?_)
    rw [nI_clamp (show 20 * b + k < 2 ^ 31 by omega)] at hP hD
    obtain ⟨τ4, eτ4⟩ : ∃ z : Nat → Nat → Int32, z = hn_up (τ3) 5 (upd (τ3 5) (20 * b + k) (τ3 5 (20 * a + k))) := ⟨_, rfl⟩
    have hP : va_P D vwCl (hn_wM am cI (τ4)) H := by rw [eτ4]; exact hP
    have hD : va_D A (hn_wM am cI (τ4)) := by rw [eτ4]; exact hD
    refine lv_iinc (v := nI (k + 1)) (lv' := [(3, .int (nI (k + 1))), (0, .ref (am 0)), (1, .int (nI a)), (2, .int (nI b))]) hx hb dM_move_54 hl (k := 3) rfl (nI_1 k) (by decide) rfl (fun ls hl => ?_)
    refine lv_goto (tgt := 26) hx hb dM_move_57 (by decide) ?_
    obtain ⟨i0, i1, i2, i6, i3, i4, i5, i7⟩ := hI
    exact ih (k + 1) τ4 H locs (by omega) hP hD hS (by rw [eτ4]; exact ⟨i0, i1, i2, i6, i3, i4, fun j hj => hn_mv1 i5 i7 hj hab (by omega), fun q hq => hn_mv2 i7 hq (by omega)⟩) ls (lv_sub hl [1, 2, 3, 0] rfl)

set_option maxHeartbeats 4000000 in
set_option maxRecDepth 100000 in
theorem cM_say_ok (l : Launch) (D : va_G) (cI cL : ClassId) (am : Nat → Nat) (τ : Nat → Nat → Int32) (a b c9 d e9 : Int32) (sz : Nat) : Met l yM_say wM_say ({ frames := 0, cells := 0, slots := 0, locals := 0 }) (hn_PW D (hn_ty cI cL) (hn_wM am cI (τ)) sz [.ref (am 0), .int a, .int b, .int c9, .int d, .int e9]) (va_Qv (fun (τ9 : Nat → Nat → Int32) => τ9 0 = upd (τ 0) 0 0 ∧ τ9 2 = τ 2 ∧ τ9 3 = τ 3 ∧ τ9 4 = τ 4 ∧ τ9 5 = τ 5 ∧ τ9 6 = τ 6 ∧ ∀ j, j < 20 → τ9 1 j = nI (hn_by (hn_w5 a b c9 d e9) j)) (fun (τ9 : Nat → Nat → Int32) t => hn_at D (hn_ty cI cL) (va_A (hn_wM am cI (τ)) sz) (hn_wM am cI (τ9)) t) (va_A (hn_wM am cI (τ)) sz)) 0 0 (va_A (hn_wM am cI (τ)) sz) := by
  refine Met.ofW (cc := cM_say) (maxL := 8) (ret := none) (by decide) rfl ?_
  intro p e s m args below meth c s₁ B hml hv
  obtain ⟨rfl, hsz, hP, hK, hD0⟩ := hv
  subst hsz
  have hD := hD0.self (sz := s.heap.size)
  generalize hAe : va_A (hn_wM am cI (τ)) s.heap.size = A at hD ⊢
  have hA : ∀ q : Nat, s.heap.size ≤ q → A q := fun q h => by rw [← hAe]; exact Or.inr h
  have hS : va_S A s.heap s.heap [] := va_S.rf
  have hP : va_P D vwCl (hn_wM am cI (τ)) s.heap := hP
  have hx := B.exec
  have hb := B.bytes
  have hr := B.returns
  have hts0 := atoms_spec (ws := wM_say) B.pre
  have hts : ∀ w ∈ hn_tb, w.before _ s = true := fun w hw => hts0 w (List.mem_cons_of_mem _ hw)
  have hown : s.vm.findClass RM = some m.cls := findClass_of_methodNamed B.named
  have hlocks := B.notSynchronized
  have hl := lv_entry [.ref (am 0), .int a, .int b, .int c9, .int d, .int e9] (n := 8) (Nat.le_of_ble_eq_true rfl)
  rw [lg_entry_eq]
  generalize (lg_sl [.ref (am 0), .int a, .int b, .int c9, .int d, .int e9] ++ List.replicate (8 - (lg_sl [.ref (am 0), .int a, .int b, .int c9, .int d, .int e9]).length) Slot.unset).toArray = ls at hl ⊢
  have hl : lv_has ls 8 [(0, .ref (am 0)), (1, .int a), (2, .int b), (3, .int c9), (4, .int d), (5, .int e9)] := hl
  refine lv_aload_n hx hb dM_say_0 rfl (lv_at hl 0 rfl) ?_
  refine lv_iconst (v := 0) hx hb dM_say_1 (by decide) ?_
  refine va_put (D := D) (ci := 1) (v := .int 0) (ty := .int) (C := RM) (T := FM) (N := 8) hx hb hts iM tM tM_ok nM hown hK hP hD hS 0 rfl rfl 0 (by decide) (hts _ mM_f_thrown) (fun _ h9 => h9) rfl (by decide +kernel) rfl rfl (Nat.le_of_ble_eq_true rfl) dM_say_2 (fun H locs hP hD hS => ?_)
  obtain ⟨τ1, eτ1⟩ : ∃ z : Nat → Nat → Int32, z = hn_up (τ) 0 (upd (τ 0) 0 0) := ⟨_, rfl⟩
  have hP : va_P D vwCl (hn_wM am cI (τ1)) H := by rw [eτ1]; exact hP
  have hD : va_D A (hn_wM am cI (τ1)) := by rw [eτ1]; exact hD
  refine lv_iconst (v := 0) hx hb dM_say_5 (by decide) ?_
  refine lv_istore (lv' := [(6, .int 0), (0, .ref (am 0)), (1, .int a), (2, .int b), (3, .int c9), (4, .int d), (5, .int e9)]) hx hb dM_say_6 hl (by decide) rfl (fun ls hl => ?_)
  have hI : τ1 0 = upd (τ 0) 0 0 ∧ τ1 2 = τ 2 ∧ τ1 3 = τ 3 ∧ τ1 4 = τ 4 ∧ τ1 5 = τ 5 ∧ τ1 6 = τ 6 ∧ ∀ j, j < 0 → τ1 1 j = nI (hn_by (hn_w5 a b c9 d e9) j) := by rw [eτ1]; exact ⟨rfl, rfl, rfl, rfl, rfl, rfl, fun j z => absurd z (Nat.not_lt_zero _)⟩
  suffices loop : ∀ (f k : Nat) (τ3 : Nat → Nat → Int32) (H : Heap) (locs : List Loc), k + f = 20 → va_P D vwCl (hn_wM am cI τ3) H → va_D A (hn_wM am cI τ3) → va_S A s.heap H locs → (τ3 0 = upd (τ 0) 0 0 ∧ τ3 2 = τ 2 ∧ τ3 3 = τ 3 ∧ τ3 4 = τ 4 ∧ τ3 5 = τ 5 ∧ τ3 6 = τ 6 ∧ ∀ j, j < k → τ3 1 j = nI (hn_by (hn_w5 a b c9 d e9) j)) → ∀ ls : Array Slot, lv_has ls 8 [(0, .ref (am 0)), (1, .int a), (2, .int b), (3, .int c9), (4, .int d), (5, .int e9), (6, .int (nI k))] → W p l e (headSpec wM_say ({ frames := 0, cells := 0, slots := 0, locals := 0 })).room s m [.ref (am 0), .int a, .int b, .int c9, .int d, .int e9].toArray below meth c H locs 0 0 (MQ below (va_Qv (fun (τ9 : Nat → Nat → Int32) => τ9 0 = upd (τ 0) 0 0 ∧ τ9 2 = τ 2 ∧ τ9 3 = τ 3 ∧ τ9 4 = τ 4 ∧ τ9 5 = τ 5 ∧ τ9 6 = τ 6 ∧ ∀ j, j < 20 → τ9 1 j = nI (hn_by (hn_w5 a b c9 d e9) j)) (fun (τ9 : Nat → Nat → Int32) t => hn_at D (hn_ty cI cL) A (hn_wM am cI (τ9)) t) A) [.ref (am 0), .int a, .int b, .int c9, .int d, .int e9].toArray s 0 0 A) (F0 m 8 ls []) from loop 20 0 τ1 _ _ rfl hP hD hS hI ls (lv_sub hl [1, 2, 3, 4, 5, 6, 0] rfl)
  intro f
  induction f with
  | zero =>
    intro k τ3 H locs hf hP hD hS hI ls hl
    have hf : k = 20 := hf
    subst hf
    refine lv_iload hx hb dM_say_8 (lv_at hl 6 rfl) ?_
    refine lv_bipush (v := 20) hx hb dM_say_10 (by decide) ?_
    refine lv_icmp_ge (tgt := 93) hx hb dM_say_12 (by decide) (fun c_8 => ?_) (fun c_8 => absurd (show (20 : Int32) ≤ nI 20 by decide) c_8)
    exact W.vret hx hb hr (fun t9 ht9 hW9 => ⟨⟨τ3, rfl, hI, by rw [ht9]; exact hP, va_K.moved hW9.alike hK, hD⟩, hS.F ht9⟩) hS.2.2 dM_say_93
  | succ f ih =>
    intro k τ3 H locs hf hP hD hS hI ls hl
    refine lv_iload hx hb dM_say_8 (lv_at hl 6 rfl) ?_
    refine lv_bipush (v := 20) hx hb dM_say_10 (by decide) ?_
    refine lv_icmp_ge (tgt := 93) hx hb dM_say_12 (by decide) (fun c_9 => absurd c_9 (nI_ge (a := k) (b := 20) (by omega) (by decide))) (fun c_9 => ?_)
    refine lv_iload hx hb dM_say_15 (lv_at hl 6 rfl) ?_
    refine lv_iconst (v := 4) hx hb dM_say_17 (by decide) ?_
    refine lv_icmp_ge (tgt := 25) hx hb dM_say_18 (by decide) (fun c_10 => ?_) (fun c_10 => ?_)
    · skip
      have h_c_10 : 4 ≤ k := (nI_leI (a := 4) (by decide) (by omega)).mp c_10
      refine lv_iload hx hb dM_say_25 (lv_at hl 6 rfl) ?_
      refine lv_bipush (v := 8) hx hb dM_say_27 (by decide) ?_
      refine lv_icmp_ge (tgt := 36) hx hb dM_say_29 (by decide) (fun c_11 => ?_) (fun c_11 => ?_)
      · skip
        have h_c_11 : 8 ≤ k := (nI_leI (a := 8) (by decide) (by omega)).mp c_11
        refine lv_iload hx hb dM_say_36 (lv_at hl 6 rfl) ?_
        refine lv_bipush (v := 12) hx hb dM_say_38 (by decide) ?_
        refine lv_icmp_ge (tgt := 47) hx hb dM_say_40 (by decide) (fun c_12 => ?_) (fun c_12 => ?_)
        · skip
          have h_c_12 : 12 ≤ k := (nI_leI (a := 12) (by decide) (by omega)).mp c_12
          refine lv_iload hx hb dM_say_47 (lv_at hl 6 rfl) ?_
          refine lv_bipush (v := 16) hx hb dM_say_49 (by decide) ?_
          refine lv_icmp_ge (tgt := 59) hx hb dM_say_51 (by decide) (fun c_13 => ?_) (fun c_13 => ?_)
          · skip
            have h_c_13 : 16 ≤ k := (nI_leI (a := 16) (by decide) (by omega)).mp c_13
            have hq4 : k / 4 = 4 := by omega
            refine lv_iload hx hb dM_say_59 (lv_at hl 5 rfl) ?_
            refine lv_istore (lv' := [(7, .int e9), (0, .ref (am 0)), (1, .int a), (2, .int b), (3, .int c9), (4, .int d), (5, .int e9), (6, .int (nI k))]) hx hb dM_say_61 hl (by decide) rfl (fun ls hl => ?_)
            refine lv_aload_n hx hb dM_say_63 rfl (lv_at hl 1 rfl) ?_
            refine va_get (D := D) (ci := 1) (v := .ref (am 1)) (C := RM) (T := FM) (N := 8) hx hb hts iM hown hK hP 0 rfl rfl 1 (by decide) (hts _ mM_f_hand) (fun _ h9 => h9) rfl dM_say_64 ?_
            refine lv_iload hx hb dM_say_67 (lv_at hl 7 rfl) ?_
            refine lv_iload hx hb dM_say_69 (lv_at hl 0 rfl) ?_
            refine lv_bipush (v := 24) hx hb dM_say_71 (by decide) ?_
            refine lv_bipush (v := 8) hx hb dM_say_73 (by decide) ?_
            refine lv_iload hx hb dM_say_75 (lv_at hl 7 rfl) ?_
            refine lv_iconst (v := 4) hx hb dM_say_77 (by decide) ?_
            refine lv_irem hx hb dM_say_78 (by decide) ?_
            rw [show ((nI k) - (nI k) / 4 * 4 : Int32) = nI (k % 4) from pk_rem (d := 4) (by omega) (by decide) (by decide)]
            refine lv_imul hx hb dM_say_79 ?_
            rw [show (8 * (nI (k % 4)) : Int32) = nI (8 * (k % 4)) from pk_mul 8 (k % 4)]
            refine lv_isub hx hb dM_say_80 ?_
            rw [show (24 - (nI (8 * (k % 4))) : Int32) = nI (24 - 8 * (k % 4)) from pk_sub (a := 24) (by omega)]
            refine lv_ishr hx hb dM_say_81 ?_
            refine lv_sipush (v := 255) hx hb dM_say_82 (by decide) ?_
            refine lv_iand hx hb dM_say_85 ?_
            rw [show ((e9 >>> ((nI (24 - 8 * (k % 4))) &&& 31)) &&& 255 : Int32) = nI (hn_by (hn_w5 a b c9 d e9) k) from by rw [hn_sby e9 (k := k % 4) (by omega)]; unfold hn_by; rw [hq4]; rfl]
            refine va_iast hx hb hK hP hD hS 1 0 rfl rfl (vp_in_nI (show k < 20 from by omega) (by omega)) dM_say_86 (fun H locs hP hD hS => ?_)
            rw [nI_clamp (show k < 2 ^ 31 by omega)] at hP hD
            obtain ⟨τ4, eτ4⟩ : ∃ z : Nat → Nat → Int32, z = hn_up (τ3) 1 (upd (τ3 1) k (nI (hn_by (hn_w5 a b c9 d e9) k))) := ⟨_, rfl⟩
            have hP : va_P D vwCl (hn_wM am cI (τ4)) H := by rw [eτ4]; exact hP
            have hD : va_D A (hn_wM am cI (τ4)) := by rw [eτ4]; exact hD
            refine lv_iinc (v := nI (k + 1)) (lv' := [(6, .int (nI (k + 1))), (7, .int e9), (0, .ref (am 0)), (1, .int a), (2, .int b), (3, .int c9), (4, .int d), (5, .int e9)]) hx hb dM_say_87 hl (k := 7) rfl (nI_1 k) (by decide) rfl (fun ls hl => ?_)
            refine lv_goto (tgt := 8) hx hb dM_say_90 (by decide) ?_
            obtain ⟨i0, i2, i3, i4, i5, i6, i1⟩ := hI
            exact ih (k + 1) τ4 H locs (by omega) hP hD hS (by rw [eτ4]; exact ⟨i0, i2, i3, i4, i5, i6, fun j hj => hn_sy1 i1 hj⟩) ls (lv_sub hl [2, 3, 4, 5, 6, 7, 0] rfl)
          · skip
            have h_c_13 : k < 16 := Nat.lt_of_not_le (fun z => c_13 (nI_le (b := k) (a := 16) z (by omega)))
            have hq4 : k / 4 = 3 := by omega
            refine lv_iload hx hb dM_say_54 (lv_at hl 4 rfl) ?_
            refine lv_goto (tgt := 61) hx hb dM_say_56 (by decide) ?_
            refine lv_istore (lv' := [(7, .int d), (0, .ref (am 0)), (1, .int a), (2, .int b), (3, .int c9), (4, .int d), (5, .int e9), (6, .int (nI k))]) hx hb dM_say_61 hl (by decide) rfl (fun ls hl => ?_)
            refine lv_aload_n hx hb dM_say_63 rfl (lv_at hl 1 rfl) ?_
            refine va_get (D := D) (ci := 1) (v := .ref (am 1)) (C := RM) (T := FM) (N := 8) hx hb hts iM hown hK hP 0 rfl rfl 1 (by decide) (hts _ mM_f_hand) (fun _ h9 => h9) rfl dM_say_64 ?_
            refine lv_iload hx hb dM_say_67 (lv_at hl 7 rfl) ?_
            refine lv_iload hx hb dM_say_69 (lv_at hl 0 rfl) ?_
            refine lv_bipush (v := 24) hx hb dM_say_71 (by decide) ?_
            refine lv_bipush (v := 8) hx hb dM_say_73 (by decide) ?_
            refine lv_iload hx hb dM_say_75 (lv_at hl 7 rfl) ?_
            refine lv_iconst (v := 4) hx hb dM_say_77 (by decide) ?_
            refine lv_irem hx hb dM_say_78 (by decide) ?_
            rw [show ((nI k) - (nI k) / 4 * 4 : Int32) = nI (k % 4) from pk_rem (d := 4) (by omega) (by decide) (by decide)]
            refine lv_imul hx hb dM_say_79 ?_
            rw [show (8 * (nI (k % 4)) : Int32) = nI (8 * (k % 4)) from pk_mul 8 (k % 4)]
            refine lv_isub hx hb dM_say_80 ?_
            rw [show (24 - (nI (8 * (k % 4))) : Int32) = nI (24 - 8 * (k % 4)) from pk_sub (a := 24) (by omega)]
            refine lv_ishr hx hb dM_say_81 ?_
            refine lv_sipush (v := 255) hx hb dM_say_82 (by decide) ?_
            refine lv_iand hx hb dM_say_85 ?_
            rw [show ((d >>> ((nI (24 - 8 * (k % 4))) &&& 31)) &&& 255 : Int32) = nI (hn_by (hn_w5 a b c9 d e9) k) from by rw [hn_sby d (k := k % 4) (by omega)]; unfold hn_by; rw [hq4]; rfl]
            refine va_iast hx hb hK hP hD hS 1 0 rfl rfl (vp_in_nI (show k < 20 from by omega) (by omega)) dM_say_86 (fun H locs hP hD hS => ?_)
            rw [nI_clamp (show k < 2 ^ 31 by omega)] at hP hD
            obtain ⟨τ4, eτ4⟩ : ∃ z : Nat → Nat → Int32, z = hn_up (τ3) 1 (upd (τ3 1) k (nI (hn_by (hn_w5 a b c9 d e9) k))) := ⟨_, rfl⟩
            have hP : va_P D vwCl (hn_wM am cI (τ4)) H := by rw [eτ4]; exact hP
            have hD : va_D A (hn_wM am cI (τ4)) := by rw [eτ4]; exact hD
            refine lv_iinc (v := nI (k + 1)) (lv' := [(6, .int (nI (k + 1))), (7, .int d), (0, .ref (am 0)), (1, .int a), (2, .int b), (3, .int c9), (4, .int d), (5, .int e9)]) hx hb dM_say_87 hl (k := 7) rfl (nI_1 k) (by decide) rfl (fun ls hl => ?_)
            refine lv_goto (tgt := 8) hx hb dM_say_90 (by decide) ?_
            obtain ⟨i0, i2, i3, i4, i5, i6, i1⟩ := hI
            exact ih (k + 1) τ4 H locs (by omega) hP hD hS (by rw [eτ4]; exact ⟨i0, i2, i3, i4, i5, i6, fun j hj => hn_sy1 i1 hj⟩) ls (lv_sub hl [2, 3, 4, 5, 6, 7, 0] rfl)
        · skip
          have h_c_12 : k < 12 := Nat.lt_of_not_le (fun z => c_12 (nI_le (b := k) (a := 12) z (by omega)))
          have hq4 : k / 4 = 2 := by omega
          refine lv_iload_n hx hb dM_say_43 rfl (lv_at hl 3 rfl) ?_
          refine lv_goto (tgt := 61) hx hb dM_say_44 (by decide) ?_
          refine lv_istore (lv' := [(7, .int c9), (0, .ref (am 0)), (1, .int a), (2, .int b), (3, .int c9), (4, .int d), (5, .int e9), (6, .int (nI k))]) hx hb dM_say_61 hl (by decide) rfl (fun ls hl => ?_)
          refine lv_aload_n hx hb dM_say_63 rfl (lv_at hl 1 rfl) ?_
          refine va_get (D := D) (ci := 1) (v := .ref (am 1)) (C := RM) (T := FM) (N := 8) hx hb hts iM hown hK hP 0 rfl rfl 1 (by decide) (hts _ mM_f_hand) (fun _ h9 => h9) rfl dM_say_64 ?_
          refine lv_iload hx hb dM_say_67 (lv_at hl 7 rfl) ?_
          refine lv_iload hx hb dM_say_69 (lv_at hl 0 rfl) ?_
          refine lv_bipush (v := 24) hx hb dM_say_71 (by decide) ?_
          refine lv_bipush (v := 8) hx hb dM_say_73 (by decide) ?_
          refine lv_iload hx hb dM_say_75 (lv_at hl 7 rfl) ?_
          refine lv_iconst (v := 4) hx hb dM_say_77 (by decide) ?_
          refine lv_irem hx hb dM_say_78 (by decide) ?_
          rw [show ((nI k) - (nI k) / 4 * 4 : Int32) = nI (k % 4) from pk_rem (d := 4) (by omega) (by decide) (by decide)]
          refine lv_imul hx hb dM_say_79 ?_
          rw [show (8 * (nI (k % 4)) : Int32) = nI (8 * (k % 4)) from pk_mul 8 (k % 4)]
          refine lv_isub hx hb dM_say_80 ?_
          rw [show (24 - (nI (8 * (k % 4))) : Int32) = nI (24 - 8 * (k % 4)) from pk_sub (a := 24) (by omega)]
          refine lv_ishr hx hb dM_say_81 ?_
          refine lv_sipush (v := 255) hx hb dM_say_82 (by decide) ?_
          refine lv_iand hx hb dM_say_85 ?_
          rw [show ((c9 >>> ((nI (24 - 8 * (k % 4))) &&& 31)) &&& 255 : Int32) = nI (hn_by (hn_w5 a b c9 d e9) k) from by rw [hn_sby c9 (k := k % 4) (by omega)]; unfold hn_by; rw [hq4]; rfl]
          refine va_iast hx hb hK hP hD hS 1 0 rfl rfl (vp_in_nI (show k < 20 from by omega) (by omega)) dM_say_86 (fun H locs hP hD hS => ?_)
          rw [nI_clamp (show k < 2 ^ 31 by omega)] at hP hD
          obtain ⟨τ4, eτ4⟩ : ∃ z : Nat → Nat → Int32, z = hn_up (τ3) 1 (upd (τ3 1) k (nI (hn_by (hn_w5 a b c9 d e9) k))) := ⟨_, rfl⟩
          have hP : va_P D vwCl (hn_wM am cI (τ4)) H := by rw [eτ4]; exact hP
          have hD : va_D A (hn_wM am cI (τ4)) := by rw [eτ4]; exact hD
          refine lv_iinc (v := nI (k + 1)) (lv' := [(6, .int (nI (k + 1))), (7, .int c9), (0, .ref (am 0)), (1, .int a), (2, .int b), (3, .int c9), (4, .int d), (5, .int e9)]) hx hb dM_say_87 hl (k := 7) rfl (nI_1 k) (by decide) rfl (fun ls hl => ?_)
          refine lv_goto (tgt := 8) hx hb dM_say_90 (by decide) ?_
          obtain ⟨i0, i2, i3, i4, i5, i6, i1⟩ := hI
          exact ih (k + 1) τ4 H locs (by omega) hP hD hS (by rw [eτ4]; exact ⟨i0, i2, i3, i4, i5, i6, fun j hj => hn_sy1 i1 hj⟩) ls (lv_sub hl [2, 3, 4, 5, 6, 7, 0] rfl)
      · skip
        have h_c_11 : k < 8 := Nat.lt_of_not_le (fun z => c_11 (nI_le (b := k) (a := 8) z (by omega)))
        have hq4 : k / 4 = 1 := by omega
        refine lv_iload_n hx hb dM_say_32 rfl (lv_at hl 2 rfl) ?_
        refine lv_goto (tgt := 61) hx hb dM_say_33 (by decide) ?_
        refine lv_istore (lv' := [(7, .int b), (0, .ref (am 0)), (1, .int a), (2, .int b), (3, .int c9), (4, .int d), (5, .int e9), (6, .int (nI k))]) hx hb dM_say_61 hl (by decide) rfl (fun ls hl => ?_)
        refine lv_aload_n hx hb dM_say_63 rfl (lv_at hl 1 rfl) ?_
        refine va_get (D := D) (ci := 1) (v := .ref (am 1)) (C := RM) (T := FM) (N := 8) hx hb hts iM hown hK hP 0 rfl rfl 1 (by decide) (hts _ mM_f_hand) (fun _ h9 => h9) rfl dM_say_64 ?_
        refine lv_iload hx hb dM_say_67 (lv_at hl 7 rfl) ?_
        refine lv_iload hx hb dM_say_69 (lv_at hl 0 rfl) ?_
        refine lv_bipush (v := 24) hx hb dM_say_71 (by decide) ?_
        refine lv_bipush (v := 8) hx hb dM_say_73 (by decide) ?_
        refine lv_iload hx hb dM_say_75 (lv_at hl 7 rfl) ?_
        refine lv_iconst (v := 4) hx hb dM_say_77 (by decide) ?_
        refine lv_irem hx hb dM_say_78 (by decide) ?_
        rw [show ((nI k) - (nI k) / 4 * 4 : Int32) = nI (k % 4) from pk_rem (d := 4) (by omega) (by decide) (by decide)]
        refine lv_imul hx hb dM_say_79 ?_
        rw [show (8 * (nI (k % 4)) : Int32) = nI (8 * (k % 4)) from pk_mul 8 (k % 4)]
        refine lv_isub hx hb dM_say_80 ?_
        rw [show (24 - (nI (8 * (k % 4))) : Int32) = nI (24 - 8 * (k % 4)) from pk_sub (a := 24) (by omega)]
        refine lv_ishr hx hb dM_say_81 ?_
        refine lv_sipush (v := 255) hx hb dM_say_82 (by decide) ?_
        refine lv_iand hx hb dM_say_85 ?_
        rw [show ((b >>> ((nI (24 - 8 * (k % 4))) &&& 31)) &&& 255 : Int32) = nI (hn_by (hn_w5 a b c9 d e9) k) from by rw [hn_sby b (k := k % 4) (by omega)]; unfold hn_by; rw [hq4]; rfl]
        refine va_iast hx hb hK hP hD hS 1 0 rfl rfl (vp_in_nI (show k < 20 from by omega) (by omega)) dM_say_86 (fun H locs hP hD hS => ?_)
        rw [nI_clamp (show k < 2 ^ 31 by omega)] at hP hD
        obtain ⟨τ4, eτ4⟩ : ∃ z : Nat → Nat → Int32, z = hn_up (τ3) 1 (upd (τ3 1) k (nI (hn_by (hn_w5 a b c9 d e9) k))) := ⟨_, rfl⟩
        have hP : va_P D vwCl (hn_wM am cI (τ4)) H := by rw [eτ4]; exact hP
        have hD : va_D A (hn_wM am cI (τ4)) := by rw [eτ4]; exact hD
        refine lv_iinc (v := nI (k + 1)) (lv' := [(6, .int (nI (k + 1))), (7, .int b), (0, .ref (am 0)), (1, .int a), (2, .int b), (3, .int c9), (4, .int d), (5, .int e9)]) hx hb dM_say_87 hl (k := 7) rfl (nI_1 k) (by decide) rfl (fun ls hl => ?_)
        refine lv_goto (tgt := 8) hx hb dM_say_90 (by decide) ?_
        obtain ⟨i0, i2, i3, i4, i5, i6, i1⟩ := hI
        exact ih (k + 1) τ4 H locs (by omega) hP hD hS (by rw [eτ4]; exact ⟨i0, i2, i3, i4, i5, i6, fun j hj => hn_sy1 i1 hj⟩) ls (lv_sub hl [2, 3, 4, 5, 6, 7, 0] rfl)
    · skip
      have h_c_10 : k < 4 := Nat.lt_of_not_le (fun z => c_10 (nI_le (b := k) (a := 4) z (by omega)))
      have hq4 : k / 4 = 0 := by omega
      refine lv_iload_n hx hb dM_say_21 rfl (lv_at hl 1 rfl) ?_
      refine lv_goto (tgt := 61) hx hb dM_say_22 (by decide) ?_
      refine lv_istore (lv' := [(7, .int a), (0, .ref (am 0)), (1, .int a), (2, .int b), (3, .int c9), (4, .int d), (5, .int e9), (6, .int (nI k))]) hx hb dM_say_61 hl (by decide) rfl (fun ls hl => ?_)
      refine lv_aload_n hx hb dM_say_63 rfl (lv_at hl 1 rfl) ?_
      refine va_get (D := D) (ci := 1) (v := .ref (am 1)) (C := RM) (T := FM) (N := 8) hx hb hts iM hown hK hP 0 rfl rfl 1 (by decide) (hts _ mM_f_hand) (fun _ h9 => h9) rfl dM_say_64 ?_
      refine lv_iload hx hb dM_say_67 (lv_at hl 7 rfl) ?_
      refine lv_iload hx hb dM_say_69 (lv_at hl 0 rfl) ?_
      refine lv_bipush (v := 24) hx hb dM_say_71 (by decide) ?_
      refine lv_bipush (v := 8) hx hb dM_say_73 (by decide) ?_
      refine lv_iload hx hb dM_say_75 (lv_at hl 7 rfl) ?_
      refine lv_iconst (v := 4) hx hb dM_say_77 (by decide) ?_
      refine lv_irem hx hb dM_say_78 (by decide) ?_
      rw [show ((nI k) - (nI k) / 4 * 4 : Int32) = nI (k % 4) from pk_rem (d := 4) (by omega) (by decide) (by decide)]
      refine lv_imul hx hb dM_say_79 ?_
      rw [show (8 * (nI (k % 4)) : Int32) = nI (8 * (k % 4)) from pk_mul 8 (k % 4)]
      refine lv_isub hx hb dM_say_80 ?_
      rw [show (24 - (nI (8 * (k % 4))) : Int32) = nI (24 - 8 * (k % 4)) from pk_sub (a := 24) (by omega)]
      refine lv_ishr hx hb dM_say_81 ?_
      refine lv_sipush (v := 255) hx hb dM_say_82 (by decide) ?_
      refine lv_iand hx hb dM_say_85 ?_
      rw [show ((a >>> ((nI (24 - 8 * (k % 4))) &&& 31)) &&& 255 : Int32) = nI (hn_by (hn_w5 a b c9 d e9) k) from by rw [hn_sby a (k := k % 4) (by omega)]; unfold hn_by; rw [hq4]; rfl]
      refine va_iast hx hb hK hP hD hS 1 0 rfl rfl (vp_in_nI (show k < 20 from by omega) (by omega)) dM_say_86 (fun H locs hP hD hS => ?_)
      rw [nI_clamp (show k < 2 ^ 31 by omega)] at hP hD
      obtain ⟨τ4, eτ4⟩ : ∃ z : Nat → Nat → Int32, z = hn_up (τ3) 1 (upd (τ3 1) k (nI (hn_by (hn_w5 a b c9 d e9) k))) := ⟨_, rfl⟩
      have hP : va_P D vwCl (hn_wM am cI (τ4)) H := by rw [eτ4]; exact hP
      have hD : va_D A (hn_wM am cI (τ4)) := by rw [eτ4]; exact hD
      refine lv_iinc (v := nI (k + 1)) (lv' := [(6, .int (nI (k + 1))), (7, .int a), (0, .ref (am 0)), (1, .int a), (2, .int b), (3, .int c9), (4, .int d), (5, .int e9)]) hx hb dM_say_87 hl (k := 7) rfl (nI_1 k) (by decide) rfl (fun ls hl => ?_)
      refine lv_goto (tgt := 8) hx hb dM_say_90 (by decide) ?_
      obtain ⟨i0, i2, i3, i4, i5, i6, i1⟩ := hI
      exact ih (k + 1) τ4 H locs (by omega) hP hD hS (by rw [eτ4]; exact ⟨i0, i2, i3, i4, i5, i6, fun j hj => hn_sy1 i1 hj⟩) ls (lv_sub hl [2, 3, 4, 5, 6, 7, 0] rfl)
end
section
section
theorem hn_thr1 {x y r : Int32} {τ9 : Nat → Nat → Int32} {T1 T2 T0 : Nat → Nat → Int32} (h : (¬ x = 0 ∧ r = 1 ∧ τ9 = T1) ∨ (x = 0 ∧ ¬ y = 0 ∧ r = 1 ∧ τ9 = T2) ∨ (x = 0 ∧ y = 0 ∧ r = 0 ∧ τ9 = T0)) (hx : x = 1) : r = 1 ∧ τ9 = T1 := by
  rcases h with ⟨_, a, b⟩ | ⟨a, _⟩ | ⟨a, _⟩
  · exact ⟨a, b⟩
  · rw [hx] at a; exact absurd a (by decide)
  · rw [hx] at a; exact absurd a (by decide)
theorem hn_thr2 {x y r : Int32} {τ9 : Nat → Nat → Int32} {T1 T2 T0 : Nat → Nat → Int32} (h : (¬ x = 0 ∧ r = 1 ∧ τ9 = T1) ∨ (x = 0 ∧ ¬ y = 0 ∧ r = 1 ∧ τ9 = T2) ∨ (x = 0 ∧ y = 0 ∧ r = 0 ∧ τ9 = T0)) (hx : x = 0) (hy : ¬ y = 0) : r = 1 ∧ τ9 = T2 := by
  rcases h with ⟨a, _⟩ | ⟨_, _, a, b⟩ | ⟨_, a, _⟩
  · exact absurd hx a
  · exact ⟨a, b⟩
  · exact absurd a hy
theorem hn_thr0 {x y r : Int32} {τ9 : Nat → Nat → Int32} {T1 T2 T0 : Nat → Nat → Int32} (h : (¬ x = 0 ∧ r = 1 ∧ τ9 = T1) ∨ (x = 0 ∧ ¬ y = 0 ∧ r = 1 ∧ τ9 = T2) ∨ (x = 0 ∧ y = 0 ∧ r = 0 ∧ τ9 = T0)) (hx : x = 0) (hy : y = 0) : r = 0 ∧ τ9 = T0 := by
  rcases h with ⟨a, _⟩ | ⟨_, a, _⟩ | ⟨_, _, a, b⟩
  · exact absurd hx a
  · exact absurd hy a
  · exact ⟨a, b⟩
/-- another id in the reference's rows -/
theorem hn_chg_M {τ τ' : Nat → Nat → Int32} {D : Nat → List hn_E} {d K : Nat} {x : Int32} (hO : hn_DO D) (hM : hn_MD τ D) (hd : d < 8) (hh : hn_has K (D d)) (h2 : τ' 2 = τ 2) (h3 : τ' 3 = upd (τ 3) (48 * d + hn_pc K (D d)) x) (h4 : τ' 4 = τ 4) (h5 : τ' 5 = τ 5) :
    hn_MD τ' (hn_ud D d (hn_ec K x (D d))) ∧ hn_DO (hn_ud D d (hn_ec K x (D d))) ∧ True := by
  obtain ⟨hp, hk⟩ := hn_has_pc (hO d hd).1 hh
  have hlen := (hO d hd).2.1
  have wf : ∀ e ∈ hn_ec K x (D d), hn_wf e := fun e he => by
    obtain ⟨y, hy, e1, e2⟩ := hn_ec_mem he
    have := (hO d hd).2.2 y hy
    unfold hn_wf at this ⊢
    rw [e1, e2]
    exact this
  refine ⟨hn_MD_put hO hM hd (by rw [h2, hn_ec_len, ← (hM d hd).1]; funext j; by_cases e : j = d; rw [e, pk_us]; rw [pk_un e]) (by rw [hn_ec_len]; exact hlen) ?_ ?_, hn_DO_put hO (hn_ec_es (hO d hd).1) (by rw [hn_ec_len]; exact hlen) wf, trivial⟩
  · intro i e hi hn hs
    refine hn_sl_keep hs hn ?_ (by rw [h4]) (fun k _ => by rw [h5])
    rw [h3, pk_un (by omega)]
  · intro j hj
    rw [hn_ec_len] at hj
    obtain ⟨g1, g2, g3⟩ := (hM d hd).2 j hj
    rw [hn_ec_at (hO d hd).1 hh j]
    by_cases e : j = hn_pc K (D d)
    · rw [if_pos e]
      refine ⟨?_, by rw [h4]; exact g2, by rw [h5]; exact g3⟩
      rw [h3, e, pk_us]
    · rw [if_neg e]
      refine ⟨?_, by rw [h4]; exact g2, by rw [h5]; exact g3⟩
      rw [h3, pk_un (by omega)]
      exact g1
end
set_option maxHeartbeats 4000000 in
set_option maxRecDepth 100000 in
theorem cM_size_ok (l : Launch) (D : va_G) (cI cL : ClassId) (am : Nat → Nat) (τ : Nat → Nat → Int32) (d9 : Int32) (h : Nat → Nat) (D9 : Nat → List hn_E) (tn TK : Nat) (hH : hn_MH τ h tn TK) (hM : hn_MD τ D9) (hO : hn_DO D9)  (sz : Nat) : Met l yM_size wM_size ({ frames := 1, cells := 0, slots := 0, locals := 22 }) (hn_PW D (hn_ty cI cL) (hn_wM am cI (τ)) sz [.ref (am 0), .int d9]) (va_Qi (fun (r : Int32) (τ9 : Nat → Nat → Int32) => ∃ c : Nat, hn_sizeS D9 d9 c r ∧ τ9 0 0 = nI c ∧ hn_MH τ9 h tn TK ∧ hn_MD τ9 D9) (fun (τ9 : Nat → Nat → Int32) t => hn_at D (hn_ty cI cL) (va_A (hn_wM am cI (τ)) sz) (hn_wM am cI (τ9)) t) (va_A (hn_wM am cI (τ)) sz)) 0 0 (va_A (hn_wM am cI (τ)) sz) := by
  refine Met.ofW (cc := cM_size) (maxL := 2) (ret := (some .int)) (by decide) rfl ?_
  intro p e s m args below meth c s₁ B hml hv
  obtain ⟨rfl, hsz, hP, hK, hD0⟩ := hv
  subst hsz
  have hD := hD0.self (sz := s.heap.size)
  generalize hAe : va_A (hn_wM am cI (τ)) s.heap.size = A at hD ⊢
  have hA : ∀ q : Nat, s.heap.size ≤ q → A q := fun q h => by rw [← hAe]; exact Or.inr h
  have hS : va_S A s.heap s.heap [] := va_S.rf
  have hP : va_P D vwCl (hn_wM am cI (τ)) s.heap := hP
  have hx := B.exec
  have hb := B.bytes
  have hr := B.returns
  have hts0 := atoms_spec (ws := wM_size) B.pre
  have hts : ∀ w ∈ hn_tb, w.before _ s = true := fun w hw => hts0 w (List.mem_cons_of_mem _ hw)
  have hown : s.vm.findClass RM = some m.cls := findClass_of_methodNamed B.named
  have hlocks := B.notSynchronized
  have hl := lv_entry [.ref (am 0), .int d9] (n := 2) (Nat.le_of_ble_eq_true rfl)
  rw [lg_entry_eq]
  generalize (lg_sl [.ref (am 0), .int d9] ++ List.replicate (2 - (lg_sl [.ref (am 0), .int d9]).length) Slot.unset).toArray = ls at hl ⊢
  have hl : lv_has ls 2 [(0, .ref (am 0)), (1, .int d9)] := hl
  refine lv_aload_n hx hb dM_size_0 rfl (lv_at hl 0 rfl) ?_
  refine lv_iload_n hx hb dM_size_1 rfl (lv_at hl 1 rfl) ?_
  refine hn_callE (W.runS (As := [.int d9]) (rest := [.ref (am 0)]) ⟨hx, hb, hml, hown, hts⟩ (cM_isDirectory_ok l d9) (cwS 1 hts gM_M_isDirectory rfl rfl rfl (by decide +kernel) ⟨Nat.le_of_ble_eq_true rfl, Nat.le_of_ble_eq_true rfl⟩) hn_pre0 rfl rfl hl.1 rfl (lv_room (Nat.le_of_ble_eq_true rfl)) dM_size_2 ⟨Nat.zero_le _, Nat.zero_le _⟩) (fun r_14 hr_14 => ?_)
  refine W.eq (g2 := F0 m 5 ls [.int r_14, .ref (am 0)]) rfl ?_
  rcases hr_14 with ⟨e9, hd9⟩ | ⟨e9, hd9⟩
  · subst e9
    refine lv_if_ne (tgt := 12) hx hb dM_size_5 (by decide) (fun c_15 => ?_) (fun c_15 => absurd c_15 (by decide))
    obtain ⟨d, hd, ed⟩ := hd9
    subst ed
    refine lv_iconst (v := 0) hx hb dM_size_12 (by decide) ?_
    refine lv_iconst (v := 0) hx hb dM_size_13 (by decide) ?_
    have hFc := va_free (wc := hn_wM am cI (τ)) hD hS hA [0, 1, 2, 3, 4, 5, 6] rfl
    refine va_calli (va_runV (As := [.int 0, .int 0]) (rest := []) ⟨hx, hb, hml, hown, hts⟩ (cM_throwing_ok l D cI cL am (τ) 0 0 _) (cwV 2 hts gM_M_throwing rfl rfl rfl (by decide +kernel) ⟨Nat.le_of_ble_eq_true rfl, Nat.le_of_ble_eq_true rfl⟩) (hn_preVW hP hK hD (ci := 1) (q0 := 0) rfl rfl) rfl rfl hl.1 rfl (lv_room (Nat.le_of_ble_eq_true rfl)) dM_size_14 ⟨Nat.zero_le _, Nat.zero_le _⟩) hS (fun q _ h => hFc q h) hFc (fun r9 τ1 t8 H1 locs ht hvm hw hB hz1 hk1 hS => ?_)
    obtain ⟨hP1, hK1, hD1⟩ := hB
    rw [ht] at hP1
    have hD : va_D A (hn_wM am cI (τ1)) := hD1.weaken (fun _ q _ h => hFc q.1 h)
    have hP : va_P D vwCl (hn_wM am cI (τ1)) H1 := hP1
    generalize H1 = H at hP hS ⊢
    try dsimp only at hw
    obtain ⟨hw1, hw2⟩ := hn_thr0 hw rfl rfl
    subst hw1
    have hH1 : hn_MH τ1 h tn TK := by rw [hw2]; exact hn_MH_keep hH rfl rfl rfl
    have hM1 : hn_MD τ1 D9 := by rw [hw2]; exact hn_MD_keep hM rfl rfl rfl rfl
    have hc1 : τ1 0 0 = nI 0 := by rw [hw2]; show upd (τ 0) 0 0 0 = nI 0; rw [pk_us]; rfl
    have hR1 : hn_MR τ1 h D9 tn (hn_kb TK) := hn_MR_iff.mpr ⟨hH1, hM1⟩
    refine lv_if_eq (tgt := 22) hx hb dM_size_17 (by decide) (fun c_16 => ?_) (fun c_16 => absurd rfl c_16)
    refine lv_aload_n hx hb dM_size_22 rfl (lv_at hl 0 rfl) ?_
    refine va_get (D := D) (ci := 1) (v := .ref (am 2)) (C := RM) (T := FM) (N := 8) hx hb hts iM hown hK hP 0 rfl rfl 2 (by decide) (hts _ mM_f_many) (fun _ h9 => h9) rfl dM_size_23 ?_
    refine lv_iload_n hx hb dM_size_26 rfl (lv_at hl 1 rfl) ?_
    refine va_iald hx hb hK hP 2 0 rfl rfl (vp_in_nI (show d < 8 from hd) (by omega)) dM_size_27 ?_
    rw [nI_clamp (show d < 2 ^ 31 by omega)]
    rw [show τ1 2 d = nI (D9 d).length from (hM1 d hd).1]
    exact W.iret (v := (nI (D9 d).length)) hx hb hr (fun t9 ht9 hW9 => ⟨⟨nI (D9 d).length, τ1, rfl, ⟨0, Or.inr ⟨d, rfl, hd, rfl, rfl⟩, hc1, hH1, hM1⟩, by rw [ht9]; exact hP, va_K.moved hW9.alike hK, hD⟩, hS.F ht9⟩) hS.2.2 dM_size_28
  · subst e9
    refine lv_if_ne (tgt := 12) hx hb dM_size_5 (by decide) (fun c_17 => absurd rfl c_17) (fun c_17 => ?_)
    refine lv_iconst (v := 1) hx hb dM_size_8 (by decide) ?_
    refine lv_goto (tgt := 13) hx hb dM_size_9 (by decide) ?_
    refine lv_iconst (v := 0) hx hb dM_size_13 (by decide) ?_
    have hFc := va_free (wc := hn_wM am cI (τ)) hD hS hA [0, 1, 2, 3, 4, 5, 6] rfl
    refine va_calli (va_runV (As := [.int 1, .int 0]) (rest := []) ⟨hx, hb, hml, hown, hts⟩ (cM_throwing_ok l D cI cL am (τ) 1 0 _) (cwV 2 hts gM_M_throwing rfl rfl rfl (by decide +kernel) ⟨Nat.le_of_ble_eq_true rfl, Nat.le_of_ble_eq_true rfl⟩) (hn_preVW hP hK hD (ci := 1) (q0 := 0) rfl rfl) rfl rfl hl.1 rfl (lv_room (Nat.le_of_ble_eq_true rfl)) dM_size_14 ⟨Nat.zero_le _, Nat.zero_le _⟩) hS (fun q _ h => hFc q h) hFc (fun r9 τ1 t8 H1 locs ht hvm hw hB hz1 hk1 hS => ?_)
    obtain ⟨hP1, hK1, hD1⟩ := hB
    rw [ht] at hP1
    have hD : va_D A (hn_wM am cI (τ1)) := hD1.weaken (fun _ q _ h => hFc q.1 h)
    have hP : va_P D vwCl (hn_wM am cI (τ1)) H1 := hP1
    generalize H1 = H at hP hS ⊢
    try dsimp only at hw
    obtain ⟨hw1, hw2⟩ := hn_thr1 hw rfl
    subst hw1
    have hH1 : hn_MH τ1 h tn TK := by rw [hw2]; exact hn_MH_keep hH rfl rfl rfl
    have hM1 : hn_MD τ1 D9 := by rw [hw2]; exact hn_MD_keep hM rfl rfl rfl rfl
    have hc1 : τ1 0 0 = nI 1 := by rw [hw2]; show upd (τ 0) 0 1 0 = nI 1; rw [pk_us]; rfl
    have hR1 : hn_MR τ1 h D9 tn (hn_kb TK) := hn_MR_iff.mpr ⟨hH1, hM1⟩
    refine lv_if_eq (tgt := 22) hx hb dM_size_17 (by decide) (fun c_18 => absurd c_18 (by decide)) (fun c_18 => ?_)
    refine lv_iconst (v := 0) hx hb dM_size_20 (by decide) ?_
    exact W.iret (v := 0) hx hb hr (fun t9 ht9 hW9 => ⟨⟨0, τ1, rfl, ⟨1, Or.inl ⟨rfl, hd9⟩, hc1, hH1, hM1⟩, by rw [ht9]; exact hP, va_K.moved hW9.alike hK, hD⟩, hS.F ht9⟩) hS.2.2 dM_size_21

set_option maxHeartbeats 4000000 in
set_option maxRecDepth 100000 in
theorem cM_byteAt_ok (l : Launch) (D : va_G) (cI cL : ClassId) (am : Nat → Nat) (τ : Nat → Nat → Int32) (i9 : Int32) (h : Nat → Nat) (D9 : Nat → List hn_E) (tn TK : Nat) (hH : hn_MH τ h tn TK) (hM : hn_MD τ D9) (hO : hn_DO D9)  (sz : Nat) : Met l yM_byteAt wM_byteAt ({ frames := 1, cells := 0, slots := 0, locals := 22 }) (hn_PW D (hn_ty cI cL) (hn_wM am cI (τ)) sz [.ref (am 0), .int i9]) (va_Qi (fun (r : Int32) (τ9 : Nat → Nat → Int32) => ∃ c : Nat, hn_byteS tn TK i9 c r ∧ τ9 0 0 = nI c ∧ hn_MH τ9 h tn TK ∧ hn_MD τ9 D9) (fun (τ9 : Nat → Nat → Int32) t => hn_at D (hn_ty cI cL) (va_A (hn_wM am cI (τ)) sz) (hn_wM am cI (τ9)) t) (va_A (hn_wM am cI (τ)) sz)) 0 0 (va_A (hn_wM am cI (τ)) sz) := by
  refine Met.ofW (cc := cM_byteAt) (maxL := 2) (ret := (some .int)) (by decide) rfl ?_
  intro p e s m args below meth c s₁ B hml hv
  obtain ⟨rfl, hsz, hP, hK, hD0⟩ := hv
  subst hsz
  have hD := hD0.self (sz := s.heap.size)
  generalize hAe : va_A (hn_wM am cI (τ)) s.heap.size = A at hD ⊢
  have hA : ∀ q : Nat, s.heap.size ≤ q → A q := fun q h => by rw [← hAe]; exact Or.inr h
  have hS : va_S A s.heap s.heap [] := va_S.rf
  have hP : va_P D vwCl (hn_wM am cI (τ)) s.heap := hP
  have hx := B.exec
  have hb := B.bytes
  have hr := B.returns
  have hts0 := atoms_spec (ws := wM_byteAt) B.pre
  have hts : ∀ w ∈ hn_tb, w.before _ s = true := fun w hw => hts0 w (List.mem_cons_of_mem _ hw)
  have hown : s.vm.findClass RM = some m.cls := findClass_of_methodNamed B.named
  have hlocks := B.notSynchronized
  have hl := lv_entry [.ref (am 0), .int i9] (n := 2) (Nat.le_of_ble_eq_true rfl)
  rw [lg_entry_eq]
  generalize (lg_sl [.ref (am 0), .int i9] ++ List.replicate (2 - (lg_sl [.ref (am 0), .int i9]).length) Slot.unset).toArray = ls at hl ⊢
  have hl : lv_has ls 2 [(0, .ref (am 0)), (1, .int i9)] := hl
  refine lv_aload_n hx hb dM_byteAt_0 rfl (lv_at hl 0 rfl) ?_
  refine lv_iload_n hx hb dM_byteAt_1 rfl (lv_at hl 1 rfl) ?_
  refine lv_if_ge (tgt := 9) hx hb dM_byteAt_2 (by decide) (fun c_19 => ?_) (fun c_19 => ?_)
  · skip
    obtain ⟨i, hi, ei⟩ := nI_of (Int32.not_lt.mpr c_19)
    subst ei
    refine lv_iconst (v := 0) hx hb dM_byteAt_9 (by decide) ?_
    refine lv_iconst (v := 0) hx hb dM_byteAt_10 (by decide) ?_
    have hFc := va_free (wc := hn_wM am cI (τ)) hD hS hA [0, 1, 2, 3, 4, 5, 6] rfl
    refine va_calli (va_runV (As := [.int 0, .int 0]) (rest := []) ⟨hx, hb, hml, hown, hts⟩ (cM_throwing_ok l D cI cL am (τ) 0 0 _) (cwV 2 hts gM_M_throwing rfl rfl rfl (by decide +kernel) ⟨Nat.le_of_ble_eq_true rfl, Nat.le_of_ble_eq_true rfl⟩) (hn_preVW hP hK hD (ci := 1) (q0 := 0) rfl rfl) rfl rfl hl.1 rfl (lv_room (Nat.le_of_ble_eq_true rfl)) dM_byteAt_11 ⟨Nat.zero_le _, Nat.zero_le _⟩) hS (fun q _ h => hFc q h) hFc (fun r9 τ1 t8 H1 locs ht hvm hw hB hz1 hk1 hS => ?_)
    obtain ⟨hP1, hK1, hD1⟩ := hB
    rw [ht] at hP1
    have hD : va_D A (hn_wM am cI (τ1)) := hD1.weaken (fun _ q _ h => hFc q.1 h)
    have hP : va_P D vwCl (hn_wM am cI (τ1)) H1 := hP1
    generalize H1 = H at hP hS ⊢
    try dsimp only at hw
    obtain ⟨hw1, hw2⟩ := hn_thr0 hw rfl rfl
    subst hw1
    have hH1 : hn_MH τ1 h tn TK := by rw [hw2]; exact hn_MH_keep hH rfl rfl rfl
    have hM1 : hn_MD τ1 D9 := by rw [hw2]; exact hn_MD_keep hM rfl rfl rfl rfl
    have hc1 : τ1 0 0 = nI 0 := by rw [hw2]; show upd (τ 0) 0 0 0 = nI 0; rw [pk_us]; rfl
    have hR1 : hn_MR τ1 h D9 tn (hn_kb TK) := hn_MR_iff.mpr ⟨hH1, hM1⟩
    refine lv_if_eq (tgt := 19) hx hb dM_byteAt_14 (by decide) (fun c_20 => ?_) (fun c_20 => absurd rfl c_20)
    refine lv_iload_n hx hb dM_byteAt_19 rfl (lv_at hl 1 rfl) ?_
    refine lv_aload_n hx hb dM_byteAt_20 rfl (lv_at hl 0 rfl) ?_
    refine va_get (D := D) (ci := 1) (v := .int (τ1 0 1)) (C := RM) (T := FM) (N := 8) hx hb hts iM hown hK hP 0 rfl rfl 7 (by decide) (hts _ mM_f_toldLength) (fun _ h9 => h9) rfl dM_byteAt_21 ?_
    rw [hH1.2.2.1]
    have htn := hH1.2.2.2.1
    refine lv_icmp_ge (tgt := 36) hx hb dM_byteAt_24 (by decide) (fun c_21 => ?_) (fun c_21 => ?_)
    · skip
      refine lv_iconst (v := (-1)) hx hb dM_byteAt_36 (by decide) ?_
      exact W.iret (v := (-1)) hx hb hr (fun t9 ht9 hW9 => ⟨⟨(-1), τ1, rfl, ⟨0, Or.inr ⟨i, rfl, hi, rfl, Or.inr ⟨(nI_leI (by omega) hi).mp c_21, rfl⟩⟩, hc1, hH1, hM1⟩, by rw [ht9]; exact hP, va_K.moved hW9.alike hK, hD⟩, hS.F ht9⟩) hS.2.2 dM_byteAt_37
    · skip
      have hit : i < tn := Nat.lt_of_not_le (fun z => c_21 (nI_le z hi))
      refine lv_aload_n hx hb dM_byteAt_27 rfl (lv_at hl 0 rfl) ?_
      refine va_get (D := D) (ci := 1) (v := .ref (am 6)) (C := RM) (T := FM) (N := 8) hx hb hts iM hown hK hP 0 rfl rfl 6 (by decide) (hts _ mM_f_told) (fun _ h9 => h9) rfl dM_byteAt_28 ?_
      refine lv_iload_n hx hb dM_byteAt_31 rfl (lv_at hl 1 rfl) ?_
      refine va_iald hx hb hK hP 6 0 rfl rfl (vp_in_nI (show i < 20 from by omega) (by omega)) dM_byteAt_32 ?_
      rw [nI_clamp (show i < 2 ^ 31 by omega)]
      rw [show τ1 6 i = nI (hn_kb TK i) from hH1.2.2.2.2 i hit]
      refine lv_goto (tgt := 37) hx hb dM_byteAt_33 (by decide) ?_
      exact W.iret (v := (nI (hn_kb TK i))) hx hb hr (fun t9 ht9 hW9 => ⟨⟨nI (hn_kb TK i), τ1, rfl, ⟨0, Or.inr ⟨i, rfl, hi, rfl, Or.inl ⟨hit, rfl⟩⟩, hc1, hH1, hM1⟩, by rw [ht9]; exact hP, va_K.moved hW9.alike hK, hD⟩, hS.F ht9⟩) hS.2.2 dM_byteAt_37
  · skip
    refine lv_iconst (v := 1) hx hb dM_byteAt_5 (by decide) ?_
    refine lv_goto (tgt := 10) hx hb dM_byteAt_6 (by decide) ?_
    refine lv_iconst (v := 0) hx hb dM_byteAt_10 (by decide) ?_
    have hFc := va_free (wc := hn_wM am cI (τ)) hD hS hA [0, 1, 2, 3, 4, 5, 6] rfl
    refine va_calli (va_runV (As := [.int 1, .int 0]) (rest := []) ⟨hx, hb, hml, hown, hts⟩ (cM_throwing_ok l D cI cL am (τ) 1 0 _) (cwV 2 hts gM_M_throwing rfl rfl rfl (by decide +kernel) ⟨Nat.le_of_ble_eq_true rfl, Nat.le_of_ble_eq_true rfl⟩) (hn_preVW hP hK hD (ci := 1) (q0 := 0) rfl rfl) rfl rfl hl.1 rfl (lv_room (Nat.le_of_ble_eq_true rfl)) dM_byteAt_11 ⟨Nat.zero_le _, Nat.zero_le _⟩) hS (fun q _ h => hFc q h) hFc (fun r9 τ1 t8 H1 locs ht hvm hw hB hz1 hk1 hS => ?_)
    obtain ⟨hP1, hK1, hD1⟩ := hB
    rw [ht] at hP1
    have hD : va_D A (hn_wM am cI (τ1)) := hD1.weaken (fun _ q _ h => hFc q.1 h)
    have hP : va_P D vwCl (hn_wM am cI (τ1)) H1 := hP1
    generalize H1 = H at hP hS ⊢
    try dsimp only at hw
    obtain ⟨hw1, hw2⟩ := hn_thr1 hw rfl
    subst hw1
    have hH1 : hn_MH τ1 h tn TK := by rw [hw2]; exact hn_MH_keep hH rfl rfl rfl
    have hM1 : hn_MD τ1 D9 := by rw [hw2]; exact hn_MD_keep hM rfl rfl rfl rfl
    have hc1 : τ1 0 0 = nI 1 := by rw [hw2]; show upd (τ 0) 0 1 0 = nI 1; rw [pk_us]; rfl
    have hR1 : hn_MR τ1 h D9 tn (hn_kb TK) := hn_MR_iff.mpr ⟨hH1, hM1⟩
    refine lv_if_eq (tgt := 19) hx hb dM_byteAt_14 (by decide) (fun c_22 => absurd c_22 (by decide)) (fun c_22 => ?_)
    refine lv_iconst (v := 0) hx hb dM_byteAt_17 (by decide) ?_
    exact W.iret (v := 0) hx hb hr (fun t9 ht9 hW9 => ⟨⟨0, τ1, rfl, ⟨1, Or.inl ⟨rfl, Int32.not_le.mp c_19⟩, hc1, hH1, hM1⟩, by rw [ht9]; exact hP, va_K.moved hW9.alike hK, hD⟩, hS.F ht9⟩) hS.2.2 dM_byteAt_18

set_option maxHeartbeats 4000000 in
set_option maxRecDepth 100000 in
theorem cM_find_ok (l : Launch) (D : va_G) (cI cL : ClassId) (am : Nat → Nat) (τ : Nat → Nat → Int32) (d9 n9 : Int32) (h : Nat → Nat) (D9 : Nat → List hn_E) (tn TK : Nat) (hH : hn_MH τ h tn TK) (hM : hn_MD τ D9) (hO : hn_DO D9)  (sz : Nat) : Met l yM_find wM_find ({ frames := 2, cells := 0, slots := 0, locals := 47 }) (hn_PW D (hn_ty cI cL) (hn_wM am cI (τ)) sz [.ref (am 0), .int d9, .int n9]) (va_Qi (fun (r : Int32) (τ9 : Nat → Nat → Int32) => ∃ c : Nat, hn_findS h D9 d9 n9 c r ∧ τ9 0 0 = nI c ∧ hn_MH τ9 h tn TK ∧ hn_MD τ9 D9) (fun (τ9 : Nat → Nat → Int32) t => hn_at D (hn_ty cI cL) (va_A (hn_wM am cI (τ)) sz) (hn_wM am cI (τ9)) t) (va_A (hn_wM am cI (τ)) sz)) 0 0 (va_A (hn_wM am cI (τ)) sz) := by
  refine Met.ofW (cc := cM_find) (maxL := 4) (ret := (some .int)) (by decide) rfl ?_
  intro p e s m args below meth c s₁ B hml hv
  obtain ⟨rfl, hsz, hP, hK, hD0⟩ := hv
  subst hsz
  have hD := hD0.self (sz := s.heap.size)
  generalize hAe : va_A (hn_wM am cI (τ)) s.heap.size = A at hD ⊢
  have hA : ∀ q : Nat, s.heap.size ≤ q → A q := fun q h => by rw [← hAe]; exact Or.inr h
  have hS : va_S A s.heap s.heap [] := va_S.rf
  have hP : va_P D vwCl (hn_wM am cI (τ)) s.heap := hP
  have hx := B.exec
  have hb := B.bytes
  have hr := B.returns
  have hts0 := atoms_spec (ws := wM_find) B.pre
  have hts : ∀ w ∈ hn_tb, w.before _ s = true := fun w hw => hts0 w (List.mem_cons_of_mem _ hw)
  have hown : s.vm.findClass RM = some m.cls := findClass_of_methodNamed B.named
  have hlocks := B.notSynchronized
  have hl := lv_entry [.ref (am 0), .int d9, .int n9] (n := 4) (Nat.le_of_ble_eq_true rfl)
  rw [lg_entry_eq]
  generalize (lg_sl [.ref (am 0), .int d9, .int n9] ++ List.replicate (4 - (lg_sl [.ref (am 0), .int d9, .int n9]).length) Slot.unset).toArray = ls at hl ⊢
  have hl : lv_has ls 4 [(0, .ref (am 0)), (1, .int d9), (2, .int n9)] := hl
  refine lv_aload_n hx hb dM_find_0 rfl (lv_at hl 0 rfl) ?_
  refine lv_iload_n hx hb dM_find_1 rfl (lv_at hl 1 rfl) ?_
  refine hn_callE (W.runS (As := [.int d9]) (rest := [.ref (am 0)]) ⟨hx, hb, hml, hown, hts⟩ (cM_isDirectory_ok l d9) (cwS 1 hts gM_M_isDirectory rfl rfl rfl (by decide +kernel) ⟨Nat.le_of_ble_eq_true rfl, Nat.le_of_ble_eq_true rfl⟩) hn_pre0 rfl rfl hl.1 rfl (lv_room (Nat.le_of_ble_eq_true rfl)) dM_find_2 ⟨Nat.zero_le _, Nat.zero_le _⟩) (fun r_23 hr_23 => ?_)
  refine W.eq (g2 := F0 m 5 ls [.int r_23, .ref (am 0)]) rfl ?_
  rcases hr_23 with ⟨e9, hd9⟩ | ⟨e9, hd9⟩
  · subst e9
    refine lv_if_eq (tgt := 16) hx hb dM_find_5 (by decide) (fun c_24 => absurd c_24 (by decide)) (fun c_24 => ?_)
    refine lv_aload_n hx hb dM_find_8 rfl (lv_at hl 0 rfl) ?_
    refine lv_iload_n hx hb dM_find_9 rfl (lv_at hl 2 rfl) ?_
    refine hn_callE (W.runV (As := [.int n9]) (rest := [.ref (am 0)]) ⟨hx, hb, hml, hown, hts⟩ (cM_isName_ok l D cI cL am (τ) h hH.1 hH.2.1 n9) (cwV 1 hts gM_M_isName rfl rfl rfl (by decide +kernel) ⟨Nat.le_of_ble_eq_true rfl, Nat.le_of_ble_eq_true rfl⟩) (hn_preV hP hK (ci := 1) (q0 := 0) rfl rfl) rfl rfl hl.1 rfl (lv_room (Nat.le_of_ble_eq_true rfl)) dM_find_10 ⟨Nat.zero_le _, Nat.zero_le _⟩) (fun r_25 hr_25 => ?_)
    refine W.eq (g2 := F0 m 13 ls [.int r_25, .ref (am 0)]) rfl ?_
    rcases hr_25 with ⟨e9, hn9⟩ | ⟨e9, hn9⟩
    · subst e9
      refine lv_if_ne (tgt := 20) hx hb dM_find_13 (by decide) (fun c_26 => ?_) (fun c_26 => absurd c_26 (by decide))
      obtain ⟨d, n, hok⟩ := hn_ok_of hd9 hn9
      obtain ⟨ed, hd, en, h1, h2, hz0⟩ := id hok
      have hz : ∀ k, k < n → h k ≠ 0 := fun k hk => (hz0 k hk).1
      subst ed
      subst en
      refine lv_iconst (v := 0) hx hb dM_find_20 (by decide) ?_
      refine lv_iconst (v := 0) hx hb dM_find_21 (by decide) ?_
      have hFc := va_free (wc := hn_wM am cI (τ)) hD hS hA [0, 1, 2, 3, 4, 5, 6] rfl
      refine va_calli (va_runV (As := [.int 0, .int 0]) (rest := []) ⟨hx, hb, hml, hown, hts⟩ (cM_throwing_ok l D cI cL am (τ) 0 0 _) (cwV 2 hts gM_M_throwing rfl rfl rfl (by decide +kernel) ⟨Nat.le_of_ble_eq_true rfl, Nat.le_of_ble_eq_true rfl⟩) (hn_preVW hP hK hD (ci := 1) (q0 := 0) rfl rfl) rfl rfl hl.1 rfl (lv_room (Nat.le_of_ble_eq_true rfl)) dM_find_22 ⟨Nat.zero_le _, Nat.zero_le _⟩) hS (fun q _ h => hFc q h) hFc (fun r9 τ1 t8 H1 locs ht hvm hw hB hz1 hk1 hS => ?_)
      obtain ⟨hP1, hK1, hD1⟩ := hB
      rw [ht] at hP1
      have hD : va_D A (hn_wM am cI (τ1)) := hD1.weaken (fun _ q _ h => hFc q.1 h)
      have hP : va_P D vwCl (hn_wM am cI (τ1)) H1 := hP1
      generalize H1 = H at hP hS ⊢
      try dsimp only at hw
      obtain ⟨hw1, hw2⟩ := hn_thr0 hw rfl rfl
      subst hw1
      have hH1 : hn_MH τ1 h tn TK := by rw [hw2]; exact hn_MH_keep hH rfl rfl rfl
      have hM1 : hn_MD τ1 D9 := by rw [hw2]; exact hn_MD_keep hM rfl rfl rfl rfl
      have hc1 : τ1 0 0 = nI 0 := by rw [hw2]; show upd (τ 0) 0 0 0 = nI 0; rw [pk_us]; rfl
      have hR1 : hn_MR τ1 h D9 tn (hn_kb TK) := hn_MR_iff.mpr ⟨hH1, hM1⟩
      refine lv_if_eq (tgt := 30) hx hb dM_find_25 (by decide) (fun c_27 => ?_) (fun c_27 => absurd rfl c_27)
      refine lv_aload_n hx hb dM_find_30 rfl (lv_at hl 0 rfl) ?_
      refine lv_iload_n hx hb dM_find_31 rfl (lv_at hl 1 rfl) ?_
      refine lv_iload_n hx hb dM_find_32 rfl (lv_at hl 2 rfl) ?_
      refine W.callR (W.runV (As := [.int (nI d), .int (nI n)]) (rest := []) ⟨hx, hb, hml, hown, hts⟩ (cM_place_ok l D cI cL am τ1 h D9 tn (hn_kb TK) hR1 hO d hd n h1 h2 hz) (cwV 2 hts gM_M_place rfl rfl rfl (by decide +kernel) ⟨Nat.le_of_ble_eq_true rfl, Nat.le_of_ble_eq_true rfl⟩) (hn_preV hP hK (ci := 1) (q0 := 0) rfl rfl) rfl rfl hl.1 rfl (lv_room (Nat.le_of_ble_eq_true rfl)) dM_find_33 ⟨Nat.zero_le _, Nat.zero_le _⟩) ?_
      refine W.eq (g2 := F0 m 36 ls [.int (nI (48 * d + hn_pc (hn_num h n) (D9 d)))]) rfl ?_
      refine lv_istore_n (lv' := [(3, .int (nI (48 * d + hn_pc (hn_num h n) (D9 d)))), (0, .ref (am 0)), (1, .int (nI d)), (2, .int (nI n))]) hx hb dM_find_36 rfl hl (by decide) rfl (fun ls hl => ?_)
      refine lv_aload_n hx hb dM_find_37 rfl (lv_at hl 1 rfl) ?_
      refine lv_iload_n hx hb dM_find_38 rfl (lv_at hl 0 rfl) ?_
      refine lv_iload_n hx hb dM_find_39 rfl (lv_at hl 2 rfl) ?_
      refine lv_iload_n hx hb dM_find_40 rfl (lv_at hl 3 rfl) ?_
      have hpc := hn_pc_le (hn_num h n) (D9 d)
      have hlen := (hO d hd).2.1
      refine hn_callE (W.runV (As := [.int (nI (48 * d + hn_pc (hn_num h n) (D9 d))), .int (nI d), .int (nI n)]) (rest := []) ⟨hx, hb, hml, hown, hts⟩ (cM_isAt_ok l D cI cL am τ1 h D9 tn (hn_kb TK) hR1 hO d hd n h1 h2 hz (hn_pc (hn_num h n) (D9 d)) (by omega)) (cwV 3 hts gM_M_isAt rfl rfl rfl (by decide +kernel) ⟨Nat.le_of_ble_eq_true rfl, Nat.le_of_ble_eq_true rfl⟩) (hn_preV hP hK (ci := 1) (q0 := 0) rfl rfl) rfl rfl hl.1 rfl (lv_room (Nat.le_of_ble_eq_true rfl)) dM_find_41 ⟨Nat.zero_le _, Nat.zero_le _⟩) (fun r_28 hr_28 => ?_)
      refine W.eq (g2 := F0 m 44 ls [.int r_28]) rfl ?_
      rcases hr_28 with ⟨e9, ha9⟩ | ⟨e9, ha9⟩
      · subst e9
        refine lv_if_eq (tgt := 56) hx hb dM_find_44 (by decide) (fun c_29 => absurd c_29 (by decide)) (fun c_29 => ?_)
        refine lv_aload_n hx hb dM_find_47 rfl (lv_at hl 1 rfl) ?_
        refine va_get (D := D) (ci := 1) (v := .ref (am 3)) (C := RM) (T := FM) (N := 8) hx hb hts iM hown hK hP 0 rfl rfl 3 (by decide) (hts _ mM_f_id) (fun _ h9 => h9) rfl dM_find_48 ?_
        refine lv_iload_n hx hb dM_find_51 rfl (lv_at hl 0 rfl) ?_
        refine va_iald hx hb hK hP 3 0 rfl rfl (vp_in_nI (show 48 * d + hn_pc (hn_num h n) (D9 d) < 384 from by omega) (by omega)) dM_find_52 ?_
        rw [nI_clamp (show 48 * d + hn_pc (hn_num h n) (D9 d) < 2 ^ 31 by omega)]
        rw [show τ1 3 (48 * d + hn_pc (hn_num h n) (D9 d)) = ((D9 d).getD (hn_pc (hn_num h n) (D9 d)) hn_e0).2.2 from ((hM1 d hd).2 _ ha9.1).1]
        refine lv_goto (tgt := 57) hx hb dM_find_53 (by decide) ?_
        exact W.iret (v := (((D9 d).getD (hn_pc (hn_num h n) (D9 d)) hn_e0).2.2)) hx hb hr (fun t9 ht9 hW9 => ⟨⟨((D9 d).getD (hn_pc (hn_num h n) (D9 d)) hn_e0).2.2, τ1, rfl, ⟨0, Or.inr ⟨d, n, hok, rfl, Or.inl ⟨(hn_has_iff (hO d hd).1).mpr ha9, rfl⟩⟩, hc1, hH1, hM1⟩, by rw [ht9]; exact hP, va_K.moved hW9.alike hK, hD⟩, hS.F ht9⟩) hS.2.2 dM_find_57
      · subst e9
        refine lv_if_eq (tgt := 56) hx hb dM_find_44 (by decide) (fun c_30 => ?_) (fun c_30 => absurd rfl c_30)
        refine lv_iconst (v := (-1)) hx hb dM_find_56 (by decide) ?_
        exact W.iret (v := (-1)) hx hb hr (fun t9 ht9 hW9 => ⟨⟨(-1), τ1, rfl, ⟨0, Or.inr ⟨d, n, hok, rfl, Or.inr ⟨fun z => ha9 ((hn_has_iff (hO d hd).1).mp z), rfl⟩⟩, hc1, hH1, hM1⟩, by rw [ht9]; exact hP, va_K.moved hW9.alike hK, hD⟩, hS.F ht9⟩) hS.2.2 dM_find_57
    · subst e9
      refine lv_if_ne (tgt := 20) hx hb dM_find_13 (by decide) (fun c_31 => absurd rfl c_31) (fun c_31 => ?_)
      refine lv_iconst (v := 1) hx hb dM_find_16 (by decide) ?_
      refine lv_goto (tgt := 21) hx hb dM_find_17 (by decide) ?_
      refine lv_iconst (v := 0) hx hb dM_find_21 (by decide) ?_
      have hFc := va_free (wc := hn_wM am cI (τ)) hD hS hA [0, 1, 2, 3, 4, 5, 6] rfl
      refine va_calli (va_runV (As := [.int 1, .int 0]) (rest := []) ⟨hx, hb, hml, hown, hts⟩ (cM_throwing_ok l D cI cL am (τ) 1 0 _) (cwV 2 hts gM_M_throwing rfl rfl rfl (by decide +kernel) ⟨Nat.le_of_ble_eq_true rfl, Nat.le_of_ble_eq_true rfl⟩) (hn_preVW hP hK hD (ci := 1) (q0 := 0) rfl rfl) rfl rfl hl.1 rfl (lv_room (Nat.le_of_ble_eq_true rfl)) dM_find_22 ⟨Nat.zero_le _, Nat.zero_le _⟩) hS (fun q _ h => hFc q h) hFc (fun r9 τ1 t8 H1 locs ht hvm hw hB hz1 hk1 hS => ?_)
      obtain ⟨hP1, hK1, hD1⟩ := hB
      rw [ht] at hP1
      have hD : va_D A (hn_wM am cI (τ1)) := hD1.weaken (fun _ q _ h => hFc q.1 h)
      have hP : va_P D vwCl (hn_wM am cI (τ1)) H1 := hP1
      generalize H1 = H at hP hS ⊢
      try dsimp only at hw
      obtain ⟨hw1, hw2⟩ := hn_thr1 hw rfl
      subst hw1
      have hH1 : hn_MH τ1 h tn TK := by rw [hw2]; exact hn_MH_keep hH rfl rfl rfl
      have hM1 : hn_MD τ1 D9 := by rw [hw2]; exact hn_MD_keep hM rfl rfl rfl rfl
      have hc1 : τ1 0 0 = nI 1 := by rw [hw2]; show upd (τ 0) 0 1 0 = nI 1; rw [pk_us]; rfl
      have hR1 : hn_MR τ1 h D9 tn (hn_kb TK) := hn_MR_iff.mpr ⟨hH1, hM1⟩
      refine lv_if_eq (tgt := 30) hx hb dM_find_25 (by decide) (fun c_32 => absurd c_32 (by decide)) (fun c_32 => ?_)
      refine lv_iconst (v := 0) hx hb dM_find_28 (by decide) ?_
      exact W.iret (v := 0) hx hb hr (fun t9 ht9 hW9 => ⟨⟨0, τ1, rfl, ⟨1, Or.inl ⟨rfl, fun z => hn9 z.2⟩, hc1, hH1, hM1⟩, by rw [ht9]; exact hP, va_K.moved hW9.alike hK, hD⟩, hS.F ht9⟩) hS.2.2 dM_find_29
  · subst e9
    refine lv_if_eq (tgt := 16) hx hb dM_find_5 (by decide) (fun c_33 => ?_) (fun c_33 => absurd rfl c_33)
    refine lv_iconst (v := 1) hx hb dM_find_16 (by decide) ?_
    refine lv_goto (tgt := 21) hx hb dM_find_17 (by decide) ?_
    refine lv_iconst (v := 0) hx hb dM_find_21 (by decide) ?_
    have hFc := va_free (wc := hn_wM am cI (τ)) hD hS hA [0, 1, 2, 3, 4, 5, 6] rfl
    refine va_calli (va_runV (As := [.int 1, .int 0]) (rest := []) ⟨hx, hb, hml, hown, hts⟩ (cM_throwing_ok l D cI cL am (τ) 1 0 _) (cwV 2 hts gM_M_throwing rfl rfl rfl (by decide +kernel) ⟨Nat.le_of_ble_eq_true rfl, Nat.le_of_ble_eq_true rfl⟩) (hn_preVW hP hK hD (ci := 1) (q0 := 0) rfl rfl) rfl rfl hl.1 rfl (lv_room (Nat.le_of_ble_eq_true rfl)) dM_find_22 ⟨Nat.zero_le _, Nat.zero_le _⟩) hS (fun q _ h => hFc q h) hFc (fun r9 τ1 t8 H1 locs ht hvm hw hB hz1 hk1 hS => ?_)
    obtain ⟨hP1, hK1, hD1⟩ := hB
    rw [ht] at hP1
    have hD : va_D A (hn_wM am cI (τ1)) := hD1.weaken (fun _ q _ h => hFc q.1 h)
    have hP : va_P D vwCl (hn_wM am cI (τ1)) H1 := hP1
    generalize H1 = H at hP hS ⊢
    try dsimp only at hw
    obtain ⟨hw1, hw2⟩ := hn_thr1 hw rfl
    subst hw1
    have hH1 : hn_MH τ1 h tn TK := by rw [hw2]; exact hn_MH_keep hH rfl rfl rfl
    have hM1 : hn_MD τ1 D9 := by rw [hw2]; exact hn_MD_keep hM rfl rfl rfl rfl
    have hc1 : τ1 0 0 = nI 1 := by rw [hw2]; show upd (τ 0) 0 1 0 = nI 1; rw [pk_us]; rfl
    have hR1 : hn_MR τ1 h D9 tn (hn_kb TK) := hn_MR_iff.mpr ⟨hH1, hM1⟩
    refine lv_if_eq (tgt := 30) hx hb dM_find_25 (by decide) (fun c_34 => absurd c_34 (by decide)) (fun c_34 => ?_)
    refine lv_iconst (v := 0) hx hb dM_find_28 (by decide) ?_
    exact W.iret (v := 0) hx hb hr (fun t9 ht9 hW9 => ⟨⟨0, τ1, rfl, ⟨1, Or.inl ⟨rfl, fun z => hd9 z.1⟩, hc1, hH1, hM1⟩, by rw [ht9]; exact hP, va_K.moved hW9.alike hK, hD⟩, hS.F ht9⟩) hS.2.2 dM_find_29

set_option maxHeartbeats 4000000 in
set_option maxRecDepth 100000 in
theorem cM_change_ok (l : Launch) (D : va_G) (cI cL : ClassId) (am : Nat → Nat) (τ : Nat → Nat → Int32) (d9 n9 x9 : Int32) (h : Nat → Nat) (D9 : Nat → List hn_E) (tn TK : Nat) (hH : hn_MH τ h tn TK) (hM : hn_MD τ D9) (hO : hn_DO D9)  (sz : Nat) : Met l yM_change wM_change ({ frames := 2, cells := 0, slots := 0, locals := 47 }) (hn_PW D (hn_ty cI cL) (hn_wM am cI (τ)) sz [.ref (am 0), .int d9, .int n9, .int x9]) (va_Qi (fun (r : Int32) (τ9 : Nat → Nat → Int32) => ∃ (c : Nat) (D8 : Nat → List hn_E), hn_changeS h D9 d9 n9 x9 c r D8 ∧ τ9 0 0 = nI c ∧ hn_MH τ9 h tn TK ∧ hn_MD τ9 D8 ∧ hn_DO D8) (fun (τ9 : Nat → Nat → Int32) t => hn_at D (hn_ty cI cL) (va_A (hn_wM am cI (τ)) sz) (hn_wM am cI (τ9)) t) (va_A (hn_wM am cI (τ)) sz)) 0 0 (va_A (hn_wM am cI (τ)) sz) := by
  refine Met.ofW (cc := cM_change) (maxL := 7) (ret := (some .int)) (by decide) rfl ?_
  intro p e s m args below meth c s₁ B hml hv
  obtain ⟨rfl, hsz, hP, hK, hD0⟩ := hv
  subst hsz
  have hD := hD0.self (sz := s.heap.size)
  generalize hAe : va_A (hn_wM am cI (τ)) s.heap.size = A at hD ⊢
  have hA : ∀ q : Nat, s.heap.size ≤ q → A q := fun q h => by rw [← hAe]; exact Or.inr h
  have hS : va_S A s.heap s.heap [] := va_S.rf
  have hP : va_P D vwCl (hn_wM am cI (τ)) s.heap := hP
  have hx := B.exec
  have hb := B.bytes
  have hr := B.returns
  have hts0 := atoms_spec (ws := wM_change) B.pre
  have hts : ∀ w ∈ hn_tb, w.before _ s = true := fun w hw => hts0 w (List.mem_cons_of_mem _ hw)
  have hown : s.vm.findClass RM = some m.cls := findClass_of_methodNamed B.named
  have hlocks := B.notSynchronized
  have hl := lv_entry [.ref (am 0), .int d9, .int n9, .int x9] (n := 7) (Nat.le_of_ble_eq_true rfl)
  rw [lg_entry_eq]
  generalize (lg_sl [.ref (am 0), .int d9, .int n9, .int x9] ++ List.replicate (7 - (lg_sl [.ref (am 0), .int d9, .int n9, .int x9]).length) Slot.unset).toArray = ls at hl ⊢
  have hl : lv_has ls 7 [(0, .ref (am 0)), (1, .int d9), (2, .int n9), (3, .int x9)] := hl
  refine lv_iload_n hx hb dM_change_0 rfl (lv_at hl 1 rfl) ?_
  refine hn_callE (W.runS (As := [.int d9]) (rest := []) ⟨hx, hb, hml, hown, hts⟩ (cM_isDirectory_ok l d9) (cwS 1 hts gM_M_isDirectory rfl rfl rfl (by decide +kernel) ⟨Nat.le_of_ble_eq_true rfl, Nat.le_of_ble_eq_true rfl⟩) hn_pre0 rfl rfl hl.1 rfl (lv_room (Nat.le_of_ble_eq_true rfl)) dM_change_1 ⟨Nat.zero_le _, Nat.zero_le _⟩) (fun r_35 hr_35 => ?_)
  refine W.eq (g2 := F0 m 4 ls [.int r_35]) rfl ?_
  rcases hr_35 with ⟨e9, hd9⟩ | ⟨e9, hd9⟩
  · subst e9
    refine lv_if_eq (tgt := 22) hx hb dM_change_4 (by decide) (fun c_36 => absurd c_36 (by decide)) (fun c_36 => ?_)
    refine lv_aload_n hx hb dM_change_7 rfl (lv_at hl 0 rfl) ?_
    refine lv_iload_n hx hb dM_change_8 rfl (lv_at hl 2 rfl) ?_
    refine hn_callE (W.runV (As := [.int n9]) (rest := []) ⟨hx, hb, hml, hown, hts⟩ (cM_isName_ok l D cI cL am (τ) h hH.1 hH.2.1 n9) (cwV 1 hts gM_M_isName rfl rfl rfl (by decide +kernel) ⟨Nat.le_of_ble_eq_true rfl, Nat.le_of_ble_eq_true rfl⟩) (hn_preV hP hK (ci := 1) (q0 := 0) rfl rfl) rfl rfl hl.1 rfl (lv_room (Nat.le_of_ble_eq_true rfl)) dM_change_9 ⟨Nat.zero_le _, Nat.zero_le _⟩) (fun r_37 hr_37 => ?_)
    refine W.eq (g2 := F0 m 12 ls [.int r_37]) rfl ?_
    rcases hr_37 with ⟨e9, hn9⟩ | ⟨e9, hn9⟩
    · subst e9
      refine lv_if_eq (tgt := 22) hx hb dM_change_12 (by decide) (fun c_38 => absurd c_38 (by decide)) (fun c_38 => ?_)
      refine lv_iload_n hx hb dM_change_15 rfl (lv_at hl 3 rfl) ?_
      refine hn_callE (W.runS (As := [.int x9]) (rest := []) ⟨hx, hb, hml, hown, hts⟩ (cM_isId_ok l x9) (cwS 1 hts gM_M_isId rfl rfl rfl (by decide +kernel) ⟨Nat.le_of_ble_eq_true rfl, Nat.le_of_ble_eq_true rfl⟩) hn_pre0 rfl rfl hl.1 rfl (lv_room (Nat.le_of_ble_eq_true rfl)) dM_change_16 ⟨Nat.zero_le _, Nat.zero_le _⟩) (fun r_39 hr_39 => ?_)
      refine W.eq (g2 := F0 m 19 ls [.int r_39]) rfl ?_
      rcases hr_39 with ⟨e9, hi9⟩ | ⟨e9, hi9⟩
      · subst e9
        refine lv_if_ne (tgt := 26) hx hb dM_change_19 (by decide) (fun c_40 => ?_) (fun c_40 => absurd c_40 (by decide))
        obtain ⟨d, n, hok⟩ := hn_ok_of hd9 hn9
        obtain ⟨ed, hd, en, h1, h2, hz0⟩ := id hok
        have hz : ∀ k, k < n → h k ≠ 0 := fun k hk => (hz0 k hk).1
        subst ed
        subst en
        have hR0 : hn_MR τ h D9 tn (hn_kb TK) := hn_MR_iff.mpr ⟨hH, hM⟩
        refine lv_iconst (v := 0) hx hb dM_change_26 (by decide) ?_
        refine lv_istore (lv' := [(4, .int 0), (0, .ref (am 0)), (1, .int (nI d)), (2, .int (nI n)), (3, .int x9)]) hx hb dM_change_27 hl (by decide) rfl (fun ls hl => ?_)
        refine lv_iload hx hb dM_change_29 (lv_at hl 0 rfl) ?_
        refine lv_if_eq (tgt := 38) hx hb dM_change_31 (by decide) (fun c_41 => ?_) (fun c_41 => absurd rfl c_41)
        refine lv_aload_n hx hb dM_change_38 rfl (lv_at hl 1 rfl) ?_
        refine lv_iload_n hx hb dM_change_39 rfl (lv_at hl 2 rfl) ?_
        refine lv_iload_n hx hb dM_change_40 rfl (lv_at hl 3 rfl) ?_
        refine W.callR (W.runV (As := [.int (nI d), .int (nI n)]) (rest := []) ⟨hx, hb, hml, hown, hts⟩ (cM_place_ok l D cI cL am τ h D9 tn (hn_kb TK) hR0 hO d hd n h1 h2 hz) (cwV 2 hts gM_M_place rfl rfl rfl (by decide +kernel) ⟨Nat.le_of_ble_eq_true rfl, Nat.le_of_ble_eq_true rfl⟩) (hn_preV hP hK (ci := 1) (q0 := 0) rfl rfl) rfl rfl hl.1 rfl (lv_room (Nat.le_of_ble_eq_true rfl)) dM_change_41 ⟨Nat.zero_le _, Nat.zero_le _⟩) ?_
        refine W.eq (g2 := F0 m 44 ls [.int (nI (48 * d + hn_pc (hn_num h n) (D9 d)))]) rfl ?_
        refine lv_istore (lv' := [(5, .int (nI (48 * d + hn_pc (hn_num h n) (D9 d)))), (4, .int 0), (0, .ref (am 0)), (1, .int (nI d)), (2, .int (nI n)), (3, .int x9)]) hx hb dM_change_44 hl (by decide) rfl (fun ls hl => ?_)
        refine lv_aload_n hx hb dM_change_46 rfl (lv_at hl 2 rfl) ?_
        refine lv_iload hx hb dM_change_47 (lv_at hl 1 rfl) ?_
        refine lv_iload hx hb dM_change_49 (lv_at hl 1 rfl) ?_
        refine lv_if_ne (tgt := 69) hx hb dM_change_51 (by decide) (fun c_42 => absurd rfl c_42) (fun c_42 => ?_)
        refine lv_aload_n hx hb dM_change_54 rfl (lv_at hl 2 rfl) ?_
        refine lv_iload hx hb dM_change_55 (lv_at hl 0 rfl) ?_
        refine lv_iload_n hx hb dM_change_57 rfl (lv_at hl 3 rfl) ?_
        refine lv_iload_n hx hb dM_change_58 rfl (lv_at hl 4 rfl) ?_
        have hpc := hn_pc_le (hn_num h n) (D9 d)
        have hlen := (hO d hd).2.1
        refine hn_callE (W.runV (As := [.int (nI (48 * d + hn_pc (hn_num h n) (D9 d))), .int (nI d), .int (nI n)]) (rest := [.int 0, .ref (am 0)]) ⟨hx, hb, hml, hown, hts⟩ (cM_isAt_ok l D cI cL am τ h D9 tn (hn_kb TK) hR0 hO d hd n h1 h2 hz (hn_pc (hn_num h n) (D9 d)) (by omega)) (cwV 3 hts gM_M_isAt rfl rfl rfl (by decide +kernel) ⟨Nat.le_of_ble_eq_true rfl, Nat.le_of_ble_eq_true rfl⟩) (hn_preV hP hK (ci := 1) (q0 := 0) rfl rfl) rfl rfl hl.1 rfl (lv_room (Nat.le_of_ble_eq_true rfl)) dM_change_59 ⟨Nat.zero_le _, Nat.zero_le _⟩) (fun r_43 hr_43 => ?_)
        refine W.eq (g2 := F0 m 62 ls [.int r_43, .int 0, .ref (am 0)]) rfl ?_
        rcases hr_43 with ⟨e9, ha9⟩ | ⟨e9, ha9⟩
        · subst e9
          refine lv_if_ne (tgt := 69) hx hb dM_change_62 (by decide) (fun c_44 => ?_) (fun c_44 => absurd c_44 (by decide))
          refine lv_iconst (v := 0) hx hb dM_change_69 (by decide) ?_
          have hFc := va_free (wc := hn_wM am cI (τ)) hD hS hA [0, 1, 2, 3, 4, 5, 6] rfl
          refine va_calli (va_runV (As := [.int 0, .int 0]) (rest := []) ⟨hx, hb, hml, hown, hts⟩ (cM_throwing_ok l D cI cL am (τ) 0 0 _) (cwV 2 hts gM_M_throwing rfl rfl rfl (by decide +kernel) ⟨Nat.le_of_ble_eq_true rfl, Nat.le_of_ble_eq_true rfl⟩) (hn_preVW hP hK hD (ci := 1) (q0 := 0) rfl rfl) rfl rfl hl.1 rfl (lv_room (Nat.le_of_ble_eq_true rfl)) dM_change_70 ⟨Nat.zero_le _, Nat.zero_le _⟩) hS (fun q _ h => hFc q h) hFc (fun r9 τ1 t8 H1 locs ht hvm hw hB hz1 hk1 hS => ?_)
          obtain ⟨hP1, hK1, hD1⟩ := hB
          rw [ht] at hP1
          have hD : va_D A (hn_wM am cI (τ1)) := hD1.weaken (fun _ q _ h => hFc q.1 h)
          have hP : va_P D vwCl (hn_wM am cI (τ1)) H1 := hP1
          generalize H1 = H at hP hS ⊢
          try dsimp only at hw
          obtain ⟨hw1, hw2⟩ := hn_thr0 hw rfl rfl
          subst hw1
          have hH1 : hn_MH τ1 h tn TK := by rw [hw2]; exact hn_MH_keep hH rfl rfl rfl
          have hM1 : hn_MD τ1 D9 := by rw [hw2]; exact hn_MD_keep hM rfl rfl rfl rfl
          have hc1 : τ1 0 0 = nI 0 := by rw [hw2]; show upd (τ 0) 0 0 0 = nI 0; rw [pk_us]; rfl
          have hR1 : hn_MR τ1 h D9 tn (hn_kb TK) := hn_MR_iff.mpr ⟨hH1, hM1⟩
          refine lv_if_eq (tgt := 78) hx hb dM_change_73 (by decide) (fun c_45 => ?_) (fun c_45 => absurd rfl c_45)
          have hh9 := (hn_has_iff (hO d hd).1).mpr ha9
          refine lv_aload_n hx hb dM_change_78 rfl (lv_at hl 2 rfl) ?_
          refine va_get (D := D) (ci := 1) (v := .ref (am 3)) (C := RM) (T := FM) (N := 8) hx hb hts iM hown hK hP 0 rfl rfl 3 (by decide) (hts _ mM_f_id) (fun _ h9 => h9) rfl dM_change_79 ?_
          refine lv_iload hx hb dM_change_82 (lv_at hl 0 rfl) ?_
          refine va_iald hx hb hK hP 3 0 rfl rfl (vp_in_nI (show 48 * d + hn_pc (hn_num h n) (D9 d) < 384 from by omega) (by omega)) dM_change_84 ?_
          rw [nI_clamp (show 48 * d + hn_pc (hn_num h n) (D9 d) < 2 ^ 31 by omega)]
          rw [show τ1 3 (48 * d + hn_pc (hn_num h n) (D9 d)) = ((D9 d).getD (hn_pc (hn_num h n) (D9 d)) hn_e0).2.2 from ((hM1 d hd).2 _ ha9.1).1]
          refine lv_istore (lv' := [(6, .int (((D9 d).getD (hn_pc (hn_num h n) (D9 d)) hn_e0).2.2)), (5, .int (nI (48 * d + hn_pc (hn_num h n) (D9 d)))), (4, .int 0), (0, .ref (am 0)), (1, .int (nI d)), (2, .int (nI n)), (3, .int x9)]) hx hb dM_change_85 hl (by decide) rfl (fun ls hl => ?_)
          refine lv_aload_n hx hb dM_change_87 rfl (lv_at hl 3 rfl) ?_
          refine va_get (D := D) (ci := 1) (v := .ref (am 3)) (C := RM) (T := FM) (N := 8) hx hb hts iM hown hK hP 0 rfl rfl 3 (by decide) (hts _ mM_f_id) (fun _ h9 => h9) rfl dM_change_88 ?_
          refine lv_iload hx hb dM_change_91 (lv_at hl 1 rfl) ?_
          refine lv_iload_n hx hb dM_change_93 rfl (lv_at hl 6 rfl) ?_
          refine va_iast hx hb hK hP hD hS 3 0 rfl rfl (vp_in_nI (show 48 * d + hn_pc (hn_num h n) (D9 d) < 384 from by omega) (by omega)) dM_change_94 (fun H locs hP hD hS => ?_)
          rw [nI_clamp (show 48 * d + hn_pc (hn_num h n) (D9 d) < 2 ^ 31 by omega)] at hP hD
          obtain ⟨τ2, eτ2⟩ : ∃ z : Nat → Nat → Int32, z = hn_up (τ1) 3 (upd (τ1 3) (48 * d + hn_pc (hn_num h n) (D9 d)) x9) := ⟨_, rfl⟩
          have hP : va_P D vwCl (hn_wM am cI (τ2)) H := by rw [eτ2]; exact hP
          have hD : va_D A (hn_wM am cI (τ2)) := by rw [eτ2]; exact hD
          refine lv_iload hx hb dM_change_95 (lv_at hl 0 rfl) ?_
          obtain ⟨g1, g2, g3⟩ := hn_chg_M (x := x9) hO hM1 hd hh9 (τ' := τ2) (by rw [eτ2]; rfl) (by rw [eτ2]; rfl) (by rw [eτ2]; rfl) (by rw [eτ2]; rfl)
          exact W.iret (v := (((D9 d).getD (hn_pc (hn_num h n) (D9 d)) hn_e0).2.2)) hx hb hr (fun t9 ht9 hW9 => ⟨⟨((D9 d).getD (hn_pc (hn_num h n) (D9 d)) hn_e0).2.2, τ2, rfl, ⟨0, hn_ud D9 d (hn_ec (hn_num h n) x9 (D9 d)), Or.inr ⟨d, n, hok, hi9, Or.inr ⟨rfl, hh9, rfl, rfl⟩⟩, by rw [eτ2]; exact hc1, by rw [eτ2]; exact hn_MH_keep hH1 rfl rfl rfl, g1, g2⟩, by rw [ht9]; exact hP, va_K.moved hW9.alike hK, hD⟩, hS.F ht9⟩) hS.2.2 dM_change_97
        · subst e9
          refine lv_if_ne (tgt := 69) hx hb dM_change_62 (by decide) (fun c_46 => absurd rfl c_46) (fun c_46 => ?_)
          refine lv_iconst (v := 1) hx hb dM_change_65 (by decide) ?_
          refine lv_goto (tgt := 70) hx hb dM_change_66 (by decide) ?_
          have hFc := va_free (wc := hn_wM am cI (τ)) hD hS hA [0, 1, 2, 3, 4, 5, 6] rfl
          refine va_calli (va_runV (As := [.int 0, .int 1]) (rest := []) ⟨hx, hb, hml, hown, hts⟩ (cM_throwing_ok l D cI cL am (τ) 0 1 _) (cwV 2 hts gM_M_throwing rfl rfl rfl (by decide +kernel) ⟨Nat.le_of_ble_eq_true rfl, Nat.le_of_ble_eq_true rfl⟩) (hn_preVW hP hK hD (ci := 1) (q0 := 0) rfl rfl) rfl rfl hl.1 rfl (lv_room (Nat.le_of_ble_eq_true rfl)) dM_change_70 ⟨Nat.zero_le _, Nat.zero_le _⟩) hS (fun q _ h => hFc q h) hFc (fun r9 τ1 t8 H1 locs ht hvm hw hB hz1 hk1 hS => ?_)
          obtain ⟨hP1, hK1, hD1⟩ := hB
          rw [ht] at hP1
          have hD : va_D A (hn_wM am cI (τ1)) := hD1.weaken (fun _ q _ h => hFc q.1 h)
          have hP : va_P D vwCl (hn_wM am cI (τ1)) H1 := hP1
          generalize H1 = H at hP hS ⊢
          try dsimp only at hw
          obtain ⟨hw1, hw2⟩ := hn_thr2 hw rfl (by decide)
          subst hw1
          have hH1 : hn_MH τ1 h tn TK := by rw [hw2]; exact hn_MH_keep hH rfl rfl rfl
          have hM1 : hn_MD τ1 D9 := by rw [hw2]; exact hn_MD_keep hM rfl rfl rfl rfl
          have hc1 : τ1 0 0 = nI 2 := by rw [hw2]; show upd (τ 0) 0 2 0 = nI 2; rw [pk_us]; rfl
          have hR1 : hn_MR τ1 h D9 tn (hn_kb TK) := hn_MR_iff.mpr ⟨hH1, hM1⟩
          refine lv_if_eq (tgt := 78) hx hb dM_change_73 (by decide) (fun c_47 => absurd c_47 (by decide)) (fun c_47 => ?_)
          refine lv_iconst (v := 0) hx hb dM_change_76 (by decide) ?_
          exact W.iret (v := 0) hx hb hr (fun t9 ht9 hW9 => ⟨⟨0, τ1, rfl, ⟨2, D9, Or.inr ⟨d, n, hok, hi9, Or.inl ⟨rfl, rfl, fun z => ha9 ((hn_has_iff (hO d hd).1).mp z)⟩⟩, hc1, hH1, hM1, hO⟩, by rw [ht9]; exact hP, va_K.moved hW9.alike hK, hD⟩, hS.F ht9⟩) hS.2.2 dM_change_77
      · subst e9
        refine lv_if_ne (tgt := 26) hx hb dM_change_19 (by decide) (fun c_48 => absurd rfl c_48) (fun c_48 => ?_)
        refine lv_iconst (v := 1) hx hb dM_change_22 (by decide) ?_
        refine lv_goto (tgt := 27) hx hb dM_change_23 (by decide) ?_
        refine lv_istore (lv' := [(4, .int 1), (0, .ref (am 0)), (1, .int d9), (2, .int n9), (3, .int x9)]) hx hb dM_change_27 hl (by decide) rfl (fun ls hl => ?_)
        refine lv_iload hx hb dM_change_29 (lv_at hl 0 rfl) ?_
        refine lv_if_eq (tgt := 38) hx hb dM_change_31 (by decide) (fun c_49 => absurd c_49 (by decide)) (fun c_49 => ?_)
        refine lv_iconst (v := 0) hx hb dM_change_34 (by decide) ?_
        refine lv_goto (tgt := 44) hx hb dM_change_35 (by decide) ?_
        refine lv_istore (lv' := [(5, .int 0), (4, .int 1), (0, .ref (am 0)), (1, .int d9), (2, .int n9), (3, .int x9)]) hx hb dM_change_44 hl (by decide) rfl (fun ls hl => ?_)
        refine lv_aload_n hx hb dM_change_46 rfl (lv_at hl 2 rfl) ?_
        refine lv_iload hx hb dM_change_47 (lv_at hl 1 rfl) ?_
        refine lv_iload hx hb dM_change_49 (lv_at hl 1 rfl) ?_
        refine lv_if_ne (tgt := 69) hx hb dM_change_51 (by decide) (fun c_50 => ?_) (fun c_50 => absurd c_50 (by decide))
        refine lv_iconst (v := 0) hx hb dM_change_69 (by decide) ?_
        have hFc := va_free (wc := hn_wM am cI (τ)) hD hS hA [0, 1, 2, 3, 4, 5, 6] rfl
        refine va_calli (va_runV (As := [.int 1, .int 0]) (rest := []) ⟨hx, hb, hml, hown, hts⟩ (cM_throwing_ok l D cI cL am (τ) 1 0 _) (cwV 2 hts gM_M_throwing rfl rfl rfl (by decide +kernel) ⟨Nat.le_of_ble_eq_true rfl, Nat.le_of_ble_eq_true rfl⟩) (hn_preVW hP hK hD (ci := 1) (q0 := 0) rfl rfl) rfl rfl hl.1 rfl (lv_room (Nat.le_of_ble_eq_true rfl)) dM_change_70 ⟨Nat.zero_le _, Nat.zero_le _⟩) hS (fun q _ h => hFc q h) hFc (fun r9 τ1 t8 H1 locs ht hvm hw hB hz1 hk1 hS => ?_)
        obtain ⟨hP1, hK1, hD1⟩ := hB
        rw [ht] at hP1
        have hD : va_D A (hn_wM am cI (τ1)) := hD1.weaken (fun _ q _ h => hFc q.1 h)
        have hP : va_P D vwCl (hn_wM am cI (τ1)) H1 := hP1
        generalize H1 = H at hP hS ⊢
        try dsimp only at hw
        obtain ⟨hw1, hw2⟩ := hn_thr1 hw rfl
        subst hw1
        have hH1 : hn_MH τ1 h tn TK := by rw [hw2]; exact hn_MH_keep hH rfl rfl rfl
        have hM1 : hn_MD τ1 D9 := by rw [hw2]; exact hn_MD_keep hM rfl rfl rfl rfl
        have hc1 : τ1 0 0 = nI 1 := by rw [hw2]; show upd (τ 0) 0 1 0 = nI 1; rw [pk_us]; rfl
        have hR1 : hn_MR τ1 h D9 tn (hn_kb TK) := hn_MR_iff.mpr ⟨hH1, hM1⟩
        refine lv_if_eq (tgt := 78) hx hb dM_change_73 (by decide) (fun c_51 => absurd c_51 (by decide)) (fun c_51 => ?_)
        refine lv_iconst (v := 0) hx hb dM_change_76 (by decide) ?_
        exact W.iret (v := 0) hx hb hr (fun t9 ht9 hW9 => ⟨⟨0, τ1, rfl, ⟨1, D9, Or.inl ⟨rfl, rfl, fun z => hi9 z.2.2⟩, hc1, hH1, hM1, hO⟩, by rw [ht9]; exact hP, va_K.moved hW9.alike hK, hD⟩, hS.F ht9⟩) hS.2.2 dM_change_77
    · subst e9
      refine lv_if_eq (tgt := 22) hx hb dM_change_12 (by decide) (fun c_52 => ?_) (fun c_52 => absurd rfl c_52)
      refine lv_iconst (v := 1) hx hb dM_change_22 (by decide) ?_
      refine lv_goto (tgt := 27) hx hb dM_change_23 (by decide) ?_
      refine lv_istore (lv' := [(4, .int 1), (0, .ref (am 0)), (1, .int d9), (2, .int n9), (3, .int x9)]) hx hb dM_change_27 hl (by decide) rfl (fun ls hl => ?_)
      refine lv_iload hx hb dM_change_29 (lv_at hl 0 rfl) ?_
      refine lv_if_eq (tgt := 38) hx hb dM_change_31 (by decide) (fun c_53 => absurd c_53 (by decide)) (fun c_53 => ?_)
      refine lv_iconst (v := 0) hx hb dM_change_34 (by decide) ?_
      refine lv_goto (tgt := 44) hx hb dM_change_35 (by decide) ?_
      refine lv_istore (lv' := [(5, .int 0), (4, .int 1), (0, .ref (am 0)), (1, .int d9), (2, .int n9), (3, .int x9)]) hx hb dM_change_44 hl (by decide) rfl (fun ls hl => ?_)
      refine lv_aload_n hx hb dM_change_46 rfl (lv_at hl 2 rfl) ?_
      refine lv_iload hx hb dM_change_47 (lv_at hl 1 rfl) ?_
      refine lv_iload hx hb dM_change_49 (lv_at hl 1 rfl) ?_
      refine lv_if_ne (tgt := 69) hx hb dM_change_51 (by decide) (fun c_54 => ?_) (fun c_54 => absurd c_54 (by decide))
      refine lv_iconst (v := 0) hx hb dM_change_69 (by decide) ?_
      have hFc := va_free (wc := hn_wM am cI (τ)) hD hS hA [0, 1, 2, 3, 4, 5, 6] rfl
      refine va_calli (va_runV (As := [.int 1, .int 0]) (rest := []) ⟨hx, hb, hml, hown, hts⟩ (cM_throwing_ok l D cI cL am (τ) 1 0 _) (cwV 2 hts gM_M_throwing rfl rfl rfl (by decide +kernel) ⟨Nat.le_of_ble_eq_true rfl, Nat.le_of_ble_eq_true rfl⟩) (hn_preVW hP hK hD (ci := 1) (q0 := 0) rfl rfl) rfl rfl hl.1 rfl (lv_room (Nat.le_of_ble_eq_true rfl)) dM_change_70 ⟨Nat.zero_le _, Nat.zero_le _⟩) hS (fun q _ h => hFc q h) hFc (fun r9 τ1 t8 H1 locs ht hvm hw hB hz1 hk1 hS => ?_)
      obtain ⟨hP1, hK1, hD1⟩ := hB
      rw [ht] at hP1
      have hD : va_D A (hn_wM am cI (τ1)) := hD1.weaken (fun _ q _ h => hFc q.1 h)
      have hP : va_P D vwCl (hn_wM am cI (τ1)) H1 := hP1
      generalize H1 = H at hP hS ⊢
      try dsimp only at hw
      obtain ⟨hw1, hw2⟩ := hn_thr1 hw rfl
      subst hw1
      have hH1 : hn_MH τ1 h tn TK := by rw [hw2]; exact hn_MH_keep hH rfl rfl rfl
      have hM1 : hn_MD τ1 D9 := by rw [hw2]; exact hn_MD_keep hM rfl rfl rfl rfl
      have hc1 : τ1 0 0 = nI 1 := by rw [hw2]; show upd (τ 0) 0 1 0 = nI 1; rw [pk_us]; rfl
      have hR1 : hn_MR τ1 h D9 tn (hn_kb TK) := hn_MR_iff.mpr ⟨hH1, hM1⟩
      refine lv_if_eq (tgt := 78) hx hb dM_change_73 (by decide) (fun c_55 => absurd c_55 (by decide)) (fun c_55 => ?_)
      refine lv_iconst (v := 0) hx hb dM_change_76 (by decide) ?_
      exact W.iret (v := 0) hx hb hr (fun t9 ht9 hW9 => ⟨⟨0, τ1, rfl, ⟨1, D9, Or.inl ⟨rfl, rfl, fun z => hn9 z.2.1⟩, hc1, hH1, hM1, hO⟩, by rw [ht9]; exact hP, va_K.moved hW9.alike hK, hD⟩, hS.F ht9⟩) hS.2.2 dM_change_77
  · subst e9
    refine lv_if_eq (tgt := 22) hx hb dM_change_4 (by decide) (fun c_56 => ?_) (fun c_56 => absurd rfl c_56)
    refine lv_iconst (v := 1) hx hb dM_change_22 (by decide) ?_
    refine lv_goto (tgt := 27) hx hb dM_change_23 (by decide) ?_
    refine lv_istore (lv' := [(4, .int 1), (0, .ref (am 0)), (1, .int d9), (2, .int n9), (3, .int x9)]) hx hb dM_change_27 hl (by decide) rfl (fun ls hl => ?_)
    refine lv_iload hx hb dM_change_29 (lv_at hl 0 rfl) ?_
    refine lv_if_eq (tgt := 38) hx hb dM_change_31 (by decide) (fun c_57 => absurd c_57 (by decide)) (fun c_57 => ?_)
    refine lv_iconst (v := 0) hx hb dM_change_34 (by decide) ?_
    refine lv_goto (tgt := 44) hx hb dM_change_35 (by decide) ?_
    refine lv_istore (lv' := [(5, .int 0), (4, .int 1), (0, .ref (am 0)), (1, .int d9), (2, .int n9), (3, .int x9)]) hx hb dM_change_44 hl (by decide) rfl (fun ls hl => ?_)
    refine lv_aload_n hx hb dM_change_46 rfl (lv_at hl 2 rfl) ?_
    refine lv_iload hx hb dM_change_47 (lv_at hl 1 rfl) ?_
    refine lv_iload hx hb dM_change_49 (lv_at hl 1 rfl) ?_
    refine lv_if_ne (tgt := 69) hx hb dM_change_51 (by decide) (fun c_58 => ?_) (fun c_58 => absurd c_58 (by decide))
    refine lv_iconst (v := 0) hx hb dM_change_69 (by decide) ?_
    have hFc := va_free (wc := hn_wM am cI (τ)) hD hS hA [0, 1, 2, 3, 4, 5, 6] rfl
    refine va_calli (va_runV (As := [.int 1, .int 0]) (rest := []) ⟨hx, hb, hml, hown, hts⟩ (cM_throwing_ok l D cI cL am (τ) 1 0 _) (cwV 2 hts gM_M_throwing rfl rfl rfl (by decide +kernel) ⟨Nat.le_of_ble_eq_true rfl, Nat.le_of_ble_eq_true rfl⟩) (hn_preVW hP hK hD (ci := 1) (q0 := 0) rfl rfl) rfl rfl hl.1 rfl (lv_room (Nat.le_of_ble_eq_true rfl)) dM_change_70 ⟨Nat.zero_le _, Nat.zero_le _⟩) hS (fun q _ h => hFc q h) hFc (fun r9 τ1 t8 H1 locs ht hvm hw hB hz1 hk1 hS => ?_)
    obtain ⟨hP1, hK1, hD1⟩ := hB
    rw [ht] at hP1
    have hD : va_D A (hn_wM am cI (τ1)) := hD1.weaken (fun _ q _ h => hFc q.1 h)
    have hP : va_P D vwCl (hn_wM am cI (τ1)) H1 := hP1
    generalize H1 = H at hP hS ⊢
    try dsimp only at hw
    obtain ⟨hw1, hw2⟩ := hn_thr1 hw rfl
    subst hw1
    have hH1 : hn_MH τ1 h tn TK := by rw [hw2]; exact hn_MH_keep hH rfl rfl rfl
    have hM1 : hn_MD τ1 D9 := by rw [hw2]; exact hn_MD_keep hM rfl rfl rfl rfl
    have hc1 : τ1 0 0 = nI 1 := by rw [hw2]; show upd (τ 0) 0 1 0 = nI 1; rw [pk_us]; rfl
    have hR1 : hn_MR τ1 h D9 tn (hn_kb TK) := hn_MR_iff.mpr ⟨hH1, hM1⟩
    refine lv_if_eq (tgt := 78) hx hb dM_change_73 (by decide) (fun c_59 => absurd c_59 (by decide)) (fun c_59 => ?_)
    refine lv_iconst (v := 0) hx hb dM_change_76 (by decide) ?_
    exact W.iret (v := 0) hx hb hr (fun t9 ht9 hW9 => ⟨⟨0, τ1, rfl, ⟨1, D9, Or.inl ⟨rfl, rfl, fun z => hd9 z.1⟩, hc1, hH1, hM1, hO⟩, by rw [ht9]; exact hP, va_K.moved hW9.alike hK, hD⟩, hS.F ht9⟩) hS.2.2 dM_change_77
end
section
/-! a name comes into the reference's rows, a name goes: pure -/
section
/-- what move(a, b) leaves -/
def hn_mvd (τ τ9 : Nat → Nat → Int32) (a b : Nat) : Prop := τ9 0 = τ 0 ∧ τ9 1 = τ 1 ∧ τ9 2 = τ 2 ∧ τ9 6 = τ 6 ∧ τ9 3 = upd (τ 3) b (τ 3 a) ∧ τ9 4 = upd (τ 4) b (τ 4 a) ∧ (∀ j, j < 20 → τ9 5 (20 * b + j) = τ 5 (20 * a + j)) ∧ ∀ q, ¬ (20 * b ≤ q ∧ q < 20 * b + 20) → τ9 5 q = τ 5 q
theorem hn_mvd_to {τ τ9 : Nat → Nat → Int32} {a b : Nat} {e : hn_E} (h : hn_mvd τ τ9 a b) (hs : hn_sl τ a e) (hn : e.2.1 ≤ 20) : hn_sl τ9 b e := by
  obtain ⟨-, -, -, -, h3, h4, h5, -⟩ := h
  exact ⟨by rw [h3, pk_us]; exact hs.1, by rw [h4, pk_us]; exact hs.2.1, fun k hk => (h5 k (by omega)).trans (hs.2.2 k hk)⟩
theorem hn_mvd_keep {τ τ9 : Nat → Nat → Int32} {a b i : Nat} {e : hn_E} (h : hn_mvd τ τ9 a b) (hs : hn_sl τ i e) (hn : e.2.1 ≤ 20) (hi : i ≠ b) : hn_sl τ9 i e := by
  obtain ⟨-, -, -, -, h3, h4, -, h6⟩ := h
  exact hn_sl_keep hs hn (by rw [h3, pk_un hi]) (by rw [h4, pk_un hi]) (fun k hk => h6 _ (by omega))
/-- the reference's add, its first loop: from place t on all stand one further -/
def hn_iv1 (τ1 τ3 : Nat → Nat → Int32) (d : Nat) (l : List hn_E) (t : Nat) : Prop :=
  τ3 0 = τ1 0 ∧ τ3 1 = τ1 1 ∧ τ3 2 = τ1 2 ∧ τ3 6 = τ1 6 ∧ (∀ j, j < t → hn_sl τ3 (48 * d + j) (l.getD j hn_e0)) ∧ (∀ j, t < j → j ≤ l.length → hn_sl τ3 (48 * d + j) (l.getD (j - 1) hn_e0)) ∧
  ∀ i e, (i < 48 * d ∨ 48 * d + 48 ≤ i) → e.2.1 ≤ 20 → hn_sl τ1 i e → hn_sl τ3 i e
theorem hn_iv1_0 {τ1 : Nat → Nat → Int32} {D : Nat → List hn_E} {d : Nat} (hM : hn_MD τ1 D) (hd : d < 8) : hn_iv1 τ1 τ1 d (D d) (D d).length :=
  ⟨rfl, rfl, rfl, rfl, (hM d hd).2, fun j h1 h2 => absurd h1 (by omega), fun _ _ _ _ h => h⟩
theorem hn_iv1_s {τ1 τ3 τ4 : Nat → Nat → Int32} {d t : Nat} {l : List hn_E} (h : hn_iv1 τ1 τ3 d l (t + 1)) (hm : hn_mvd τ3 τ4 (48 * d + t) (48 * d + t + 1)) (ht : t < l.length) (hl : l.length < 48) (hw : ∀ e ∈ l, hn_wf e) : hn_iv1 τ1 τ4 d l t := by
  obtain ⟨a0, a1, a2, a6, b1, b2, b3⟩ := h
  have wl : ∀ j, j < l.length → (l.getD j hn_e0).2.1 ≤ 20 := fun j hj => (hw _ (hn_getD_mem hj)).2.1
  refine ⟨hm.1.trans a0, hm.2.1.trans a1, hm.2.2.1.trans a2, hm.2.2.2.1.trans a6, fun j hj => ?_, fun j h1 h2 => ?_, fun i e hi hn hs => ?_⟩
  · exact hn_mvd_keep hm (b1 j (by omega)) (wl j (by omega)) (by omega)
  · by_cases e : j = t + 1
    · subst e
      exact hn_mvd_to hm (b1 t (by omega)) (wl t ht)
    · exact hn_mvd_keep hm (b2 j (by omega) h2) (wl _ (by omega)) (by omega)
  · exact hn_mvd_keep hm (b3 i e hi hn hs) hn (by omega)
theorem hn_add_M {τ1 τ3 τF : Nat → Nat → Int32} {D : Nat → List hn_E} {d n K : Nat} {h : Nat → Nat} {x : Int32} (hO : hn_DO D) (hM : hn_MD τ1 D) (hd : d < 8) (hh : ∀ k, h k < 256) (h1 : 1 ≤ n) (h2 : n ≤ 20) (hz : ∀ k, k < n → h k ≠ 0) (hK : K = hn_num h n)
    (hno : ¬ hn_has K (D d)) (hfull : ¬ (D d).length = 48) (hI : hn_iv1 τ1 τ3 d (D d) (hn_pc K (D d)))
    (f2 : τF 2 = upd (τ1 2) d (nI ((D d).length + 1))) (f3 : τF 3 = upd (τ3 3) (48 * d + hn_pc K (D d)) x) (f4 : τF 4 = upd (τ3 4) (48 * d + hn_pc K (D d)) (nI n))
    (f5 : ∀ j, j < n → τF 5 (20 * (48 * d + hn_pc K (D d)) + j) = nI (h j)) (f6 : ∀ q, ¬ (20 * (48 * d + hn_pc K (D d)) ≤ q ∧ q < 20 * (48 * d + hn_pc K (D d)) + 20) → τF 5 q = τ3 5 q) :
    hn_MD τF (hn_ud D d (hn_ei (K, n, x) (D d))) ∧ hn_DO (hn_ud D d (hn_ei (K, n, x) (D d))) := by
  have hlen := (hO d hd).2.1
  have hpc := hn_pc_le K (D d)
  have hnew : hn_wf (K, n, x) := by rw [hK]; exact hn_num_wf hh h1 h2 hz x
  have wl : ∀ j, j < (D d).length → ((D d).getD j hn_e0).2.1 ≤ 20 := fun j hj => ((hO d hd).2.2 _ (hn_getD_mem hj)).2.1
  obtain ⟨a0, a1, a2, a6, b1, b2, b3⟩ := hI
  have keep : ∀ i e, i ≠ 48 * d + hn_pc K (D d) → e.2.1 ≤ 20 → hn_sl τ3 i e → hn_sl τF i e := fun i e hi hn hs =>
    hn_sl_keep hs hn (by rw [f3, pk_un hi]) (by rw [f4, pk_un hi]) (fun k hk => f6 _ (by omega))
  refine ⟨hn_MD_put hO hM hd (by rw [f2, hn_ei_len]) (by rw [hn_ei_len]; omega) (fun i e hi hn hs => keep i e (by omega) hn (b3 i e hi hn hs)) (fun j hj => ?_), hn_DO_put hO (hn_ei_es (hO d hd).1 hno) (by rw [hn_ei_len]; omega) (fun e he => ?_)⟩
  · rw [hn_ei_len] at hj
    rw [hn_ei_at (D d) j]
    show hn_sl τF (48 * d + j) (if j < hn_pc K (D d) then (D d).getD j hn_e0 else if j = hn_pc K (D d) then (K, n, x) else (D d).getD (j - 1) hn_e0)
    by_cases g1 : j < hn_pc K (D d)
    · rw [if_pos g1]
      exact keep _ _ (by omega) (wl j (by omega)) (b1 j g1)
    · rw [if_neg g1]
      by_cases g2 : j = hn_pc K (D d)
      · rw [if_pos g2, g2]
        refine ⟨by rw [f3, pk_us], by rw [f4, pk_us], fun k hk => ?_⟩
        have hk : k < n := hk
        rw [f5 k hk]
        show nI (h k) = nI (hn_kb K k)
        rw [hK, show hn_kb (hn_num h n) k = hn_hc h n k from hn_kb_bn (hn_hc_lt hh n) (by omega)]
        unfold hn_hc
        rw [if_pos hk]
      · rw [if_neg g2]
        exact keep _ _ (by omega) (wl _ (by omega)) (b2 j (by omega) (by omega))
  · rcases hn_ei_mem he with e1 | e1
    · rw [e1]; exact hnew
    · exact (hO d hd).2.2 e e1
/-- the reference's remove, its loop -/
def hn_iv3 (τ1 τ3 : Nat → Nat → Int32) (d K : Nat) (l : List hn_E) (t : Nat) : Prop :=
  τ3 0 = τ1 0 ∧ τ3 1 = τ1 1 ∧ τ3 2 = τ1 2 ∧ τ3 6 = τ1 6 ∧ (∀ j, j < t → hn_sl τ3 (48 * d + j) ((hn_er K l).getD j hn_e0)) ∧ (∀ j, t < j → j < l.length → hn_sl τ3 (48 * d + j) (l.getD j hn_e0)) ∧
  ∀ i e, (i < 48 * d ∨ 48 * d + 48 ≤ i) → e.2.1 ≤ 20 → hn_sl τ1 i e → hn_sl τ3 i e
theorem hn_iv3_0 {τ1 : Nat → Nat → Int32} {l : List hn_E} {d K : Nat} (hM : ∀ j, j < l.length → hn_sl τ1 (48 * d + j) (l.getD j hn_e0)) (hs : hn_es l) (hh : hn_has K l) : hn_iv3 τ1 τ1 d K l (hn_pc K l) := by
  have hp := (hn_has_pc hs hh).1
  refine ⟨rfl, rfl, rfl, rfl, fun j hj => ?_, fun j _ h2 => hM j h2, fun _ _ _ _ h => h⟩
  rw [hn_er_at hs hh j, if_pos hj]
  exact hM j (by omega)
theorem hn_iv3_s {τ1 τ3 τ4 : Nat → Nat → Int32} {d t K : Nat} {l : List hn_E} (h : hn_iv3 τ1 τ3 d K l t) (hm : hn_mvd τ3 τ4 (48 * d + t + 1) (48 * d + t)) (hs : hn_es l) (hh : hn_has K l) (hp : hn_pc K l ≤ t) (ht : t + 1 < l.length) (hl : l.length ≤ 48) (hw : ∀ e ∈ l, hn_wf e) : hn_iv3 τ1 τ4 d K l (t + 1) := by
  obtain ⟨a0, a1, a2, a6, b1, b2, b3⟩ := h
  have wl : ∀ j, j < l.length → (l.getD j hn_e0).2.1 ≤ 20 := fun j hj => (hw _ (hn_getD_mem hj)).2.1
  have we : ∀ j, j + 1 < l.length → ((hn_er K l).getD j hn_e0).2.1 ≤ 20 := fun j hj => by
    have := hn_er_len hh
    exact (hw _ (hn_er_mem (hn_getD_mem (by omega)))).2.1
  refine ⟨hm.1.trans a0, hm.2.1.trans a1, hm.2.2.1.trans a2, hm.2.2.2.1.trans a6, fun j hj => ?_, fun j h1 h2 => ?_, fun i e hi hn hs => ?_⟩
  · by_cases e : j = t
    · subst e
      rw [hn_er_at hs hh j, if_neg (by omega)]
      exact hn_mvd_to hm (b2 (j + 1) (by omega) ht) (wl _ ht)
    · exact hn_mvd_keep hm (b1 j (by omega)) (we j (by omega)) (by omega)
  · exact hn_mvd_keep hm (b2 j (by omega) h2) (wl j h2) (by omega)
  · exact hn_mvd_keep hm (b3 i e hi hn hs) hn (by omega)
theorem hn_rem_M {τ1 τ2 τF : Nat → Nat → Int32} {D : Nat → List hn_E} {d K : Nat} (hO : hn_DO D) (hM : hn_MD τ1 D) (hd : d < 8) (hh : hn_has K (D d)) (g2 : τ2 2 = upd (τ1 2) d (nI ((D d).length - 1))) (g3 : τ2 3 = τ1 3) (g4 : τ2 4 = τ1 4) (g5 : τ2 5 = τ1 5)
    (hI : hn_iv3 τ2 τF d K (D d) ((D d).length - 1)) : hn_MD τF (hn_ud D d (hn_er K (D d))) ∧ hn_DO (hn_ud D d (hn_er K (D d))) := by
  obtain ⟨a0, a1, a2, a6, b1, b2, b3⟩ := hI
  have hlen := (hO d hd).2.1
  have hel := hn_er_len hh
  refine ⟨hn_MD_put hO hM hd (by rw [a2, g2, show (D d).length - 1 = (hn_er K (D d)).length by omega]) (by omega) (fun i e hi hn hs => b3 i e hi hn (hn_sl_keep hs hn (by rw [g3]) (by rw [g4]) (fun k _ => by rw [g5]))) (fun j hj => b1 j (by omega)), hn_DO_put hO (hn_er_es (hO d hd).1) (by omega) (fun e he => (hO d hd).2.2 e (hn_er_mem he))⟩
end
end
section
section
theorem hn_ab1 {t5 : Nat → Int32} {b k : Nat} {h : Nat → Nat} (h1 : ∀ j, j < k → t5 (b + j) = nI (h j)) {j : Nat} (hj : j < k + 1) : upd t5 (b + k) (nI (h k)) (b + j) = nI (h j) := by
  by_cases e : j = k
  · rw [e, pk_us]
  · rw [pk_un (by omega)]; exact h1 j (by omega)
end
set_option maxHeartbeats 4000000 in
set_option maxRecDepth 100000 in
theorem cM_add_ok (l : Launch) (D : va_G) (cI cL : ClassId) (am : Nat → Nat) (τ : Nat → Nat → Int32) (d9 n9 x9 : Int32) (h : Nat → Nat) (D9 : Nat → List hn_E) (tn TK : Nat) (hH : hn_MH τ h tn TK) (hM : hn_MD τ D9) (hO : hn_DO D9)  (sz : Nat) : Met l yM_add wM_add ({ frames := 2, cells := 0, slots := 0, locals := 47 }) (hn_PW D (hn_ty cI cL) (hn_wM am cI (τ)) sz [.ref (am 0), .int d9, .int n9, .int x9]) (va_Qi (fun (r : Int32) (τ9 : Nat → Nat → Int32) => ∃ (c : Nat) (D8 : Nat → List hn_E), hn_addS h D9 d9 n9 x9 c r D8 ∧ τ9 0 0 = nI c ∧ hn_MH τ9 h tn TK ∧ hn_MD τ9 D8 ∧ hn_DO D8) (fun (τ9 : Nat → Nat → Int32) t => hn_at D (hn_ty cI cL) (va_A (hn_wM am cI (τ)) sz) (hn_wM am cI (τ9)) t) (va_A (hn_wM am cI (τ)) sz)) 0 0 (va_A (hn_wM am cI (τ)) sz) := by
  refine Met.ofW (cc := cM_add) (maxL := 7) (ret := (some .int)) (by decide) rfl ?_
  intro p e s m args below meth c s₁ B hml hv
  obtain ⟨rfl, hsz, hP, hK, hD0⟩ := hv
  subst hsz
  have hD := hD0.self (sz := s.heap.size)
  generalize hAe : va_A (hn_wM am cI (τ)) s.heap.size = A at hD ⊢
  have hA : ∀ q : Nat, s.heap.size ≤ q → A q := fun q h => by rw [← hAe]; exact Or.inr h
  have hS : va_S A s.heap s.heap [] := va_S.rf
  have hP : va_P D vwCl (hn_wM am cI (τ)) s.heap := hP
  have hx := B.exec
  have hb := B.bytes
  have hr := B.returns
  have hts0 := atoms_spec (ws := wM_add) B.pre
  have hts : ∀ w ∈ hn_tb, w.before _ s = true := fun w hw => hts0 w (List.mem_cons_of_mem _ hw)
  have hown : s.vm.findClass RM = some m.cls := findClass_of_methodNamed B.named
  have hlocks := B.notSynchronized
  have hl := lv_entry [.ref (am 0), .int d9, .int n9, .int x9] (n := 7) (Nat.le_of_ble_eq_true rfl)
  rw [lg_entry_eq]
  generalize (lg_sl [.ref (am 0), .int d9, .int n9, .int x9] ++ List.replicate (7 - (lg_sl [.ref (am 0), .int d9, .int n9, .int x9]).length) Slot.unset).toArray = ls at hl ⊢
  have hl : lv_has ls 7 [(0, .ref (am 0)), (1, .int d9), (2, .int n9), (3, .int x9)] := hl
  refine lv_iload_n hx hb dM_add_0 rfl (lv_at hl 1 rfl) ?_
  refine hn_callE (W.runS (As := [.int d9]) (rest := []) ⟨hx, hb, hml, hown, hts⟩ (cM_isDirectory_ok l d9) (cwS 1 hts gM_M_isDirectory rfl rfl rfl (by decide +kernel) ⟨Nat.le_of_ble_eq_true rfl, Nat.le_of_ble_eq_true rfl⟩) hn_pre0 rfl rfl hl.1 rfl (lv_room (Nat.le_of_ble_eq_true rfl)) dM_add_1 ⟨Nat.zero_le _, Nat.zero_le _⟩) (fun r_60 hr_60 => ?_)
  refine W.eq (g2 := F0 m 4 ls [.int r_60]) rfl ?_
  rcases hr_60 with ⟨e9, hd9⟩ | ⟨e9, hd9⟩
  · subst e9
    refine lv_if_eq (tgt := 22) hx hb dM_add_4 (by decide) (fun c_61 => absurd c_61 (by decide)) (fun c_61 => ?_)
    refine lv_aload_n hx hb dM_add_7 rfl (lv_at hl 0 rfl) ?_
    refine lv_iload_n hx hb dM_add_8 rfl (lv_at hl 2 rfl) ?_
    refine hn_callE (W.runV (As := [.int n9]) (rest := []) ⟨hx, hb, hml, hown, hts⟩ (cM_isName_ok l D cI cL am (τ) h hH.1 hH.2.1 n9) (cwV 1 hts gM_M_isName rfl rfl rfl (by decide +kernel) ⟨Nat.le_of_ble_eq_true rfl, Nat.le_of_ble_eq_true rfl⟩) (hn_preV hP hK (ci := 1) (q0 := 0) rfl rfl) rfl rfl hl.1 rfl (lv_room (Nat.le_of_ble_eq_true rfl)) dM_add_9 ⟨Nat.zero_le _, Nat.zero_le _⟩) (fun r_62 hr_62 => ?_)
    refine W.eq (g2 := F0 m 12 ls [.int r_62]) rfl ?_
    rcases hr_62 with ⟨e9, hn9⟩ | ⟨e9, hn9⟩
    · subst e9
      refine lv_if_eq (tgt := 22) hx hb dM_add_12 (by decide) (fun c_63 => absurd c_63 (by decide)) (fun c_63 => ?_)
      refine lv_iload_n hx hb dM_add_15 rfl (lv_at hl 3 rfl) ?_
      refine hn_callE (W.runS (As := [.int x9]) (rest := []) ⟨hx, hb, hml, hown, hts⟩ (cM_isId_ok l x9) (cwS 1 hts gM_M_isId rfl rfl rfl (by decide +kernel) ⟨Nat.le_of_ble_eq_true rfl, Nat.le_of_ble_eq_true rfl⟩) hn_pre0 rfl rfl hl.1 rfl (lv_room (Nat.le_of_ble_eq_true rfl)) dM_add_16 ⟨Nat.zero_le _, Nat.zero_le _⟩) (fun r_64 hr_64 => ?_)
      refine W.eq (g2 := F0 m 19 ls [.int r_64]) rfl ?_
      rcases hr_64 with ⟨e9, hi9⟩ | ⟨e9, hi9⟩
      · subst e9
        refine lv_if_ne (tgt := 26) hx hb dM_add_19 (by decide) (fun c_65 => ?_) (fun c_65 => absurd c_65 (by decide))
        obtain ⟨d, n, hok⟩ := hn_ok_of hd9 hn9
        obtain ⟨ed, hd, en, h1, h2, hz0⟩ := id hok
        have hz : ∀ k, k < n → h k ≠ 0 := fun k hk => (hz0 k hk).1
        subst ed
        subst en
        have hR0 : hn_MR τ h D9 tn (hn_kb TK) := hn_MR_iff.mpr ⟨hH, hM⟩
        refine lv_iconst (v := 0) hx hb dM_add_26 (by decide) ?_
        refine lv_istore (lv' := [(4, .int 0), (0, .ref (am 0)), (1, .int (nI d)), (2, .int (nI n)), (3, .int x9)]) hx hb dM_add_27 hl (by decide) rfl (fun ls hl => ?_)
        refine lv_iload hx hb dM_add_29 (lv_at hl 0 rfl) ?_
        refine lv_if_eq (tgt := 38) hx hb dM_add_31 (by decide) (fun c_66 => ?_) (fun c_66 => absurd rfl c_66)
        refine lv_aload_n hx hb dM_add_38 rfl (lv_at hl 1 rfl) ?_
        refine lv_iload_n hx hb dM_add_39 rfl (lv_at hl 2 rfl) ?_
        refine lv_iload_n hx hb dM_add_40 rfl (lv_at hl 3 rfl) ?_
        refine W.callR (W.runV (As := [.int (nI d), .int (nI n)]) (rest := []) ⟨hx, hb, hml, hown, hts⟩ (cM_place_ok l D cI cL am τ h D9 tn (hn_kb TK) hR0 hO d hd n h1 h2 hz) (cwV 2 hts gM_M_place rfl rfl rfl (by decide +kernel) ⟨Nat.le_of_ble_eq_true rfl, Nat.le_of_ble_eq_true rfl⟩) (hn_preV hP hK (ci := 1) (q0 := 0) rfl rfl) rfl rfl hl.1 rfl (lv_room (Nat.le_of_ble_eq_true rfl)) dM_add_41 ⟨Nat.zero_le _, Nat.zero_le _⟩) ?_
        refine W.eq (g2 := F0 m 44 ls [.int (nI (48 * d + hn_pc (hn_num h n) (D9 d)))]) rfl ?_
        refine lv_istore (lv' := [(5, .int (nI (48 * d + hn_pc (hn_num h n) (D9 d)))), (4, .int 0), (0, .ref (am 0)), (1, .int (nI d)), (2, .int (nI n)), (3, .int x9)]) hx hb dM_add_44 hl (by decide) rfl (fun ls hl => ?_)
        refine lv_aload_n hx hb dM_add_46 rfl (lv_at hl 2 rfl) ?_
        refine lv_iload hx hb dM_add_47 (lv_at hl 1 rfl) ?_
        refine lv_iload hx hb dM_add_49 (lv_at hl 1 rfl) ?_
        refine lv_if_ne (tgt := 80) hx hb dM_add_51 (by decide) (fun c_67 => absurd rfl c_67) (fun c_67 => ?_)
        refine lv_aload_n hx hb dM_add_54 rfl (lv_at hl 2 rfl) ?_
        refine lv_iload hx hb dM_add_55 (lv_at hl 0 rfl) ?_
        refine lv_iload_n hx hb dM_add_57 rfl (lv_at hl 3 rfl) ?_
        refine lv_iload_n hx hb dM_add_58 rfl (lv_at hl 4 rfl) ?_
        have hpc := hn_pc_le (hn_num h n) (D9 d)
        have hlen := (hO d hd).2.1
        refine hn_callE (W.runV (As := [.int (nI (48 * d + hn_pc (hn_num h n) (D9 d))), .int (nI d), .int (nI n)]) (rest := [.int 0, .ref (am 0)]) ⟨hx, hb, hml, hown, hts⟩ (cM_isAt_ok l D cI cL am τ h D9 tn (hn_kb TK) hR0 hO d hd n h1 h2 hz (hn_pc (hn_num h n) (D9 d)) (by omega)) (cwV 3 hts gM_M_isAt rfl rfl rfl (by decide +kernel) ⟨Nat.le_of_ble_eq_true rfl, Nat.le_of_ble_eq_true rfl⟩) (hn_preV hP hK (ci := 1) (q0 := 0) rfl rfl) rfl rfl hl.1 rfl (lv_room (Nat.le_of_ble_eq_true rfl)) dM_add_59 ⟨Nat.zero_le _, Nat.zero_le _⟩) (fun r_68 hr_68 => ?_)
        refine W.eq (g2 := F0 m 62 ls [.int r_68, .int 0, .ref (am 0)]) rfl ?_
        rcases hr_68 with ⟨e9, ha9⟩ | ⟨e9, ha9⟩
        · subst e9
          refine lv_if_ne (tgt := 76) hx hb dM_add_62 (by decide) (fun c_69 => ?_) (fun c_69 => absurd c_69 (by decide))
          refine lv_iconst (v := 1) hx hb dM_add_76 (by decide) ?_
          refine lv_goto (tgt := 81) hx hb dM_add_77 (by decide) ?_
          have hFc := va_free (wc := hn_wM am cI (τ)) hD hS hA [0, 1, 2, 3, 4, 5, 6] rfl
          refine va_calli (va_runV (As := [.int 0, .int 1]) (rest := []) ⟨hx, hb, hml, hown, hts⟩ (cM_throwing_ok l D cI cL am (τ) 0 1 _) (cwV 2 hts gM_M_throwing rfl rfl rfl (by decide +kernel) ⟨Nat.le_of_ble_eq_true rfl, Nat.le_of_ble_eq_true rfl⟩) (hn_preVW hP hK hD (ci := 1) (q0 := 0) rfl rfl) rfl rfl hl.1 rfl (lv_room (Nat.le_of_ble_eq_true rfl)) dM_add_81 ⟨Nat.zero_le _, Nat.zero_le _⟩) hS (fun q _ h => hFc q h) hFc (fun r9 τ1 t8 H1 locs ht hvm hw hB hz1 hk1 hS => ?_)
          obtain ⟨hP1, hK1, hD1⟩ := hB
          rw [ht] at hP1
          have hD : va_D A (hn_wM am cI (τ1)) := hD1.weaken (fun _ q _ h => hFc q.1 h)
          have hP : va_P D vwCl (hn_wM am cI (τ1)) H1 := hP1
          generalize H1 = H at hP hS ⊢
          try dsimp only at hw
          obtain ⟨hw1, hw2⟩ := hn_thr2 hw rfl (by decide)
          subst hw1
          have hH1 : hn_MH τ1 h tn TK := by rw [hw2]; exact hn_MH_keep hH rfl rfl rfl
          have hM1 : hn_MD τ1 D9 := by rw [hw2]; exact hn_MD_keep hM rfl rfl rfl rfl
          have hc1 : τ1 0 0 = nI 2 := by rw [hw2]; show upd (τ 0) 0 2 0 = nI 2; rw [pk_us]; rfl
          have hR1 : hn_MR τ1 h D9 tn (hn_kb TK) := hn_MR_iff.mpr ⟨hH1, hM1⟩
          refine lv_if_eq (tgt := 89) hx hb dM_add_84 (by decide) (fun c_70 => absurd c_70 (by decide)) (fun c_70 => ?_)
          refine lv_iconst (v := 0) hx hb dM_add_87 (by decide) ?_
          exact W.iret (v := 0) hx hb hr (fun t9 ht9 hW9 => ⟨⟨0, τ1, rfl, ⟨2, D9, Or.inr ⟨d, n, hok, hi9, Or.inl ⟨rfl, rfl, Or.inl ((hn_has_iff (hO d hd).1).mpr ha9)⟩⟩, hc1, hH1, hM1, hO⟩, by rw [ht9]; exact hP, va_K.moved hW9.alike hK, hD⟩, hS.F ht9⟩) hS.2.2 dM_add_88
        · subst e9
          refine lv_if_ne (tgt := 76) hx hb dM_add_62 (by decide) (fun c_71 => absurd c_71 (by decide)) (fun c_71 => ?_)
          have hno : ¬ hn_has (hn_num h n) (D9 d) := fun z => ha9 ((hn_has_iff (hO d hd).1).mp z)
          refine lv_aload_n hx hb dM_add_65 rfl (lv_at hl 2 rfl) ?_
          refine va_get (D := D) (ci := 1) (v := .ref (am 2)) (C := RM) (T := FM) (N := 8) hx hb hts iM hown hK hP 0 rfl rfl 2 (by decide) (hts _ mM_f_many) (fun _ h9 => h9) rfl dM_add_66 ?_
          refine lv_iload_n hx hb dM_add_69 rfl (lv_at hl 3 rfl) ?_
          refine va_iald hx hb hK hP 2 0 rfl rfl (vp_in_nI (show d < 8 from hd) (by omega)) dM_add_70 ?_
          rw [nI_clamp (show d < 2 ^ 31 by omega)]
          rw [show τ 2 d = nI (D9 d).length from (hM d hd).1]
          refine lv_bipush (v := 48) hx hb dM_add_71 (by decide) ?_
          refine lv_icmp_ne (tgt := 80) hx hb dM_add_73 (by decide) (fun c_72 => ?_) (fun c_72 => ?_)
          · skip
            have hfull : ¬ (D9 d).length = 48 := fun z => c_72 (by rw [z]; rfl)
            refine lv_iconst (v := 0) hx hb dM_add_80 (by decide) ?_
            have hFc := va_free (wc := hn_wM am cI (τ)) hD hS hA [0, 1, 2, 3, 4, 5, 6] rfl
            refine va_calli (va_runV (As := [.int 0, .int 0]) (rest := []) ⟨hx, hb, hml, hown, hts⟩ (cM_throwing_ok l D cI cL am (τ) 0 0 _) (cwV 2 hts gM_M_throwing rfl rfl rfl (by decide +kernel) ⟨Nat.le_of_ble_eq_true rfl, Nat.le_of_ble_eq_true rfl⟩) (hn_preVW hP hK hD (ci := 1) (q0 := 0) rfl rfl) rfl rfl hl.1 rfl (lv_room (Nat.le_of_ble_eq_true rfl)) dM_add_81 ⟨Nat.zero_le _, Nat.zero_le _⟩) hS (fun q _ h => hFc q h) hFc (fun r9 τ1 t8 H1 locs ht hvm hw hB hz1 hk1 hS => ?_)
            obtain ⟨hP1, hK1, hD1⟩ := hB
            rw [ht] at hP1
            have hD : va_D A (hn_wM am cI (τ1)) := hD1.weaken (fun _ q _ h => hFc q.1 h)
            have hP : va_P D vwCl (hn_wM am cI (τ1)) H1 := hP1
            generalize H1 = H at hP hS ⊢
            try dsimp only at hw
            obtain ⟨hw1, hw2⟩ := hn_thr0 hw rfl rfl
            subst hw1
            have hH1 : hn_MH τ1 h tn TK := by rw [hw2]; exact hn_MH_keep hH rfl rfl rfl
            have hM1 : hn_MD τ1 D9 := by rw [hw2]; exact hn_MD_keep hM rfl rfl rfl rfl
            have hc1 : τ1 0 0 = nI 0 := by rw [hw2]; show upd (τ 0) 0 0 0 = nI 0; rw [pk_us]; rfl
            have hR1 : hn_MR τ1 h D9 tn (hn_kb TK) := hn_MR_iff.mpr ⟨hH1, hM1⟩
            refine lv_if_eq (tgt := 89) hx hb dM_add_84 (by decide) (fun c_73 => ?_) (fun c_73 => absurd rfl c_73)
            refine lv_bipush (v := 48) hx hb dM_add_89 (by decide) ?_
            refine lv_iload_n hx hb dM_add_91 rfl (lv_at hl 3 rfl) ?_
            refine lv_imul hx hb dM_add_92 ?_
            rw [show (48 * (nI d) : Int32) = nI (48 * d) from pk_mul 48 d]
            refine lv_aload_n hx hb dM_add_93 rfl (lv_at hl 2 rfl) ?_
            refine va_get (D := D) (ci := 1) (v := .ref (am 2)) (C := RM) (T := FM) (N := 8) hx hb hts iM hown hK hP 0 rfl rfl 2 (by decide) (hts _ mM_f_many) (fun _ h9 => h9) rfl dM_add_94 ?_
            refine lv_iload_n hx hb dM_add_97 rfl (lv_at hl 3 rfl) ?_
            refine va_iald hx hb hK hP 2 0 rfl rfl (vp_in_nI (show d < 8 from hd) (by omega)) dM_add_98 ?_
            rw [nI_clamp (show d < 2 ^ 31 by omega)]
            rw [show τ1 2 d = nI (D9 d).length from (hM1 d hd).1]
            refine lv_iadd hx hb dM_add_99 ?_
            rw [show ((nI (48 * d)) + (nI (D9 d).length) : Int32) = nI (48 * d + (D9 d).length) from nI_add _ _]
            refine lv_istore (lv' := [(6, .int (nI (48 * d + (D9 d).length))), (5, .int (nI (48 * d + hn_pc (hn_num h n) (D9 d)))), (4, .int 0), (0, .ref (am 0)), (1, .int (nI d)), (2, .int (nI n)), (3, .int x9)]) hx hb dM_add_100 hl (by decide) rfl (fun ls hl => ?_)
            suffices loop : ∀ (f : Nat) (τ3 : Nat → Nat → Int32) (H : Heap) (locs : List Loc), hn_pc (hn_num h n) (D9 d) + f ≤ (D9 d).length → va_P D vwCl (hn_wM am cI τ3) H → va_D A (hn_wM am cI τ3) → va_S A s.heap H locs → hn_iv1 τ1 τ3 d (D9 d) (hn_pc (hn_num h n) (D9 d) + f) → ∀ ls : Array Slot, lv_has ls 7 [(0, .ref (am 0)), (1, .int (nI d)), (2, .int (nI n)), (3, .int x9), (5, .int (nI (48 * d + hn_pc (hn_num h n) (D9 d)))), (6, .int (nI (48 * d + (hn_pc (hn_num h n) (D9 d) + f))))] → W p l e (headSpec wM_add ({ frames := 2, cells := 0, slots := 0, locals := 47 })).room s m [.ref (am 0), .int (nI d), .int (nI n), .int x9].toArray below meth c H locs 0 0 (MQ below (va_Qi (fun (r : Int32) (τ9 : Nat → Nat → Int32) => ∃ (c : Nat) (D8 : Nat → List hn_E), hn_addS h D9 (nI d) (nI n) x9 c r D8 ∧ τ9 0 0 = nI c ∧ hn_MH τ9 h tn TK ∧ hn_MD τ9 D8 ∧ hn_DO D8) (fun (τ9 : Nat → Nat → Int32) t => hn_at D (hn_ty cI cL) A (hn_wM am cI (τ9)) t) A) [.ref (am 0), .int (nI d), .int (nI n), .int x9].toArray s 0 0 A) (F0 m 102 ls []) from loop ((D9 d).length - hn_pc (hn_num h n) (D9 d)) τ1 _ _ (by omega) hP hD hS (by rw [show hn_pc (hn_num h n) (D9 d) + ((D9 d).length - hn_pc (hn_num h n) (D9 d)) = (D9 d).length by omega]; exact hn_iv1_0 hM1 hd) ls (by rw [show hn_pc (hn_num h n) (D9 d) + ((D9 d).length - hn_pc (hn_num h n) (D9 d)) = (D9 d).length by omega]; exact lv_sub hl [3, 4, 5, 6, 1, 0] rfl)
            intro f
            induction f with
            | zero =>
              intro τ3 H locs hf hP hD hS hI ls hl
              have hl : lv_has ls 7 [(0, .ref (am 0)), (1, .int (nI d)), (2, .int (nI n)), (3, .int x9), (5, .int (nI (48 * d + hn_pc (hn_num h n) (D9 d)))), (6, .int (nI (48 * d + hn_pc (hn_num h n) (D9 d))))] := hl
              refine lv_iload hx hb dM_add_102 (lv_at hl 5 rfl) ?_
              refine lv_iload hx hb dM_add_104 (lv_at hl 4 rfl) ?_
              refine lv_icmp_le (tgt := 125) hx hb dM_add_106 (by decide) (fun c_74 => ?_) (fun c_74 => absurd (Int32.le_refl _) c_74)
              refine lv_aload_n hx hb dM_add_125 rfl (lv_at hl 0 rfl) ?_
              refine va_get (D := D) (ci := 1) (v := .ref (am 3)) (C := RM) (T := FM) (N := 8) hx hb hts iM hown hK hP 0 rfl rfl 3 (by decide) (hts _ mM_f_id) (fun _ h9 => h9) rfl dM_add_126 ?_
              refine lv_iload hx hb dM_add_129 (lv_at hl 4 rfl) ?_
              refine lv_iload_n hx hb dM_add_131 rfl (lv_at hl 3 rfl) ?_
              refine va_iast hx hb hK hP hD hS 3 0 rfl rfl (vp_in_nI (show 48 * d + hn_pc (hn_num h n) (D9 d) < 384 from by omega) (by omega)) dM_add_132 (fun H locs hP hD hS => ?_)
              rw [nI_clamp (show 48 * d + hn_pc (hn_num h n) (D9 d) < 2 ^ 31 by omega)] at hP hD
              obtain ⟨τa, eτa⟩ : ∃ z : Nat → Nat → Int32, z = hn_up (τ3) 3 (upd (τ3 3) (48 * d + hn_pc (hn_num h n) (D9 d)) x9) := ⟨_, rfl⟩
              have hP : va_P D vwCl (hn_wM am cI (τa)) H := by rw [eτa]; exact hP
              have hD : va_D A (hn_wM am cI (τa)) := by rw [eτa]; exact hD
              refine lv_aload_n hx hb dM_add_133 rfl (lv_at hl 0 rfl) ?_
              refine va_get (D := D) (ci := 1) (v := .ref (am 4)) (C := RM) (T := FM) (N := 8) hx hb hts iM hown hK hP 0 rfl rfl 4 (by decide) (hts _ mM_f_length) (fun _ h9 => h9) rfl dM_add_134 ?_
              refine lv_iload hx hb dM_add_137 (lv_at hl 4 rfl) ?_
              refine lv_iload_n hx hb dM_add_139 rfl (lv_at hl 2 rfl) ?_
              refine va_iast hx hb hK hP hD hS 4 0 rfl rfl (vp_in_nI (show 48 * d + hn_pc (hn_num h n) (D9 d) < 384 from by omega) (by omega)) dM_add_140 (fun H locs hP hD hS => ?_)
              rw [nI_clamp (show 48 * d + hn_pc (hn_num h n) (D9 d) < 2 ^ 31 by omega)] at hP hD
              obtain ⟨τb, eτb⟩ : ∃ z : Nat → Nat → Int32, z = hn_up (τa) 4 (upd (τa 4) (48 * d + hn_pc (hn_num h n) (D9 d)) (nI n)) := ⟨_, rfl⟩
              have hP : va_P D vwCl (hn_wM am cI (τb)) H := by rw [eτb]; exact hP
              have hD : va_D A (hn_wM am cI (τb)) := by rw [eτb]; exact hD
              refine lv_iconst (v := 0) hx hb dM_add_141 (by decide) ?_
              refine lv_istore (lv' := [(6, .int 0), (0, .ref (am 0)), (1, .int (nI d)), (2, .int (nI n)), (3, .int x9), (5, .int (nI (48 * d + hn_pc (hn_num h n) (D9 d))))]) hx hb dM_add_142 hl (by decide) rfl (fun ls hl => ?_)
              suffices loop2 : ∀ (f k : Nat) (τ5 : Nat → Nat → Int32) (H : Heap) (locs : List Loc), k + f = n → va_P D vwCl (hn_wM am cI τ5) H → va_D A (hn_wM am cI τ5) → va_S A s.heap H locs → (τ5 0 = τb 0 ∧ τ5 1 = τb 1 ∧ τ5 2 = τb 2 ∧ τ5 3 = τb 3 ∧ τ5 4 = τb 4 ∧ τ5 6 = τb 6 ∧ (∀ j, j < k → τ5 5 (20 * (48 * d + hn_pc (hn_num h n) (D9 d)) + j) = nI (h j)) ∧ ∀ q, ¬ (20 * (48 * d + hn_pc (hn_num h n) (D9 d)) ≤ q ∧ q < 20 * (48 * d + hn_pc (hn_num h n) (D9 d)) + 20) → τ5 5 q = τb 5 q) → ∀ ls : Array Slot, lv_has ls 7 [(0, .ref (am 0)), (1, .int (nI d)), (2, .int (nI n)), (5, .int (nI (48 * d + hn_pc (hn_num h n) (D9 d)))), (6, .int (nI k))] → W p l e (headSpec wM_add ({ frames := 2, cells := 0, slots := 0, locals := 47 })).room s m [.ref (am 0), .int (nI d), .int (nI n), .int x9].toArray below meth c H locs 0 0 (MQ below (va_Qi (fun (r : Int32) (τ9 : Nat → Nat → Int32) => ∃ (c : Nat) (D8 : Nat → List hn_E), hn_addS h D9 (nI d) (nI n) x9 c r D8 ∧ τ9 0 0 = nI c ∧ hn_MH τ9 h tn TK ∧ hn_MD τ9 D8 ∧ hn_DO D8) (fun (τ9 : Nat → Nat → Int32) t => hn_at D (hn_ty cI cL) A (hn_wM am cI (τ9)) t) A) [.ref (am 0), .int (nI d), .int (nI n), .int x9].toArray s 0 0 A) (F0 m 144 ls []) from loop2 n 0 τb _ _ (Nat.zero_add _) hP hD hS ⟨rfl, rfl, rfl, rfl, rfl, rfl, fun j z => absurd z (Nat.not_lt_zero _), fun q _ => rfl⟩ ls (lv_sub hl [1, 2, 3, 5, 0] rfl)
              have hh1 : ∀ k, k < 20 → τ3 1 k = nI (h k) := by rw [hI.2.1]; exact hH1.1
              intro f
              induction f with
              | zero =>
                intro k τ5 H locs hf hP hD hS hJ ls hl
                have hf : n = k := by omega
                subst hf
                refine lv_iload hx hb dM_add_144 (lv_at hl 4 rfl) ?_
                refine lv_iload_n hx hb dM_add_146 rfl (lv_at hl 2 rfl) ?_
                refine lv_icmp_ge (tgt := 176) hx hb dM_add_147 (by decide) (fun c_75 => ?_) (fun c_75 => absurd (Int32.le_refl _) c_75)
                obtain ⟨j0, j1, j2, j3, j4, j6, j5, j7⟩ := hJ
                have hcnt : τ5 2 d = nI (D9 d).length := by rw [j2, eτb, eτa]; show τ3 2 d = _; rw [hI.2.2.1]; exact (hM1 d hd).1
                refine lv_aload_n hx hb dM_add_176 rfl (lv_at hl 0 rfl) ?_
                refine va_get (D := D) (ci := 1) (v := .ref (am 2)) (C := RM) (T := FM) (N := 8) hx hb hts iM hown hK hP 0 rfl rfl 2 (by decide) (hts _ mM_f_many) (fun _ h9 => h9) rfl dM_add_177 ?_
                refine lv_iload_n hx hb dM_add_180 rfl (lv_at hl 1 rfl) ?_
                refine lv_dup2_11 hx hb dM_add_181 rfl rfl ?_
                refine va_iald hx hb hK hP 2 0 rfl rfl (vp_in_nI (show d < 8 from hd) (by omega)) dM_add_182 ?_
                rw [nI_clamp (show d < 2 ^ 31 by omega)]
                rw [show τ5 2 d = nI (D9 d).length from hcnt]
                refine lv_iconst (v := 1) hx hb dM_add_183 (by decide) ?_
                refine lv_iadd hx hb dM_add_184 ?_
                rw [show ((nI (D9 d).length) + 1 : Int32) = nI ((D9 d).length + 1) from nI_1 _]
                refine va_iast hx hb hK hP hD hS 2 0 rfl rfl (vp_in_nI (show d < 8 from hd) (by omega)) dM_add_185 (fun H locs hP hD hS => ?_)
                rw [nI_clamp (show d < 2 ^ 31 by omega)] at hP hD
                obtain ⟨τ6, eτ6⟩ : ∃ z : Nat → Nat → Int32, z = hn_up (τ5) 2 (upd (τ5 2) d (nI ((D9 d).length + 1))) := ⟨_, rfl⟩
                have hP : va_P D vwCl (hn_wM am cI (τ6)) H := by rw [eτ6]; exact hP
                have hD : va_D A (hn_wM am cI (τ6)) := by rw [eτ6]; exact hD
                refine lv_aload_n hx hb dM_add_186 rfl (lv_at hl 0 rfl) ?_
                refine va_get (D := D) (ci := 1) (v := .ref (am 2)) (C := RM) (T := FM) (N := 8) hx hb hts iM hown hK hP 0 rfl rfl 2 (by decide) (hts _ mM_f_many) (fun _ h9 => h9) rfl dM_add_187 ?_
                refine lv_iload_n hx hb dM_add_190 rfl (lv_at hl 1 rfl) ?_
                refine va_iald hx hb hK hP 2 0 rfl rfl (vp_in_nI (show d < 8 from hd) (by omega)) dM_add_191 ?_
                rw [nI_clamp (show d < 2 ^ 31 by omega)]
                rw [show τ6 2 d = nI ((D9 d).length + 1) from by rw [eτ6]; exact pk_us]
                have hF2 : τ6 2 = upd (τ1 2) d (nI ((D9 d).length + 1)) := by rw [eτ6]; show upd (τ5 2) d _ = _; rw [j2, eτb, eτa]; show upd (τ3 2) d _ = _; rw [hI.2.2.1]
                have hF3 : τ6 3 = upd (τ3 3) (48 * d + hn_pc (hn_num h n) (D9 d)) x9 := by rw [eτ6]; show τ5 3 = _; rw [j3, eτb, eτa]; rfl
                have hF4 : τ6 4 = upd (τ3 4) (48 * d + hn_pc (hn_num h n) (D9 d)) (nI n) := by rw [eτ6]; show τ5 4 = _; rw [j4, eτb, eτa]; rfl
                have hF6 : ∀ q, ¬ (20 * (48 * d + hn_pc (hn_num h n) (D9 d)) ≤ q ∧ q < 20 * (48 * d + hn_pc (hn_num h n) (D9 d)) + 20) → τ6 5 q = τ3 5 q := fun q hq => by rw [eτ6]; show τ5 5 q = _; rw [j7 q hq, eτb, eτa]; rfl
                obtain ⟨g1, g2⟩ := hn_add_M (K := hn_num h n) hO hM1 hd hH1.2.1 h1 h2 hz rfl hno hfull hI hF2 hF3 hF4 (fun j hj => by rw [eτ6]; exact j5 j hj) hF6
                have hF0 : τ6 0 = τ1 0 := by rw [eτ6]; show τ5 0 = _; rw [j0, eτb, eτa]; exact hI.1
                have hF1 : τ6 1 = τ1 1 := by rw [eτ6]; show τ5 1 = _; rw [j1, eτb, eτa]; exact hI.2.1
                have hF9 : τ6 6 = τ1 6 := by rw [eτ6]; show τ5 6 = _; rw [j6, eτb, eτa]; exact hI.2.2.2.1
                exact W.iret (v := (nI ((D9 d).length + 1))) hx hb hr (fun t9 ht9 hW9 => ⟨⟨nI ((D9 d).length + 1), τ6, rfl, ⟨0, hn_ud D9 d (hn_ei (hn_num h n, n, x9) (D9 d)), Or.inr ⟨d, n, hok, hi9, Or.inr ⟨rfl, hno, hfull, rfl, rfl⟩⟩, by rw [hF0]; exact hc1, hn_MH_keep hH1 (by rw [hF0]) hF1 hF9, g1, g2⟩, by rw [ht9]; exact hP, va_K.moved hW9.alike hK, hD⟩, hS.F ht9⟩) hS.2.2 dM_add_192
              | succ f ih2 =>
                intro k τ5 H locs hf hP hD hS hJ ls hl
                refine lv_iload hx hb dM_add_144 (lv_at hl 4 rfl) ?_
                refine lv_iload_n hx hb dM_add_146 rfl (lv_at hl 2 rfl) ?_
                refine lv_icmp_ge (tgt := 176) hx hb dM_add_147 (by decide) (fun c_76 => absurd c_76 (nI_ge (a := k) (b := n) (by omega) (by omega))) (fun c_76 => ?_)
                obtain ⟨j0, j1, j2, j3, j4, j6, j5, j7⟩ := hJ
                refine lv_aload_n hx hb dM_add_150 rfl (lv_at hl 0 rfl) ?_
                refine va_get (D := D) (ci := 1) (v := .ref (am 5)) (C := RM) (T := FM) (N := 8) hx hb hts iM hown hK hP 0 rfl rfl 5 (by decide) (hts _ mM_f_bytes) (fun _ h9 => h9) rfl dM_add_151 ?_
                refine lv_bipush (v := 20) hx hb dM_add_154 (by decide) ?_
                refine lv_iload hx hb dM_add_156 (lv_at hl 3 rfl) ?_
                refine lv_imul hx hb dM_add_158 ?_
                refine lv_iload hx hb dM_add_159 (lv_at hl 4 rfl) ?_
                refine lv_iadd hx hb dM_add_161 ?_
                rw [show ((20 * (nI (48 * d + hn_pc (hn_num h n) (D9 d)))) + (nI k) : Int32) = nI (20 * (48 * d + hn_pc (hn_num h n) (D9 d)) + k) from by rw [show (20 : Int32) = nI 20 from rfl, pk_mul, nI_add]]
                refine lv_aload_n hx hb dM_add_162 rfl (lv_at hl 0 rfl) ?_
                refine va_get (D := D) (ci := 1) (v := .ref (am 1)) (C := RM) (T := FM) (N := 8) hx hb hts iM hown hK hP 0 rfl rfl 1 (by decide) (hts _ mM_f_hand) (fun _ h9 => h9) rfl dM_add_163 ?_
                refine lv_iload hx hb dM_add_166 (lv_at hl 4 rfl) ?_
                refine va_iald hx hb hK hP 1 0 rfl rfl (vp_in_nI (show k < 20 from by omega) (by omega)) dM_add_168 ?_
                rw [nI_clamp (show k < 2 ^ 31 by omega)]
                rw [show τ5 1 k = nI (h k) from by rw [j1, eτb, eτa]; exact hh1 k (by omega)]
                refine va_iast hx hb hK hP hD hS 5 0 rfl rfl (vp_in_nI (show 20 * (48 * d + hn_pc (hn_num h n) (D9 d)) + k < 7680 from by omega) (by omega)) dM_add_169 (fun H locs hP hD hS => ?_)
                rw [nI_clamp (show 20 * (48 * d + hn_pc (hn_num h n) (D9 d)) + k < 2 ^ 31 by omega)] at hP hD
                obtain ⟨τ7, eτ7⟩ : ∃ z : Nat → Nat → Int32, z = hn_up (τ5) 5 (upd (τ5 5) (20 * (48 * d + hn_pc (hn_num h n) (D9 d)) + k) (nI (h k))) := ⟨_, rfl⟩
                have hP : va_P D vwCl (hn_wM am cI (τ7)) H := by rw [eτ7]; exact hP
                have hD : va_D A (hn_wM am cI (τ7)) := by rw [eτ7]; exact hD
                refine lv_iinc (v := nI (k + 1)) (lv' := [(6, .int (nI (k + 1))), (0, .ref (am 0)), (1, .int (nI d)), (2, .int (nI n)), (5, .int (nI (48 * d + hn_pc (hn_num h n) (D9 d))))]) hx hb dM_add_170 hl (k := 4) rfl (nI_1 k) (by decide) rfl (fun ls hl => ?_)
                refine lv_goto (tgt := 144) hx hb dM_add_173 (by decide) ?_
                exact ih2 (k + 1) τ7 H locs (by omega) hP hD hS (by rw [eτ7]; exact ⟨j0, j1, j2, j3, j4, j6, fun j hj => hn_ab1 j5 hj, fun q hq => by show upd (τ5 5) _ _ q = _; rw [pk_un (by omega)]; exact j7 q hq⟩) ls (lv_sub hl [1, 2, 3, 4, 0] rfl)
            | succ f ih =>
              intro τ3 H locs hf hP hD hS hI ls hl
              refine lv_iload hx hb dM_add_102 (lv_at hl 5 rfl) ?_
              refine lv_iload hx hb dM_add_104 (lv_at hl 4 rfl) ?_
              refine lv_icmp_le (tgt := 125) hx hb dM_add_106 (by decide) (fun c_77 => absurd c_77 (nI_ge (a := 48 * d + hn_pc (hn_num h n) (D9 d)) (b := 48 * d + (hn_pc (hn_num h n) (D9 d) + (f + 1))) (by omega) (by omega))) (fun c_77 => ?_)
              refine lv_aload_n hx hb dM_add_109 rfl (lv_at hl 0 rfl) ?_
              refine lv_iload hx hb dM_add_110 (lv_at hl 5 rfl) ?_
              refine lv_iconst (v := 1) hx hb dM_add_112 (by decide) ?_
              refine lv_isub hx hb dM_add_113 ?_
              rw [show ((nI (48 * d + (hn_pc (hn_num h n) (D9 d) + (f + 1)))) - 1 : Int32) = nI (48 * d + (hn_pc (hn_num h n) (D9 d) + f)) from nI_pred (48 * d + (hn_pc (hn_num h n) (D9 d) + f))]
              refine lv_iload hx hb dM_add_114 (lv_at hl 5 rfl) ?_
              try dsimp only
              have hFc := va_free (wc := hn_wM am cI (τ3)) hD hS hA [0, 1, 2, 3, 4, 5, 6] rfl
              refine va_callv (va_runV (As := [.int (nI (48 * d + (hn_pc (hn_num h n) (D9 d) + f))), .int (nI (48 * d + (hn_pc (hn_num h n) (D9 d) + f) + 1))]) (rest := []) ⟨hx, hb, hml, hown, hts⟩ (cM_move_ok l D cI cL am τ3 (48 * d + (hn_pc (hn_num h n) (D9 d) + f)) (48 * d + (hn_pc (hn_num h n) (D9 d) + f) + 1) (by omega) (by omega) (by omega) _) (cwV 2 hts gM_M_move rfl rfl rfl (by decide +kernel) ⟨Nat.le_of_ble_eq_true rfl, Nat.le_of_ble_eq_true rfl⟩) (hn_preVW hP hK hD (ci := 1) (q0 := 0) rfl rfl) rfl rfl hl.1 rfl (lv_room (Nat.le_of_ble_eq_true rfl)) dM_add_116 ⟨Nat.zero_le _, Nat.zero_le _⟩) hS (fun q _ h => hFc q h) hFc (fun τ4 t8 H1 locs ht hvm hw hB hz1 hk1 hS => ?_)
              obtain ⟨hP1, hK1, hD1⟩ := hB
              rw [ht] at hP1
              have hD : va_D A (hn_wM am cI (τ4)) := hD1.weaken (fun _ q _ h => hFc q.1 h)
              have hP : va_P D vwCl (hn_wM am cI (τ4)) H1 := hP1
              generalize H1 = H at hP hS ⊢
              try dsimp only at hw
              refine lv_iinc (v := nI (48 * d + (hn_pc (hn_num h n) (D9 d) + f))) (lv' := [(6, .int (nI (48 * d + (hn_pc (hn_num h n) (D9 d) + f)))), (0, .ref (am 0)), (1, .int (nI d)), (2, .int (nI n)), (3, .int x9), (5, .int (nI (48 * d + hn_pc (hn_num h n) (D9 d))))]) hx hb dM_add_119 hl (k := 5) rfl (pk_m1 (48 * d + (hn_pc (hn_num h n) (D9 d) + f))) (by decide) rfl (fun ls hl => ?_)
              refine lv_goto (tgt := 102) hx hb dM_add_122 (by decide) ?_
              exact ih τ4 H locs (by omega) hP hD hS (hn_iv1_s hI hw (by omega) (by omega) (hO d hd).2.2) ls (lv_sub hl [1, 2, 3, 4, 5, 0] rfl)
          · skip
            refine lv_iconst (v := 1) hx hb dM_add_76 (by decide) ?_
            refine lv_goto (tgt := 81) hx hb dM_add_77 (by decide) ?_
            have hFc := va_free (wc := hn_wM am cI (τ)) hD hS hA [0, 1, 2, 3, 4, 5, 6] rfl
            refine va_calli (va_runV (As := [.int 0, .int 1]) (rest := []) ⟨hx, hb, hml, hown, hts⟩ (cM_throwing_ok l D cI cL am (τ) 0 1 _) (cwV 2 hts gM_M_throwing rfl rfl rfl (by decide +kernel) ⟨Nat.le_of_ble_eq_true rfl, Nat.le_of_ble_eq_true rfl⟩) (hn_preVW hP hK hD (ci := 1) (q0 := 0) rfl rfl) rfl rfl hl.1 rfl (lv_room (Nat.le_of_ble_eq_true rfl)) dM_add_81 ⟨Nat.zero_le _, Nat.zero_le _⟩) hS (fun q _ h => hFc q h) hFc (fun r9 τ1 t8 H1 locs ht hvm hw hB hz1 hk1 hS => ?_)
            obtain ⟨hP1, hK1, hD1⟩ := hB
            rw [ht] at hP1
            have hD : va_D A (hn_wM am cI (τ1)) := hD1.weaken (fun _ q _ h => hFc q.1 h)
            have hP : va_P D vwCl (hn_wM am cI (τ1)) H1 := hP1
            generalize H1 = H at hP hS ⊢
            try dsimp only at hw
            obtain ⟨hw1, hw2⟩ := hn_thr2 hw rfl (by decide)
            subst hw1
            have hH1 : hn_MH τ1 h tn TK := by rw [hw2]; exact hn_MH_keep hH rfl rfl rfl
            have hM1 : hn_MD τ1 D9 := by rw [hw2]; exact hn_MD_keep hM rfl rfl rfl rfl
            have hc1 : τ1 0 0 = nI 2 := by rw [hw2]; show upd (τ 0) 0 2 0 = nI 2; rw [pk_us]; rfl
            have hR1 : hn_MR τ1 h D9 tn (hn_kb TK) := hn_MR_iff.mpr ⟨hH1, hM1⟩
            refine lv_if_eq (tgt := 89) hx hb dM_add_84 (by decide) (fun c_78 => absurd c_78 (by decide)) (fun c_78 => ?_)
            refine lv_iconst (v := 0) hx hb dM_add_87 (by decide) ?_
            exact W.iret (v := 0) hx hb hr (fun t9 ht9 hW9 => ⟨⟨0, τ1, rfl, ⟨2, D9, Or.inr ⟨d, n, hok, hi9, Or.inl ⟨rfl, rfl, Or.inr ((nI_eq (a := (D9 d).length) (b := 48) (by omega) (by decide)).mp c_72)⟩⟩, hc1, hH1, hM1, hO⟩, by rw [ht9]; exact hP, va_K.moved hW9.alike hK, hD⟩, hS.F ht9⟩) hS.2.2 dM_add_88
      · subst e9
        refine lv_if_ne (tgt := 26) hx hb dM_add_19 (by decide) (fun c_79 => absurd rfl c_79) (fun c_79 => ?_)
        refine lv_iconst (v := 1) hx hb dM_add_22 (by decide) ?_
        refine lv_goto (tgt := 27) hx hb dM_add_23 (by decide) ?_
        refine lv_istore (lv' := [(4, .int 1), (0, .ref (am 0)), (1, .int d9), (2, .int n9), (3, .int x9)]) hx hb dM_add_27 hl (by decide) rfl (fun ls hl => ?_)
        refine lv_iload hx hb dM_add_29 (lv_at hl 0 rfl) ?_
        refine lv_if_eq (tgt := 38) hx hb dM_add_31 (by decide) (fun c_80 => absurd c_80 (by decide)) (fun c_80 => ?_)
        refine lv_iconst (v := 0) hx hb dM_add_34 (by decide) ?_
        refine lv_goto (tgt := 44) hx hb dM_add_35 (by decide) ?_
        refine lv_istore (lv' := [(5, .int 0), (4, .int 1), (0, .ref (am 0)), (1, .int d9), (2, .int n9), (3, .int x9)]) hx hb dM_add_44 hl (by decide) rfl (fun ls hl => ?_)
        refine lv_aload_n hx hb dM_add_46 rfl (lv_at hl 2 rfl) ?_
        refine lv_iload hx hb dM_add_47 (lv_at hl 1 rfl) ?_
        refine lv_iload hx hb dM_add_49 (lv_at hl 1 rfl) ?_
        refine lv_if_ne (tgt := 80) hx hb dM_add_51 (by decide) (fun c_81 => ?_) (fun c_81 => absurd c_81 (by decide))
        refine lv_iconst (v := 0) hx hb dM_add_80 (by decide) ?_
        have hFc := va_free (wc := hn_wM am cI (τ)) hD hS hA [0, 1, 2, 3, 4, 5, 6] rfl
        refine va_calli (va_runV (As := [.int 1, .int 0]) (rest := []) ⟨hx, hb, hml, hown, hts⟩ (cM_throwing_ok l D cI cL am (τ) 1 0 _) (cwV 2 hts gM_M_throwing rfl rfl rfl (by decide +kernel) ⟨Nat.le_of_ble_eq_true rfl, Nat.le_of_ble_eq_true rfl⟩) (hn_preVW hP hK hD (ci := 1) (q0 := 0) rfl rfl) rfl rfl hl.1 rfl (lv_room (Nat.le_of_ble_eq_true rfl)) dM_add_81 ⟨Nat.zero_le _, Nat.zero_le _⟩) hS (fun q _ h => hFc q h) hFc (fun r9 τ1 t8 H1 locs ht hvm hw hB hz1 hk1 hS => ?_)
        obtain ⟨hP1, hK1, hD1⟩ := hB
        rw [ht] at hP1
        have hD : va_D A (hn_wM am cI (τ1)) := hD1.weaken (fun _ q _ h => hFc q.1 h)
        have hP : va_P D vwCl (hn_wM am cI (τ1)) H1 := hP1
        generalize H1 = H at hP hS ⊢
        try dsimp only at hw
        obtain ⟨hw1, hw2⟩ := hn_thr1 hw rfl
        subst hw1
        have hH1 : hn_MH τ1 h tn TK := by rw [hw2]; exact hn_MH_keep hH rfl rfl rfl
        have hM1 : hn_MD τ1 D9 := by rw [hw2]; exact hn_MD_keep hM rfl rfl rfl rfl
        have hc1 : τ1 0 0 = nI 1 := by rw [hw2]; show upd (τ 0) 0 1 0 = nI 1; rw [pk_us]; rfl
        have hR1 : hn_MR τ1 h D9 tn (hn_kb TK) := hn_MR_iff.mpr ⟨hH1, hM1⟩
        refine lv_if_eq (tgt := 89) hx hb dM_add_84 (by decide) (fun c_82 => absurd c_82 (by decide)) (fun c_82 => ?_)
        refine lv_iconst (v := 0) hx hb dM_add_87 (by decide) ?_
        exact W.iret (v := 0) hx hb hr (fun t9 ht9 hW9 => ⟨⟨0, τ1, rfl, ⟨1, D9, Or.inl ⟨rfl, rfl, fun z => hi9 z.2.2⟩, hc1, hH1, hM1, hO⟩, by rw [ht9]; exact hP, va_K.moved hW9.alike hK, hD⟩, hS.F ht9⟩) hS.2.2 dM_add_88
    · subst e9
      refine lv_if_eq (tgt := 22) hx hb dM_add_12 (by decide) (fun c_83 => ?_) (fun c_83 => absurd rfl c_83)
      refine lv_iconst (v := 1) hx hb dM_add_22 (by decide) ?_
      refine lv_goto (tgt := 27) hx hb dM_add_23 (by decide) ?_
      refine lv_istore (lv' := [(4, .int 1), (0, .ref (am 0)), (1, .int d9), (2, .int n9), (3, .int x9)]) hx hb dM_add_27 hl (by decide) rfl (fun ls hl => ?_)
      refine lv_iload hx hb dM_add_29 (lv_at hl 0 rfl) ?_
      refine lv_if_eq (tgt := 38) hx hb dM_add_31 (by decide) (fun c_84 => absurd c_84 (by decide)) (fun c_84 => ?_)
      refine lv_iconst (v := 0) hx hb dM_add_34 (by decide) ?_
      refine lv_goto (tgt := 44) hx hb dM_add_35 (by decide) ?_
      refine lv_istore (lv' := [(5, .int 0), (4, .int 1), (0, .ref (am 0)), (1, .int d9), (2, .int n9), (3, .int x9)]) hx hb dM_add_44 hl (by decide) rfl (fun ls hl => ?_)
      refine lv_aload_n hx hb dM_add_46 rfl (lv_at hl 2 rfl) ?_
      refine lv_iload hx hb dM_add_47 (lv_at hl 1 rfl) ?_
      refine lv_iload hx hb dM_add_49 (lv_at hl 1 rfl) ?_
      refine lv_if_ne (tgt := 80) hx hb dM_add_51 (by decide) (fun c_85 => ?_) (fun c_85 => absurd c_85 (by decide))
      refine lv_iconst (v := 0) hx hb dM_add_80 (by decide) ?_
      have hFc := va_free (wc := hn_wM am cI (τ)) hD hS hA [0, 1, 2, 3, 4, 5, 6] rfl
      refine va_calli (va_runV (As := [.int 1, .int 0]) (rest := []) ⟨hx, hb, hml, hown, hts⟩ (cM_throwing_ok l D cI cL am (τ) 1 0 _) (cwV 2 hts gM_M_throwing rfl rfl rfl (by decide +kernel) ⟨Nat.le_of_ble_eq_true rfl, Nat.le_of_ble_eq_true rfl⟩) (hn_preVW hP hK hD (ci := 1) (q0 := 0) rfl rfl) rfl rfl hl.1 rfl (lv_room (Nat.le_of_ble_eq_true rfl)) dM_add_81 ⟨Nat.zero_le _, Nat.zero_le _⟩) hS (fun q _ h => hFc q h) hFc (fun r9 τ1 t8 H1 locs ht hvm hw hB hz1 hk1 hS => ?_)
      obtain ⟨hP1, hK1, hD1⟩ := hB
      rw [ht] at hP1
      have hD : va_D A (hn_wM am cI (τ1)) := hD1.weaken (fun _ q _ h => hFc q.1 h)
      have hP : va_P D vwCl (hn_wM am cI (τ1)) H1 := hP1
      generalize H1 = H at hP hS ⊢
      try dsimp only at hw
      obtain ⟨hw1, hw2⟩ := hn_thr1 hw rfl
      subst hw1
      have hH1 : hn_MH τ1 h tn TK := by rw [hw2]; exact hn_MH_keep hH rfl rfl rfl
      have hM1 : hn_MD τ1 D9 := by rw [hw2]; exact hn_MD_keep hM rfl rfl rfl rfl
      have hc1 : τ1 0 0 = nI 1 := by rw [hw2]; show upd (τ 0) 0 1 0 = nI 1; rw [pk_us]; rfl
      have hR1 : hn_MR τ1 h D9 tn (hn_kb TK) := hn_MR_iff.mpr ⟨hH1, hM1⟩
      refine lv_if_eq (tgt := 89) hx hb dM_add_84 (by decide) (fun c_86 => absurd c_86 (by decide)) (fun c_86 => ?_)
      refine lv_iconst (v := 0) hx hb dM_add_87 (by decide) ?_
      exact W.iret (v := 0) hx hb hr (fun t9 ht9 hW9 => ⟨⟨0, τ1, rfl, ⟨1, D9, Or.inl ⟨rfl, rfl, fun z => hn9 z.2.1⟩, hc1, hH1, hM1, hO⟩, by rw [ht9]; exact hP, va_K.moved hW9.alike hK, hD⟩, hS.F ht9⟩) hS.2.2 dM_add_88
  · subst e9
    refine lv_if_eq (tgt := 22) hx hb dM_add_4 (by decide) (fun c_87 => ?_) (fun c_87 => absurd rfl c_87)
    refine lv_iconst (v := 1) hx hb dM_add_22 (by decide) ?_
    refine lv_goto (tgt := 27) hx hb dM_add_23 (by decide) ?_
    refine lv_istore (lv' := [(4, .int 1), (0, .ref (am 0)), (1, .int d9), (2, .int n9), (3, .int x9)]) hx hb dM_add_27 hl (by decide) rfl (fun ls hl => ?_)
    refine lv_iload hx hb dM_add_29 (lv_at hl 0 rfl) ?_
    refine lv_if_eq (tgt := 38) hx hb dM_add_31 (by decide) (fun c_88 => absurd c_88 (by decide)) (fun c_88 => ?_)
    refine lv_iconst (v := 0) hx hb dM_add_34 (by decide) ?_
    refine lv_goto (tgt := 44) hx hb dM_add_35 (by decide) ?_
    refine lv_istore (lv' := [(5, .int 0), (4, .int 1), (0, .ref (am 0)), (1, .int d9), (2, .int n9), (3, .int x9)]) hx hb dM_add_44 hl (by decide) rfl (fun ls hl => ?_)
    refine lv_aload_n hx hb dM_add_46 rfl (lv_at hl 2 rfl) ?_
    refine lv_iload hx hb dM_add_47 (lv_at hl 1 rfl) ?_
    refine lv_iload hx hb dM_add_49 (lv_at hl 1 rfl) ?_
    refine lv_if_ne (tgt := 80) hx hb dM_add_51 (by decide) (fun c_89 => ?_) (fun c_89 => absurd c_89 (by decide))
    refine lv_iconst (v := 0) hx hb dM_add_80 (by decide) ?_
    have hFc := va_free (wc := hn_wM am cI (τ)) hD hS hA [0, 1, 2, 3, 4, 5, 6] rfl
    refine va_calli (va_runV (As := [.int 1, .int 0]) (rest := []) ⟨hx, hb, hml, hown, hts⟩ (cM_throwing_ok l D cI cL am (τ) 1 0 _) (cwV 2 hts gM_M_throwing rfl rfl rfl (by decide +kernel) ⟨Nat.le_of_ble_eq_true rfl, Nat.le_of_ble_eq_true rfl⟩) (hn_preVW hP hK hD (ci := 1) (q0 := 0) rfl rfl) rfl rfl hl.1 rfl (lv_room (Nat.le_of_ble_eq_true rfl)) dM_add_81 ⟨Nat.zero_le _, Nat.zero_le _⟩) hS (fun q _ h => hFc q h) hFc (fun r9 τ1 t8 H1 locs ht hvm hw hB hz1 hk1 hS => ?_)
    obtain ⟨hP1, hK1, hD1⟩ := hB
    rw [ht] at hP1
    have hD : va_D A (hn_wM am cI (τ1)) := hD1.weaken (fun _ q _ h => hFc q.1 h)
    have hP : va_P D vwCl (hn_wM am cI (τ1)) H1 := hP1
    generalize H1 = H at hP hS ⊢
    try dsimp only at hw
    obtain ⟨hw1, hw2⟩ := hn_thr1 hw rfl
    subst hw1
    have hH1 : hn_MH τ1 h tn TK := by rw [hw2]; exact hn_MH_keep hH rfl rfl rfl
    have hM1 : hn_MD τ1 D9 := by rw [hw2]; exact hn_MD_keep hM rfl rfl rfl rfl
    have hc1 : τ1 0 0 = nI 1 := by rw [hw2]; show upd (τ 0) 0 1 0 = nI 1; rw [pk_us]; rfl
    have hR1 : hn_MR τ1 h D9 tn (hn_kb TK) := hn_MR_iff.mpr ⟨hH1, hM1⟩
    refine lv_if_eq (tgt := 89) hx hb dM_add_84 (by decide) (fun c_90 => absurd c_90 (by decide)) (fun c_90 => ?_)
    refine lv_iconst (v := 0) hx hb dM_add_87 (by decide) ?_
    exact W.iret (v := 0) hx hb hr (fun t9 ht9 hW9 => ⟨⟨0, τ1, rfl, ⟨1, D9, Or.inl ⟨rfl, rfl, fun z => hd9 z.1⟩, hc1, hH1, hM1, hO⟩, by rw [ht9]; exact hP, va_K.moved hW9.alike hK, hD⟩, hS.F ht9⟩) hS.2.2 dM_add_88

set_option maxHeartbeats 4000000 in
set_option maxRecDepth 100000 in
theorem cM_remove_ok (l : Launch) (D : va_G) (cI cL : ClassId) (am : Nat → Nat) (τ : Nat → Nat → Int32) (d9 n9 : Int32) (h : Nat → Nat) (D9 : Nat → List hn_E) (tn TK : Nat) (hH : hn_MH τ h tn TK) (hM : hn_MD τ D9) (hO : hn_DO D9)  (sz : Nat) : Met l yM_remove wM_remove ({ frames := 2, cells := 0, slots := 0, locals := 47 }) (hn_PW D (hn_ty cI cL) (hn_wM am cI (τ)) sz [.ref (am 0), .int d9, .int n9]) (va_Qi (fun (r : Int32) (τ9 : Nat → Nat → Int32) => ∃ (c : Nat) (D8 : Nat → List hn_E), hn_removeS h D9 d9 n9 c r D8 ∧ τ9 0 0 = nI c ∧ hn_MH τ9 h tn TK ∧ hn_MD τ9 D8 ∧ hn_DO D8) (fun (τ9 : Nat → Nat → Int32) t => hn_at D (hn_ty cI cL) (va_A (hn_wM am cI (τ)) sz) (hn_wM am cI (τ9)) t) (va_A (hn_wM am cI (τ)) sz)) 0 0 (va_A (hn_wM am cI (τ)) sz) := by
  refine Met.ofW (cc := cM_remove) (maxL := 7) (ret := (some .int)) (by decide) rfl ?_
  intro p e s m args below meth c s₁ B hml hv
  obtain ⟨rfl, hsz, hP, hK, hD0⟩ := hv
  subst hsz
  have hD := hD0.self (sz := s.heap.size)
  generalize hAe : va_A (hn_wM am cI (τ)) s.heap.size = A at hD ⊢
  have hA : ∀ q : Nat, s.heap.size ≤ q → A q := fun q h => by rw [← hAe]; exact Or.inr h
  have hS : va_S A s.heap s.heap [] := va_S.rf
  have hP : va_P D vwCl (hn_wM am cI (τ)) s.heap := hP
  have hx := B.exec
  have hb := B.bytes
  have hr := B.returns
  have hts0 := atoms_spec (ws := wM_remove) B.pre
  have hts : ∀ w ∈ hn_tb, w.before _ s = true := fun w hw => hts0 w (List.mem_cons_of_mem _ hw)
  have hown : s.vm.findClass RM = some m.cls := findClass_of_methodNamed B.named
  have hlocks := B.notSynchronized
  have hl := lv_entry [.ref (am 0), .int d9, .int n9] (n := 7) (Nat.le_of_ble_eq_true rfl)
  rw [lg_entry_eq]
  generalize (lg_sl [.ref (am 0), .int d9, .int n9] ++ List.replicate (7 - (lg_sl [.ref (am 0), .int d9, .int n9]).length) Slot.unset).toArray = ls at hl ⊢
  have hl : lv_has ls 7 [(0, .ref (am 0)), (1, .int d9), (2, .int n9)] := hl
  refine lv_iload_n hx hb dM_remove_0 rfl (lv_at hl 1 rfl) ?_
  refine hn_callE (W.runS (As := [.int d9]) (rest := []) ⟨hx, hb, hml, hown, hts⟩ (cM_isDirectory_ok l d9) (cwS 1 hts gM_M_isDirectory rfl rfl rfl (by decide +kernel) ⟨Nat.le_of_ble_eq_true rfl, Nat.le_of_ble_eq_true rfl⟩) hn_pre0 rfl rfl hl.1 rfl (lv_room (Nat.le_of_ble_eq_true rfl)) dM_remove_1 ⟨Nat.zero_le _, Nat.zero_le _⟩) (fun r_91 hr_91 => ?_)
  refine W.eq (g2 := F0 m 4 ls [.int r_91]) rfl ?_
  rcases hr_91 with ⟨e9, hd9⟩ | ⟨e9, hd9⟩
  · subst e9
    refine lv_if_eq (tgt := 15) hx hb dM_remove_4 (by decide) (fun c_92 => absurd c_92 (by decide)) (fun c_92 => ?_)
    refine lv_aload_n hx hb dM_remove_7 rfl (lv_at hl 0 rfl) ?_
    refine lv_iload_n hx hb dM_remove_8 rfl (lv_at hl 2 rfl) ?_
    refine hn_callE (W.runV (As := [.int n9]) (rest := []) ⟨hx, hb, hml, hown, hts⟩ (cM_isName_ok l D cI cL am (τ) h hH.1 hH.2.1 n9) (cwV 1 hts gM_M_isName rfl rfl rfl (by decide +kernel) ⟨Nat.le_of_ble_eq_true rfl, Nat.le_of_ble_eq_true rfl⟩) (hn_preV hP hK (ci := 1) (q0 := 0) rfl rfl) rfl rfl hl.1 rfl (lv_room (Nat.le_of_ble_eq_true rfl)) dM_remove_9 ⟨Nat.zero_le _, Nat.zero_le _⟩) (fun r_93 hr_93 => ?_)
    refine W.eq (g2 := F0 m 12 ls [.int r_93]) rfl ?_
    rcases hr_93 with ⟨e9, hn9⟩ | ⟨e9, hn9⟩
    · subst e9
      refine lv_if_ne (tgt := 19) hx hb dM_remove_12 (by decide) (fun c_94 => ?_) (fun c_94 => absurd c_94 (by decide))
      obtain ⟨d, n, hok⟩ := hn_ok_of hd9 hn9
      obtain ⟨ed, hd, en, h1, h2, hz0⟩ := id hok
      have hz : ∀ k, k < n → h k ≠ 0 := fun k hk => (hz0 k hk).1
      subst ed
      subst en
      have hR0 : hn_MR τ h D9 tn (hn_kb TK) := hn_MR_iff.mpr ⟨hH, hM⟩
      refine lv_iconst (v := 0) hx hb dM_remove_19 (by decide) ?_
      refine lv_istore_n (lv' := [(3, .int 0), (0, .ref (am 0)), (1, .int (nI d)), (2, .int (nI n))]) hx hb dM_remove_20 rfl hl (by decide) rfl (fun ls hl => ?_)
      refine lv_iload_n hx hb dM_remove_21 rfl (lv_at hl 0 rfl) ?_
      refine lv_if_eq (tgt := 29) hx hb dM_remove_22 (by decide) (fun c_95 => ?_) (fun c_95 => absurd rfl c_95)
      refine lv_aload_n hx hb dM_remove_29 rfl (lv_at hl 1 rfl) ?_
      refine lv_iload_n hx hb dM_remove_30 rfl (lv_at hl 2 rfl) ?_
      refine lv_iload_n hx hb dM_remove_31 rfl (lv_at hl 3 rfl) ?_
      refine W.callR (W.runV (As := [.int (nI d), .int (nI n)]) (rest := []) ⟨hx, hb, hml, hown, hts⟩ (cM_place_ok l D cI cL am τ h D9 tn (hn_kb TK) hR0 hO d hd n h1 h2 hz) (cwV 2 hts gM_M_place rfl rfl rfl (by decide +kernel) ⟨Nat.le_of_ble_eq_true rfl, Nat.le_of_ble_eq_true rfl⟩) (hn_preV hP hK (ci := 1) (q0 := 0) rfl rfl) rfl rfl hl.1 rfl (lv_room (Nat.le_of_ble_eq_true rfl)) dM_remove_32 ⟨Nat.zero_le _, Nat.zero_le _⟩) ?_
      refine W.eq (g2 := F0 m 35 ls [.int (nI (48 * d + hn_pc (hn_num h n) (D9 d)))]) rfl ?_
      refine lv_istore (lv' := [(4, .int (nI (48 * d + hn_pc (hn_num h n) (D9 d)))), (3, .int 0), (0, .ref (am 0)), (1, .int (nI d)), (2, .int (nI n))]) hx hb dM_remove_35 hl (by decide) rfl (fun ls hl => ?_)
      refine lv_aload_n hx hb dM_remove_37 rfl (lv_at hl 2 rfl) ?_
      refine lv_iload_n hx hb dM_remove_38 rfl (lv_at hl 1 rfl) ?_
      refine lv_iload_n hx hb dM_remove_39 rfl (lv_at hl 1 rfl) ?_
      refine lv_if_ne (tgt := 58) hx hb dM_remove_40 (by decide) (fun c_96 => absurd rfl c_96) (fun c_96 => ?_)
      refine lv_aload_n hx hb dM_remove_43 rfl (lv_at hl 2 rfl) ?_
      refine lv_iload hx hb dM_remove_44 (lv_at hl 0 rfl) ?_
      refine lv_iload_n hx hb dM_remove_46 rfl (lv_at hl 3 rfl) ?_
      refine lv_iload_n hx hb dM_remove_47 rfl (lv_at hl 4 rfl) ?_
      have hpc := hn_pc_le (hn_num h n) (D9 d)
      have hlen := (hO d hd).2.1
      refine hn_callE (W.runV (As := [.int (nI (48 * d + hn_pc (hn_num h n) (D9 d))), .int (nI d), .int (nI n)]) (rest := [.int 0, .ref (am 0)]) ⟨hx, hb, hml, hown, hts⟩ (cM_isAt_ok l D cI cL am τ h D9 tn (hn_kb TK) hR0 hO d hd n h1 h2 hz (hn_pc (hn_num h n) (D9 d)) (by omega)) (cwV 3 hts gM_M_isAt rfl rfl rfl (by decide +kernel) ⟨Nat.le_of_ble_eq_true rfl, Nat.le_of_ble_eq_true rfl⟩) (hn_preV hP hK (ci := 1) (q0 := 0) rfl rfl) rfl rfl hl.1 rfl (lv_room (Nat.le_of_ble_eq_true rfl)) dM_remove_48 ⟨Nat.zero_le _, Nat.zero_le _⟩) (fun r_97 hr_97 => ?_)
      refine W.eq (g2 := F0 m 51 ls [.int r_97, .int 0, .ref (am 0)]) rfl ?_
      rcases hr_97 with ⟨e9, ha9⟩ | ⟨e9, ha9⟩
      · subst e9
        refine lv_if_ne (tgt := 58) hx hb dM_remove_51 (by decide) (fun c_98 => ?_) (fun c_98 => absurd c_98 (by decide))
        refine lv_iconst (v := 0) hx hb dM_remove_58 (by decide) ?_
        have hFc := va_free (wc := hn_wM am cI (τ)) hD hS hA [0, 1, 2, 3, 4, 5, 6] rfl
        refine va_calli (va_runV (As := [.int 0, .int 0]) (rest := []) ⟨hx, hb, hml, hown, hts⟩ (cM_throwing_ok l D cI cL am (τ) 0 0 _) (cwV 2 hts gM_M_throwing rfl rfl rfl (by decide +kernel) ⟨Nat.le_of_ble_eq_true rfl, Nat.le_of_ble_eq_true rfl⟩) (hn_preVW hP hK hD (ci := 1) (q0 := 0) rfl rfl) rfl rfl hl.1 rfl (lv_room (Nat.le_of_ble_eq_true rfl)) dM_remove_59 ⟨Nat.zero_le _, Nat.zero_le _⟩) hS (fun q _ h => hFc q h) hFc (fun r9 τ1 t8 H1 locs ht hvm hw hB hz1 hk1 hS => ?_)
        obtain ⟨hP1, hK1, hD1⟩ := hB
        rw [ht] at hP1
        have hD : va_D A (hn_wM am cI (τ1)) := hD1.weaken (fun _ q _ h => hFc q.1 h)
        have hP : va_P D vwCl (hn_wM am cI (τ1)) H1 := hP1
        generalize H1 = H at hP hS ⊢
        try dsimp only at hw
        obtain ⟨hw1, hw2⟩ := hn_thr0 hw rfl rfl
        subst hw1
        have hH1 : hn_MH τ1 h tn TK := by rw [hw2]; exact hn_MH_keep hH rfl rfl rfl
        have hM1 : hn_MD τ1 D9 := by rw [hw2]; exact hn_MD_keep hM rfl rfl rfl rfl
        have hc1 : τ1 0 0 = nI 0 := by rw [hw2]; show upd (τ 0) 0 0 0 = nI 0; rw [pk_us]; rfl
        have hR1 : hn_MR τ1 h D9 tn (hn_kb TK) := hn_MR_iff.mpr ⟨hH1, hM1⟩
        refine lv_if_eq (tgt := 67) hx hb dM_remove_62 (by decide) (fun c_99 => ?_) (fun c_99 => absurd rfl c_99)
        have hh9 := (hn_has_iff (hO d hd).1).mpr ha9
        have hp9 := ha9.1
        refine lv_aload_n hx hb dM_remove_67 rfl (lv_at hl 2 rfl) ?_
        refine va_get (D := D) (ci := 1) (v := .ref (am 3)) (C := RM) (T := FM) (N := 8) hx hb hts iM hown hK hP 0 rfl rfl 3 (by decide) (hts _ mM_f_id) (fun _ h9 => h9) rfl dM_remove_68 ?_
        refine lv_iload hx hb dM_remove_71 (lv_at hl 0 rfl) ?_
        refine va_iald hx hb hK hP 3 0 rfl rfl (vp_in_nI (show 48 * d + hn_pc (hn_num h n) (D9 d) < 384 from by omega) (by omega)) dM_remove_73 ?_
        rw [nI_clamp (show 48 * d + hn_pc (hn_num h n) (D9 d) < 2 ^ 31 by omega)]
        rw [show τ1 3 (48 * d + hn_pc (hn_num h n) (D9 d)) = ((D9 d).getD (hn_pc (hn_num h n) (D9 d)) hn_e0).2.2 from ((hM1 d hd).2 _ ha9.1).1]
        refine lv_istore (lv' := [(5, .int (((D9 d).getD (hn_pc (hn_num h n) (D9 d)) hn_e0).2.2)), (4, .int (nI (48 * d + hn_pc (hn_num h n) (D9 d)))), (3, .int 0), (0, .ref (am 0)), (1, .int (nI d)), (2, .int (nI n))]) hx hb dM_remove_74 hl (by decide) rfl (fun ls hl => ?_)
        refine lv_aload_n hx hb dM_remove_76 rfl (lv_at hl 3 rfl) ?_
        refine va_get (D := D) (ci := 1) (v := .ref (am 2)) (C := RM) (T := FM) (N := 8) hx hb hts iM hown hK hP 0 rfl rfl 2 (by decide) (hts _ mM_f_many) (fun _ h9 => h9) rfl dM_remove_77 ?_
        refine lv_iload_n hx hb dM_remove_80 rfl (lv_at hl 4 rfl) ?_
        refine lv_dup2_11 hx hb dM_remove_81 rfl rfl ?_
        refine va_iald hx hb hK hP 2 0 rfl rfl (vp_in_nI (show d < 8 from hd) (by omega)) dM_remove_82 ?_
        rw [nI_clamp (show d < 2 ^ 31 by omega)]
        rw [show τ1 2 d = nI (D9 d).length from (hM1 d hd).1]
        refine lv_iconst (v := 1) hx hb dM_remove_83 (by decide) ?_
        refine lv_isub hx hb dM_remove_84 ?_
        rw [show ((nI (D9 d).length) - 1 : Int32) = nI ((D9 d).length - 1) from pk_sub (b := 1) (by omega)]
        refine va_iast hx hb hK hP hD hS 2 0 rfl rfl (vp_in_nI (show d < 8 from hd) (by omega)) dM_remove_85 (fun H locs hP hD hS => ?_)
        rw [nI_clamp (show d < 2 ^ 31 by omega)] at hP hD
        obtain ⟨τ2, eτ2⟩ : ∃ z : Nat → Nat → Int32, z = hn_up (τ1) 2 (upd (τ1 2) d (nI ((D9 d).length - 1))) := ⟨_, rfl⟩
        have hP : va_P D vwCl (hn_wM am cI (τ2)) H := by rw [eτ2]; exact hP
        have hD : va_D A (hn_wM am cI (τ2)) := by rw [eτ2]; exact hD
        refine lv_iload hx hb dM_remove_86 (lv_at hl 1 rfl) ?_
        refine lv_istore (lv' := [(6, .int (nI (48 * d + hn_pc (hn_num h n) (D9 d)))), (5, .int (((D9 d).getD (hn_pc (hn_num h n) (D9 d)) hn_e0).2.2)), (4, .int (nI (48 * d + hn_pc (hn_num h n) (D9 d)))), (3, .int 0), (0, .ref (am 0)), (1, .int (nI d)), (2, .int (nI n))]) hx hb dM_remove_88 hl (by decide) rfl (fun ls hl => ?_)
        suffices loop : ∀ (f t : Nat) (τ3 : Nat → Nat → Int32) (H : Heap) (locs : List Loc), t + f = (D9 d).length - 1 → hn_pc (hn_num h n) (D9 d) ≤ t → va_P D vwCl (hn_wM am cI τ3) H → va_D A (hn_wM am cI τ3) → va_S A s.heap H locs → hn_iv3 τ2 τ3 d (hn_num h n) (D9 d) t → ∀ ls : Array Slot, lv_has ls 7 [(0, .ref (am 0)), (1, .int (nI d)), (5, .int (((D9 d).getD (hn_pc (hn_num h n) (D9 d)) hn_e0).2.2)), (6, .int (nI (48 * d + t)))] → W p l e (headSpec wM_remove ({ frames := 2, cells := 0, slots := 0, locals := 47 })).room s m [.ref (am 0), .int (nI d), .int (nI n)].toArray below meth c H locs 0 0 (MQ below (va_Qi (fun (r : Int32) (τ9 : Nat → Nat → Int32) => ∃ (c : Nat) (D8 : Nat → List hn_E), hn_removeS h D9 (nI d) (nI n) c r D8 ∧ τ9 0 0 = nI c ∧ hn_MH τ9 h tn TK ∧ hn_MD τ9 D8 ∧ hn_DO D8) (fun (τ9 : Nat → Nat → Int32) t => hn_at D (hn_ty cI cL) A (hn_wM am cI (τ9)) t) A) [.ref (am 0), .int (nI d), .int (nI n)].toArray s 0 0 A) (F0 m 90 ls []) from loop ((D9 d).length - 1 - hn_pc (hn_num h n) (D9 d)) (hn_pc (hn_num h n) (D9 d)) τ2 _ _ (by omega) (Nat.le_refl _) hP hD hS (hn_iv3_0 (fun j hj => hn_sl_keep ((hM1 d hd).2 j hj) ((hO d hd).2.2 _ (hn_getD_mem hj)).2.1 (by rw [eτ2]; rfl) (by rw [eτ2]; rfl) (fun k _ => by rw [eτ2]; rfl)) (hO d hd).1 hh9) ls (lv_sub hl [4, 5, 1, 0] rfl)
        intro f
        induction f with
        | zero =>
          intro t τ3 H locs hf hpt hP hD hS hI ls hl
          refine lv_iload hx hb dM_remove_90 (lv_at hl 3 rfl) ?_
          refine lv_bipush (v := 48) hx hb dM_remove_92 (by decide) ?_
          refine lv_iload_n hx hb dM_remove_94 rfl (lv_at hl 1 rfl) ?_
          refine lv_imul hx hb dM_remove_95 ?_
          rw [show (48 * (nI d) : Int32) = nI (48 * d) from pk_mul 48 d]
          refine lv_aload_n hx hb dM_remove_96 rfl (lv_at hl 0 rfl) ?_
          refine va_get (D := D) (ci := 1) (v := .ref (am 2)) (C := RM) (T := FM) (N := 8) hx hb hts iM hown hK hP 0 rfl rfl 2 (by decide) (hts _ mM_f_many) (fun _ h9 => h9) rfl dM_remove_97 ?_
          refine lv_iload_n hx hb dM_remove_100 rfl (lv_at hl 1 rfl) ?_
          refine va_iald hx hb hK hP 2 0 rfl rfl (vp_in_nI (show d < 8 from hd) (by omega)) dM_remove_101 ?_
          rw [nI_clamp (show d < 2 ^ 31 by omega)]
          rw [show τ3 2 d = nI ((D9 d).length - 1) from by rw [hI.2.2.1, eτ2]; exact pk_us]
          refine lv_iadd hx hb dM_remove_102 ?_
          rw [show ((nI (48 * d)) + (nI ((D9 d).length - 1)) : Int32) = nI (48 * d + ((D9 d).length - 1)) from nI_add _ _]
          refine lv_icmp_ge (tgt := 122) hx hb dM_remove_103 (by decide) (fun c_100 => ?_) (fun c_100 => absurd (nI_le (show 48 * d + ((D9 d).length - 1) ≤ 48 * d + t by omega) (by omega)) c_100)
          have hf : t = (D9 d).length - 1 := by omega
          rw [hf] at hI
          obtain ⟨g1, g2⟩ := hn_rem_M hO hM1 hd hh9 (by rw [eτ2]; rfl) (by rw [eτ2]; rfl) (by rw [eτ2]; rfl) (by rw [eτ2]; rfl) hI
          refine lv_iload hx hb dM_remove_122 (lv_at hl 2 rfl) ?_
          exact W.iret (v := (((D9 d).getD (hn_pc (hn_num h n) (D9 d)) hn_e0).2.2)) hx hb hr (fun t9 ht9 hW9 => ⟨⟨((D9 d).getD (hn_pc (hn_num h n) (D9 d)) hn_e0).2.2, τ3, rfl, ⟨0, hn_ud D9 d (hn_er (hn_num h n) (D9 d)), Or.inr ⟨d, n, hok, Or.inr ⟨rfl, hh9, rfl, rfl⟩⟩, by rw [hI.1, eτ2]; exact hc1, hn_MH_keep hH1 (by rw [hI.1, eτ2]; rfl) (by rw [hI.2.1, eτ2]; rfl) (by rw [hI.2.2.2.1, eτ2]; rfl), g1, g2⟩, by rw [ht9]; exact hP, va_K.moved hW9.alike hK, hD⟩, hS.F ht9⟩) hS.2.2 dM_remove_124
        | succ f ih =>
          intro t τ3 H locs hf hpt hP hD hS hI ls hl
          refine lv_iload hx hb dM_remove_90 (lv_at hl 3 rfl) ?_
          refine lv_bipush (v := 48) hx hb dM_remove_92 (by decide) ?_
          refine lv_iload_n hx hb dM_remove_94 rfl (lv_at hl 1 rfl) ?_
          refine lv_imul hx hb dM_remove_95 ?_
          rw [show (48 * (nI d) : Int32) = nI (48 * d) from pk_mul 48 d]
          refine lv_aload_n hx hb dM_remove_96 rfl (lv_at hl 0 rfl) ?_
          refine va_get (D := D) (ci := 1) (v := .ref (am 2)) (C := RM) (T := FM) (N := 8) hx hb hts iM hown hK hP 0 rfl rfl 2 (by decide) (hts _ mM_f_many) (fun _ h9 => h9) rfl dM_remove_97 ?_
          refine lv_iload_n hx hb dM_remove_100 rfl (lv_at hl 1 rfl) ?_
          refine va_iald hx hb hK hP 2 0 rfl rfl (vp_in_nI (show d < 8 from hd) (by omega)) dM_remove_101 ?_
          rw [nI_clamp (show d < 2 ^ 31 by omega)]
          rw [show τ3 2 d = nI ((D9 d).length - 1) from by rw [hI.2.2.1, eτ2]; exact pk_us]
          refine lv_iadd hx hb dM_remove_102 ?_
          rw [show ((nI (48 * d)) + (nI ((D9 d).length - 1)) : Int32) = nI (48 * d + ((D9 d).length - 1)) from nI_add _ _]
          refine lv_icmp_ge (tgt := 122) hx hb dM_remove_103 (by decide) (fun c_101 => absurd c_101 (nI_ge (a := 48 * d + t) (b := 48 * d + ((D9 d).length - 1)) (by omega) (by omega))) (fun c_101 => ?_)
          refine lv_aload_n hx hb dM_remove_106 rfl (lv_at hl 0 rfl) ?_
          refine lv_iload hx hb dM_remove_107 (lv_at hl 3 rfl) ?_
          refine lv_iconst (v := 1) hx hb dM_remove_109 (by decide) ?_
          refine lv_iadd hx hb dM_remove_110 ?_
          rw [show ((nI (48 * d + t)) + 1 : Int32) = nI (48 * d + t + 1) from nI_1 _]
          refine lv_iload hx hb dM_remove_111 (lv_at hl 3 rfl) ?_
          have hFc := va_free (wc := hn_wM am cI (τ3)) hD hS hA [0, 1, 2, 3, 4, 5, 6] rfl
          refine va_callv (va_runV (As := [.int (nI (48 * d + t + 1)), .int (nI (48 * d + t))]) (rest := []) ⟨hx, hb, hml, hown, hts⟩ (cM_move_ok l D cI cL am τ3 (48 * d + t + 1) (48 * d + t) (by omega) (by omega) (by omega) _) (cwV 2 hts gM_M_move rfl rfl rfl (by decide +kernel) ⟨Nat.le_of_ble_eq_true rfl, Nat.le_of_ble_eq_true rfl⟩) (hn_preVW hP hK hD (ci := 1) (q0 := 0) rfl rfl) rfl rfl hl.1 rfl (lv_room (Nat.le_of_ble_eq_true rfl)) dM_remove_113 ⟨Nat.zero_le _, Nat.zero_le _⟩) hS (fun q _ h => hFc q h) hFc (fun τ4 t8 H1 locs ht hvm hw hB hz1 hk1 hS => ?_)
          obtain ⟨hP1, hK1, hD1⟩ := hB
          rw [ht] at hP1
          have hD : va_D A (hn_wM am cI (τ4)) := hD1.weaken (fun _ q _ h => hFc q.1 h)
          have hP : va_P D vwCl (hn_wM am cI (τ4)) H1 := hP1
          generalize H1 = H at hP hS ⊢
          try dsimp only at hw
          refine lv_iinc (v := nI (48 * d + (t + 1))) (lv' := [(6, .int (nI (48 * d + (t + 1)))), (0, .ref (am 0)), (1, .int (nI d)), (5, .int (((D9 d).getD (hn_pc (hn_num h n) (D9 d)) hn_e0).2.2))]) hx hb dM_remove_116 hl (k := 3) rfl (nI_1 _) (by decide) rfl (fun ls hl => ?_)
          refine lv_goto (tgt := 90) hx hb dM_remove_119 (by decide) ?_
          exact ih (t + 1) τ4 H locs (by omega) (by omega) hP hD hS (hn_iv3_s hI hw (hO d hd).1 hh9 hpt (by omega) (hO d hd).2.1 (hO d hd).2.2) ls (lv_sub hl [1, 2, 3, 0] rfl)
      · subst e9
        refine lv_if_ne (tgt := 58) hx hb dM_remove_51 (by decide) (fun c_102 => absurd rfl c_102) (fun c_102 => ?_)
        refine lv_iconst (v := 1) hx hb dM_remove_54 (by decide) ?_
        refine lv_goto (tgt := 59) hx hb dM_remove_55 (by decide) ?_
        have hFc := va_free (wc := hn_wM am cI (τ)) hD hS hA [0, 1, 2, 3, 4, 5, 6] rfl
        refine va_calli (va_runV (As := [.int 0, .int 1]) (rest := []) ⟨hx, hb, hml, hown, hts⟩ (cM_throwing_ok l D cI cL am (τ) 0 1 _) (cwV 2 hts gM_M_throwing rfl rfl rfl (by decide +kernel) ⟨Nat.le_of_ble_eq_true rfl, Nat.le_of_ble_eq_true rfl⟩) (hn_preVW hP hK hD (ci := 1) (q0 := 0) rfl rfl) rfl rfl hl.1 rfl (lv_room (Nat.le_of_ble_eq_true rfl)) dM_remove_59 ⟨Nat.zero_le _, Nat.zero_le _⟩) hS (fun q _ h => hFc q h) hFc (fun r9 τ1 t8 H1 locs ht hvm hw hB hz1 hk1 hS => ?_)
        obtain ⟨hP1, hK1, hD1⟩ := hB
        rw [ht] at hP1
        have hD : va_D A (hn_wM am cI (τ1)) := hD1.weaken (fun _ q _ h => hFc q.1 h)
        have hP : va_P D vwCl (hn_wM am cI (τ1)) H1 := hP1
        generalize H1 = H at hP hS ⊢
        try dsimp only at hw
        obtain ⟨hw1, hw2⟩ := hn_thr2 hw rfl (by decide)
        subst hw1
        have hH1 : hn_MH τ1 h tn TK := by rw [hw2]; exact hn_MH_keep hH rfl rfl rfl
        have hM1 : hn_MD τ1 D9 := by rw [hw2]; exact hn_MD_keep hM rfl rfl rfl rfl
        have hc1 : τ1 0 0 = nI 2 := by rw [hw2]; show upd (τ 0) 0 2 0 = nI 2; rw [pk_us]; rfl
        have hR1 : hn_MR τ1 h D9 tn (hn_kb TK) := hn_MR_iff.mpr ⟨hH1, hM1⟩
        refine lv_if_eq (tgt := 67) hx hb dM_remove_62 (by decide) (fun c_103 => absurd c_103 (by decide)) (fun c_103 => ?_)
        refine lv_iconst (v := 0) hx hb dM_remove_65 (by decide) ?_
        exact W.iret (v := 0) hx hb hr (fun t9 ht9 hW9 => ⟨⟨0, τ1, rfl, ⟨2, D9, Or.inr ⟨d, n, hok, Or.inl ⟨rfl, rfl, fun z => ha9 ((hn_has_iff (hO d hd).1).mp z)⟩⟩, hc1, hH1, hM1, hO⟩, by rw [ht9]; exact hP, va_K.moved hW9.alike hK, hD⟩, hS.F ht9⟩) hS.2.2 dM_remove_66
    · subst e9
      refine lv_if_ne (tgt := 19) hx hb dM_remove_12 (by decide) (fun c_104 => absurd rfl c_104) (fun c_104 => ?_)
      refine lv_iconst (v := 1) hx hb dM_remove_15 (by decide) ?_
      refine lv_goto (tgt := 20) hx hb dM_remove_16 (by decide) ?_
      refine lv_istore_n (lv' := [(3, .int 1), (0, .ref (am 0)), (1, .int d9), (2, .int n9)]) hx hb dM_remove_20 rfl hl (by decide) rfl (fun ls hl => ?_)
      refine lv_iload_n hx hb dM_remove_21 rfl (lv_at hl 0 rfl) ?_
      refine lv_if_eq (tgt := 29) hx hb dM_remove_22 (by decide) (fun c_105 => absurd c_105 (by decide)) (fun c_105 => ?_)
      refine lv_iconst (v := 0) hx hb dM_remove_25 (by decide) ?_
      refine lv_goto (tgt := 35) hx hb dM_remove_26 (by decide) ?_
      refine lv_istore (lv' := [(4, .int 0), (3, .int 1), (0, .ref (am 0)), (1, .int d9), (2, .int n9)]) hx hb dM_remove_35 hl (by decide) rfl (fun ls hl => ?_)
      refine lv_aload_n hx hb dM_remove_37 rfl (lv_at hl 2 rfl) ?_
      refine lv_iload_n hx hb dM_remove_38 rfl (lv_at hl 1 rfl) ?_
      refine lv_iload_n hx hb dM_remove_39 rfl (lv_at hl 1 rfl) ?_
      refine lv_if_ne (tgt := 58) hx hb dM_remove_40 (by decide) (fun c_106 => ?_) (fun c_106 => absurd c_106 (by decide))
      refine lv_iconst (v := 0) hx hb dM_remove_58 (by decide) ?_
      have hFc := va_free (wc := hn_wM am cI (τ)) hD hS hA [0, 1, 2, 3, 4, 5, 6] rfl
      refine va_calli (va_runV (As := [.int 1, .int 0]) (rest := []) ⟨hx, hb, hml, hown, hts⟩ (cM_throwing_ok l D cI cL am (τ) 1 0 _) (cwV 2 hts gM_M_throwing rfl rfl rfl (by decide +kernel) ⟨Nat.le_of_ble_eq_true rfl, Nat.le_of_ble_eq_true rfl⟩) (hn_preVW hP hK hD (ci := 1) (q0 := 0) rfl rfl) rfl rfl hl.1 rfl (lv_room (Nat.le_of_ble_eq_true rfl)) dM_remove_59 ⟨Nat.zero_le _, Nat.zero_le _⟩) hS (fun q _ h => hFc q h) hFc (fun r9 τ1 t8 H1 locs ht hvm hw hB hz1 hk1 hS => ?_)
      obtain ⟨hP1, hK1, hD1⟩ := hB
      rw [ht] at hP1
      have hD : va_D A (hn_wM am cI (τ1)) := hD1.weaken (fun _ q _ h => hFc q.1 h)
      have hP : va_P D vwCl (hn_wM am cI (τ1)) H1 := hP1
      generalize H1 = H at hP hS ⊢
      try dsimp only at hw
      obtain ⟨hw1, hw2⟩ := hn_thr1 hw rfl
      subst hw1
      have hH1 : hn_MH τ1 h tn TK := by rw [hw2]; exact hn_MH_keep hH rfl rfl rfl
      have hM1 : hn_MD τ1 D9 := by rw [hw2]; exact hn_MD_keep hM rfl rfl rfl rfl
      have hc1 : τ1 0 0 = nI 1 := by rw [hw2]; show upd (τ 0) 0 1 0 = nI 1; rw [pk_us]; rfl
      have hR1 : hn_MR τ1 h D9 tn (hn_kb TK) := hn_MR_iff.mpr ⟨hH1, hM1⟩
      refine lv_if_eq (tgt := 67) hx hb dM_remove_62 (by decide) (fun c_107 => absurd c_107 (by decide)) (fun c_107 => ?_)
      refine lv_iconst (v := 0) hx hb dM_remove_65 (by decide) ?_
      exact W.iret (v := 0) hx hb hr (fun t9 ht9 hW9 => ⟨⟨0, τ1, rfl, ⟨1, D9, Or.inl ⟨rfl, rfl, fun z => hn9 z.2⟩, hc1, hH1, hM1, hO⟩, by rw [ht9]; exact hP, va_K.moved hW9.alike hK, hD⟩, hS.F ht9⟩) hS.2.2 dM_remove_66
  · subst e9
    refine lv_if_eq (tgt := 15) hx hb dM_remove_4 (by decide) (fun c_108 => ?_) (fun c_108 => absurd rfl c_108)
    refine lv_iconst (v := 1) hx hb dM_remove_15 (by decide) ?_
    refine lv_goto (tgt := 20) hx hb dM_remove_16 (by decide) ?_
    refine lv_istore_n (lv' := [(3, .int 1), (0, .ref (am 0)), (1, .int d9), (2, .int n9)]) hx hb dM_remove_20 rfl hl (by decide) rfl (fun ls hl => ?_)
    refine lv_iload_n hx hb dM_remove_21 rfl (lv_at hl 0 rfl) ?_
    refine lv_if_eq (tgt := 29) hx hb dM_remove_22 (by decide) (fun c_109 => absurd c_109 (by decide)) (fun c_109 => ?_)
    refine lv_iconst (v := 0) hx hb dM_remove_25 (by decide) ?_
    refine lv_goto (tgt := 35) hx hb dM_remove_26 (by decide) ?_
    refine lv_istore (lv' := [(4, .int 0), (3, .int 1), (0, .ref (am 0)), (1, .int d9), (2, .int n9)]) hx hb dM_remove_35 hl (by decide) rfl (fun ls hl => ?_)
    refine lv_aload_n hx hb dM_remove_37 rfl (lv_at hl 2 rfl) ?_
    refine lv_iload_n hx hb dM_remove_38 rfl (lv_at hl 1 rfl) ?_
    refine lv_iload_n hx hb dM_remove_39 rfl (lv_at hl 1 rfl) ?_
    refine lv_if_ne (tgt := 58) hx hb dM_remove_40 (by decide) (fun c_110 => ?_) (fun c_110 => absurd c_110 (by decide))
    refine lv_iconst (v := 0) hx hb dM_remove_58 (by decide) ?_
    have hFc := va_free (wc := hn_wM am cI (τ)) hD hS hA [0, 1, 2, 3, 4, 5, 6] rfl
    refine va_calli (va_runV (As := [.int 1, .int 0]) (rest := []) ⟨hx, hb, hml, hown, hts⟩ (cM_throwing_ok l D cI cL am (τ) 1 0 _) (cwV 2 hts gM_M_throwing rfl rfl rfl (by decide +kernel) ⟨Nat.le_of_ble_eq_true rfl, Nat.le_of_ble_eq_true rfl⟩) (hn_preVW hP hK hD (ci := 1) (q0 := 0) rfl rfl) rfl rfl hl.1 rfl (lv_room (Nat.le_of_ble_eq_true rfl)) dM_remove_59 ⟨Nat.zero_le _, Nat.zero_le _⟩) hS (fun q _ h => hFc q h) hFc (fun r9 τ1 t8 H1 locs ht hvm hw hB hz1 hk1 hS => ?_)
    obtain ⟨hP1, hK1, hD1⟩ := hB
    rw [ht] at hP1
    have hD : va_D A (hn_wM am cI (τ1)) := hD1.weaken (fun _ q _ h => hFc q.1 h)
    have hP : va_P D vwCl (hn_wM am cI (τ1)) H1 := hP1
    generalize H1 = H at hP hS ⊢
    try dsimp only at hw
    obtain ⟨hw1, hw2⟩ := hn_thr1 hw rfl
    subst hw1
    have hH1 : hn_MH τ1 h tn TK := by rw [hw2]; exact hn_MH_keep hH rfl rfl rfl
    have hM1 : hn_MD τ1 D9 := by rw [hw2]; exact hn_MD_keep hM rfl rfl rfl rfl
    have hc1 : τ1 0 0 = nI 1 := by rw [hw2]; show upd (τ 0) 0 1 0 = nI 1; rw [pk_us]; rfl
    have hR1 : hn_MR τ1 h D9 tn (hn_kb TK) := hn_MR_iff.mpr ⟨hH1, hM1⟩
    refine lv_if_eq (tgt := 67) hx hb dM_remove_62 (by decide) (fun c_111 => absurd c_111 (by decide)) (fun c_111 => ?_)
    refine lv_iconst (v := 0) hx hb dM_remove_65 (by decide) ?_
    exact W.iret (v := 0) hx hb hr (fun t9 ht9 hW9 => ⟨⟨0, τ1, rfl, ⟨1, D9, Or.inl ⟨rfl, rfl, fun z => hd9 z.1⟩, hc1, hH1, hM1, hO⟩, by rw [ht9]; exact hP, va_K.moved hW9.alike hK, hD⟩, hS.F ht9⟩) hS.2.2 dM_remove_66
end
section
set_option maxHeartbeats 4000000 in
set_option maxRecDepth 100000 in
theorem cM_nth_ok (l : Launch) (D : va_G) (cI cL : ClassId) (am : Nat → Nat) (τ : Nat → Nat → Int32) (d9 k9 : Int32) (h : Nat → Nat) (D9 : Nat → List hn_E) (tn TK : Nat) (hH : hn_MH τ h tn TK) (hM : hn_MD τ D9) (hO : hn_DO D9)  (sz : Nat) : Met l yM_nth wM_nth ({ frames := 1, cells := 0, slots := 0, locals := 22 }) (hn_PW D (hn_ty cI cL) (hn_wM am cI (τ)) sz [.ref (am 0), .int d9, .int k9]) (va_Qi (fun (r : Int32) (τ9 : Nat → Nat → Int32) => ∃ c tn' TK' : Nat, hn_nthS D9 tn TK d9 k9 c r tn' TK' ∧ τ9 0 0 = nI c ∧ hn_MH τ9 h tn' TK' ∧ hn_MD τ9 D9) (fun (τ9 : Nat → Nat → Int32) t => hn_at D (hn_ty cI cL) (va_A (hn_wM am cI (τ)) sz) (hn_wM am cI (τ9)) t) (va_A (hn_wM am cI (τ)) sz)) 0 0 (va_A (hn_wM am cI (τ)) sz) := by
  refine Met.ofW (cc := cM_nth) (maxL := 4) (ret := (some .int)) (by decide) rfl ?_
  intro p e s m args below meth c s₁ B hml hv
  obtain ⟨rfl, hsz, hP, hK, hD0⟩ := hv
  subst hsz
  have hD := hD0.self (sz := s.heap.size)
  generalize hAe : va_A (hn_wM am cI (τ)) s.heap.size = A at hD ⊢
  have hA : ∀ q : Nat, s.heap.size ≤ q → A q := fun q h => by rw [← hAe]; exact Or.inr h
  have hS : va_S A s.heap s.heap [] := va_S.rf
  have hP : va_P D vwCl (hn_wM am cI (τ)) s.heap := hP
  have hx := B.exec
  have hb := B.bytes
  have hr := B.returns
  have hts0 := atoms_spec (ws := wM_nth) B.pre
  have hts : ∀ w ∈ hn_tb, w.before _ s = true := fun w hw => hts0 w (List.mem_cons_of_mem _ hw)
  have hown : s.vm.findClass RM = some m.cls := findClass_of_methodNamed B.named
  have hlocks := B.notSynchronized
  have hl := lv_entry [.ref (am 0), .int d9, .int k9] (n := 4) (Nat.le_of_ble_eq_true rfl)
  rw [lg_entry_eq]
  generalize (lg_sl [.ref (am 0), .int d9, .int k9] ++ List.replicate (4 - (lg_sl [.ref (am 0), .int d9, .int k9]).length) Slot.unset).toArray = ls at hl ⊢
  have hl : lv_has ls 4 [(0, .ref (am 0)), (1, .int d9), (2, .int k9)] := hl
  refine lv_aload_n hx hb dM_nth_0 rfl (lv_at hl 0 rfl) ?_
  refine lv_iload_n hx hb dM_nth_1 rfl (lv_at hl 1 rfl) ?_
  refine hn_callE (W.runS (As := [.int d9]) (rest := [.ref (am 0)]) ⟨hx, hb, hml, hown, hts⟩ (cM_isDirectory_ok l d9) (cwS 1 hts gM_M_isDirectory rfl rfl rfl (by decide +kernel) ⟨Nat.le_of_ble_eq_true rfl, Nat.le_of_ble_eq_true rfl⟩) hn_pre0 rfl rfl hl.1 rfl (lv_room (Nat.le_of_ble_eq_true rfl)) dM_nth_2 ⟨Nat.zero_le _, Nat.zero_le _⟩) (fun r_14 hr_14 => ?_)
  refine W.eq (g2 := F0 m 5 ls [.int r_14, .ref (am 0)]) rfl ?_
  rcases hr_14 with ⟨e9, hd9⟩ | ⟨e9, hd9⟩
  · subst e9
    refine lv_if_eq (tgt := 12) hx hb dM_nth_5 (by decide) (fun c_15 => absurd c_15 (by decide)) (fun c_15 => ?_)
    refine lv_iload_n hx hb dM_nth_8 rfl (lv_at hl 2 rfl) ?_
    refine lv_if_ge (tgt := 16) hx hb dM_nth_9 (by decide) (fun c_16 => ?_) (fun c_16 => ?_)
    · skip
      obtain ⟨d, hd, ed⟩ := hd9
      subst ed
      obtain ⟨k, hk, ek⟩ := nI_of (Int32.not_lt.mpr c_16)
      subst ek
      refine lv_iconst (v := 0) hx hb dM_nth_16 (by decide) ?_
      refine lv_iconst (v := 0) hx hb dM_nth_17 (by decide) ?_
      have hFc := va_free (wc := hn_wM am cI (τ)) hD hS hA [0, 1, 2, 3, 4, 5, 6] rfl
      refine va_calli (va_runV (As := [.int 0, .int 0]) (rest := []) ⟨hx, hb, hml, hown, hts⟩ (cM_throwing_ok l D cI cL am (τ) 0 0 _) (cwV 2 hts gM_M_throwing rfl rfl rfl (by decide +kernel) ⟨Nat.le_of_ble_eq_true rfl, Nat.le_of_ble_eq_true rfl⟩) (hn_preVW hP hK hD (ci := 1) (q0 := 0) rfl rfl) rfl rfl hl.1 rfl (lv_room (Nat.le_of_ble_eq_true rfl)) dM_nth_18 ⟨Nat.zero_le _, Nat.zero_le _⟩) hS (fun q _ h => hFc q h) hFc (fun r9 τ1 t8 H1 locs ht hvm hw hB hz1 hk1 hS => ?_)
      obtain ⟨hP1, hK1, hD1⟩ := hB
      rw [ht] at hP1
      have hD : va_D A (hn_wM am cI (τ1)) := hD1.weaken (fun _ q _ h => hFc q.1 h)
      have hP : va_P D vwCl (hn_wM am cI (τ1)) H1 := hP1
      generalize H1 = H at hP hS ⊢
      try dsimp only at hw
      obtain ⟨hw1, hw2⟩ := hn_thr0 hw rfl rfl
      subst hw1
      have hH1 : hn_MH τ1 h tn TK := by rw [hw2]; exact hn_MH_keep hH rfl rfl rfl
      have hM1 : hn_MD τ1 D9 := by rw [hw2]; exact hn_MD_keep hM rfl rfl rfl rfl
      have hc1 : τ1 0 0 = nI 0 := by rw [hw2]; show upd (τ 0) 0 0 0 = nI 0; rw [pk_us]; rfl
      have hR1 : hn_MR τ1 h D9 tn (hn_kb TK) := hn_MR_iff.mpr ⟨hH1, hM1⟩
      refine lv_if_eq (tgt := 26) hx hb dM_nth_21 (by decide) (fun c_17 => ?_) (fun c_17 => absurd rfl c_17)
      have hlen := (hO d hd).2.1
      refine lv_aload_n hx hb dM_nth_26 rfl (lv_at hl 0 rfl) ?_
      refine lv_iload_n hx hb dM_nth_27 rfl (lv_at hl 2 rfl) ?_
      refine lv_aload_n hx hb dM_nth_28 rfl (lv_at hl 0 rfl) ?_
      refine va_get (D := D) (ci := 1) (v := .ref (am 2)) (C := RM) (T := FM) (N := 8) hx hb hts iM hown hK hP 0 rfl rfl 2 (by decide) (hts _ mM_f_many) (fun _ h9 => h9) rfl dM_nth_29 ?_
      refine lv_iload_n hx hb dM_nth_32 rfl (lv_at hl 1 rfl) ?_
      refine va_iald hx hb hK hP 2 0 rfl rfl (vp_in_nI (show d < 8 from hd) (by omega)) dM_nth_33 ?_
      rw [nI_clamp (show d < 2 ^ 31 by omega)]
      rw [show τ1 2 d = nI (D9 d).length from (hM1 d hd).1]
      refine lv_icmp_ge (tgt := 51) hx hb dM_nth_34 (by decide) (fun c_18 => ?_) (fun c_18 => ?_)
      · skip
        have hle : (D9 d).length ≤ k := (nI_leI (by omega) hk).mp c_18
        refine lv_iconst (v := 0) hx hb dM_nth_51 (by decide) ?_
        refine va_put (D := D) (ci := 1) (v := .int 0) (ty := .int) (C := RM) (T := FM) (N := 8) hx hb hts iM tM tM_ok nM hown hK hP hD hS 0 rfl rfl 7 (by decide) (hts _ mM_f_toldLength) (fun _ h9 => h9) rfl (by decide +kernel) rfl rfl (Nat.le_of_ble_eq_true rfl) dM_nth_52 (fun H locs hP hD hS => ?_)
        obtain ⟨τ2, eτ2⟩ : ∃ z : Nat → Nat → Int32, z = hn_up (τ1) 0 (upd (τ1 0) 1 0) := ⟨_, rfl⟩
        have hP : va_P D vwCl (hn_wM am cI (τ2)) H := by rw [eτ2]; exact hP
        have hD : va_D A (hn_wM am cI (τ2)) := by rw [eτ2]; exact hD
        refine lv_iconst (v := 0) hx hb dM_nth_55 (by decide) ?_
        refine lv_istore_n (lv' := [(3, .int 0), (0, .ref (am 0)), (1, .int (nI d)), (2, .int (nI k))]) hx hb dM_nth_56 rfl hl (by decide) rfl (fun ls hl => ?_)
        refine lv_iload_n hx hb dM_nth_57 rfl (lv_at hl 0 rfl) ?_
        refine lv_aload_n hx hb dM_nth_58 rfl (lv_at hl 1 rfl) ?_
        refine va_get (D := D) (ci := 1) (v := .int (τ2 0 1)) (C := RM) (T := FM) (N := 8) hx hb hts iM hown hK hP 0 rfl rfl 7 (by decide) (hts _ mM_f_toldLength) (fun _ h9 => h9) rfl dM_nth_59 ?_
        have ht0 : τ2 0 1 = 0 := by rw [eτ2]; show upd (τ1 0) 1 0 1 = 0; exact pk_us
        rw [ht0]
        refine lv_icmp_ge (tgt := 93) hx hb dM_nth_62 (by decide) (fun c_19 => ?_) (fun c_19 => absurd (Int32.le_refl _) c_19)
        refine lv_aload_n hx hb dM_nth_93 rfl (lv_at hl 1 rfl) ?_
        refine va_get (D := D) (ci := 1) (v := .int (τ2 0 1)) (C := RM) (T := FM) (N := 8) hx hb hts iM hown hK hP 0 rfl rfl 7 (by decide) (hts _ mM_f_toldLength) (fun _ h9 => h9) rfl dM_nth_94 ?_
        rw [ht0]
        refine lv_if_ne (tgt := 104) hx hb dM_nth_97 (by decide) (fun c_20 => absurd rfl c_20) (fun c_20 => ?_)
        refine lv_iconst (v := (-1)) hx hb dM_nth_100 (by decide) ?_
        refine lv_goto (tgt := 108) hx hb dM_nth_101 (by decide) ?_
        exact W.iret (v := (-1)) hx hb hr (fun t9 ht9 hW9 => ⟨⟨(-1), τ2, rfl, ⟨0, 0, 0, Or.inr ⟨d, k, rfl, hd, rfl, hk, rfl, Or.inl ⟨hle, rfl, rfl, rfl⟩⟩, by rw [eτ2]; exact hc1, ⟨by rw [eτ2]; exact hH1.1, hH1.2.1, ht0, by decide, fun k z => absurd z (Nat.not_lt_zero _)⟩, by rw [eτ2]; exact hn_MD_keep hM1 rfl rfl rfl rfl⟩, by rw [ht9]; exact hP, va_K.moved hW9.alike hK, hD⟩, hS.F ht9⟩) hS.2.2 dM_nth_108
      · skip
        have hlt : k < (D9 d).length := Nat.lt_of_not_le (fun z => c_18 (nI_le z hk))
        have hwf := (hO d hd).2.2 _ (hn_getD_mem hlt)
        have hwa := hwf.1
        have hwb := hwf.2.1
        refine lv_aload_n hx hb dM_nth_37 rfl (lv_at hl 0 rfl) ?_
        refine va_get (D := D) (ci := 1) (v := .ref (am 4)) (C := RM) (T := FM) (N := 8) hx hb hts iM hown hK hP 0 rfl rfl 4 (by decide) (hts _ mM_f_length) (fun _ h9 => h9) rfl dM_nth_38 ?_
        refine lv_bipush (v := 48) hx hb dM_nth_41 (by decide) ?_
        refine lv_iload_n hx hb dM_nth_43 rfl (lv_at hl 1 rfl) ?_
        refine lv_imul hx hb dM_nth_44 ?_
        refine lv_iload_n hx hb dM_nth_45 rfl (lv_at hl 2 rfl) ?_
        refine lv_iadd hx hb dM_nth_46 ?_
        rw [show ((48 * (nI d)) + (nI k) : Int32) = nI (48 * d + k) from by rw [show (48 : Int32) = nI 48 from rfl, pk_mul, nI_add]]
        refine va_iald hx hb hK hP 4 0 rfl rfl (vp_in_nI (show 48 * d + k < 384 from by omega) (by omega)) dM_nth_47 ?_
        rw [nI_clamp (show 48 * d + k < 2 ^ 31 by omega)]
        rw [show τ1 4 (48 * d + k) = nI ((D9 d).getD k hn_e0).2.1 from ((hM1 d hd).2 k hlt).2.1]
        refine lv_goto (tgt := 52) hx hb dM_nth_48 (by decide) ?_
        refine va_put (D := D) (ci := 1) (v := .int (nI ((D9 d).getD k hn_e0).2.1)) (ty := .int) (C := RM) (T := FM) (N := 8) hx hb hts iM tM tM_ok nM hown hK hP hD hS 0 rfl rfl 7 (by decide) (hts _ mM_f_toldLength) (fun _ h9 => h9) rfl (by decide +kernel) rfl rfl (Nat.le_of_ble_eq_true rfl) dM_nth_52 (fun H locs hP hD hS => ?_)
        obtain ⟨τ2, eτ2⟩ : ∃ z : Nat → Nat → Int32, z = hn_up (τ1) 0 (upd (τ1 0) 1 (nI ((D9 d).getD k hn_e0).2.1)) := ⟨_, rfl⟩
        have hP : va_P D vwCl (hn_wM am cI (τ2)) H := by rw [eτ2]; exact hP
        have hD : va_D A (hn_wM am cI (τ2)) := by rw [eτ2]; exact hD
        refine lv_iconst (v := 0) hx hb dM_nth_55 (by decide) ?_
        refine lv_istore_n (lv' := [(3, .int 0), (0, .ref (am 0)), (1, .int (nI d)), (2, .int (nI k))]) hx hb dM_nth_56 rfl hl (by decide) rfl (fun ls hl => ?_)
        have ht0 : τ2 0 1 = nI ((D9 d).getD k hn_e0).2.1 := by rw [eτ2]; show upd (τ1 0) 1 _ 1 = _; exact pk_us
        suffices loop : ∀ (f b : Nat) (τ3 : Nat → Nat → Int32) (H : Heap) (locs : List Loc), b + f = ((D9 d).getD k hn_e0).2.1 → va_P D vwCl (hn_wM am cI τ3) H → va_D A (hn_wM am cI τ3) → va_S A s.heap H locs → (τ3 0 = τ2 0 ∧ τ3 1 = τ2 1 ∧ τ3 2 = τ2 2 ∧ τ3 3 = τ2 3 ∧ τ3 4 = τ2 4 ∧ τ3 5 = τ2 5 ∧ ∀ j, j < b → τ3 6 j = nI (hn_kb ((D9 d).getD k hn_e0).1 j)) → ∀ ls : Array Slot, lv_has ls 4 [(0, .ref (am 0)), (1, .int (nI d)), (2, .int (nI k)), (3, .int (nI b))] → W p l e (headSpec wM_nth ({ frames := 1, cells := 0, slots := 0, locals := 22 })).room s m [.ref (am 0), .int (nI d), .int (nI k)].toArray below meth c H locs 0 0 (MQ below (va_Qi (fun (r : Int32) (τ9 : Nat → Nat → Int32) => ∃ c tn' TK' : Nat, hn_nthS D9 tn TK (nI d) (nI k) c r tn' TK' ∧ τ9 0 0 = nI c ∧ hn_MH τ9 h tn' TK' ∧ hn_MD τ9 D9) (fun (τ9 : Nat → Nat → Int32) t => hn_at D (hn_ty cI cL) A (hn_wM am cI (τ9)) t) A) [.ref (am 0), .int (nI d), .int (nI k)].toArray s 0 0 A) (F0 m 57 ls []) from loop ((D9 d).getD k hn_e0).2.1 0 τ2 _ _ (Nat.zero_add _) hP hD hS ⟨rfl, rfl, rfl, rfl, rfl, rfl, fun j z => absurd z (Nat.not_lt_zero _)⟩ ls (lv_sub hl [1, 2, 3, 0] rfl)
        intro f
        induction f with
        | zero =>
          intro b τ3 H locs hf hP hD hS hI ls hl
          have htl : τ3 0 1 = nI ((D9 d).getD k hn_e0).2.1 := by rw [hI.1]; exact ht0
          refine lv_iload_n hx hb dM_nth_57 rfl (lv_at hl 3 rfl) ?_
          refine lv_aload_n hx hb dM_nth_58 rfl (lv_at hl 0 rfl) ?_
          refine va_get (D := D) (ci := 1) (v := .int (τ3 0 1)) (C := RM) (T := FM) (N := 8) hx hb hts iM hown hK hP 0 rfl rfl 7 (by decide) (hts _ mM_f_toldLength) (fun _ h9 => h9) rfl dM_nth_59 ?_
          rw [htl]
          refine lv_icmp_ge (tgt := 93) hx hb dM_nth_62 (by decide) (fun c_21 => ?_) (fun c_21 => absurd (nI_le (show ((D9 d).getD k hn_e0).2.1 ≤ b by omega) (by omega)) c_21)
          refine lv_aload_n hx hb dM_nth_93 rfl (lv_at hl 0 rfl) ?_
          refine va_get (D := D) (ci := 1) (v := .int (τ3 0 1)) (C := RM) (T := FM) (N := 8) hx hb hts iM hown hK hP 0 rfl rfl 7 (by decide) (hts _ mM_f_toldLength) (fun _ h9 => h9) rfl dM_nth_94 ?_
          rw [htl]
          refine lv_if_ne (tgt := 104) hx hb dM_nth_97 (by decide) (fun c_22 => ?_) (fun c_22 => absurd c_22 (nI_ne0 (by omega) (by omega)))
          refine lv_aload_n hx hb dM_nth_104 rfl (lv_at hl 0 rfl) ?_
          refine va_get (D := D) (ci := 1) (v := .int (τ3 0 1)) (C := RM) (T := FM) (N := 8) hx hb hts iM hown hK hP 0 rfl rfl 7 (by decide) (hts _ mM_f_toldLength) (fun _ h9 => h9) rfl dM_nth_105 ?_
          rw [htl]
          exact W.iret (v := (nI ((D9 d).getD k hn_e0).2.1)) hx hb hr (fun t9 ht9 hW9 => ⟨⟨nI ((D9 d).getD k hn_e0).2.1, τ3, rfl, ⟨0, ((D9 d).getD k hn_e0).2.1, ((D9 d).getD k hn_e0).1, Or.inr ⟨d, k, rfl, hd, rfl, hk, rfl, Or.inr ⟨hlt, rfl, rfl, rfl⟩⟩, by rw [hI.1, eτ2]; exact hc1, ⟨by rw [hI.2.1, eτ2]; exact hH1.1, hH1.2.1, htl, hwb, fun j hj => hI.2.2.2.2.2.2 j (by omega)⟩, by obtain ⟨x0, x1, x2, x3, x4, x5, x6⟩ := hI; exact hn_MD_keep hM1 (by rw [x2, eτ2]; rfl) (by rw [x3, eτ2]; rfl) (by rw [x4, eτ2]; rfl) (by rw [x5, eτ2]; rfl)⟩, by rw [ht9]; exact hP, va_K.moved hW9.alike hK, hD⟩, hS.F ht9⟩) hS.2.2 dM_nth_108
        | succ f ih =>
          intro b τ3 H locs hf hP hD hS hI ls hl
          have htl : τ3 0 1 = nI ((D9 d).getD k hn_e0).2.1 := by rw [hI.1]; exact ht0
          refine lv_iload_n hx hb dM_nth_57 rfl (lv_at hl 3 rfl) ?_
          refine lv_aload_n hx hb dM_nth_58 rfl (lv_at hl 0 rfl) ?_
          refine va_get (D := D) (ci := 1) (v := .int (τ3 0 1)) (C := RM) (T := FM) (N := 8) hx hb hts iM hown hK hP 0 rfl rfl 7 (by decide) (hts _ mM_f_toldLength) (fun _ h9 => h9) rfl dM_nth_59 ?_
          rw [htl]
          refine lv_icmp_ge (tgt := 93) hx hb dM_nth_62 (by decide) (fun c_23 => absurd c_23 (nI_ge (a := b) (b := ((D9 d).getD k hn_e0).2.1) (by omega) (by omega))) (fun c_23 => ?_)
          obtain ⟨x0, x1, x2, x3, x4, x5, x6⟩ := hI
          refine lv_aload_n hx hb dM_nth_65 rfl (lv_at hl 0 rfl) ?_
          refine va_get (D := D) (ci := 1) (v := .ref (am 6)) (C := RM) (T := FM) (N := 8) hx hb hts iM hown hK hP 0 rfl rfl 6 (by decide) (hts _ mM_f_told) (fun _ h9 => h9) rfl dM_nth_66 ?_
          refine lv_iload_n hx hb dM_nth_69 rfl (lv_at hl 3 rfl) ?_
          refine lv_aload_n hx hb dM_nth_70 rfl (lv_at hl 0 rfl) ?_
          refine va_get (D := D) (ci := 1) (v := .ref (am 5)) (C := RM) (T := FM) (N := 8) hx hb hts iM hown hK hP 0 rfl rfl 5 (by decide) (hts _ mM_f_bytes) (fun _ h9 => h9) rfl dM_nth_71 ?_
          refine lv_bipush (v := 20) hx hb dM_nth_74 (by decide) ?_
          refine lv_bipush (v := 48) hx hb dM_nth_76 (by decide) ?_
          refine lv_iload_n hx hb dM_nth_78 rfl (lv_at hl 1 rfl) ?_
          refine lv_imul hx hb dM_nth_79 ?_
          refine lv_iload_n hx hb dM_nth_80 rfl (lv_at hl 2 rfl) ?_
          refine lv_iadd hx hb dM_nth_81 ?_
          refine lv_imul hx hb dM_nth_82 ?_
          refine lv_iload_n hx hb dM_nth_83 rfl (lv_at hl 3 rfl) ?_
          refine lv_iadd hx hb dM_nth_84 ?_
          rw [show ((20 * ((48 * (nI d)) + (nI k))) + (nI b) : Int32) = nI (20 * (48 * d + k) + b) from by rw [show (48 : Int32) = nI 48 from rfl, show (20 : Int32) = nI 20 from rfl, pk_mul, nI_add, pk_mul, nI_add]]
          refine va_iald hx hb hK hP 5 0 rfl rfl (vp_in_nI (show 20 * (48 * d + k) + b < 7680 from by omega) (by omega)) dM_nth_85 ?_
          rw [nI_clamp (show 20 * (48 * d + k) + b < 2 ^ 31 by omega)]
          rw [show τ3 5 (20 * (48 * d + k) + b) = nI (hn_kb ((D9 d).getD k hn_e0).1 b) from by rw [x5, eτ2]; exact ((hM1 d hd).2 k hlt).2.2 b (by omega)]
          refine va_iast hx hb hK hP hD hS 6 0 rfl rfl (vp_in_nI (show b < 20 from by omega) (by omega)) dM_nth_86 (fun H locs hP hD hS => ?_)
          rw [nI_clamp (show b < 2 ^ 31 by omega)] at hP hD
          obtain ⟨τ4, eτ4⟩ : ∃ z : Nat → Nat → Int32, z = hn_up (τ3) 6 (upd (τ3 6) b (nI (hn_kb ((D9 d).getD k hn_e0).1 b))) := ⟨_, rfl⟩
          have hP : va_P D vwCl (hn_wM am cI (τ4)) H := by rw [eτ4]; exact hP
          have hD : va_D A (hn_wM am cI (τ4)) := by rw [eτ4]; exact hD
          refine lv_iinc (v := nI (b + 1)) (lv' := [(3, .int (nI (b + 1))), (0, .ref (am 0)), (1, .int (nI d)), (2, .int (nI k))]) hx hb dM_nth_87 hl (k := 3) rfl (nI_1 b) (by decide) rfl (fun ls hl => ?_)
          refine lv_goto (tgt := 57) hx hb dM_nth_90 (by decide) ?_
          exact ih (b + 1) τ4 H locs (by omega) hP hD hS (by rw [eτ4]; exact ⟨x0, x1, x2, x3, x4, x5, fun j hj => hn_sy1 (f := fun j => nI (hn_kb ((D9 d).getD k hn_e0).1 j)) x6 hj⟩) ls (lv_sub hl [1, 2, 3, 0] rfl)
    · skip
      refine lv_iconst (v := 1) hx hb dM_nth_12 (by decide) ?_
      refine lv_goto (tgt := 17) hx hb dM_nth_13 (by decide) ?_
      refine lv_iconst (v := 0) hx hb dM_nth_17 (by decide) ?_
      have hFc := va_free (wc := hn_wM am cI (τ)) hD hS hA [0, 1, 2, 3, 4, 5, 6] rfl
      refine va_calli (va_runV (As := [.int 1, .int 0]) (rest := []) ⟨hx, hb, hml, hown, hts⟩ (cM_throwing_ok l D cI cL am (τ) 1 0 _) (cwV 2 hts gM_M_throwing rfl rfl rfl (by decide +kernel) ⟨Nat.le_of_ble_eq_true rfl, Nat.le_of_ble_eq_true rfl⟩) (hn_preVW hP hK hD (ci := 1) (q0 := 0) rfl rfl) rfl rfl hl.1 rfl (lv_room (Nat.le_of_ble_eq_true rfl)) dM_nth_18 ⟨Nat.zero_le _, Nat.zero_le _⟩) hS (fun q _ h => hFc q h) hFc (fun r9 τ1 t8 H1 locs ht hvm hw hB hz1 hk1 hS => ?_)
      obtain ⟨hP1, hK1, hD1⟩ := hB
      rw [ht] at hP1
      have hD : va_D A (hn_wM am cI (τ1)) := hD1.weaken (fun _ q _ h => hFc q.1 h)
      have hP : va_P D vwCl (hn_wM am cI (τ1)) H1 := hP1
      generalize H1 = H at hP hS ⊢
      try dsimp only at hw
      obtain ⟨hw1, hw2⟩ := hn_thr1 hw rfl
      subst hw1
      have hH1 : hn_MH τ1 h tn TK := by rw [hw2]; exact hn_MH_keep hH rfl rfl rfl
      have hM1 : hn_MD τ1 D9 := by rw [hw2]; exact hn_MD_keep hM rfl rfl rfl rfl
      have hc1 : τ1 0 0 = nI 1 := by rw [hw2]; show upd (τ 0) 0 1 0 = nI 1; rw [pk_us]; rfl
      have hR1 : hn_MR τ1 h D9 tn (hn_kb TK) := hn_MR_iff.mpr ⟨hH1, hM1⟩
      refine lv_if_eq (tgt := 26) hx hb dM_nth_21 (by decide) (fun c_24 => absurd c_24 (by decide)) (fun c_24 => ?_)
      refine lv_iconst (v := 0) hx hb dM_nth_24 (by decide) ?_
      exact W.iret (v := 0) hx hb hr (fun t9 ht9 hW9 => ⟨⟨0, τ1, rfl, ⟨1, tn, TK, Or.inl ⟨rfl, rfl, rfl, fun z => z.2 (Int32.not_le.mp c_16)⟩, hc1, hH1, hM1⟩, by rw [ht9]; exact hP, va_K.moved hW9.alike hK, hD⟩, hS.F ht9⟩) hS.2.2 dM_nth_25
  · subst e9
    refine lv_if_eq (tgt := 12) hx hb dM_nth_5 (by decide) (fun c_25 => ?_) (fun c_25 => absurd rfl c_25)
    refine lv_iconst (v := 1) hx hb dM_nth_12 (by decide) ?_
    refine lv_goto (tgt := 17) hx hb dM_nth_13 (by decide) ?_
    refine lv_iconst (v := 0) hx hb dM_nth_17 (by decide) ?_
    have hFc := va_free (wc := hn_wM am cI (τ)) hD hS hA [0, 1, 2, 3, 4, 5, 6] rfl
    refine va_calli (va_runV (As := [.int 1, .int 0]) (rest := []) ⟨hx, hb, hml, hown, hts⟩ (cM_throwing_ok l D cI cL am (τ) 1 0 _) (cwV 2 hts gM_M_throwing rfl rfl rfl (by decide +kernel) ⟨Nat.le_of_ble_eq_true rfl, Nat.le_of_ble_eq_true rfl⟩) (hn_preVW hP hK hD (ci := 1) (q0 := 0) rfl rfl) rfl rfl hl.1 rfl (lv_room (Nat.le_of_ble_eq_true rfl)) dM_nth_18 ⟨Nat.zero_le _, Nat.zero_le _⟩) hS (fun q _ h => hFc q h) hFc (fun r9 τ1 t8 H1 locs ht hvm hw hB hz1 hk1 hS => ?_)
    obtain ⟨hP1, hK1, hD1⟩ := hB
    rw [ht] at hP1
    have hD : va_D A (hn_wM am cI (τ1)) := hD1.weaken (fun _ q _ h => hFc q.1 h)
    have hP : va_P D vwCl (hn_wM am cI (τ1)) H1 := hP1
    generalize H1 = H at hP hS ⊢
    try dsimp only at hw
    obtain ⟨hw1, hw2⟩ := hn_thr1 hw rfl
    subst hw1
    have hH1 : hn_MH τ1 h tn TK := by rw [hw2]; exact hn_MH_keep hH rfl rfl rfl
    have hM1 : hn_MD τ1 D9 := by rw [hw2]; exact hn_MD_keep hM rfl rfl rfl rfl
    have hc1 : τ1 0 0 = nI 1 := by rw [hw2]; show upd (τ 0) 0 1 0 = nI 1; rw [pk_us]; rfl
    have hR1 : hn_MR τ1 h D9 tn (hn_kb TK) := hn_MR_iff.mpr ⟨hH1, hM1⟩
    refine lv_if_eq (tgt := 26) hx hb dM_nth_21 (by decide) (fun c_26 => absurd c_26 (by decide)) (fun c_26 => ?_)
    refine lv_iconst (v := 0) hx hb dM_nth_24 (by decide) ?_
    exact W.iret (v := 0) hx hb hr (fun t9 ht9 hW9 => ⟨⟨0, τ1, rfl, ⟨1, tn, TK, Or.inl ⟨rfl, rfl, rfl, fun z => hd9 z.1⟩, hc1, hH1, hM1⟩, by rw [ht9]; exact hP, va_K.moved hW9.alike hK, hD⟩, hS.F ht9⟩) hS.2.2 dM_nth_25
end
section
section
def hn_nm2 : List String := ["java/lang/RuntimeException", "java/lang/Exception"]
def hn_dc (c : String) : Cond := Cond.declares ⟨c, "<init>", "(Ljava/lang/String;)V"⟩
def hn_Bw : List Cond := [Cond.castable "java/lang/IllegalArgumentException" "java/lang/IllegalArgumentException", Cond.castable "java/lang/IllegalStateException" "java/lang/IllegalStateException", hn_dc "java/lang/RuntimeException", hn_dc "java/lang/Exception", hn_dc "java/lang/Throwable"]
theorem hn_ng2 : ∀ w ∈ (vx_atS RX 95 "java/lang/IllegalArgumentException" hn_nm2).filter goodWord, w ∈ lw_tbl := by decide +kernel
theorem hn_ng3 : ∀ w ∈ (vx_atS RX 63 "java/lang/IllegalStateException" hn_nm2).filter goodWord, w ∈ lw_tbl := by decide +kernel
theorem hn_ng0 : ∀ w ∈ hn_Bw, w ∈ lw_tbl := by decide +kernel
theorem hn_ng1 : ∀ w ∈ (vx_atS RX 95 "java/lang/IllegalArgumentException" hn_nm2).filter (fun w => !goodWord w), w ∈ hn_Bw := by decide +kernel
theorem hn_ng5 : ∀ w ∈ (vx_atS RX 63 "java/lang/IllegalStateException" hn_nm2).filter (fun w => !goodWord w), w ∈ hn_Bw := by decide +kernel
theorem hn_ot1 : ∀ w ∈ Cond.classLink RX 91 "java/lang/IllegalArgumentException" :: Cond.initialized "java/lang/IllegalArgumentException" :: vx_atS RX 95 "java/lang/IllegalArgumentException" hn_nm2, vx_ot w = true := by decide +kernel
theorem hn_ot2 : ∀ w ∈ Cond.classLink RX 59 "java/lang/IllegalStateException" :: Cond.initialized "java/lang/IllegalStateException" :: vx_atS RX 63 "java/lang/IllegalStateException" hn_nm2, vx_ot w = true := by decide +kernel
/-- the class's texts, by their places -/
def hn_strs : List (Nat × String) := [(106, "no such directory"), (109, "no such id"), (111, "no name has such a length"), (113, "no name has such a byte"), (61, "the name is there"), (69, "the directory is full"), (85, "the name is not there"), (93, "k is below 0"), (100, "i is below 0")]
/-- what a throw asks of a state, beside the tables' words: words of other kinds, the two statics of Throwable, the texts -/
def hn_G (z0 : Nat) (sa : Nat → Nat) (U : State) (H : Heap) : Prop :=
  (∀ w ∈ hn_Bw, w.before #[] U = true) ∧ vx_Zq Bundle.tN "UNASSIGNED_STACK" Bundle.steD (fun q => z0 ≤ q) U H ∧ vx_Zq Bundle.tN "SUPPRESSED_SENTINEL" Bundle.listD (fun q => z0 ≤ q) U H ∧ ∀ q ∈ hn_strs, vk_R RX q.1 q.2 (sa q.1) U
theorem hn_Bw_on : ∀ w ∈ hn_Bw, w.onTables = true := by decide +kernel
theorem hn_Bw_warm {s U : State} (hW : s.WarmedH U.vm) (h : ∀ w ∈ hn_Bw, w.before #[] s = true) : ∀ w ∈ hn_Bw, w.before #[] U = true := by
  intro w hw
  have h1 := h w hw
  simp only [hn_Bw, hn_dc, List.mem_cons, List.not_mem_nil, or_false] at hw
  rcases hw with rfl | rfl | rfl | rfl | rfl
  · exact va_Nw.warmC hW h1
  · exact va_Nw.warmC hW h1
  · exact va_Nw.warmD hW h1
  · exact va_Nw.warmD hW h1
  · exact va_Nw.warmD hW h1
theorem hn_G_at {z0 : Nat} {sa : Nat → Nat} {s U : State} {H0 H : Heap} (hG : hn_G z0 sa s H0) (hW : s.WarmedH U.vm) (hk : ∀ q : Nat, q < H0.size → ¬ z0 ≤ q → H[q]? = H0[q]?) : hn_G z0 sa U H :=
  ⟨hn_Bw_warm hW hG.1, vx_Zq.moved hW.alike (hG.2.1.kept hk), vx_Zq.moved hW.alike (hG.2.2.1.kept hk), fun q hq => vk_R.warm hW (hG.2.2.2 q hq)⟩
theorem hn_G_same {z0 : Nat} {sa : Nat → Nat} {s U : State} {H : Heap} (hG : hn_G z0 sa s H) (hv : U.vm = s.vm) : hn_G z0 sa U H :=
  ⟨fun w hw => va_tabs (hn_Bw_on w hw) hv.symm (hG.1 w hw), vx_Zq.moved (by rw [hv]; exact Vm.Alike.refl s.vm) hG.2.1, vx_Zq.moved (by rw [hv]; exact Vm.Alike.refl s.vm) hG.2.2.1, fun q hq => vk_R.same hv (hG.2.2.2 q hq)⟩
theorem hn_Az {w : va_W} {sz z0 : Nat} (hD : va_D (fun q => z0 ≤ q) w) (hz : z0 ≤ sz) : ∀ q, va_A w sz q → z0 ≤ q := fun q h => by
  rcases h with ⟨k, e, h⟩ | h
  · exact hD.2 k (q, e) h
  · exact Nat.le_trans hz h
/-- what a method that may throw asks -/
def hn_PX (D : va_G) (tys : List (ClassId × FieldType)) (w : va_W) (sz z0 : Nat) (sa : Nat → Nat) (As : List Value) : Array Value → State → Prop :=
  va_Pc As (fun U => U.heap.size = sz ∧ va_P D vwCl w U.heap ∧ va_K D vwCl tys U ∧ va_D (fun q => z0 ≤ q) w ∧ z0 ≤ sz ∧ hn_G z0 sa U U.heap)
theorem hn_PX_blind {D : va_G} {tys : List (ClassId × FieldType)} {w : va_W} {sz z0 : Nat} {sa : Nat → Nat} {As : List Value} : FrameBlind (hn_PX D tys w sz z0 sa As) := fun a U g mk z => by
  obtain ⟨z1, z2, zP, zK, zD, zz, zG⟩ := z
  exact ⟨z1, z2, zP, va_K.moved (u := U) (U := U.calling g mk a) (Vm.Alike.refl U.vm) zK, zD, zz, hn_G_same (s := U) (U := U.calling g mk a) zG rfl⟩
theorem hn_preXS {D : va_G} {tys : List (ClassId × FieldType)} {w : va_W} {z0 : Nat} {sa : Nat → Nat} {As : List Value} {s : State} {H : Heap} {A : Nat → Prop} {locs : List Loc} (hP : va_P D vwCl w H) (hK : va_K D vwCl tys s) (hD : va_D (fun q => z0 ≤ q) w) (hz : z0 ≤ s.heap.size) (hG : hn_G z0 sa s s.heap) (hS : va_S A s.heap H locs) (hAz : ∀ q, A q → z0 ≤ q) : PreS s H (hn_PX D tys w H.size z0 sa As) As :=
  ⟨hn_PX_blind, fun U hU hW => ⟨rfl, by rw [hU], by rw [hU]; exact hP, va_K.moved hW.alike hK, hD, Nat.le_trans hz hS.1, by rw [hU]; exact hn_G_at hG hW (fun q h1 h2 => hS.2.1 q h1 (fun z => h2 (hAz q z)))⟩⟩
theorem hn_preXV {D : va_G} {tys : List (ClassId × FieldType)} {w : va_W} {z0 : Nat} {sa : Nat → Nat} {As : List Value} {s : State} {H : Heap} {A : Nat → Prop} {locs : List Loc} {b ci q0 : Nat} {q : vw_C} {fs : List Value} (hP : va_P D vwCl w H) (hK : va_K D vwCl tys s) (hD : va_D (fun q => z0 ≤ q) w) (hz : z0 ≤ s.heap.size) (hG : hn_G z0 sa s s.heap) (hS : va_S A s.heap H locs) (hAz : ∀ q, A q → z0 ≤ q) (hc : vwCl[ci]? = some q) (he : w[q0]? = some (b, .inr (ci, fs))) : PreV s H q.1 b (hn_PX D tys w H.size z0 sa (.ref b :: As)) As :=
  ⟨hn_PX_blind, va_recv hK hP hc he, fun U hU hW => ⟨rfl, by rw [hU], by rw [hU]; exact hP, va_K.moved hW.alike hK, hD, Nat.le_trans hz hS.1, by rw [hU]; exact hn_G_at hG hW (fun q h1 h2 => hS.2.1 q h1 (fun z => h2 (hAz q z)))⟩⟩
theorem hn_xcT {D : va_G} {tys : List (ClassId × FieldType)} {A : Nat → Prop} {w : va_W} {s t : State} {H : Heap} {locs : List Loc} (hP : va_P D vwCl w H) (hK : va_K D vwCl tys s) (hD : va_D A w) (hS : va_S A s.heap H locs) (ha : s.vm.Alike t.vm) (h1 : H.size ≤ t.heap.size) (h2 : ∀ q : Nat, q < H.size → t.heap[q]? = H[q]?) : hn_at D tys A w t ∧ va_F A s t :=
  ⟨⟨hP.kept (fun k q hq => h2 q.1 ((hP k q hq).lt)), va_K.moved ha hK, hD⟩, Nat.le_trans hS.1 h1, fun q a b => (h2 q (Nat.lt_of_lt_of_le a hS.1)).trans (hS.2.1 q a b)⟩
/-- a world that a call has left alone -/
theorem hn_kept0 {D : va_G} {w : va_W} {H H1 : Heap} (hP : va_P D vwCl w H) (hk : ∀ q : Nat, q < H.size → ¬ va_A [] H.size q → H1[q]? = H[q]?) : va_P D vwCl w H1 :=
  hP.kept (fun k q hq => hk q.1 ((hP k q hq).lt) (fun z => by
    rcases z with ⟨k9, e9, z⟩ | z
    · cases z
    · exact absurd ((hP k q hq).lt) (by omega)))
theorem hn_A0 {H : Heap} {q : Nat} (h1 : q < H.size) (h2 : va_A [] H.size q) : False := by
  rcases h2 with ⟨k9, e9, z⟩ | z
  · cases z
  · omega
theorem hn_A1 {A : Nat → Prop} {s : State} {H : Heap} {locs : List Loc} (hA : ∀ q : Nat, s.heap.size ≤ q → A q) (hS : va_S A s.heap H locs) {q : Nat} (h : va_A [] H.size q) : A q := by
  rcases h with ⟨k9, e9, z⟩ | z
  · cases z
  · exact hA q (Nat.le_trans hS.1 z)
section
variable {p : Program} {l : Launch} {e : Env} {R : Room} {s : State} {m : MethodId} {args : Array Value} {below : List Frame} {meth : Method} {c : Code} {H : Heap} {locs : List Loc} {cells slots : Nat} {Q : State → Prop}
variable {mc ms : Nat} {free : Addr → Prop} {A : Nat → Prop} {ls : Array Slot} {Qc : Array Value → State → Outcome → State → Prop} {XC : String → State → State → Prop} {cc : ByteArray} {pc z0 : Nat} {sa : Nat → Nat}
theorem hn_throwA (hexec : p.tables.exec = Jvm.exec) (hb : c.code = cc) (hl : l.stackTraces = false) (hts : ∀ w ∈ hn_tb, w.before args s = true) (hown : s.vm.findClass RX = some m.cls) (hG : hn_G z0 sa s s.heap) (hAz : ∀ q, A q → z0 ≤ q) (hS : va_S A s.heap H locs) (hsize : ls.size = c.maxLocals)
    {is : Nat} {text : String} (hstr : (is, text) ∈ hn_strs)
    (d0 : decode cc pc = .ok (.new 91, 3)) (d3 : decode cc (pc + 3) = .ok (.dup, 1)) (d4 : decode cc (pc + 4) = .ok (.ldc is, 2)) (d6 : decode cc (pc + 6) = .ok (.invokespecial 95, 3)) (d9 : decode cc (pc + 9) = .ok (.athrow, 1))
    (htab : ∀ x ∈ c.exceptionTable.toList, False) (hRframes : 5 < R.frames) (hRlocals : 82 ≤ R.locals) (hRcells : cells + 1 ≤ R.cells) (hRslots : slots + 6 ≤ R.slots) (hlocks : meth.locks = false)
    (hx : ∀ t : State, s.vm.Alike t.vm → H.size ≤ t.heap.size → (∀ q : Nat, q < H.size → t.heap[q]? = H[q]?) → XC "java/lang/IllegalArgumentException" s t)
    (hf : ∀ z ∈ locs, free z.base) (hc : cells + 1 ≤ mc) (hs : slots + 6 ≤ ms) :
    W p l e R s m args below meth c H locs cells slots (vx_MQ below Qc XC args s mc ms free) (F0 m pc ls []) :=
  vx_throwS (names := hn_nm2) hexec hb hl hown (by decide +kernel) (by decide +kernel) (hts _ mX_c_91) (hts _ mI_arg) (hG.2.2.2 _ hstr)
    (vx_hat (fun w hw => hts w (hn_tb_of (hn_ng2 w hw) (List.mem_filter.mp hw).2)) hn_ng1 (fun w hw => va_tabs (hn_Bw_on w hw) rfl (hG.1 w hw)))
    hn_ot1 (hG.2.1.narrow hAz) (hG.2.2.1.narrow hAz) hS hsize d0 d3 d4 d6 d9 (fun x hx => (htab x hx).elim) hRframes hRlocals hRcells hRslots hlocks hx hf hc hs
theorem hn_throwB (hexec : p.tables.exec = Jvm.exec) (hb : c.code = cc) (hl : l.stackTraces = false) (hts : ∀ w ∈ hn_tb, w.before args s = true) (hown : s.vm.findClass RX = some m.cls) (hG : hn_G z0 sa s s.heap) (hAz : ∀ q, A q → z0 ≤ q) (hS : va_S A s.heap H locs) (hsize : ls.size = c.maxLocals)
    {is : Nat} {text : String} (hstr : (is, text) ∈ hn_strs)
    (d0 : decode cc pc = .ok (.new 59, 3)) (d3 : decode cc (pc + 3) = .ok (.dup, 1)) (d4 : decode cc (pc + 4) = .ok (.ldc is, 2)) (d6 : decode cc (pc + 6) = .ok (.invokespecial 63, 3)) (d9 : decode cc (pc + 9) = .ok (.athrow, 1))
    (htab : ∀ x ∈ c.exceptionTable.toList, False) (hRframes : 5 < R.frames) (hRlocals : 82 ≤ R.locals) (hRcells : cells + 1 ≤ R.cells) (hRslots : slots + 6 ≤ R.slots) (hlocks : meth.locks = false)
    (hx : ∀ t : State, s.vm.Alike t.vm → H.size ≤ t.heap.size → (∀ q : Nat, q < H.size → t.heap[q]? = H[q]?) → XC "java/lang/IllegalStateException" s t)
    (hf : ∀ z ∈ locs, free z.base) (hc : cells + 1 ≤ mc) (hs : slots + 6 ≤ ms) :
    W p l e R s m args below meth c H locs cells slots (vx_MQ below Qc XC args s mc ms free) (F0 m pc ls []) :=
  vx_throwS (names := hn_nm2) hexec hb hl hown (by decide +kernel) (by decide +kernel) (hts _ mX_c_59) (hts _ mI_st) (hG.2.2.2 _ hstr)
    (vx_hat (fun w hw => hts w (hn_tb_of (hn_ng3 w hw) (List.mem_filter.mp hw).2)) hn_ng5 (fun w hw => va_tabs (hn_Bw_on w hw) rfl (hG.1 w hw)))
    hn_ot2 (hG.2.1.narrow hAz) (hG.2.2.1.narrow hAz) hS hsize d0 d3 d4 d6 d9 (fun x hx => (htab x hx).elim) hRframes hRlocals hRcells hRslots hlocks hx hf hc hs
end
end
end
section
/-! the class's state and the directories: pure -/
section
def hn_ent (σ : Nat → Nat → Int32) (s : Nat) : hn_E := (hn_ns σ s, (σ 5 s).toNatClampNeg, σ 6 s)
def hn_XR (σ : Nat → Nat → Int32) (h : Nat → Nat) (D : Nat → List hn_E) (tn TK : Nat) : Prop :=
  ∃ L B, hn_I σ L B ∧ (∀ d, d < 8 → D d = (L d).map (hn_ent σ) ∧ ∀ s ∈ L d, σ 5 s = nI (σ 5 s).toNatClampNeg) ∧ (∀ k, k < 20 → hn_by (σ 1) k = h k) ∧ σ 0 0 = nI tn ∧ tn ≤ 20 ∧ (∀ k, k < tn → hn_by (σ 3) k = hn_kb TK k)
theorem hn_phr (a : Nat) : ∀ (n : Nat) (l : List Nat), hn_nd l → (∀ x ∈ l, a ≤ x ∧ x < a + n) → l.length ≤ n
  | 0, [], _, _ => Nat.le_refl _
  | 0, x :: l, _, h => absurd (h x List.mem_cons_self) (by omega)
  | n + 1, l, hd, h => by
    by_cases hm : a + n ∈ l
    · have h1 := hn_rmv_len hm
      have := hn_phr a n (hn_rmv (a + n) l) (hn_rmv_nd hd) (fun x hx => by
        obtain ⟨h3, h4⟩ := (hn_rmv_mem hd).mp hx
        have := h x h3
        omega)
      omega
    · have := hn_phr a n l hd (fun x hx => by
        have h3 := h x hx
        have h4 : x ≠ a + n := fun e => hm (by rw [← e]; exact hx)
        omega)
      omega
theorem hn_pfr (a : Nat) : ∀ (n : Nat) (l : List Nat), hn_nd l → (∀ x ∈ l, a ≤ x ∧ x < a + n) → l.length = n → ∀ x, a ≤ x → x < a + n → x ∈ l
  | 0, _, _, _, _ => fun x h1 h2 => absurd h2 (by omega)
  | n + 1, l, hd, h, hl => by
    by_cases hm : a + n ∈ l
    · have h1 := hn_rmv_len hm
      have ih := hn_pfr a n (hn_rmv (a + n) l) (hn_rmv_nd hd) (fun x hx => by
        obtain ⟨h3, h4⟩ := (hn_rmv_mem hd).mp hx
        have := h x h3
        omega) (by omega)
      intro x hx1 hx2
      by_cases e : x = a + n
      · rw [e]; exact hm
      · exact ((hn_rmv_mem hd).mp (ih x hx1 (by omega))).1
    · have := hn_phr a n l hd (fun x hx => by
        have h3 := h x hx
        have h4 : x ≠ a + n := fun e => hm (by rw [← e]; exact hx)
        omega)
      omega
theorem hn_rmv_in {s t : Nat} : ∀ {l : List Nat}, t ∈ l → t ≠ s → t ∈ hn_rmv s l
  | x :: l, h, hn => by
    unfold hn_rmv
    by_cases e : x = s
    · rw [if_pos e]
      rcases List.mem_cons.mp h with z | z
      · exact absurd (z.trans e) hn
      · exact z
    · rw [if_neg e]
      rcases List.mem_cons.mp h with z | z
      · rw [z]; exact List.mem_cons_self
      · exact List.mem_cons_of_mem _ (hn_rmv_in z hn)
theorem hn_all (a : Nat) : ∀ (n : Nat) (l : List Nat), (∀ x, a ≤ x → x < a + n → x ∈ l) → n ≤ l.length
  | 0, _, _ => Nat.zero_le _
  | n + 1, l, h => by
    have hm := h (a + n) (by omega) (by omega)
    have h1 := hn_rmv_len hm
    have := hn_all a n (hn_rmv (a + n) l) (fun x h2 h3 => hn_rmv_in (h x h2 (by omega)) (by omega))
    omega
theorem hn_I.lenL {σ : Nat → Nat → Int32} {L B : Nat → List Nat} (h : hn_I σ L B) {d : Nat} (hd : d < 8) : (L d).length ≤ 48 := hn_phr (48 * d) 48 _ (hn_srt_nd (h.1 d hd).2.1) (h.1 d hd).2.2.1
theorem hn_I.lenB {σ : Nat → Nat → Int32} {L B : Nat → List Nat} (h : hn_I σ L B) {j : Nat} (hj : j < 128) : (B j).length ≤ 48 := hn_phr (48 * (j / 16)) 48 _ (hn_srt_nd (h.2.1 j hj).2.1) (fun x hx => (h.1 (j / 16) (by omega)).2.2.1 x (((h.2.1 j hj).2.2 x).mp hx).1)
theorem hn_I_keep {σ σ' : Nat → Nat → Int32} {L B : Nat → List Nat} (h : hn_I σ L B) (h4 : σ' 4 = σ 4) (h5 : σ' 5 = σ 5) (h7 : σ' 7 = σ 7) (h8 : σ' 8 = σ 8) (h9 : σ' 9 = σ 9) : hn_I σ' L B := by
  unfold hn_I hn_ns at *
  rw [h4, h5, h7, h8, h9]
  exact h
theorem hn_XR_keep {σ σ' : Nat → Nat → Int32} {h : Nat → Nat} {D : Nat → List hn_E} {tn TK : Nat} (hx : hn_XR σ h D tn TK) (h0 : σ' 0 = σ 0) (h1 : σ' 1 = σ 1) (h3 : σ' 3 = σ 3) (h4 : σ' 4 = σ 4) (h5 : σ' 5 = σ 5) (h6 : σ' 6 = σ 6) (h7 : σ' 7 = σ 7) (h8 : σ' 8 = σ 8) (h9 : σ' 9 = σ 9) : hn_XR σ' h D tn TK := by
  obtain ⟨L, B, hI, hD, a1, a2, a3, a4⟩ := hx
  refine ⟨L, B, hn_I_keep hI h4 h5 h7 h8 h9, ?_, by rw [h1]; exact a1, by rw [h0]; exact a2, a3, by rw [h3]; exact a4⟩
  intro d hd
  have e : hn_ent σ' = hn_ent σ := by
    funext s
    unfold hn_ent hn_ns
    rw [h4, h5, h6]
  rw [e, h5]
  exact hD d hd
theorem hn_map_has {nm : Nat → Nat} {en : Nat → hn_E} (he : ∀ s, (en s).1 = nm s) {K : Nat} {l : List Nat} : hn_has K (l.map en) ↔ ∃ s ∈ l, nm s = K := by
  constructor
  · rintro ⟨e, h1, h2⟩
    obtain ⟨s, hs, rfl⟩ := List.mem_map.mp h1
    exact ⟨s, hs, by rw [← he]; exact h2⟩
  · rintro ⟨s, hs, h2⟩
    exact ⟨en s, List.mem_map.mpr ⟨s, hs, rfl⟩, by rw [he]; exact h2⟩
theorem hn_map_getD {en : Nat → hn_E} : ∀ {l : List Nat} {j : Nat}, j < l.length → (l.map en).getD j hn_e0 = en (l.getD j 0)
  | s :: l, 0, _ => rfl
  | s :: l, j + 1, h => hn_map_getD (l := l) (j := j) (by have : j + 1 < l.length + 1 := h; omega)
theorem hn_map_es {nm : Nat → Nat} {en : Nat → hn_E} (he : ∀ s, (en s).1 = nm s) : ∀ {l : List Nat}, hn_srt nm l → hn_es (l.map en)
  | [], _ => trivial
  | s :: l, ⟨h1, h2⟩ => ⟨fun x hx => by
      obtain ⟨t, ht, rfl⟩ := List.mem_map.mp hx
      rw [he, he]
      exact h1 t ht, hn_map_es he h2⟩
/-- the entry of the slot that has the key -/
theorem hn_map_at {nm : Nat → Nat} {en : Nat → hn_E} (he : ∀ s, (en s).1 = nm s) {K s : Nat} {l : List Nat} (hs : hn_srt nm l) (hm : s ∈ l) (hK : nm s = K) : (l.map en).getD (hn_pc K (l.map en)) hn_e0 = en s := by
  obtain ⟨h1, h2⟩ := hn_has_pc (hn_map_es he hs) ((hn_map_has he).mpr ⟨s, hm, hK⟩)
  rw [List.length_map] at h1
  have e := hn_map_getD (en := en) h1
  rw [e] at h2 ⊢
  rw [he] at h2
  have hmem : l.getD (hn_pc K (l.map en)) 0 ∈ l := by
    rw [List.getD_eq_getElem?_getD, List.getElem?_eq_getElem h1]
    exact List.getElem_mem h1
  rw [hn_srt_inj hs hmem hm (h2.trans hK.symm)]
theorem hn_map_ins {nm : Nat → Nat} {en en' : Nat → hn_E} (he : ∀ s, (en' s).1 = nm s) {K s : Nat} (hK : nm s = K) : ∀ {l : List Nat}, (∀ t ∈ l, en' t = en t) → (hn_ins nm K s l).map en' = hn_ei (en' s) (l.map en)
  | [], _ => rfl
  | x :: l, hl => by
    have hx := hl x List.mem_cons_self
    unfold hn_ins
    show _ = if (en x).1 < (en' s).1 then en x :: hn_ei (en' s) (l.map en) else en' s :: en x :: l.map en
    rw [← hx, he, he, hK]
    have hm : l.map en' = l.map en := List.map_congr_left (fun t ht => hl t (List.mem_cons_of_mem _ ht))
    by_cases h : nm x < K
    · rw [if_pos h, if_pos h, List.map_cons, hn_map_ins he hK (fun t ht => hl t (List.mem_cons_of_mem _ ht))]
    · rw [if_neg h, if_neg h, List.map_cons, List.map_cons, hm]
theorem hn_map_rmv {nm : Nat → Nat} {en : Nat → hn_E} (he : ∀ s, (en s).1 = nm s) {K s : Nat} (hK : nm s = K) : ∀ {l : List Nat}, hn_srt nm l → s ∈ l → (hn_rmv s l).map en = hn_er K (l.map en)
  | x :: l, ⟨h1, h2⟩, hm => by
    unfold hn_rmv
    show _ = if (en x).1 = K then l.map en else en x :: hn_er K (l.map en)
    rw [he]
    by_cases h : x = s
    · rw [if_pos h, if_pos (by rw [h]; exact hK)]
    · rcases List.mem_cons.mp hm with z | hm'
      · exact absurd z.symm h
      · have := h1 s hm'
        rw [if_neg h, if_neg (show ¬ nm x = K by omega), List.map_cons, hn_map_rmv he hK h2 hm']
theorem hn_map_chg {nm : Nat → Nat} {en en' : Nat → hn_E} {x : Int32} (he : ∀ s, (en s).1 = nm s) {K s : Nat} (hK : nm s = K) (hs' : en' s = ((en s).1, (en s).2.1, x)) (ht' : ∀ t, t ≠ s → en' t = en t) : ∀ {l : List Nat}, hn_srt nm l → s ∈ l → l.map en' = hn_ec K x (l.map en)
  | y :: l, ⟨h1, h2⟩, hm => by
    show en' y :: l.map en' = if (en y).1 = K then ((en y).1, (en y).2.1, x) :: l.map en else en y :: hn_ec K x (l.map en)
    by_cases h : y = s
    · subst h
      rw [if_pos (by rw [he]; exact hK), hs']
      congr 1
      refine List.map_congr_left (fun t ht => ht' t (fun e => ?_))
      have := h1 t ht
      rw [e] at this
      exact absurd this (Nat.lt_irrefl _)
    · rcases List.mem_cons.mp hm with z | hm'
      · exact absurd z.symm h
      · have := h1 s hm'
        rw [he, if_neg (show ¬ nm y = K by omega), ht' y h, hn_map_chg he hK hs' ht' h2 hm']
theorem hn_ent1 (σ : Nat → Nat → Int32) : ∀ s, (hn_ent σ s).1 = hn_ns σ s := fun _ => rfl
/-- the key in its bucket, the key in its directory -/
theorem hn_I.bucket {σ : Nat → Nat → Int32} {L B : Nat → List Nat} (h : hn_I σ L B) {d : Nat} (hd : d < 8) (key : Nat → Int32) : ∀ s, (s ∈ B (16 * d + hn_bk key 0) ∧ hn_ns σ s = hn_nm key 0) ↔ (s ∈ L d ∧ hn_ns σ s = hn_nm key 0) := by
  intro s
  have hb := hn_bk_lt key 0
  have hm := (h.2.1 (16 * d + hn_bk key 0) (by omega)).2.2 s
  rw [show (16 * d + hn_bk key 0) / 16 = d by omega, show (16 * d + hn_bk key 0) % 16 = hn_bk key 0 by omega] at hm
  constructor
  · rintro ⟨h1, h2⟩; exact ⟨(hm.mp h1).1, h2⟩
  · rintro ⟨h1, h2⟩; exact ⟨hm.mpr ⟨h1, hn_bk_nm h2⟩, h2⟩
/-- what slotOfKey answers, in the directory's words -/
theorem hn_slot {σ : Nat → Nat → Int32} {L B : Nat → List Nat} (h : hn_I σ L B) {d : Nat} (hd : d < 8) (key : Nat → Int32) :
    (∃ s, s ∈ L d ∧ hn_ns σ s = hn_nm key 0 ∧ s < 384 ∧ hn_find (hn_ns σ) (hn_nm key 0) (B (16 * d + hn_bk key 0)) = nI s) ∨ ((∀ s ∈ L d, hn_ns σ s ≠ hn_nm key 0) ∧ hn_find (hn_ns σ) (hn_nm key 0) (B (16 * d + hn_bk key 0)) = -1) := by
  have hb := hn_bk_lt key 0
  by_cases hx : ∃ s, s ∈ L d ∧ hn_ns σ s = hn_nm key 0
  · obtain ⟨s, h1, h2⟩ := hx
    exact Or.inl ⟨s, h1, h2, (h.L hd s h1).2, hn_find_in (h.2.1 _ (by omega)).2.1 ((h.bucket hd key s).mpr ⟨h1, h2⟩).1 h2⟩
  · exact Or.inr ⟨fun s h1 h2 => hx ⟨s, h1, h2⟩, hn_find_no (fun s h1 h2 => hx ⟨s, ((h.bucket hd key s).mp ⟨h1, h2⟩).1, h2⟩)⟩
/-- what freeSlot answers -/
theorem hn_free {σ : Nat → Nat → Int32} {L B : Nat → List Nat} (h : hn_I σ L B) {d : Nat} (hd : d < 8) :
    ((L d).length = 48 ∧ hn_fr (σ 5) (d * 48) 48 = -1) ∨ (¬ (L d).length = 48 ∧ ∃ s, 48 * d ≤ s ∧ s < 48 * d + 48 ∧ s ∉ L d ∧ hn_fr (σ 5) (d * 48) 48 = nI s) := by
  have hz : ∀ t, 48 * d ≤ t → t < 48 * d + 48 → (σ 5 t = 0 ↔ t ∉ L d) := fun t h1 h2 => by
    have := h.2.2 t (by omega)
    rw [show t / 48 = d by omega] at this
    exact this
  by_cases hl : (L d).length = 48
  · refine Or.inl ⟨hl, hn_fr_no 48 (d * 48) (fun t h1 h2 z => ?_)⟩
    exact (hz t (by omega) (by omega)).mp z (hn_pfr (48 * d) 48 _ (hn_srt_nd (h.1 d hd).2.1) (h.1 d hd).2.2.1 hl t (by omega) (by omega))
  · refine Or.inr ⟨hl, ?_⟩
    have hex : ∃ t, d * 48 ≤ t ∧ t < d * 48 + 48 ∧ σ 5 t = 0 := by
      refine Classical.byContradiction (fun hn => hl ?_)
      have hall : ∀ t, 48 * d ≤ t → t < 48 * d + 48 → t ∈ L d := fun t h1 h2 => Classical.byContradiction (fun z => hn ⟨t, by omega, by omega, (hz t h1 h2).mpr z⟩)
      have h1 := h.lenL hd
      have h2 := hn_all (48 * d) 48 (L d) hall
      omega
    obtain ⟨t, h1, h2, h3, h4⟩ := hn_fr_yes 48 (d * 48) hex
    exact ⟨t, by omega, by omega, (hz t (by omega) (by omega)).mp h3, h4⟩
end
end
section
section
theorem hn_sayw (f : Nat → Int32) (a b c d e : Int32) : ∀ i, i < 5 → upd (upd (upd (upd (upd f 0 a) 1 b) 2 c) 3 d) 4 e i = hn_w5 a b c d e i := fun i hi => by
  rcases (show i = 0 ∨ i = 1 ∨ i = 2 ∨ i = 3 ∨ i = 4 by omega) with rfl | rfl | rfl | rfl | rfl <;> rfl
theorem hn_kk1 {t4 : Nat → Int32} {b i : Nat} {k2 : Nat → Int32} (h1 : ∀ j, j < i → t4 (b + j) = k2 j) {j : Nat} (hj : j < i + 1) : upd t4 (b + i) (k2 i) (b + j) = k2 j := by
  by_cases e : j = i
  · rw [e, pk_us]
  · rw [pk_un (by omega)]; exact h1 j (by omega)
theorem hn_upup (σ : Nat → Nat → Int32) (q : Nat) (f g : Nat → Int32) : hn_up (hn_up σ q f) q g = hn_up σ q g := by
  funext j
  unfold hn_up
  by_cases e : j = q
  · rw [if_pos e, if_pos e]
  · rw [if_neg e, if_neg e, if_neg e]
end
set_option maxHeartbeats 4000000 in
set_option maxRecDepth 100000 in
theorem cX_say_ok (l : Launch) (D : va_G) (cI cL : ClassId) (ad : Nat → Nat) (σ : Nat → Nat → Int32) (a b c9 d e9 : Int32) (sz : Nat) : Met l yX_say wX_say ({ frames := 0, cells := 0, slots := 0, locals := 0 }) (hn_PW D (hn_ty cI cL) (hn_wX ad cI (σ)) sz [.ref (ad 0), .int a, .int b, .int c9, .int d, .int e9]) (va_Qv (fun (τ9 : Nat → Nat → Int32) => τ9 0 = σ 0 ∧ τ9 2 = σ 2 ∧ τ9 3 = σ 3 ∧ τ9 4 = σ 4 ∧ τ9 5 = σ 5 ∧ τ9 6 = σ 6 ∧ τ9 7 = σ 7 ∧ τ9 8 = σ 8 ∧ τ9 9 = σ 9 ∧ ∀ i, i < 5 → τ9 1 i = hn_w5 a b c9 d e9 i) (fun (τ9 : Nat → Nat → Int32) t => hn_at D (hn_ty cI cL) (va_A (hn_wX ad cI (σ)) sz) (hn_wX ad cI (τ9)) t) (va_A (hn_wX ad cI (σ)) sz)) 0 0 (va_A (hn_wX ad cI (σ)) sz) := by
  refine Met.ofW (cc := cX_say) (maxL := 6) (ret := none) (by decide) rfl ?_
  intro p e s m args below meth c s₁ B hml hv
  obtain ⟨rfl, hsz, hP, hK, hD0⟩ := hv
  subst hsz
  have hD := hD0.self (sz := s.heap.size)
  generalize hAe : va_A (hn_wX ad cI (σ)) s.heap.size = A at hD ⊢
  have hA : ∀ q : Nat, s.heap.size ≤ q → A q := fun q h => by rw [← hAe]; exact Or.inr h
  have hS : va_S A s.heap s.heap [] := va_S.rf
  have hP : va_P D vwCl (hn_wX ad cI (σ)) s.heap := hP
  have hx := B.exec
  have hb := B.bytes
  have hr := B.returns
  have hts0 := atoms_spec (ws := wX_say) B.pre
  have hts : ∀ w ∈ hn_tb, w.before _ s = true := fun w hw => hts0 w (List.mem_cons_of_mem _ hw)
  have hown : s.vm.findClass RX = some m.cls := findClass_of_methodNamed B.named
  have hlocks := B.notSynchronized
  have hl := lv_entry [.ref (ad 0), .int a, .int b, .int c9, .int d, .int e9] (n := 6) (Nat.le_of_ble_eq_true rfl)
  rw [lg_entry_eq]
  generalize (lg_sl [.ref (ad 0), .int a, .int b, .int c9, .int d, .int e9] ++ List.replicate (6 - (lg_sl [.ref (ad 0), .int a, .int b, .int c9, .int d, .int e9]).length) Slot.unset).toArray = ls at hl ⊢
  have hl : lv_has ls 6 [(0, .ref (ad 0)), (1, .int a), (2, .int b), (3, .int c9), (4, .int d), (5, .int e9)] := hl
  refine lv_aload_n hx hb dX_say_0 rfl (lv_at hl 0 rfl) ?_
  refine va_get (D := D) (ci := 0) (v := .ref (ad 1)) (C := RX) (T := FX) (N := 10) hx hb hts iX hown hK hP 0 rfl rfl 0 (by decide) (hts _ mX_f_hand) (fun _ h9 => h9) rfl dX_say_1 ?_
  refine lv_iconst (v := 0) hx hb dX_say_4 (by decide) ?_
  refine lv_iload_n hx hb dX_say_5 rfl (lv_at hl 1 rfl) ?_
  refine va_iast hx hb hK hP hD hS 1 0 rfl rfl (i := 0) (vp_in_nI (n := 0) (N := 5) (by omega) (by omega)) dX_say_6 (fun H locs hP hD hS => ?_)
  rw [show ((0 : Int32)).toNatClampNeg = 0 from rfl] at hP hD
  obtain ⟨σ1, eσ1⟩ : ∃ z : Nat → Nat → Int32, z = hn_up (σ) 1 (upd (σ 1) 0 a) := ⟨_, rfl⟩
  have hP : va_P D vwCl (hn_wX ad cI (σ1)) H := by rw [eσ1]; exact hP
  have hD : va_D A (hn_wX ad cI (σ1)) := by rw [eσ1]; exact hD
  refine lv_aload_n hx hb dX_say_7 rfl (lv_at hl 0 rfl) ?_
  refine va_get (D := D) (ci := 0) (v := .ref (ad 1)) (C := RX) (T := FX) (N := 10) hx hb hts iX hown hK hP 0 rfl rfl 0 (by decide) (hts _ mX_f_hand) (fun _ h9 => h9) rfl dX_say_8 ?_
  refine lv_iconst (v := 1) hx hb dX_say_11 (by decide) ?_
  refine lv_iload_n hx hb dX_say_12 rfl (lv_at hl 2 rfl) ?_
  refine va_iast hx hb hK hP hD hS 1 0 rfl rfl (i := 1) (vp_in_nI (n := 1) (N := 5) (by omega) (by omega)) dX_say_13 (fun H locs hP hD hS => ?_)
  rw [show ((1 : Int32)).toNatClampNeg = 1 from rfl] at hP hD
  obtain ⟨σ2, eσ2⟩ : ∃ z : Nat → Nat → Int32, z = hn_up (σ1) 1 (upd (σ1 1) 1 b) := ⟨_, rfl⟩
  have hP : va_P D vwCl (hn_wX ad cI (σ2)) H := by rw [eσ2]; exact hP
  have hD : va_D A (hn_wX ad cI (σ2)) := by rw [eσ2]; exact hD
  refine lv_aload_n hx hb dX_say_14 rfl (lv_at hl 0 rfl) ?_
  refine va_get (D := D) (ci := 0) (v := .ref (ad 1)) (C := RX) (T := FX) (N := 10) hx hb hts iX hown hK hP 0 rfl rfl 0 (by decide) (hts _ mX_f_hand) (fun _ h9 => h9) rfl dX_say_15 ?_
  refine lv_iconst (v := 2) hx hb dX_say_18 (by decide) ?_
  refine lv_iload_n hx hb dX_say_19 rfl (lv_at hl 3 rfl) ?_
  refine va_iast hx hb hK hP hD hS 1 0 rfl rfl (i := 2) (vp_in_nI (n := 2) (N := 5) (by omega) (by omega)) dX_say_20 (fun H locs hP hD hS => ?_)
  rw [show ((2 : Int32)).toNatClampNeg = 2 from rfl] at hP hD
  obtain ⟨σ3, eσ3⟩ : ∃ z : Nat → Nat → Int32, z = hn_up (σ2) 1 (upd (σ2 1) 2 c9) := ⟨_, rfl⟩
  have hP : va_P D vwCl (hn_wX ad cI (σ3)) H := by rw [eσ3]; exact hP
  have hD : va_D A (hn_wX ad cI (σ3)) := by rw [eσ3]; exact hD
  refine lv_aload_n hx hb dX_say_21 rfl (lv_at hl 0 rfl) ?_
  refine va_get (D := D) (ci := 0) (v := .ref (ad 1)) (C := RX) (T := FX) (N := 10) hx hb hts iX hown hK hP 0 rfl rfl 0 (by decide) (hts _ mX_f_hand) (fun _ h9 => h9) rfl dX_say_22 ?_
  refine lv_iconst (v := 3) hx hb dX_say_25 (by decide) ?_
  refine lv_iload hx hb dX_say_26 (lv_at hl 4 rfl) ?_
  refine va_iast hx hb hK hP hD hS 1 0 rfl rfl (i := 3) (vp_in_nI (n := 3) (N := 5) (by omega) (by omega)) dX_say_28 (fun H locs hP hD hS => ?_)
  rw [show ((3 : Int32)).toNatClampNeg = 3 from rfl] at hP hD
  obtain ⟨σ4, eσ4⟩ : ∃ z : Nat → Nat → Int32, z = hn_up (σ3) 1 (upd (σ3 1) 3 d) := ⟨_, rfl⟩
  have hP : va_P D vwCl (hn_wX ad cI (σ4)) H := by rw [eσ4]; exact hP
  have hD : va_D A (hn_wX ad cI (σ4)) := by rw [eσ4]; exact hD
  refine lv_aload_n hx hb dX_say_29 rfl (lv_at hl 0 rfl) ?_
  refine va_get (D := D) (ci := 0) (v := .ref (ad 1)) (C := RX) (T := FX) (N := 10) hx hb hts iX hown hK hP 0 rfl rfl 0 (by decide) (hts _ mX_f_hand) (fun _ h9 => h9) rfl dX_say_30 ?_
  refine lv_iconst (v := 4) hx hb dX_say_33 (by decide) ?_
  refine lv_iload hx hb dX_say_34 (lv_at hl 5 rfl) ?_
  refine va_iast hx hb hK hP hD hS 1 0 rfl rfl (i := 4) (vp_in_nI (n := 4) (N := 5) (by omega) (by omega)) dX_say_36 (fun H locs hP hD hS => ?_)
  rw [show ((4 : Int32)).toNatClampNeg = 4 from rfl] at hP hD
  obtain ⟨σ5, eσ5⟩ : ∃ z : Nat → Nat → Int32, z = hn_up (σ4) 1 (upd (σ4 1) 4 e9) := ⟨_, rfl⟩
  have hP : va_P D vwCl (hn_wX ad cI (σ5)) H := by rw [eσ5]; exact hP
  have hD : va_D A (hn_wX ad cI (σ5)) := by rw [eσ5]; exact hD
  exact W.vret hx hb hr (fun t9 ht9 hW9 => ⟨⟨σ5, rfl, by rw [eσ5, eσ4, eσ3, eσ2, eσ1]; exact ⟨rfl, rfl, rfl, rfl, rfl, rfl, rfl, rfl, rfl, hn_sayw _ a b c9 d e9⟩, by rw [ht9]; exact hP, va_K.moved hW9.alike hK, hD⟩, hS.F ht9⟩) hS.2.2 dX_say_37

set_option maxHeartbeats 4000000 in
set_option maxRecDepth 100000 in
theorem cX_keepKey_ok (l : Launch) (D : va_G) (cI cL : ClassId) (ad : Nat → Nat) (σ : Nat → Nat → Int32) (t : Nat) (ht : t < 384) (n9 : Int32) (sz : Nat) : Met l yX_keepKey wX_keepKey ({ frames := 0, cells := 0, slots := 0, locals := 0 }) (hn_PW D (hn_ty cI cL) (hn_wX ad cI (σ)) sz [.ref (ad 0), .int (nI t), .int n9]) (va_Qv (fun (τ9 : Nat → Nat → Int32) => (τ9 0 = σ 0 ∧ τ9 1 = σ 1 ∧ τ9 2 = σ 2 ∧ τ9 3 = σ 3 ∧ τ9 6 = σ 6 ∧ τ9 7 = σ 7 ∧ τ9 8 = σ 8 ∧ τ9 9 = σ 9) ∧ τ9 5 = upd (σ 5) t n9 ∧ (∀ j, j < 5 → τ9 4 (5 * t + j) = σ 2 j) ∧ ∀ q, ¬ (5 * t ≤ q ∧ q < 5 * t + 5) → τ9 4 q = σ 4 q) (fun (τ9 : Nat → Nat → Int32) t => hn_at D (hn_ty cI cL) (va_A (hn_wX ad cI (σ)) sz) (hn_wX ad cI (τ9)) t) (va_A (hn_wX ad cI (σ)) sz)) 0 0 (va_A (hn_wX ad cI (σ)) sz) := by
  refine Met.ofW (cc := cX_keepKey) (maxL := 4) (ret := none) (by decide) rfl ?_
  intro p e s m args below meth c s₁ B hml hv
  obtain ⟨rfl, hsz, hP, hK, hD0⟩ := hv
  subst hsz
  have hD := hD0.self (sz := s.heap.size)
  generalize hAe : va_A (hn_wX ad cI (σ)) s.heap.size = A at hD ⊢
  have hA : ∀ q : Nat, s.heap.size ≤ q → A q := fun q h => by rw [← hAe]; exact Or.inr h
  have hS : va_S A s.heap s.heap [] := va_S.rf
  have hP : va_P D vwCl (hn_wX ad cI (σ)) s.heap := hP
  have hx := B.exec
  have hb := B.bytes
  have hr := B.returns
  have hts0 := atoms_spec (ws := wX_keepKey) B.pre
  have hts : ∀ w ∈ hn_tb, w.before _ s = true := fun w hw => hts0 w (List.mem_cons_of_mem _ hw)
  have hown : s.vm.findClass RX = some m.cls := findClass_of_methodNamed B.named
  have hlocks := B.notSynchronized
  have hl := lv_entry [.ref (ad 0), .int (nI t), .int n9] (n := 4) (Nat.le_of_ble_eq_true rfl)
  rw [lg_entry_eq]
  generalize (lg_sl [.ref (ad 0), .int (nI t), .int n9] ++ List.replicate (4 - (lg_sl [.ref (ad 0), .int (nI t), .int n9]).length) Slot.unset).toArray = ls at hl ⊢
  have hl : lv_has ls 4 [(0, .ref (ad 0)), (1, .int (nI t)), (2, .int n9)] := hl
  refine lv_iconst (v := 0) hx hb dX_keepKey_0 (by decide) ?_
  refine lv_istore_n (lv' := [(3, .int 0), (0, .ref (ad 0)), (1, .int (nI t)), (2, .int n9)]) hx hb dX_keepKey_1 rfl hl (by decide) rfl (fun ls hl => ?_)
  suffices loop : ∀ (f i : Nat) (σ3 : Nat → Nat → Int32) (H : Heap) (locs : List Loc), i + f = 5 → va_P D vwCl (hn_wX ad cI σ3) H → va_D A (hn_wX ad cI σ3) → va_S A s.heap H locs → ((σ3 0 = σ 0 ∧ σ3 1 = σ 1 ∧ σ3 2 = σ 2 ∧ σ3 3 = σ 3 ∧ σ3 6 = σ 6 ∧ σ3 7 = σ 7 ∧ σ3 8 = σ 8 ∧ σ3 9 = σ 9) ∧ σ3 5 = σ 5 ∧ (∀ j, j < i → σ3 4 (5 * t + j) = σ 2 j) ∧ ∀ q, ¬ (5 * t ≤ q ∧ q < 5 * t + 5) → σ3 4 q = σ 4 q) → ∀ ls : Array Slot, lv_has ls 4 [(0, .ref (ad 0)), (1, .int (nI t)), (2, .int n9), (3, .int (nI i))] → W p l e (headSpec wX_keepKey ({ frames := 0, cells := 0, slots := 0, locals := 0 })).room s m [.ref (ad 0), .int (nI t), .int n9].toArray below meth c H locs 0 0 (MQ below (va_Qv (fun (τ9 : Nat → Nat → Int32) => (τ9 0 = σ 0 ∧ τ9 1 = σ 1 ∧ τ9 2 = σ 2 ∧ τ9 3 = σ 3 ∧ τ9 6 = σ 6 ∧ τ9 7 = σ 7 ∧ τ9 8 = σ 8 ∧ τ9 9 = σ 9) ∧ τ9 5 = upd (σ 5) t n9 ∧ (∀ j, j < 5 → τ9 4 (5 * t + j) = σ 2 j) ∧ ∀ q, ¬ (5 * t ≤ q ∧ q < 5 * t + 5) → τ9 4 q = σ 4 q) (fun (τ9 : Nat → Nat → Int32) t => hn_at D (hn_ty cI cL) A (hn_wX ad cI (τ9)) t) A) [.ref (ad 0), .int (nI t), .int n9].toArray s 0 0 A) (F0 m 2 ls []) from loop 5 0 σ _ _ rfl hP hD hS ⟨⟨rfl, rfl, rfl, rfl, rfl, rfl, rfl, rfl⟩, rfl, fun j z => absurd z (Nat.not_lt_zero _), fun q _ => rfl⟩ ls (lv_sub hl [1, 2, 3, 0] rfl)
  intro f
  induction f with
  | zero =>
    intro i σ3 H locs hf hP hD hS hI ls hl
    have hf : i = 5 := hf
    subst hf
    refine lv_iload_n hx hb dX_keepKey_2 rfl (lv_at hl 3 rfl) ?_
    refine lv_iconst (v := 5) hx hb dX_keepKey_3 (by decide) ?_
    refine lv_icmp_ge (tgt := 29) hx hb dX_keepKey_4 (by decide) (fun c_1 => ?_) (fun c_1 => absurd (show (5 : Int32) ≤ nI 5 by decide) c_1)
    refine lv_aload_n hx hb dX_keepKey_29 rfl (lv_at hl 0 rfl) ?_
    refine va_get (D := D) (ci := 0) (v := .ref (ad 5)) (C := RX) (T := FX) (N := 10) hx hb hts iX hown hK hP 0 rfl rfl 5 (by decide) (hts _ mX_f_lengths) (fun _ h9 => h9) rfl dX_keepKey_30 ?_
    refine lv_iload_n hx hb dX_keepKey_33 rfl (lv_at hl 1 rfl) ?_
    refine lv_iload_n hx hb dX_keepKey_34 rfl (lv_at hl 2 rfl) ?_
    refine va_iast hx hb hK hP hD hS 5 0 rfl rfl (vp_in_nI (show t < 384 from ht) (by omega)) dX_keepKey_35 (fun H locs hP hD hS => ?_)
    rw [nI_clamp (show t < 2 ^ 31 by omega)] at hP hD
    obtain ⟨σ4, eσ4⟩ : ∃ z : Nat → Nat → Int32, z = hn_up (σ3) 5 (upd (σ3 5) t n9) := ⟨_, rfl⟩
    have hP : va_P D vwCl (hn_wX ad cI (σ4)) H := by rw [eσ4]; exact hP
    have hD : va_D A (hn_wX ad cI (σ4)) := by rw [eσ4]; exact hD
    obtain ⟨hk9, h5, h4, h6⟩ := hI
    exact W.vret hx hb hr (fun t9 ht9 hW9 => ⟨⟨σ4, rfl, by rw [eσ4]; exact ⟨hk9, by show upd (σ3 5) t n9 = _; rw [h5], h4, h6⟩, by rw [ht9]; exact hP, va_K.moved hW9.alike hK, hD⟩, hS.F ht9⟩) hS.2.2 dX_keepKey_36
  | succ f ih =>
    intro i σ3 H locs hf hP hD hS hI ls hl
    refine lv_iload_n hx hb dX_keepKey_2 rfl (lv_at hl 3 rfl) ?_
    refine lv_iconst (v := 5) hx hb dX_keepKey_3 (by decide) ?_
    refine lv_icmp_ge (tgt := 29) hx hb dX_keepKey_4 (by decide) (fun c_2 => absurd c_2 (nI_ge (a := i) (b := 5) (by omega) (by decide))) (fun c_2 => ?_)
    obtain ⟨hk9, h5, h4, h6⟩ := hI
    refine lv_aload_n hx hb dX_keepKey_7 rfl (lv_at hl 0 rfl) ?_
    refine va_get (D := D) (ci := 0) (v := .ref (ad 4)) (C := RX) (T := FX) (N := 10) hx hb hts iX hown hK hP 0 rfl rfl 4 (by decide) (hts _ mX_f_words) (fun _ h9 => h9) rfl dX_keepKey_8 ?_
    refine lv_iload_n hx hb dX_keepKey_11 rfl (lv_at hl 1 rfl) ?_
    refine lv_iconst (v := 5) hx hb dX_keepKey_12 (by decide) ?_
    refine lv_imul hx hb dX_keepKey_13 ?_
    refine lv_iload_n hx hb dX_keepKey_14 rfl (lv_at hl 3 rfl) ?_
    refine lv_iadd hx hb dX_keepKey_15 ?_
    rw [show (((nI t) * 5) + (nI i) : Int32) = nI (5 * t + i) from by rw [show (5 : Int32) = nI 5 from rfl, pk_mul, nI_add, Nat.mul_comm]]
    refine lv_aload_n hx hb dX_keepKey_16 rfl (lv_at hl 0 rfl) ?_
    refine va_get (D := D) (ci := 0) (v := .ref (ad 2)) (C := RX) (T := FX) (N := 10) hx hb hts iX hown hK hP 0 rfl rfl 1 (by decide) (hts _ mX_f_key) (fun _ h9 => h9) rfl dX_keepKey_17 ?_
    refine lv_iload_n hx hb dX_keepKey_20 rfl (lv_at hl 3 rfl) ?_
    refine va_iald hx hb hK hP 2 0 rfl rfl (vp_in_nI (show i < 5 from by omega) (by omega)) dX_keepKey_21 ?_
    rw [nI_clamp (show i < 2 ^ 31 by omega)]
    rw [show σ3 2 i = σ 2 i from by rw [hk9.2.2.1]]
    refine va_iast hx hb hK hP hD hS 4 0 rfl rfl (vp_in_nI (show 5 * t + i < 1920 from by omega) (by omega)) dX_keepKey_22 (fun H locs hP hD hS => ?_)
    rw [nI_clamp (show 5 * t + i < 2 ^ 31 by omega)] at hP hD
    obtain ⟨σ5, eσ5⟩ : ∃ z : Nat → Nat → Int32, z = hn_up (σ3) 4 (upd (σ3 4) (5 * t + i) (σ 2 i)) := ⟨_, rfl⟩
    have hP : va_P D vwCl (hn_wX ad cI (σ5)) H := by rw [eσ5]; exact hP
    have hD : va_D A (hn_wX ad cI (σ5)) := by rw [eσ5]; exact hD
    refine lv_iinc (v := nI (i + 1)) (lv' := [(3, .int (nI (i + 1))), (0, .ref (ad 0)), (1, .int (nI t)), (2, .int n9)]) hx hb dX_keepKey_23 hl (k := 3) rfl (nI_1 i) (by decide) rfl (fun ls hl => ?_)
    refine lv_goto (tgt := 2) hx hb dX_keepKey_26 (by decide) ?_
    exact ih (i + 1) σ5 H locs (by omega) hP hD hS (by rw [eσ5]; exact ⟨hk9, h5, fun j hj => hn_kk1 h4 hj, fun q hq => by show upd (σ3 4) _ _ q = _; rw [pk_un (by omega)]; exact h6 q hq⟩) ls (lv_sub hl [1, 2, 3, 0] rfl)

set_option maxHeartbeats 4000000 in
set_option maxRecDepth 100000 in
theorem cX_link8_ok (l : Launch) (D : va_G) (cI cL : ClassId) (ad : Nat → Nat) (σ : Nat → Nat → Int32) (h : Nat) (hh : h < 512) (l9 : List Nat) (hlen : l9.length ≤ 48) (hch : hn_ch (σ 8) h l9) (t : Nat) (ht : t < 384) (sz : Nat) : Met l yX_link wX_link ({ frames := 2, cells := 0, slots := 0, locals := 48 }) (hn_PW D (hn_ty cI cL) (hn_wX ad cI (σ)) sz [.ref (ad 0), .ref (ad 8), .int (nI h), .int (nI t)]) (va_Qv (fun (τ9 : Nat → Nat → Int32) => τ9 = hn_up σ 8 (upd (upd (σ 8) t (σ 8 (hn_pl (hn_ns σ) (hn_nm (σ 2) 0) h l9))) (hn_pl (hn_ns σ) (hn_nm (σ 2) 0) h l9) (nI t))) (fun (τ9 : Nat → Nat → Int32) t => hn_at D (hn_ty cI cL) (va_A (hn_wX ad cI (σ)) sz) (hn_wX ad cI (τ9)) t) (va_A (hn_wX ad cI (σ)) sz)) 0 0 (va_A (hn_wX ad cI (σ)) sz) := by
  refine Met.ofW (cc := cX_link) (maxL := 5) (ret := none) (by decide) rfl ?_
  intro p e s m args below meth c s₁ B hml hv
  obtain ⟨rfl, hsz, hP, hK, hD0⟩ := hv
  subst hsz
  have hD := hD0.self (sz := s.heap.size)
  generalize hAe : va_A (hn_wX ad cI (σ)) s.heap.size = A at hD ⊢
  have hA : ∀ q : Nat, s.heap.size ≤ q → A q := fun q h => by rw [← hAe]; exact Or.inr h
  have hS : va_S A s.heap s.heap [] := va_S.rf
  have hP : va_P D vwCl (hn_wX ad cI (σ)) s.heap := hP
  have hx := B.exec
  have hb := B.bytes
  have hr := B.returns
  have hts0 := atoms_spec (ws := wX_link) B.pre
  have hts : ∀ w ∈ hn_tb, w.before _ s = true := fun w hw => hts0 w (List.mem_cons_of_mem _ hw)
  have hown : s.vm.findClass RX = some m.cls := findClass_of_methodNamed B.named
  have hlocks := B.notSynchronized
  have hl := lv_entry [.ref (ad 0), .ref (ad 8), .int (nI h), .int (nI t)] (n := 5) (Nat.le_of_ble_eq_true rfl)
  rw [lg_entry_eq]
  generalize (lg_sl [.ref (ad 0), .ref (ad 8), .int (nI h), .int (nI t)] ++ List.replicate (5 - (lg_sl [.ref (ad 0), .ref (ad 8), .int (nI h), .int (nI t)]).length) Slot.unset).toArray = ls at hl ⊢
  have hl : lv_has ls 5 [(0, .ref (ad 0)), (1, .ref (ad 8)), (2, .int (nI h)), (3, .int (nI t))] := hl
  refine lv_aload_n hx hb dX_link_0 rfl (lv_at hl 0 rfl) ?_
  refine lv_aload_n hx hb dX_link_1 rfl (lv_at hl 1 rfl) ?_
  refine lv_iload_n hx hb dX_link_2 rfl (lv_at hl 2 rfl) ?_
  refine W.callR (W.runV (As := [.ref (ad 8), .int (nI h)]) (rest := []) ⟨hx, hb, hml, hown, hts⟩ (cX_placeBeforeKey_ok l D cI cL ad σ 8 512 (ad 8) (σ 8) rfl (by decide) (by decide) h hh l9 hlen hch) (cwV 2 hts gX_X_placeBeforeKey rfl rfl rfl (by decide +kernel) ⟨Nat.le_of_ble_eq_true rfl, Nat.le_of_ble_eq_true rfl⟩) (hn_preV hP hK (ci := 0) (q0 := 0) rfl rfl) rfl rfl hl.1 rfl (lv_room (Nat.le_of_ble_eq_true rfl)) dX_link_3 ⟨Nat.zero_le _, Nat.zero_le _⟩) ?_
  refine W.eq (g2 := F0 m 6 ls [.int (nI (hn_pl (hn_ns σ) (hn_nm (σ 2) 0) h l9))]) rfl ?_
  have hpl : (hn_pl (hn_ns σ) (hn_nm (σ 2) 0) h l9) < 512 := by
    rcases hn_pl_mem (hn_ns σ) (hn_nm (σ 2) 0) l9 h with z | z
    · rw [z]; exact hh
    · exact Nat.lt_trans (hn_ch_lt hch _ z) (by decide)
  refine lv_istore (lv' := [(4, .int (nI (hn_pl (hn_ns σ) (hn_nm (σ 2) 0) h l9))), (0, .ref (ad 0)), (1, .ref (ad 8)), (2, .int (nI h)), (3, .int (nI t))]) hx hb dX_link_6 hl (by decide) rfl (fun ls hl => ?_)
  refine lv_aload_n hx hb dX_link_8 rfl (lv_at hl 2 rfl) ?_
  refine lv_iload_n hx hb dX_link_9 rfl (lv_at hl 4 rfl) ?_
  refine lv_aload_n hx hb dX_link_10 rfl (lv_at hl 2 rfl) ?_
  refine lv_iload hx hb dX_link_11 (lv_at hl 0 rfl) ?_
  refine va_iald hx hb hK hP 8 0 rfl rfl (vp_in_nI (show (hn_pl (hn_ns σ) (hn_nm (σ 2) 0) h l9) < 512 from hpl) (by omega)) dX_link_13 ?_
  rw [nI_clamp (show (hn_pl (hn_ns σ) (hn_nm (σ 2) 0) h l9) < 2 ^ 31 by omega)]
  refine va_iast hx hb hK hP hD hS 8 0 rfl rfl (vp_in_nI (show t < 512 from by omega) (by omega)) dX_link_14 (fun H locs hP hD hS => ?_)
  rw [nI_clamp (show t < 2 ^ 31 by omega)] at hP hD
  obtain ⟨σ1, eσ1⟩ : ∃ z : Nat → Nat → Int32, z = hn_up (σ) 8 (upd (σ 8) t (σ 8 (hn_pl (hn_ns σ) (hn_nm (σ 2) 0) h l9))) := ⟨_, rfl⟩
  have hP : va_P D vwCl (hn_wX ad cI (σ1)) H := by rw [eσ1]; exact hP
  have hD : va_D A (hn_wX ad cI (σ1)) := by rw [eσ1]; exact hD
  refine lv_aload_n hx hb dX_link_15 rfl (lv_at hl 2 rfl) ?_
  refine lv_iload hx hb dX_link_16 (lv_at hl 0 rfl) ?_
  refine lv_iload_n hx hb dX_link_18 rfl (lv_at hl 4 rfl) ?_
  refine va_iast hx hb hK hP hD hS 8 0 rfl rfl (vp_in_nI (show (hn_pl (hn_ns σ) (hn_nm (σ 2) 0) h l9) < 512 from hpl) (by omega)) dX_link_19 (fun H locs hP hD hS => ?_)
  rw [nI_clamp (show (hn_pl (hn_ns σ) (hn_nm (σ 2) 0) h l9) < 2 ^ 31 by omega)] at hP hD
  obtain ⟨σ2, eσ2⟩ : ∃ z : Nat → Nat → Int32, z = hn_up (σ1) 8 (upd (σ1 8) (hn_pl (hn_ns σ) (hn_nm (σ 2) 0) h l9) (nI t)) := ⟨_, rfl⟩
  have hP : va_P D vwCl (hn_wX ad cI (σ2)) H := by rw [eσ2]; exact hP
  have hD : va_D A (hn_wX ad cI (σ2)) := by rw [eσ2]; exact hD
  exact W.vret hx hb hr (fun t9 ht9 hW9 => ⟨⟨σ2, rfl, by rw [eσ2, eσ1]; exact hn_upup _ _ _ _, by rw [ht9]; exact hP, va_K.moved hW9.alike hK, hD⟩, hS.F ht9⟩) hS.2.2 dX_link_20

set_option maxHeartbeats 4000000 in
set_option maxRecDepth 100000 in
theorem cX_unlink8_ok (l : Launch) (D : va_G) (cI cL : ClassId) (ad : Nat → Nat) (σ : Nat → Nat → Int32) (h : Nat) (hh : h < 512) (l9 : List Nat) (hlen : l9.length ≤ 48) (hch : hn_ch (σ 8) h l9) (t : Nat) (hsrt : hn_srt (hn_ns σ) l9) (hhl : h ∉ l9) (hmem : t ∈ l9) (hK9 : hn_ns σ t = hn_nm (σ 2) 0) (sz : Nat) : Met l yX_unlinkKey wX_unlinkKey ({ frames := 2, cells := 0, slots := 0, locals := 48 }) (hn_PW D (hn_ty cI cL) (hn_wX ad cI (σ)) sz [.ref (ad 0), .ref (ad 8), .int (nI h)]) (va_Qv (fun (τ9 : Nat → Nat → Int32) => τ9 = hn_up σ 8 (upd (σ 8) (hn_pl (hn_ns σ) (hn_nm (σ 2) 0) h l9) (σ 8 t))) (fun (τ9 : Nat → Nat → Int32) t => hn_at D (hn_ty cI cL) (va_A (hn_wX ad cI (σ)) sz) (hn_wX ad cI (τ9)) t) (va_A (hn_wX ad cI (σ)) sz)) 0 0 (va_A (hn_wX ad cI (σ)) sz) := by
  refine Met.ofW (cc := cX_unlinkKey) (maxL := 5) (ret := none) (by decide) rfl ?_
  intro p e s m args below meth c s₁ B hml hv
  obtain ⟨rfl, hsz, hP, hK, hD0⟩ := hv
  subst hsz
  have hD := hD0.self (sz := s.heap.size)
  generalize hAe : va_A (hn_wX ad cI (σ)) s.heap.size = A at hD ⊢
  have hA : ∀ q : Nat, s.heap.size ≤ q → A q := fun q h => by rw [← hAe]; exact Or.inr h
  have hS : va_S A s.heap s.heap [] := va_S.rf
  have hP : va_P D vwCl (hn_wX ad cI (σ)) s.heap := hP
  have hx := B.exec
  have hb := B.bytes
  have hr := B.returns
  have hts0 := atoms_spec (ws := wX_unlinkKey) B.pre
  have hts : ∀ w ∈ hn_tb, w.before _ s = true := fun w hw => hts0 w (List.mem_cons_of_mem _ hw)
  have hown : s.vm.findClass RX = some m.cls := findClass_of_methodNamed B.named
  have hlocks := B.notSynchronized
  have hl := lv_entry [.ref (ad 0), .ref (ad 8), .int (nI h)] (n := 5) (Nat.le_of_ble_eq_true rfl)
  rw [lg_entry_eq]
  generalize (lg_sl [.ref (ad 0), .ref (ad 8), .int (nI h)] ++ List.replicate (5 - (lg_sl [.ref (ad 0), .ref (ad 8), .int (nI h)]).length) Slot.unset).toArray = ls at hl ⊢
  have hl : lv_has ls 5 [(0, .ref (ad 0)), (1, .ref (ad 8)), (2, .int (nI h))] := hl
  refine lv_aload_n hx hb dX_unlinkKey_0 rfl (lv_at hl 0 rfl) ?_
  refine lv_aload_n hx hb dX_unlinkKey_1 rfl (lv_at hl 1 rfl) ?_
  refine lv_iload_n hx hb dX_unlinkKey_2 rfl (lv_at hl 2 rfl) ?_
  refine W.callR (W.runV (As := [.ref (ad 8), .int (nI h)]) (rest := []) ⟨hx, hb, hml, hown, hts⟩ (cX_placeBeforeKey_ok l D cI cL ad σ 8 512 (ad 8) (σ 8) rfl (by decide) (by decide) h hh l9 hlen hch) (cwV 2 hts gX_X_placeBeforeKey rfl rfl rfl (by decide +kernel) ⟨Nat.le_of_ble_eq_true rfl, Nat.le_of_ble_eq_true rfl⟩) (hn_preV hP hK (ci := 0) (q0 := 0) rfl rfl) rfl rfl hl.1 rfl (lv_room (Nat.le_of_ble_eq_true rfl)) dX_unlinkKey_3 ⟨Nat.zero_le _, Nat.zero_le _⟩) ?_
  refine W.eq (g2 := F0 m 6 ls [.int (nI (hn_pl (hn_ns σ) (hn_nm (σ 2) 0) h l9))]) rfl ?_
  have hpl : (hn_pl (hn_ns σ) (hn_nm (σ 2) 0) h l9) < 512 := by
    rcases hn_pl_mem (hn_ns σ) (hn_nm (σ 2) 0) l9 h with z | z
    · rw [z]; exact hh
    · exact Nat.lt_trans (hn_ch_lt hch _ z) (by decide)
  refine lv_istore_n (lv' := [(3, .int (nI (hn_pl (hn_ns σ) (hn_nm (σ 2) 0) h l9))), (0, .ref (ad 0)), (1, .ref (ad 8)), (2, .int (nI h))]) hx hb dX_unlinkKey_6 rfl hl (by decide) rfl (fun ls hl => ?_)
  refine lv_aload_n hx hb dX_unlinkKey_7 rfl (lv_at hl 2 rfl) ?_
  refine lv_iload_n hx hb dX_unlinkKey_8 rfl (lv_at hl 0 rfl) ?_
  refine va_iald hx hb hK hP 8 0 rfl rfl (vp_in_nI (show (hn_pl (hn_ns σ) (hn_nm (σ 2) 0) h l9) < 512 from hpl) (by omega)) dX_unlinkKey_9 ?_
  rw [nI_clamp (show (hn_pl (hn_ns σ) (hn_nm (σ 2) 0) h l9) < 2 ^ 31 by omega)]
  rw [show σ 8 (hn_pl (hn_ns σ) (hn_nm (σ 2) 0) h l9) = nI t from (hn_ch_rmv hK9 hch hsrt hhl hmem).1]
  have ht := hn_ch_lt hch t hmem
  refine lv_istore (lv' := [(4, .int (nI t)), (3, .int (nI (hn_pl (hn_ns σ) (hn_nm (σ 2) 0) h l9))), (0, .ref (ad 0)), (1, .ref (ad 8)), (2, .int (nI h))]) hx hb dX_unlinkKey_10 hl (by decide) rfl (fun ls hl => ?_)
  refine lv_iload hx hb dX_unlinkKey_12 (lv_at hl 0 rfl) ?_
  refine W.callR (W.runS (As := [.int (nI t)]) (rest := []) ⟨hx, hb, hml, hown, hts⟩ (cX_isSlot_ok l (nI t)) (cwS 1 hts gX_X_isSlot rfl rfl rfl (by decide +kernel) ⟨Nat.le_of_ble_eq_true rfl, Nat.le_of_ble_eq_true rfl⟩) hn_pre0 rfl rfl hl.1 rfl (lv_room (Nat.le_of_ble_eq_true rfl)) dX_unlinkKey_14 ⟨Nat.zero_le _, Nat.zero_le _⟩) ?_
  refine W.eq (g2 := F0 m 17 ls [.int (hn_isl (nI t))]) rfl ?_
  rw [show (hn_isl (nI t) : Int32) = 1 from hn_isl_n ht]
  refine lv_if_eq (tgt := 27) hx hb dX_unlinkKey_17 (by decide) (fun c_3 => absurd c_3 (by decide)) (fun c_3 => ?_)
  refine lv_aload_n hx hb dX_unlinkKey_20 rfl (lv_at hl 3 rfl) ?_
  refine lv_iload_n hx hb dX_unlinkKey_21 rfl (lv_at hl 1 rfl) ?_
  refine lv_aload_n hx hb dX_unlinkKey_22 rfl (lv_at hl 3 rfl) ?_
  refine lv_iload hx hb dX_unlinkKey_23 (lv_at hl 0 rfl) ?_
  refine va_iald hx hb hK hP 8 0 rfl rfl (vp_in_nI (show t < 512 from by omega) (by omega)) dX_unlinkKey_25 ?_
  rw [nI_clamp (show t < 2 ^ 31 by omega)]
  refine va_iast hx hb hK hP hD hS 8 0 rfl rfl (vp_in_nI (show (hn_pl (hn_ns σ) (hn_nm (σ 2) 0) h l9) < 512 from hpl) (by omega)) dX_unlinkKey_26 (fun H locs hP hD hS => ?_)
  rw [nI_clamp (show (hn_pl (hn_ns σ) (hn_nm (σ 2) 0) h l9) < 2 ^ 31 by omega)] at hP hD
  obtain ⟨σ1, eσ1⟩ : ∃ z : Nat → Nat → Int32, z = hn_up (σ) 8 (upd (σ 8) (hn_pl (hn_ns σ) (hn_nm (σ 2) 0) h l9) (σ 8 t)) := ⟨_, rfl⟩
  have hP : va_P D vwCl (hn_wX ad cI (σ1)) H := by rw [eσ1]; exact hP
  have hD : va_D A (hn_wX ad cI (σ1)) := by rw [eσ1]; exact hD
  exact W.vret hx hb hr (fun t9 ht9 hW9 => ⟨⟨σ1, rfl, eσ1, by rw [ht9]; exact hP, va_K.moved hW9.alike hK, hD⟩, hS.F ht9⟩) hS.2.2 dX_unlinkKey_27

set_option maxHeartbeats 4000000 in
set_option maxRecDepth 100000 in
theorem cX_link9_ok (l : Launch) (D : va_G) (cI cL : ClassId) (ad : Nat → Nat) (σ : Nat → Nat → Int32) (h : Nat) (hh : h < 392) (l9 : List Nat) (hlen : l9.length ≤ 48) (hch : hn_ch (σ 9) h l9) (t : Nat) (ht : t < 384) (sz : Nat) : Met l yX_link wX_link ({ frames := 2, cells := 0, slots := 0, locals := 48 }) (hn_PW D (hn_ty cI cL) (hn_wX ad cI (σ)) sz [.ref (ad 0), .ref (ad 9), .int (nI h), .int (nI t)]) (va_Qv (fun (τ9 : Nat → Nat → Int32) => τ9 = hn_up σ 9 (upd (upd (σ 9) t (σ 9 (hn_pl (hn_ns σ) (hn_nm (σ 2) 0) h l9))) (hn_pl (hn_ns σ) (hn_nm (σ 2) 0) h l9) (nI t))) (fun (τ9 : Nat → Nat → Int32) t => hn_at D (hn_ty cI cL) (va_A (hn_wX ad cI (σ)) sz) (hn_wX ad cI (τ9)) t) (va_A (hn_wX ad cI (σ)) sz)) 0 0 (va_A (hn_wX ad cI (σ)) sz) := by
  refine Met.ofW (cc := cX_link) (maxL := 5) (ret := none) (by decide) rfl ?_
  intro p e s m args below meth c s₁ B hml hv
  obtain ⟨rfl, hsz, hP, hK, hD0⟩ := hv
  subst hsz
  have hD := hD0.self (sz := s.heap.size)
  generalize hAe : va_A (hn_wX ad cI (σ)) s.heap.size = A at hD ⊢
  have hA : ∀ q : Nat, s.heap.size ≤ q → A q := fun q h => by rw [← hAe]; exact Or.inr h
  have hS : va_S A s.heap s.heap [] := va_S.rf
  have hP : va_P D vwCl (hn_wX ad cI (σ)) s.heap := hP
  have hx := B.exec
  have hb := B.bytes
  have hr := B.returns
  have hts0 := atoms_spec (ws := wX_link) B.pre
  have hts : ∀ w ∈ hn_tb, w.before _ s = true := fun w hw => hts0 w (List.mem_cons_of_mem _ hw)
  have hown : s.vm.findClass RX = some m.cls := findClass_of_methodNamed B.named
  have hlocks := B.notSynchronized
  have hl := lv_entry [.ref (ad 0), .ref (ad 9), .int (nI h), .int (nI t)] (n := 5) (Nat.le_of_ble_eq_true rfl)
  rw [lg_entry_eq]
  generalize (lg_sl [.ref (ad 0), .ref (ad 9), .int (nI h), .int (nI t)] ++ List.replicate (5 - (lg_sl [.ref (ad 0), .ref (ad 9), .int (nI h), .int (nI t)]).length) Slot.unset).toArray = ls at hl ⊢
  have hl : lv_has ls 5 [(0, .ref (ad 0)), (1, .ref (ad 9)), (2, .int (nI h)), (3, .int (nI t))] := hl
  refine lv_aload_n hx hb dX_link_0 rfl (lv_at hl 0 rfl) ?_
  refine lv_aload_n hx hb dX_link_1 rfl (lv_at hl 1 rfl) ?_
  refine lv_iload_n hx hb dX_link_2 rfl (lv_at hl 2 rfl) ?_
  refine W.callR (W.runV (As := [.ref (ad 9), .int (nI h)]) (rest := []) ⟨hx, hb, hml, hown, hts⟩ (cX_placeBeforeKey_ok l D cI cL ad σ 9 392 (ad 9) (σ 9) rfl (by decide) (by decide) h hh l9 hlen hch) (cwV 2 hts gX_X_placeBeforeKey rfl rfl rfl (by decide +kernel) ⟨Nat.le_of_ble_eq_true rfl, Nat.le_of_ble_eq_true rfl⟩) (hn_preV hP hK (ci := 0) (q0 := 0) rfl rfl) rfl rfl hl.1 rfl (lv_room (Nat.le_of_ble_eq_true rfl)) dX_link_3 ⟨Nat.zero_le _, Nat.zero_le _⟩) ?_
  refine W.eq (g2 := F0 m 6 ls [.int (nI (hn_pl (hn_ns σ) (hn_nm (σ 2) 0) h l9))]) rfl ?_
  have hpl : (hn_pl (hn_ns σ) (hn_nm (σ 2) 0) h l9) < 392 := by
    rcases hn_pl_mem (hn_ns σ) (hn_nm (σ 2) 0) l9 h with z | z
    · rw [z]; exact hh
    · exact Nat.lt_trans (hn_ch_lt hch _ z) (by decide)
  refine lv_istore (lv' := [(4, .int (nI (hn_pl (hn_ns σ) (hn_nm (σ 2) 0) h l9))), (0, .ref (ad 0)), (1, .ref (ad 9)), (2, .int (nI h)), (3, .int (nI t))]) hx hb dX_link_6 hl (by decide) rfl (fun ls hl => ?_)
  refine lv_aload_n hx hb dX_link_8 rfl (lv_at hl 2 rfl) ?_
  refine lv_iload_n hx hb dX_link_9 rfl (lv_at hl 4 rfl) ?_
  refine lv_aload_n hx hb dX_link_10 rfl (lv_at hl 2 rfl) ?_
  refine lv_iload hx hb dX_link_11 (lv_at hl 0 rfl) ?_
  refine va_iald hx hb hK hP 9 0 rfl rfl (vp_in_nI (show (hn_pl (hn_ns σ) (hn_nm (σ 2) 0) h l9) < 392 from hpl) (by omega)) dX_link_13 ?_
  rw [nI_clamp (show (hn_pl (hn_ns σ) (hn_nm (σ 2) 0) h l9) < 2 ^ 31 by omega)]
  refine va_iast hx hb hK hP hD hS 9 0 rfl rfl (vp_in_nI (show t < 392 from by omega) (by omega)) dX_link_14 (fun H locs hP hD hS => ?_)
  rw [nI_clamp (show t < 2 ^ 31 by omega)] at hP hD
  obtain ⟨σ1, eσ1⟩ : ∃ z : Nat → Nat → Int32, z = hn_up (σ) 9 (upd (σ 9) t (σ 9 (hn_pl (hn_ns σ) (hn_nm (σ 2) 0) h l9))) := ⟨_, rfl⟩
  have hP : va_P D vwCl (hn_wX ad cI (σ1)) H := by rw [eσ1]; exact hP
  have hD : va_D A (hn_wX ad cI (σ1)) := by rw [eσ1]; exact hD
  refine lv_aload_n hx hb dX_link_15 rfl (lv_at hl 2 rfl) ?_
  refine lv_iload hx hb dX_link_16 (lv_at hl 0 rfl) ?_
  refine lv_iload_n hx hb dX_link_18 rfl (lv_at hl 4 rfl) ?_
  refine va_iast hx hb hK hP hD hS 9 0 rfl rfl (vp_in_nI (show (hn_pl (hn_ns σ) (hn_nm (σ 2) 0) h l9) < 392 from hpl) (by omega)) dX_link_19 (fun H locs hP hD hS => ?_)
  rw [nI_clamp (show (hn_pl (hn_ns σ) (hn_nm (σ 2) 0) h l9) < 2 ^ 31 by omega)] at hP hD
  obtain ⟨σ2, eσ2⟩ : ∃ z : Nat → Nat → Int32, z = hn_up (σ1) 9 (upd (σ1 9) (hn_pl (hn_ns σ) (hn_nm (σ 2) 0) h l9) (nI t)) := ⟨_, rfl⟩
  have hP : va_P D vwCl (hn_wX ad cI (σ2)) H := by rw [eσ2]; exact hP
  have hD : va_D A (hn_wX ad cI (σ2)) := by rw [eσ2]; exact hD
  exact W.vret hx hb hr (fun t9 ht9 hW9 => ⟨⟨σ2, rfl, by rw [eσ2, eσ1]; exact hn_upup _ _ _ _, by rw [ht9]; exact hP, va_K.moved hW9.alike hK, hD⟩, hS.F ht9⟩) hS.2.2 dX_link_20

set_option maxHeartbeats 4000000 in
set_option maxRecDepth 100000 in
theorem cX_unlink9_ok (l : Launch) (D : va_G) (cI cL : ClassId) (ad : Nat → Nat) (σ : Nat → Nat → Int32) (h : Nat) (hh : h < 392) (l9 : List Nat) (hlen : l9.length ≤ 48) (hch : hn_ch (σ 9) h l9) (t : Nat) (hsrt : hn_srt (hn_ns σ) l9) (hhl : h ∉ l9) (hmem : t ∈ l9) (hK9 : hn_ns σ t = hn_nm (σ 2) 0) (sz : Nat) : Met l yX_unlinkKey wX_unlinkKey ({ frames := 2, cells := 0, slots := 0, locals := 48 }) (hn_PW D (hn_ty cI cL) (hn_wX ad cI (σ)) sz [.ref (ad 0), .ref (ad 9), .int (nI h)]) (va_Qv (fun (τ9 : Nat → Nat → Int32) => τ9 = hn_up σ 9 (upd (σ 9) (hn_pl (hn_ns σ) (hn_nm (σ 2) 0) h l9) (σ 9 t))) (fun (τ9 : Nat → Nat → Int32) t => hn_at D (hn_ty cI cL) (va_A (hn_wX ad cI (σ)) sz) (hn_wX ad cI (τ9)) t) (va_A (hn_wX ad cI (σ)) sz)) 0 0 (va_A (hn_wX ad cI (σ)) sz) := by
  refine Met.ofW (cc := cX_unlinkKey) (maxL := 5) (ret := none) (by decide) rfl ?_
  intro p e s m args below meth c s₁ B hml hv
  obtain ⟨rfl, hsz, hP, hK, hD0⟩ := hv
  subst hsz
  have hD := hD0.self (sz := s.heap.size)
  generalize hAe : va_A (hn_wX ad cI (σ)) s.heap.size = A at hD ⊢
  have hA : ∀ q : Nat, s.heap.size ≤ q → A q := fun q h => by rw [← hAe]; exact Or.inr h
  have hS : va_S A s.heap s.heap [] := va_S.rf
  have hP : va_P D vwCl (hn_wX ad cI (σ)) s.heap := hP
  have hx := B.exec
  have hb := B.bytes
  have hr := B.returns
  have hts0 := atoms_spec (ws := wX_unlinkKey) B.pre
  have hts : ∀ w ∈ hn_tb, w.before _ s = true := fun w hw => hts0 w (List.mem_cons_of_mem _ hw)
  have hown : s.vm.findClass RX = some m.cls := findClass_of_methodNamed B.named
  have hlocks := B.notSynchronized
  have hl := lv_entry [.ref (ad 0), .ref (ad 9), .int (nI h)] (n := 5) (Nat.le_of_ble_eq_true rfl)
  rw [lg_entry_eq]
  generalize (lg_sl [.ref (ad 0), .ref (ad 9), .int (nI h)] ++ List.replicate (5 - (lg_sl [.ref (ad 0), .ref (ad 9), .int (nI h)]).length) Slot.unset).toArray = ls at hl ⊢
  have hl : lv_has ls 5 [(0, .ref (ad 0)), (1, .ref (ad 9)), (2, .int (nI h))] := hl
  refine lv_aload_n hx hb dX_unlinkKey_0 rfl (lv_at hl 0 rfl) ?_
  refine lv_aload_n hx hb dX_unlinkKey_1 rfl (lv_at hl 1 rfl) ?_
  refine lv_iload_n hx hb dX_unlinkKey_2 rfl (lv_at hl 2 rfl) ?_
  refine W.callR (W.runV (As := [.ref (ad 9), .int (nI h)]) (rest := []) ⟨hx, hb, hml, hown, hts⟩ (cX_placeBeforeKey_ok l D cI cL ad σ 9 392 (ad 9) (σ 9) rfl (by decide) (by decide) h hh l9 hlen hch) (cwV 2 hts gX_X_placeBeforeKey rfl rfl rfl (by decide +kernel) ⟨Nat.le_of_ble_eq_true rfl, Nat.le_of_ble_eq_true rfl⟩) (hn_preV hP hK (ci := 0) (q0 := 0) rfl rfl) rfl rfl hl.1 rfl (lv_room (Nat.le_of_ble_eq_true rfl)) dX_unlinkKey_3 ⟨Nat.zero_le _, Nat.zero_le _⟩) ?_
  refine W.eq (g2 := F0 m 6 ls [.int (nI (hn_pl (hn_ns σ) (hn_nm (σ 2) 0) h l9))]) rfl ?_
  have hpl : (hn_pl (hn_ns σ) (hn_nm (σ 2) 0) h l9) < 392 := by
    rcases hn_pl_mem (hn_ns σ) (hn_nm (σ 2) 0) l9 h with z | z
    · rw [z]; exact hh
    · exact Nat.lt_trans (hn_ch_lt hch _ z) (by decide)
  refine lv_istore_n (lv' := [(3, .int (nI (hn_pl (hn_ns σ) (hn_nm (σ 2) 0) h l9))), (0, .ref (ad 0)), (1, .ref (ad 9)), (2, .int (nI h))]) hx hb dX_unlinkKey_6 rfl hl (by decide) rfl (fun ls hl => ?_)
  refine lv_aload_n hx hb dX_unlinkKey_7 rfl (lv_at hl 2 rfl) ?_
  refine lv_iload_n hx hb dX_unlinkKey_8 rfl (lv_at hl 0 rfl) ?_
  refine va_iald hx hb hK hP 9 0 rfl rfl (vp_in_nI (show (hn_pl (hn_ns σ) (hn_nm (σ 2) 0) h l9) < 392 from hpl) (by omega)) dX_unlinkKey_9 ?_
  rw [nI_clamp (show (hn_pl (hn_ns σ) (hn_nm (σ 2) 0) h l9) < 2 ^ 31 by omega)]
  rw [show σ 9 (hn_pl (hn_ns σ) (hn_nm (σ 2) 0) h l9) = nI t from (hn_ch_rmv hK9 hch hsrt hhl hmem).1]
  have ht := hn_ch_lt hch t hmem
  refine lv_istore (lv' := [(4, .int (nI t)), (3, .int (nI (hn_pl (hn_ns σ) (hn_nm (σ 2) 0) h l9))), (0, .ref (ad 0)), (1, .ref (ad 9)), (2, .int (nI h))]) hx hb dX_unlinkKey_10 hl (by decide) rfl (fun ls hl => ?_)
  refine lv_iload hx hb dX_unlinkKey_12 (lv_at hl 0 rfl) ?_
  refine W.callR (W.runS (As := [.int (nI t)]) (rest := []) ⟨hx, hb, hml, hown, hts⟩ (cX_isSlot_ok l (nI t)) (cwS 1 hts gX_X_isSlot rfl rfl rfl (by decide +kernel) ⟨Nat.le_of_ble_eq_true rfl, Nat.le_of_ble_eq_true rfl⟩) hn_pre0 rfl rfl hl.1 rfl (lv_room (Nat.le_of_ble_eq_true rfl)) dX_unlinkKey_14 ⟨Nat.zero_le _, Nat.zero_le _⟩) ?_
  refine W.eq (g2 := F0 m 17 ls [.int (hn_isl (nI t))]) rfl ?_
  rw [show (hn_isl (nI t) : Int32) = 1 from hn_isl_n ht]
  refine lv_if_eq (tgt := 27) hx hb dX_unlinkKey_17 (by decide) (fun c_4 => absurd c_4 (by decide)) (fun c_4 => ?_)
  refine lv_aload_n hx hb dX_unlinkKey_20 rfl (lv_at hl 3 rfl) ?_
  refine lv_iload_n hx hb dX_unlinkKey_21 rfl (lv_at hl 1 rfl) ?_
  refine lv_aload_n hx hb dX_unlinkKey_22 rfl (lv_at hl 3 rfl) ?_
  refine lv_iload hx hb dX_unlinkKey_23 (lv_at hl 0 rfl) ?_
  refine va_iald hx hb hK hP 9 0 rfl rfl (vp_in_nI (show t < 392 from by omega) (by omega)) dX_unlinkKey_25 ?_
  rw [nI_clamp (show t < 2 ^ 31 by omega)]
  refine va_iast hx hb hK hP hD hS 9 0 rfl rfl (vp_in_nI (show (hn_pl (hn_ns σ) (hn_nm (σ 2) 0) h l9) < 392 from hpl) (by omega)) dX_unlinkKey_26 (fun H locs hP hD hS => ?_)
  rw [nI_clamp (show (hn_pl (hn_ns σ) (hn_nm (σ 2) 0) h l9) < 2 ^ 31 by omega)] at hP hD
  obtain ⟨σ1, eσ1⟩ : ∃ z : Nat → Nat → Int32, z = hn_up (σ) 9 (upd (σ 9) (hn_pl (hn_ns σ) (hn_nm (σ 2) 0) h l9) (σ 9 t)) := ⟨_, rfl⟩
  have hP : va_P D vwCl (hn_wX ad cI (σ1)) H := by rw [eσ1]; exact hP
  have hD : va_D A (hn_wX ad cI (σ1)) := by rw [eσ1]; exact hD
  exact W.vret hx hb hr (fun t9 ht9 hW9 => ⟨⟨σ1, rfl, eσ1, by rw [ht9]; exact hP, va_K.moved hW9.alike hK, hD⟩, hS.F ht9⟩) hS.2.2 dX_unlinkKey_27
end
section
section
theorem hn_i1 (x : Int32) : x < 1 ↔ x.toInt < 1 := by rw [Int32.lt_iff_toInt_lt]; rfl
theorem hn_lt1 {x : Int32} (h : x < 1) : x ≤ 0 := by
  rw [hn_i1] at h
  rw [Int32.le_iff_toInt_le]
  show x.toInt ≤ 0
  omega
theorem hn_nle0 {x : Int32} (h : ¬ x < 1) : ¬ x ≤ 0 := fun z => by
  rw [hn_i1] at h
  rw [Int32.le_iff_toInt_le] at z
  have z : x.toInt ≤ 0 := z
  omega
theorem hn_lt21 {x : Int32} (h : ¬ x ≤ 20) : 21 ≤ x := by
  rw [Int32.le_iff_toInt_le] at h ⊢
  have h : ¬ x.toInt ≤ 20 := h
  show 21 ≤ x.toInt
  omega
theorem hn_nge21 {x : Int32} (h : x ≤ 20) : ¬ 21 ≤ x := fun z => by
  rw [Int32.le_iff_toInt_le] at h z
  have h : x.toInt ≤ 20 := h
  have z : 21 ≤ x.toInt := z
  omega
theorem hn_id_yes {x : Int32} (h1 : ¬ x < 1) (h2 : x ≤ 65535) : hn_isid x := by
  rw [hn_i1] at h1
  rw [Int32.le_iff_toInt_le] at h2
  have h2 : x.toInt ≤ 65535 := h2
  refine ⟨?_, ?_⟩
  · rw [Int32.lt_iff_toInt_lt]; show 0 < x.toInt; omega
  · rw [Int32.lt_iff_toInt_lt]; show x.toInt < 65536; omega
theorem hn_id_no1 {x : Int32} (h1 : x < 1) (z : hn_isid x) : False := by
  rw [hn_i1] at h1
  have z := z.1
  rw [Int32.lt_iff_toInt_lt] at z
  have z : 0 < x.toInt := z
  omega
theorem hn_id_no2 {x : Int32} (h1 : ¬ x ≤ 65535) (z : hn_isid x) : False := by
  rw [Int32.le_iff_toInt_le] at h1
  have h1 : ¬ x.toInt ≤ 65535 := h1
  have z := z.2
  rw [Int32.lt_iff_toInt_lt] at z
  have z : x.toInt < 65536 := z
  omega
theorem hn_upself (σ : Nat → Nat → Int32) (q : Nat) : σ = hn_up σ q (σ q) := by
  funext j
  unfold hn_up
  by_cases e : j = q
  · rw [if_pos e, e]
  · rw [if_neg e]
/-- the key's number is the name's -/
theorem hn_key {w k9 : Nat → Int32} {h : Nat → Nat} {n : Nat} (hh : ∀ k, k < 20 → hn_by w k = h k) (hn : n ≤ 20) (hk : ∀ j, j < 5 → k9 j = hn_cut w n j) : hn_nm k9 0 = hn_num h n := by
  rw [hn_nm_of (w := k9) (v := hn_cut w n) (b := 0) (c := 0) (fun i hi => by rw [Nat.zero_add]; exact hk i hi), hn_nm_bn]
  refine hn_bn_of 20 (fun k hk2 => ?_)
  rw [hn_cut_by w hn hk2]
  unfold hn_hc
  by_cases e : k < n
  · rw [if_pos e, if_pos e, hh k hk2]
  · rw [if_neg e, if_neg e]
end
set_option maxHeartbeats 4000000 in
set_option maxRecDepth 100000 in
theorem cX_requireDirectory_ok (l : Launch) (hl0 : l.stackTraces = false) (D : va_G) (cI cL : ClassId) (z0 : Nat) (sa : Nat → Nat) (x : Int32) (sz : Nat) : vx_Met l yX_requireDirectory wX_requireDirectory ({ frames := 6, cells := 1, slots := 6, locals := 82 }) (hn_PX D (hn_ty cI cL) ([] : va_W) sz z0 sa [.int x]) (va_Qv (fun (τ9 : Nat → Nat → Int32) => hn_dir x) (fun (τ9 : Nat → Nat → Int32) t => hn_at D (hn_ty cI cL) (va_A ([] : va_W) sz) ([]) t) (va_A ([] : va_W) sz)) (vx_X (fun _ : Nat → Nat → Int32 => True) (fun E (τ9 : Nat → Nat → Int32) t => (E = "java/lang/IllegalArgumentException" ∧ ¬ hn_dir x) ∧ hn_at D (hn_ty cI cL) (va_A ([] : va_W) sz) ([]) t) (va_A ([] : va_W) sz)) 1 6 (va_A ([] : va_W) sz) := by
  refine vx_ofW (cc := cX_requireDirectory) (maxL := 1) (ret := none) (by decide) rfl ?_
  intro p e s m args below meth c s₁ B hml htab hv
  obtain ⟨rfl, hsz, hP, hK, hD0, hz0, hG⟩ := hv
  subst hsz
  have hD := hD0.self (sz := s.heap.size)
  have hAz := hn_Az hD0 hz0
  generalize hAe : va_A ([] : va_W) s.heap.size = A at hD hAz ⊢
  have hA : ∀ q : Nat, s.heap.size ≤ q → A q := fun q h => by rw [← hAe]; exact Or.inr h
  have hS : va_S A s.heap s.heap [] := va_S.rf
  have hP : va_P D vwCl ([] : va_W) s.heap := hP
  have hx := B.exec
  have hb := B.bytes
  have hr := B.returns
  have hts0 := atoms_spec (ws := wX_requireDirectory) B.pre
  have hts : ∀ w ∈ hn_tb, w.before _ s = true := fun w hw => hts0 w (List.mem_cons_of_mem _ hw)
  have hown : s.vm.findClass RX = some m.cls := findClass_of_methodNamed B.named
  have hlocks := B.notSynchronized
  have hl := lv_entry [.int x] (n := 1) (Nat.le_of_ble_eq_true rfl)
  rw [lg_entry_eq]
  generalize (lg_sl [.int x] ++ List.replicate (1 - (lg_sl [.int x]).length) Slot.unset).toArray = ls at hl ⊢
  have hl : lv_has ls 1 [(0, .int x)] := hl
  refine lv_iload_n hx hb dX_requireDirectory_0 rfl (lv_at hl 0 rfl) ?_
  refine lv_if_lt (tgt := 10) hx hb dX_requireDirectory_1 (by decide) (fun c_1 => ?_) (fun c_1 => ?_)
  · skip
    exact hn_throwA hx hb hl0 hts hown hG hAz hS (hl.1.trans hml.symm) (is := 106) (text := "no such directory") (by decide +kernel) dX_requireDirectory_10 dX_requireDirectory_13 dX_requireDirectory_14 dX_requireDirectory_16 dX_requireDirectory_19 htab (Nat.le_of_ble_eq_true rfl) (Nat.le_of_ble_eq_true rfl) (Nat.le_of_ble_eq_true rfl) (Nat.le_of_ble_eq_true rfl) hlocks (fun t9 ha9 g1 g2 => ⟨(fun _ _ => 0), trivial, ⟨⟨rfl, hn_dir_no1 c_1⟩, (hn_xcT hP hK hD hS ha9 g1 g2).1⟩, (hn_xcT hP hK hD hS ha9 g1 g2).2⟩) hS.2.2 (Nat.le_of_ble_eq_true rfl) (Nat.le_of_ble_eq_true rfl)
  · skip
    refine lv_iload_n hx hb dX_requireDirectory_4 rfl (lv_at hl 0 rfl) ?_
    refine lv_bipush (v := 8) hx hb dX_requireDirectory_5 (by decide) ?_
    refine lv_icmp_lt (tgt := 20) hx hb dX_requireDirectory_7 (by decide) (fun c_2 => ?_) (fun c_2 => ?_)
    · skip
      refine vx_ret ?_
      refine W.widen (k := 1) (n := 6) (Nat.le_of_ble_eq_true rfl) (Nat.le_of_ble_eq_true rfl) ?_
      exact W.vret hx hb hr (fun t9 ht9 hW9 => ⟨⟨(fun _ _ => 0), rfl, hn_dir_yes c_1 (Int32.not_le.mpr c_2), by rw [ht9]; exact hP, va_K.moved hW9.alike hK, hD⟩, hS.F ht9⟩) hS.2.2 dX_requireDirectory_20
    · skip
      exact hn_throwA hx hb hl0 hts hown hG hAz hS (hl.1.trans hml.symm) (is := 106) (text := "no such directory") (by decide +kernel) dX_requireDirectory_10 dX_requireDirectory_13 dX_requireDirectory_14 dX_requireDirectory_16 dX_requireDirectory_19 htab (Nat.le_of_ble_eq_true rfl) (Nat.le_of_ble_eq_true rfl) (Nat.le_of_ble_eq_true rfl) (Nat.le_of_ble_eq_true rfl) hlocks (fun t9 ha9 g1 g2 => ⟨(fun _ _ => 0), trivial, ⟨⟨rfl, hn_dir_no2 (Int32.not_lt.mp c_2)⟩, (hn_xcT hP hK hD hS ha9 g1 g2).1⟩, (hn_xcT hP hK hD hS ha9 g1 g2).2⟩) hS.2.2 (Nat.le_of_ble_eq_true rfl) (Nat.le_of_ble_eq_true rfl)

set_option maxHeartbeats 4000000 in
set_option maxRecDepth 100000 in
theorem cX_requireId_ok (l : Launch) (hl0 : l.stackTraces = false) (D : va_G) (cI cL : ClassId) (z0 : Nat) (sa : Nat → Nat) (x : Int32) (sz : Nat) : vx_Met l yX_requireId wX_requireId ({ frames := 6, cells := 1, slots := 6, locals := 82 }) (hn_PX D (hn_ty cI cL) ([] : va_W) sz z0 sa [.int x]) (va_Qv (fun (τ9 : Nat → Nat → Int32) => hn_isid x) (fun (τ9 : Nat → Nat → Int32) t => hn_at D (hn_ty cI cL) (va_A ([] : va_W) sz) ([]) t) (va_A ([] : va_W) sz)) (vx_X (fun _ : Nat → Nat → Int32 => True) (fun E (τ9 : Nat → Nat → Int32) t => (E = "java/lang/IllegalArgumentException" ∧ ¬ hn_isid x) ∧ hn_at D (hn_ty cI cL) (va_A ([] : va_W) sz) ([]) t) (va_A ([] : va_W) sz)) 1 6 (va_A ([] : va_W) sz) := by
  refine vx_ofW (cc := cX_requireId) (maxL := 1) (ret := none) (by decide) rfl ?_
  intro p e s m args below meth c s₁ B hml htab hv
  obtain ⟨rfl, hsz, hP, hK, hD0, hz0, hG⟩ := hv
  subst hsz
  have hD := hD0.self (sz := s.heap.size)
  have hAz := hn_Az hD0 hz0
  generalize hAe : va_A ([] : va_W) s.heap.size = A at hD hAz ⊢
  have hA : ∀ q : Nat, s.heap.size ≤ q → A q := fun q h => by rw [← hAe]; exact Or.inr h
  have hS : va_S A s.heap s.heap [] := va_S.rf
  have hP : va_P D vwCl ([] : va_W) s.heap := hP
  have hx := B.exec
  have hb := B.bytes
  have hr := B.returns
  have hts0 := atoms_spec (ws := wX_requireId) B.pre
  have hts : ∀ w ∈ hn_tb, w.before _ s = true := fun w hw => hts0 w (List.mem_cons_of_mem _ hw)
  have hown : s.vm.findClass RX = some m.cls := findClass_of_methodNamed B.named
  have hlocks := B.notSynchronized
  have hl := lv_entry [.int x] (n := 1) (Nat.le_of_ble_eq_true rfl)
  rw [lg_entry_eq]
  generalize (lg_sl [.int x] ++ List.replicate (1 - (lg_sl [.int x]).length) Slot.unset).toArray = ls at hl ⊢
  have hl : lv_has ls 1 [(0, .int x)] := hl
  refine lv_iload_n hx hb dX_requireId_0 rfl (lv_at hl 0 rfl) ?_
  refine lv_iconst (v := 1) hx hb dX_requireId_1 (by decide) ?_
  refine lv_icmp_lt (tgt := 11) hx hb dX_requireId_2 (by decide) (fun c_3 => ?_) (fun c_3 => ?_)
  · skip
    exact hn_throwA hx hb hl0 hts hown hG hAz hS (hl.1.trans hml.symm) (is := 109) (text := "no such id") (by decide +kernel) dX_requireId_11 dX_requireId_14 dX_requireId_15 dX_requireId_17 dX_requireId_20 htab (Nat.le_of_ble_eq_true rfl) (Nat.le_of_ble_eq_true rfl) (Nat.le_of_ble_eq_true rfl) (Nat.le_of_ble_eq_true rfl) hlocks (fun t9 ha9 g1 g2 => ⟨(fun _ _ => 0), trivial, ⟨⟨rfl, fun z => hn_id_no1 c_3 z⟩, (hn_xcT hP hK hD hS ha9 g1 g2).1⟩, (hn_xcT hP hK hD hS ha9 g1 g2).2⟩) hS.2.2 (Nat.le_of_ble_eq_true rfl) (Nat.le_of_ble_eq_true rfl)
  · skip
    refine lv_iload_n hx hb dX_requireId_5 rfl (lv_at hl 0 rfl) ?_
    refine lv_ldc (v := 65535) hx hb hown (hts _ mX_k_65535) dX_requireId_6 ?_
    refine lv_icmp_le (tgt := 21) hx hb dX_requireId_8 (by decide) (fun c_4 => ?_) (fun c_4 => ?_)
    · skip
      refine vx_ret ?_
      refine W.widen (k := 1) (n := 6) (Nat.le_of_ble_eq_true rfl) (Nat.le_of_ble_eq_true rfl) ?_
      exact W.vret hx hb hr (fun t9 ht9 hW9 => ⟨⟨(fun _ _ => 0), rfl, hn_id_yes c_3 c_4, by rw [ht9]; exact hP, va_K.moved hW9.alike hK, hD⟩, hS.F ht9⟩) hS.2.2 dX_requireId_21
    · skip
      exact hn_throwA hx hb hl0 hts hown hG hAz hS (hl.1.trans hml.symm) (is := 109) (text := "no such id") (by decide +kernel) dX_requireId_11 dX_requireId_14 dX_requireId_15 dX_requireId_17 dX_requireId_20 htab (Nat.le_of_ble_eq_true rfl) (Nat.le_of_ble_eq_true rfl) (Nat.le_of_ble_eq_true rfl) (Nat.le_of_ble_eq_true rfl) hlocks (fun t9 ha9 g1 g2 => ⟨(fun _ _ => 0), trivial, ⟨⟨rfl, fun z => hn_id_no2 c_4 z⟩, (hn_xcT hP hK hD hS ha9 g1 g2).1⟩, (hn_xcT hP hK hD hS ha9 g1 g2).2⟩) hS.2.2 (Nat.le_of_ble_eq_true rfl) (Nat.le_of_ble_eq_true rfl)

set_option maxHeartbeats 4000000 in
set_option maxRecDepth 100000 in
theorem cX_takeKey_ok (l : Launch) (hl0 : l.stackTraces = false) (D : va_G) (cI cL : ClassId) (z0 : Nat) (sa : Nat → Nat) (ad : Nat → Nat) (σ : Nat → Nat → Int32) (h : Nat → Nat) (hhd : ∀ k, k < 20 → hn_by (σ 1) k = h k) (n9 : Int32) (sz : Nat) : vx_Met l yX_takeKey wX_takeKey ({ frames := 6, cells := 1, slots := 6, locals := 82 }) (hn_PX D (hn_ty cI cL) (hn_wX ad cI (σ) : va_W) sz z0 sa [.ref (ad 0), .int n9]) (va_Qv (fun (τ9 : Nat → Nat → Int32) => ∃ (n7 : Nat) (k9 : Nat → Int32), n9 = nI n7 ∧ 1 ≤ n7 ∧ n7 ≤ 20 ∧ (∀ k, k < n7 → h k ≠ 0 ∧ h k ≠ 47) ∧ τ9 = hn_up σ 2 k9 ∧ hn_nm k9 0 = hn_num h n7) (fun (τ9 : Nat → Nat → Int32) t => hn_at D (hn_ty cI cL) (va_A (hn_wX ad cI (σ) : va_W) sz) (hn_wX ad cI (τ9)) t) (va_A (hn_wX ad cI (σ) : va_W) sz)) (vx_X (fun _ : Nat → Nat → Int32 => True) (fun E (τ9 : Nat → Nat → Int32) t => (E = "java/lang/IllegalArgumentException" ∧ ¬ hn_name h n9 ∧ τ9 = σ) ∧ hn_at D (hn_ty cI cL) (va_A (hn_wX ad cI (σ) : va_W) sz) (hn_wX ad cI (τ9)) t) (va_A (hn_wX ad cI (σ) : va_W) sz)) 1 6 (va_A (hn_wX ad cI (σ) : va_W) sz) := by
  refine vx_ofW (cc := cX_takeKey) (maxL := 4) (ret := none) (by decide) rfl ?_
  intro p e s m args below meth c s₁ B hml htab hv
  obtain ⟨rfl, hsz, hP, hK, hD0, hz0, hG⟩ := hv
  subst hsz
  have hD := hD0.self (sz := s.heap.size)
  have hAz := hn_Az hD0 hz0
  generalize hAe : va_A (hn_wX ad cI (σ) : va_W) s.heap.size = A at hD hAz ⊢
  have hA : ∀ q : Nat, s.heap.size ≤ q → A q := fun q h => by rw [← hAe]; exact Or.inr h
  have hS : va_S A s.heap s.heap [] := va_S.rf
  have hP : va_P D vwCl (hn_wX ad cI (σ) : va_W) s.heap := hP
  have hx := B.exec
  have hb := B.bytes
  have hr := B.returns
  have hts0 := atoms_spec (ws := wX_takeKey) B.pre
  have hts : ∀ w ∈ hn_tb, w.before _ s = true := fun w hw => hts0 w (List.mem_cons_of_mem _ hw)
  have hown : s.vm.findClass RX = some m.cls := findClass_of_methodNamed B.named
  have hlocks := B.notSynchronized
  have hl := lv_entry [.ref (ad 0), .int n9] (n := 4) (Nat.le_of_ble_eq_true rfl)
  rw [lg_entry_eq]
  generalize (lg_sl [.ref (ad 0), .int n9] ++ List.replicate (4 - (lg_sl [.ref (ad 0), .int n9]).length) Slot.unset).toArray = ls at hl ⊢
  have hl : lv_has ls 4 [(0, .ref (ad 0)), (1, .int n9)] := hl
  refine lv_iload_n hx hb dX_takeKey_0 rfl (lv_at hl 1 rfl) ?_
  refine lv_iconst (v := 1) hx hb dX_takeKey_1 (by decide) ?_
  refine lv_icmp_lt (tgt := 11) hx hb dX_takeKey_2 (by decide) (fun c_5 => ?_) (fun c_5 => ?_)
  · skip
    exact hn_throwA hx hb hl0 hts hown hG hAz hS (hl.1.trans hml.symm) (is := 111) (text := "no name has such a length") (by decide +kernel) dX_takeKey_11 dX_takeKey_14 dX_takeKey_15 dX_takeKey_17 dX_takeKey_20 htab (Nat.le_of_ble_eq_true rfl) (Nat.le_of_ble_eq_true rfl) (Nat.le_of_ble_eq_true rfl) (Nat.le_of_ble_eq_true rfl) hlocks (fun t9 ha9 g1 g2 => ⟨σ, trivial, ⟨⟨rfl, hn_name_no1 (hn_lt1 c_5), rfl⟩, (hn_xcT hP hK hD hS ha9 g1 g2).1⟩, (hn_xcT hP hK hD hS ha9 g1 g2).2⟩) hS.2.2 (Nat.le_of_ble_eq_true rfl) (Nat.le_of_ble_eq_true rfl)
  · skip
    refine lv_iload_n hx hb dX_takeKey_5 rfl (lv_at hl 1 rfl) ?_
    refine lv_bipush (v := 20) hx hb dX_takeKey_6 (by decide) ?_
    refine lv_icmp_le (tgt := 21) hx hb dX_takeKey_8 (by decide) (fun c_6 => ?_) (fun c_6 => ?_)
    · skip
      obtain ⟨n, en, h1, h2⟩ := hn_name_r (hn_nle0 c_5) (hn_nge21 c_6)
      subst en
      refine lv_iconst (v := 0) hx hb dX_takeKey_21 (by decide) ?_
      refine lv_istore_n (lv' := [(2, .int 0), (0, .ref (ad 0)), (1, .int (nI n))]) hx hb dX_takeKey_22 rfl hl (by decide) rfl (fun ls hl => ?_)
      suffices loop : ∀ (f i : Nat), i + f = n → (∀ j, j < i → h j ≠ 0 ∧ h j ≠ 47) → ∀ ls : Array Slot, lv_has ls 4 [(0, .ref (ad 0)), (1, .int (nI n)), (2, .int (nI i))] → W p l e (headSpec wX_takeKey ({ frames := 6, cells := 1, slots := 6, locals := 82 })).room s m [.ref (ad 0), .int (nI n)].toArray below meth c s.heap [] 0 0 (vx_MQ below (va_Qv (fun (τ9 : Nat → Nat → Int32) => ∃ (n7 : Nat) (k9 : Nat → Int32), (nI n) = nI n7 ∧ 1 ≤ n7 ∧ n7 ≤ 20 ∧ (∀ k, k < n7 → h k ≠ 0 ∧ h k ≠ 47) ∧ τ9 = hn_up σ 2 k9 ∧ hn_nm k9 0 = hn_num h n7) (fun (τ9 : Nat → Nat → Int32) t => hn_at D (hn_ty cI cL) A (hn_wX ad cI (τ9)) t) A) (vx_X (fun _ : Nat → Nat → Int32 => True) (fun E (τ9 : Nat → Nat → Int32) t => (E = "java/lang/IllegalArgumentException" ∧ ¬ hn_name h (nI n) ∧ τ9 = σ) ∧ hn_at D (hn_ty cI cL) A (hn_wX ad cI (τ9)) t) A) [.ref (ad 0), .int (nI n)].toArray s 1 6 A) (F0 m 23 ls []) from loop n 0 (Nat.zero_add _) (fun j z => absurd z (Nat.not_lt_zero _)) ls (lv_sub hl [1, 2, 0] rfl)
      intro f
      induction f with
      | zero =>
        intro i hf hj ls hl
        have hf : n = i := by omega
        subst hf
        refine lv_iload_n hx hb dX_takeKey_23 rfl (lv_at hl 2 rfl) ?_
        refine lv_iload_n hx hb dX_takeKey_24 rfl (lv_at hl 1 rfl) ?_
        refine lv_icmp_ge (tgt := 63) hx hb dX_takeKey_25 (by decide) (fun c_7 => ?_) (fun c_7 => absurd (Int32.le_refl _) c_7)
        refine lv_iconst (v := 0) hx hb dX_takeKey_63 (by decide) ?_
        refine lv_istore_n (lv' := [(2, .int 0), (0, .ref (ad 0)), (1, .int (nI n))]) hx hb dX_takeKey_64 rfl hl (by decide) rfl (fun ls hl => ?_)
        suffices loop2 : ∀ (f k : Nat) (σ3 : Nat → Nat → Int32) (H : Heap) (locs : List Loc), k + f = 5 → va_P D vwCl (hn_wX ad cI σ3) H → va_D A (hn_wX ad cI σ3) → va_S A s.heap H locs → (∃ k9 : Nat → Int32, σ3 = hn_up σ 2 k9 ∧ ∀ j, j < k → k9 j = hn_cut (σ 1) n j) → ∀ ls : Array Slot, lv_has ls 4 [(0, .ref (ad 0)), (1, .int (nI n)), (2, .int (nI k))] → W p l e (headSpec wX_takeKey ({ frames := 6, cells := 1, slots := 6, locals := 82 })).room s m [.ref (ad 0), .int (nI n)].toArray below meth c H locs 0 0 (vx_MQ below (va_Qv (fun (τ9 : Nat → Nat → Int32) => ∃ (n7 : Nat) (k9 : Nat → Int32), (nI n) = nI n7 ∧ 1 ≤ n7 ∧ n7 ≤ 20 ∧ (∀ k, k < n7 → h k ≠ 0 ∧ h k ≠ 47) ∧ τ9 = hn_up σ 2 k9 ∧ hn_nm k9 0 = hn_num h n7) (fun (τ9 : Nat → Nat → Int32) t => hn_at D (hn_ty cI cL) A (hn_wX ad cI (τ9)) t) A) (vx_X (fun _ : Nat → Nat → Int32 => True) (fun E (τ9 : Nat → Nat → Int32) t => (E = "java/lang/IllegalArgumentException" ∧ ¬ hn_name h (nI n) ∧ τ9 = σ) ∧ hn_at D (hn_ty cI cL) A (hn_wX ad cI (τ9)) t) A) [.ref (ad 0), .int (nI n)].toArray s 1 6 A) (F0 m 65 ls []) from loop2 5 0 σ _ _ rfl hP hD hS ⟨σ 2, hn_upself σ 2, fun j z => absurd z (Nat.not_lt_zero _)⟩ ls (lv_sub hl [1, 2, 0] rfl)
        intro f
        induction f with
        | zero =>
          intro k σ3 H locs hf hP hD hS hI ls hl
          have hf : k = 5 := hf
          subst hf
          refine lv_iload_n hx hb dX_takeKey_65 rfl (lv_at hl 2 rfl) ?_
          refine lv_iconst (v := 5) hx hb dX_takeKey_66 (by decide) ?_
          refine lv_icmp_ge (tgt := 97) hx hb dX_takeKey_67 (by decide) (fun c_8 => ?_) (fun c_8 => absurd (show (5 : Int32) ≤ nI 5 by decide) c_8)
          obtain ⟨k9, e9, hc9⟩ := hI
          refine vx_ret ?_
          refine W.widen (k := 1) (n := 6) (Nat.le_of_ble_eq_true rfl) (Nat.le_of_ble_eq_true rfl) ?_
          exact W.vret hx hb hr (fun t9 ht9 hW9 => ⟨⟨σ3, rfl, ⟨n, k9, rfl, h1, h2, hj, e9, hn_key hhd h2 hc9⟩, by rw [ht9]; exact hP, va_K.moved hW9.alike hK, hD⟩, hS.F ht9⟩) hS.2.2 dX_takeKey_97
        | succ f ih2 =>
          intro k σ3 H locs hf hP hD hS hI ls hl
          refine lv_iload_n hx hb dX_takeKey_65 rfl (lv_at hl 2 rfl) ?_
          refine lv_iconst (v := 5) hx hb dX_takeKey_66 (by decide) ?_
          refine lv_icmp_ge (tgt := 97) hx hb dX_takeKey_67 (by decide) (fun c_9 => absurd c_9 (nI_ge (a := k) (b := 5) (by omega) (by decide))) (fun c_9 => ?_)
          obtain ⟨k9, e9, hc9⟩ := hI
          refine lv_aload_n hx hb dX_takeKey_70 rfl (lv_at hl 0 rfl) ?_
          refine va_get (D := D) (ci := 0) (v := .ref (ad 2)) (C := RX) (T := FX) (N := 10) hx hb hts iX hown hK hP 0 rfl rfl 1 (by decide) (hts _ mX_f_key) (fun _ h9 => h9) rfl dX_takeKey_71 ?_
          refine lv_iload_n hx hb dX_takeKey_74 rfl (lv_at hl 2 rfl) ?_
          refine lv_aload_n hx hb dX_takeKey_75 rfl (lv_at hl 0 rfl) ?_
          refine va_get (D := D) (ci := 0) (v := .ref (ad 1)) (C := RX) (T := FX) (N := 10) hx hb hts iX hown hK hP 0 rfl rfl 0 (by decide) (hts _ mX_f_hand) (fun _ h9 => h9) rfl dX_takeKey_76 ?_
          refine lv_iload_n hx hb dX_takeKey_79 rfl (lv_at hl 2 rfl) ?_
          refine va_iald hx hb hK hP 1 0 rfl rfl (vp_in_nI (show k < 5 from by omega) (by omega)) dX_takeKey_80 ?_
          rw [nI_clamp (show k < 2 ^ 31 by omega)]
          rw [show σ3 1 k = σ 1 k from by rw [e9]; rfl]
          refine lv_iload_n hx hb dX_takeKey_81 rfl (lv_at hl 1 rfl) ?_
          refine lv_iload_n hx hb dX_takeKey_82 rfl (lv_at hl 2 rfl) ?_
          refine lv_iconst (v := 4) hx hb dX_takeKey_83 (by decide) ?_
          refine lv_imul hx hb dX_takeKey_84 ?_
          rw [show ((nI k) * 4 : Int32) = nI (4 * k) from by rw [show (4 : Int32) = nI 4 from rfl, pk_mul, Nat.mul_comm]]
          refine lv_isub hx hb dX_takeKey_85 ?_
          refine W.callR (W.runS (As := [.int ((nI n) - (nI (4 * k)))]) (rest := [.int (σ 1 k), .int (nI k), .ref (ad 2)]) ⟨hx, hb, hml, hown, hts⟩ (cX_maskOfFirst_ok l (nI n - nI (4 * k))) (cwS 1 hts gX_X_maskOfFirst rfl rfl rfl (by decide +kernel) ⟨Nat.le_of_ble_eq_true rfl, Nat.le_of_ble_eq_true rfl⟩) hn_pre0 rfl rfl hl.1 rfl (lv_room (Nat.le_of_ble_eq_true rfl)) dX_takeKey_86 ⟨Nat.zero_le _, Nat.zero_le _⟩) ?_
          refine W.eq (g2 := F0 m 89 ls [.int (hn_mask (nI n - nI (4 * k))), .int (σ 1 k), .int (nI k), .ref (ad 2)]) rfl ?_
          refine lv_iand hx hb dX_takeKey_89 ?_
          refine va_iast hx hb hK hP hD hS 2 0 rfl rfl (vp_in_nI (show k < 5 from by omega) (by omega)) dX_takeKey_90 (fun H locs hP hD hS => ?_)
          rw [nI_clamp (show k < 2 ^ 31 by omega)] at hP hD
          obtain ⟨σ4, eσ4⟩ : ∃ z : Nat → Nat → Int32, z = hn_up (σ3) 2 (upd (σ3 2) k ((σ 1 k) &&& (hn_mask (nI n - nI (4 * k))))) := ⟨_, rfl⟩
          have hP : va_P D vwCl (hn_wX ad cI (σ4)) H := by rw [eσ4]; exact hP
          have hD : va_D A (hn_wX ad cI (σ4)) := by rw [eσ4]; exact hD
          refine lv_iinc (v := nI (k + 1)) (lv' := [(2, .int (nI (k + 1))), (0, .ref (ad 0)), (1, .int (nI n))]) hx hb dX_takeKey_91 hl (k := 2) rfl (nI_1 k) (by decide) rfl (fun ls hl => ?_)
          refine lv_goto (tgt := 65) hx hb dX_takeKey_94 (by decide) ?_
          exact ih2 (k + 1) σ4 H locs (by omega) hP hD hS ⟨upd k9 k (hn_cut (σ 1) n k), by rw [eσ4, e9]; exact hn_upup _ _ _ _, fun j hj2 => hn_sy1 hc9 hj2⟩ ls (lv_sub hl [1, 2, 0] rfl)
      | succ f ih =>
        intro i hf hj ls hl
        refine lv_iload_n hx hb dX_takeKey_23 rfl (lv_at hl 2 rfl) ?_
        refine lv_iload_n hx hb dX_takeKey_24 rfl (lv_at hl 1 rfl) ?_
        refine lv_icmp_ge (tgt := 63) hx hb dX_takeKey_25 (by decide) (fun c_10 => absurd c_10 (nI_ge (a := i) (b := n) (by omega) (by omega))) (fun c_10 => ?_)
        have hb9 := hn_by_lt (σ 1) i
        refine lv_aload_n hx hb dX_takeKey_28 rfl (lv_at hl 0 rfl) ?_
        refine va_get (D := D) (ci := 0) (v := .ref (ad 1)) (C := RX) (T := FX) (N := 10) hx hb hts iX hown hK hP 0 rfl rfl 0 (by decide) (hts _ mX_f_hand) (fun _ h9 => h9) rfl dX_takeKey_29 ?_
        refine lv_iload_n hx hb dX_takeKey_32 rfl (lv_at hl 2 rfl) ?_
        refine W.callR (W.runS (As := [.ref (ad 1), .int (nI i)]) (rest := []) ⟨hx, hb, hml, hown, hts⟩ (cX_byteOf_ok l D cI cL (hn_wX ad cI σ) 1 5 (ad 1) (σ 1) rfl (by decide) (by decide) i (by omega)) (cwS 2 hts gX_X_byteOf rfl rfl rfl (by decide +kernel) ⟨Nat.le_of_ble_eq_true rfl, Nat.le_of_ble_eq_true rfl⟩) (hn_preS hP hK) rfl rfl hl.1 rfl (lv_room (Nat.le_of_ble_eq_true rfl)) dX_takeKey_33 ⟨Nat.zero_le _, Nat.zero_le _⟩) ?_
        refine W.eq (g2 := F0 m 36 ls [.int (nI (hn_by (σ 1) i))]) rfl ?_
        rw [show (nI (hn_by (σ 1) i) : Int32) = nI (h i) from congrArg nI (hhd i (by omega))]
        rw [hhd i (by omega)] at hb9
        refine lv_istore_n (lv' := [(3, .int (nI (h i))), (0, .ref (ad 0)), (1, .int (nI n)), (2, .int (nI i))]) hx hb dX_takeKey_36 rfl hl (by decide) rfl (fun ls hl => ?_)
        refine lv_iload_n hx hb dX_takeKey_37 rfl (lv_at hl 0 rfl) ?_
        refine lv_if_eq (tgt := 47) hx hb dX_takeKey_38 (by decide) (fun c_11 => ?_) (fun c_11 => ?_)
        · skip
          exact hn_throwA hx hb hl0 hts hown hG hAz hS (hl.1.trans hml.symm) (is := 113) (text := "no name has such a byte") (by decide +kernel) dX_takeKey_47 dX_takeKey_50 dX_takeKey_51 dX_takeKey_53 dX_takeKey_56 htab (Nat.le_of_ble_eq_true rfl) (Nat.le_of_ble_eq_true rfl) (Nat.le_of_ble_eq_true rfl) (Nat.le_of_ble_eq_true rfl) hlocks (fun t9 ha9 g1 g2 => ⟨σ, trivial, ⟨⟨rfl, hn_name_no3 (k := i) h2 (by omega) (Or.inl ((hn_b0 hb9).mp c_11)), rfl⟩, (hn_xcT hP hK hD hS ha9 g1 g2).1⟩, (hn_xcT hP hK hD hS ha9 g1 g2).2⟩) hS.2.2 (Nat.le_of_ble_eq_true rfl) (Nat.le_of_ble_eq_true rfl)
        · skip
          refine lv_iload_n hx hb dX_takeKey_41 rfl (lv_at hl 0 rfl) ?_
          refine lv_bipush (v := 47) hx hb dX_takeKey_42 (by decide) ?_
          refine lv_icmp_ne (tgt := 57) hx hb dX_takeKey_44 (by decide) (fun c_12 => ?_) (fun c_12 => ?_)
          · skip
            refine lv_iinc (v := nI (i + 1)) (lv' := [(2, .int (nI (i + 1))), (3, .int (nI (h i))), (0, .ref (ad 0)), (1, .int (nI n))]) hx hb dX_takeKey_57 hl (k := 3) rfl (nI_1 i) (by decide) rfl (fun ls hl => ?_)
            refine lv_goto (tgt := 23) hx hb dX_takeKey_60 (by decide) ?_
            exact ih (i + 1) (by omega) (lt_s hj ⟨fun z => c_11 ((hn_b0 hb9).mpr z), fun z => c_12 ((hn_b47 hb9).mpr z)⟩) ls (lv_sub hl [2, 3, 0] rfl)
          · skip
            exact hn_throwA hx hb hl0 hts hown hG hAz hS (hl.1.trans hml.symm) (is := 113) (text := "no name has such a byte") (by decide +kernel) dX_takeKey_47 dX_takeKey_50 dX_takeKey_51 dX_takeKey_53 dX_takeKey_56 htab (Nat.le_of_ble_eq_true rfl) (Nat.le_of_ble_eq_true rfl) (Nat.le_of_ble_eq_true rfl) (Nat.le_of_ble_eq_true rfl) hlocks (fun t9 ha9 g1 g2 => ⟨σ, trivial, ⟨⟨rfl, hn_name_no3 (k := i) h2 (by omega) (Or.inr ((hn_b47 hb9).mp c_12)), rfl⟩, (hn_xcT hP hK hD hS ha9 g1 g2).1⟩, (hn_xcT hP hK hD hS ha9 g1 g2).2⟩) hS.2.2 (Nat.le_of_ble_eq_true rfl) (Nat.le_of_ble_eq_true rfl)
    · skip
      exact hn_throwA hx hb hl0 hts hown hG hAz hS (hl.1.trans hml.symm) (is := 111) (text := "no name has such a length") (by decide +kernel) dX_takeKey_11 dX_takeKey_14 dX_takeKey_15 dX_takeKey_17 dX_takeKey_20 htab (Nat.le_of_ble_eq_true rfl) (Nat.le_of_ble_eq_true rfl) (Nat.le_of_ble_eq_true rfl) (Nat.le_of_ble_eq_true rfl) hlocks (fun t9 ha9 g1 g2 => ⟨σ, trivial, ⟨⟨rfl, hn_name_no2 (hn_lt21 c_6), rfl⟩, (hn_xcT hP hK hD hS ha9 g1 g2).1⟩, (hn_xcT hP hK hD hS ha9 g1 g2).2⟩) hS.2.2 (Nat.le_of_ble_eq_true rfl) (Nat.le_of_ble_eq_true rfl)
end
section
/-! the class's operations on the directories: pure -/
section
def hn_exc (E : String) (c : Nat) : Prop := (E = "java/lang/IllegalArgumentException" ∧ c = 1) ∨ (E = "java/lang/IllegalStateException" ∧ c = 2)
def hn_XL (σ : Nat → Nat → Int32) (D : Nat → List hn_E) (L : Nat → List Nat) : Prop := ∀ d, d < 8 → D d = (L d).map (hn_ent σ) ∧ ∀ s ∈ L d, σ 5 s = nI (σ 5 s).toNatClampNeg
def hn_XH (σ : Nat → Nat → Int32) (h : Nat → Nat) (tn TK : Nat) : Prop := (∀ k, k < 20 → hn_by (σ 1) k = h k) ∧ σ 0 0 = nI tn ∧ tn ≤ 20 ∧ (∀ k, k < tn → hn_by (σ 3) k = hn_kb TK k)
theorem hn_XR_of {σ : Nat → Nat → Int32} {h : Nat → Nat} {D : Nat → List hn_E} {tn TK : Nat} {L B : Nat → List Nat} (hI : hn_I σ L B) (hL : hn_XL σ D L) (hH : hn_XH σ h tn TK) : hn_XR σ h D tn TK := ⟨L, B, hI, hL, hH⟩
theorem hn_XR_to {σ : Nat → Nat → Int32} {h : Nat → Nat} {D : Nat → List hn_E} {tn TK : Nat} (hx : hn_XR σ h D tn TK) : ∃ L B, hn_I σ L B ∧ hn_XL σ D L ∧ hn_XH σ h tn TK := by
  obtain ⟨L, B, hI, hL, a1, a2, a3, a4⟩ := hx
  exact ⟨L, B, hI, hL, a1, a2, a3, a4⟩
theorem hn_XH_keep {σ σ' : Nat → Nat → Int32} {h : Nat → Nat} {tn TK : Nat} (hx : hn_XH σ h tn TK) (h0 : σ' 0 = σ 0) (h1 : σ' 1 = σ 1) (h3 : σ' 3 = σ 3) : hn_XH σ' h tn TK := by
  unfold hn_XH at *
  rw [h0, h1, h3]
  exact hx
theorem hn_XL_len {σ : Nat → Nat → Int32} {D : Nat → List hn_E} {L : Nat → List Nat} (h : hn_XL σ D L) {d : Nat} (hd : d < 8) : (D d).length = (L d).length := by rw [(h d hd).1, List.length_map]
theorem hn_XR_cnt {σ : Nat → Nat → Int32} {h : Nat → Nat} {D : Nat → List hn_E} {tn TK : Nat} (hx : hn_XR σ h D tn TK) {d : Nat} (hd : d < 8) : σ 7 d = nI (D d).length := by
  obtain ⟨L, B, hI, hL, -⟩ := hn_XR_to hx
  rw [hn_XL_len hL hd]
  exact (hI.1 d hd).2.2.2
theorem hn_XL_has {σ : Nat → Nat → Int32} {D : Nat → List hn_E} {L : Nat → List Nat} (h : hn_XL σ D L) {d K : Nat} (hd : d < 8) : hn_has K (D d) ↔ ∃ s ∈ L d, hn_ns σ s = K := by
  rw [(h d hd).1]
  exact hn_map_has (hn_ent1 σ)
theorem hn_XL_at {σ : Nat → Nat → Int32} {D : Nat → List hn_E} {L B : Nat → List Nat} (hI : hn_I σ L B) (h : hn_XL σ D L) {d K s : Nat} (hd : d < 8) (hs : s ∈ L d) (hK : hn_ns σ s = K) : (D d).getD (hn_pc K (D d)) hn_e0 = hn_ent σ s := by
  rw [(h d hd).1]
  exact hn_map_at (hn_ent1 σ) (hI.1 d hd).2.1 hs hK
theorem hn_XL_keep {σ σ' : Nat → Nat → Int32} {D : Nat → List hn_E} {L : Nat → List Nat} (h : hn_XL σ D L) (h4 : σ' 4 = σ 4) (h5 : σ' 5 = σ 5) (h6 : σ' 6 = σ 6) : hn_XL σ' D L := by
  intro d hd
  have e : hn_ent σ' = hn_ent σ := by
    funext s
    unfold hn_ent hn_ns
    rw [h4, h5, h6]
  rw [e, h5]
  exact h d hd
theorem hn_chg_X {σ σ' : Nat → Nat → Int32} {D : Nat → List hn_E} {L B : Nat → List Nat} {d t K : Nat} {x : Int32} (hI : hn_I σ L B) (hL : hn_XL σ D L) (hd : d < 8) (ht : t ∈ L d) (hK : hn_ns σ t = K) (h4 : σ' 4 = σ 4) (h5 : σ' 5 = σ 5) (h6 : σ' 6 = upd (σ 6) t x) (h7 : σ' 7 = σ 7) (h8 : σ' 8 = σ 8) (h9 : σ' 9 = σ 9) :
    hn_I σ' L B ∧ hn_XL σ' (hn_ud D d (hn_ec K x (D d))) L := by
  refine ⟨hn_I_keep hI h4 h5 h7 h8 h9, fun d' hd' => ⟨?_, by rw [h5]; exact (hL d' hd').2⟩⟩
  have e1 : ∀ s, s ≠ t → hn_ent σ' s = hn_ent σ s := fun s hs => by
    unfold hn_ent hn_ns
    rw [h4, h5, h6, pk_un hs]
  by_cases e : d' = d
  · subst e
    rw [hn_ud_s, (hL d' hd).1]
    refine (hn_map_chg (hn_ent1 σ) hK ?_ e1 (hI.1 d' hd).2.1 ht).symm
    unfold hn_ent hn_ns
    rw [h4, h5, h6, pk_us]
  · rw [hn_ud_n e, (hL d' hd').1]
    refine List.map_congr_left (fun s hs => (e1 s (fun z => ?_)).symm)
    have a := hI.L hd' s hs
    have b := hI.L hd t ht
    rw [z] at a
    omega
theorem hn_rem_X {σ σ' : Nat → Nat → Int32} {D : Nat → List hn_E} {L B : Nat → List Nat} {d t K j : Nat} (hI : hn_I σ L B) (hL : hn_XL σ D L) (hd : d < 8) (ht : t ∈ L d) (hK : hn_ns σ t = K) (hj : j = 16 * d + hn_bk (σ 4) (5 * t)) (h4 : σ' 4 = σ 4) (h5 : σ' 5 = upd (σ 5) t 0) (h6 : σ' 6 = σ 6)
    (h7 : σ' 7 = upd (σ 7) d (nI ((L d).length - 1))) (h8 : σ' 8 = upd (σ 8) (hn_pl (hn_ns σ) K (384 + j) (B j)) (σ 8 t)) (h9 : σ' 9 = upd (σ 9) (hn_pl (hn_ns σ) K (384 + d) (L d)) (σ 9 t)) :
    hn_I σ' (hn_ul L d (hn_rmv t (L d))) (hn_ul B j (hn_rmv t (B j))) ∧ hn_XL σ' (hn_ud D d (hn_er K (D d))) (hn_ul L d (hn_rmv t (L d))) := by
  refine ⟨hn_rem_I hI hd ht hK hj h4 h5 h7 h8 h9, fun d' hd' => ?_⟩
  have e1 : ∀ s, s ≠ t → hn_ent σ' s = hn_ent σ s := fun s hs => by
    unfold hn_ent hn_ns
    rw [h4, h5, h6, pk_un hs]
  have e5 : ∀ s, s ≠ t → σ' 5 s = σ 5 s := fun s hs => by rw [h5, pk_un hs]
  by_cases e : d' = d
  · subst e
    rw [hn_ud_s, hn_ul_s, (hL d' hd).1, ← hn_map_rmv (hn_ent1 σ) hK (hI.1 d' hd).2.1 ht]
    have nd := hn_srt_nd (hI.1 d' hd).2.1
    refine ⟨List.map_congr_left (fun s hs => (e1 s ((hn_rmv_mem nd).mp hs).2).symm), fun s hs => ?_⟩
    obtain ⟨g1, g2⟩ := (hn_rmv_mem nd).mp hs
    rw [e5 s g2]
    exact (hL d' hd).2 s g1
  · have hne : ∀ s ∈ L d', s ≠ t := fun s hs z => by
      have a := hI.L hd' s hs
      have b := hI.L hd t ht
      rw [z] at a
      omega
    rw [hn_ud_n e, hn_ul_n e, (hL d' hd').1]
    refine ⟨List.map_congr_left (fun s hs => (e1 s (hne s hs)).symm), fun s hs => ?_⟩
    rw [e5 s (hne s hs)]
    exact (hL d' hd').2 s hs
theorem hn_add_X {σ σ' : Nat → Nat → Int32} {D : Nat → List hn_E} {L B : Nat → List Nat} {d t K j n : Nat} {key : Nat → Int32} {x : Int32} (hI : hn_I σ L B) (hL : hn_XL σ D L) (hd : d < 8) (hs : 48 * d ≤ t ∧ t < 48 * d + 48) (htL : t ∉ L d) (hK : hn_nm key 0 = K) (hno : ∀ s ∈ L d, hn_ns σ s ≠ K) (hj : j = 16 * d + hn_bk key 0) (hn1 : 1 ≤ n) (hn2 : n ≤ 20)
    (h4a : ∀ i, i < 5 → σ' 4 (5 * t + i) = key i) (h4b : ∀ q, ¬ (5 * t ≤ q ∧ q < 5 * t + 5) → σ' 4 q = σ 4 q) (h5 : σ' 5 = upd (σ 5) t (nI n)) (h6 : σ' 6 = upd (σ 6) t x)
    (h7 : σ' 7 = upd (σ 7) d (nI ((L d).length + 1)))
    (h8 : σ' 8 = upd (upd (σ 8) t (σ 8 (hn_pl (hn_ns σ') K (384 + j) (B j)))) (hn_pl (hn_ns σ') K (384 + j) (B j)) (nI t))
    (h9 : σ' 9 = upd (upd (σ 9) t (σ 9 (hn_pl (hn_ns σ') K (384 + d) (L d)))) (hn_pl (hn_ns σ') K (384 + d) (L d)) (nI t)) :
    hn_I σ' (hn_ul L d (hn_ins (hn_ns σ') K t (L d))) (hn_ul B j (hn_ins (hn_ns σ') K t (B j))) ∧ hn_XL σ' (hn_ud D d (hn_ei (K, n, x) (D d))) (hn_ul L d (hn_ins (hn_ns σ') K t (L d))) := by
  have hw : ∀ s, s ≠ t → ∀ i, i < 5 → σ' 4 (5 * s + i) = σ 4 (5 * s + i) := fun s hs2 i hi => h4b _ (by omega)
  have hns : hn_ns σ' t = K := (hn_nm_of (w := σ' 4) (v := key) (b := 5 * t) (c := 0) (fun i hi => by rw [Nat.zero_add]; exact h4a i hi)).trans hK
  refine ⟨hn_add_I hI hd hs htL hK hno hj (nI_ne0 (by omega) (by omega)) h4a hw h5 h7 h8 h9, fun d' hd' => ?_⟩
  have e1 : ∀ s, s ≠ t → hn_ent σ' s = hn_ent σ s := fun s hs2 => by
    unfold hn_ent hn_ns
    rw [hn_nm_of (hw s hs2), h5, h6, pk_un hs2, pk_un hs2]
  have et : hn_ent σ' t = (K, n, x) := by
    unfold hn_ent
    rw [hns, h5, h6, pk_us, pk_us, nI_clamp (by omega)]
  have e5 : ∀ s, s ≠ t → σ' 5 s = σ 5 s := fun s hs2 => by rw [h5, pk_un hs2]
  have hne : ∀ s ∈ L d, s ≠ t := fun s hs2 z => htL (by rw [← z]; exact hs2)
  by_cases e : d' = d
  · subst e
    rw [hn_ud_s, hn_ul_s, (hL d' hd).1, hn_map_ins (en := hn_ent σ) (en' := hn_ent σ') (hn_ent1 σ') hns (fun s hs2 => e1 s (hne s hs2)), et]
    refine ⟨rfl, fun s hs2 => ?_⟩
    rcases hn_ins_mem.mp hs2 with z | hs2
    · rw [z, h5, pk_us, nI_clamp (by omega)]
    · rw [e5 s (hne s hs2)]
      exact (hL d' hd).2 s hs2
  · have hne2 : ∀ s ∈ L d', s ≠ t := fun s hs2 z => by
      have a := hI.L hd' s hs2
      rw [z] at a
      omega
    rw [hn_ud_n e, hn_ul_n e, (hL d' hd').1]
    refine ⟨List.map_congr_left (fun s hs2 => (e1 s (hne2 s hs2)).symm), fun s hs2 => ?_⟩
    rw [e5 s (hne2 s hs2)]
    exact (hL d' hd').2 s hs2
end
end
section
set_option maxHeartbeats 4000000 in
set_option maxRecDepth 100000 in
theorem cX_size_ok (l : Launch) (hl0 : l.stackTraces = false) (D : va_G) (cI cL : ClassId) (z0 : Nat) (sa : Nat → Nat) (ad : Nat → Nat) (σ : Nat → Nat → Int32) (d9 : Int32) (h : Nat → Nat) (D9 : Nat → List hn_E) (tn TK : Nat) (hXR : hn_XR σ h D9 tn TK) (hO : hn_DO D9)  (sz : Nat) : vx_Met l yX_size wX_size ({ frames := 7, cells := 1, slots := 6, locals := 102 }) (hn_PX D (hn_ty cI cL) (hn_wX ad cI (σ) : va_W) sz z0 sa [.ref (ad 0), .int d9]) (va_Qi (fun (r : Int32) (τ9 : Nat → Nat → Int32) => hn_sizeS D9 d9 0 r ∧ hn_XR τ9 h D9 tn TK) (fun (τ9 : Nat → Nat → Int32) t => hn_at D (hn_ty cI cL) (va_A (hn_wX ad cI (σ) : va_W) sz) (hn_wX ad cI (τ9)) t) (va_A (hn_wX ad cI (σ) : va_W) sz)) (vx_X (fun _ : Nat → Nat → Int32 => True) (fun E (τ9 : Nat → Nat → Int32) t => (∃ c : Nat, hn_exc E c ∧ hn_sizeS D9 d9 c 0 ∧ hn_XR τ9 h D9 tn TK) ∧ hn_at D (hn_ty cI cL) (va_A (hn_wX ad cI (σ) : va_W) sz) (hn_wX ad cI (τ9)) t) (va_A (hn_wX ad cI (σ) : va_W) sz)) 1 6 (va_A (hn_wX ad cI (σ) : va_W) sz) := by
  refine vx_ofW (cc := cX_size) (maxL := 2) (ret := (some .int)) (by decide) rfl ?_
  intro p e s m args below meth c s₁ B hml htab hv
  obtain ⟨rfl, hsz, hP, hK, hD0, hz0, hG⟩ := hv
  subst hsz
  have hD := hD0.self (sz := s.heap.size)
  have hAz := hn_Az hD0 hz0
  generalize hAe : va_A (hn_wX ad cI (σ) : va_W) s.heap.size = A at hD hAz ⊢
  have hA : ∀ q : Nat, s.heap.size ≤ q → A q := fun q h => by rw [← hAe]; exact Or.inr h
  have hS : va_S A s.heap s.heap [] := va_S.rf
  have hP : va_P D vwCl (hn_wX ad cI (σ) : va_W) s.heap := hP
  have hx := B.exec
  have hb := B.bytes
  have hr := B.returns
  have hts0 := atoms_spec (ws := wX_size) B.pre
  have hts : ∀ w ∈ hn_tb, w.before _ s = true := fun w hw => hts0 w (List.mem_cons_of_mem _ hw)
  have hown : s.vm.findClass RX = some m.cls := findClass_of_methodNamed B.named
  have hlocks := B.notSynchronized
  have hl := lv_entry [.ref (ad 0), .int d9] (n := 2) (Nat.le_of_ble_eq_true rfl)
  rw [lg_entry_eq]
  generalize (lg_sl [.ref (ad 0), .int d9] ++ List.replicate (2 - (lg_sl [.ref (ad 0), .int d9]).length) Slot.unset).toArray = ls at hl ⊢
  have hl : lv_has ls 2 [(0, .ref (ad 0)), (1, .int d9)] := hl
  have hhd : ∀ k, k < 20 → hn_by (σ 1) k = h k := by obtain ⟨L, B, -, -, hH⟩ := hn_XR_to hXR; exact hH.1
  refine lv_iload_n hx hb dX_size_0 rfl (lv_at hl 1 rfl) ?_
  have hP0 : va_P D vwCl ([] : va_W) s.heap := fun k q h => by cases h
  have hD00 : va_D (fun q => z0 ≤ q) ([] : va_W) := ⟨fun i j p q h => (by cases h), fun k q h => (by cases h)⟩
  refine vx_callv (vx_runS (As := [.int d9]) (rest := []) ⟨hx, hb, hml, hown, hts⟩ (cX_requireDirectory_ok l hl0 D cI cL z0 sa d9 _) (cwS 1 hts gX_X_requireDirectory rfl rfl rfl (by decide +kernel) ⟨(Nat.le_of_ble_eq_true rfl), (Nat.le_of_ble_eq_true rfl)⟩) (hn_preXS hP0 hK hD00 hz0 hG hS hAz) rfl rfl hl.1 rfl (lv_room (Nat.le_of_ble_eq_true rfl)) dX_size_1 ⟨(Nat.le_of_ble_eq_true rfl), (Nat.le_of_ble_eq_true rfl)⟩) hS (fun q h1 h2 => (hn_A0 h1 h2).elim) (fun q h => hn_A1 hA hS h) (fun q h1 h2 => (hn_A0 h1 h2).elim) (fun E ce q9 u t8 H1 locs ht hvm hpx hBX hz1 hk1 hS hce hcv hcl => ?_) (fun u t8 H1 locs ht hvm hw hB hz1 hk1 hS => ?_)
  · have hP : va_P D vwCl (hn_wX ad cI (σ)) H1 := hn_kept0 hP hk1
    obtain ⟨hx1, -⟩ := hBX
    exact vx_out (fun x hx => (htab x hx).elim) hlocks hce hcv hcl (fun t9 ht9 ha9 => ⟨σ, trivial, ⟨⟨1, Or.inl ⟨hx1.1, rfl⟩, Or.inl ⟨rfl, hx1.2⟩, hXR⟩, by rw [ht9]; exact hP, va_K.moved ha9 hK, hD⟩, hS.F ht9⟩) hS.2.2 (Nat.le_of_ble_eq_true rfl) (Nat.le_of_ble_eq_true rfl)
  have hP : va_P D vwCl (hn_wX ad cI (σ)) H1 := hn_kept0 hP hk1
  generalize H1 = H at hP hS ⊢
  have hd9 : hn_dir d9 := hw
  obtain ⟨d, hd, ed⟩ := hd9
  subst ed
  refine lv_aload_n hx hb dX_size_4 rfl (lv_at hl 0 rfl) ?_
  refine va_get (D := D) (ci := 0) (v := .ref (ad 7)) (C := RX) (T := FX) (N := 10) hx hb hts iX hown hK hP 0 rfl rfl 7 (by decide) (hts _ mX_f_counts) (fun _ h9 => h9) rfl dX_size_5 ?_
  refine lv_iload_n hx hb dX_size_8 rfl (lv_at hl 1 rfl) ?_
  refine va_iald hx hb hK hP 7 0 rfl rfl (vp_in_nI (show d < 8 from hd) (by omega)) dX_size_9 ?_
  rw [nI_clamp (show d < 2 ^ 31 by omega)]
  rw [show σ 7 d = nI (D9 d).length from hn_XR_cnt hXR hd]
  refine vx_ret ?_
  refine W.widen (k := 1) (n := 6) (Nat.le_of_ble_eq_true rfl) (Nat.le_of_ble_eq_true rfl) ?_
  exact W.iret (v := (nI (D9 d).length)) hx hb hr (fun t9 ht9 hW9 => ⟨⟨nI (D9 d).length, σ, rfl, ⟨Or.inr ⟨d, rfl, hd, rfl, rfl⟩, hXR⟩, by rw [ht9]; exact hP, va_K.moved hW9.alike hK, hD⟩, hS.F ht9⟩) hS.2.2 dX_size_10

set_option maxHeartbeats 4000000 in
set_option maxRecDepth 100000 in
theorem cX_byteAt_ok (l : Launch) (hl0 : l.stackTraces = false) (D : va_G) (cI cL : ClassId) (z0 : Nat) (sa : Nat → Nat) (ad : Nat → Nat) (σ : Nat → Nat → Int32) (i9 : Int32) (h : Nat → Nat) (D9 : Nat → List hn_E) (tn TK : Nat) (hXR : hn_XR σ h D9 tn TK) (hO : hn_DO D9)  (sz : Nat) : vx_Met l yX_byteAt wX_byteAt ({ frames := 6, cells := 1, slots := 6, locals := 82 }) (hn_PX D (hn_ty cI cL) (hn_wX ad cI (σ) : va_W) sz z0 sa [.ref (ad 0), .int i9]) (va_Qi (fun (r : Int32) (τ9 : Nat → Nat → Int32) => hn_byteS tn TK i9 0 r ∧ hn_XR τ9 h D9 tn TK) (fun (τ9 : Nat → Nat → Int32) t => hn_at D (hn_ty cI cL) (va_A (hn_wX ad cI (σ) : va_W) sz) (hn_wX ad cI (τ9)) t) (va_A (hn_wX ad cI (σ) : va_W) sz)) (vx_X (fun _ : Nat → Nat → Int32 => True) (fun E (τ9 : Nat → Nat → Int32) t => (∃ c : Nat, hn_exc E c ∧ hn_byteS tn TK i9 c 0 ∧ hn_XR τ9 h D9 tn TK) ∧ hn_at D (hn_ty cI cL) (va_A (hn_wX ad cI (σ) : va_W) sz) (hn_wX ad cI (τ9)) t) (va_A (hn_wX ad cI (σ) : va_W) sz)) 1 6 (va_A (hn_wX ad cI (σ) : va_W) sz) := by
  refine vx_ofW (cc := cX_byteAt) (maxL := 2) (ret := (some .int)) (by decide) rfl ?_
  intro p e s m args below meth c s₁ B hml htab hv
  obtain ⟨rfl, hsz, hP, hK, hD0, hz0, hG⟩ := hv
  subst hsz
  have hD := hD0.self (sz := s.heap.size)
  have hAz := hn_Az hD0 hz0
  generalize hAe : va_A (hn_wX ad cI (σ) : va_W) s.heap.size = A at hD hAz ⊢
  have hA : ∀ q : Nat, s.heap.size ≤ q → A q := fun q h => by rw [← hAe]; exact Or.inr h
  have hS : va_S A s.heap s.heap [] := va_S.rf
  have hP : va_P D vwCl (hn_wX ad cI (σ) : va_W) s.heap := hP
  have hx := B.exec
  have hb := B.bytes
  have hr := B.returns
  have hts0 := atoms_spec (ws := wX_byteAt) B.pre
  have hts : ∀ w ∈ hn_tb, w.before _ s = true := fun w hw => hts0 w (List.mem_cons_of_mem _ hw)
  have hown : s.vm.findClass RX = some m.cls := findClass_of_methodNamed B.named
  have hlocks := B.notSynchronized
  have hl := lv_entry [.ref (ad 0), .int i9] (n := 2) (Nat.le_of_ble_eq_true rfl)
  rw [lg_entry_eq]
  generalize (lg_sl [.ref (ad 0), .int i9] ++ List.replicate (2 - (lg_sl [.ref (ad 0), .int i9]).length) Slot.unset).toArray = ls at hl ⊢
  have hl : lv_has ls 2 [(0, .ref (ad 0)), (1, .int i9)] := hl
  have hhd : ∀ k, k < 20 → hn_by (σ 1) k = h k := by obtain ⟨L, B, -, -, hH⟩ := hn_XR_to hXR; exact hH.1
  refine lv_iload_n hx hb dX_byteAt_0 rfl (lv_at hl 1 rfl) ?_
  refine lv_if_ge (tgt := 14) hx hb dX_byteAt_1 (by decide) (fun c_13 => ?_) (fun c_13 => ?_)
  · skip
    obtain ⟨i, hi, ei⟩ := nI_of (Int32.not_lt.mpr c_13)
    subst ei
    obtain ⟨L, B, -, -, hH⟩ := hn_XR_to hXR
    have htn := hH.2.2.1
    refine lv_iload_n hx hb dX_byteAt_14 rfl (lv_at hl 1 rfl) ?_
    refine lv_aload_n hx hb dX_byteAt_15 rfl (lv_at hl 0 rfl) ?_
    refine va_get (D := D) (ci := 0) (v := .int (σ 0 0)) (C := RX) (T := FX) (N := 10) hx hb hts iX hown hK hP 0 rfl rfl 3 (by decide) (hts _ mX_f_toldLength) (fun _ h9 => h9) rfl dX_byteAt_16 ?_
    rw [hH.2.1]
    refine lv_icmp_ge (tgt := 33) hx hb dX_byteAt_19 (by decide) (fun c_14 => ?_) (fun c_14 => ?_)
    · skip
      refine lv_iconst (v := (-1)) hx hb dX_byteAt_33 (by decide) ?_
      refine vx_ret ?_
      refine W.widen (k := 1) (n := 6) (Nat.le_of_ble_eq_true rfl) (Nat.le_of_ble_eq_true rfl) ?_
      exact W.iret (v := (-1)) hx hb hr (fun t9 ht9 hW9 => ⟨⟨(-1), σ, rfl, ⟨Or.inr ⟨i, rfl, hi, rfl, Or.inr ⟨(nI_leI (by omega) hi).mp c_14, rfl⟩⟩, hXR⟩, by rw [ht9]; exact hP, va_K.moved hW9.alike hK, hD⟩, hS.F ht9⟩) hS.2.2 dX_byteAt_34
    · skip
      have hit : i < tn := Nat.lt_of_not_le (fun z => c_14 (nI_le z hi))
      refine lv_aload_n hx hb dX_byteAt_22 rfl (lv_at hl 0 rfl) ?_
      refine va_get (D := D) (ci := 0) (v := .ref (ad 3)) (C := RX) (T := FX) (N := 10) hx hb hts iX hown hK hP 0 rfl rfl 2 (by decide) (hts _ mX_f_told) (fun _ h9 => h9) rfl dX_byteAt_23 ?_
      refine lv_iload_n hx hb dX_byteAt_26 rfl (lv_at hl 1 rfl) ?_
      refine W.callR (W.runS (As := [.ref (ad 3), .int (nI i)]) (rest := []) ⟨hx, hb, hml, hown, hts⟩ (cX_byteOf_ok l D cI cL (hn_wX ad cI σ) 3 5 (ad 3) (σ 3) rfl (by decide) (by decide) i (by omega)) (cwS 2 hts gX_X_byteOf rfl rfl rfl (by decide +kernel) ⟨Nat.le_of_ble_eq_true rfl, Nat.le_of_ble_eq_true rfl⟩) (hn_preS hP hK) rfl rfl hl.1 rfl (lv_room (Nat.le_of_ble_eq_true rfl)) dX_byteAt_27 ⟨Nat.le_of_ble_eq_true rfl, Nat.le_of_ble_eq_true rfl⟩) ?_
      refine W.eq (g2 := F0 m 30 ls [.int (nI (hn_by (σ 3) i))]) rfl ?_
      rw [show (nI (hn_by (σ 3) i) : Int32) = nI (hn_kb TK i) from congrArg nI (hH.2.2.2 i hit)]
      refine lv_goto (tgt := 34) hx hb dX_byteAt_30 (by decide) ?_
      refine vx_ret ?_
      refine W.widen (k := 1) (n := 6) (Nat.le_of_ble_eq_true rfl) (Nat.le_of_ble_eq_true rfl) ?_
      exact W.iret (v := (nI (hn_kb TK i))) hx hb hr (fun t9 ht9 hW9 => ⟨⟨nI (hn_kb TK i), σ, rfl, ⟨Or.inr ⟨i, rfl, hi, rfl, Or.inl ⟨hit, rfl⟩⟩, hXR⟩, by rw [ht9]; exact hP, va_K.moved hW9.alike hK, hD⟩, hS.F ht9⟩) hS.2.2 dX_byteAt_34
  · skip
    exact hn_throwA hx hb hl0 hts hown hG hAz hS (hl.1.trans hml.symm) (is := 100) (text := "i is below 0") (by decide +kernel) dX_byteAt_4 dX_byteAt_7 dX_byteAt_8 dX_byteAt_10 dX_byteAt_13 htab (Nat.le_of_ble_eq_true rfl) (Nat.le_of_ble_eq_true rfl) (Nat.le_of_ble_eq_true rfl) (Nat.le_of_ble_eq_true rfl) hlocks (fun t9 ha9 g1 g2 => ⟨σ, trivial, ⟨⟨1, Or.inl ⟨rfl, rfl⟩, Or.inl ⟨rfl, Int32.not_le.mp c_13⟩, hXR⟩, (hn_xcT hP hK hD hS ha9 g1 g2).1⟩, (hn_xcT hP hK hD hS ha9 g1 g2).2⟩) hS.2.2 (Nat.le_of_ble_eq_true rfl) (Nat.le_of_ble_eq_true rfl)

set_option maxHeartbeats 4000000 in
set_option maxRecDepth 100000 in
theorem cX_find_ok (l : Launch) (hl0 : l.stackTraces = false) (D : va_G) (cI cL : ClassId) (z0 : Nat) (sa : Nat → Nat) (ad : Nat → Nat) (σ : Nat → Nat → Int32) (d9 n9 : Int32) (h : Nat → Nat) (D9 : Nat → List hn_E) (tn TK : Nat) (hXR : hn_XR σ h D9 tn TK) (hO : hn_DO D9)  (sz : Nat) : vx_Met l yX_find wX_find ({ frames := 7, cells := 2, slots := 12, locals := 105 }) (hn_PX D (hn_ty cI cL) (hn_wX ad cI (σ) : va_W) sz z0 sa [.ref (ad 0), .int d9, .int n9]) (va_Qi (fun (r : Int32) (τ9 : Nat → Nat → Int32) => hn_findS h D9 d9 n9 0 r ∧ hn_XR τ9 h D9 tn TK) (fun (τ9 : Nat → Nat → Int32) t => hn_at D (hn_ty cI cL) (va_A (hn_wX ad cI (σ) : va_W) sz) (hn_wX ad cI (τ9)) t) (va_A (hn_wX ad cI (σ) : va_W) sz)) (vx_X (fun _ : Nat → Nat → Int32 => True) (fun E (τ9 : Nat → Nat → Int32) t => (∃ c : Nat, hn_exc E c ∧ hn_findS h D9 d9 n9 c 0 ∧ hn_XR τ9 h D9 tn TK) ∧ hn_at D (hn_ty cI cL) (va_A (hn_wX ad cI (σ) : va_W) sz) (hn_wX ad cI (τ9)) t) (va_A (hn_wX ad cI (σ) : va_W) sz)) 2 12 (va_A (hn_wX ad cI (σ) : va_W) sz) := by
  refine vx_ofW (cc := cX_find) (maxL := 4) (ret := (some .int)) (by decide) rfl ?_
  intro p e s m args below meth c s₁ B hml htab hv
  obtain ⟨rfl, hsz, hP, hK, hD0, hz0, hG⟩ := hv
  subst hsz
  have hD := hD0.self (sz := s.heap.size)
  have hAz := hn_Az hD0 hz0
  generalize hAe : va_A (hn_wX ad cI (σ) : va_W) s.heap.size = A at hD hAz ⊢
  have hA : ∀ q : Nat, s.heap.size ≤ q → A q := fun q h => by rw [← hAe]; exact Or.inr h
  have hS : va_S A s.heap s.heap [] := va_S.rf
  have hP : va_P D vwCl (hn_wX ad cI (σ) : va_W) s.heap := hP
  have hx := B.exec
  have hb := B.bytes
  have hr := B.returns
  have hts0 := atoms_spec (ws := wX_find) B.pre
  have hts : ∀ w ∈ hn_tb, w.before _ s = true := fun w hw => hts0 w (List.mem_cons_of_mem _ hw)
  have hown : s.vm.findClass RX = some m.cls := findClass_of_methodNamed B.named
  have hlocks := B.notSynchronized
  have hl := lv_entry [.ref (ad 0), .int d9, .int n9] (n := 4) (Nat.le_of_ble_eq_true rfl)
  rw [lg_entry_eq]
  generalize (lg_sl [.ref (ad 0), .int d9, .int n9] ++ List.replicate (4 - (lg_sl [.ref (ad 0), .int d9, .int n9]).length) Slot.unset).toArray = ls at hl ⊢
  have hl : lv_has ls 4 [(0, .ref (ad 0)), (1, .int d9), (2, .int n9)] := hl
  have hhd : ∀ k, k < 20 → hn_by (σ 1) k = h k := by obtain ⟨L, B, -, -, hH⟩ := hn_XR_to hXR; exact hH.1
  refine lv_iload_n hx hb dX_find_0 rfl (lv_at hl 1 rfl) ?_
  have hP0 : va_P D vwCl ([] : va_W) s.heap := fun k q h => by cases h
  have hD00 : va_D (fun q => z0 ≤ q) ([] : va_W) := ⟨fun i j p q h => (by cases h), fun k q h => (by cases h)⟩
  refine vx_callv (vx_runS (As := [.int d9]) (rest := []) ⟨hx, hb, hml, hown, hts⟩ (cX_requireDirectory_ok l hl0 D cI cL z0 sa d9 _) (cwS 1 hts gX_X_requireDirectory rfl rfl rfl (by decide +kernel) ⟨(Nat.le_of_ble_eq_true rfl), (Nat.le_of_ble_eq_true rfl)⟩) (hn_preXS hP0 hK hD00 hz0 hG hS hAz) rfl rfl hl.1 rfl (lv_room (Nat.le_of_ble_eq_true rfl)) dX_find_1 ⟨(Nat.le_of_ble_eq_true rfl), (Nat.le_of_ble_eq_true rfl)⟩) hS (fun q h1 h2 => (hn_A0 h1 h2).elim) (fun q h => hn_A1 hA hS h) (fun q h1 h2 => (hn_A0 h1 h2).elim) (fun E ce q9 u t8 H1 locs ht hvm hpx hBX hz1 hk1 hS hce hcv hcl => ?_) (fun u t8 H1 locs ht hvm hw hB hz1 hk1 hS => ?_)
  · have hP : va_P D vwCl (hn_wX ad cI (σ)) H1 := hn_kept0 hP hk1
    obtain ⟨hx1, -⟩ := hBX
    exact vx_out (fun x hx => (htab x hx).elim) hlocks hce hcv hcl (fun t9 ht9 ha9 => ⟨σ, trivial, ⟨⟨1, Or.inl ⟨hx1.1, rfl⟩, Or.inl ⟨rfl, fun z => hx1.2 z.1⟩, hXR⟩, by rw [ht9]; exact hP, va_K.moved ha9 hK, hD⟩, hS.F ht9⟩) hS.2.2 (Nat.le_of_ble_eq_true rfl) (Nat.le_of_ble_eq_true rfl)
  have hP : va_P D vwCl (hn_wX ad cI (σ)) H1 := hn_kept0 hP hk1
  generalize H1 = H at hP hS ⊢
  have hd9 : hn_dir d9 := hw
  refine lv_aload_n hx hb dX_find_4 rfl (lv_at hl 0 rfl) ?_
  refine lv_iload_n hx hb dX_find_5 rfl (lv_at hl 2 rfl) ?_
  have hFc := va_free (wc := hn_wX ad cI (σ)) hD hS hA [0, 1, 2, 3, 4, 5, 6, 7, 8, 9] rfl
  refine vx_callv (vx_runV (As := [.int n9]) (rest := []) ⟨hx, hb, hml, hown, hts⟩ (cX_takeKey_ok l hl0 D cI cL z0 sa ad σ h hhd n9 _) (cwV 1 hts gX_X_takeKey rfl rfl rfl (by decide +kernel) ⟨(Nat.le_of_ble_eq_true rfl), (Nat.le_of_ble_eq_true rfl)⟩) (hn_preXV hP hK (hD.weaken (fun _ q _ h => hAz q.1 h)) hz0 hG hS hAz (ci := 0) (q0 := 0) rfl rfl) rfl rfl hl.1 rfl (lv_room (Nat.le_of_ble_eq_true rfl)) dX_find_6 ⟨(Nat.le_of_ble_eq_true rfl), (Nat.le_of_ble_eq_true rfl)⟩) hS (fun q _ h => hFc q h) hFc (fun q _ h => hFc q h) (fun E ce q9 σ2 t8 H1 locs ht hvm hpx hBX hz1 hk1 hS hce hcv hcl => ?_) (fun σ1 t8 H1 locs ht hvm hw hB hz1 hk1 hS => ?_)
  · obtain ⟨⟨hx1, hx2, hx3⟩, hP1, hK1, hD1⟩ := hBX
    rw [ht] at hP1
    rw [hx3] at hP1 hD1
    have hD : va_D A (hn_wX ad cI (σ)) := hD1.weaken (fun _ q _ h => hFc q.1 h)
    have hP : va_P D vwCl (hn_wX ad cI (σ)) H1 := hP1
    exact vx_out (fun x hx => (htab x hx).elim) hlocks hce hcv hcl (fun t9 ht9 ha9 => ⟨σ, trivial, ⟨⟨1, Or.inl ⟨hx1, rfl⟩, Or.inl ⟨rfl, fun z => hx2 z.2⟩, hXR⟩, by rw [ht9]; exact hP, va_K.moved ha9 hK, hD⟩, hS.F ht9⟩) hS.2.2 (Nat.le_of_ble_eq_true rfl) (Nat.le_of_ble_eq_true rfl)
  obtain ⟨hP1, hK1, hD1⟩ := hB
  rw [ht] at hP1
  have hD : va_D A (hn_wX ad cI (σ1)) := hD1.weaken (fun _ q _ h => hFc q.1 h)
  have hP : va_P D vwCl (hn_wX ad cI (σ1)) H1 := hP1
  generalize H1 = H at hP hS ⊢
  try dsimp only at hw
  obtain ⟨n, k9, en, h1, h2, hz, es1, hkey⟩ := hw
  obtain ⟨d, hd, ed⟩ := hd9
  subst ed
  subst en
  have hok : hn_ok h (nI d) (nI n) d n := ⟨rfl, hd, rfl, h1, h2, hz⟩
  have hX1 : hn_XR σ1 h D9 tn TK := by rw [es1]; exact hn_XR_keep hXR rfl rfl rfl rfl rfl rfl rfl rfl rfl
  have hkn : hn_nm (σ1 2) 0 = hn_num h n := by rw [es1]; exact hkey
  obtain ⟨L, B, hI1, hL1, hH1⟩ := hn_XR_to hX1
  have hb16 := hn_bk_lt (σ1 2) 0
  have hch8 : hn_ch (σ1 8) (384 + d * 16 + hn_bk (σ1 2) 0) (B (16 * d + hn_bk (σ1 2) 0)) := by rw [show 384 + d * 16 + hn_bk (σ1 2) 0 = 384 + (16 * d + hn_bk (σ1 2) 0) by omega]; exact (hI1.2.1 _ (by omega)).1
  refine lv_aload_n hx hb dX_find_9 rfl (lv_at hl 0 rfl) ?_
  refine lv_iload_n hx hb dX_find_10 rfl (lv_at hl 1 rfl) ?_
  refine W.callR (W.runV (As := [.int (nI d)]) (rest := []) ⟨hx, hb, hml, hown, hts⟩ (cX_slotOfKey_ok l D cI cL ad σ1 d hd (B (16 * d + hn_bk (σ1 2) 0)) (hI1.lenB (by omega)) hch8) (cwV 1 hts gX_X_slotOfKey rfl rfl rfl (by decide +kernel) ⟨Nat.le_of_ble_eq_true rfl, Nat.le_of_ble_eq_true rfl⟩) (hn_preV hP hK (ci := 0) (q0 := 0) rfl rfl) rfl rfl hl.1 rfl (lv_room (Nat.le_of_ble_eq_true rfl)) dX_find_11 ⟨Nat.le_of_ble_eq_true rfl, Nat.le_of_ble_eq_true rfl⟩) ?_
  refine W.eq (g2 := F0 m 14 ls [.int (hn_find (hn_ns σ1) (hn_nm (σ1 2) 0) (B (16 * d + hn_bk (σ1 2) 0)))]) rfl ?_
  rcases hn_slot hI1 hd (σ1 2) with ⟨t, ht1, ht2, ht3, ht4⟩ | ⟨hno, ht4⟩
  · rw [ht4]
    have htK : hn_ns σ1 t = hn_num h n := ht2.trans hkn
    have hhas : hn_has (hn_num h n) (D9 d) := (hn_XL_has hL1 hd).mpr ⟨t, ht1, htK⟩
    refine lv_istore_n (lv' := [(3, .int (nI t)), (0, .ref (ad 0)), (1, .int (nI d)), (2, .int (nI n))]) hx hb dX_find_14 rfl hl (by decide) rfl (fun ls hl => ?_)
    refine lv_iload_n hx hb dX_find_15 rfl (lv_at hl 0 rfl) ?_
    refine W.callR (W.runS (As := [.int (nI t)]) (rest := []) ⟨hx, hb, hml, hown, hts⟩ (cX_isSlot_ok l (nI t)) (cwS 1 hts gX_X_isSlot rfl rfl rfl (by decide +kernel) ⟨Nat.le_of_ble_eq_true rfl, Nat.le_of_ble_eq_true rfl⟩) hn_pre0 rfl rfl hl.1 rfl (lv_room (Nat.le_of_ble_eq_true rfl)) dX_find_16 ⟨Nat.le_of_ble_eq_true rfl, Nat.le_of_ble_eq_true rfl⟩) ?_
    refine W.eq (g2 := F0 m 19 ls [.int (hn_isl (nI t))]) rfl ?_
    rw [show (hn_isl (nI t) : Int32) = 1 from hn_isl_n ht3]
    refine lv_if_eq (tgt := 31) hx hb dX_find_19 (by decide) (fun c_15 => absurd c_15 (by decide)) (fun c_15 => ?_)
    refine lv_aload_n hx hb dX_find_22 rfl (lv_at hl 1 rfl) ?_
    refine va_get (D := D) (ci := 0) (v := .ref (ad 6)) (C := RX) (T := FX) (N := 10) hx hb hts iX hown hK hP 0 rfl rfl 6 (by decide) (hts _ mX_f_ids) (fun _ h9 => h9) rfl dX_find_23 ?_
    refine lv_iload_n hx hb dX_find_26 rfl (lv_at hl 0 rfl) ?_
    refine va_iald hx hb hK hP 6 0 rfl rfl (vp_in_nI (show t < 384 from by omega) (by omega)) dX_find_27 ?_
    rw [nI_clamp (show t < 2 ^ 31 by omega)]
    refine lv_goto (tgt := 32) hx hb dX_find_28 (by decide) ?_
    refine vx_ret ?_
    refine W.widen (k := 2) (n := 12) (Nat.le_of_ble_eq_true rfl) (Nat.le_of_ble_eq_true rfl) ?_
    exact W.iret (v := (σ1 6 t)) hx hb hr (fun t9 ht9 hW9 => ⟨⟨σ1 6 t, σ1, rfl, ⟨Or.inr ⟨d, n, hok, rfl, Or.inl ⟨hhas, by rw [hn_XL_at hI1 hL1 hd ht1 htK]; rfl⟩⟩, hX1⟩, by rw [ht9]; exact hP, va_K.moved hW9.alike hK, hD⟩, hS.F ht9⟩) hS.2.2 dX_find_32
  · rw [ht4]
    have hnh : ¬ hn_has (hn_num h n) (D9 d) := fun z => by obtain ⟨t, g1, g2⟩ := (hn_XL_has hL1 hd).mp z; exact hno t g1 (g2.trans hkn.symm)
    refine lv_istore_n (lv' := [(3, .int (-1)), (0, .ref (ad 0)), (1, .int (nI d)), (2, .int (nI n))]) hx hb dX_find_14 rfl hl (by decide) rfl (fun ls hl => ?_)
    refine lv_iload_n hx hb dX_find_15 rfl (lv_at hl 0 rfl) ?_
    refine W.callR (W.runS (As := [.int (-1)]) (rest := []) ⟨hx, hb, hml, hown, hts⟩ (cX_isSlot_ok l (-1)) (cwS 1 hts gX_X_isSlot rfl rfl rfl (by decide +kernel) ⟨Nat.le_of_ble_eq_true rfl, Nat.le_of_ble_eq_true rfl⟩) hn_pre0 rfl rfl hl.1 rfl (lv_room (Nat.le_of_ble_eq_true rfl)) dX_find_16 ⟨Nat.le_of_ble_eq_true rfl, Nat.le_of_ble_eq_true rfl⟩) ?_
    refine W.eq (g2 := F0 m 19 ls [.int (hn_isl (-1))]) rfl ?_
    rw [show (hn_isl (-1) : Int32) = 0 from hn_isl_m1]
    refine lv_if_eq (tgt := 31) hx hb dX_find_19 (by decide) (fun c_16 => ?_) (fun c_16 => absurd rfl c_16)
    refine lv_iconst (v := (-1)) hx hb dX_find_31 (by decide) ?_
    refine vx_ret ?_
    refine W.widen (k := 2) (n := 12) (Nat.le_of_ble_eq_true rfl) (Nat.le_of_ble_eq_true rfl) ?_
    exact W.iret (v := (-1)) hx hb hr (fun t9 ht9 hW9 => ⟨⟨(-1), σ1, rfl, ⟨Or.inr ⟨d, n, hok, rfl, Or.inr ⟨hnh, rfl⟩⟩, hX1⟩, by rw [ht9]; exact hP, va_K.moved hW9.alike hK, hD⟩, hS.F ht9⟩) hS.2.2 dX_find_32

set_option maxHeartbeats 4000000 in
set_option maxRecDepth 100000 in
theorem cX_change_ok (l : Launch) (hl0 : l.stackTraces = false) (D : va_G) (cI cL : ClassId) (z0 : Nat) (sa : Nat → Nat) (ad : Nat → Nat) (σ : Nat → Nat → Int32) (d9 n9 x9 : Int32) (h : Nat → Nat) (D9 : Nat → List hn_E) (tn TK : Nat) (hXR : hn_XR σ h D9 tn TK) (hO : hn_DO D9)  (sz : Nat) : vx_Met l yX_change wX_change ({ frames := 7, cells := 4, slots := 24, locals := 105 }) (hn_PX D (hn_ty cI cL) (hn_wX ad cI (σ) : va_W) sz z0 sa [.ref (ad 0), .int d9, .int n9, .int x9]) (va_Qi (fun (r : Int32) (τ9 : Nat → Nat → Int32) => ∃ D8, hn_changeS h D9 d9 n9 x9 0 r D8 ∧ hn_XR τ9 h D8 tn TK) (fun (τ9 : Nat → Nat → Int32) t => hn_at D (hn_ty cI cL) (va_A (hn_wX ad cI (σ) : va_W) sz) (hn_wX ad cI (τ9)) t) (va_A (hn_wX ad cI (σ) : va_W) sz)) (vx_X (fun _ : Nat → Nat → Int32 => True) (fun E (τ9 : Nat → Nat → Int32) t => (∃ c : Nat, hn_exc E c ∧ hn_changeS h D9 d9 n9 x9 c 0 D9 ∧ hn_XR τ9 h D9 tn TK) ∧ hn_at D (hn_ty cI cL) (va_A (hn_wX ad cI (σ) : va_W) sz) (hn_wX ad cI (τ9)) t) (va_A (hn_wX ad cI (σ) : va_W) sz)) 4 24 (va_A (hn_wX ad cI (σ) : va_W) sz) := by
  refine vx_ofW (cc := cX_change) (maxL := 6) (ret := (some .int)) (by decide) rfl ?_
  intro p e s m args below meth c s₁ B hml htab hv
  obtain ⟨rfl, hsz, hP, hK, hD0, hz0, hG⟩ := hv
  subst hsz
  have hD := hD0.self (sz := s.heap.size)
  have hAz := hn_Az hD0 hz0
  generalize hAe : va_A (hn_wX ad cI (σ) : va_W) s.heap.size = A at hD hAz ⊢
  have hA : ∀ q : Nat, s.heap.size ≤ q → A q := fun q h => by rw [← hAe]; exact Or.inr h
  have hS : va_S A s.heap s.heap [] := va_S.rf
  have hP : va_P D vwCl (hn_wX ad cI (σ) : va_W) s.heap := hP
  have hx := B.exec
  have hb := B.bytes
  have hr := B.returns
  have hts0 := atoms_spec (ws := wX_change) B.pre
  have hts : ∀ w ∈ hn_tb, w.before _ s = true := fun w hw => hts0 w (List.mem_cons_of_mem _ hw)
  have hown : s.vm.findClass RX = some m.cls := findClass_of_methodNamed B.named
  have hlocks := B.notSynchronized
  have hl := lv_entry [.ref (ad 0), .int d9, .int n9, .int x9] (n := 6) (Nat.le_of_ble_eq_true rfl)
  rw [lg_entry_eq]
  generalize (lg_sl [.ref (ad 0), .int d9, .int n9, .int x9] ++ List.replicate (6 - (lg_sl [.ref (ad 0), .int d9, .int n9, .int x9]).length) Slot.unset).toArray = ls at hl ⊢
  have hl : lv_has ls 6 [(0, .ref (ad 0)), (1, .int d9), (2, .int n9), (3, .int x9)] := hl
  have hhd : ∀ k, k < 20 → hn_by (σ 1) k = h k := by obtain ⟨L, B, -, -, hH⟩ := hn_XR_to hXR; exact hH.1
  refine lv_iload_n hx hb dX_change_0 rfl (lv_at hl 1 rfl) ?_
  have hP0 : va_P D vwCl ([] : va_W) s.heap := fun k q h => by cases h
  have hD00 : va_D (fun q => z0 ≤ q) ([] : va_W) := ⟨fun i j p q h => (by cases h), fun k q h => (by cases h)⟩
  refine vx_callv (vx_runS (As := [.int d9]) (rest := []) ⟨hx, hb, hml, hown, hts⟩ (cX_requireDirectory_ok l hl0 D cI cL z0 sa d9 _) (cwS 1 hts gX_X_requireDirectory rfl rfl rfl (by decide +kernel) ⟨(Nat.le_of_ble_eq_true rfl), (Nat.le_of_ble_eq_true rfl)⟩) (hn_preXS hP0 hK hD00 hz0 hG hS hAz) rfl rfl hl.1 rfl (lv_room (Nat.le_of_ble_eq_true rfl)) dX_change_1 ⟨(Nat.le_of_ble_eq_true rfl), (Nat.le_of_ble_eq_true rfl)⟩) hS (fun q h1 h2 => (hn_A0 h1 h2).elim) (fun q h => hn_A1 hA hS h) (fun q h1 h2 => (hn_A0 h1 h2).elim) (fun E ce q9 u t8 H1 locs ht hvm hpx hBX hz1 hk1 hS hce hcv hcl => ?_) (fun u t8 H1 locs ht hvm hw hB hz1 hk1 hS => ?_)
  · have hP : va_P D vwCl (hn_wX ad cI (σ)) H1 := hn_kept0 hP hk1
    obtain ⟨hx1, -⟩ := hBX
    exact vx_out (fun x hx => (htab x hx).elim) hlocks hce hcv hcl (fun t9 ht9 ha9 => ⟨σ, trivial, ⟨⟨1, Or.inl ⟨hx1.1, rfl⟩, Or.inl ⟨rfl, rfl, fun z => hx1.2 z.1⟩, hXR⟩, by rw [ht9]; exact hP, va_K.moved ha9 hK, hD⟩, hS.F ht9⟩) hS.2.2 (Nat.le_of_ble_eq_true rfl) (Nat.le_of_ble_eq_true rfl)
  have hP : va_P D vwCl (hn_wX ad cI (σ)) H1 := hn_kept0 hP hk1
  generalize H1 = H at hP hS ⊢
  have hd9 : hn_dir d9 := hw
  refine lv_iload_n hx hb dX_change_4 rfl (lv_at hl 3 rfl) ?_
  have hP0 : va_P D vwCl ([] : va_W) H := fun k q h => by cases h
  have hD00 : va_D (fun q => z0 ≤ q) ([] : va_W) := ⟨fun i j p q h => (by cases h), fun k q h => (by cases h)⟩
  refine vx_callv (vx_runS (As := [.int x9]) (rest := []) ⟨hx, hb, hml, hown, hts⟩ (cX_requireId_ok l hl0 D cI cL z0 sa x9 _) (cwS 1 hts gX_X_requireId rfl rfl rfl (by decide +kernel) ⟨(Nat.le_of_ble_eq_true rfl), (Nat.le_of_ble_eq_true rfl)⟩) (hn_preXS hP0 hK hD00 hz0 hG hS hAz) rfl rfl hl.1 rfl (lv_room (Nat.le_of_ble_eq_true rfl)) dX_change_5 ⟨(Nat.le_of_ble_eq_true rfl), (Nat.le_of_ble_eq_true rfl)⟩) hS (fun q h1 h2 => (hn_A0 h1 h2).elim) (fun q h => hn_A1 hA hS h) (fun q h1 h2 => (hn_A0 h1 h2).elim) (fun E ce q9 u t8 H1 locs ht hvm hpx hBX hz1 hk1 hS hce hcv hcl => ?_) (fun u t8 H1 locs ht hvm hw hB hz1 hk1 hS => ?_)
  · have hP : va_P D vwCl (hn_wX ad cI (σ)) H1 := hn_kept0 hP hk1
    obtain ⟨hx1, -⟩ := hBX
    exact vx_out (fun x hx => (htab x hx).elim) hlocks hce hcv hcl (fun t9 ht9 ha9 => ⟨σ, trivial, ⟨⟨1, Or.inl ⟨hx1.1, rfl⟩, Or.inl ⟨rfl, rfl, fun z => hx1.2 z.2.2⟩, hXR⟩, by rw [ht9]; exact hP, va_K.moved ha9 hK, hD⟩, hS.F ht9⟩) hS.2.2 (Nat.le_of_ble_eq_true rfl) (Nat.le_of_ble_eq_true rfl)
  have hP : va_P D vwCl (hn_wX ad cI (σ)) H1 := hn_kept0 hP hk1
  generalize H1 = H at hP hS ⊢
  have hi9 : hn_isid x9 := hw
  refine lv_aload_n hx hb dX_change_8 rfl (lv_at hl 0 rfl) ?_
  refine lv_iload_n hx hb dX_change_9 rfl (lv_at hl 2 rfl) ?_
  have hFc := va_free (wc := hn_wX ad cI (σ)) hD hS hA [0, 1, 2, 3, 4, 5, 6, 7, 8, 9] rfl
  refine vx_callv (vx_runV (As := [.int n9]) (rest := []) ⟨hx, hb, hml, hown, hts⟩ (cX_takeKey_ok l hl0 D cI cL z0 sa ad σ h hhd n9 _) (cwV 1 hts gX_X_takeKey rfl rfl rfl (by decide +kernel) ⟨(Nat.le_of_ble_eq_true rfl), (Nat.le_of_ble_eq_true rfl)⟩) (hn_preXV hP hK (hD.weaken (fun _ q _ h => hAz q.1 h)) hz0 hG hS hAz (ci := 0) (q0 := 0) rfl rfl) rfl rfl hl.1 rfl (lv_room (Nat.le_of_ble_eq_true rfl)) dX_change_10 ⟨(Nat.le_of_ble_eq_true rfl), (Nat.le_of_ble_eq_true rfl)⟩) hS (fun q _ h => hFc q h) hFc (fun q _ h => hFc q h) (fun E ce q9 σ2 t8 H1 locs ht hvm hpx hBX hz1 hk1 hS hce hcv hcl => ?_) (fun σ1 t8 H1 locs ht hvm hw hB hz1 hk1 hS => ?_)
  · obtain ⟨⟨hx1, hx2, hx3⟩, hP1, hK1, hD1⟩ := hBX
    rw [ht] at hP1
    rw [hx3] at hP1 hD1
    have hD : va_D A (hn_wX ad cI (σ)) := hD1.weaken (fun _ q _ h => hFc q.1 h)
    have hP : va_P D vwCl (hn_wX ad cI (σ)) H1 := hP1
    exact vx_out (fun x hx => (htab x hx).elim) hlocks hce hcv hcl (fun t9 ht9 ha9 => ⟨σ, trivial, ⟨⟨1, Or.inl ⟨hx1, rfl⟩, Or.inl ⟨rfl, rfl, fun z => hx2 z.2.1⟩, hXR⟩, by rw [ht9]; exact hP, va_K.moved ha9 hK, hD⟩, hS.F ht9⟩) hS.2.2 (Nat.le_of_ble_eq_true rfl) (Nat.le_of_ble_eq_true rfl)
  obtain ⟨hP1, hK1, hD1⟩ := hB
  rw [ht] at hP1
  have hD : va_D A (hn_wX ad cI (σ1)) := hD1.weaken (fun _ q _ h => hFc q.1 h)
  have hP : va_P D vwCl (hn_wX ad cI (σ1)) H1 := hP1
  generalize H1 = H at hP hS ⊢
  try dsimp only at hw
  obtain ⟨n, k9, en, h1, h2, hz, es1, hkey⟩ := hw
  obtain ⟨d, hd, ed⟩ := hd9
  subst ed
  subst en
  have hok : hn_ok h (nI d) (nI n) d n := ⟨rfl, hd, rfl, h1, h2, hz⟩
  have hX1 : hn_XR σ1 h D9 tn TK := by rw [es1]; exact hn_XR_keep hXR rfl rfl rfl rfl rfl rfl rfl rfl rfl
  have hkn : hn_nm (σ1 2) 0 = hn_num h n := by rw [es1]; exact hkey
  obtain ⟨L, B, hI1, hL1, hH1⟩ := hn_XR_to hX1
  have hb16 := hn_bk_lt (σ1 2) 0
  have hch8 : hn_ch (σ1 8) (384 + d * 16 + hn_bk (σ1 2) 0) (B (16 * d + hn_bk (σ1 2) 0)) := by rw [show 384 + d * 16 + hn_bk (σ1 2) 0 = 384 + (16 * d + hn_bk (σ1 2) 0) by omega]; exact (hI1.2.1 _ (by omega)).1
  refine lv_aload_n hx hb dX_change_13 rfl (lv_at hl 0 rfl) ?_
  refine lv_iload_n hx hb dX_change_14 rfl (lv_at hl 1 rfl) ?_
  refine W.callR (W.runV (As := [.int (nI d)]) (rest := []) ⟨hx, hb, hml, hown, hts⟩ (cX_slotOfKey_ok l D cI cL ad σ1 d hd (B (16 * d + hn_bk (σ1 2) 0)) (hI1.lenB (by omega)) hch8) (cwV 1 hts gX_X_slotOfKey rfl rfl rfl (by decide +kernel) ⟨Nat.le_of_ble_eq_true rfl, Nat.le_of_ble_eq_true rfl⟩) (hn_preV hP hK (ci := 0) (q0 := 0) rfl rfl) rfl rfl hl.1 rfl (lv_room (Nat.le_of_ble_eq_true rfl)) dX_change_15 ⟨Nat.le_of_ble_eq_true rfl, Nat.le_of_ble_eq_true rfl⟩) ?_
  refine W.eq (g2 := F0 m 18 ls [.int (hn_find (hn_ns σ1) (hn_nm (σ1 2) 0) (B (16 * d + hn_bk (σ1 2) 0)))]) rfl ?_
  rcases hn_slot hI1 hd (σ1 2) with ⟨t, ht1, ht2, ht3, ht4⟩ | ⟨hno, ht4⟩
  · rw [ht4]
    have htK : hn_ns σ1 t = hn_num h n := ht2.trans hkn
    have hhas : hn_has (hn_num h n) (D9 d) := (hn_XL_has hL1 hd).mpr ⟨t, ht1, htK⟩
    refine lv_istore (lv' := [(4, .int (nI t)), (0, .ref (ad 0)), (1, .int (nI d)), (2, .int (nI n)), (3, .int x9)]) hx hb dX_change_18 hl (by decide) rfl (fun ls hl => ?_)
    refine lv_iload hx hb dX_change_20 (lv_at hl 0 rfl) ?_
    refine W.callR (W.runS (As := [.int (nI t)]) (rest := []) ⟨hx, hb, hml, hown, hts⟩ (cX_isSlot_ok l (nI t)) (cwS 1 hts gX_X_isSlot rfl rfl rfl (by decide +kernel) ⟨Nat.le_of_ble_eq_true rfl, Nat.le_of_ble_eq_true rfl⟩) hn_pre0 rfl rfl hl.1 rfl (lv_room (Nat.le_of_ble_eq_true rfl)) dX_change_22 ⟨Nat.le_of_ble_eq_true rfl, Nat.le_of_ble_eq_true rfl⟩) ?_
    refine W.eq (g2 := F0 m 25 ls [.int (hn_isl (nI t))]) rfl ?_
    rw [show (hn_isl (nI t) : Int32) = 1 from hn_isl_n ht3]
    refine lv_if_ne (tgt := 38) hx hb dX_change_25 (by decide) (fun c_17 => ?_) (fun c_17 => absurd c_17 (by decide))
    refine lv_aload_n hx hb dX_change_38 rfl (lv_at hl 1 rfl) ?_
    refine va_get (D := D) (ci := 0) (v := .ref (ad 6)) (C := RX) (T := FX) (N := 10) hx hb hts iX hown hK hP 0 rfl rfl 6 (by decide) (hts _ mX_f_ids) (fun _ h9 => h9) rfl dX_change_39 ?_
    refine lv_iload hx hb dX_change_42 (lv_at hl 0 rfl) ?_
    refine va_iald hx hb hK hP 6 0 rfl rfl (vp_in_nI (show t < 384 from by omega) (by omega)) dX_change_44 ?_
    rw [nI_clamp (show t < 2 ^ 31 by omega)]
    refine lv_istore (lv' := [(5, .int (σ1 6 t)), (4, .int (nI t)), (0, .ref (ad 0)), (1, .int (nI d)), (2, .int (nI n)), (3, .int x9)]) hx hb dX_change_45 hl (by decide) rfl (fun ls hl => ?_)
    refine lv_aload_n hx hb dX_change_47 rfl (lv_at hl 2 rfl) ?_
    refine va_get (D := D) (ci := 0) (v := .ref (ad 6)) (C := RX) (T := FX) (N := 10) hx hb hts iX hown hK hP 0 rfl rfl 6 (by decide) (hts _ mX_f_ids) (fun _ h9 => h9) rfl dX_change_48 ?_
    refine lv_iload hx hb dX_change_51 (lv_at hl 1 rfl) ?_
    refine lv_iload_n hx hb dX_change_53 rfl (lv_at hl 5 rfl) ?_
    refine va_iast hx hb hK hP hD hS 6 0 rfl rfl (vp_in_nI (show t < 384 from by omega) (by omega)) dX_change_54 (fun H locs hP hD hS => ?_)
    rw [nI_clamp (show t < 2 ^ 31 by omega)] at hP hD
    obtain ⟨σ2, eσ2⟩ : ∃ z : Nat → Nat → Int32, z = hn_up (σ1) 6 (upd (σ1 6) t x9) := ⟨_, rfl⟩
    have hP : va_P D vwCl (hn_wX ad cI (σ2)) H := by rw [eσ2]; exact hP
    have hD : va_D A (hn_wX ad cI (σ2)) := by rw [eσ2]; exact hD
    refine lv_iload hx hb dX_change_55 (lv_at hl 0 rfl) ?_
    obtain ⟨g1, g2⟩ := hn_chg_X (σ' := σ2) (x := x9) hI1 hL1 hd ht1 htK (by rw [eσ2]; rfl) (by rw [eσ2]; rfl) (by rw [eσ2]; rfl) (by rw [eσ2]; rfl) (by rw [eσ2]; rfl) (by rw [eσ2]; rfl)
    refine vx_ret ?_
    refine W.widen (k := 4) (n := 24) (Nat.le_of_ble_eq_true rfl) (Nat.le_of_ble_eq_true rfl) ?_
    exact W.iret (v := (σ1 6 t)) hx hb hr (fun t9 ht9 hW9 => ⟨⟨σ1 6 t, σ2, rfl, ⟨hn_ud D9 d (hn_ec (hn_num h n) x9 (D9 d)), Or.inr ⟨d, n, hok, hi9, Or.inr ⟨rfl, hhas, rfl, by rw [hn_XL_at hI1 hL1 hd ht1 htK]; rfl⟩⟩, hn_XR_of g1 g2 (by rw [eσ2]; exact hn_XH_keep hH1 rfl rfl rfl)⟩, by rw [ht9]; exact hP, va_K.moved hW9.alike hK, hD⟩, hS.F ht9⟩) hS.2.2 dX_change_57
  · rw [ht4]
    have hnh : ¬ hn_has (hn_num h n) (D9 d) := fun z => by obtain ⟨t, g1, g2⟩ := (hn_XL_has hL1 hd).mp z; exact hno t g1 (g2.trans hkn.symm)
    refine lv_istore (lv' := [(4, .int (-1)), (0, .ref (ad 0)), (1, .int (nI d)), (2, .int (nI n)), (3, .int x9)]) hx hb dX_change_18 hl (by decide) rfl (fun ls hl => ?_)
    refine lv_iload hx hb dX_change_20 (lv_at hl 0 rfl) ?_
    refine W.callR (W.runS (As := [.int (-1)]) (rest := []) ⟨hx, hb, hml, hown, hts⟩ (cX_isSlot_ok l (-1)) (cwS 1 hts gX_X_isSlot rfl rfl rfl (by decide +kernel) ⟨Nat.le_of_ble_eq_true rfl, Nat.le_of_ble_eq_true rfl⟩) hn_pre0 rfl rfl hl.1 rfl (lv_room (Nat.le_of_ble_eq_true rfl)) dX_change_22 ⟨Nat.le_of_ble_eq_true rfl, Nat.le_of_ble_eq_true rfl⟩) ?_
    refine W.eq (g2 := F0 m 25 ls [.int (hn_isl (-1))]) rfl ?_
    rw [show (hn_isl (-1) : Int32) = 0 from hn_isl_m1]
    refine lv_if_ne (tgt := 38) hx hb dX_change_25 (by decide) (fun c_18 => absurd rfl c_18) (fun c_18 => ?_)
    exact hn_throwB hx hb hl0 hts hown hG hAz hS (hl.1.trans hml.symm) (is := 85) (text := "the name is not there") (by decide +kernel) dX_change_28 dX_change_31 dX_change_32 dX_change_34 dX_change_37 htab (Nat.le_of_ble_eq_true rfl) (Nat.le_of_ble_eq_true rfl) (Nat.le_of_ble_eq_true rfl) (Nat.le_of_ble_eq_true rfl) hlocks (fun t9 ha9 g1 g2 => ⟨σ1, trivial, ⟨⟨2, Or.inr ⟨rfl, rfl⟩, Or.inr ⟨d, n, hok, hi9, Or.inl ⟨rfl, rfl, hnh⟩⟩, hX1⟩, (hn_xcT hP hK hD hS ha9 g1 g2).1⟩, (hn_xcT hP hK hD hS ha9 g1 g2).2⟩) hS.2.2 (Nat.le_of_ble_eq_true rfl) (Nat.le_of_ble_eq_true rfl)
end
section
set_option maxHeartbeats 4000000 in
set_option maxRecDepth 100000 in
theorem cX_remove_ok (l : Launch) (hl0 : l.stackTraces = false) (D : va_G) (cI cL : ClassId) (z0 : Nat) (sa : Nat → Nat) (ad : Nat → Nat) (σ : Nat → Nat → Int32) (d9 n9 : Int32) (h : Nat → Nat) (D9 : Nat → List hn_E) (tn TK : Nat) (hXR : hn_XR σ h D9 tn TK) (hO : hn_DO D9)  (sz : Nat) : vx_Met l yX_remove wX_remove ({ frames := 7, cells := 3, slots := 18, locals := 105 }) (hn_PX D (hn_ty cI cL) (hn_wX ad cI (σ) : va_W) sz z0 sa [.ref (ad 0), .int d9, .int n9]) (va_Qi (fun (r : Int32) (τ9 : Nat → Nat → Int32) => ∃ D8, hn_removeS h D9 d9 n9 0 r D8 ∧ hn_XR τ9 h D8 tn TK) (fun (τ9 : Nat → Nat → Int32) t => hn_at D (hn_ty cI cL) (va_A (hn_wX ad cI (σ) : va_W) sz) (hn_wX ad cI (τ9)) t) (va_A (hn_wX ad cI (σ) : va_W) sz)) (vx_X (fun _ : Nat → Nat → Int32 => True) (fun E (τ9 : Nat → Nat → Int32) t => (∃ c : Nat, hn_exc E c ∧ hn_removeS h D9 d9 n9 c 0 D9 ∧ hn_XR τ9 h D9 tn TK) ∧ hn_at D (hn_ty cI cL) (va_A (hn_wX ad cI (σ) : va_W) sz) (hn_wX ad cI (τ9)) t) (va_A (hn_wX ad cI (σ) : va_W) sz)) 3 18 (va_A (hn_wX ad cI (σ) : va_W) sz) := by
  refine vx_ofW (cc := cX_remove) (maxL := 4) (ret := (some .int)) (by decide) rfl ?_
  intro p e s m args below meth c s₁ B hml htab hv
  obtain ⟨rfl, hsz, hP, hK, hD0, hz0, hG⟩ := hv
  subst hsz
  have hD := hD0.self (sz := s.heap.size)
  have hAz := hn_Az hD0 hz0
  generalize hAe : va_A (hn_wX ad cI (σ) : va_W) s.heap.size = A at hD hAz ⊢
  have hA : ∀ q : Nat, s.heap.size ≤ q → A q := fun q h => by rw [← hAe]; exact Or.inr h
  have hS : va_S A s.heap s.heap [] := va_S.rf
  have hP : va_P D vwCl (hn_wX ad cI (σ) : va_W) s.heap := hP
  have hx := B.exec
  have hb := B.bytes
  have hr := B.returns
  have hts0 := atoms_spec (ws := wX_remove) B.pre
  have hts : ∀ w ∈ hn_tb, w.before _ s = true := fun w hw => hts0 w (List.mem_cons_of_mem _ hw)
  have hown : s.vm.findClass RX = some m.cls := findClass_of_methodNamed B.named
  have hlocks := B.notSynchronized
  have hl := lv_entry [.ref (ad 0), .int d9, .int n9] (n := 4) (Nat.le_of_ble_eq_true rfl)
  rw [lg_entry_eq]
  generalize (lg_sl [.ref (ad 0), .int d9, .int n9] ++ List.replicate (4 - (lg_sl [.ref (ad 0), .int d9, .int n9]).length) Slot.unset).toArray = ls at hl ⊢
  have hl : lv_has ls 4 [(0, .ref (ad 0)), (1, .int d9), (2, .int n9)] := hl
  have hhd : ∀ k, k < 20 → hn_by (σ 1) k = h k := by obtain ⟨L, B, -, -, hH⟩ := hn_XR_to hXR; exact hH.1
  refine lv_iload_n hx hb dX_remove_0 rfl (lv_at hl 1 rfl) ?_
  have hP0 : va_P D vwCl ([] : va_W) s.heap := fun k q h => by cases h
  have hD00 : va_D (fun q => z0 ≤ q) ([] : va_W) := ⟨fun i j p q h => (by cases h), fun k q h => (by cases h)⟩
  refine vx_callv (vx_runS (As := [.int d9]) (rest := []) ⟨hx, hb, hml, hown, hts⟩ (cX_requireDirectory_ok l hl0 D cI cL z0 sa d9 _) (cwS 1 hts gX_X_requireDirectory rfl rfl rfl (by decide +kernel) ⟨(Nat.le_of_ble_eq_true rfl), (Nat.le_of_ble_eq_true rfl)⟩) (hn_preXS hP0 hK hD00 hz0 hG hS hAz) rfl rfl hl.1 rfl (lv_room (Nat.le_of_ble_eq_true rfl)) dX_remove_1 ⟨(Nat.le_of_ble_eq_true rfl), (Nat.le_of_ble_eq_true rfl)⟩) hS (fun q h1 h2 => (hn_A0 h1 h2).elim) (fun q h => hn_A1 hA hS h) (fun q h1 h2 => (hn_A0 h1 h2).elim) (fun E ce q9 u t8 H1 locs ht hvm hpx hBX hz1 hk1 hS hce hcv hcl => ?_) (fun u t8 H1 locs ht hvm hw hB hz1 hk1 hS => ?_)
  · have hP : va_P D vwCl (hn_wX ad cI (σ)) H1 := hn_kept0 hP hk1
    obtain ⟨hx1, -⟩ := hBX
    exact vx_out (fun x hx => (htab x hx).elim) hlocks hce hcv hcl (fun t9 ht9 ha9 => ⟨σ, trivial, ⟨⟨1, Or.inl ⟨hx1.1, rfl⟩, Or.inl ⟨rfl, rfl, fun z => hx1.2 z.1⟩, hXR⟩, by rw [ht9]; exact hP, va_K.moved ha9 hK, hD⟩, hS.F ht9⟩) hS.2.2 (Nat.le_of_ble_eq_true rfl) (Nat.le_of_ble_eq_true rfl)
  have hP : va_P D vwCl (hn_wX ad cI (σ)) H1 := hn_kept0 hP hk1
  generalize H1 = H at hP hS ⊢
  have hd9 : hn_dir d9 := hw
  refine lv_aload_n hx hb dX_remove_4 rfl (lv_at hl 0 rfl) ?_
  refine lv_iload_n hx hb dX_remove_5 rfl (lv_at hl 2 rfl) ?_
  have hFc := va_free (wc := hn_wX ad cI (σ)) hD hS hA [0, 1, 2, 3, 4, 5, 6, 7, 8, 9] rfl
  refine vx_callv (vx_runV (As := [.int n9]) (rest := []) ⟨hx, hb, hml, hown, hts⟩ (cX_takeKey_ok l hl0 D cI cL z0 sa ad σ h hhd n9 _) (cwV 1 hts gX_X_takeKey rfl rfl rfl (by decide +kernel) ⟨(Nat.le_of_ble_eq_true rfl), (Nat.le_of_ble_eq_true rfl)⟩) (hn_preXV hP hK (hD.weaken (fun _ q _ h => hAz q.1 h)) hz0 hG hS hAz (ci := 0) (q0 := 0) rfl rfl) rfl rfl hl.1 rfl (lv_room (Nat.le_of_ble_eq_true rfl)) dX_remove_6 ⟨(Nat.le_of_ble_eq_true rfl), (Nat.le_of_ble_eq_true rfl)⟩) hS (fun q _ h => hFc q h) hFc (fun q _ h => hFc q h) (fun E ce q9 σ2 t8 H1 locs ht hvm hpx hBX hz1 hk1 hS hce hcv hcl => ?_) (fun σ1 t8 H1 locs ht hvm hw hB hz1 hk1 hS => ?_)
  · obtain ⟨⟨hx1, hx2, hx3⟩, hP1, hK1, hD1⟩ := hBX
    rw [ht] at hP1
    rw [hx3] at hP1 hD1
    have hD : va_D A (hn_wX ad cI (σ)) := hD1.weaken (fun _ q _ h => hFc q.1 h)
    have hP : va_P D vwCl (hn_wX ad cI (σ)) H1 := hP1
    exact vx_out (fun x hx => (htab x hx).elim) hlocks hce hcv hcl (fun t9 ht9 ha9 => ⟨σ, trivial, ⟨⟨1, Or.inl ⟨hx1, rfl⟩, Or.inl ⟨rfl, rfl, fun z => hx2 z.2⟩, hXR⟩, by rw [ht9]; exact hP, va_K.moved ha9 hK, hD⟩, hS.F ht9⟩) hS.2.2 (Nat.le_of_ble_eq_true rfl) (Nat.le_of_ble_eq_true rfl)
  obtain ⟨hP1, hK1, hD1⟩ := hB
  rw [ht] at hP1
  have hD : va_D A (hn_wX ad cI (σ1)) := hD1.weaken (fun _ q _ h => hFc q.1 h)
  have hP : va_P D vwCl (hn_wX ad cI (σ1)) H1 := hP1
  generalize H1 = H at hP hS ⊢
  try dsimp only at hw
  obtain ⟨n, k9, en, h1, h2, hz, es1, hkey⟩ := hw
  obtain ⟨d, hd, ed⟩ := hd9
  subst ed
  subst en
  have hok : hn_ok h (nI d) (nI n) d n := ⟨rfl, hd, rfl, h1, h2, hz⟩
  have hX1 : hn_XR σ1 h D9 tn TK := by rw [es1]; exact hn_XR_keep hXR rfl rfl rfl rfl rfl rfl rfl rfl rfl
  have hkn : hn_nm (σ1 2) 0 = hn_num h n := by rw [es1]; exact hkey
  obtain ⟨L, B, hI1, hL1, hH1⟩ := hn_XR_to hX1
  have hb16 := hn_bk_lt (σ1 2) 0
  have hch8 : hn_ch (σ1 8) (384 + d * 16 + hn_bk (σ1 2) 0) (B (16 * d + hn_bk (σ1 2) 0)) := by rw [show 384 + d * 16 + hn_bk (σ1 2) 0 = 384 + (16 * d + hn_bk (σ1 2) 0) by omega]; exact (hI1.2.1 _ (by omega)).1
  refine lv_aload_n hx hb dX_remove_9 rfl (lv_at hl 0 rfl) ?_
  refine lv_iload_n hx hb dX_remove_10 rfl (lv_at hl 1 rfl) ?_
  refine W.callR (W.runV (As := [.int (nI d)]) (rest := []) ⟨hx, hb, hml, hown, hts⟩ (cX_slotOfKey_ok l D cI cL ad σ1 d hd (B (16 * d + hn_bk (σ1 2) 0)) (hI1.lenB (by omega)) hch8) (cwV 1 hts gX_X_slotOfKey rfl rfl rfl (by decide +kernel) ⟨Nat.le_of_ble_eq_true rfl, Nat.le_of_ble_eq_true rfl⟩) (hn_preV hP hK (ci := 0) (q0 := 0) rfl rfl) rfl rfl hl.1 rfl (lv_room (Nat.le_of_ble_eq_true rfl)) dX_remove_11 ⟨Nat.le_of_ble_eq_true rfl, Nat.le_of_ble_eq_true rfl⟩) ?_
  refine W.eq (g2 := F0 m 14 ls [.int (hn_find (hn_ns σ1) (hn_nm (σ1 2) 0) (B (16 * d + hn_bk (σ1 2) 0)))]) rfl ?_
  rcases hn_slot hI1 hd (σ1 2) with ⟨t, ht1, ht2, ht3, ht4⟩ | ⟨hno, ht4⟩
  · rw [ht4]
    have htK : hn_ns σ1 t = hn_num h n := ht2.trans hkn
    have hhas : hn_has (hn_num h n) (D9 d) := (hn_XL_has hL1 hd).mpr ⟨t, ht1, htK⟩
    refine lv_istore_n (lv' := [(3, .int (nI t)), (0, .ref (ad 0)), (1, .int (nI d)), (2, .int (nI n))]) hx hb dX_remove_14 rfl hl (by decide) rfl (fun ls hl => ?_)
    refine lv_iload_n hx hb dX_remove_15 rfl (lv_at hl 0 rfl) ?_
    refine W.callR (W.runS (As := [.int (nI t)]) (rest := []) ⟨hx, hb, hml, hown, hts⟩ (cX_isSlot_ok l (nI t)) (cwS 1 hts gX_X_isSlot rfl rfl rfl (by decide +kernel) ⟨Nat.le_of_ble_eq_true rfl, Nat.le_of_ble_eq_true rfl⟩) hn_pre0 rfl rfl hl.1 rfl (lv_room (Nat.le_of_ble_eq_true rfl)) dX_remove_16 ⟨Nat.le_of_ble_eq_true rfl, Nat.le_of_ble_eq_true rfl⟩) ?_
    refine W.eq (g2 := F0 m 19 ls [.int (hn_isl (nI t))]) rfl ?_
    rw [show (hn_isl (nI t) : Int32) = 1 from hn_isl_n ht3]
    refine lv_if_ne (tgt := 32) hx hb dX_remove_19 (by decide) (fun c_19 => ?_) (fun c_19 => absurd c_19 (by decide))
    have hhead : 384 + d * 16 + hn_bk (σ1 2) 0 = 384 + (16 * d + hn_bk (σ1 2) 0) := by omega
    rw [hhead] at hch8
    have hmemB : t ∈ B (16 * d + hn_bk (σ1 2) 0) := ((hI1.bucket hd (σ1 2) t).mpr ⟨ht1, ht2⟩).1
    refine lv_aload_n hx hb dX_remove_32 rfl (lv_at hl 1 rfl) ?_
    refine lv_aload_n hx hb dX_remove_33 rfl (lv_at hl 1 rfl) ?_
    refine va_get (D := D) (ci := 0) (v := .ref (ad 8)) (C := RX) (T := FX) (N := 10) hx hb hts iX hown hK hP 0 rfl rfl 8 (by decide) (hts _ mX_f_bucketLinks) (fun _ h9 => h9) rfl dX_remove_34 ?_
    refine lv_aload_n hx hb dX_remove_37 rfl (lv_at hl 1 rfl) ?_
    refine lv_iload_n hx hb dX_remove_38 rfl (lv_at hl 2 rfl) ?_
    refine W.callR (W.runV (As := [.int (nI d)]) (rest := [.ref (ad 8), .ref (ad 0)]) ⟨hx, hb, hml, hown, hts⟩ (cX_bucketHead_ok l D cI cL ad σ1 d hd) (cwV 1 hts gX_X_bucketHead rfl rfl rfl (by decide +kernel) ⟨Nat.le_of_ble_eq_true rfl, Nat.le_of_ble_eq_true rfl⟩) (hn_preV hP hK (ci := 0) (q0 := 0) rfl rfl) rfl rfl hl.1 rfl (lv_room (Nat.le_of_ble_eq_true rfl)) dX_remove_39 ⟨Nat.le_of_ble_eq_true rfl, Nat.le_of_ble_eq_true rfl⟩) ?_
    refine W.eq (g2 := F0 m 42 ls [.int (nI (384 + d * 16 + hn_bk (σ1 2) 0)), .ref (ad 8), .ref (ad 0)]) rfl ?_
    rw [hhead]
    have hFc := va_free (wc := hn_wX ad cI (σ1)) hD hS hA [0, 1, 2, 3, 4, 5, 6, 7, 8, 9] rfl
    refine va_callv (va_runV (As := [.ref (ad 8), .int (nI (384 + (16 * d + hn_bk (σ1 2) 0)))]) (rest := []) ⟨hx, hb, hml, hown, hts⟩ (cX_unlink8_ok l D cI cL ad σ1 (384 + (16 * d + hn_bk (σ1 2) 0)) (by omega) (B (16 * d + hn_bk (σ1 2) 0)) (hI1.lenB (by omega)) hch8 t (hI1.2.1 _ (by omega)).2.1 (fun z => by have := hI1.B (by omega) _ z; omega) hmemB ht2 _) (cwV 2 hts gX_X_unlinkKey rfl rfl rfl (by decide +kernel) ⟨Nat.le_of_ble_eq_true rfl, Nat.le_of_ble_eq_true rfl⟩) (hn_preVW hP hK hD (ci := 0) (q0 := 0) rfl rfl) rfl rfl hl.1 rfl (lv_room (Nat.le_of_ble_eq_true rfl)) dX_remove_42 ⟨Nat.le_of_ble_eq_true rfl, Nat.le_of_ble_eq_true rfl⟩) hS (fun q _ h => hFc q h) hFc (fun σ2 t8 H1 locs ht hvm hw2 hB hz1 hk1 hS => ?_)
    obtain ⟨hP1, hK1, hD1⟩ := hB
    rw [ht] at hP1
    have hD : va_D A (hn_wX ad cI (σ2)) := hD1.weaken (fun _ q _ h => hFc q.1 h)
    have hP : va_P D vwCl (hn_wX ad cI (σ2)) H1 := hP1
    generalize H1 = H at hP hS ⊢
    try dsimp only at hw2
    refine lv_aload_n hx hb dX_remove_45 rfl (lv_at hl 1 rfl) ?_
    refine lv_aload_n hx hb dX_remove_46 rfl (lv_at hl 1 rfl) ?_
    refine va_get (D := D) (ci := 0) (v := .ref (ad 9)) (C := RX) (T := FX) (N := 10) hx hb hts iX hown hK hP 0 rfl rfl 9 (by decide) (hts _ mX_f_orderLinks) (fun _ h9 => h9) rfl dX_remove_47 ?_
    refine lv_iload_n hx hb dX_remove_50 rfl (lv_at hl 2 rfl) ?_
    refine W.callR (W.runS (As := [.int (nI d)]) (rest := [.ref (ad 9), .ref (ad 0)]) ⟨hx, hb, hml, hown, hts⟩ (cX_orderHead_ok l (nI d)) (cwS 1 hts gX_X_orderHead rfl rfl rfl (by decide +kernel) ⟨Nat.le_of_ble_eq_true rfl, Nat.le_of_ble_eq_true rfl⟩) hn_pre0 rfl rfl hl.1 rfl (lv_room (Nat.le_of_ble_eq_true rfl)) dX_remove_51 ⟨Nat.le_of_ble_eq_true rfl, Nat.le_of_ble_eq_true rfl⟩) ?_
    refine W.eq (g2 := F0 m 54 ls [.int (384 + nI d), .ref (ad 9), .ref (ad 0)]) rfl ?_
    rw [show (384 + nI d : Int32) = nI (384 + d) from nI_add 384 d]
    have hFc := va_free (wc := hn_wX ad cI (σ2)) hD hS hA [0, 1, 2, 3, 4, 5, 6, 7, 8, 9] rfl
    refine va_callv (va_runV (As := [.ref (ad 9), .int (nI (384 + d))]) (rest := []) ⟨hx, hb, hml, hown, hts⟩ (cX_unlink9_ok l D cI cL ad σ2 (384 + d) (by omega) (L d) (hI1.lenL hd) (by rw [hw2]; exact (hI1.1 d hd).1) t (by rw [hw2]; exact (hI1.1 d hd).2.1) (hn_head (hI1.1 d hd).2.2.1 hd (by omega)) ht1 (by rw [hw2]; exact ht2) _) (cwV 2 hts gX_X_unlinkKey rfl rfl rfl (by decide +kernel) ⟨Nat.le_of_ble_eq_true rfl, Nat.le_of_ble_eq_true rfl⟩) (hn_preVW hP hK hD (ci := 0) (q0 := 0) rfl rfl) rfl rfl hl.1 rfl (lv_room (Nat.le_of_ble_eq_true rfl)) dX_remove_54 ⟨Nat.le_of_ble_eq_true rfl, Nat.le_of_ble_eq_true rfl⟩) hS (fun q _ h => hFc q h) hFc (fun σ3 t8 H1 locs ht hvm hw3 hB hz1 hk1 hS => ?_)
    obtain ⟨hP1, hK1, hD1⟩ := hB
    rw [ht] at hP1
    have hD : va_D A (hn_wX ad cI (σ3)) := hD1.weaken (fun _ q _ h => hFc q.1 h)
    have hP : va_P D vwCl (hn_wX ad cI (σ3)) H1 := hP1
    generalize H1 = H at hP hS ⊢
    try dsimp only at hw3
    refine lv_aload_n hx hb dX_remove_57 rfl (lv_at hl 1 rfl) ?_
    refine va_get (D := D) (ci := 0) (v := .ref (ad 5)) (C := RX) (T := FX) (N := 10) hx hb hts iX hown hK hP 0 rfl rfl 5 (by decide) (hts _ mX_f_lengths) (fun _ h9 => h9) rfl dX_remove_58 ?_
    refine lv_iload_n hx hb dX_remove_61 rfl (lv_at hl 0 rfl) ?_
    refine lv_iconst (v := 0) hx hb dX_remove_62 (by decide) ?_
    refine va_iast hx hb hK hP hD hS 5 0 rfl rfl (vp_in_nI (show t < 384 from by omega) (by omega)) dX_remove_63 (fun H locs hP hD hS => ?_)
    rw [nI_clamp (show t < 2 ^ 31 by omega)] at hP hD
    obtain ⟨σ4, eσ4⟩ : ∃ z : Nat → Nat → Int32, z = hn_up (σ3) 5 (upd (σ3 5) t 0) := ⟨_, rfl⟩
    have hP : va_P D vwCl (hn_wX ad cI (σ4)) H := by rw [eσ4]; exact hP
    have hD : va_D A (hn_wX ad cI (σ4)) := by rw [eσ4]; exact hD
    have hpos : 0 < (L d).length := List.length_pos_of_mem ht1
    refine lv_aload_n hx hb dX_remove_64 rfl (lv_at hl 1 rfl) ?_
    refine va_get (D := D) (ci := 0) (v := .ref (ad 7)) (C := RX) (T := FX) (N := 10) hx hb hts iX hown hK hP 0 rfl rfl 7 (by decide) (hts _ mX_f_counts) (fun _ h9 => h9) rfl dX_remove_65 ?_
    refine lv_iload_n hx hb dX_remove_68 rfl (lv_at hl 2 rfl) ?_
    refine lv_dup2_11 hx hb dX_remove_69 rfl rfl ?_
    refine va_iald hx hb hK hP 7 0 rfl rfl (vp_in_nI (show d < 8 from hd) (by omega)) dX_remove_70 ?_
    rw [nI_clamp (show d < 2 ^ 31 by omega)]
    rw [show σ4 7 d = nI (L d).length from by rw [eσ4, hw3, hw2]; exact (hI1.1 d hd).2.2.2]
    refine lv_iconst (v := 1) hx hb dX_remove_71 (by decide) ?_
    refine lv_isub hx hb dX_remove_72 ?_
    rw [show ((nI (L d).length) - 1 : Int32) = nI ((L d).length - 1) from pk_sub (b := 1) (by omega)]
    refine va_iast hx hb hK hP hD hS 7 0 rfl rfl (vp_in_nI (show d < 8 from hd) (by omega)) dX_remove_73 (fun H locs hP hD hS => ?_)
    rw [nI_clamp (show d < 2 ^ 31 by omega)] at hP hD
    obtain ⟨σ5, eσ5⟩ : ∃ z : Nat → Nat → Int32, z = hn_up (σ4) 7 (upd (σ4 7) d (nI ((L d).length - 1))) := ⟨_, rfl⟩
    have hP : va_P D vwCl (hn_wX ad cI (σ5)) H := by rw [eσ5]; exact hP
    have hD : va_D A (hn_wX ad cI (σ5)) := by rw [eσ5]; exact hD
    refine lv_aload_n hx hb dX_remove_74 rfl (lv_at hl 1 rfl) ?_
    refine va_get (D := D) (ci := 0) (v := .ref (ad 6)) (C := RX) (T := FX) (N := 10) hx hb hts iX hown hK hP 0 rfl rfl 6 (by decide) (hts _ mX_f_ids) (fun _ h9 => h9) rfl dX_remove_75 ?_
    refine lv_iload_n hx hb dX_remove_78 rfl (lv_at hl 0 rfl) ?_
    refine va_iald hx hb hK hP 6 0 rfl rfl (vp_in_nI (show t < 384 from by omega) (by omega)) dX_remove_79 ?_
    rw [nI_clamp (show t < 2 ^ 31 by omega)]
    rw [show σ5 6 t = σ1 6 t from by rw [eσ5, eσ4, hw3, hw2]; rfl]
    obtain ⟨g1, g2⟩ := hn_rem_X (σ' := σ5) hI1 hL1 hd ht1 ht2 (j := 16 * d + hn_bk (σ1 2) 0) (by rw [hn_bk_nm ht2]) (by rw [eσ5, eσ4, hw3, hw2]; rfl) (by rw [eσ5, eσ4, hw3, hw2]; rfl) (by rw [eσ5, eσ4, hw3, hw2]; rfl) (by rw [eσ5, eσ4, hw3, hw2]; rfl) (by rw [eσ5, eσ4, hw3, hw2]; rfl) (by rw [eσ5, eσ4, hw3, hw2]; rfl)
    refine vx_ret ?_
    refine W.widen (k := 3) (n := 18) (Nat.le_of_ble_eq_true rfl) (Nat.le_of_ble_eq_true rfl) ?_
    exact W.iret (v := (σ1 6 t)) hx hb hr (fun t9 ht9 hW9 => ⟨⟨σ1 6 t, σ5, rfl, ⟨hn_ud D9 d (hn_er (hn_nm (σ1 2) 0) (D9 d)), Or.inr ⟨d, n, hok, Or.inr ⟨rfl, hhas, by rw [hkn], by rw [hn_XL_at hI1 hL1 hd ht1 htK]; rfl⟩⟩, hn_XR_of g1 g2 (by rw [eσ5, eσ4, hw3, hw2]; exact hn_XH_keep hH1 rfl rfl rfl)⟩, by rw [ht9]; exact hP, va_K.moved hW9.alike hK, hD⟩, hS.F ht9⟩) hS.2.2 dX_remove_80
  · rw [ht4]
    have hnh : ¬ hn_has (hn_num h n) (D9 d) := fun z => by obtain ⟨t, g1, g2⟩ := (hn_XL_has hL1 hd).mp z; exact hno t g1 (g2.trans hkn.symm)
    refine lv_istore_n (lv' := [(3, .int (-1)), (0, .ref (ad 0)), (1, .int (nI d)), (2, .int (nI n))]) hx hb dX_remove_14 rfl hl (by decide) rfl (fun ls hl => ?_)
    refine lv_iload_n hx hb dX_remove_15 rfl (lv_at hl 0 rfl) ?_
    refine W.callR (W.runS (As := [.int (-1)]) (rest := []) ⟨hx, hb, hml, hown, hts⟩ (cX_isSlot_ok l (-1)) (cwS 1 hts gX_X_isSlot rfl rfl rfl (by decide +kernel) ⟨Nat.le_of_ble_eq_true rfl, Nat.le_of_ble_eq_true rfl⟩) hn_pre0 rfl rfl hl.1 rfl (lv_room (Nat.le_of_ble_eq_true rfl)) dX_remove_16 ⟨Nat.le_of_ble_eq_true rfl, Nat.le_of_ble_eq_true rfl⟩) ?_
    refine W.eq (g2 := F0 m 19 ls [.int (hn_isl (-1))]) rfl ?_
    rw [show (hn_isl (-1) : Int32) = 0 from hn_isl_m1]
    refine lv_if_ne (tgt := 32) hx hb dX_remove_19 (by decide) (fun c_20 => absurd rfl c_20) (fun c_20 => ?_)
    exact hn_throwB hx hb hl0 hts hown hG hAz hS (hl.1.trans hml.symm) (is := 85) (text := "the name is not there") (by decide +kernel) dX_remove_22 dX_remove_25 dX_remove_26 dX_remove_28 dX_remove_31 htab (Nat.le_of_ble_eq_true rfl) (Nat.le_of_ble_eq_true rfl) (Nat.le_of_ble_eq_true rfl) (Nat.le_of_ble_eq_true rfl) hlocks (fun t9 ha9 g1 g2 => ⟨σ1, trivial, ⟨⟨2, Or.inr ⟨rfl, rfl⟩, Or.inr ⟨d, n, hok, Or.inl ⟨rfl, rfl, hnh⟩⟩, hX1⟩, (hn_xcT hP hK hD hS ha9 g1 g2).1⟩, (hn_xcT hP hK hD hS ha9 g1 g2).2⟩) hS.2.2 (Nat.le_of_ble_eq_true rfl) (Nat.le_of_ble_eq_true rfl)

set_option maxHeartbeats 4000000 in
set_option maxRecDepth 100000 in
theorem cX_add_ok (l : Launch) (hl0 : l.stackTraces = false) (D : va_G) (cI cL : ClassId) (z0 : Nat) (sa : Nat → Nat) (ad : Nat → Nat) (σ : Nat → Nat → Int32) (d9 n9 x9 : Int32) (h : Nat → Nat) (D9 : Nat → List hn_E) (tn TK : Nat) (hXR : hn_XR σ h D9 tn TK) (hO : hn_DO D9)  (sz : Nat) : vx_Met l yX_add wX_add ({ frames := 7, cells := 4, slots := 24, locals := 105 }) (hn_PX D (hn_ty cI cL) (hn_wX ad cI (σ) : va_W) sz z0 sa [.ref (ad 0), .int d9, .int n9, .int x9]) (va_Qi (fun (r : Int32) (τ9 : Nat → Nat → Int32) => ∃ D8, hn_addS h D9 d9 n9 x9 0 r D8 ∧ hn_XR τ9 h D8 tn TK) (fun (τ9 : Nat → Nat → Int32) t => hn_at D (hn_ty cI cL) (va_A (hn_wX ad cI (σ) : va_W) sz) (hn_wX ad cI (τ9)) t) (va_A (hn_wX ad cI (σ) : va_W) sz)) (vx_X (fun _ : Nat → Nat → Int32 => True) (fun E (τ9 : Nat → Nat → Int32) t => (∃ c : Nat, hn_exc E c ∧ hn_addS h D9 d9 n9 x9 c 0 D9 ∧ hn_XR τ9 h D9 tn TK) ∧ hn_at D (hn_ty cI cL) (va_A (hn_wX ad cI (σ) : va_W) sz) (hn_wX ad cI (τ9)) t) (va_A (hn_wX ad cI (σ) : va_W) sz)) 4 24 (va_A (hn_wX ad cI (σ) : va_W) sz) := by
  refine vx_ofW (cc := cX_add) (maxL := 5) (ret := (some .int)) (by decide) rfl ?_
  intro p e s m args below meth c s₁ B hml htab hv
  obtain ⟨rfl, hsz, hP, hK, hD0, hz0, hG⟩ := hv
  subst hsz
  have hD := hD0.self (sz := s.heap.size)
  have hAz := hn_Az hD0 hz0
  generalize hAe : va_A (hn_wX ad cI (σ) : va_W) s.heap.size = A at hD hAz ⊢
  have hA : ∀ q : Nat, s.heap.size ≤ q → A q := fun q h => by rw [← hAe]; exact Or.inr h
  have hS : va_S A s.heap s.heap [] := va_S.rf
  have hP : va_P D vwCl (hn_wX ad cI (σ) : va_W) s.heap := hP
  have hx := B.exec
  have hb := B.bytes
  have hr := B.returns
  have hts0 := atoms_spec (ws := wX_add) B.pre
  have hts : ∀ w ∈ hn_tb, w.before _ s = true := fun w hw => hts0 w (List.mem_cons_of_mem _ hw)
  have hown : s.vm.findClass RX = some m.cls := findClass_of_methodNamed B.named
  have hlocks := B.notSynchronized
  have hl := lv_entry [.ref (ad 0), .int d9, .int n9, .int x9] (n := 5) (Nat.le_of_ble_eq_true rfl)
  rw [lg_entry_eq]
  generalize (lg_sl [.ref (ad 0), .int d9, .int n9, .int x9] ++ List.replicate (5 - (lg_sl [.ref (ad 0), .int d9, .int n9, .int x9]).length) Slot.unset).toArray = ls at hl ⊢
  have hl : lv_has ls 5 [(0, .ref (ad 0)), (1, .int d9), (2, .int n9), (3, .int x9)] := hl
  have hhd : ∀ k, k < 20 → hn_by (σ 1) k = h k := by obtain ⟨L, B, -, -, hH⟩ := hn_XR_to hXR; exact hH.1
  refine lv_iload_n hx hb dX_add_0 rfl (lv_at hl 1 rfl) ?_
  have hP0 : va_P D vwCl ([] : va_W) s.heap := fun k q h => by cases h
  have hD00 : va_D (fun q => z0 ≤ q) ([] : va_W) := ⟨fun i j p q h => (by cases h), fun k q h => (by cases h)⟩
  refine vx_callv (vx_runS (As := [.int d9]) (rest := []) ⟨hx, hb, hml, hown, hts⟩ (cX_requireDirectory_ok l hl0 D cI cL z0 sa d9 _) (cwS 1 hts gX_X_requireDirectory rfl rfl rfl (by decide +kernel) ⟨(Nat.le_of_ble_eq_true rfl), (Nat.le_of_ble_eq_true rfl)⟩) (hn_preXS hP0 hK hD00 hz0 hG hS hAz) rfl rfl hl.1 rfl (lv_room (Nat.le_of_ble_eq_true rfl)) dX_add_1 ⟨(Nat.le_of_ble_eq_true rfl), (Nat.le_of_ble_eq_true rfl)⟩) hS (fun q h1 h2 => (hn_A0 h1 h2).elim) (fun q h => hn_A1 hA hS h) (fun q h1 h2 => (hn_A0 h1 h2).elim) (fun E ce q9 u t8 H1 locs ht hvm hpx hBX hz1 hk1 hS hce hcv hcl => ?_) (fun u t8 H1 locs ht hvm hw hB hz1 hk1 hS => ?_)
  · have hP : va_P D vwCl (hn_wX ad cI (σ)) H1 := hn_kept0 hP hk1
    obtain ⟨hx1, -⟩ := hBX
    exact vx_out (fun x hx => (htab x hx).elim) hlocks hce hcv hcl (fun t9 ht9 ha9 => ⟨σ, trivial, ⟨⟨1, Or.inl ⟨hx1.1, rfl⟩, Or.inl ⟨rfl, rfl, fun z => hx1.2 z.1⟩, hXR⟩, by rw [ht9]; exact hP, va_K.moved ha9 hK, hD⟩, hS.F ht9⟩) hS.2.2 (Nat.le_of_ble_eq_true rfl) (Nat.le_of_ble_eq_true rfl)
  have hP : va_P D vwCl (hn_wX ad cI (σ)) H1 := hn_kept0 hP hk1
  generalize H1 = H at hP hS ⊢
  have hd9 : hn_dir d9 := hw
  refine lv_iload_n hx hb dX_add_4 rfl (lv_at hl 3 rfl) ?_
  have hP0 : va_P D vwCl ([] : va_W) H := fun k q h => by cases h
  have hD00 : va_D (fun q => z0 ≤ q) ([] : va_W) := ⟨fun i j p q h => (by cases h), fun k q h => (by cases h)⟩
  refine vx_callv (vx_runS (As := [.int x9]) (rest := []) ⟨hx, hb, hml, hown, hts⟩ (cX_requireId_ok l hl0 D cI cL z0 sa x9 _) (cwS 1 hts gX_X_requireId rfl rfl rfl (by decide +kernel) ⟨(Nat.le_of_ble_eq_true rfl), (Nat.le_of_ble_eq_true rfl)⟩) (hn_preXS hP0 hK hD00 hz0 hG hS hAz) rfl rfl hl.1 rfl (lv_room (Nat.le_of_ble_eq_true rfl)) dX_add_5 ⟨(Nat.le_of_ble_eq_true rfl), (Nat.le_of_ble_eq_true rfl)⟩) hS (fun q h1 h2 => (hn_A0 h1 h2).elim) (fun q h => hn_A1 hA hS h) (fun q h1 h2 => (hn_A0 h1 h2).elim) (fun E ce q9 u t8 H1 locs ht hvm hpx hBX hz1 hk1 hS hce hcv hcl => ?_) (fun u t8 H1 locs ht hvm hw hB hz1 hk1 hS => ?_)
  · have hP : va_P D vwCl (hn_wX ad cI (σ)) H1 := hn_kept0 hP hk1
    obtain ⟨hx1, -⟩ := hBX
    exact vx_out (fun x hx => (htab x hx).elim) hlocks hce hcv hcl (fun t9 ht9 ha9 => ⟨σ, trivial, ⟨⟨1, Or.inl ⟨hx1.1, rfl⟩, Or.inl ⟨rfl, rfl, fun z => hx1.2 z.2.2⟩, hXR⟩, by rw [ht9]; exact hP, va_K.moved ha9 hK, hD⟩, hS.F ht9⟩) hS.2.2 (Nat.le_of_ble_eq_true rfl) (Nat.le_of_ble_eq_true rfl)
  have hP : va_P D vwCl (hn_wX ad cI (σ)) H1 := hn_kept0 hP hk1
  generalize H1 = H at hP hS ⊢
  have hi9 : hn_isid x9 := hw
  refine lv_aload_n hx hb dX_add_8 rfl (lv_at hl 0 rfl) ?_
  refine lv_iload_n hx hb dX_add_9 rfl (lv_at hl 2 rfl) ?_
  have hFc := va_free (wc := hn_wX ad cI (σ)) hD hS hA [0, 1, 2, 3, 4, 5, 6, 7, 8, 9] rfl
  refine vx_callv (vx_runV (As := [.int n9]) (rest := []) ⟨hx, hb, hml, hown, hts⟩ (cX_takeKey_ok l hl0 D cI cL z0 sa ad σ h hhd n9 _) (cwV 1 hts gX_X_takeKey rfl rfl rfl (by decide +kernel) ⟨(Nat.le_of_ble_eq_true rfl), (Nat.le_of_ble_eq_true rfl)⟩) (hn_preXV hP hK (hD.weaken (fun _ q _ h => hAz q.1 h)) hz0 hG hS hAz (ci := 0) (q0 := 0) rfl rfl) rfl rfl hl.1 rfl (lv_room (Nat.le_of_ble_eq_true rfl)) dX_add_10 ⟨(Nat.le_of_ble_eq_true rfl), (Nat.le_of_ble_eq_true rfl)⟩) hS (fun q _ h => hFc q h) hFc (fun q _ h => hFc q h) (fun E ce q9 σ2 t8 H1 locs ht hvm hpx hBX hz1 hk1 hS hce hcv hcl => ?_) (fun σ1 t8 H1 locs ht hvm hw hB hz1 hk1 hS => ?_)
  · obtain ⟨⟨hx1, hx2, hx3⟩, hP1, hK1, hD1⟩ := hBX
    rw [ht] at hP1
    rw [hx3] at hP1 hD1
    have hD : va_D A (hn_wX ad cI (σ)) := hD1.weaken (fun _ q _ h => hFc q.1 h)
    have hP : va_P D vwCl (hn_wX ad cI (σ)) H1 := hP1
    exact vx_out (fun x hx => (htab x hx).elim) hlocks hce hcv hcl (fun t9 ht9 ha9 => ⟨σ, trivial, ⟨⟨1, Or.inl ⟨hx1, rfl⟩, Or.inl ⟨rfl, rfl, fun z => hx2 z.2.1⟩, hXR⟩, by rw [ht9]; exact hP, va_K.moved ha9 hK, hD⟩, hS.F ht9⟩) hS.2.2 (Nat.le_of_ble_eq_true rfl) (Nat.le_of_ble_eq_true rfl)
  obtain ⟨hP1, hK1, hD1⟩ := hB
  rw [ht] at hP1
  have hD : va_D A (hn_wX ad cI (σ1)) := hD1.weaken (fun _ q _ h => hFc q.1 h)
  have hP : va_P D vwCl (hn_wX ad cI (σ1)) H1 := hP1
  generalize H1 = H at hP hS ⊢
  try dsimp only at hw
  obtain ⟨n, k9, en, h1, h2, hz, es1, hkey⟩ := hw
  obtain ⟨d, hd, ed⟩ := hd9
  subst ed
  subst en
  have hok : hn_ok h (nI d) (nI n) d n := ⟨rfl, hd, rfl, h1, h2, hz⟩
  have hX1 : hn_XR σ1 h D9 tn TK := by rw [es1]; exact hn_XR_keep hXR rfl rfl rfl rfl rfl rfl rfl rfl rfl
  have hkn : hn_nm (σ1 2) 0 = hn_num h n := by rw [es1]; exact hkey
  obtain ⟨L, B, hI1, hL1, hH1⟩ := hn_XR_to hX1
  have hb16 := hn_bk_lt (σ1 2) 0
  have hch8 : hn_ch (σ1 8) (384 + d * 16 + hn_bk (σ1 2) 0) (B (16 * d + hn_bk (σ1 2) 0)) := by rw [show 384 + d * 16 + hn_bk (σ1 2) 0 = 384 + (16 * d + hn_bk (σ1 2) 0) by omega]; exact (hI1.2.1 _ (by omega)).1
  refine lv_aload_n hx hb dX_add_13 rfl (lv_at hl 0 rfl) ?_
  refine lv_iload_n hx hb dX_add_14 rfl (lv_at hl 1 rfl) ?_
  refine W.callR (W.runV (As := [.int (nI d)]) (rest := []) ⟨hx, hb, hml, hown, hts⟩ (cX_slotOfKey_ok l D cI cL ad σ1 d hd (B (16 * d + hn_bk (σ1 2) 0)) (hI1.lenB (by omega)) hch8) (cwV 1 hts gX_X_slotOfKey rfl rfl rfl (by decide +kernel) ⟨Nat.le_of_ble_eq_true rfl, Nat.le_of_ble_eq_true rfl⟩) (hn_preV hP hK (ci := 0) (q0 := 0) rfl rfl) rfl rfl hl.1 rfl (lv_room (Nat.le_of_ble_eq_true rfl)) dX_add_15 ⟨Nat.le_of_ble_eq_true rfl, Nat.le_of_ble_eq_true rfl⟩) ?_
  refine W.eq (g2 := F0 m 18 ls [.int (hn_find (hn_ns σ1) (hn_nm (σ1 2) 0) (B (16 * d + hn_bk (σ1 2) 0)))]) rfl ?_
  rcases hn_slot hI1 hd (σ1 2) with ⟨t, ht1, ht2, ht3, ht4⟩ | ⟨hno, ht4⟩
  · rw [ht4]
    have htK : hn_ns σ1 t = hn_num h n := ht2.trans hkn
    have hhas : hn_has (hn_num h n) (D9 d) := (hn_XL_has hL1 hd).mpr ⟨t, ht1, htK⟩
    refine W.callR (W.runS (As := [.int (nI t)]) (rest := []) ⟨hx, hb, hml, hown, hts⟩ (cX_isSlot_ok l (nI t)) (cwS 1 hts gX_X_isSlot rfl rfl rfl (by decide +kernel) ⟨Nat.le_of_ble_eq_true rfl, Nat.le_of_ble_eq_true rfl⟩) hn_pre0 rfl rfl hl.1 rfl (lv_room (Nat.le_of_ble_eq_true rfl)) dX_add_18 ⟨Nat.le_of_ble_eq_true rfl, Nat.le_of_ble_eq_true rfl⟩) ?_
    refine W.eq (g2 := F0 m 21 ls [.int (hn_isl (nI t))]) rfl ?_
    rw [show (hn_isl (nI t) : Int32) = 1 from hn_isl_n ht3]
    refine lv_if_eq (tgt := 34) hx hb dX_add_21 (by decide) (fun c_21 => absurd c_21 (by decide)) (fun c_21 => ?_)
    exact hn_throwB hx hb hl0 hts hown hG hAz hS (hl.1.trans hml.symm) (is := 61) (text := "the name is there") (by decide +kernel) dX_add_24 dX_add_27 dX_add_28 dX_add_30 dX_add_33 htab (Nat.le_of_ble_eq_true rfl) (Nat.le_of_ble_eq_true rfl) (Nat.le_of_ble_eq_true rfl) (Nat.le_of_ble_eq_true rfl) hlocks (fun t9 ha9 g1 g2 => ⟨σ1, trivial, ⟨⟨2, Or.inr ⟨rfl, rfl⟩, Or.inr ⟨d, n, hok, hi9, Or.inl ⟨rfl, rfl, Or.inl hhas⟩⟩, hX1⟩, (hn_xcT hP hK hD hS ha9 g1 g2).1⟩, (hn_xcT hP hK hD hS ha9 g1 g2).2⟩) hS.2.2 (Nat.le_of_ble_eq_true rfl) (Nat.le_of_ble_eq_true rfl)
  · rw [ht4]
    have hnh : ¬ hn_has (hn_num h n) (D9 d) := fun z => by obtain ⟨t, g1, g2⟩ := (hn_XL_has hL1 hd).mp z; exact hno t g1 (g2.trans hkn.symm)
    refine W.callR (W.runS (As := [.int (-1)]) (rest := []) ⟨hx, hb, hml, hown, hts⟩ (cX_isSlot_ok l (-1)) (cwS 1 hts gX_X_isSlot rfl rfl rfl (by decide +kernel) ⟨Nat.le_of_ble_eq_true rfl, Nat.le_of_ble_eq_true rfl⟩) hn_pre0 rfl rfl hl.1 rfl (lv_room (Nat.le_of_ble_eq_true rfl)) dX_add_18 ⟨Nat.le_of_ble_eq_true rfl, Nat.le_of_ble_eq_true rfl⟩) ?_
    refine W.eq (g2 := F0 m 21 ls [.int (hn_isl (-1))]) rfl ?_
    rw [show (hn_isl (-1) : Int32) = 0 from hn_isl_m1]
    refine lv_if_eq (tgt := 34) hx hb dX_add_21 (by decide) (fun c_22 => ?_) (fun c_22 => absurd rfl c_22)
    refine lv_aload_n hx hb dX_add_34 rfl (lv_at hl 0 rfl) ?_
    refine lv_iload_n hx hb dX_add_35 rfl (lv_at hl 1 rfl) ?_
    refine W.callR (W.runV (As := [.int (nI d)]) (rest := []) ⟨hx, hb, hml, hown, hts⟩ (cX_freeSlot_ok l D cI cL ad σ1 d hd) (cwV 1 hts gX_X_freeSlot rfl rfl rfl (by decide +kernel) ⟨Nat.le_of_ble_eq_true rfl, Nat.le_of_ble_eq_true rfl⟩) (hn_preV hP hK (ci := 0) (q0 := 0) rfl rfl) rfl rfl hl.1 rfl (lv_room (Nat.le_of_ble_eq_true rfl)) dX_add_36 ⟨Nat.le_of_ble_eq_true rfl, Nat.le_of_ble_eq_true rfl⟩) ?_
    refine W.eq (g2 := F0 m 39 ls [.int (hn_fr (σ1 5) (d * 48) 48)]) rfl ?_
    rcases hn_free hI1 hd with ⟨hfull, hf9⟩ | ⟨hnf, t, g1, g2, g3, hf9⟩
    · rw [hf9]
      refine lv_istore (lv' := [(4, .int (-1)), (0, .ref (ad 0)), (1, .int (nI d)), (2, .int (nI n)), (3, .int x9)]) hx hb dX_add_39 hl (by decide) rfl (fun ls hl => ?_)
      refine lv_iload hx hb dX_add_41 (lv_at hl 0 rfl) ?_
      refine W.callR (W.runS (As := [.int (-1)]) (rest := []) ⟨hx, hb, hml, hown, hts⟩ (cX_isSlot_ok l (-1)) (cwS 1 hts gX_X_isSlot rfl rfl rfl (by decide +kernel) ⟨Nat.le_of_ble_eq_true rfl, Nat.le_of_ble_eq_true rfl⟩) hn_pre0 rfl rfl hl.1 rfl (lv_room (Nat.le_of_ble_eq_true rfl)) dX_add_43 ⟨Nat.le_of_ble_eq_true rfl, Nat.le_of_ble_eq_true rfl⟩) ?_
      refine W.eq (g2 := F0 m 46 ls [.int (hn_isl (-1))]) rfl ?_
      rw [show (hn_isl (-1) : Int32) = 0 from hn_isl_m1]
      refine lv_if_ne (tgt := 59) hx hb dX_add_46 (by decide) (fun c_23 => absurd rfl c_23) (fun c_23 => ?_)
      exact hn_throwB hx hb hl0 hts hown hG hAz hS (hl.1.trans hml.symm) (is := 69) (text := "the directory is full") (by decide +kernel) dX_add_49 dX_add_52 dX_add_53 dX_add_55 dX_add_58 htab (Nat.le_of_ble_eq_true rfl) (Nat.le_of_ble_eq_true rfl) (Nat.le_of_ble_eq_true rfl) (Nat.le_of_ble_eq_true rfl) hlocks (fun t9 ha9 g1 g2 => ⟨σ1, trivial, ⟨⟨2, Or.inr ⟨rfl, rfl⟩, Or.inr ⟨d, n, hok, hi9, Or.inl ⟨rfl, rfl, Or.inr (by rw [hn_XL_len hL1 hd]; exact hfull)⟩⟩, hX1⟩, (hn_xcT hP hK hD hS ha9 g1 g2).1⟩, (hn_xcT hP hK hD hS ha9 g1 g2).2⟩) hS.2.2 (Nat.le_of_ble_eq_true rfl) (Nat.le_of_ble_eq_true rfl)
    · rw [hf9]
      have ht3 : t < 384 := by omega
      refine lv_istore (lv' := [(4, .int (nI t)), (0, .ref (ad 0)), (1, .int (nI d)), (2, .int (nI n)), (3, .int x9)]) hx hb dX_add_39 hl (by decide) rfl (fun ls hl => ?_)
      refine lv_iload hx hb dX_add_41 (lv_at hl 0 rfl) ?_
      refine W.callR (W.runS (As := [.int (nI t)]) (rest := []) ⟨hx, hb, hml, hown, hts⟩ (cX_isSlot_ok l (nI t)) (cwS 1 hts gX_X_isSlot rfl rfl rfl (by decide +kernel) ⟨Nat.le_of_ble_eq_true rfl, Nat.le_of_ble_eq_true rfl⟩) hn_pre0 rfl rfl hl.1 rfl (lv_room (Nat.le_of_ble_eq_true rfl)) dX_add_43 ⟨Nat.le_of_ble_eq_true rfl, Nat.le_of_ble_eq_true rfl⟩) ?_
      refine W.eq (g2 := F0 m 46 ls [.int (hn_isl (nI t))]) rfl ?_
      rw [show (hn_isl (nI t) : Int32) = 1 from hn_isl_n ht3]
      refine lv_if_ne (tgt := 59) hx hb dX_add_46 (by decide) (fun c_24 => ?_) (fun c_24 => absurd c_24 (by decide))
      have hhead : 384 + d * 16 + hn_bk (σ1 2) 0 = 384 + (16 * d + hn_bk (σ1 2) 0) := by omega
      rw [hhead] at hch8
      refine lv_aload_n hx hb dX_add_59 rfl (lv_at hl 1 rfl) ?_
      refine lv_iload hx hb dX_add_60 (lv_at hl 0 rfl) ?_
      refine lv_iload_n hx hb dX_add_62 rfl (lv_at hl 3 rfl) ?_
      have hFc := va_free (wc := hn_wX ad cI (σ1)) hD hS hA [0, 1, 2, 3, 4, 5, 6, 7, 8, 9] rfl
      refine va_callv (va_runV (As := [.int (nI t), .int (nI n)]) (rest := []) ⟨hx, hb, hml, hown, hts⟩ (cX_keepKey_ok l D cI cL ad σ1 t ht3 (nI n) _) (cwV 2 hts gX_X_keepKey rfl rfl rfl (by decide +kernel) ⟨Nat.le_of_ble_eq_true rfl, Nat.le_of_ble_eq_true rfl⟩) (hn_preVW hP hK hD (ci := 0) (q0 := 0) rfl rfl) rfl rfl hl.1 rfl (lv_room (Nat.le_of_ble_eq_true rfl)) dX_add_63 ⟨Nat.le_of_ble_eq_true rfl, Nat.le_of_ble_eq_true rfl⟩) hS (fun q _ h => hFc q h) hFc (fun σ2 t8 H1 locs ht hvm hw2 hB hz1 hk1 hS => ?_)
      obtain ⟨hP1, hK1, hD1⟩ := hB
      rw [ht] at hP1
      have hD : va_D A (hn_wX ad cI (σ2)) := hD1.weaken (fun _ q _ h => hFc q.1 h)
      have hP : va_P D vwCl (hn_wX ad cI (σ2)) H1 := hP1
      generalize H1 = H at hP hS ⊢
      try dsimp only at hw2
      obtain ⟨⟨k0, k1, k2, k3, k6, k7, k8, k9'⟩, k5, k4a, k4b⟩ := hw2
      refine lv_aload_n hx hb dX_add_66 rfl (lv_at hl 1 rfl) ?_
      refine va_get (D := D) (ci := 0) (v := .ref (ad 6)) (C := RX) (T := FX) (N := 10) hx hb hts iX hown hK hP 0 rfl rfl 6 (by decide) (hts _ mX_f_ids) (fun _ h9 => h9) rfl dX_add_67 ?_
      refine lv_iload hx hb dX_add_70 (lv_at hl 0 rfl) ?_
      refine lv_iload_n hx hb dX_add_72 rfl (lv_at hl 4 rfl) ?_
      refine va_iast hx hb hK hP hD hS 6 0 rfl rfl (vp_in_nI (show t < 384 from ht3) (by omega)) dX_add_73 (fun H locs hP hD hS => ?_)
      rw [nI_clamp (show t < 2 ^ 31 by omega)] at hP hD
      obtain ⟨σ3, eσ3⟩ : ∃ z : Nat → Nat → Int32, z = hn_up (σ2) 6 (upd (σ2 6) t x9) := ⟨_, rfl⟩
      have hP : va_P D vwCl (hn_wX ad cI (σ3)) H := by rw [eσ3]; exact hP
      have hD : va_D A (hn_wX ad cI (σ3)) := by rw [eσ3]; exact hD
      have r30 : σ3 0 = σ1 0 := by rw [eσ3]; exact k0
      have r31 : σ3 1 = σ1 1 := by rw [eσ3]; exact k1
      have r32 : σ3 2 = σ1 2 := by rw [eσ3]; exact k2
      have r33 : σ3 3 = σ1 3 := by rw [eσ3]; exact k3
      have r37 : σ3 7 = σ1 7 := by rw [eσ3]; exact k7
      have r38 : σ3 8 = σ1 8 := by rw [eσ3]; exact k8
      have r39 : σ3 9 = σ1 9 := by rw [eσ3]; exact k9'
      have r35 : σ3 5 = upd (σ1 5) t (nI n) := by rw [eσ3]; exact k5
      have r36 : σ3 6 = upd (σ1 6) t x9 := by rw [eσ3]; show upd (σ2 6) t x9 = _; rw [k6]
      have r34 : σ3 4 = σ2 4 := by rw [eσ3]; rfl
      refine lv_aload_n hx hb dX_add_74 rfl (lv_at hl 1 rfl) ?_
      refine lv_aload_n hx hb dX_add_75 rfl (lv_at hl 1 rfl) ?_
      refine va_get (D := D) (ci := 0) (v := .ref (ad 8)) (C := RX) (T := FX) (N := 10) hx hb hts iX hown hK hP 0 rfl rfl 8 (by decide) (hts _ mX_f_bucketLinks) (fun _ h9 => h9) rfl dX_add_76 ?_
      refine lv_aload_n hx hb dX_add_79 rfl (lv_at hl 1 rfl) ?_
      refine lv_iload_n hx hb dX_add_80 rfl (lv_at hl 2 rfl) ?_
      refine W.callR (W.runV (As := [.int (nI d)]) (rest := [.ref (ad 8), .ref (ad 0)]) ⟨hx, hb, hml, hown, hts⟩ (cX_bucketHead_ok l D cI cL ad σ3 d hd) (cwV 1 hts gX_X_bucketHead rfl rfl rfl (by decide +kernel) ⟨Nat.le_of_ble_eq_true rfl, Nat.le_of_ble_eq_true rfl⟩) (hn_preV hP hK (ci := 0) (q0 := 0) rfl rfl) rfl rfl hl.1 rfl (lv_room (Nat.le_of_ble_eq_true rfl)) dX_add_81 ⟨Nat.le_of_ble_eq_true rfl, Nat.le_of_ble_eq_true rfl⟩) ?_
      refine W.eq (g2 := F0 m 84 ls [.int (nI (384 + d * 16 + hn_bk (σ3 2) 0)), .ref (ad 8), .ref (ad 0)]) rfl ?_
      rw [r32, hhead]
      refine lv_iload hx hb dX_add_84 (lv_at hl 0 rfl) ?_
      have hFc := va_free (wc := hn_wX ad cI (σ3)) hD hS hA [0, 1, 2, 3, 4, 5, 6, 7, 8, 9] rfl
      refine va_callv (va_runV (As := [.ref (ad 8), .int (nI (384 + (16 * d + hn_bk (σ1 2) 0))), .int (nI t)]) (rest := []) ⟨hx, hb, hml, hown, hts⟩ (cX_link8_ok l D cI cL ad σ3 (384 + (16 * d + hn_bk (σ1 2) 0)) (by omega) (B (16 * d + hn_bk (σ1 2) 0)) (hI1.lenB (by omega)) (by rw [r38]; exact hch8) t ht3 _) (cwV 3 hts gX_X_link rfl rfl rfl (by decide +kernel) ⟨Nat.le_of_ble_eq_true rfl, Nat.le_of_ble_eq_true rfl⟩) (hn_preVW hP hK hD (ci := 0) (q0 := 0) rfl rfl) rfl rfl hl.1 rfl (lv_room (Nat.le_of_ble_eq_true rfl)) dX_add_86 ⟨Nat.le_of_ble_eq_true rfl, Nat.le_of_ble_eq_true rfl⟩) hS (fun q _ h => hFc q h) hFc (fun σ4 t8 H1 locs ht hvm hw4 hB hz1 hk1 hS => ?_)
      obtain ⟨hP1, hK1, hD1⟩ := hB
      rw [ht] at hP1
      have hD : va_D A (hn_wX ad cI (σ4)) := hD1.weaken (fun _ q _ h => hFc q.1 h)
      have hP : va_P D vwCl (hn_wX ad cI (σ4)) H1 := hP1
      generalize H1 = H at hP hS ⊢
      try dsimp only at hw4
      refine lv_aload_n hx hb dX_add_89 rfl (lv_at hl 1 rfl) ?_
      refine lv_aload_n hx hb dX_add_90 rfl (lv_at hl 1 rfl) ?_
      refine va_get (D := D) (ci := 0) (v := .ref (ad 9)) (C := RX) (T := FX) (N := 10) hx hb hts iX hown hK hP 0 rfl rfl 9 (by decide) (hts _ mX_f_orderLinks) (fun _ h9 => h9) rfl dX_add_91 ?_
      refine lv_iload_n hx hb dX_add_94 rfl (lv_at hl 2 rfl) ?_
      refine W.callR (W.runS (As := [.int (nI d)]) (rest := [.ref (ad 9), .ref (ad 0)]) ⟨hx, hb, hml, hown, hts⟩ (cX_orderHead_ok l (nI d)) (cwS 1 hts gX_X_orderHead rfl rfl rfl (by decide +kernel) ⟨Nat.le_of_ble_eq_true rfl, Nat.le_of_ble_eq_true rfl⟩) hn_pre0 rfl rfl hl.1 rfl (lv_room (Nat.le_of_ble_eq_true rfl)) dX_add_95 ⟨Nat.le_of_ble_eq_true rfl, Nat.le_of_ble_eq_true rfl⟩) ?_
      refine W.eq (g2 := F0 m 98 ls [.int (384 + nI d), .ref (ad 9), .ref (ad 0)]) rfl ?_
      rw [show (384 + nI d : Int32) = nI (384 + d) from nI_add 384 d]
      refine lv_iload hx hb dX_add_98 (lv_at hl 0 rfl) ?_
      have hFc := va_free (wc := hn_wX ad cI (σ4)) hD hS hA [0, 1, 2, 3, 4, 5, 6, 7, 8, 9] rfl
      refine va_callv (va_runV (As := [.ref (ad 9), .int (nI (384 + d)), .int (nI t)]) (rest := []) ⟨hx, hb, hml, hown, hts⟩ (cX_link9_ok l D cI cL ad σ4 (384 + d) (by omega) (L d) (hI1.lenL hd) (by rw [hw4]; show hn_ch (σ3 9) _ _; rw [r39]; exact (hI1.1 d hd).1) t ht3 _) (cwV 3 hts gX_X_link rfl rfl rfl (by decide +kernel) ⟨Nat.le_of_ble_eq_true rfl, Nat.le_of_ble_eq_true rfl⟩) (hn_preVW hP hK hD (ci := 0) (q0 := 0) rfl rfl) rfl rfl hl.1 rfl (lv_room (Nat.le_of_ble_eq_true rfl)) dX_add_100 ⟨Nat.le_of_ble_eq_true rfl, Nat.le_of_ble_eq_true rfl⟩) hS (fun q _ h => hFc q h) hFc (fun σ5 t8 H1 locs ht hvm hw5 hB hz1 hk1 hS => ?_)
      obtain ⟨hP1, hK1, hD1⟩ := hB
      rw [ht] at hP1
      have hD : va_D A (hn_wX ad cI (σ5)) := hD1.weaken (fun _ q _ h => hFc q.1 h)
      have hP : va_P D vwCl (hn_wX ad cI (σ5)) H1 := hP1
      generalize H1 = H at hP hS ⊢
      try dsimp only at hw5
      refine lv_aload_n hx hb dX_add_103 rfl (lv_at hl 1 rfl) ?_
      refine va_get (D := D) (ci := 0) (v := .ref (ad 7)) (C := RX) (T := FX) (N := 10) hx hb hts iX hown hK hP 0 rfl rfl 7 (by decide) (hts _ mX_f_counts) (fun _ h9 => h9) rfl dX_add_104 ?_
      refine lv_iload_n hx hb dX_add_107 rfl (lv_at hl 2 rfl) ?_
      refine lv_dup2_11 hx hb dX_add_108 rfl rfl ?_
      refine va_iald hx hb hK hP 7 0 rfl rfl (vp_in_nI (show d < 8 from hd) (by omega)) dX_add_109 ?_
      rw [nI_clamp (show d < 2 ^ 31 by omega)]
      rw [show σ5 7 d = nI (L d).length from by rw [hw5, hw4]; show σ3 7 d = _; rw [r37]; exact (hI1.1 d hd).2.2.2]
      refine lv_iconst (v := 1) hx hb dX_add_110 (by decide) ?_
      refine lv_iadd hx hb dX_add_111 ?_
      rw [show ((nI (L d).length) + 1 : Int32) = nI ((L d).length + 1) from nI_1 _]
      refine va_iast hx hb hK hP hD hS 7 0 rfl rfl (vp_in_nI (show d < 8 from hd) (by omega)) dX_add_112 (fun H locs hP hD hS => ?_)
      rw [nI_clamp (show d < 2 ^ 31 by omega)] at hP hD
      obtain ⟨σ6, eσ6⟩ : ∃ z : Nat → Nat → Int32, z = hn_up (σ5) 7 (upd (σ5 7) d (nI ((L d).length + 1))) := ⟨_, rfl⟩
      have hP : va_P D vwCl (hn_wX ad cI (σ6)) H := by rw [eσ6]; exact hP
      have hD : va_D A (hn_wX ad cI (σ6)) := by rw [eσ6]; exact hD
      refine lv_aload_n hx hb dX_add_113 rfl (lv_at hl 1 rfl) ?_
      refine va_get (D := D) (ci := 0) (v := .ref (ad 7)) (C := RX) (T := FX) (N := 10) hx hb hts iX hown hK hP 0 rfl rfl 7 (by decide) (hts _ mX_f_counts) (fun _ h9 => h9) rfl dX_add_114 ?_
      refine lv_iload_n hx hb dX_add_117 rfl (lv_at hl 2 rfl) ?_
      refine va_iald hx hb hK hP 7 0 rfl rfl (vp_in_nI (show d < 8 from hd) (by omega)) dX_add_118 ?_
      rw [nI_clamp (show d < 2 ^ 31 by omega)]
      rw [show σ6 7 d = nI ((L d).length + 1) from by rw [eσ6]; exact pk_us]
      have hns6 : hn_ns σ6 = hn_ns σ3 := by funext z; show hn_nm (σ6 4) _ = hn_nm (σ3 4) _; rw [eσ6, hw5, hw4]; rfl
      have hns4 : hn_ns σ4 = hn_ns σ3 := by funext z; show hn_nm (σ4 4) _ = hn_nm (σ3 4) _; rw [hw4]; rfl
      have q8 : σ6 8 = upd (upd (σ3 8) t (σ3 8 (hn_pl (hn_ns σ3) (hn_nm (σ3 2) 0) (384 + (16 * d + hn_bk (σ1 2) 0)) (B (16 * d + hn_bk (σ1 2) 0))))) (hn_pl (hn_ns σ3) (hn_nm (σ3 2) 0) (384 + (16 * d + hn_bk (σ1 2) 0)) (B (16 * d + hn_bk (σ1 2) 0))) (nI t) := by rw [eσ6, hw5, hw4]; rfl
      have q9 : σ6 9 = upd (upd (σ4 9) t (σ4 9 (hn_pl (hn_ns σ4) (hn_nm (σ4 2) 0) (384 + d) (L d)))) (hn_pl (hn_ns σ4) (hn_nm (σ4 2) 0) (384 + d) (L d)) (nI t) := by rw [eσ6, hw5]; rfl
      have r42 : σ4 2 = σ1 2 := by rw [hw4]; exact r32
      have r49 : σ4 9 = σ1 9 := by rw [hw4]; exact r39
      rw [r38, r32] at q8
      rw [r49, r42, hns4] at q9
      obtain ⟨g4, g5⟩ := hn_add_X (σ' := σ6) (key := σ1 2) (K := hn_nm (σ1 2) 0) (j := 16 * d + hn_bk (σ1 2) 0) (n := n) (x := x9) hI1 hL1 hd ⟨g1, g2⟩ g3 rfl (fun z hz9 hz8 => hno z hz9 hz8) rfl h1 h2 (fun i hi => by rw [eσ6, hw5, hw4]; show σ3 4 _ = _; rw [r34]; exact k4a i hi) (fun q hq => by rw [eσ6, hw5, hw4]; show σ3 4 _ = _; rw [r34]; exact k4b q hq) (by rw [eσ6, hw5, hw4]; exact r35) (by rw [eσ6, hw5, hw4]; exact r36) (by rw [eσ6, hw5, hw4]; show upd (σ3 7) d _ = _; rw [r37]) (by rw [hns6]; exact q8) (by rw [hns6]; exact q9)
      refine vx_ret ?_
      refine W.widen (k := 4) (n := 24) (Nat.le_of_ble_eq_true rfl) (Nat.le_of_ble_eq_true rfl) ?_
      exact W.iret (v := (nI ((L d).length + 1))) hx hb hr (fun t9 ht9 hW9 => ⟨⟨nI ((L d).length + 1), σ6, rfl, ⟨hn_ud D9 d (hn_ei (hn_nm (σ1 2) 0, n, x9) (D9 d)), Or.inr ⟨d, n, hok, hi9, Or.inr ⟨rfl, hnh, by rw [hn_XL_len hL1 hd]; exact hnf, by rw [hkn], by rw [hn_XL_len hL1 hd]⟩⟩, hn_XR_of g4 g5 (hn_XH_keep hH1 (by rw [eσ6, hw5, hw4]; exact r30) (by rw [eσ6, hw5, hw4]; exact r31) (by rw [eσ6, hw5, hw4]; exact r33))⟩, by rw [ht9]; exact hP, va_K.moved hW9.alike hK, hD⟩, hS.F ht9⟩) hS.2.2 dX_add_119

set_option maxHeartbeats 4000000 in
set_option maxRecDepth 100000 in
theorem cX_nth_ok (l : Launch) (hl0 : l.stackTraces = false) (D : va_G) (cI cL : ClassId) (z0 : Nat) (sa : Nat → Nat) (ad : Nat → Nat) (σ : Nat → Nat → Int32) (d9 k9 : Int32) (h : Nat → Nat) (D9 : Nat → List hn_E) (tn TK : Nat) (hXR : hn_XR σ h D9 tn TK) (hO : hn_DO D9)  (sz : Nat) : vx_Met l yX_nth wX_nth ({ frames := 7, cells := 2, slots := 12, locals := 102 }) (hn_PX D (hn_ty cI cL) (hn_wX ad cI (σ) : va_W) sz z0 sa [.ref (ad 0), .int d9, .int k9]) (va_Qi (fun (r : Int32) (τ9 : Nat → Nat → Int32) => ∃ tn' TK' : Nat, hn_nthS D9 tn TK d9 k9 0 r tn' TK' ∧ hn_XR τ9 h D9 tn' TK') (fun (τ9 : Nat → Nat → Int32) t => hn_at D (hn_ty cI cL) (va_A (hn_wX ad cI (σ) : va_W) sz) (hn_wX ad cI (τ9)) t) (va_A (hn_wX ad cI (σ) : va_W) sz)) (vx_X (fun _ : Nat → Nat → Int32 => True) (fun E (τ9 : Nat → Nat → Int32) t => (∃ c : Nat, hn_exc E c ∧ hn_nthS D9 tn TK d9 k9 c 0 tn TK ∧ hn_XR τ9 h D9 tn TK) ∧ hn_at D (hn_ty cI cL) (va_A (hn_wX ad cI (σ) : va_W) sz) (hn_wX ad cI (τ9)) t) (va_A (hn_wX ad cI (σ) : va_W) sz)) 2 12 (va_A (hn_wX ad cI (σ) : va_W) sz) := by
  refine vx_ofW (cc := cX_nth) (maxL := 5) (ret := (some .int)) (by decide) rfl ?_
  intro p e s m args below meth c s₁ B hml htab hv
  obtain ⟨rfl, hsz, hP, hK, hD0, hz0, hG⟩ := hv
  subst hsz
  have hD := hD0.self (sz := s.heap.size)
  have hAz := hn_Az hD0 hz0
  generalize hAe : va_A (hn_wX ad cI (σ) : va_W) s.heap.size = A at hD hAz ⊢
  have hA : ∀ q : Nat, s.heap.size ≤ q → A q := fun q h => by rw [← hAe]; exact Or.inr h
  have hS : va_S A s.heap s.heap [] := va_S.rf
  have hP : va_P D vwCl (hn_wX ad cI (σ) : va_W) s.heap := hP
  have hx := B.exec
  have hb := B.bytes
  have hr := B.returns
  have hts0 := atoms_spec (ws := wX_nth) B.pre
  have hts : ∀ w ∈ hn_tb, w.before _ s = true := fun w hw => hts0 w (List.mem_cons_of_mem _ hw)
  have hown : s.vm.findClass RX = some m.cls := findClass_of_methodNamed B.named
  have hlocks := B.notSynchronized
  have hl := lv_entry [.ref (ad 0), .int d9, .int k9] (n := 5) (Nat.le_of_ble_eq_true rfl)
  rw [lg_entry_eq]
  generalize (lg_sl [.ref (ad 0), .int d9, .int k9] ++ List.replicate (5 - (lg_sl [.ref (ad 0), .int d9, .int k9]).length) Slot.unset).toArray = ls at hl ⊢
  have hl : lv_has ls 5 [(0, .ref (ad 0)), (1, .int d9), (2, .int k9)] := hl
  have hhd : ∀ k, k < 20 → hn_by (σ 1) k = h k := by obtain ⟨L, B, -, -, hH⟩ := hn_XR_to hXR; exact hH.1
  refine lv_iload_n hx hb dX_nth_0 rfl (lv_at hl 1 rfl) ?_
  have hP0 : va_P D vwCl ([] : va_W) s.heap := fun k q h => by cases h
  have hD00 : va_D (fun q => z0 ≤ q) ([] : va_W) := ⟨fun i j p q h => (by cases h), fun k q h => (by cases h)⟩
  refine vx_callv (vx_runS (As := [.int d9]) (rest := []) ⟨hx, hb, hml, hown, hts⟩ (cX_requireDirectory_ok l hl0 D cI cL z0 sa d9 _) (cwS 1 hts gX_X_requireDirectory rfl rfl rfl (by decide +kernel) ⟨(Nat.le_of_ble_eq_true rfl), (Nat.le_of_ble_eq_true rfl)⟩) (hn_preXS hP0 hK hD00 hz0 hG hS hAz) rfl rfl hl.1 rfl (lv_room (Nat.le_of_ble_eq_true rfl)) dX_nth_1 ⟨(Nat.le_of_ble_eq_true rfl), (Nat.le_of_ble_eq_true rfl)⟩) hS (fun q h1 h2 => (hn_A0 h1 h2).elim) (fun q h => hn_A1 hA hS h) (fun q h1 h2 => (hn_A0 h1 h2).elim) (fun E ce q9 u t8 H1 locs ht hvm hpx hBX hz1 hk1 hS hce hcv hcl => ?_) (fun u t8 H1 locs ht hvm hw hB hz1 hk1 hS => ?_)
  · have hP : va_P D vwCl (hn_wX ad cI (σ)) H1 := hn_kept0 hP hk1
    obtain ⟨hx1, -⟩ := hBX
    exact vx_out (fun x hx => (htab x hx).elim) hlocks hce hcv hcl (fun t9 ht9 ha9 => ⟨σ, trivial, ⟨⟨1, Or.inl ⟨hx1.1, rfl⟩, Or.inl ⟨rfl, rfl, rfl, fun z => hx1.2 z.1⟩, hXR⟩, by rw [ht9]; exact hP, va_K.moved ha9 hK, hD⟩, hS.F ht9⟩) hS.2.2 (Nat.le_of_ble_eq_true rfl) (Nat.le_of_ble_eq_true rfl)
  have hP : va_P D vwCl (hn_wX ad cI (σ)) H1 := hn_kept0 hP hk1
  generalize H1 = H at hP hS ⊢
  have hd9 : hn_dir d9 := hw
  refine lv_iload_n hx hb dX_nth_4 rfl (lv_at hl 2 rfl) ?_
  refine lv_if_ge (tgt := 18) hx hb dX_nth_5 (by decide) (fun c_25 => ?_) (fun c_25 => ?_)
  · skip
    obtain ⟨d, hd, ed⟩ := hd9
    subst ed
    obtain ⟨k, hk, ek⟩ := nI_of (Int32.not_lt.mpr c_25)
    subst ek
    obtain ⟨L, B, hI1, hL1, hH1⟩ := hn_XR_to hXR
    have hlen := hI1.lenL hd
    have hDl := hn_XL_len hL1 hd
    refine lv_aload_n hx hb dX_nth_18 rfl (lv_at hl 0 rfl) ?_
    refine lv_iload_n hx hb dX_nth_19 rfl (lv_at hl 1 rfl) ?_
    refine lv_iload_n hx hb dX_nth_20 rfl (lv_at hl 2 rfl) ?_
    refine W.callR (W.runV (As := [.int (nI d), .int (nI k)]) (rest := []) ⟨hx, hb, hml, hown, hts⟩ (cX_slotInOrder_ok l D cI cL ad σ d hd (L d) (hI1.lenL hd) (hI1.1 d hd).2.2.2 (hI1.1 d hd).1 k hk) (cwV 2 hts gX_X_slotInOrder rfl rfl rfl (by decide +kernel) ⟨Nat.le_of_ble_eq_true rfl, Nat.le_of_ble_eq_true rfl⟩) (hn_preV hP hK (ci := 0) (q0 := 0) rfl rfl) rfl rfl hl.1 rfl (lv_room (Nat.le_of_ble_eq_true rfl)) dX_nth_21 ⟨Nat.le_of_ble_eq_true rfl, Nat.le_of_ble_eq_true rfl⟩) ?_
    refine W.eq (g2 := F0 m 24 ls [.int (hn_nth (L d) k)]) rfl ?_
    by_cases hkl : (L d).length ≤ k
    · rw [show hn_nth (L d) k = -1 from if_pos hkl]
      refine lv_istore_n (lv' := [(3, .int (-1)), (0, .ref (ad 0)), (1, .int (nI d)), (2, .int (nI k))]) hx hb dX_nth_24 rfl hl (by decide) rfl (fun ls hl => ?_)
      refine lv_iload_n hx hb dX_nth_25 rfl (lv_at hl 0 rfl) ?_
      refine W.callR (W.runS (As := [.int (-1)]) (rest := []) ⟨hx, hb, hml, hown, hts⟩ (cX_isSlot_ok l (-1)) (cwS 1 hts gX_X_isSlot rfl rfl rfl (by decide +kernel) ⟨Nat.le_of_ble_eq_true rfl, Nat.le_of_ble_eq_true rfl⟩) hn_pre0 rfl rfl hl.1 rfl (lv_room (Nat.le_of_ble_eq_true rfl)) dX_nth_26 ⟨Nat.le_of_ble_eq_true rfl, Nat.le_of_ble_eq_true rfl⟩) ?_
      refine W.eq (g2 := F0 m 29 ls [.int (hn_isl (-1))]) rfl ?_
      rw [show (hn_isl (-1) : Int32) = 0 from hn_isl_m1]
      refine lv_if_ne (tgt := 39) hx hb dX_nth_29 (by decide) (fun c_26 => absurd rfl c_26) (fun c_26 => ?_)
      refine lv_aload_n hx hb dX_nth_32 rfl (lv_at hl 1 rfl) ?_
      refine lv_iconst (v := 0) hx hb dX_nth_33 (by decide) ?_
      refine va_put (D := D) (ci := 0) (v := .int 0) (ty := .int) (C := RX) (T := FX) (N := 10) hx hb hts iX tX tX_ok nX hown hK hP hD hS 0 rfl rfl 3 (by decide) (hts _ mX_f_toldLength) (fun _ h9 => h9) rfl (by decide +kernel) rfl rfl (Nat.le_of_ble_eq_true rfl) dX_nth_34 (fun H locs hP hD hS => ?_)
      obtain ⟨σ2, eσ2⟩ : ∃ z : Nat → Nat → Int32, z = hn_up (σ) 0 (upd (σ 0) 0 0) := ⟨_, rfl⟩
      have hP : va_P D vwCl (hn_wX ad cI (σ2)) H := by rw [eσ2]; exact hP
      have hD : va_D A (hn_wX ad cI (σ2)) := by rw [eσ2]; exact hD
      refine lv_iconst (v := (-1)) hx hb dX_nth_37 (by decide) ?_
      refine vx_ret ?_
      refine W.widen (k := 2) (n := 12) (Nat.le_of_ble_eq_true rfl) (Nat.le_of_ble_eq_true rfl) ?_
      exact W.iret (v := (-1)) hx hb hr (fun t9 ht9 hW9 => ⟨⟨(-1), σ2, rfl, ⟨0, 0, Or.inr ⟨d, k, rfl, hd, rfl, hk, rfl, Or.inl ⟨by omega, rfl, rfl, rfl⟩⟩, hn_XR_of (by rw [eσ2]; exact hn_I_keep hI1 rfl rfl rfl rfl rfl) (by rw [eσ2]; exact hn_XL_keep hL1 rfl rfl rfl) (by rw [eσ2]; exact ⟨hH1.1, (by show upd (σ 0) 0 0 0 = nI 0; rw [pk_us]; rfl), by decide, fun j z => absurd z (Nat.not_lt_zero _)⟩)⟩, by rw [ht9]; exact hP, va_K.moved hW9.alike hK, hD⟩, hS.F ht9⟩) hS.2.2 dX_nth_38
    · rw [show hn_nth (L d) k = nI ((L d).getD k 0) from if_neg hkl]
      obtain ⟨t, et⟩ : ∃ t, t = (L d).getD k 0 := ⟨_, rfl⟩
      rw [← et]
      have ht1 : t ∈ L d := by rw [et, List.getD_eq_getElem?_getD, List.getElem?_eq_getElem (by omega)]; exact List.getElem_mem _
      have ht3 := (hI1.L hd t ht1).2
      have hent : (D9 d).getD k hn_e0 = hn_ent σ t := by rw [(hL1 d hd).1, hn_map_getD (by omega), et]
      have ht5 := (hL1 d hd).2 t ht1
      have hwf := (hO d hd).2.2 _ (hn_getD_mem (l := D9 d) (j := k) (by omega))
      rw [hent] at hwf
      refine lv_istore_n (lv' := [(3, .int (nI t)), (0, .ref (ad 0)), (1, .int (nI d)), (2, .int (nI k))]) hx hb dX_nth_24 rfl hl (by decide) rfl (fun ls hl => ?_)
      refine lv_iload_n hx hb dX_nth_25 rfl (lv_at hl 0 rfl) ?_
      refine W.callR (W.runS (As := [.int (nI t)]) (rest := []) ⟨hx, hb, hml, hown, hts⟩ (cX_isSlot_ok l (nI t)) (cwS 1 hts gX_X_isSlot rfl rfl rfl (by decide +kernel) ⟨Nat.le_of_ble_eq_true rfl, Nat.le_of_ble_eq_true rfl⟩) hn_pre0 rfl rfl hl.1 rfl (lv_room (Nat.le_of_ble_eq_true rfl)) dX_nth_26 ⟨Nat.le_of_ble_eq_true rfl, Nat.le_of_ble_eq_true rfl⟩) ?_
      refine W.eq (g2 := F0 m 29 ls [.int (hn_isl (nI t))]) rfl ?_
      rw [show (hn_isl (nI t) : Int32) = 1 from hn_isl_n ht3]
      refine lv_if_ne (tgt := 39) hx hb dX_nth_29 (by decide) (fun c_27 => ?_) (fun c_27 => absurd c_27 (by decide))
      refine lv_iconst (v := 0) hx hb dX_nth_39 (by decide) ?_
      refine lv_istore (lv' := [(4, .int 0), (3, .int (nI t)), (0, .ref (ad 0)), (1, .int (nI d)), (2, .int (nI k))]) hx hb dX_nth_40 hl (by decide) rfl (fun ls hl => ?_)
      suffices loop : ∀ (f i : Nat) (σ3 : Nat → Nat → Int32) (H : Heap) (locs : List Loc), i + f = 5 → va_P D vwCl (hn_wX ad cI σ3) H → va_D A (hn_wX ad cI σ3) → va_S A s.heap H locs → (∃ g9 : Nat → Int32, σ3 = hn_up σ 3 g9 ∧ ∀ j, j < i → g9 j = σ 4 (5 * t + j)) → ∀ ls : Array Slot, lv_has ls 5 [(0, .ref (ad 0)), (3, .int (nI t)), (4, .int (nI i))] → W p l e (headSpec wX_nth ({ frames := 7, cells := 2, slots := 12, locals := 102 })).room s m [.ref (ad 0), .int (nI d), .int (nI k)].toArray below meth c H locs (0 + 1) (0 + 6) (vx_MQ below (va_Qi (fun (r : Int32) (τ9 : Nat → Nat → Int32) => ∃ tn' TK' : Nat, hn_nthS D9 tn TK (nI d) (nI k) 0 r tn' TK' ∧ hn_XR τ9 h D9 tn' TK') (fun (τ9 : Nat → Nat → Int32) t => hn_at D (hn_ty cI cL) A (hn_wX ad cI (τ9)) t) A) (vx_X (fun _ : Nat → Nat → Int32 => True) (fun E (τ9 : Nat → Nat → Int32) t => (∃ c : Nat, hn_exc E c ∧ hn_nthS D9 tn TK (nI d) (nI k) c 0 tn TK ∧ hn_XR τ9 h D9 tn TK) ∧ hn_at D (hn_ty cI cL) A (hn_wX ad cI (τ9)) t) A) [.ref (ad 0), .int (nI d), .int (nI k)].toArray s 2 12 A) (F0 m 42 ls []) from loop 5 0 σ _ _ rfl hP hD hS ⟨σ 3, hn_upself σ 3, fun j z => absurd z (Nat.not_lt_zero _)⟩ ls (lv_sub hl [2, 1, 0] rfl)
      intro f
      induction f with
      | zero =>
        intro i σ3 H locs hf hP hD hS hI ls hl
        have hf : i = 5 := hf
        subst hf
        refine lv_iload hx hb dX_nth_42 (lv_at hl 2 rfl) ?_
        refine lv_iconst (v := 5) hx hb dX_nth_44 (by decide) ?_
        refine lv_icmp_ge (tgt := 72) hx hb dX_nth_45 (by decide) (fun c_28 => ?_) (fun c_28 => absurd (show (5 : Int32) ≤ nI 5 by decide) c_28)
        obtain ⟨g9, e9, hc9⟩ := hI
        refine lv_aload_n hx hb dX_nth_72 rfl (lv_at hl 0 rfl) ?_
        refine lv_aload_n hx hb dX_nth_73 rfl (lv_at hl 0 rfl) ?_
        refine va_get (D := D) (ci := 0) (v := .ref (ad 5)) (C := RX) (T := FX) (N := 10) hx hb hts iX hown hK hP 0 rfl rfl 5 (by decide) (hts _ mX_f_lengths) (fun _ h9 => h9) rfl dX_nth_74 ?_
        refine lv_iload_n hx hb dX_nth_77 rfl (lv_at hl 1 rfl) ?_
        refine va_iald hx hb hK hP 5 0 rfl rfl (vp_in_nI (show t < 384 from by omega) (by omega)) dX_nth_78 ?_
        rw [nI_clamp (show t < 2 ^ 31 by omega)]
        rw [show σ3 5 t = nI (σ 5 t).toNatClampNeg from by rw [e9]; exact ht5]
        refine va_put (D := D) (ci := 0) (v := .int (nI (σ 5 t).toNatClampNeg)) (ty := .int) (C := RX) (T := FX) (N := 10) hx hb hts iX tX tX_ok nX hown hK hP hD hS 0 rfl rfl 3 (by decide) (hts _ mX_f_toldLength) (fun _ h9 => h9) rfl (by decide +kernel) rfl rfl (Nat.le_of_ble_eq_true rfl) dX_nth_79 (fun H locs hP hD hS => ?_)
        obtain ⟨σ4, eσ4⟩ : ∃ z : Nat → Nat → Int32, z = hn_up (σ3) 0 (upd (σ3 0) 0 (nI (σ 5 t).toNatClampNeg)) := ⟨_, rfl⟩
        have hP : va_P D vwCl (hn_wX ad cI (σ4)) H := by rw [eσ4]; exact hP
        have hD : va_D A (hn_wX ad cI (σ4)) := by rw [eσ4]; exact hD
        refine lv_aload_n hx hb dX_nth_82 rfl (lv_at hl 0 rfl) ?_
        refine va_get (D := D) (ci := 0) (v := .int (σ4 0 0)) (C := RX) (T := FX) (N := 10) hx hb hts iX hown hK hP 0 rfl rfl 3 (by decide) (hts _ mX_f_toldLength) (fun _ h9 => h9) rfl dX_nth_83 ?_
        have htl : σ4 0 0 = nI (σ 5 t).toNatClampNeg := by rw [eσ4]; show upd (σ3 0) 0 _ 0 = _; exact pk_us
        rw [htl]
        have hnum : hn_nm g9 0 = hn_ns σ t := hn_nm_of (w := g9) (v := σ 4) (b := 0) (c := 5 * t) (fun j hj => by rw [Nat.zero_add]; exact hc9 j hj)
        have hkb9 : ∀ j, j < 20 → hn_by g9 j = hn_kb (hn_ns σ t) j := fun j hj => by rw [← hnum, hn_nm_bn]; exact (hn_kb_bn (hn_by_lt g9) hj).symm
        refine vx_ret ?_
        refine W.widen (k := 2) (n := 12) (Nat.le_of_ble_eq_true rfl) (Nat.le_of_ble_eq_true rfl) ?_
        exact W.iret (v := (nI (σ 5 t).toNatClampNeg)) hx hb hr (fun t9 ht9 hW9 => ⟨⟨nI (σ 5 t).toNatClampNeg, σ4, rfl, ⟨(σ 5 t).toNatClampNeg, hn_ns σ t, Or.inr ⟨d, k, rfl, hd, rfl, hk, rfl, Or.inr ⟨by omega, by rw [hent]; rfl, by rw [hent]; rfl, by rw [hent]; rfl⟩⟩, hn_XR_of (by rw [eσ4, e9]; exact hn_I_keep hI1 rfl rfl rfl rfl rfl) (by rw [eσ4, e9]; exact hn_XL_keep hL1 rfl rfl rfl) ⟨by rw [eσ4, e9]; exact hH1.1, htl, hwf.2.1, fun j hj => by rw [eσ4, e9]; exact hkb9 j (Nat.lt_of_lt_of_le hj hwf.2.1)⟩⟩, by rw [ht9]; exact hP, va_K.moved hW9.alike hK, hD⟩, hS.F ht9⟩) hS.2.2 dX_nth_86
      | succ f ih =>
        intro i σ3 H locs hf hP hD hS hI ls hl
        refine lv_iload hx hb dX_nth_42 (lv_at hl 2 rfl) ?_
        refine lv_iconst (v := 5) hx hb dX_nth_44 (by decide) ?_
        refine lv_icmp_ge (tgt := 72) hx hb dX_nth_45 (by decide) (fun c_29 => absurd c_29 (nI_ge (a := i) (b := 5) (by omega) (by decide))) (fun c_29 => ?_)
        obtain ⟨g9, e9, hc9⟩ := hI
        refine lv_aload_n hx hb dX_nth_48 rfl (lv_at hl 0 rfl) ?_
        refine va_get (D := D) (ci := 0) (v := .ref (ad 3)) (C := RX) (T := FX) (N := 10) hx hb hts iX hown hK hP 0 rfl rfl 2 (by decide) (hts _ mX_f_told) (fun _ h9 => h9) rfl dX_nth_49 ?_
        refine lv_iload hx hb dX_nth_52 (lv_at hl 2 rfl) ?_
        refine lv_aload_n hx hb dX_nth_54 rfl (lv_at hl 0 rfl) ?_
        refine va_get (D := D) (ci := 0) (v := .ref (ad 4)) (C := RX) (T := FX) (N := 10) hx hb hts iX hown hK hP 0 rfl rfl 4 (by decide) (hts _ mX_f_words) (fun _ h9 => h9) rfl dX_nth_55 ?_
        refine lv_iload_n hx hb dX_nth_58 rfl (lv_at hl 1 rfl) ?_
        refine lv_iconst (v := 5) hx hb dX_nth_59 (by decide) ?_
        refine lv_imul hx hb dX_nth_60 ?_
        refine lv_iload hx hb dX_nth_61 (lv_at hl 2 rfl) ?_
        refine lv_iadd hx hb dX_nth_63 ?_
        rw [show (((nI t) * 5) + (nI i) : Int32) = nI (5 * t + i) from by rw [show (5 : Int32) = nI 5 from rfl, pk_mul, nI_add, Nat.mul_comm]]
        refine va_iald hx hb hK hP 4 0 rfl rfl (vp_in_nI (show 5 * t + i < 1920 from by omega) (by omega)) dX_nth_64 ?_
        rw [nI_clamp (show 5 * t + i < 2 ^ 31 by omega)]
        rw [show σ3 4 (5 * t + i) = σ 4 (5 * t + i) from by rw [e9]; rfl]
        refine va_iast hx hb hK hP hD hS 3 0 rfl rfl (vp_in_nI (show i < 5 from by omega) (by omega)) dX_nth_65 (fun H locs hP hD hS => ?_)
        rw [nI_clamp (show i < 2 ^ 31 by omega)] at hP hD
        obtain ⟨σ4, eσ4⟩ : ∃ z : Nat → Nat → Int32, z = hn_up (σ3) 3 (upd (σ3 3) i (σ 4 (5 * t + i))) := ⟨_, rfl⟩
        have hP : va_P D vwCl (hn_wX ad cI (σ4)) H := by rw [eσ4]; exact hP
        have hD : va_D A (hn_wX ad cI (σ4)) := by rw [eσ4]; exact hD
        refine lv_iinc (v := nI (i + 1)) (lv' := [(4, .int (nI (i + 1))), (0, .ref (ad 0)), (3, .int (nI t))]) hx hb dX_nth_66 hl (k := 2) rfl (nI_1 i) (by decide) rfl (fun ls hl => ?_)
        refine lv_goto (tgt := 42) hx hb dX_nth_69 (by decide) ?_
        exact ih (i + 1) σ4 H locs (by omega) hP hD hS ⟨upd g9 i (σ 4 (5 * t + i)), by rw [eσ4, e9]; exact hn_upup _ _ _ _, fun j hj => hn_sy1 (f := fun j => σ 4 (5 * t + j)) hc9 hj⟩ ls (lv_sub hl [1, 2, 0] rfl)
  · skip
    exact hn_throwA hx hb hl0 hts hown hG hAz hS (hl.1.trans hml.symm) (is := 93) (text := "k is below 0") (by decide +kernel) dX_nth_8 dX_nth_11 dX_nth_12 dX_nth_14 dX_nth_17 htab (Nat.le_of_ble_eq_true rfl) (Nat.le_of_ble_eq_true rfl) (Nat.le_of_ble_eq_true rfl) (Nat.le_of_ble_eq_true rfl) hlocks (fun t9 ha9 g1 g2 => ⟨σ, trivial, ⟨⟨1, Or.inl ⟨rfl, rfl⟩, Or.inl ⟨rfl, rfl, rfl, fun z => z.2 (Int32.not_le.mp c_25)⟩, hXR⟩, (hn_xcT hP hK hD hS ha9 g1 g2).1⟩, (hn_xcT hP hK hD hS ha9 g1 g2).2⟩) hS.2.2 (Nat.le_of_ble_eq_true rfl) (Nat.le_of_ble_eq_true rfl)
end
section
section
variable {p : Program} {l : Launch} {e : Env} {R : Room} {s : State} {m : MethodId} {args : Array Value} {below : List Frame} {meth : Method} {c : Code} {H : Heap} {locs : List Loc} {cells slots : Nat} {Q : State → Prop}
variable {cc : ByteArray} {pc : Nat} {ls : Array Slot} {rest : List Value} {D : va_G} {A : Nat → Prop} {ws : va_W} {H0 : Heap} {cI cL : ClassId}
/-- a new row of ints, all 0 -/
theorem hn_newi (hexec : p.tables.exec = Jvm.exec) (hb : c.code = cc) (harr : (Cond.arrayClass .int).before args s = true) (hK : va_K D vwCl (hn_ty cI cL) s) (hP : va_P D vwCl ws H) (hD : va_D A ws) (hS : va_S A H0 H locs) (hA : ∀ q, H0.size ≤ q → A q)
    {n : Int32} {N' : Nat} (hn : ¬ n < 0) (hN : n.toNatClampNeg = N') (hbytes : N' * 4 ≤ 536870912) (hcells : cells + 1 ≤ R.cells) (hslots : slots + N' ≤ R.slots) (hdg : decode cc pc = .ok (.newarray .int, 2))
    (kk : ∀ (q : Nat) (H1 : Heap), va_P D vwCl (ws ++ [(q, .inl (cI, N', .inl (fun _ => 0)))]) H1 → va_D A (ws ++ [(q, .inl (cI, N', .inl (fun _ => 0)))]) → va_S A H0 H1 locs →
      W p l e R s m args below meth c H1 locs (cells + 1) (slots + N') Q (F0 m (pc + 2) ls (.ref q :: rest))) : W p l e R s m args below meth c H locs cells slots Q (F0 m pc ls (.int n :: rest)) := by
  refine va_newa (a0 := (N', .inl (fun _ => 0))) hexec hb (atype := .int) harr (ty := .int) rfl hK hP hD hS hA (fun cA => rfl) hn hN hbytes hcells hslots hdg (fun q cA H1 hK1 hP1 hD1 hS1 => ?_)
  have e1 : s.vm.findClass ("[" ++ FieldType.int.toString) = some cA := (hK1.2 2 _ rfl).2
  have e2 : s.vm.findClass ("[" ++ FieldType.int.toString) = some cI := (hK.2 0 _ rfl).2
  cases Option.some.inj (e1.symm.trans e2)
  exact kk q H1 hP1 hD1 hS1
/-- a new row of longs, all 0 -/
theorem hn_newl (hexec : p.tables.exec = Jvm.exec) (hb : c.code = cc) (harr : (Cond.arrayClass .long).before args s = true) (hK : va_K D vwCl (hn_ty cI cL) s) (hP : va_P D vwCl ws H) (hD : va_D A ws) (hS : va_S A H0 H locs) (hA : ∀ q, H0.size ≤ q → A q)
    {n : Int32} {N' : Nat} (hn : ¬ n < 0) (hN : n.toNatClampNeg = N') (hbytes : N' * 8 ≤ 536870912) (hcells : cells + 1 ≤ R.cells) (hslots : slots + N' ≤ R.slots) (hdg : decode cc pc = .ok (.newarray .long, 2))
    (kk : ∀ (q : Nat) (H1 : Heap), va_P D vwCl (ws ++ [(q, .inl (cL, N', .inr (.inl (fun _ => 0))))]) H1 → va_D A (ws ++ [(q, .inl (cL, N', .inr (.inl (fun _ => 0))))]) → va_S A H0 H1 locs →
      W p l e R s m args below meth c H1 locs (cells + 1) (slots + N') Q (F0 m (pc + 2) ls (.ref q :: rest))) : W p l e R s m args below meth c H locs cells slots Q (F0 m pc ls (.int n :: rest)) := by
  refine va_newa (a0 := (N', .inr (.inl (fun _ => 0)))) hexec hb (atype := .long) harr (ty := .long) rfl hK hP hD hS hA (fun cA => rfl) hn hN hbytes hcells hslots hdg (fun q cA H1 hK1 hP1 hD1 hS1 => ?_)
  have e1 : s.vm.findClass ("[" ++ FieldType.long.toString) = some cA := (hK1.2 2 _ rfl).2
  have e2 : s.vm.findClass ("[" ++ FieldType.long.toString) = some cL := (hK.2 1 _ rfl).2
  cases Option.some.inj (e1.symm.trans e2)
  exact kk q H1 hP1 hD1 hS1
end
section
def hn_az (a : Nat) (l : List Nat) : Nat → Nat := fun k => match k with
  | 0 => a
  | k + 1 => l.getD k 0
/-- the fields of a new object -/
abbrev hn_fX : List Value := [.null, .null, .null, .int 0, .null, .null, .null, .null, .null, .null]
abbrev hn_fM : List Value := [.int 0, .null, .null, .null, .null, .null, .null, .int 0]
theorem hn_by0 (k : Nat) : hn_by (fun _ => 0) k = 0 := by
  unfold hn_by
  rw [show hn_u 0 = 0 from rfl, Nat.zero_div]
theorem hn_XR0 {σ : Nat → Nat → Int32} {g f : Nat → Int32} (e : σ = hn_up (hn_up (fun _ _ => 0) 8 g) 9 f) (hg : ∀ j, j < 512 → g j = -1) (hf : ∀ j, j < 392 → f j = -1) : hn_XR σ (fun _ => 0) (fun _ => []) 0 0 := by
  subst e
  refine ⟨fun _ => [], fun _ => [], ⟨fun d hd => ⟨hf _ (by omega), trivial, fun s hs => (by cases hs), rfl⟩, fun j hj => ⟨hg _ (by omega), trivial, fun s => ⟨fun z => (by cases z), fun z => (by cases z.1)⟩⟩, fun s _ => ⟨fun _ z => (by cases z), fun _ => rfl⟩⟩, fun d hd => ⟨rfl, fun s hs => (by cases hs)⟩, fun k _ => hn_by0 k, rfl, Nat.zero_le _, fun k hk => absurd hk (Nat.not_lt_zero _)⟩
theorem hn_MH0 : hn_MH (fun _ _ => 0) (fun _ => 0) 0 0 := ⟨fun k _ => rfl, fun _ => Nat.zero_lt_succ _, rfl, Nat.zero_le _, fun k hk => absurd hk (Nat.not_lt_zero _)⟩
theorem hn_MD0 : hn_MD (fun _ _ => 0) (fun _ => []) := fun d _ => ⟨rfl, fun j hj => absurd hj (Nat.not_lt_zero _)⟩
theorem hn_DO0 : hn_DO (fun _ => []) := fun d _ => ⟨trivial, Nat.zero_le _, fun e he => (by cases he)⟩
end
theorem hn_fill {g : Nat → Int32} {i : Nat} (h : ∀ j, j < i → g j = -1) {j : Nat} (hj : j < i + 1) : upd g i (-1) j = -1 := by
  by_cases e : j = i
  · rw [e, pk_us]
  · rw [pk_un e]; exact h j (by omega)

set_option maxHeartbeats 4000000 in
set_option maxRecDepth 100000 in
theorem cX_init_ok (l : Launch) (D : va_G) (cI cL : ClassId) (a0 : Nat) (sz : Nat) : Met l yX_init wX_init ({ frames := 1, cells := 9, slots := 3615, locals := 12 }) (hn_PW D (hn_ty cI cL) ([(a0, .inr (0, hn_fX))] : va_W) sz [.ref a0]) (va_Qv (fun u : (Nat → Nat) × (Nat → Nat → Int32) => u.1 0 = a0 ∧ hn_XR u.2 (fun _ => 0) (fun _ => []) 0 0) (fun (u : (Nat → Nat) × (Nat → Nat → Int32)) t => hn_at D (hn_ty cI cL) (va_A ([(a0, .inr (0, hn_fX))] : va_W) sz) (hn_wX u.1 cI u.2) t) (va_A ([(a0, .inr (0, hn_fX))] : va_W) sz)) 9 3615 (va_A ([(a0, .inr (0, hn_fX))] : va_W) sz) := by
  refine Met.ofW (cc := cX_init) (maxL := 2) (ret := none) (by decide) rfl ?_
  intro p e s m args below meth c s₁ B hml hv
  obtain ⟨rfl, hsz, hP, hK, hD0⟩ := hv
  subst hsz
  have hD := hD0.self (sz := s.heap.size)
  generalize hAe : va_A ([(a0, .inr (0, hn_fX))] : va_W) s.heap.size = A at hD ⊢
  have hA : ∀ q : Nat, s.heap.size ≤ q → A q := fun q h => by rw [← hAe]; exact Or.inr h
  have hS : va_S A s.heap s.heap [] := va_S.rf
  have hP : va_P D vwCl ([(a0, .inr (0, hn_fX))] : va_W) s.heap := hP
  have hin : meth.name = "<init>" := (name_of_methodNamed B.named B.method).1
  have hx := B.exec
  have hb := B.bytes
  have hr := B.returns
  have hts0 := atoms_spec (ws := wX_init) B.pre
  have hts : ∀ w ∈ hn_tb, w.before _ s = true := fun w hw => hts0 w (List.mem_cons_of_mem _ hw)
  have hown : s.vm.findClass RX = some m.cls := findClass_of_methodNamed B.named
  have hlocks := B.notSynchronized
  have hl := lv_entry [.ref a0] (n := 2) (Nat.le_of_ble_eq_true rfl)
  rw [lg_entry_eq]
  generalize (lg_sl [.ref a0] ++ List.replicate (2 - (lg_sl [.ref a0]).length) Slot.unset).toArray = ls at hl ⊢
  have hl : lv_has ls 2 [(0, .ref a0)] := hl
  refine lv_aload_n hx hb dX_init_0 rfl (lv_at hl 0 rfl) ?_
  refine W.objInit hx hb hown (hts _ mX_o_3) (hts _ mO_im) (hts _ mO_code) rfl (by rw [hml]; exact hl.1) rfl dX_init_1 (Nat.le_of_ble_eq_true rfl) (Nat.le_of_ble_eq_true rfl) ?_
  refine W.eq (g2 := F0 m 4 ls []) rfl ?_
  refine lv_aload_n hx hb dX_init_4 rfl (lv_at hl 0 rfl) ?_
  refine lv_iconst (v := 5) hx hb dX_init_5 (by decide) ?_
  refine hn_newi hx hb (hts _ mA_int) hK hP hD hS hA (N' := 5) (by decide) (by decide) (by decide) (Nat.le_of_ble_eq_true rfl) (Nat.le_of_ble_eq_true rfl) dX_init_6 (fun q1 H hP hD hS => ?_)
  have hP : va_P D vwCl [(a0, .inr (0, [.null, .null, .null, .int 0, .null, .null, .null, .null, .null, .null])), (q1, .inl (cI, 5, .inl (fun _ => 0)))] H := hP
  have hD : va_D A [(a0, .inr (0, [.null, .null, .null, .int 0, .null, .null, .null, .null, .null, .null])), (q1, .inl (cI, 5, .inl (fun _ => 0)))] := hD
  refine W.widen (k := 1) (n := 5) (Nat.le_of_ble_eq_true rfl) (Nat.le_of_ble_eq_true rfl) ?_
  refine va_putF (D := D) (ci := 0) (v := .ref q1) (ty := .array .int) (C := RX) (T := FX) (N := 10) hx hb hts iX tX tX_ok nX hown hK hP hD hS 0 rfl rfl 0 (by decide) (hts _ mX_f_hand) (fun _ h9 => h9) rfl hin rfl (by decide +kernel) rfl rfl (Nat.le_of_ble_eq_true rfl) dX_init_8 (fun H locs hP hD hS => ?_)
  have hP : va_P D vwCl [(a0, .inr (0, [.ref q1, .null, .null, .int 0, .null, .null, .null, .null, .null, .null])), (q1, .inl (cI, 5, .inl (fun _ => 0)))] H := hP
  have hD : va_D A [(a0, .inr (0, [.ref q1, .null, .null, .int 0, .null, .null, .null, .null, .null, .null])), (q1, .inl (cI, 5, .inl (fun _ => 0)))] := hD
  refine lv_aload_n hx hb dX_init_11 rfl (lv_at hl 0 rfl) ?_
  refine lv_iconst (v := 5) hx hb dX_init_12 (by decide) ?_
  refine hn_newi hx hb (hts _ mA_int) hK hP hD hS hA (N' := 5) (by decide) (by decide) (by decide) (Nat.le_of_ble_eq_true rfl) (Nat.le_of_ble_eq_true rfl) dX_init_13 (fun q2 H hP hD hS => ?_)
  have hP : va_P D vwCl [(a0, .inr (0, [.ref q1, .null, .null, .int 0, .null, .null, .null, .null, .null, .null])), (q1, .inl (cI, 5, .inl (fun _ => 0))), (q2, .inl (cI, 5, .inl (fun _ => 0)))] H := hP
  have hD : va_D A [(a0, .inr (0, [.ref q1, .null, .null, .int 0, .null, .null, .null, .null, .null, .null])), (q1, .inl (cI, 5, .inl (fun _ => 0))), (q2, .inl (cI, 5, .inl (fun _ => 0)))] := hD
  refine W.widen (k := 2) (n := 10) (Nat.le_of_ble_eq_true rfl) (Nat.le_of_ble_eq_true rfl) ?_
  refine va_putF (D := D) (ci := 0) (v := .ref q2) (ty := .array .int) (C := RX) (T := FX) (N := 10) hx hb hts iX tX tX_ok nX hown hK hP hD hS 0 rfl rfl 1 (by decide) (hts _ mX_f_key) (fun _ h9 => h9) rfl hin rfl (by decide +kernel) rfl rfl (Nat.le_of_ble_eq_true rfl) dX_init_15 (fun H locs hP hD hS => ?_)
  have hP : va_P D vwCl [(a0, .inr (0, [.ref q1, .ref q2, .null, .int 0, .null, .null, .null, .null, .null, .null])), (q1, .inl (cI, 5, .inl (fun _ => 0))), (q2, .inl (cI, 5, .inl (fun _ => 0)))] H := hP
  have hD : va_D A [(a0, .inr (0, [.ref q1, .ref q2, .null, .int 0, .null, .null, .null, .null, .null, .null])), (q1, .inl (cI, 5, .inl (fun _ => 0))), (q2, .inl (cI, 5, .inl (fun _ => 0)))] := hD
  refine lv_aload_n hx hb dX_init_18 rfl (lv_at hl 0 rfl) ?_
  refine lv_iconst (v := 5) hx hb dX_init_19 (by decide) ?_
  refine hn_newi hx hb (hts _ mA_int) hK hP hD hS hA (N' := 5) (by decide) (by decide) (by decide) (Nat.le_of_ble_eq_true rfl) (Nat.le_of_ble_eq_true rfl) dX_init_20 (fun q3 H hP hD hS => ?_)
  have hP : va_P D vwCl [(a0, .inr (0, [.ref q1, .ref q2, .null, .int 0, .null, .null, .null, .null, .null, .null])), (q1, .inl (cI, 5, .inl (fun _ => 0))), (q2, .inl (cI, 5, .inl (fun _ => 0))), (q3, .inl (cI, 5, .inl (fun _ => 0)))] H := hP
  have hD : va_D A [(a0, .inr (0, [.ref q1, .ref q2, .null, .int 0, .null, .null, .null, .null, .null, .null])), (q1, .inl (cI, 5, .inl (fun _ => 0))), (q2, .inl (cI, 5, .inl (fun _ => 0))), (q3, .inl (cI, 5, .inl (fun _ => 0)))] := hD
  refine W.widen (k := 3) (n := 15) (Nat.le_of_ble_eq_true rfl) (Nat.le_of_ble_eq_true rfl) ?_
  refine va_putF (D := D) (ci := 0) (v := .ref q3) (ty := .array .int) (C := RX) (T := FX) (N := 10) hx hb hts iX tX tX_ok nX hown hK hP hD hS 0 rfl rfl 2 (by decide) (hts _ mX_f_told) (fun _ h9 => h9) rfl hin rfl (by decide +kernel) rfl rfl (Nat.le_of_ble_eq_true rfl) dX_init_22 (fun H locs hP hD hS => ?_)
  have hP : va_P D vwCl [(a0, .inr (0, [.ref q1, .ref q2, .ref q3, .int 0, .null, .null, .null, .null, .null, .null])), (q1, .inl (cI, 5, .inl (fun _ => 0))), (q2, .inl (cI, 5, .inl (fun _ => 0))), (q3, .inl (cI, 5, .inl (fun _ => 0)))] H := hP
  have hD : va_D A [(a0, .inr (0, [.ref q1, .ref q2, .ref q3, .int 0, .null, .null, .null, .null, .null, .null])), (q1, .inl (cI, 5, .inl (fun _ => 0))), (q2, .inl (cI, 5, .inl (fun _ => 0))), (q3, .inl (cI, 5, .inl (fun _ => 0)))] := hD
  refine lv_aload_n hx hb dX_init_25 rfl (lv_at hl 0 rfl) ?_
  refine lv_iconst (v := 0) hx hb dX_init_26 (by decide) ?_
  refine va_put (D := D) (ci := 0) (v := .int 0) (ty := .int) (C := RX) (T := FX) (N := 10) hx hb hts iX tX tX_ok nX hown hK hP hD hS 0 rfl rfl 3 (by decide) (hts _ mX_f_toldLength) (fun _ h9 => h9) rfl (by decide +kernel) rfl rfl (Nat.le_of_ble_eq_true rfl) dX_init_27 (fun H locs hP hD hS => ?_)
  have hP : va_P D vwCl [(a0, .inr (0, [.ref q1, .ref q2, .ref q3, .int 0, .null, .null, .null, .null, .null, .null])), (q1, .inl (cI, 5, .inl (fun _ => 0))), (q2, .inl (cI, 5, .inl (fun _ => 0))), (q3, .inl (cI, 5, .inl (fun _ => 0)))] H := hP
  have hD : va_D A [(a0, .inr (0, [.ref q1, .ref q2, .ref q3, .int 0, .null, .null, .null, .null, .null, .null])), (q1, .inl (cI, 5, .inl (fun _ => 0))), (q2, .inl (cI, 5, .inl (fun _ => 0))), (q3, .inl (cI, 5, .inl (fun _ => 0)))] := hD
  refine lv_aload_n hx hb dX_init_30 rfl (lv_at hl 0 rfl) ?_
  refine lv_sipush (v := 1920) hx hb dX_init_31 (by decide) ?_
  refine hn_newi hx hb (hts _ mA_int) hK hP hD hS hA (N' := 1920) (by decide) (by decide) (by decide) (Nat.le_of_ble_eq_true rfl) (Nat.le_of_ble_eq_true rfl) dX_init_34 (fun q4 H hP hD hS => ?_)
  have hP : va_P D vwCl [(a0, .inr (0, [.ref q1, .ref q2, .ref q3, .int 0, .null, .null, .null, .null, .null, .null])), (q1, .inl (cI, 5, .inl (fun _ => 0))), (q2, .inl (cI, 5, .inl (fun _ => 0))), (q3, .inl (cI, 5, .inl (fun _ => 0))), (q4, .inl (cI, 1920, .inl (fun _ => 0)))] H := hP
  have hD : va_D A [(a0, .inr (0, [.ref q1, .ref q2, .ref q3, .int 0, .null, .null, .null, .null, .null, .null])), (q1, .inl (cI, 5, .inl (fun _ => 0))), (q2, .inl (cI, 5, .inl (fun _ => 0))), (q3, .inl (cI, 5, .inl (fun _ => 0))), (q4, .inl (cI, 1920, .inl (fun _ => 0)))] := hD
  refine W.widen (k := 4) (n := 1935) (Nat.le_of_ble_eq_true rfl) (Nat.le_of_ble_eq_true rfl) ?_
  refine va_putF (D := D) (ci := 0) (v := .ref q4) (ty := .array .int) (C := RX) (T := FX) (N := 10) hx hb hts iX tX tX_ok nX hown hK hP hD hS 0 rfl rfl 4 (by decide) (hts _ mX_f_words) (fun _ h9 => h9) rfl hin rfl (by decide +kernel) rfl rfl (Nat.le_of_ble_eq_true rfl) dX_init_36 (fun H locs hP hD hS => ?_)
  have hP : va_P D vwCl [(a0, .inr (0, [.ref q1, .ref q2, .ref q3, .int 0, .ref q4, .null, .null, .null, .null, .null])), (q1, .inl (cI, 5, .inl (fun _ => 0))), (q2, .inl (cI, 5, .inl (fun _ => 0))), (q3, .inl (cI, 5, .inl (fun _ => 0))), (q4, .inl (cI, 1920, .inl (fun _ => 0)))] H := hP
  have hD : va_D A [(a0, .inr (0, [.ref q1, .ref q2, .ref q3, .int 0, .ref q4, .null, .null, .null, .null, .null])), (q1, .inl (cI, 5, .inl (fun _ => 0))), (q2, .inl (cI, 5, .inl (fun _ => 0))), (q3, .inl (cI, 5, .inl (fun _ => 0))), (q4, .inl (cI, 1920, .inl (fun _ => 0)))] := hD
  refine lv_aload_n hx hb dX_init_39 rfl (lv_at hl 0 rfl) ?_
  refine lv_sipush (v := 384) hx hb dX_init_40 (by decide) ?_
  refine hn_newi hx hb (hts _ mA_int) hK hP hD hS hA (N' := 384) (by decide) (by decide) (by decide) (Nat.le_of_ble_eq_true rfl) (Nat.le_of_ble_eq_true rfl) dX_init_43 (fun q5 H hP hD hS => ?_)
  have hP : va_P D vwCl [(a0, .inr (0, [.ref q1, .ref q2, .ref q3, .int 0, .ref q4, .null, .null, .null, .null, .null])), (q1, .inl (cI, 5, .inl (fun _ => 0))), (q2, .inl (cI, 5, .inl (fun _ => 0))), (q3, .inl (cI, 5, .inl (fun _ => 0))), (q4, .inl (cI, 1920, .inl (fun _ => 0))), (q5, .inl (cI, 384, .inl (fun _ => 0)))] H := hP
  have hD : va_D A [(a0, .inr (0, [.ref q1, .ref q2, .ref q3, .int 0, .ref q4, .null, .null, .null, .null, .null])), (q1, .inl (cI, 5, .inl (fun _ => 0))), (q2, .inl (cI, 5, .inl (fun _ => 0))), (q3, .inl (cI, 5, .inl (fun _ => 0))), (q4, .inl (cI, 1920, .inl (fun _ => 0))), (q5, .inl (cI, 384, .inl (fun _ => 0)))] := hD
  refine W.widen (k := 5) (n := 2319) (Nat.le_of_ble_eq_true rfl) (Nat.le_of_ble_eq_true rfl) ?_
  refine va_putF (D := D) (ci := 0) (v := .ref q5) (ty := .array .int) (C := RX) (T := FX) (N := 10) hx hb hts iX tX tX_ok nX hown hK hP hD hS 0 rfl rfl 5 (by decide) (hts _ mX_f_lengths) (fun _ h9 => h9) rfl hin rfl (by decide +kernel) rfl rfl (Nat.le_of_ble_eq_true rfl) dX_init_45 (fun H locs hP hD hS => ?_)
  have hP : va_P D vwCl [(a0, .inr (0, [.ref q1, .ref q2, .ref q3, .int 0, .ref q4, .ref q5, .null, .null, .null, .null])), (q1, .inl (cI, 5, .inl (fun _ => 0))), (q2, .inl (cI, 5, .inl (fun _ => 0))), (q3, .inl (cI, 5, .inl (fun _ => 0))), (q4, .inl (cI, 1920, .inl (fun _ => 0))), (q5, .inl (cI, 384, .inl (fun _ => 0)))] H := hP
  have hD : va_D A [(a0, .inr (0, [.ref q1, .ref q2, .ref q3, .int 0, .ref q4, .ref q5, .null, .null, .null, .null])), (q1, .inl (cI, 5, .inl (fun _ => 0))), (q2, .inl (cI, 5, .inl (fun _ => 0))), (q3, .inl (cI, 5, .inl (fun _ => 0))), (q4, .inl (cI, 1920, .inl (fun _ => 0))), (q5, .inl (cI, 384, .inl (fun _ => 0)))] := hD
  refine lv_aload_n hx hb dX_init_48 rfl (lv_at hl 0 rfl) ?_
  refine lv_sipush (v := 384) hx hb dX_init_49 (by decide) ?_
  refine hn_newi hx hb (hts _ mA_int) hK hP hD hS hA (N' := 384) (by decide) (by decide) (by decide) (Nat.le_of_ble_eq_true rfl) (Nat.le_of_ble_eq_true rfl) dX_init_52 (fun q6 H hP hD hS => ?_)
  have hP : va_P D vwCl [(a0, .inr (0, [.ref q1, .ref q2, .ref q3, .int 0, .ref q4, .ref q5, .null, .null, .null, .null])), (q1, .inl (cI, 5, .inl (fun _ => 0))), (q2, .inl (cI, 5, .inl (fun _ => 0))), (q3, .inl (cI, 5, .inl (fun _ => 0))), (q4, .inl (cI, 1920, .inl (fun _ => 0))), (q5, .inl (cI, 384, .inl (fun _ => 0))), (q6, .inl (cI, 384, .inl (fun _ => 0)))] H := hP
  have hD : va_D A [(a0, .inr (0, [.ref q1, .ref q2, .ref q3, .int 0, .ref q4, .ref q5, .null, .null, .null, .null])), (q1, .inl (cI, 5, .inl (fun _ => 0))), (q2, .inl (cI, 5, .inl (fun _ => 0))), (q3, .inl (cI, 5, .inl (fun _ => 0))), (q4, .inl (cI, 1920, .inl (fun _ => 0))), (q5, .inl (cI, 384, .inl (fun _ => 0))), (q6, .inl (cI, 384, .inl (fun _ => 0)))] := hD
  refine W.widen (k := 6) (n := 2703) (Nat.le_of_ble_eq_true rfl) (Nat.le_of_ble_eq_true rfl) ?_
  refine va_putF (D := D) (ci := 0) (v := .ref q6) (ty := .array .int) (C := RX) (T := FX) (N := 10) hx hb hts iX tX tX_ok nX hown hK hP hD hS 0 rfl rfl 6 (by decide) (hts _ mX_f_ids) (fun _ h9 => h9) rfl hin rfl (by decide +kernel) rfl rfl (Nat.le_of_ble_eq_true rfl) dX_init_54 (fun H locs hP hD hS => ?_)
  have hP : va_P D vwCl [(a0, .inr (0, [.ref q1, .ref q2, .ref q3, .int 0, .ref q4, .ref q5, .ref q6, .null, .null, .null])), (q1, .inl (cI, 5, .inl (fun _ => 0))), (q2, .inl (cI, 5, .inl (fun _ => 0))), (q3, .inl (cI, 5, .inl (fun _ => 0))), (q4, .inl (cI, 1920, .inl (fun _ => 0))), (q5, .inl (cI, 384, .inl (fun _ => 0))), (q6, .inl (cI, 384, .inl (fun _ => 0)))] H := hP
  have hD : va_D A [(a0, .inr (0, [.ref q1, .ref q2, .ref q3, .int 0, .ref q4, .ref q5, .ref q6, .null, .null, .null])), (q1, .inl (cI, 5, .inl (fun _ => 0))), (q2, .inl (cI, 5, .inl (fun _ => 0))), (q3, .inl (cI, 5, .inl (fun _ => 0))), (q4, .inl (cI, 1920, .inl (fun _ => 0))), (q5, .inl (cI, 384, .inl (fun _ => 0))), (q6, .inl (cI, 384, .inl (fun _ => 0)))] := hD
  refine lv_aload_n hx hb dX_init_57 rfl (lv_at hl 0 rfl) ?_
  refine lv_bipush (v := 8) hx hb dX_init_58 (by decide) ?_
  refine hn_newi hx hb (hts _ mA_int) hK hP hD hS hA (N' := 8) (by decide) (by decide) (by decide) (Nat.le_of_ble_eq_true rfl) (Nat.le_of_ble_eq_true rfl) dX_init_60 (fun q7 H hP hD hS => ?_)
  have hP : va_P D vwCl [(a0, .inr (0, [.ref q1, .ref q2, .ref q3, .int 0, .ref q4, .ref q5, .ref q6, .null, .null, .null])), (q1, .inl (cI, 5, .inl (fun _ => 0))), (q2, .inl (cI, 5, .inl (fun _ => 0))), (q3, .inl (cI, 5, .inl (fun _ => 0))), (q4, .inl (cI, 1920, .inl (fun _ => 0))), (q5, .inl (cI, 384, .inl (fun _ => 0))), (q6, .inl (cI, 384, .inl (fun _ => 0))), (q7, .inl (cI, 8, .inl (fun _ => 0)))] H := hP
  have hD : va_D A [(a0, .inr (0, [.ref q1, .ref q2, .ref q3, .int 0, .ref q4, .ref q5, .ref q6, .null, .null, .null])), (q1, .inl (cI, 5, .inl (fun _ => 0))), (q2, .inl (cI, 5, .inl (fun _ => 0))), (q3, .inl (cI, 5, .inl (fun _ => 0))), (q4, .inl (cI, 1920, .inl (fun _ => 0))), (q5, .inl (cI, 384, .inl (fun _ => 0))), (q6, .inl (cI, 384, .inl (fun _ => 0))), (q7, .inl (cI, 8, .inl (fun _ => 0)))] := hD
  refine W.widen (k := 7) (n := 2711) (Nat.le_of_ble_eq_true rfl) (Nat.le_of_ble_eq_true rfl) ?_
  refine va_putF (D := D) (ci := 0) (v := .ref q7) (ty := .array .int) (C := RX) (T := FX) (N := 10) hx hb hts iX tX tX_ok nX hown hK hP hD hS 0 rfl rfl 7 (by decide) (hts _ mX_f_counts) (fun _ h9 => h9) rfl hin rfl (by decide +kernel) rfl rfl (Nat.le_of_ble_eq_true rfl) dX_init_62 (fun H locs hP hD hS => ?_)
  have hP : va_P D vwCl [(a0, .inr (0, [.ref q1, .ref q2, .ref q3, .int 0, .ref q4, .ref q5, .ref q6, .ref q7, .null, .null])), (q1, .inl (cI, 5, .inl (fun _ => 0))), (q2, .inl (cI, 5, .inl (fun _ => 0))), (q3, .inl (cI, 5, .inl (fun _ => 0))), (q4, .inl (cI, 1920, .inl (fun _ => 0))), (q5, .inl (cI, 384, .inl (fun _ => 0))), (q6, .inl (cI, 384, .inl (fun _ => 0))), (q7, .inl (cI, 8, .inl (fun _ => 0)))] H := hP
  have hD : va_D A [(a0, .inr (0, [.ref q1, .ref q2, .ref q3, .int 0, .ref q4, .ref q5, .ref q6, .ref q7, .null, .null])), (q1, .inl (cI, 5, .inl (fun _ => 0))), (q2, .inl (cI, 5, .inl (fun _ => 0))), (q3, .inl (cI, 5, .inl (fun _ => 0))), (q4, .inl (cI, 1920, .inl (fun _ => 0))), (q5, .inl (cI, 384, .inl (fun _ => 0))), (q6, .inl (cI, 384, .inl (fun _ => 0))), (q7, .inl (cI, 8, .inl (fun _ => 0)))] := hD
  refine lv_aload_n hx hb dX_init_65 rfl (lv_at hl 0 rfl) ?_
  refine lv_sipush (v := 512) hx hb dX_init_66 (by decide) ?_
  refine hn_newi hx hb (hts _ mA_int) hK hP hD hS hA (N' := 512) (by decide) (by decide) (by decide) (Nat.le_of_ble_eq_true rfl) (Nat.le_of_ble_eq_true rfl) dX_init_69 (fun q8 H hP hD hS => ?_)
  have hP : va_P D vwCl [(a0, .inr (0, [.ref q1, .ref q2, .ref q3, .int 0, .ref q4, .ref q5, .ref q6, .ref q7, .null, .null])), (q1, .inl (cI, 5, .inl (fun _ => 0))), (q2, .inl (cI, 5, .inl (fun _ => 0))), (q3, .inl (cI, 5, .inl (fun _ => 0))), (q4, .inl (cI, 1920, .inl (fun _ => 0))), (q5, .inl (cI, 384, .inl (fun _ => 0))), (q6, .inl (cI, 384, .inl (fun _ => 0))), (q7, .inl (cI, 8, .inl (fun _ => 0))), (q8, .inl (cI, 512, .inl (fun _ => 0)))] H := hP
  have hD : va_D A [(a0, .inr (0, [.ref q1, .ref q2, .ref q3, .int 0, .ref q4, .ref q5, .ref q6, .ref q7, .null, .null])), (q1, .inl (cI, 5, .inl (fun _ => 0))), (q2, .inl (cI, 5, .inl (fun _ => 0))), (q3, .inl (cI, 5, .inl (fun _ => 0))), (q4, .inl (cI, 1920, .inl (fun _ => 0))), (q5, .inl (cI, 384, .inl (fun _ => 0))), (q6, .inl (cI, 384, .inl (fun _ => 0))), (q7, .inl (cI, 8, .inl (fun _ => 0))), (q8, .inl (cI, 512, .inl (fun _ => 0)))] := hD
  refine W.widen (k := 8) (n := 3223) (Nat.le_of_ble_eq_true rfl) (Nat.le_of_ble_eq_true rfl) ?_
  refine va_putF (D := D) (ci := 0) (v := .ref q8) (ty := .array .int) (C := RX) (T := FX) (N := 10) hx hb hts iX tX tX_ok nX hown hK hP hD hS 0 rfl rfl 8 (by decide) (hts _ mX_f_bucketLinks) (fun _ h9 => h9) rfl hin rfl (by decide +kernel) rfl rfl (Nat.le_of_ble_eq_true rfl) dX_init_71 (fun H locs hP hD hS => ?_)
  have hP : va_P D vwCl [(a0, .inr (0, [.ref q1, .ref q2, .ref q3, .int 0, .ref q4, .ref q5, .ref q6, .ref q7, .ref q8, .null])), (q1, .inl (cI, 5, .inl (fun _ => 0))), (q2, .inl (cI, 5, .inl (fun _ => 0))), (q3, .inl (cI, 5, .inl (fun _ => 0))), (q4, .inl (cI, 1920, .inl (fun _ => 0))), (q5, .inl (cI, 384, .inl (fun _ => 0))), (q6, .inl (cI, 384, .inl (fun _ => 0))), (q7, .inl (cI, 8, .inl (fun _ => 0))), (q8, .inl (cI, 512, .inl (fun _ => 0)))] H := hP
  have hD : va_D A [(a0, .inr (0, [.ref q1, .ref q2, .ref q3, .int 0, .ref q4, .ref q5, .ref q6, .ref q7, .ref q8, .null])), (q1, .inl (cI, 5, .inl (fun _ => 0))), (q2, .inl (cI, 5, .inl (fun _ => 0))), (q3, .inl (cI, 5, .inl (fun _ => 0))), (q4, .inl (cI, 1920, .inl (fun _ => 0))), (q5, .inl (cI, 384, .inl (fun _ => 0))), (q6, .inl (cI, 384, .inl (fun _ => 0))), (q7, .inl (cI, 8, .inl (fun _ => 0))), (q8, .inl (cI, 512, .inl (fun _ => 0)))] := hD
  refine lv_aload_n hx hb dX_init_74 rfl (lv_at hl 0 rfl) ?_
  refine lv_sipush (v := 392) hx hb dX_init_75 (by decide) ?_
  refine hn_newi hx hb (hts _ mA_int) hK hP hD hS hA (N' := 392) (by decide) (by decide) (by decide) (Nat.le_of_ble_eq_true rfl) (Nat.le_of_ble_eq_true rfl) dX_init_78 (fun q9 H hP hD hS => ?_)
  have hP : va_P D vwCl [(a0, .inr (0, [.ref q1, .ref q2, .ref q3, .int 0, .ref q4, .ref q5, .ref q6, .ref q7, .ref q8, .null])), (q1, .inl (cI, 5, .inl (fun _ => 0))), (q2, .inl (cI, 5, .inl (fun _ => 0))), (q3, .inl (cI, 5, .inl (fun _ => 0))), (q4, .inl (cI, 1920, .inl (fun _ => 0))), (q5, .inl (cI, 384, .inl (fun _ => 0))), (q6, .inl (cI, 384, .inl (fun _ => 0))), (q7, .inl (cI, 8, .inl (fun _ => 0))), (q8, .inl (cI, 512, .inl (fun _ => 0))), (q9, .inl (cI, 392, .inl (fun _ => 0)))] H := hP
  have hD : va_D A [(a0, .inr (0, [.ref q1, .ref q2, .ref q3, .int 0, .ref q4, .ref q5, .ref q6, .ref q7, .ref q8, .null])), (q1, .inl (cI, 5, .inl (fun _ => 0))), (q2, .inl (cI, 5, .inl (fun _ => 0))), (q3, .inl (cI, 5, .inl (fun _ => 0))), (q4, .inl (cI, 1920, .inl (fun _ => 0))), (q5, .inl (cI, 384, .inl (fun _ => 0))), (q6, .inl (cI, 384, .inl (fun _ => 0))), (q7, .inl (cI, 8, .inl (fun _ => 0))), (q8, .inl (cI, 512, .inl (fun _ => 0))), (q9, .inl (cI, 392, .inl (fun _ => 0)))] := hD
  refine W.widen (k := 9) (n := 3615) (Nat.le_of_ble_eq_true rfl) (Nat.le_of_ble_eq_true rfl) ?_
  refine va_putF (D := D) (ci := 0) (v := .ref q9) (ty := .array .int) (C := RX) (T := FX) (N := 10) hx hb hts iX tX tX_ok nX hown hK hP hD hS 0 rfl rfl 9 (by decide) (hts _ mX_f_orderLinks) (fun _ h9 => h9) rfl hin rfl (by decide +kernel) rfl rfl (Nat.le_of_ble_eq_true rfl) dX_init_80 (fun H locs hP hD hS => ?_)
  have hP : va_P D vwCl [(a0, .inr (0, [.ref q1, .ref q2, .ref q3, .int 0, .ref q4, .ref q5, .ref q6, .ref q7, .ref q8, .ref q9])), (q1, .inl (cI, 5, .inl (fun _ => 0))), (q2, .inl (cI, 5, .inl (fun _ => 0))), (q3, .inl (cI, 5, .inl (fun _ => 0))), (q4, .inl (cI, 1920, .inl (fun _ => 0))), (q5, .inl (cI, 384, .inl (fun _ => 0))), (q6, .inl (cI, 384, .inl (fun _ => 0))), (q7, .inl (cI, 8, .inl (fun _ => 0))), (q8, .inl (cI, 512, .inl (fun _ => 0))), (q9, .inl (cI, 392, .inl (fun _ => 0)))] H := hP
  have hD : va_D A [(a0, .inr (0, [.ref q1, .ref q2, .ref q3, .int 0, .ref q4, .ref q5, .ref q6, .ref q7, .ref q8, .ref q9])), (q1, .inl (cI, 5, .inl (fun _ => 0))), (q2, .inl (cI, 5, .inl (fun _ => 0))), (q3, .inl (cI, 5, .inl (fun _ => 0))), (q4, .inl (cI, 1920, .inl (fun _ => 0))), (q5, .inl (cI, 384, .inl (fun _ => 0))), (q6, .inl (cI, 384, .inl (fun _ => 0))), (q7, .inl (cI, 8, .inl (fun _ => 0))), (q8, .inl (cI, 512, .inl (fun _ => 0))), (q9, .inl (cI, 392, .inl (fun _ => 0)))] := hD
  obtain ⟨ad, ead⟩ : ∃ z : Nat → Nat, z = hn_az a0 [q1, q2, q3, q4, q5, q6, q7, q8, q9] := ⟨_, rfl⟩
  have ea0 : ad 0 = a0 := by rw [ead]; rfl
  have hP : va_P D vwCl (hn_wX ad cI (fun _ _ => 0)) H := by rw [ead]; exact hP
  have hD : va_D A (hn_wX ad cI (fun _ _ => 0)) := by rw [ead]; exact hD
  have hl : lv_has ls 2 [(0, .ref (ad 0))] := by rw [ea0]; exact hl
  refine lv_iconst (v := 0) hx hb dX_init_83 (by decide) ?_
  refine lv_istore_n (lv' := [(1, .int 0), (0, .ref (ad 0))]) hx hb dX_init_84 rfl hl (by decide) rfl (fun ls hl => ?_)
  suffices loop8 : ∀ (k i : Nat) (σ3 : Nat → Nat → Int32) (H : Heap) (locs : List Loc), i + k = 512 → va_P D vwCl (hn_wX ad cI σ3) H → va_D A (hn_wX ad cI σ3) → va_S A s.heap H locs → (∃ g : Nat → Int32, σ3 = hn_up (fun _ _ => 0) 8 g ∧ ∀ j, j < i → g j = -1) → ∀ ls : Array Slot, lv_has ls 2 [(0, .ref (ad 0)), (1, .int (nI i))] → W p l e (headSpec wX_init ({ frames := 1, cells := 9, slots := 3615, locals := 12 })).room s m [.ref a0].toArray below meth c H locs 9 3615 (MQ below (va_Qv (fun u : (Nat → Nat) × (Nat → Nat → Int32) => u.1 0 = a0 ∧ hn_XR u.2 (fun _ => 0) (fun _ => []) 0 0) (fun (u : (Nat → Nat) × (Nat → Nat → Int32)) t => hn_at D (hn_ty cI cL) A (hn_wX u.1 cI u.2) t) A) [.ref a0].toArray s 9 3615 A) (F0 m 85 ls []) from loop8 512 0 (fun _ _ => 0) _ _ rfl hP hD hS ⟨fun _ => 0, hn_upself (fun _ _ => 0) 8, fun j z => absurd z (Nat.not_lt_zero _)⟩ ls (lv_sub hl [1, 0] rfl)
  intro k
  induction k with
  | succ k ih =>
    intro i σ3 H locs hf hP hD hS hI ls hl
    refine lv_iload_n hx hb dX_init_85 rfl (lv_at hl 1 rfl) ?_
    refine lv_aload_n hx hb dX_init_86 rfl (lv_at hl 0 rfl) ?_
    refine va_get (D := D) (ci := 0) (v := .ref (ad 8)) (C := RX) (T := FX) (N := 10) hx hb hts iX hown hK hP 0 rfl rfl 8 (by decide) (hts _ mX_f_bucketLinks) (fun _ h9 => h9) rfl dX_init_87 ?_
    refine va_alen hx hb hK hP 8 0 rfl rfl (v := nI 512) rfl dX_init_90 ?_
    refine lv_icmp_ge (tgt := 107) hx hb dX_init_91 (by decide) (fun c_1 => absurd c_1 (nI_ge (a := i) (b := 512) (by omega) (by decide))) (fun c_1 => ?_)
    obtain ⟨g, eg, hg⟩ := hI
    refine lv_aload_n hx hb dX_init_94 rfl (lv_at hl 0 rfl) ?_
    refine va_get (D := D) (ci := 0) (v := .ref (ad 8)) (C := RX) (T := FX) (N := 10) hx hb hts iX hown hK hP 0 rfl rfl 8 (by decide) (hts _ mX_f_bucketLinks) (fun _ h9 => h9) rfl dX_init_95 ?_
    refine lv_iload_n hx hb dX_init_98 rfl (lv_at hl 1 rfl) ?_
    refine lv_iconst (v := (-1)) hx hb dX_init_99 (by decide) ?_
    refine va_iast hx hb hK hP hD hS 8 0 rfl rfl (vp_in_nI (show i < 512 from by omega) (by omega)) dX_init_100 (fun H locs hP hD hS => ?_)
    rw [nI_clamp (show i < 2 ^ 31 by omega)] at hP hD
    obtain ⟨σ4, eσ4⟩ : ∃ z : Nat → Nat → Int32, z = hn_up (σ3) 8 (upd (σ3 8) i (-1)) := ⟨_, rfl⟩
    have hP : va_P D vwCl (hn_wX ad cI (σ4)) H := by rw [eσ4]; exact hP
    have hD : va_D A (hn_wX ad cI (σ4)) := by rw [eσ4]; exact hD
    refine lv_iinc (v := nI (i + 1)) (lv' := [(1, .int (nI (i + 1))), (0, .ref (ad 0))]) hx hb dX_init_101 hl (k := 1) rfl (nI_1 i) (by decide) rfl (fun ls hl => ?_)
    refine lv_goto (tgt := 85) hx hb dX_init_104 (by decide) ?_
    exact ih (i + 1) σ4 H locs (by omega) hP hD hS ⟨upd g i (-1), by rw [eσ4, eg]; exact hn_upup _ _ _ _, fun j hj => hn_fill hg hj⟩ ls (lv_sub hl [1, 0] rfl)
  | zero =>
    intro i σ3 H locs hf hP hD hS hI ls hl
    have hf : i = 512 := hf
    subst hf
    refine lv_iload_n hx hb dX_init_85 rfl (lv_at hl 1 rfl) ?_
    refine lv_aload_n hx hb dX_init_86 rfl (lv_at hl 0 rfl) ?_
    refine va_get (D := D) (ci := 0) (v := .ref (ad 8)) (C := RX) (T := FX) (N := 10) hx hb hts iX hown hK hP 0 rfl rfl 8 (by decide) (hts _ mX_f_bucketLinks) (fun _ h9 => h9) rfl dX_init_87 ?_
    refine va_alen hx hb hK hP 8 0 rfl rfl (v := nI 512) rfl dX_init_90 ?_
    obtain ⟨g, eg, hg⟩ := hI
    refine lv_icmp_ge (tgt := 107) hx hb dX_init_91 (by decide) (fun c9 => ?_) (fun c9 => absurd (Int32.le_refl _) c9)
    refine lv_iconst (v := 0) hx hb dX_init_107 (by decide) ?_
    refine lv_istore_n (lv' := [(1, .int 0), (0, .ref (ad 0))]) hx hb dX_init_108 rfl hl (by decide) rfl (fun ls hl => ?_)
    suffices loop9 : ∀ (k i : Nat) (σ3 : Nat → Nat → Int32) (H : Heap) (locs : List Loc), i + k = 392 → va_P D vwCl (hn_wX ad cI σ3) H → va_D A (hn_wX ad cI σ3) → va_S A s.heap H locs → (∃ f : Nat → Int32, σ3 = hn_up (hn_up (fun _ _ => 0) 8 g) 9 f ∧ ∀ j, j < i → f j = -1) → ∀ ls : Array Slot, lv_has ls 2 [(0, .ref (ad 0)), (1, .int (nI i))] → W p l e (headSpec wX_init ({ frames := 1, cells := 9, slots := 3615, locals := 12 })).room s m [.ref a0].toArray below meth c H locs 9 3615 (MQ below (va_Qv (fun u : (Nat → Nat) × (Nat → Nat → Int32) => u.1 0 = a0 ∧ hn_XR u.2 (fun _ => 0) (fun _ => []) 0 0) (fun (u : (Nat → Nat) × (Nat → Nat → Int32)) t => hn_at D (hn_ty cI cL) A (hn_wX u.1 cI u.2) t) A) [.ref a0].toArray s 9 3615 A) (F0 m 109 ls []) from loop9 392 0 σ3 _ _ rfl hP hD hS ⟨_, by rw [eg]; exact hn_upself (hn_up (fun _ _ => 0) 8 g) 9, fun j z => absurd z (Nat.not_lt_zero _)⟩ ls (lv_sub hl [1, 0] rfl)
    intro k
    induction k with
    | succ k ih =>
      intro i σ3 H locs hf hP hD hS hI ls hl
      refine lv_iload_n hx hb dX_init_109 rfl (lv_at hl 1 rfl) ?_
      refine lv_aload_n hx hb dX_init_110 rfl (lv_at hl 0 rfl) ?_
      refine va_get (D := D) (ci := 0) (v := .ref (ad 9)) (C := RX) (T := FX) (N := 10) hx hb hts iX hown hK hP 0 rfl rfl 9 (by decide) (hts _ mX_f_orderLinks) (fun _ h9 => h9) rfl dX_init_111 ?_
      refine va_alen hx hb hK hP 9 0 rfl rfl (v := nI 392) rfl dX_init_114 ?_
      refine lv_icmp_ge (tgt := 131) hx hb dX_init_115 (by decide) (fun c_2 => absurd c_2 (nI_ge (a := i) (b := 392) (by omega) (by decide))) (fun c_2 => ?_)
      obtain ⟨f, ef, hf⟩ := hI
      refine lv_aload_n hx hb dX_init_118 rfl (lv_at hl 0 rfl) ?_
      refine va_get (D := D) (ci := 0) (v := .ref (ad 9)) (C := RX) (T := FX) (N := 10) hx hb hts iX hown hK hP 0 rfl rfl 9 (by decide) (hts _ mX_f_orderLinks) (fun _ h9 => h9) rfl dX_init_119 ?_
      refine lv_iload_n hx hb dX_init_122 rfl (lv_at hl 1 rfl) ?_
      refine lv_iconst (v := (-1)) hx hb dX_init_123 (by decide) ?_
      refine va_iast hx hb hK hP hD hS 9 0 rfl rfl (vp_in_nI (show i < 392 from by omega) (by omega)) dX_init_124 (fun H locs hP hD hS => ?_)
      rw [nI_clamp (show i < 2 ^ 31 by omega)] at hP hD
      obtain ⟨σ4, eσ4⟩ : ∃ z : Nat → Nat → Int32, z = hn_up (σ3) 9 (upd (σ3 9) i (-1)) := ⟨_, rfl⟩
      have hP : va_P D vwCl (hn_wX ad cI (σ4)) H := by rw [eσ4]; exact hP
      have hD : va_D A (hn_wX ad cI (σ4)) := by rw [eσ4]; exact hD
      refine lv_iinc (v := nI (i + 1)) (lv' := [(1, .int (nI (i + 1))), (0, .ref (ad 0))]) hx hb dX_init_125 hl (k := 1) rfl (nI_1 i) (by decide) rfl (fun ls hl => ?_)
      refine lv_goto (tgt := 109) hx hb dX_init_128 (by decide) ?_
      exact ih (i + 1) σ4 H locs (by omega) hP hD hS ⟨upd f i (-1), by rw [eσ4, ef]; exact hn_upup _ _ _ _, fun j hj => hn_fill hf hj⟩ ls (lv_sub hl [1, 0] rfl)
    | zero =>
      intro i σ3 H locs hf hP hD hS hI ls hl
      have hf : i = 392 := hf
      subst hf
      refine lv_iload_n hx hb dX_init_109 rfl (lv_at hl 1 rfl) ?_
      refine lv_aload_n hx hb dX_init_110 rfl (lv_at hl 0 rfl) ?_
      refine va_get (D := D) (ci := 0) (v := .ref (ad 9)) (C := RX) (T := FX) (N := 10) hx hb hts iX hown hK hP 0 rfl rfl 9 (by decide) (hts _ mX_f_orderLinks) (fun _ h9 => h9) rfl dX_init_111 ?_
      refine va_alen hx hb hK hP 9 0 rfl rfl (v := nI 392) rfl dX_init_114 ?_
      obtain ⟨f, ef, hf⟩ := hI
      refine lv_icmp_ge (tgt := 131) hx hb dX_init_115 (by decide) (fun c9 => ?_) (fun c9 => absurd (Int32.le_refl _) c9)
      exact W.vret hx hb hr (fun t9 ht9 hW9 => ⟨⟨(ad, σ3), rfl, ⟨ea0, hn_XR0 (by rw [ef]) hg hf⟩, by rw [ht9]; exact hP, va_K.moved hW9.alike hK, hD⟩, hS.F ht9⟩) hS.2.2 dX_init_131

set_option maxHeartbeats 4000000 in
set_option maxRecDepth 100000 in
theorem cM_init_ok (l : Launch) (D : va_G) (cI cL : ClassId) (a0 : Nat) (sz : Nat) : Met l yM_init wM_init ({ frames := 1, cells := 6, slots := 8496, locals := 12 }) (hn_PW D (hn_ty cI cL) ([(a0, .inr (1, hn_fM))] : va_W) sz [.ref a0]) (va_Qv (fun u : (Nat → Nat) × (Nat → Nat → Int32) => u.1 0 = a0 ∧ hn_MH u.2 (fun _ => 0) 0 0 ∧ hn_MD u.2 (fun _ => [])) (fun (u : (Nat → Nat) × (Nat → Nat → Int32)) t => hn_at D (hn_ty cI cL) (va_A ([(a0, .inr (1, hn_fM))] : va_W) sz) (hn_wM u.1 cI u.2) t) (va_A ([(a0, .inr (1, hn_fM))] : va_W) sz)) 6 8496 (va_A ([(a0, .inr (1, hn_fM))] : va_W) sz) := by
  refine Met.ofW (cc := cM_init) (maxL := 1) (ret := none) (by decide) rfl ?_
  intro p e s m args below meth c s₁ B hml hv
  obtain ⟨rfl, hsz, hP, hK, hD0⟩ := hv
  subst hsz
  have hD := hD0.self (sz := s.heap.size)
  generalize hAe : va_A ([(a0, .inr (1, hn_fM))] : va_W) s.heap.size = A at hD ⊢
  have hA : ∀ q : Nat, s.heap.size ≤ q → A q := fun q h => by rw [← hAe]; exact Or.inr h
  have hS : va_S A s.heap s.heap [] := va_S.rf
  have hP : va_P D vwCl ([(a0, .inr (1, hn_fM))] : va_W) s.heap := hP
  have hin : meth.name = "<init>" := (name_of_methodNamed B.named B.method).1
  have hx := B.exec
  have hb := B.bytes
  have hr := B.returns
  have hts0 := atoms_spec (ws := wM_init) B.pre
  have hts : ∀ w ∈ hn_tb, w.before _ s = true := fun w hw => hts0 w (List.mem_cons_of_mem _ hw)
  have hown : s.vm.findClass RM = some m.cls := findClass_of_methodNamed B.named
  have hlocks := B.notSynchronized
  have hl := lv_entry [.ref a0] (n := 1) (Nat.le_of_ble_eq_true rfl)
  rw [lg_entry_eq]
  generalize (lg_sl [.ref a0] ++ List.replicate (1 - (lg_sl [.ref a0]).length) Slot.unset).toArray = ls at hl ⊢
  have hl : lv_has ls 1 [(0, .ref a0)] := hl
  refine lv_aload_n hx hb dM_init_0 rfl (lv_at hl 0 rfl) ?_
  refine W.objInit hx hb hown (hts _ mM_o_1) (hts _ mO_im) (hts _ mO_code) rfl (by rw [hml]; exact hl.1) rfl dM_init_1 (Nat.le_of_ble_eq_true rfl) (Nat.le_of_ble_eq_true rfl) ?_
  refine W.eq (g2 := F0 m 4 ls []) rfl ?_
  refine lv_aload_n hx hb dM_init_4 rfl (lv_at hl 0 rfl) ?_
  refine lv_bipush (v := 20) hx hb dM_init_5 (by decide) ?_
  refine hn_newi hx hb (hts _ mA_int) hK hP hD hS hA (N' := 20) (by decide) (by decide) (by decide) (Nat.le_of_ble_eq_true rfl) (Nat.le_of_ble_eq_true rfl) dM_init_7 (fun q1 H hP hD hS => ?_)
  have hP : va_P D vwCl [(a0, .inr (1, [.int 0, .null, .null, .null, .null, .null, .null, .int 0])), (q1, .inl (cI, 20, .inl (fun _ => 0)))] H := hP
  have hD : va_D A [(a0, .inr (1, [.int 0, .null, .null, .null, .null, .null, .null, .int 0])), (q1, .inl (cI, 20, .inl (fun _ => 0)))] := hD
  refine W.widen (k := 1) (n := 20) (Nat.le_of_ble_eq_true rfl) (Nat.le_of_ble_eq_true rfl) ?_
  refine va_putF (D := D) (ci := 1) (v := .ref q1) (ty := .array .int) (C := RM) (T := FM) (N := 8) hx hb hts iM tM tM_ok nM hown hK hP hD hS 0 rfl rfl 1 (by decide) (hts _ mM_f_hand) (fun _ h9 => h9) rfl hin rfl (by decide +kernel) rfl rfl (Nat.le_of_ble_eq_true rfl) dM_init_9 (fun H locs hP hD hS => ?_)
  have hP : va_P D vwCl [(a0, .inr (1, [.int 0, .ref q1, .null, .null, .null, .null, .null, .int 0])), (q1, .inl (cI, 20, .inl (fun _ => 0)))] H := hP
  have hD : va_D A [(a0, .inr (1, [.int 0, .ref q1, .null, .null, .null, .null, .null, .int 0])), (q1, .inl (cI, 20, .inl (fun _ => 0)))] := hD
  refine lv_aload_n hx hb dM_init_12 rfl (lv_at hl 0 rfl) ?_
  refine lv_bipush (v := 8) hx hb dM_init_13 (by decide) ?_
  refine hn_newi hx hb (hts _ mA_int) hK hP hD hS hA (N' := 8) (by decide) (by decide) (by decide) (Nat.le_of_ble_eq_true rfl) (Nat.le_of_ble_eq_true rfl) dM_init_15 (fun q2 H hP hD hS => ?_)
  have hP : va_P D vwCl [(a0, .inr (1, [.int 0, .ref q1, .null, .null, .null, .null, .null, .int 0])), (q1, .inl (cI, 20, .inl (fun _ => 0))), (q2, .inl (cI, 8, .inl (fun _ => 0)))] H := hP
  have hD : va_D A [(a0, .inr (1, [.int 0, .ref q1, .null, .null, .null, .null, .null, .int 0])), (q1, .inl (cI, 20, .inl (fun _ => 0))), (q2, .inl (cI, 8, .inl (fun _ => 0)))] := hD
  refine W.widen (k := 2) (n := 28) (Nat.le_of_ble_eq_true rfl) (Nat.le_of_ble_eq_true rfl) ?_
  refine va_putF (D := D) (ci := 1) (v := .ref q2) (ty := .array .int) (C := RM) (T := FM) (N := 8) hx hb hts iM tM tM_ok nM hown hK hP hD hS 0 rfl rfl 2 (by decide) (hts _ mM_f_many) (fun _ h9 => h9) rfl hin rfl (by decide +kernel) rfl rfl (Nat.le_of_ble_eq_true rfl) dM_init_17 (fun H locs hP hD hS => ?_)
  have hP : va_P D vwCl [(a0, .inr (1, [.int 0, .ref q1, .ref q2, .null, .null, .null, .null, .int 0])), (q1, .inl (cI, 20, .inl (fun _ => 0))), (q2, .inl (cI, 8, .inl (fun _ => 0)))] H := hP
  have hD : va_D A [(a0, .inr (1, [.int 0, .ref q1, .ref q2, .null, .null, .null, .null, .int 0])), (q1, .inl (cI, 20, .inl (fun _ => 0))), (q2, .inl (cI, 8, .inl (fun _ => 0)))] := hD
  refine lv_aload_n hx hb dM_init_20 rfl (lv_at hl 0 rfl) ?_
  refine lv_sipush (v := 384) hx hb dM_init_21 (by decide) ?_
  refine hn_newi hx hb (hts _ mA_int) hK hP hD hS hA (N' := 384) (by decide) (by decide) (by decide) (Nat.le_of_ble_eq_true rfl) (Nat.le_of_ble_eq_true rfl) dM_init_24 (fun q3 H hP hD hS => ?_)
  have hP : va_P D vwCl [(a0, .inr (1, [.int 0, .ref q1, .ref q2, .null, .null, .null, .null, .int 0])), (q1, .inl (cI, 20, .inl (fun _ => 0))), (q2, .inl (cI, 8, .inl (fun _ => 0))), (q3, .inl (cI, 384, .inl (fun _ => 0)))] H := hP
  have hD : va_D A [(a0, .inr (1, [.int 0, .ref q1, .ref q2, .null, .null, .null, .null, .int 0])), (q1, .inl (cI, 20, .inl (fun _ => 0))), (q2, .inl (cI, 8, .inl (fun _ => 0))), (q3, .inl (cI, 384, .inl (fun _ => 0)))] := hD
  refine W.widen (k := 3) (n := 412) (Nat.le_of_ble_eq_true rfl) (Nat.le_of_ble_eq_true rfl) ?_
  refine va_putF (D := D) (ci := 1) (v := .ref q3) (ty := .array .int) (C := RM) (T := FM) (N := 8) hx hb hts iM tM tM_ok nM hown hK hP hD hS 0 rfl rfl 3 (by decide) (hts _ mM_f_id) (fun _ h9 => h9) rfl hin rfl (by decide +kernel) rfl rfl (Nat.le_of_ble_eq_true rfl) dM_init_26 (fun H locs hP hD hS => ?_)
  have hP : va_P D vwCl [(a0, .inr (1, [.int 0, .ref q1, .ref q2, .ref q3, .null, .null, .null, .int 0])), (q1, .inl (cI, 20, .inl (fun _ => 0))), (q2, .inl (cI, 8, .inl (fun _ => 0))), (q3, .inl (cI, 384, .inl (fun _ => 0)))] H := hP
  have hD : va_D A [(a0, .inr (1, [.int 0, .ref q1, .ref q2, .ref q3, .null, .null, .null, .int 0])), (q1, .inl (cI, 20, .inl (fun _ => 0))), (q2, .inl (cI, 8, .inl (fun _ => 0))), (q3, .inl (cI, 384, .inl (fun _ => 0)))] := hD
  refine lv_aload_n hx hb dM_init_29 rfl (lv_at hl 0 rfl) ?_
  refine lv_sipush (v := 384) hx hb dM_init_30 (by decide) ?_
  refine hn_newi hx hb (hts _ mA_int) hK hP hD hS hA (N' := 384) (by decide) (by decide) (by decide) (Nat.le_of_ble_eq_true rfl) (Nat.le_of_ble_eq_true rfl) dM_init_33 (fun q4 H hP hD hS => ?_)
  have hP : va_P D vwCl [(a0, .inr (1, [.int 0, .ref q1, .ref q2, .ref q3, .null, .null, .null, .int 0])), (q1, .inl (cI, 20, .inl (fun _ => 0))), (q2, .inl (cI, 8, .inl (fun _ => 0))), (q3, .inl (cI, 384, .inl (fun _ => 0))), (q4, .inl (cI, 384, .inl (fun _ => 0)))] H := hP
  have hD : va_D A [(a0, .inr (1, [.int 0, .ref q1, .ref q2, .ref q3, .null, .null, .null, .int 0])), (q1, .inl (cI, 20, .inl (fun _ => 0))), (q2, .inl (cI, 8, .inl (fun _ => 0))), (q3, .inl (cI, 384, .inl (fun _ => 0))), (q4, .inl (cI, 384, .inl (fun _ => 0)))] := hD
  refine W.widen (k := 4) (n := 796) (Nat.le_of_ble_eq_true rfl) (Nat.le_of_ble_eq_true rfl) ?_
  refine va_putF (D := D) (ci := 1) (v := .ref q4) (ty := .array .int) (C := RM) (T := FM) (N := 8) hx hb hts iM tM tM_ok nM hown hK hP hD hS 0 rfl rfl 4 (by decide) (hts _ mM_f_length) (fun _ h9 => h9) rfl hin rfl (by decide +kernel) rfl rfl (Nat.le_of_ble_eq_true rfl) dM_init_35 (fun H locs hP hD hS => ?_)
  have hP : va_P D vwCl [(a0, .inr (1, [.int 0, .ref q1, .ref q2, .ref q3, .ref q4, .null, .null, .int 0])), (q1, .inl (cI, 20, .inl (fun _ => 0))), (q2, .inl (cI, 8, .inl (fun _ => 0))), (q3, .inl (cI, 384, .inl (fun _ => 0))), (q4, .inl (cI, 384, .inl (fun _ => 0)))] H := hP
  have hD : va_D A [(a0, .inr (1, [.int 0, .ref q1, .ref q2, .ref q3, .ref q4, .null, .null, .int 0])), (q1, .inl (cI, 20, .inl (fun _ => 0))), (q2, .inl (cI, 8, .inl (fun _ => 0))), (q3, .inl (cI, 384, .inl (fun _ => 0))), (q4, .inl (cI, 384, .inl (fun _ => 0)))] := hD
  refine lv_aload_n hx hb dM_init_38 rfl (lv_at hl 0 rfl) ?_
  refine lv_sipush (v := 7680) hx hb dM_init_39 (by decide) ?_
  refine hn_newi hx hb (hts _ mA_int) hK hP hD hS hA (N' := 7680) (by decide) (by decide) (by decide) (Nat.le_of_ble_eq_true rfl) (Nat.le_of_ble_eq_true rfl) dM_init_42 (fun q5 H hP hD hS => ?_)
  have hP : va_P D vwCl [(a0, .inr (1, [.int 0, .ref q1, .ref q2, .ref q3, .ref q4, .null, .null, .int 0])), (q1, .inl (cI, 20, .inl (fun _ => 0))), (q2, .inl (cI, 8, .inl (fun _ => 0))), (q3, .inl (cI, 384, .inl (fun _ => 0))), (q4, .inl (cI, 384, .inl (fun _ => 0))), (q5, .inl (cI, 7680, .inl (fun _ => 0)))] H := hP
  have hD : va_D A [(a0, .inr (1, [.int 0, .ref q1, .ref q2, .ref q3, .ref q4, .null, .null, .int 0])), (q1, .inl (cI, 20, .inl (fun _ => 0))), (q2, .inl (cI, 8, .inl (fun _ => 0))), (q3, .inl (cI, 384, .inl (fun _ => 0))), (q4, .inl (cI, 384, .inl (fun _ => 0))), (q5, .inl (cI, 7680, .inl (fun _ => 0)))] := hD
  refine W.widen (k := 5) (n := 8476) (Nat.le_of_ble_eq_true rfl) (Nat.le_of_ble_eq_true rfl) ?_
  refine va_putF (D := D) (ci := 1) (v := .ref q5) (ty := .array .int) (C := RM) (T := FM) (N := 8) hx hb hts iM tM tM_ok nM hown hK hP hD hS 0 rfl rfl 5 (by decide) (hts _ mM_f_bytes) (fun _ h9 => h9) rfl hin rfl (by decide +kernel) rfl rfl (Nat.le_of_ble_eq_true rfl) dM_init_44 (fun H locs hP hD hS => ?_)
  have hP : va_P D vwCl [(a0, .inr (1, [.int 0, .ref q1, .ref q2, .ref q3, .ref q4, .ref q5, .null, .int 0])), (q1, .inl (cI, 20, .inl (fun _ => 0))), (q2, .inl (cI, 8, .inl (fun _ => 0))), (q3, .inl (cI, 384, .inl (fun _ => 0))), (q4, .inl (cI, 384, .inl (fun _ => 0))), (q5, .inl (cI, 7680, .inl (fun _ => 0)))] H := hP
  have hD : va_D A [(a0, .inr (1, [.int 0, .ref q1, .ref q2, .ref q3, .ref q4, .ref q5, .null, .int 0])), (q1, .inl (cI, 20, .inl (fun _ => 0))), (q2, .inl (cI, 8, .inl (fun _ => 0))), (q3, .inl (cI, 384, .inl (fun _ => 0))), (q4, .inl (cI, 384, .inl (fun _ => 0))), (q5, .inl (cI, 7680, .inl (fun _ => 0)))] := hD
  refine lv_aload_n hx hb dM_init_47 rfl (lv_at hl 0 rfl) ?_
  refine lv_bipush (v := 20) hx hb dM_init_48 (by decide) ?_
  refine hn_newi hx hb (hts _ mA_int) hK hP hD hS hA (N' := 20) (by decide) (by decide) (by decide) (Nat.le_of_ble_eq_true rfl) (Nat.le_of_ble_eq_true rfl) dM_init_50 (fun q6 H hP hD hS => ?_)
  have hP : va_P D vwCl [(a0, .inr (1, [.int 0, .ref q1, .ref q2, .ref q3, .ref q4, .ref q5, .null, .int 0])), (q1, .inl (cI, 20, .inl (fun _ => 0))), (q2, .inl (cI, 8, .inl (fun _ => 0))), (q3, .inl (cI, 384, .inl (fun _ => 0))), (q4, .inl (cI, 384, .inl (fun _ => 0))), (q5, .inl (cI, 7680, .inl (fun _ => 0))), (q6, .inl (cI, 20, .inl (fun _ => 0)))] H := hP
  have hD : va_D A [(a0, .inr (1, [.int 0, .ref q1, .ref q2, .ref q3, .ref q4, .ref q5, .null, .int 0])), (q1, .inl (cI, 20, .inl (fun _ => 0))), (q2, .inl (cI, 8, .inl (fun _ => 0))), (q3, .inl (cI, 384, .inl (fun _ => 0))), (q4, .inl (cI, 384, .inl (fun _ => 0))), (q5, .inl (cI, 7680, .inl (fun _ => 0))), (q6, .inl (cI, 20, .inl (fun _ => 0)))] := hD
  refine W.widen (k := 6) (n := 8496) (Nat.le_of_ble_eq_true rfl) (Nat.le_of_ble_eq_true rfl) ?_
  refine va_putF (D := D) (ci := 1) (v := .ref q6) (ty := .array .int) (C := RM) (T := FM) (N := 8) hx hb hts iM tM tM_ok nM hown hK hP hD hS 0 rfl rfl 6 (by decide) (hts _ mM_f_told) (fun _ h9 => h9) rfl hin rfl (by decide +kernel) rfl rfl (Nat.le_of_ble_eq_true rfl) dM_init_52 (fun H locs hP hD hS => ?_)
  have hP : va_P D vwCl [(a0, .inr (1, [.int 0, .ref q1, .ref q2, .ref q3, .ref q4, .ref q5, .ref q6, .int 0])), (q1, .inl (cI, 20, .inl (fun _ => 0))), (q2, .inl (cI, 8, .inl (fun _ => 0))), (q3, .inl (cI, 384, .inl (fun _ => 0))), (q4, .inl (cI, 384, .inl (fun _ => 0))), (q5, .inl (cI, 7680, .inl (fun _ => 0))), (q6, .inl (cI, 20, .inl (fun _ => 0)))] H := hP
  have hD : va_D A [(a0, .inr (1, [.int 0, .ref q1, .ref q2, .ref q3, .ref q4, .ref q5, .ref q6, .int 0])), (q1, .inl (cI, 20, .inl (fun _ => 0))), (q2, .inl (cI, 8, .inl (fun _ => 0))), (q3, .inl (cI, 384, .inl (fun _ => 0))), (q4, .inl (cI, 384, .inl (fun _ => 0))), (q5, .inl (cI, 7680, .inl (fun _ => 0))), (q6, .inl (cI, 20, .inl (fun _ => 0)))] := hD
  obtain ⟨am, eam⟩ : ∃ z : Nat → Nat, z = hn_az a0 [q1, q2, q3, q4, q5, q6] := ⟨_, rfl⟩
  have ea0 : am 0 = a0 := by rw [eam]; rfl
  have hP : va_P D vwCl (hn_wM am cI (fun _ _ => 0)) H := by rw [eam]; exact hP
  have hD : va_D A (hn_wM am cI (fun _ _ => 0)) := by rw [eam]; exact hD
  exact W.vret hx hb hr (fun t9 ht9 hW9 => ⟨⟨(am, fun _ _ => 0), rfl, ⟨ea0, hn_MH0, hn_MD0⟩, by rw [ht9]; exact hP, va_K.moved hW9.alike hK, hD⟩, hS.F ht9⟩) hS.2.2 dM_init_55
end
section
section
abbrev hn_wH (ad : Nat → Nat) (cI : ClassId) (σ : Nat → Nat → Int32) (ao : Nat) (cL : ClassId) (f : Nat → Int64) : va_W :=
  [(ad 0, .inr (0, [.ref (ad 1), .ref (ad 2), .ref (ad 3), .int (σ 0 0), .ref (ad 4), .ref (ad 5), .ref (ad 6), .ref (ad 7), .ref (ad 8), .ref (ad 9)])),
   (ad 1, .inl (cI, 5, .inl (σ 1))), (ad 2, .inl (cI, 5, .inl (σ 2))), (ad 3, .inl (cI, 5, .inl (σ 3))), (ad 4, .inl (cI, 1920, .inl (σ 4))), (ad 5, .inl (cI, 384, .inl (σ 5))),
   (ad 6, .inl (cI, 384, .inl (σ 6))), (ad 7, .inl (cI, 8, .inl (σ 7))), (ad 8, .inl (cI, 512, .inl (σ 8))), (ad 9, .inl (cI, 392, .inl (σ 9))), (ao, .inl (cL, 1, .inr (.inl f)))]
abbrev hn_xA : String := "java/lang/IllegalArgumentException"
abbrev hn_xS : String := "java/lang/IllegalStateException"
/-- what a helper asks -/
def hn_PH (D : va_G) (tys : List (ClassId × FieldType)) (w : va_W) (sz z0 : Nat) (sa : Nat → Nat) (As : List Value) : Array Value → State → Prop := fun a U => hn_PX D tys w sz z0 sa As a U ∧ va_Nc hn_xS hn_xA U
theorem hn_preH {D : va_G} {tys : List (ClassId × FieldType)} {w : va_W} {z0 : Nat} {sa : Nat → Nat} {As : List Value} {s : State} {H : Heap} {A : Nat → Prop} {locs : List Loc} (hP : va_P D vwCl w H) (hK : va_K D vwCl tys s) (hD : va_D (fun q => z0 ≤ q) w) (hz : z0 ≤ s.heap.size) (hG : hn_G z0 sa s s.heap) (hS : va_S A s.heap H locs) (hAz : ∀ q, A q → z0 ≤ q) (hN : va_Nc hn_xS hn_xA s) : PreS s H (hn_PH D tys w H.size z0 sa As) As :=
  ⟨fun a U g mk z => ⟨hn_PX_blind a U g mk z.1, va_Nc.moved (u := U) (U := U.calling g mk a) (Vm.Alike.refl U.vm) z.2⟩, fun U hU hW => ⟨(hn_preXS hP hK hD hz hG hS hAz).2 U hU hW, va_Nc.moved hW.alike hN⟩⟩
theorem hn_find_2 {h : Nat → Nat} {D : Nat → List hn_E} {d n r : Int32} (a : hn_findS h D d n 2 r) : False := by
  rcases a with ⟨a, -⟩ | ⟨j, n', -, a, -⟩ <;> omega
theorem hn_size_2 {D : Nat → List hn_E} {d r : Int32} (a : hn_sizeS D d 2 r) : False := by
  rcases a with ⟨a, -⟩ | ⟨j, -, -, a, -⟩ <;> omega
theorem hn_nth_2 {D : Nat → List hn_E} {tn TK t2 T2 : Nat} {d k r : Int32} (a : hn_nthS D tn TK d k 2 r t2 T2) : False := by
  rcases a with ⟨a, -⟩ | ⟨j, k', -, -, -, -, a, -⟩ <;> omega
theorem hn_byte_2 {tn TK : Nat} {i r : Int32} (a : hn_byteS tn TK i 2 r) : False := by
  rcases a with ⟨a, -⟩ | ⟨i', -, -, a, -⟩ <;> omega
theorem hn_cA : Cond.castable hn_xA hn_xA ∈ hn_Bw := by decide +kernel
theorem hn_cS : Cond.castable hn_xS hn_xS ∈ hn_Bw := by decide +kernel
end
set_option maxHeartbeats 4000000 in
set_option maxRecDepth 100000 in
theorem cL_add_ok (l : Launch) (hl0 : l.stackTraces = false) (D : va_G) (cI cL : ClassId) (z0 : Nat) (sa : Nat → Nat) (ad : Nat → Nat) (σ : Nat → Nat → Int32) (ao : Nat) (f : Nat → Int64) (h : Nat → Nat) (D9 : Nat → List hn_E) (tn TK : Nat) (hXR : hn_XR σ h D9 tn TK) (hO : hn_DO D9) (d9 n9 x9 : Int32) (sz : Nat) : Met l yL_add wL_add ({ frames := 8, cells := 4, slots := 24, locals := 129 }) (hn_PH D (hn_ty cI cL) (hn_wH ad cI σ ao cL f) sz z0 sa [.ref (ad 0), .int d9, .int n9, .int x9, .ref ao]) (va_Qi (fun (r : Int32) (u : ((Nat → Nat → Int32) × (Nat → Int64))) => ∃ (c : Nat) (a : Int32) (D8 : Nat → List hn_E), c < 3 ∧ r = nI c ∧ hn_addS h D9 d9 n9 x9 c a D8 ∧ (c = 0 → u.2 0 = a.toInt64) ∧ hn_XR u.1 h D8 tn TK) (fun (u : ((Nat → Nat → Int32) × (Nat → Int64))) t => hn_at D (hn_ty cI cL) (va_A (hn_wH ad cI σ ao cL f) sz) (hn_wH ad cI u.1 ao cL u.2) t) (va_A (hn_wH ad cI σ ao cL f) sz)) 4 24 (va_A (hn_wH ad cI σ ao cL f) sz) := by
  refine va_MetW (cc := cL_add) (maxL := 6) (ret := (some .int)) (hh := [(0, 12, 15, 13), (0, 12, 19, 15)]) (by decide) rfl ?_
  intro p e s m args below meth c s₁ B hml hv
  obtain ⟨⟨rfl, hsz, hP, hK, hD0, hz0, hG⟩, hNc⟩ := hv
  subst hsz
  have hD := hD0.self (sz := s.heap.size)
  have hAz := hn_Az hD0 hz0
  generalize hAe : va_A (hn_wH ad cI σ ao cL f) s.heap.size = A at hD hAz ⊢
  have hA : ∀ q : Nat, s.heap.size ≤ q → A q := fun q h => by rw [← hAe]; exact Or.inr h
  have hS : va_S A s.heap s.heap [] := va_S.rf
  have hP : va_P D vwCl (hn_wH ad cI σ ao cL f) s.heap := hP
  have hx := B.exec
  have hb := B.bytes
  have hr := B.returns
  have hts0 := atoms_spec (ws := wL_add) B.pre
  have hts : ∀ w ∈ hn_tb, w.before _ s = true := fun w hw => hts0 w (List.mem_cons_of_mem _ hw)
  have hown : s.vm.findClass RL = some m.cls := findClass_of_methodNamed B.named
  have hlocks := B.notSynchronized
  have hl := lv_entry [.ref (ad 0), .int d9, .int n9, .int x9, .ref ao] (n := 6) (Nat.le_of_ble_eq_true rfl)
  rw [lg_entry_eq]
  generalize (lg_sl [.ref (ad 0), .int d9, .int n9, .int x9, .ref ao] ++ List.replicate (6 - (lg_sl [.ref (ad 0), .int d9, .int n9, .int x9, .ref ao]).length) Slot.unset).toArray = ls at hl ⊢
  have hl : lv_has ls 6 [(0, .ref (ad 0)), (1, .int d9), (2, .int n9), (3, .int x9), (4, .ref ao)] := hl
  have htb := vx_table (x := yL_add) B (hts0 (Cond.codeWith yL_add cL_add 6 (some .int) [(0, 12, 15, 13), (0, 12, 19, 15)]) List.mem_cons_self)
  refine lv_aload hx hb dL_add_0 (lv_at hl 4 rfl) ?_
  refine lv_iconst (v := 0) hx hb dL_add_2 (by decide) ?_
  refine lv_aload_n hx hb dL_add_3 rfl (lv_at hl 0 rfl) ?_
  refine lv_iload_n hx hb dL_add_4 rfl (lv_at hl 1 rfl) ?_
  refine lv_iload_n hx hb dL_add_5 rfl (lv_at hl 2 rfl) ?_
  refine lv_iload_n hx hb dL_add_6 rfl (lv_at hl 3 rfl) ?_
  have hPc := hP.sub (ws' := hn_wX ad cI σ) [0, 1, 2, 3, 4, 5, 6, 7, 8, 9] rfl
  have hDc := hD.sub (ws' := hn_wX ad cI σ) [0, 1, 2, 3, 4, 5, 6, 7, 8, 9] (by decide) rfl
  have hFc := va_free (wc := hn_wX ad cI σ) hD hS hA [0, 1, 2, 3, 4, 5, 6, 7, 8, 9] rfl
  refine vx_calli (vx_runV (As := [.int d9, .int n9, .int x9]) (rest := [.int 0, .ref ao]) ⟨hx, hb, hml, hown, hts⟩ (cX_add_ok l hl0 D cI cL z0 sa ad σ d9 n9 x9 h D9 tn TK hXR hO _) (cwV 3 hts gL_X_add rfl rfl rfl (by decide +kernel) ⟨(Nat.le_of_ble_eq_true rfl), (Nat.le_of_ble_eq_true rfl)⟩) (hn_preXV hPc hK (hDc.weaken (fun _ q _ h => hAz q.1 h)) hz0 hG hS hAz (ci := 0) (q0 := 0) rfl rfl) rfl rfl hl.1 rfl (lv_room (Nat.le_of_ble_eq_true rfl)) dL_add_7 ⟨(Nat.le_of_ble_eq_true rfl), (Nat.le_of_ble_eq_true rfl)⟩) hS (fun q _ h => hFc q h) hFc (fun q _ h => hFc q h) (fun E ce q9 σ2 t8 H1 locs ht hvm hpx hBX hz1 hk1 hS hce hcv hcl => ?_) (fun r1 σ2 t8 H1 locs ht hvm hw hB hz1 hk1 hS => ?_)
  · obtain ⟨⟨c9, hx1, hx2, hx3⟩, hP1, hK1, hD1⟩ := hBX
    rw [ht] at hP1
    obtain ⟨hP, hD⟩ := va_join (wr := [(ao, .inl (cL, 1, .inr (.inl f)))]) (w1 := hn_wX ad cI σ2) hP hD [0, 1, 2, 3, 4, 5, 6, 7, 8, 9] [10] rfl rfl (by decide) (by decide) hk1 hFc hP1 hD1
    have hP := hP.sub (ws' := hn_wH ad cI σ2 ao cL f) [1, 2, 3, 4, 5, 6, 7, 8, 9, 10, 0] rfl
    have hD := hD.sub (ws' := hn_wH ad cI σ2 ao cL f) [1, 2, 3, 4, 5, 6, 7, 8, 9, 10, 0] (by decide) rfl
    rcases hx1 with ⟨rfl, rfl⟩ | ⟨rfl, rfl⟩
    · refine vx_catch (name := hn_xA) hown [] ⟨0, 12, 15, 13⟩ [⟨0, 12, 19, 15⟩] htb (fun z h => nomatch h) rfl (by decide) (hts _ mL_c_13) (va_tabs (hn_Bw_on _ hn_cA) rfl (hG.1 _ hn_cA)) hce hcv hcl ?_
      refine lv_astore (lv' := [(5, .ref q9), (0, .ref (ad 0)), (1, .int d9), (2, .int n9), (3, .int x9), (4, .ref ao)]) hx hb dL_add_15 hl (by decide) rfl (fun ls hl => ?_)
      refine lv_iconst (v := 1) hx hb dL_add_17 (by decide) ?_
      refine W.widen (k := 4) (n := 24) (Nat.le_of_ble_eq_true rfl) (Nat.le_of_ble_eq_true rfl) ?_
      exact W.iret (v := 1) hx hb hr (fun t9 ht9 hW9 => ⟨⟨1, (σ2, f), rfl, ⟨1, 0, D9, by decide, rfl, hx2, fun z => absurd z (by decide), hx3⟩, by rw [ht9]; exact hP, va_K.moved hW9.alike hK, hD⟩, hS.F ht9⟩) hS.2.2 dL_add_18
    · refine vx_catch (name := hn_xS) hown [⟨0, 12, 15, 13⟩] ⟨0, 12, 19, 15⟩ [] htb (fun z h => Or.inr (by rw [List.mem_singleton.mp h]; exact ⟨by decide, hn_xA, hts _ mL_c_13, hNc⟩)) rfl (by decide) (hts _ mL_c_15) (va_tabs (hn_Bw_on _ hn_cS) rfl (hG.1 _ hn_cS)) hce hcv hcl ?_
      refine lv_astore (lv' := [(5, .ref q9), (0, .ref (ad 0)), (1, .int d9), (2, .int n9), (3, .int x9), (4, .ref ao)]) hx hb dL_add_19 hl (by decide) rfl (fun ls hl => ?_)
      refine lv_iconst (v := 2) hx hb dL_add_21 (by decide) ?_
      refine W.widen (k := 4) (n := 24) (Nat.le_of_ble_eq_true rfl) (Nat.le_of_ble_eq_true rfl) ?_
      exact W.iret (v := 2) hx hb hr (fun t9 ht9 hW9 => ⟨⟨2, (σ2, f), rfl, ⟨2, 0, D9, by decide, rfl, hx2, fun z => absurd z (by decide), hx3⟩, by rw [ht9]; exact hP, va_K.moved hW9.alike hK, hD⟩, hS.F ht9⟩) hS.2.2 dL_add_22
  obtain ⟨hP1, hK1, hD1⟩ := hB
  rw [ht] at hP1
  obtain ⟨hP, hD⟩ := va_join (wr := [(ao, .inl (cL, 1, .inr (.inl f)))]) (w1 := hn_wX ad cI σ2) hP hD [0, 1, 2, 3, 4, 5, 6, 7, 8, 9] [10] rfl rfl (by decide) (by decide) hk1 hFc hP1 hD1
  have hP := hP.sub (ws' := hn_wH ad cI σ2 ao cL f) [1, 2, 3, 4, 5, 6, 7, 8, 9, 10, 0] rfl
  have hD := hD.sub (ws' := hn_wH ad cI σ2 ao cL f) [1, 2, 3, 4, 5, 6, 7, 8, 9, 10, 0] (by decide) rfl
  try dsimp only at hw
  refine lv_i2l hx hb dL_add_10 rfl ?_
  refine va_last hx hb hK hP hD hS 10 1 rfl rfl (i := 0) (vp_in_nI (n := 0) (N := 1) (by omega) (by omega)) dL_add_11 (fun H locs hP hD hS => ?_)
  obtain ⟨f2, ef2⟩ : ∃ z : Nat → Int64, z = vp_updL f 0 r1.toInt64 := ⟨_, rfl⟩
  have hf2 : f2 0 = r1.toInt64 := by rw [ef2]; exact if_pos rfl
  have hP : va_P D vwCl (hn_wH ad cI σ2 ao cL f2) H := by rw [ef2]; exact hP
  have hD : va_D A (hn_wH ad cI σ2 ao cL f2) := by rw [ef2]; exact hD
  refine lv_goto (tgt := 23) hx hb dL_add_12 (by decide) ?_
  refine lv_iconst (v := 0) hx hb dL_add_23 (by decide) ?_
  obtain ⟨D8, g1, g2⟩ := hw
  refine W.widen (k := 4) (n := 24) (Nat.le_of_ble_eq_true rfl) (Nat.le_of_ble_eq_true rfl) ?_
  exact W.iret (v := 0) hx hb hr (fun t9 ht9 hW9 => ⟨⟨0, (σ2, f2), rfl, ⟨0, r1, D8, by decide, rfl, g1, fun _ => hf2, g2⟩, by rw [ht9]; exact hP, va_K.moved hW9.alike hK, hD⟩, hS.F ht9⟩) hS.2.2 dL_add_24

set_option maxHeartbeats 4000000 in
set_option maxRecDepth 100000 in
theorem cL_find_ok (l : Launch) (hl0 : l.stackTraces = false) (D : va_G) (cI cL : ClassId) (z0 : Nat) (sa : Nat → Nat) (ad : Nat → Nat) (σ : Nat → Nat → Int32) (ao : Nat) (f : Nat → Int64) (h : Nat → Nat) (D9 : Nat → List hn_E) (tn TK : Nat) (hXR : hn_XR σ h D9 tn TK) (hO : hn_DO D9) (d9 n9 : Int32) (sz : Nat) : Met l yL_find wL_find ({ frames := 8, cells := 2, slots := 12, locals := 128 }) (hn_PH D (hn_ty cI cL) (hn_wH ad cI σ ao cL f) sz z0 sa [.ref (ad 0), .int d9, .int n9, .ref ao]) (va_Qi (fun (r : Int32) (u : ((Nat → Nat → Int32) × (Nat → Int64))) => ∃ (c : Nat) (a : Int32) , c < 3 ∧ r = nI c ∧ hn_findS h D9 d9 n9 c a ∧ (c = 0 → u.2 0 = a.toInt64) ∧ hn_XR u.1 h D9 tn TK) (fun (u : ((Nat → Nat → Int32) × (Nat → Int64))) t => hn_at D (hn_ty cI cL) (va_A (hn_wH ad cI σ ao cL f) sz) (hn_wH ad cI u.1 ao cL u.2) t) (va_A (hn_wH ad cI σ ao cL f) sz)) 2 12 (va_A (hn_wH ad cI σ ao cL f) sz) := by
  refine va_MetW (cc := cL_find) (maxL := 5) (ret := (some .int)) (hh := [(0, 10, 13, 13)]) (by decide) rfl ?_
  intro p e s m args below meth c s₁ B hml hv
  obtain ⟨⟨rfl, hsz, hP, hK, hD0, hz0, hG⟩, hNc⟩ := hv
  subst hsz
  have hD := hD0.self (sz := s.heap.size)
  have hAz := hn_Az hD0 hz0
  generalize hAe : va_A (hn_wH ad cI σ ao cL f) s.heap.size = A at hD hAz ⊢
  have hA : ∀ q : Nat, s.heap.size ≤ q → A q := fun q h => by rw [← hAe]; exact Or.inr h
  have hS : va_S A s.heap s.heap [] := va_S.rf
  have hP : va_P D vwCl (hn_wH ad cI σ ao cL f) s.heap := hP
  have hx := B.exec
  have hb := B.bytes
  have hr := B.returns
  have hts0 := atoms_spec (ws := wL_find) B.pre
  have hts : ∀ w ∈ hn_tb, w.before _ s = true := fun w hw => hts0 w (List.mem_cons_of_mem _ hw)
  have hown : s.vm.findClass RL = some m.cls := findClass_of_methodNamed B.named
  have hlocks := B.notSynchronized
  have hl := lv_entry [.ref (ad 0), .int d9, .int n9, .ref ao] (n := 5) (Nat.le_of_ble_eq_true rfl)
  rw [lg_entry_eq]
  generalize (lg_sl [.ref (ad 0), .int d9, .int n9, .ref ao] ++ List.replicate (5 - (lg_sl [.ref (ad 0), .int d9, .int n9, .ref ao]).length) Slot.unset).toArray = ls at hl ⊢
  have hl : lv_has ls 5 [(0, .ref (ad 0)), (1, .int d9), (2, .int n9), (3, .ref ao)] := hl
  have htb := vx_table (x := yL_find) B (hts0 (Cond.codeWith yL_find cL_find 5 (some .int) [(0, 10, 13, 13)]) List.mem_cons_self)
  refine lv_aload_n hx hb dL_find_0 rfl (lv_at hl 3 rfl) ?_
  refine lv_iconst (v := 0) hx hb dL_find_1 (by decide) ?_
  refine lv_aload_n hx hb dL_find_2 rfl (lv_at hl 0 rfl) ?_
  refine lv_iload_n hx hb dL_find_3 rfl (lv_at hl 1 rfl) ?_
  refine lv_iload_n hx hb dL_find_4 rfl (lv_at hl 2 rfl) ?_
  have hPc := hP.sub (ws' := hn_wX ad cI σ) [0, 1, 2, 3, 4, 5, 6, 7, 8, 9] rfl
  have hDc := hD.sub (ws' := hn_wX ad cI σ) [0, 1, 2, 3, 4, 5, 6, 7, 8, 9] (by decide) rfl
  have hFc := va_free (wc := hn_wX ad cI σ) hD hS hA [0, 1, 2, 3, 4, 5, 6, 7, 8, 9] rfl
  refine vx_calli (vx_runV (As := [.int d9, .int n9]) (rest := [.int 0, .ref ao]) ⟨hx, hb, hml, hown, hts⟩ (cX_find_ok l hl0 D cI cL z0 sa ad σ d9 n9 h D9 tn TK hXR hO _) (cwV 2 hts gL_X_find rfl rfl rfl (by decide +kernel) ⟨(Nat.le_of_ble_eq_true rfl), (Nat.le_of_ble_eq_true rfl)⟩) (hn_preXV hPc hK (hDc.weaken (fun _ q _ h => hAz q.1 h)) hz0 hG hS hAz (ci := 0) (q0 := 0) rfl rfl) rfl rfl hl.1 rfl (lv_room (Nat.le_of_ble_eq_true rfl)) dL_find_5 ⟨(Nat.le_of_ble_eq_true rfl), (Nat.le_of_ble_eq_true rfl)⟩) hS (fun q _ h => hFc q h) hFc (fun q _ h => hFc q h) (fun E ce q9 σ2 t8 H1 locs ht hvm hpx hBX hz1 hk1 hS hce hcv hcl => ?_) (fun r1 σ2 t8 H1 locs ht hvm hw hB hz1 hk1 hS => ?_)
  · obtain ⟨⟨c9, hx1, hx2, hx3⟩, hP1, hK1, hD1⟩ := hBX
    rw [ht] at hP1
    obtain ⟨hP, hD⟩ := va_join (wr := [(ao, .inl (cL, 1, .inr (.inl f)))]) (w1 := hn_wX ad cI σ2) hP hD [0, 1, 2, 3, 4, 5, 6, 7, 8, 9] [10] rfl rfl (by decide) (by decide) hk1 hFc hP1 hD1
    have hP := hP.sub (ws' := hn_wH ad cI σ2 ao cL f) [1, 2, 3, 4, 5, 6, 7, 8, 9, 10, 0] rfl
    have hD := hD.sub (ws' := hn_wH ad cI σ2 ao cL f) [1, 2, 3, 4, 5, 6, 7, 8, 9, 10, 0] (by decide) rfl
    rcases hx1 with ⟨rfl, rfl⟩ | ⟨rfl, rfl⟩
    · refine vx_catch (name := hn_xA) hown [] ⟨0, 10, 13, 13⟩ [] htb (fun z h => nomatch h) rfl (by decide) (hts _ mL_c_13) (va_tabs (hn_Bw_on _ hn_cA) rfl (hG.1 _ hn_cA)) hce hcv hcl ?_
      refine lv_astore (lv' := [(4, .ref q9), (0, .ref (ad 0)), (1, .int d9), (2, .int n9), (3, .ref ao)]) hx hb dL_find_13 hl (by decide) rfl (fun ls hl => ?_)
      refine lv_iconst (v := 1) hx hb dL_find_15 (by decide) ?_
      refine W.widen (k := 2) (n := 12) (Nat.le_of_ble_eq_true rfl) (Nat.le_of_ble_eq_true rfl) ?_
      exact W.iret (v := 1) hx hb hr (fun t9 ht9 hW9 => ⟨⟨1, (σ2, f), rfl, ⟨1, 0, by decide, rfl, hx2, fun z => absurd z (by decide), hx3⟩, by rw [ht9]; exact hP, va_K.moved hW9.alike hK, hD⟩, hS.F ht9⟩) hS.2.2 dL_find_16
    · exact (hn_find_2 hx2).elim
  obtain ⟨hP1, hK1, hD1⟩ := hB
  rw [ht] at hP1
  obtain ⟨hP, hD⟩ := va_join (wr := [(ao, .inl (cL, 1, .inr (.inl f)))]) (w1 := hn_wX ad cI σ2) hP hD [0, 1, 2, 3, 4, 5, 6, 7, 8, 9] [10] rfl rfl (by decide) (by decide) hk1 hFc hP1 hD1
  have hP := hP.sub (ws' := hn_wH ad cI σ2 ao cL f) [1, 2, 3, 4, 5, 6, 7, 8, 9, 10, 0] rfl
  have hD := hD.sub (ws' := hn_wH ad cI σ2 ao cL f) [1, 2, 3, 4, 5, 6, 7, 8, 9, 10, 0] (by decide) rfl
  try dsimp only at hw
  refine lv_i2l hx hb dL_find_8 rfl ?_
  refine va_last hx hb hK hP hD hS 10 1 rfl rfl (i := 0) (vp_in_nI (n := 0) (N := 1) (by omega) (by omega)) dL_find_9 (fun H locs hP hD hS => ?_)
  obtain ⟨f2, ef2⟩ : ∃ z : Nat → Int64, z = vp_updL f 0 r1.toInt64 := ⟨_, rfl⟩
  have hf2 : f2 0 = r1.toInt64 := by rw [ef2]; exact if_pos rfl
  have hP : va_P D vwCl (hn_wH ad cI σ2 ao cL f2) H := by rw [ef2]; exact hP
  have hD : va_D A (hn_wH ad cI σ2 ao cL f2) := by rw [ef2]; exact hD
  refine lv_goto (tgt := 17) hx hb dL_find_10 (by decide) ?_
  refine lv_iconst (v := 0) hx hb dL_find_17 (by decide) ?_
  obtain ⟨g1, g2⟩ := hw
  refine W.widen (k := 2) (n := 12) (Nat.le_of_ble_eq_true rfl) (Nat.le_of_ble_eq_true rfl) ?_
  exact W.iret (v := 0) hx hb hr (fun t9 ht9 hW9 => ⟨⟨0, (σ2, f2), rfl, ⟨0, r1, by decide, rfl, g1, fun _ => hf2, g2⟩, by rw [ht9]; exact hP, va_K.moved hW9.alike hK, hD⟩, hS.F ht9⟩) hS.2.2 dL_find_18

set_option maxHeartbeats 4000000 in
set_option maxRecDepth 100000 in
theorem cL_remove_ok (l : Launch) (hl0 : l.stackTraces = false) (D : va_G) (cI cL : ClassId) (z0 : Nat) (sa : Nat → Nat) (ad : Nat → Nat) (σ : Nat → Nat → Int32) (ao : Nat) (f : Nat → Int64) (h : Nat → Nat) (D9 : Nat → List hn_E) (tn TK : Nat) (hXR : hn_XR σ h D9 tn TK) (hO : hn_DO D9) (d9 n9 : Int32) (sz : Nat) : Met l yL_remove wL_remove ({ frames := 8, cells := 3, slots := 18, locals := 128 }) (hn_PH D (hn_ty cI cL) (hn_wH ad cI σ ao cL f) sz z0 sa [.ref (ad 0), .int d9, .int n9, .ref ao]) (va_Qi (fun (r : Int32) (u : ((Nat → Nat → Int32) × (Nat → Int64))) => ∃ (c : Nat) (a : Int32) (D8 : Nat → List hn_E), c < 3 ∧ r = nI c ∧ hn_removeS h D9 d9 n9 c a D8 ∧ (c = 0 → u.2 0 = a.toInt64) ∧ hn_XR u.1 h D8 tn TK) (fun (u : ((Nat → Nat → Int32) × (Nat → Int64))) t => hn_at D (hn_ty cI cL) (va_A (hn_wH ad cI σ ao cL f) sz) (hn_wH ad cI u.1 ao cL u.2) t) (va_A (hn_wH ad cI σ ao cL f) sz)) 3 18 (va_A (hn_wH ad cI σ ao cL f) sz) := by
  refine va_MetW (cc := cL_remove) (maxL := 5) (ret := (some .int)) (hh := [(0, 10, 13, 13), (0, 10, 17, 15)]) (by decide) rfl ?_
  intro p e s m args below meth c s₁ B hml hv
  obtain ⟨⟨rfl, hsz, hP, hK, hD0, hz0, hG⟩, hNc⟩ := hv
  subst hsz
  have hD := hD0.self (sz := s.heap.size)
  have hAz := hn_Az hD0 hz0
  generalize hAe : va_A (hn_wH ad cI σ ao cL f) s.heap.size = A at hD hAz ⊢
  have hA : ∀ q : Nat, s.heap.size ≤ q → A q := fun q h => by rw [← hAe]; exact Or.inr h
  have hS : va_S A s.heap s.heap [] := va_S.rf
  have hP : va_P D vwCl (hn_wH ad cI σ ao cL f) s.heap := hP
  have hx := B.exec
  have hb := B.bytes
  have hr := B.returns
  have hts0 := atoms_spec (ws := wL_remove) B.pre
  have hts : ∀ w ∈ hn_tb, w.before _ s = true := fun w hw => hts0 w (List.mem_cons_of_mem _ hw)
  have hown : s.vm.findClass RL = some m.cls := findClass_of_methodNamed B.named
  have hlocks := B.notSynchronized
  have hl := lv_entry [.ref (ad 0), .int d9, .int n9, .ref ao] (n := 5) (Nat.le_of_ble_eq_true rfl)
  rw [lg_entry_eq]
  generalize (lg_sl [.ref (ad 0), .int d9, .int n9, .ref ao] ++ List.replicate (5 - (lg_sl [.ref (ad 0), .int d9, .int n9, .ref ao]).length) Slot.unset).toArray = ls at hl ⊢
  have hl : lv_has ls 5 [(0, .ref (ad 0)), (1, .int d9), (2, .int n9), (3, .ref ao)] := hl
  have htb := vx_table (x := yL_remove) B (hts0 (Cond.codeWith yL_remove cL_remove 5 (some .int) [(0, 10, 13, 13), (0, 10, 17, 15)]) List.mem_cons_self)
  refine lv_aload_n hx hb dL_remove_0 rfl (lv_at hl 3 rfl) ?_
  refine lv_iconst (v := 0) hx hb dL_remove_1 (by decide) ?_
  refine lv_aload_n hx hb dL_remove_2 rfl (lv_at hl 0 rfl) ?_
  refine lv_iload_n hx hb dL_remove_3 rfl (lv_at hl 1 rfl) ?_
  refine lv_iload_n hx hb dL_remove_4 rfl (lv_at hl 2 rfl) ?_
  have hPc := hP.sub (ws' := hn_wX ad cI σ) [0, 1, 2, 3, 4, 5, 6, 7, 8, 9] rfl
  have hDc := hD.sub (ws' := hn_wX ad cI σ) [0, 1, 2, 3, 4, 5, 6, 7, 8, 9] (by decide) rfl
  have hFc := va_free (wc := hn_wX ad cI σ) hD hS hA [0, 1, 2, 3, 4, 5, 6, 7, 8, 9] rfl
  refine vx_calli (vx_runV (As := [.int d9, .int n9]) (rest := [.int 0, .ref ao]) ⟨hx, hb, hml, hown, hts⟩ (cX_remove_ok l hl0 D cI cL z0 sa ad σ d9 n9 h D9 tn TK hXR hO _) (cwV 2 hts gL_X_remove rfl rfl rfl (by decide +kernel) ⟨(Nat.le_of_ble_eq_true rfl), (Nat.le_of_ble_eq_true rfl)⟩) (hn_preXV hPc hK (hDc.weaken (fun _ q _ h => hAz q.1 h)) hz0 hG hS hAz (ci := 0) (q0 := 0) rfl rfl) rfl rfl hl.1 rfl (lv_room (Nat.le_of_ble_eq_true rfl)) dL_remove_5 ⟨(Nat.le_of_ble_eq_true rfl), (Nat.le_of_ble_eq_true rfl)⟩) hS (fun q _ h => hFc q h) hFc (fun q _ h => hFc q h) (fun E ce q9 σ2 t8 H1 locs ht hvm hpx hBX hz1 hk1 hS hce hcv hcl => ?_) (fun r1 σ2 t8 H1 locs ht hvm hw hB hz1 hk1 hS => ?_)
  · obtain ⟨⟨c9, hx1, hx2, hx3⟩, hP1, hK1, hD1⟩ := hBX
    rw [ht] at hP1
    obtain ⟨hP, hD⟩ := va_join (wr := [(ao, .inl (cL, 1, .inr (.inl f)))]) (w1 := hn_wX ad cI σ2) hP hD [0, 1, 2, 3, 4, 5, 6, 7, 8, 9] [10] rfl rfl (by decide) (by decide) hk1 hFc hP1 hD1
    have hP := hP.sub (ws' := hn_wH ad cI σ2 ao cL f) [1, 2, 3, 4, 5, 6, 7, 8, 9, 10, 0] rfl
    have hD := hD.sub (ws' := hn_wH ad cI σ2 ao cL f) [1, 2, 3, 4, 5, 6, 7, 8, 9, 10, 0] (by decide) rfl
    rcases hx1 with ⟨rfl, rfl⟩ | ⟨rfl, rfl⟩
    · refine vx_catch (name := hn_xA) hown [] ⟨0, 10, 13, 13⟩ [⟨0, 10, 17, 15⟩] htb (fun z h => nomatch h) rfl (by decide) (hts _ mL_c_13) (va_tabs (hn_Bw_on _ hn_cA) rfl (hG.1 _ hn_cA)) hce hcv hcl ?_
      refine lv_astore (lv' := [(4, .ref q9), (0, .ref (ad 0)), (1, .int d9), (2, .int n9), (3, .ref ao)]) hx hb dL_remove_13 hl (by decide) rfl (fun ls hl => ?_)
      refine lv_iconst (v := 1) hx hb dL_remove_15 (by decide) ?_
      refine W.widen (k := 3) (n := 18) (Nat.le_of_ble_eq_true rfl) (Nat.le_of_ble_eq_true rfl) ?_
      exact W.iret (v := 1) hx hb hr (fun t9 ht9 hW9 => ⟨⟨1, (σ2, f), rfl, ⟨1, 0, D9, by decide, rfl, hx2, fun z => absurd z (by decide), hx3⟩, by rw [ht9]; exact hP, va_K.moved hW9.alike hK, hD⟩, hS.F ht9⟩) hS.2.2 dL_remove_16
    · refine vx_catch (name := hn_xS) hown [⟨0, 10, 13, 13⟩] ⟨0, 10, 17, 15⟩ [] htb (fun z h => Or.inr (by rw [List.mem_singleton.mp h]; exact ⟨by decide, hn_xA, hts _ mL_c_13, hNc⟩)) rfl (by decide) (hts _ mL_c_15) (va_tabs (hn_Bw_on _ hn_cS) rfl (hG.1 _ hn_cS)) hce hcv hcl ?_
      refine lv_astore (lv' := [(4, .ref q9), (0, .ref (ad 0)), (1, .int d9), (2, .int n9), (3, .ref ao)]) hx hb dL_remove_17 hl (by decide) rfl (fun ls hl => ?_)
      refine lv_iconst (v := 2) hx hb dL_remove_19 (by decide) ?_
      refine W.widen (k := 3) (n := 18) (Nat.le_of_ble_eq_true rfl) (Nat.le_of_ble_eq_true rfl) ?_
      exact W.iret (v := 2) hx hb hr (fun t9 ht9 hW9 => ⟨⟨2, (σ2, f), rfl, ⟨2, 0, D9, by decide, rfl, hx2, fun z => absurd z (by decide), hx3⟩, by rw [ht9]; exact hP, va_K.moved hW9.alike hK, hD⟩, hS.F ht9⟩) hS.2.2 dL_remove_20
  obtain ⟨hP1, hK1, hD1⟩ := hB
  rw [ht] at hP1
  obtain ⟨hP, hD⟩ := va_join (wr := [(ao, .inl (cL, 1, .inr (.inl f)))]) (w1 := hn_wX ad cI σ2) hP hD [0, 1, 2, 3, 4, 5, 6, 7, 8, 9] [10] rfl rfl (by decide) (by decide) hk1 hFc hP1 hD1
  have hP := hP.sub (ws' := hn_wH ad cI σ2 ao cL f) [1, 2, 3, 4, 5, 6, 7, 8, 9, 10, 0] rfl
  have hD := hD.sub (ws' := hn_wH ad cI σ2 ao cL f) [1, 2, 3, 4, 5, 6, 7, 8, 9, 10, 0] (by decide) rfl
  try dsimp only at hw
  refine lv_i2l hx hb dL_remove_8 rfl ?_
  refine va_last hx hb hK hP hD hS 10 1 rfl rfl (i := 0) (vp_in_nI (n := 0) (N := 1) (by omega) (by omega)) dL_remove_9 (fun H locs hP hD hS => ?_)
  obtain ⟨f2, ef2⟩ : ∃ z : Nat → Int64, z = vp_updL f 0 r1.toInt64 := ⟨_, rfl⟩
  have hf2 : f2 0 = r1.toInt64 := by rw [ef2]; exact if_pos rfl
  have hP : va_P D vwCl (hn_wH ad cI σ2 ao cL f2) H := by rw [ef2]; exact hP
  have hD : va_D A (hn_wH ad cI σ2 ao cL f2) := by rw [ef2]; exact hD
  refine lv_goto (tgt := 21) hx hb dL_remove_10 (by decide) ?_
  refine lv_iconst (v := 0) hx hb dL_remove_21 (by decide) ?_
  obtain ⟨D8, g1, g2⟩ := hw
  refine W.widen (k := 3) (n := 18) (Nat.le_of_ble_eq_true rfl) (Nat.le_of_ble_eq_true rfl) ?_
  exact W.iret (v := 0) hx hb hr (fun t9 ht9 hW9 => ⟨⟨0, (σ2, f2), rfl, ⟨0, r1, D8, by decide, rfl, g1, fun _ => hf2, g2⟩, by rw [ht9]; exact hP, va_K.moved hW9.alike hK, hD⟩, hS.F ht9⟩) hS.2.2 dL_remove_22

set_option maxHeartbeats 4000000 in
set_option maxRecDepth 100000 in
theorem cL_change_ok (l : Launch) (hl0 : l.stackTraces = false) (D : va_G) (cI cL : ClassId) (z0 : Nat) (sa : Nat → Nat) (ad : Nat → Nat) (σ : Nat → Nat → Int32) (ao : Nat) (f : Nat → Int64) (h : Nat → Nat) (D9 : Nat → List hn_E) (tn TK : Nat) (hXR : hn_XR σ h D9 tn TK) (hO : hn_DO D9) (d9 n9 x9 : Int32) (sz : Nat) : Met l yL_change wL_change ({ frames := 8, cells := 4, slots := 24, locals := 130 }) (hn_PH D (hn_ty cI cL) (hn_wH ad cI σ ao cL f) sz z0 sa [.ref (ad 0), .int d9, .int n9, .int x9, .ref ao]) (va_Qi (fun (r : Int32) (u : ((Nat → Nat → Int32) × (Nat → Int64))) => ∃ (c : Nat) (a : Int32) (D8 : Nat → List hn_E), c < 3 ∧ r = nI c ∧ hn_changeS h D9 d9 n9 x9 c a D8 ∧ (c = 0 → u.2 0 = a.toInt64) ∧ hn_XR u.1 h D8 tn TK) (fun (u : ((Nat → Nat → Int32) × (Nat → Int64))) t => hn_at D (hn_ty cI cL) (va_A (hn_wH ad cI σ ao cL f) sz) (hn_wH ad cI u.1 ao cL u.2) t) (va_A (hn_wH ad cI σ ao cL f) sz)) 4 24 (va_A (hn_wH ad cI σ ao cL f) sz) := by
  refine va_MetW (cc := cL_change) (maxL := 6) (ret := (some .int)) (hh := [(0, 12, 15, 13), (0, 12, 19, 15)]) (by decide) rfl ?_
  intro p e s m args below meth c s₁ B hml hv
  obtain ⟨⟨rfl, hsz, hP, hK, hD0, hz0, hG⟩, hNc⟩ := hv
  subst hsz
  have hD := hD0.self (sz := s.heap.size)
  have hAz := hn_Az hD0 hz0
  generalize hAe : va_A (hn_wH ad cI σ ao cL f) s.heap.size = A at hD hAz ⊢
  have hA : ∀ q : Nat, s.heap.size ≤ q → A q := fun q h => by rw [← hAe]; exact Or.inr h
  have hS : va_S A s.heap s.heap [] := va_S.rf
  have hP : va_P D vwCl (hn_wH ad cI σ ao cL f) s.heap := hP
  have hx := B.exec
  have hb := B.bytes
  have hr := B.returns
  have hts0 := atoms_spec (ws := wL_change) B.pre
  have hts : ∀ w ∈ hn_tb, w.before _ s = true := fun w hw => hts0 w (List.mem_cons_of_mem _ hw)
  have hown : s.vm.findClass RL = some m.cls := findClass_of_methodNamed B.named
  have hlocks := B.notSynchronized
  have hl := lv_entry [.ref (ad 0), .int d9, .int n9, .int x9, .ref ao] (n := 6) (Nat.le_of_ble_eq_true rfl)
  rw [lg_entry_eq]
  generalize (lg_sl [.ref (ad 0), .int d9, .int n9, .int x9, .ref ao] ++ List.replicate (6 - (lg_sl [.ref (ad 0), .int d9, .int n9, .int x9, .ref ao]).length) Slot.unset).toArray = ls at hl ⊢
  have hl : lv_has ls 6 [(0, .ref (ad 0)), (1, .int d9), (2, .int n9), (3, .int x9), (4, .ref ao)] := hl
  have htb := vx_table (x := yL_change) B (hts0 (Cond.codeWith yL_change cL_change 6 (some .int) [(0, 12, 15, 13), (0, 12, 19, 15)]) List.mem_cons_self)
  refine lv_aload hx hb dL_change_0 (lv_at hl 4 rfl) ?_
  refine lv_iconst (v := 0) hx hb dL_change_2 (by decide) ?_
  refine lv_aload_n hx hb dL_change_3 rfl (lv_at hl 0 rfl) ?_
  refine lv_iload_n hx hb dL_change_4 rfl (lv_at hl 1 rfl) ?_
  refine lv_iload_n hx hb dL_change_5 rfl (lv_at hl 2 rfl) ?_
  refine lv_iload_n hx hb dL_change_6 rfl (lv_at hl 3 rfl) ?_
  have hPc := hP.sub (ws' := hn_wX ad cI σ) [0, 1, 2, 3, 4, 5, 6, 7, 8, 9] rfl
  have hDc := hD.sub (ws' := hn_wX ad cI σ) [0, 1, 2, 3, 4, 5, 6, 7, 8, 9] (by decide) rfl
  have hFc := va_free (wc := hn_wX ad cI σ) hD hS hA [0, 1, 2, 3, 4, 5, 6, 7, 8, 9] rfl
  refine vx_calli (vx_runV (As := [.int d9, .int n9, .int x9]) (rest := [.int 0, .ref ao]) ⟨hx, hb, hml, hown, hts⟩ (cX_change_ok l hl0 D cI cL z0 sa ad σ d9 n9 x9 h D9 tn TK hXR hO _) (cwV 3 hts gL_X_change rfl rfl rfl (by decide +kernel) ⟨(Nat.le_of_ble_eq_true rfl), (Nat.le_of_ble_eq_true rfl)⟩) (hn_preXV hPc hK (hDc.weaken (fun _ q _ h => hAz q.1 h)) hz0 hG hS hAz (ci := 0) (q0 := 0) rfl rfl) rfl rfl hl.1 rfl (lv_room (Nat.le_of_ble_eq_true rfl)) dL_change_7 ⟨(Nat.le_of_ble_eq_true rfl), (Nat.le_of_ble_eq_true rfl)⟩) hS (fun q _ h => hFc q h) hFc (fun q _ h => hFc q h) (fun E ce q9 σ2 t8 H1 locs ht hvm hpx hBX hz1 hk1 hS hce hcv hcl => ?_) (fun r1 σ2 t8 H1 locs ht hvm hw hB hz1 hk1 hS => ?_)
  · obtain ⟨⟨c9, hx1, hx2, hx3⟩, hP1, hK1, hD1⟩ := hBX
    rw [ht] at hP1
    obtain ⟨hP, hD⟩ := va_join (wr := [(ao, .inl (cL, 1, .inr (.inl f)))]) (w1 := hn_wX ad cI σ2) hP hD [0, 1, 2, 3, 4, 5, 6, 7, 8, 9] [10] rfl rfl (by decide) (by decide) hk1 hFc hP1 hD1
    have hP := hP.sub (ws' := hn_wH ad cI σ2 ao cL f) [1, 2, 3, 4, 5, 6, 7, 8, 9, 10, 0] rfl
    have hD := hD.sub (ws' := hn_wH ad cI σ2 ao cL f) [1, 2, 3, 4, 5, 6, 7, 8, 9, 10, 0] (by decide) rfl
    rcases hx1 with ⟨rfl, rfl⟩ | ⟨rfl, rfl⟩
    · refine vx_catch (name := hn_xA) hown [] ⟨0, 12, 15, 13⟩ [⟨0, 12, 19, 15⟩] htb (fun z h => nomatch h) rfl (by decide) (hts _ mL_c_13) (va_tabs (hn_Bw_on _ hn_cA) rfl (hG.1 _ hn_cA)) hce hcv hcl ?_
      refine lv_astore (lv' := [(5, .ref q9), (0, .ref (ad 0)), (1, .int d9), (2, .int n9), (3, .int x9), (4, .ref ao)]) hx hb dL_change_15 hl (by decide) rfl (fun ls hl => ?_)
      refine lv_iconst (v := 1) hx hb dL_change_17 (by decide) ?_
      refine W.widen (k := 4) (n := 24) (Nat.le_of_ble_eq_true rfl) (Nat.le_of_ble_eq_true rfl) ?_
      exact W.iret (v := 1) hx hb hr (fun t9 ht9 hW9 => ⟨⟨1, (σ2, f), rfl, ⟨1, 0, D9, by decide, rfl, hx2, fun z => absurd z (by decide), hx3⟩, by rw [ht9]; exact hP, va_K.moved hW9.alike hK, hD⟩, hS.F ht9⟩) hS.2.2 dL_change_18
    · refine vx_catch (name := hn_xS) hown [⟨0, 12, 15, 13⟩] ⟨0, 12, 19, 15⟩ [] htb (fun z h => Or.inr (by rw [List.mem_singleton.mp h]; exact ⟨by decide, hn_xA, hts _ mL_c_13, hNc⟩)) rfl (by decide) (hts _ mL_c_15) (va_tabs (hn_Bw_on _ hn_cS) rfl (hG.1 _ hn_cS)) hce hcv hcl ?_
      refine lv_astore (lv' := [(5, .ref q9), (0, .ref (ad 0)), (1, .int d9), (2, .int n9), (3, .int x9), (4, .ref ao)]) hx hb dL_change_19 hl (by decide) rfl (fun ls hl => ?_)
      refine lv_iconst (v := 2) hx hb dL_change_21 (by decide) ?_
      refine W.widen (k := 4) (n := 24) (Nat.le_of_ble_eq_true rfl) (Nat.le_of_ble_eq_true rfl) ?_
      exact W.iret (v := 2) hx hb hr (fun t9 ht9 hW9 => ⟨⟨2, (σ2, f), rfl, ⟨2, 0, D9, by decide, rfl, hx2, fun z => absurd z (by decide), hx3⟩, by rw [ht9]; exact hP, va_K.moved hW9.alike hK, hD⟩, hS.F ht9⟩) hS.2.2 dL_change_22
  obtain ⟨hP1, hK1, hD1⟩ := hB
  rw [ht] at hP1
  obtain ⟨hP, hD⟩ := va_join (wr := [(ao, .inl (cL, 1, .inr (.inl f)))]) (w1 := hn_wX ad cI σ2) hP hD [0, 1, 2, 3, 4, 5, 6, 7, 8, 9] [10] rfl rfl (by decide) (by decide) hk1 hFc hP1 hD1
  have hP := hP.sub (ws' := hn_wH ad cI σ2 ao cL f) [1, 2, 3, 4, 5, 6, 7, 8, 9, 10, 0] rfl
  have hD := hD.sub (ws' := hn_wH ad cI σ2 ao cL f) [1, 2, 3, 4, 5, 6, 7, 8, 9, 10, 0] (by decide) rfl
  try dsimp only at hw
  refine lv_i2l hx hb dL_change_10 rfl ?_
  refine va_last hx hb hK hP hD hS 10 1 rfl rfl (i := 0) (vp_in_nI (n := 0) (N := 1) (by omega) (by omega)) dL_change_11 (fun H locs hP hD hS => ?_)
  obtain ⟨f2, ef2⟩ : ∃ z : Nat → Int64, z = vp_updL f 0 r1.toInt64 := ⟨_, rfl⟩
  have hf2 : f2 0 = r1.toInt64 := by rw [ef2]; exact if_pos rfl
  have hP : va_P D vwCl (hn_wH ad cI σ2 ao cL f2) H := by rw [ef2]; exact hP
  have hD : va_D A (hn_wH ad cI σ2 ao cL f2) := by rw [ef2]; exact hD
  refine lv_goto (tgt := 23) hx hb dL_change_12 (by decide) ?_
  refine lv_iconst (v := 0) hx hb dL_change_23 (by decide) ?_
  obtain ⟨D8, g1, g2⟩ := hw
  refine W.widen (k := 4) (n := 24) (Nat.le_of_ble_eq_true rfl) (Nat.le_of_ble_eq_true rfl) ?_
  exact W.iret (v := 0) hx hb hr (fun t9 ht9 hW9 => ⟨⟨0, (σ2, f2), rfl, ⟨0, r1, D8, by decide, rfl, g1, fun _ => hf2, g2⟩, by rw [ht9]; exact hP, va_K.moved hW9.alike hK, hD⟩, hS.F ht9⟩) hS.2.2 dL_change_24

set_option maxHeartbeats 4000000 in
set_option maxRecDepth 100000 in
theorem cL_size_ok (l : Launch) (hl0 : l.stackTraces = false) (D : va_G) (cI cL : ClassId) (z0 : Nat) (sa : Nat → Nat) (ad : Nat → Nat) (σ : Nat → Nat → Int32) (ao : Nat) (f : Nat → Int64) (h : Nat → Nat) (D9 : Nat → List hn_E) (tn TK : Nat) (hXR : hn_XR σ h D9 tn TK) (hO : hn_DO D9) (d9 : Int32) (sz : Nat) : Met l yL_size wL_size ({ frames := 8, cells := 1, slots := 6, locals := 123 }) (hn_PH D (hn_ty cI cL) (hn_wH ad cI σ ao cL f) sz z0 sa [.ref (ad 0), .int d9, .ref ao]) (va_Qi (fun (r : Int32) (u : ((Nat → Nat → Int32) × (Nat → Int64))) => ∃ (c : Nat) (a : Int32) , c < 3 ∧ r = nI c ∧ hn_sizeS D9 d9 c a ∧ (c = 0 → u.2 0 = a.toInt64) ∧ hn_XR u.1 h D9 tn TK) (fun (u : ((Nat → Nat → Int32) × (Nat → Int64))) t => hn_at D (hn_ty cI cL) (va_A (hn_wH ad cI σ ao cL f) sz) (hn_wH ad cI u.1 ao cL u.2) t) (va_A (hn_wH ad cI σ ao cL f) sz)) 1 6 (va_A (hn_wH ad cI σ ao cL f) sz) := by
  refine va_MetW (cc := cL_size) (maxL := 4) (ret := (some .int)) (hh := [(0, 9, 12, 13)]) (by decide) rfl ?_
  intro p e s m args below meth c s₁ B hml hv
  obtain ⟨⟨rfl, hsz, hP, hK, hD0, hz0, hG⟩, hNc⟩ := hv
  subst hsz
  have hD := hD0.self (sz := s.heap.size)
  have hAz := hn_Az hD0 hz0
  generalize hAe : va_A (hn_wH ad cI σ ao cL f) s.heap.size = A at hD hAz ⊢
  have hA : ∀ q : Nat, s.heap.size ≤ q → A q := fun q h => by rw [← hAe]; exact Or.inr h
  have hS : va_S A s.heap s.heap [] := va_S.rf
  have hP : va_P D vwCl (hn_wH ad cI σ ao cL f) s.heap := hP
  have hx := B.exec
  have hb := B.bytes
  have hr := B.returns
  have hts0 := atoms_spec (ws := wL_size) B.pre
  have hts : ∀ w ∈ hn_tb, w.before _ s = true := fun w hw => hts0 w (List.mem_cons_of_mem _ hw)
  have hown : s.vm.findClass RL = some m.cls := findClass_of_methodNamed B.named
  have hlocks := B.notSynchronized
  have hl := lv_entry [.ref (ad 0), .int d9, .ref ao] (n := 4) (Nat.le_of_ble_eq_true rfl)
  rw [lg_entry_eq]
  generalize (lg_sl [.ref (ad 0), .int d9, .ref ao] ++ List.replicate (4 - (lg_sl [.ref (ad 0), .int d9, .ref ao]).length) Slot.unset).toArray = ls at hl ⊢
  have hl : lv_has ls 4 [(0, .ref (ad 0)), (1, .int d9), (2, .ref ao)] := hl
  have htb := vx_table (x := yL_size) B (hts0 (Cond.codeWith yL_size cL_size 4 (some .int) [(0, 9, 12, 13)]) List.mem_cons_self)
  refine lv_aload_n hx hb dL_size_0 rfl (lv_at hl 2 rfl) ?_
  refine lv_iconst (v := 0) hx hb dL_size_1 (by decide) ?_
  refine lv_aload_n hx hb dL_size_2 rfl (lv_at hl 0 rfl) ?_
  refine lv_iload_n hx hb dL_size_3 rfl (lv_at hl 1 rfl) ?_
  have hPc := hP.sub (ws' := hn_wX ad cI σ) [0, 1, 2, 3, 4, 5, 6, 7, 8, 9] rfl
  have hDc := hD.sub (ws' := hn_wX ad cI σ) [0, 1, 2, 3, 4, 5, 6, 7, 8, 9] (by decide) rfl
  have hFc := va_free (wc := hn_wX ad cI σ) hD hS hA [0, 1, 2, 3, 4, 5, 6, 7, 8, 9] rfl
  refine vx_calli (vx_runV (As := [.int d9]) (rest := [.int 0, .ref ao]) ⟨hx, hb, hml, hown, hts⟩ (cX_size_ok l hl0 D cI cL z0 sa ad σ d9 h D9 tn TK hXR hO _) (cwV 1 hts gL_X_size rfl rfl rfl (by decide +kernel) ⟨(Nat.le_of_ble_eq_true rfl), (Nat.le_of_ble_eq_true rfl)⟩) (hn_preXV hPc hK (hDc.weaken (fun _ q _ h => hAz q.1 h)) hz0 hG hS hAz (ci := 0) (q0 := 0) rfl rfl) rfl rfl hl.1 rfl (lv_room (Nat.le_of_ble_eq_true rfl)) dL_size_4 ⟨(Nat.le_of_ble_eq_true rfl), (Nat.le_of_ble_eq_true rfl)⟩) hS (fun q _ h => hFc q h) hFc (fun q _ h => hFc q h) (fun E ce q9 σ2 t8 H1 locs ht hvm hpx hBX hz1 hk1 hS hce hcv hcl => ?_) (fun r1 σ2 t8 H1 locs ht hvm hw hB hz1 hk1 hS => ?_)
  · obtain ⟨⟨c9, hx1, hx2, hx3⟩, hP1, hK1, hD1⟩ := hBX
    rw [ht] at hP1
    obtain ⟨hP, hD⟩ := va_join (wr := [(ao, .inl (cL, 1, .inr (.inl f)))]) (w1 := hn_wX ad cI σ2) hP hD [0, 1, 2, 3, 4, 5, 6, 7, 8, 9] [10] rfl rfl (by decide) (by decide) hk1 hFc hP1 hD1
    have hP := hP.sub (ws' := hn_wH ad cI σ2 ao cL f) [1, 2, 3, 4, 5, 6, 7, 8, 9, 10, 0] rfl
    have hD := hD.sub (ws' := hn_wH ad cI σ2 ao cL f) [1, 2, 3, 4, 5, 6, 7, 8, 9, 10, 0] (by decide) rfl
    rcases hx1 with ⟨rfl, rfl⟩ | ⟨rfl, rfl⟩
    · refine vx_catch (name := hn_xA) hown [] ⟨0, 9, 12, 13⟩ [] htb (fun z h => nomatch h) rfl (by decide) (hts _ mL_c_13) (va_tabs (hn_Bw_on _ hn_cA) rfl (hG.1 _ hn_cA)) hce hcv hcl ?_
      refine lv_astore_n (lv' := [(3, .ref q9), (0, .ref (ad 0)), (1, .int d9), (2, .ref ao)]) hx hb dL_size_12 rfl hl (by decide) rfl (fun ls hl => ?_)
      refine lv_iconst (v := 1) hx hb dL_size_13 (by decide) ?_
      refine W.widen (k := 1) (n := 6) (Nat.le_of_ble_eq_true rfl) (Nat.le_of_ble_eq_true rfl) ?_
      exact W.iret (v := 1) hx hb hr (fun t9 ht9 hW9 => ⟨⟨1, (σ2, f), rfl, ⟨1, 0, by decide, rfl, hx2, fun z => absurd z (by decide), hx3⟩, by rw [ht9]; exact hP, va_K.moved hW9.alike hK, hD⟩, hS.F ht9⟩) hS.2.2 dL_size_14
    · exact (hn_size_2 hx2).elim
  obtain ⟨hP1, hK1, hD1⟩ := hB
  rw [ht] at hP1
  obtain ⟨hP, hD⟩ := va_join (wr := [(ao, .inl (cL, 1, .inr (.inl f)))]) (w1 := hn_wX ad cI σ2) hP hD [0, 1, 2, 3, 4, 5, 6, 7, 8, 9] [10] rfl rfl (by decide) (by decide) hk1 hFc hP1 hD1
  have hP := hP.sub (ws' := hn_wH ad cI σ2 ao cL f) [1, 2, 3, 4, 5, 6, 7, 8, 9, 10, 0] rfl
  have hD := hD.sub (ws' := hn_wH ad cI σ2 ao cL f) [1, 2, 3, 4, 5, 6, 7, 8, 9, 10, 0] (by decide) rfl
  try dsimp only at hw
  refine lv_i2l hx hb dL_size_7 rfl ?_
  refine va_last hx hb hK hP hD hS 10 1 rfl rfl (i := 0) (vp_in_nI (n := 0) (N := 1) (by omega) (by omega)) dL_size_8 (fun H locs hP hD hS => ?_)
  obtain ⟨f2, ef2⟩ : ∃ z : Nat → Int64, z = vp_updL f 0 r1.toInt64 := ⟨_, rfl⟩
  have hf2 : f2 0 = r1.toInt64 := by rw [ef2]; exact if_pos rfl
  have hP : va_P D vwCl (hn_wH ad cI σ2 ao cL f2) H := by rw [ef2]; exact hP
  have hD : va_D A (hn_wH ad cI σ2 ao cL f2) := by rw [ef2]; exact hD
  refine lv_goto (tgt := 15) hx hb dL_size_9 (by decide) ?_
  refine lv_iconst (v := 0) hx hb dL_size_15 (by decide) ?_
  obtain ⟨g1, g2⟩ := hw
  refine W.widen (k := 1) (n := 6) (Nat.le_of_ble_eq_true rfl) (Nat.le_of_ble_eq_true rfl) ?_
  exact W.iret (v := 0) hx hb hr (fun t9 ht9 hW9 => ⟨⟨0, (σ2, f2), rfl, ⟨0, r1, by decide, rfl, g1, fun _ => hf2, g2⟩, by rw [ht9]; exact hP, va_K.moved hW9.alike hK, hD⟩, hS.F ht9⟩) hS.2.2 dL_size_16

set_option maxHeartbeats 4000000 in
set_option maxRecDepth 100000 in
theorem cL_nth_ok (l : Launch) (hl0 : l.stackTraces = false) (D : va_G) (cI cL : ClassId) (z0 : Nat) (sa : Nat → Nat) (ad : Nat → Nat) (σ : Nat → Nat → Int32) (ao : Nat) (f : Nat → Int64) (h : Nat → Nat) (D9 : Nat → List hn_E) (tn TK : Nat) (hXR : hn_XR σ h D9 tn TK) (hO : hn_DO D9) (d9 k9 : Int32) (sz : Nat) : Met l yL_nth wL_nth ({ frames := 8, cells := 2, slots := 12, locals := 126 }) (hn_PH D (hn_ty cI cL) (hn_wH ad cI σ ao cL f) sz z0 sa [.ref (ad 0), .int d9, .int k9, .ref ao]) (va_Qi (fun (r : Int32) (u : ((Nat → Nat → Int32) × (Nat → Int64))) => ∃ (c : Nat) (a : Int32) (t8 T8 : Nat), c < 3 ∧ r = nI c ∧ hn_nthS D9 tn TK d9 k9 c a t8 T8 ∧ (c = 0 → u.2 0 = a.toInt64) ∧ hn_XR u.1 h D9 t8 T8) (fun (u : ((Nat → Nat → Int32) × (Nat → Int64))) t => hn_at D (hn_ty cI cL) (va_A (hn_wH ad cI σ ao cL f) sz) (hn_wH ad cI u.1 ao cL u.2) t) (va_A (hn_wH ad cI σ ao cL f) sz)) 2 12 (va_A (hn_wH ad cI σ ao cL f) sz) := by
  refine va_MetW (cc := cL_nth) (maxL := 5) (ret := (some .int)) (hh := [(0, 10, 13, 13)]) (by decide) rfl ?_
  intro p e s m args below meth c s₁ B hml hv
  obtain ⟨⟨rfl, hsz, hP, hK, hD0, hz0, hG⟩, hNc⟩ := hv
  subst hsz
  have hD := hD0.self (sz := s.heap.size)
  have hAz := hn_Az hD0 hz0
  generalize hAe : va_A (hn_wH ad cI σ ao cL f) s.heap.size = A at hD hAz ⊢
  have hA : ∀ q : Nat, s.heap.size ≤ q → A q := fun q h => by rw [← hAe]; exact Or.inr h
  have hS : va_S A s.heap s.heap [] := va_S.rf
  have hP : va_P D vwCl (hn_wH ad cI σ ao cL f) s.heap := hP
  have hx := B.exec
  have hb := B.bytes
  have hr := B.returns
  have hts0 := atoms_spec (ws := wL_nth) B.pre
  have hts : ∀ w ∈ hn_tb, w.before _ s = true := fun w hw => hts0 w (List.mem_cons_of_mem _ hw)
  have hown : s.vm.findClass RL = some m.cls := findClass_of_methodNamed B.named
  have hlocks := B.notSynchronized
  have hl := lv_entry [.ref (ad 0), .int d9, .int k9, .ref ao] (n := 5) (Nat.le_of_ble_eq_true rfl)
  rw [lg_entry_eq]
  generalize (lg_sl [.ref (ad 0), .int d9, .int k9, .ref ao] ++ List.replicate (5 - (lg_sl [.ref (ad 0), .int d9, .int k9, .ref ao]).length) Slot.unset).toArray = ls at hl ⊢
  have hl : lv_has ls 5 [(0, .ref (ad 0)), (1, .int d9), (2, .int k9), (3, .ref ao)] := hl
  have htb := vx_table (x := yL_nth) B (hts0 (Cond.codeWith yL_nth cL_nth 5 (some .int) [(0, 10, 13, 13)]) List.mem_cons_self)
  refine lv_aload_n hx hb dL_nth_0 rfl (lv_at hl 3 rfl) ?_
  refine lv_iconst (v := 0) hx hb dL_nth_1 (by decide) ?_
  refine lv_aload_n hx hb dL_nth_2 rfl (lv_at hl 0 rfl) ?_
  refine lv_iload_n hx hb dL_nth_3 rfl (lv_at hl 1 rfl) ?_
  refine lv_iload_n hx hb dL_nth_4 rfl (lv_at hl 2 rfl) ?_
  have hPc := hP.sub (ws' := hn_wX ad cI σ) [0, 1, 2, 3, 4, 5, 6, 7, 8, 9] rfl
  have hDc := hD.sub (ws' := hn_wX ad cI σ) [0, 1, 2, 3, 4, 5, 6, 7, 8, 9] (by decide) rfl
  have hFc := va_free (wc := hn_wX ad cI σ) hD hS hA [0, 1, 2, 3, 4, 5, 6, 7, 8, 9] rfl
  refine vx_calli (vx_runV (As := [.int d9, .int k9]) (rest := [.int 0, .ref ao]) ⟨hx, hb, hml, hown, hts⟩ (cX_nth_ok l hl0 D cI cL z0 sa ad σ d9 k9 h D9 tn TK hXR hO _) (cwV 2 hts gL_X_nth rfl rfl rfl (by decide +kernel) ⟨(Nat.le_of_ble_eq_true rfl), (Nat.le_of_ble_eq_true rfl)⟩) (hn_preXV hPc hK (hDc.weaken (fun _ q _ h => hAz q.1 h)) hz0 hG hS hAz (ci := 0) (q0 := 0) rfl rfl) rfl rfl hl.1 rfl (lv_room (Nat.le_of_ble_eq_true rfl)) dL_nth_5 ⟨(Nat.le_of_ble_eq_true rfl), (Nat.le_of_ble_eq_true rfl)⟩) hS (fun q _ h => hFc q h) hFc (fun q _ h => hFc q h) (fun E ce q9 σ2 t8 H1 locs ht hvm hpx hBX hz1 hk1 hS hce hcv hcl => ?_) (fun r1 σ2 t8 H1 locs ht hvm hw hB hz1 hk1 hS => ?_)
  · obtain ⟨⟨c9, hx1, hx2, hx3⟩, hP1, hK1, hD1⟩ := hBX
    rw [ht] at hP1
    obtain ⟨hP, hD⟩ := va_join (wr := [(ao, .inl (cL, 1, .inr (.inl f)))]) (w1 := hn_wX ad cI σ2) hP hD [0, 1, 2, 3, 4, 5, 6, 7, 8, 9] [10] rfl rfl (by decide) (by decide) hk1 hFc hP1 hD1
    have hP := hP.sub (ws' := hn_wH ad cI σ2 ao cL f) [1, 2, 3, 4, 5, 6, 7, 8, 9, 10, 0] rfl
    have hD := hD.sub (ws' := hn_wH ad cI σ2 ao cL f) [1, 2, 3, 4, 5, 6, 7, 8, 9, 10, 0] (by decide) rfl
    rcases hx1 with ⟨rfl, rfl⟩ | ⟨rfl, rfl⟩
    · refine vx_catch (name := hn_xA) hown [] ⟨0, 10, 13, 13⟩ [] htb (fun z h => nomatch h) rfl (by decide) (hts _ mL_c_13) (va_tabs (hn_Bw_on _ hn_cA) rfl (hG.1 _ hn_cA)) hce hcv hcl ?_
      refine lv_astore (lv' := [(4, .ref q9), (0, .ref (ad 0)), (1, .int d9), (2, .int k9), (3, .ref ao)]) hx hb dL_nth_13 hl (by decide) rfl (fun ls hl => ?_)
      refine lv_iconst (v := 1) hx hb dL_nth_15 (by decide) ?_
      refine W.widen (k := 2) (n := 12) (Nat.le_of_ble_eq_true rfl) (Nat.le_of_ble_eq_true rfl) ?_
      exact W.iret (v := 1) hx hb hr (fun t9 ht9 hW9 => ⟨⟨1, (σ2, f), rfl, ⟨1, 0, tn, TK, by decide, rfl, hx2, fun z => absurd z (by decide), hx3⟩, by rw [ht9]; exact hP, va_K.moved hW9.alike hK, hD⟩, hS.F ht9⟩) hS.2.2 dL_nth_16
    · exact (hn_nth_2 hx2).elim
  obtain ⟨hP1, hK1, hD1⟩ := hB
  rw [ht] at hP1
  obtain ⟨hP, hD⟩ := va_join (wr := [(ao, .inl (cL, 1, .inr (.inl f)))]) (w1 := hn_wX ad cI σ2) hP hD [0, 1, 2, 3, 4, 5, 6, 7, 8, 9] [10] rfl rfl (by decide) (by decide) hk1 hFc hP1 hD1
  have hP := hP.sub (ws' := hn_wH ad cI σ2 ao cL f) [1, 2, 3, 4, 5, 6, 7, 8, 9, 10, 0] rfl
  have hD := hD.sub (ws' := hn_wH ad cI σ2 ao cL f) [1, 2, 3, 4, 5, 6, 7, 8, 9, 10, 0] (by decide) rfl
  try dsimp only at hw
  refine lv_i2l hx hb dL_nth_8 rfl ?_
  refine va_last hx hb hK hP hD hS 10 1 rfl rfl (i := 0) (vp_in_nI (n := 0) (N := 1) (by omega) (by omega)) dL_nth_9 (fun H locs hP hD hS => ?_)
  obtain ⟨f2, ef2⟩ : ∃ z : Nat → Int64, z = vp_updL f 0 r1.toInt64 := ⟨_, rfl⟩
  have hf2 : f2 0 = r1.toInt64 := by rw [ef2]; exact if_pos rfl
  have hP : va_P D vwCl (hn_wH ad cI σ2 ao cL f2) H := by rw [ef2]; exact hP
  have hD : va_D A (hn_wH ad cI σ2 ao cL f2) := by rw [ef2]; exact hD
  refine lv_goto (tgt := 17) hx hb dL_nth_10 (by decide) ?_
  refine lv_iconst (v := 0) hx hb dL_nth_17 (by decide) ?_
  obtain ⟨t8, T8, g1, g2⟩ := hw
  refine W.widen (k := 2) (n := 12) (Nat.le_of_ble_eq_true rfl) (Nat.le_of_ble_eq_true rfl) ?_
  exact W.iret (v := 0) hx hb hr (fun t9 ht9 hW9 => ⟨⟨0, (σ2, f2), rfl, ⟨0, r1, t8, T8, by decide, rfl, g1, fun _ => hf2, g2⟩, by rw [ht9]; exact hP, va_K.moved hW9.alike hK, hD⟩, hS.F ht9⟩) hS.2.2 dL_nth_18

set_option maxHeartbeats 4000000 in
set_option maxRecDepth 100000 in
theorem cL_byteAt_ok (l : Launch) (hl0 : l.stackTraces = false) (D : va_G) (cI cL : ClassId) (z0 : Nat) (sa : Nat → Nat) (ad : Nat → Nat) (σ : Nat → Nat → Int32) (ao : Nat) (f : Nat → Int64) (h : Nat → Nat) (D9 : Nat → List hn_E) (tn TK : Nat) (hXR : hn_XR σ h D9 tn TK) (hO : hn_DO D9) (i9 : Int32) (sz : Nat) : Met l yL_byteAt wL_byteAt ({ frames := 7, cells := 1, slots := 6, locals := 103 }) (hn_PH D (hn_ty cI cL) (hn_wH ad cI σ ao cL f) sz z0 sa [.ref (ad 0), .int i9, .ref ao]) (va_Qi (fun (r : Int32) (u : ((Nat → Nat → Int32) × (Nat → Int64))) => ∃ (c : Nat) (a : Int32) , c < 3 ∧ r = nI c ∧ hn_byteS tn TK i9 c a ∧ (c = 0 → u.2 0 = a.toInt64) ∧ hn_XR u.1 h D9 tn TK) (fun (u : ((Nat → Nat → Int32) × (Nat → Int64))) t => hn_at D (hn_ty cI cL) (va_A (hn_wH ad cI σ ao cL f) sz) (hn_wH ad cI u.1 ao cL u.2) t) (va_A (hn_wH ad cI σ ao cL f) sz)) 1 6 (va_A (hn_wH ad cI σ ao cL f) sz) := by
  refine va_MetW (cc := cL_byteAt) (maxL := 4) (ret := (some .int)) (hh := [(0, 9, 12, 13)]) (by decide) rfl ?_
  intro p e s m args below meth c s₁ B hml hv
  obtain ⟨⟨rfl, hsz, hP, hK, hD0, hz0, hG⟩, hNc⟩ := hv
  subst hsz
  have hD := hD0.self (sz := s.heap.size)
  have hAz := hn_Az hD0 hz0
  generalize hAe : va_A (hn_wH ad cI σ ao cL f) s.heap.size = A at hD hAz ⊢
  have hA : ∀ q : Nat, s.heap.size ≤ q → A q := fun q h => by rw [← hAe]; exact Or.inr h
  have hS : va_S A s.heap s.heap [] := va_S.rf
  have hP : va_P D vwCl (hn_wH ad cI σ ao cL f) s.heap := hP
  have hx := B.exec
  have hb := B.bytes
  have hr := B.returns
  have hts0 := atoms_spec (ws := wL_byteAt) B.pre
  have hts : ∀ w ∈ hn_tb, w.before _ s = true := fun w hw => hts0 w (List.mem_cons_of_mem _ hw)
  have hown : s.vm.findClass RL = some m.cls := findClass_of_methodNamed B.named
  have hlocks := B.notSynchronized
  have hl := lv_entry [.ref (ad 0), .int i9, .ref ao] (n := 4) (Nat.le_of_ble_eq_true rfl)
  rw [lg_entry_eq]
  generalize (lg_sl [.ref (ad 0), .int i9, .ref ao] ++ List.replicate (4 - (lg_sl [.ref (ad 0), .int i9, .ref ao]).length) Slot.unset).toArray = ls at hl ⊢
  have hl : lv_has ls 4 [(0, .ref (ad 0)), (1, .int i9), (2, .ref ao)] := hl
  have htb := vx_table (x := yL_byteAt) B (hts0 (Cond.codeWith yL_byteAt cL_byteAt 4 (some .int) [(0, 9, 12, 13)]) List.mem_cons_self)
  refine lv_aload_n hx hb dL_byteAt_0 rfl (lv_at hl 2 rfl) ?_
  refine lv_iconst (v := 0) hx hb dL_byteAt_1 (by decide) ?_
  refine lv_aload_n hx hb dL_byteAt_2 rfl (lv_at hl 0 rfl) ?_
  refine lv_iload_n hx hb dL_byteAt_3 rfl (lv_at hl 1 rfl) ?_
  have hPc := hP.sub (ws' := hn_wX ad cI σ) [0, 1, 2, 3, 4, 5, 6, 7, 8, 9] rfl
  have hDc := hD.sub (ws' := hn_wX ad cI σ) [0, 1, 2, 3, 4, 5, 6, 7, 8, 9] (by decide) rfl
  have hFc := va_free (wc := hn_wX ad cI σ) hD hS hA [0, 1, 2, 3, 4, 5, 6, 7, 8, 9] rfl
  refine vx_calli (vx_runV (As := [.int i9]) (rest := [.int 0, .ref ao]) ⟨hx, hb, hml, hown, hts⟩ (cX_byteAt_ok l hl0 D cI cL z0 sa ad σ i9 h D9 tn TK hXR hO _) (cwV 1 hts gL_X_byteAt rfl rfl rfl (by decide +kernel) ⟨(Nat.le_of_ble_eq_true rfl), (Nat.le_of_ble_eq_true rfl)⟩) (hn_preXV hPc hK (hDc.weaken (fun _ q _ h => hAz q.1 h)) hz0 hG hS hAz (ci := 0) (q0 := 0) rfl rfl) rfl rfl hl.1 rfl (lv_room (Nat.le_of_ble_eq_true rfl)) dL_byteAt_4 ⟨(Nat.le_of_ble_eq_true rfl), (Nat.le_of_ble_eq_true rfl)⟩) hS (fun q _ h => hFc q h) hFc (fun q _ h => hFc q h) (fun E ce q9 σ2 t8 H1 locs ht hvm hpx hBX hz1 hk1 hS hce hcv hcl => ?_) (fun r1 σ2 t8 H1 locs ht hvm hw hB hz1 hk1 hS => ?_)
  · obtain ⟨⟨c9, hx1, hx2, hx3⟩, hP1, hK1, hD1⟩ := hBX
    rw [ht] at hP1
    obtain ⟨hP, hD⟩ := va_join (wr := [(ao, .inl (cL, 1, .inr (.inl f)))]) (w1 := hn_wX ad cI σ2) hP hD [0, 1, 2, 3, 4, 5, 6, 7, 8, 9] [10] rfl rfl (by decide) (by decide) hk1 hFc hP1 hD1
    have hP := hP.sub (ws' := hn_wH ad cI σ2 ao cL f) [1, 2, 3, 4, 5, 6, 7, 8, 9, 10, 0] rfl
    have hD := hD.sub (ws' := hn_wH ad cI σ2 ao cL f) [1, 2, 3, 4, 5, 6, 7, 8, 9, 10, 0] (by decide) rfl
    rcases hx1 with ⟨rfl, rfl⟩ | ⟨rfl, rfl⟩
    · refine vx_catch (name := hn_xA) hown [] ⟨0, 9, 12, 13⟩ [] htb (fun z h => nomatch h) rfl (by decide) (hts _ mL_c_13) (va_tabs (hn_Bw_on _ hn_cA) rfl (hG.1 _ hn_cA)) hce hcv hcl ?_
      refine lv_astore_n (lv' := [(3, .ref q9), (0, .ref (ad 0)), (1, .int i9), (2, .ref ao)]) hx hb dL_byteAt_12 rfl hl (by decide) rfl (fun ls hl => ?_)
      refine lv_iconst (v := 1) hx hb dL_byteAt_13 (by decide) ?_
      refine W.widen (k := 1) (n := 6) (Nat.le_of_ble_eq_true rfl) (Nat.le_of_ble_eq_true rfl) ?_
      exact W.iret (v := 1) hx hb hr (fun t9 ht9 hW9 => ⟨⟨1, (σ2, f), rfl, ⟨1, 0, by decide, rfl, hx2, fun z => absurd z (by decide), hx3⟩, by rw [ht9]; exact hP, va_K.moved hW9.alike hK, hD⟩, hS.F ht9⟩) hS.2.2 dL_byteAt_14
    · exact (hn_byte_2 hx2).elim
  obtain ⟨hP1, hK1, hD1⟩ := hB
  rw [ht] at hP1
  obtain ⟨hP, hD⟩ := va_join (wr := [(ao, .inl (cL, 1, .inr (.inl f)))]) (w1 := hn_wX ad cI σ2) hP hD [0, 1, 2, 3, 4, 5, 6, 7, 8, 9] [10] rfl rfl (by decide) (by decide) hk1 hFc hP1 hD1
  have hP := hP.sub (ws' := hn_wH ad cI σ2 ao cL f) [1, 2, 3, 4, 5, 6, 7, 8, 9, 10, 0] rfl
  have hD := hD.sub (ws' := hn_wH ad cI σ2 ao cL f) [1, 2, 3, 4, 5, 6, 7, 8, 9, 10, 0] (by decide) rfl
  try dsimp only at hw
  refine lv_i2l hx hb dL_byteAt_7 rfl ?_
  refine va_last hx hb hK hP hD hS 10 1 rfl rfl (i := 0) (vp_in_nI (n := 0) (N := 1) (by omega) (by omega)) dL_byteAt_8 (fun H locs hP hD hS => ?_)
  obtain ⟨f2, ef2⟩ : ∃ z : Nat → Int64, z = vp_updL f 0 r1.toInt64 := ⟨_, rfl⟩
  have hf2 : f2 0 = r1.toInt64 := by rw [ef2]; exact if_pos rfl
  have hP : va_P D vwCl (hn_wH ad cI σ2 ao cL f2) H := by rw [ef2]; exact hP
  have hD : va_D A (hn_wH ad cI σ2 ao cL f2) := by rw [ef2]; exact hD
  refine lv_goto (tgt := 15) hx hb dL_byteAt_9 (by decide) ?_
  refine lv_iconst (v := 0) hx hb dL_byteAt_15 (by decide) ?_
  obtain ⟨g1, g2⟩ := hw
  refine W.widen (k := 1) (n := 6) (Nat.le_of_ble_eq_true rfl) (Nat.le_of_ble_eq_true rfl) ?_
  exact W.iret (v := 0) hx hb hr (fun t9 ht9 hW9 => ⟨⟨0, (σ2, f2), rfl, ⟨0, r1, by decide, rfl, g1, fun _ => hf2, g2⟩, by rw [ht9]; exact hP, va_K.moved hW9.alike hK, hD⟩, hS.F ht9⟩) hS.2.2 dL_byteAt_16
end
