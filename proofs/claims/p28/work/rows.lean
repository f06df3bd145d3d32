section
-- ===== PART A: goes FIRST, ahead of the names: the tables' words, and 'selects' of the private methods out of them =====
/-- a private method of a class that the tables say can be made, by its rows of tables_1 -/
def lw_okq (q : MethodName × Nat) : Prop := (q.1.cls ≠ "java/lang/invoke/MethodHandle" ∧ q.1.cls ≠ "java/lang/invoke/VarHandle") ∧ Cond.instantiable q.1.cls q.2 ∈ tables_1 ∧ Cond.privateMethod q.1 ∈ tables_1 ∧ Cond.instanceMethod q.1 ∈ tables_1
theorem lw_p0 : lw_okq (⟨"java/lang/Throwable", "fillInStackTrace", "(I)Ljava/lang/Throwable;"⟩, 6) := ⟨⟨by decide +kernel, by decide +kernel⟩, List.mem_of_getElem? (i := 189) (by decide +kernel), List.mem_of_getElem? (i := 187) (by decide +kernel), List.mem_of_getElem? (i := 188) (by decide +kernel)⟩
theorem lw_p1 : lw_okq (⟨"HotPanLocks$History", "slotAt", "(I)LHotPanLocks$State;"⟩, 3) := ⟨⟨by decide +kernel, by decide +kernel⟩, List.mem_of_getElem? (i := 83) (by decide +kernel), List.mem_of_getElem? (i := 295) (by decide +kernel), List.mem_of_getElem? (i := 296) (by decide +kernel)⟩
theorem lw_p2 : lw_okq (⟨"HotPanLocks", "numberOf", "(I)I"⟩, 4) := ⟨⟨by decide +kernel, by decide +kernel⟩, List.mem_of_getElem? (i := 15) (by decide +kernel), List.mem_of_getElem? (i := 519) (by decide +kernel), List.mem_of_getElem? (i := 520) (by decide +kernel)⟩
def lw_privs_1 : List (MethodName × Nat) := [(⟨"java/lang/Throwable", "fillInStackTrace", "(I)Ljava/lang/Throwable;"⟩, 6), (⟨"HotPanLocks$History", "slotAt", "(I)LHotPanLocks$State;"⟩, 3), (⟨"HotPanLocks", "numberOf", "(I)I"⟩, 4)]
theorem lw_r1 : ∀ q ∈ lw_privs_1, lw_okq q := List.forall_mem_cons.mpr ⟨lw_p0, List.forall_mem_cons.mpr ⟨lw_p1, List.forall_mem_cons.mpr ⟨lw_p2, fun _ h => absurd h List.not_mem_nil⟩⟩⟩
def lw_privs : List (MethodName × Nat) := lw_privs_1
def lw_tbl : List Cond := k2_sels lw_privs ++ tables_1
theorem lw_privs_ok : ∀ q ∈ lw_privs, lw_okq q := lw_r1
/-! ===== BEGIN words of one list among another's, by their places ===== -/
theorem goodIn_r {big : List Cond} (ws : List Cond) (ps : List Nat) (hp : ws = ps.filterMap (fun i => big[i]?)) (h : ws.all goodWord = true) : GoodIn big ws := by
  intro w hw
  have h1 := List.all_eq_true.mp h w hw
  rw [hp] at hw
  obtain ⟨i, -, hi⟩ := List.mem_filterMap.mp hw
  have hm : w ∈ big := by first | exact List.mem_of_getElem? hi | exact List.getElem?_mem hi
  exact ⟨hm, good_of_word h1⟩
theorem goodIn_app {big a b : List Cond} (ha : GoodIn big a) (hb : GoodIn big b) : GoodIn big (a ++ b) := fun w h => (List.mem_append.mp h).elim (ha w) (hb w)
theorem goodIn_ca {big a b : List Cond} {c : Cond} (ha : GoodIn big (c :: a)) (hb : GoodIn big b) : GoodIn big (c :: (a ++ b)) := fun w h => (List.mem_cons.mp h).elim (fun e => ha w (List.mem_cons.mpr (Or.inl e))) (fun h => (List.mem_append.mp h).elim (fun h => ha w (List.mem_cons.mpr (Or.inr h))) (hb w))
theorem goodIn_sub {big ws : List Cond} (hm : ∀ w ∈ ws, w ∈ big) (h : ws.all goodWord = true) : GoodIn big ws := fun w hw => ⟨hm w hw, good_of_word (List.all_eq_true.mp h w hw)⟩
/-! ===== END ===== -/

/-! ===== BEGIN exceptions that leave a method, and their catching by the caller (launches without stack traces) ===== -/
section VXA
/-! The laws vx_back, vx_callV, vx_callS, vx_callSW, vx_throw0, vx_throwS follow proofs of the library, with one case more: JvmDerived/Free/Laws.lean (Back.of_free), Shelf42/LK1.lean (callV, callS), Shelf/KitTraced.lean (throwNew0V, throwNewS). -/
/-- where a method has thrown q: the class by its name, the cell, what was written, the world -/
def vx_T (XC : String → State → State → Prop) (st : State) (q : Addr) (t : State) (mc ms : Nat) (free : Addr → Prop) : Prop :=
  ∃ (E : String) (ce : Cell) (L : List Loc), XC E st t ∧ t.heap[q]? = some ce ∧ ce.vm = .none ∧ st.vm.findClass E = some ce.cls ∧ st.WarmedH t.vm ∧ st.sameButNew ({ t with vm := st.vm } : State) L mc ms ∧ ∀ z ∈ L, free z.base
def vx_Q (Qc : Array Value → State → Outcome → State → Prop) (XC : String → State → State → Prop) (mc ms : Nat) (free : Addr → Prop) : Array Value → State → Outcome → State → Prop := fun a st o t =>
  (Qc a st o t ∧ ∃ L, FrameEnd st o t L mc ms ∧ ∀ q ∈ L, free q.base) ∨ ∃ q, o = .threw q ∧ vx_T XC st q t mc ms free
/-- a callee that returns or throws -/
def vx_Met (l : Launch) (y : MethodName) (ws : List Cond) (rm : Room) (Pc : Array Value → State → Prop) (Qc : Array Value → State → Outcome → State → Prop) (XC : String → State → State → Prop) (mc ms : Nat) (free : Addr → Prop) : Prop :=
  MetFree l y (headSpec ws rm) Pc (fun _ _ _ _ _ => True) (vx_Q Qc XC mc ms free)
def vx_Post (XC : String → State → State → Prop) (mc ms : Nat) (free : Addr → Prop) : Pt → Array Value → Addr → Pt → Prop := fun A a q B =>
  ∃ (g : JFrame) (mk : MethodId) (t : State) (L : List Loc) (E : String) (ce : Cell), B.U.heap = t.heap ∧ B.U.vm = t.vm ∧ XC E (A.U.calling g mk a) t ∧ t.heap[q]? = some ce ∧ ce.vm = .none ∧ A.U.vm.findClass E = some ce.cls ∧ B.locs = A.locs ++ L ∧ (∀ z ∈ L, free z.base) ∧ B.cells = A.cells + mc ∧ B.slots = A.slots + ms
def vx_Back (l : Launch) (R : Room) (p : Program) (e : Env) (below : List Frame) (s : State) (sargs : Array Value) (y : MethodName) (len W9 : Nat)
    (Pre : Pt → Array Value → Prop) (Post : Pt → Array Value → Option Value → Pt → Prop) (PostX : Pt → Array Value → Addr → Pt → Prop) : Prop :=
  ∀ (m : MethodId) (meth : Method) (c : Code) (A : Pt) (g : JFrame) (ig : Instr) (mk : MethodId) (a : Array Value),
    Stand p l e R s m sargs below meth c A.U A.locs A.cells A.slots → g.method = m → g.locals.size = c.maxLocals → decode c.code g.pc = .ok (ig, len) →
    2 * g.monitorRoom + (g.stack.map fun v => v.category).sum ≤ W9 → A.U.methodNamed? y = some mk → Pre A a →
    (∃ (v : Option Value) (B : Pt), Stand p l e R s m sargs below meth c B.U B.locs B.cells B.slots ∧ Post A a v B ∧
      Steps p.tables e below (doInvoke e (A.U.setTop g) [] mk a).1 (B.U.setTop { g with pc := g.pc + len, stack := v.toList ++ g.stack })) ∨
    (∃ (q : Addr) (B : Pt), Stand p l e R s m sargs below meth c B.U B.locs B.cells B.slots ∧ PostX A a q B ∧
      Steps p.tables e below (doInvoke e (A.U.setTop g) [] mk a).1 ((B.U.setTop g).pushFrame (.throwing q)))
section Payer
variable {l : Launch} {R : Room} {p : Program} {e : Env} {below : List Frame} {s : State} {sargs : Array Value} {y : MethodName} {len W9 : Nat}
theorem vx_back {ws : List Cond} {rm : Room} {Pc : Array Value → State → Prop} {Qc : Array Value → State → Outcome → State → Prop} {XC : String → State → State → Prop} {mc ms : Nat} {free : Addr → Prop} {bytes : ByteArray} {maxL : Nat} {ret : Option FieldType}
    (hM : vx_Met l y ws rm Pc Qc XC mc ms free) (hblind : FrameBlind Pc) (hrc : rm.cells = mc) (hrs : rm.slots = ms)
    (hframes : rm.frames + 1 ≤ R.frames) (hlocals : W9 + (maxL + 11) + rm.locals ≤ R.locals)
    (hws : ∀ w ∈ ws, ∀ a' U, s.WarmedH U.vm → w.before a' U = true) (hcode : Cond.code y bytes maxL ret ∈ ws) (hinit : ∀ a' U, s.WarmedH U.vm → (Cond.initialized y.cls).before a' U = true) :
    vx_Back l R p e below s sargs y len W9 (PreOf R mc ms Pc) (PostOf Qc mc ms free) (vx_Post XC mc ms free) := by
  intro m meth c A g ig mk a X hg hsize hdg hW hn hp
  have h1 : (headSpec ws rm).pre.before a A.U = true := atoms_intro fun w hw => hws w hw _ _ X.warmed
  have h2 : (Cond.code y bytes maxL ret).before a A.U = true := hws _ hcode _ _ X.warmed
  have h3 : (Cond.initialized y.cls).before a A.U = true := hinit _ _ X.warmed
  have h4 : A.cells + (headSpec ws rm).room.cells ≤ R.cells := by rw [show (headSpec ws rm).room.cells = mc from hrc]; exact hp.1
  have h5 : A.slots + (headSpec ws rm).room.slots ≤ R.slots := by rw [show (headSpec ws rm).room.slots = ms from hrs]; exact hp.2.1
  have hPc : Pc a (A.U.calling g mk a) := hblind _ _ _ _ hp.2.2
  obtain ⟨U, Ls, c0, s0⟩ := A
  dsimp only [Pt.U, Pt.locs, Pt.cells, Pt.slots] at h1 h2 h3 h4 h5 X hn hPc ⊢
  obtain ⟨methY, cY, hmY, hcY, -, hlY, -, -, -, -⟩ := Cond.code_spec hn h2
  obtain ⟨kY, hkY, -⟩ := className_of_methodNamed hn
  have hinitY : kY.init = .initialized := Cond.initialized_spec (findClass_of_methodNamed hn) hkY h3
  have h : At U g.method c below := by rw [hg]; exact X.here
  have hlocals9 : W9 + (maxL + 11) + (headSpec ws rm).room.locals ≤ R.locals := hlocals
  have happ : (headSpec ws rm).appliesLoose y e.platform (U.calling g mk a) = true :=
    Spec.appliesLoose_calling (g := g) h hdg hn hkY hinitY
      (X.room_calling (g := g) (R' := (headSpec ws rm).room) hsize hmY hcY hframes (by rw [hlY]; omega) h4 h5) h1
  obtain ⟨mid, hmid⟩ := h.above
  have hfr : (U.setTop g).frames = (.java g :: mid) ++ below := by rw [State.frames_setTop' g h.top, hmid]; rfl
  obtain ⟨o, s₂, hsteps, -, hend, hq⟩ := Steps.callFree hM p X.admits X.cas X.clock (acts := []) hfr happ hPc trivial
  have hq' : vx_Q Qc XC mc ms free a (U.calling g mk a) o s₂ := hq
  rw [State.frames_setTop' g h.top] at hend
  obtain ⟨g₀, hg0⟩ := Option.isSome_iff_exists.mp h.top
  obtain ⟨r, hr⟩ := State.topJava?_eq_some.mp hg0
  have hr' : (({ U with heap := s₂.heap, slotsUsed := s₂.slotsUsed } : State).setVm s₂.vm).frames = .java g₀ :: r := hr
  rcases hq' with ⟨hqc, L, hfe, hL⟩ | ⟨q, rfl, E, ce, L, hx, hce, hcv, hcl, hW₂, hsm, hL⟩
  · obtain ⟨⟨v, rfl⟩, hW₂, e2, q2, q3, q4, q5, q6⟩ := id hfe
    have e3 : s₂ = ({ (U.calling g mk a).setFrames s₂.frames with heap := s₂.heap, slotsUsed := s₂.slotsUsed } : State).setVm s₂.vm := by
      have : s₂ = ({ s₂ with vm := (U.calling g mk a).vm } : State).setVm s₂.vm := rfl
      rw [e2] at this
      exact this
    obtain ⟨c₂, i₂, len₂, hc₂, hd₂, hf₂⟩ := hend
    have hW' : U.WarmedH s₂.vm := hW₂
    have hcc : c₂ = c := by
      have h1 : s₂.code? g.method = U.code? g.method := by
        rw [State.code?_eq, State.code?_eq, hW'.alike.method?]
      exact Option.some.inj (hc₂.symm.trans (h1.trans h.code))
    subst hcc
    have hlen : len₂ = len := by rw [hdg] at hd₂; cases hd₂; rfl
    subst hlen
    have hs₂ : s₂ = (({ U with heap := s₂.heap, slotsUsed := s₂.slotsUsed } : State).setVm s₂.vm).setTop { g with pc := g.pc + len₂, stack := v.toList ++ g.stack } := by
      refine e3.trans ?_
      rw [hf₂, State.calling_eq h.top, State.setFrames_setFrames, State.setTop_of_frames _ hr', hr]
      rfl
    have hsame : U.sameButNew ({ U with heap := s₂.heap, slotsUsed := s₂.slotsUsed } : State) L mc ms := by
      refine ⟨?_, q2, q3, q4, q5, q6⟩
      obtain ⟨t, ht, -⟩ := State.frames_cons hr
      show ({ U with heap := s₂.heap, slotsUsed := s₂.slotsUsed } : State) = { U.setFrames U.frames with heap := s₂.heap, slotsUsed := s₂.slotsUsed }
      rw [State.setFrames_self ht]
    subst hg
    refine Or.inl ⟨v, ⟨(({ U with heap := s₂.heap, slotsUsed := s₂.slotsUsed } : State).setVm s₂.vm), Ls ++ L, c0 + mc, s0 + ms⟩,
      ⟨X.admits, X.cas, X.clock, X.frames, X.room, X.hears, X.method, X.code, (X.here.setHeapUsed s₂.heap s₂.slotsUsed).setVm hW'.alike, X.tail, State.WarmedH.trans X.warmed hW', X.limits, X.bytes, X.same.trans (hsame.setVm s.vm)⟩,
      ⟨g, mk, s₂, L, rfl, rfl, hqc, rfl, hL, rfl, rfl⟩, ?_⟩
    show Steps p.tables e below _ ((({ U with heap := s₂.heap, slotsUsed := s₂.slotsUsed } : State).setVm s₂.vm).setTop { g with pc := g.pc + len₂, stack := v.toList ++ g.stack })
    rw [← hs₂]
    exact hsteps
  · obtain ⟨e2, q2, q3, q4, q5, q6⟩ := id hsm
    have e3 : s₂ = ({ (U.calling g mk a).setFrames s₂.frames with heap := s₂.heap, slotsUsed := s₂.slotsUsed } : State).setVm s₂.vm := by
      have : s₂ = ({ s₂ with vm := (U.calling g mk a).vm } : State).setVm s₂.vm := rfl
      rw [e2] at this
      exact this
    have hf₂ : s₂.frames = .throwing q :: .java g :: U.frames.tail := hend
    have hW' : U.WarmedH s₂.vm := hW₂
    have hs₂ : s₂ = ((({ U with heap := s₂.heap, slotsUsed := s₂.slotsUsed } : State).setVm s₂.vm).setTop g).pushFrame (.throwing q) := by
      refine e3.trans ?_
      rw [hf₂, State.calling_eq h.top, State.setFrames_setFrames, State.pushFrame, State.frames_setTop _ hr', State.setTop_of_frames _ hr', State.setFrames_setFrames, hr]
      rfl
    have hsame : U.sameButNew ({ U with heap := s₂.heap, slotsUsed := s₂.slotsUsed } : State) L mc ms := by
      refine ⟨?_, q2, q3, q4, q5, q6⟩
      obtain ⟨t, ht, -⟩ := State.frames_cons hr
      show ({ U with heap := s₂.heap, slotsUsed := s₂.slotsUsed } : State) = { U.setFrames U.frames with heap := s₂.heap, slotsUsed := s₂.slotsUsed }
      rw [State.setFrames_self ht]
    subst hg
    refine Or.inr ⟨q, ⟨(({ U with heap := s₂.heap, slotsUsed := s₂.slotsUsed } : State).setVm s₂.vm), Ls ++ L, c0 + mc, s0 + ms⟩,
      ⟨X.admits, X.cas, X.clock, X.frames, X.room, X.hears, X.method, X.code, (X.here.setHeapUsed s₂.heap s₂.slotsUsed).setVm hW'.alike, X.tail, State.WarmedH.trans X.warmed hW', X.limits, X.bytes, X.same.trans (hsame.setVm s.vm)⟩,
      ⟨g, mk, s₂, L, E, ce, rfl, rfl, hx, hce, hcv, hcl, rfl, hL, rfl, rfl⟩, ?_⟩
    show Steps p.tables e below _ (((({ U with heap := s₂.heap, slotsUsed := s₂.slotsUsed } : State).setVm s₂.vm).setTop g).pushFrame (.throwing q))
    rw [← hs₂]
    exact hsteps
end Payer
section Calls
variable {p : Program} {l : Launch} {e : Env} {R : Room} {s : State} {m : MethodId} {args : Array Value} {below : List Frame} {meth : Method} {c : Code} {T : State} {locs : List Loc} {cells slots : Nat}
theorem vx_callV (X : Stand p l e R s m args below meth c T locs cells slots) (hexec : p.tables.exec = Jvm.exec) {own C : String} {index : Nat} {y : MethodName} {bytes : ByteArray} {maxL : Nat} {ret : Option FieldType}
    (hown : s.vm.findClass own = some m.cls) (hlink : (Cond.methodLink own index y).before args s = true) (hinst : (Cond.instanceMethod y).before args s = true) (hsel : (Cond.selects C y y).before args s = true)
    (hcode : (Cond.code y bytes maxL ret).before args s = true) (hy : y.cls ≠ "java/lang/invoke/MethodHandle" ∧ y.cls ≠ "java/lang/invoke/VarHandle")
    {W9 : Nat} {Pre : Pt → Array Value → Prop} {Post : Pt → Array Value → Option Value → Pt → Prop} {PostX : Pt → Array Value → Addr → Pt → Prop} (hK : vx_Back l R p e below s args y 3 W9 Pre Post PostX)
    {b : Addr} {cellB : Cell} (hcell : T.heap[b]? = some cellB) (hobj : cellB.vm.isStatics = false) (hcls : s.vm.findClass C = some cellB.cls)
    {g : JFrame} (hg : g.method = m) (hsize : g.locals.size = c.maxLocals) {argsL rest : List Value} (hlen : ∀ sig, parseMethodDescriptor y.desc = some sig → argsL.length = sig.parameters.length)
    (hstack : g.stack = argsL.reverse ++ .ref b :: rest) (hW : 2 * g.monitorRoom + (rest.map fun v => v.category).sum ≤ W9) (hdg : decode c.code g.pc = .ok (.invokevirtual index, 3))
    (hpre : ∀ vm₁, s.WarmedH vm₁ → Pre ⟨T.setVm vm₁, locs, cells, slots⟩ (Value.ref b :: argsL).toArray) :
    (∃ (v : Option Value) (vm₁ : Vm) (B : Pt), s.WarmedH vm₁ ∧ Stand p l e R s m args below meth c B.U B.locs B.cells B.slots ∧ Post ⟨T.setVm vm₁, locs, cells, slots⟩ (Value.ref b :: argsL).toArray v B ∧
      ∀ target, Steps p.tables e below (B.U.setTop { g with pc := g.pc + 3, stack := v.toList ++ rest }) target → Steps p.tables e below (T.setTop g) target) ∨
    (∃ (q : Addr) (vm₁ : Vm) (B : Pt), s.WarmedH vm₁ ∧ Stand p l e R s m args below meth c B.U B.locs B.cells B.slots ∧ PostX ⟨T.setVm vm₁, locs, cells, slots⟩ (Value.ref b :: argsL).toArray q B ∧
      Steps p.tables e below (T.setTop g) ((B.U.setTop { g with stack := rest }).pushFrame (.throwing q))) := by
  obtain ⟨mk, methM, hnamed, hmethM, hstM, habM⟩ := Cond.instanceMethod_spec hinst
  obtain ⟨methM', cM, hmethM', -, -, -, -, -, -, hsigM⟩ := Cond.code_spec hnamed hcode
  cases hmethM.symm.trans hmethM'
  obtain ⟨c2, r2, m2, q1, q2, q3, q4, kP, hkP, hkPi⟩ := Cond.selects_spec hsel
  cases hcls.symm.trans q1
  cases (State.methodFound?_of_named hnamed hy).symm.trans q2
  cases hnamed.symm.trans q3
  have hselP : selectMethod e.platform s.vm cellB.cls mk = .method mk := by rw [Launch.admits_selectMethod X.admits]; exact q4
  obtain ⟨vm₁, X₁, hstep₁⟩ := X.invokevirtual hexec hown hlink hnamed hmethM hstM hkP hkPi hy (a := b) (cell := cellB) hcell
    (fun z h => by rw [h] at hobj; cases hobj) hselP hmethM habM hkP hkPi (g := g) hg (argsL := argsL) (rest := rest) (hlen _ hsigM) hstack hdg
  rcases hK m meth c ⟨T.setVm vm₁, locs, cells, slots⟩ { g with stack := rest } (.invokevirtual index) mk (Value.ref b :: argsL).toArray X₁ hg hsize hdg hW (X₁.named hnamed) (hpre vm₁ X₁.warmed) with ⟨v, B, X', hpost, hsteps⟩ | ⟨q, B, X', hpost, hsteps⟩
  · exact Or.inl ⟨v, vm₁, B, X₁.warmed, X', hpost, fun target h => hstep₁ _ fun acts => by rw [doInvoke_state]; exact hsteps.trans h⟩
  · exact Or.inr ⟨q, vm₁, B, X₁.warmed, X', hpost, hstep₁ _ fun acts => by rw [doInvoke_state]; exact hsteps⟩
theorem vx_callS (X : Stand p l e R s m args below meth c T locs cells slots) (hexec : p.tables.exec = Jvm.exec) {own : String} {index : Nat} {y : MethodName} {bytes : ByteArray} {maxL : Nat} {ret : Option FieldType}
    (hown : s.vm.findClass own = some m.cls) (hlink : (Cond.methodLink own index y).before args s = true) (hstat : (Cond.static y).before args s = true) (hinit : (Cond.initialized y.cls).before args s = true)
    (hcode : (Cond.code y bytes maxL ret).before args s = true) (hy : y.cls ≠ "java/lang/invoke/MethodHandle" ∧ y.cls ≠ "java/lang/invoke/VarHandle")
    {W9 : Nat} {Pre : Pt → Array Value → Prop} {Post : Pt → Array Value → Option Value → Pt → Prop} {PostX : Pt → Array Value → Addr → Pt → Prop} (hK : vx_Back l R p e below s args y 3 W9 Pre Post PostX)
    {g : JFrame} (hg : g.method = m) (hsize : g.locals.size = c.maxLocals) {argsL rest : List Value} (hlen : ∀ sig, parseMethodDescriptor y.desc = some sig → argsL.length = sig.parameters.length)
    (hstack : g.stack = argsL.reverse ++ rest) (hW : 2 * g.monitorRoom + (rest.map fun v => v.category).sum ≤ W9) (hdg : decode c.code g.pc = .ok (.invokestatic index, 3))
    (hpre : ∀ vm₁, s.WarmedH vm₁ → Pre ⟨T.setVm vm₁, locs, cells, slots⟩ argsL.toArray) :
    (∃ (v : Option Value) (vm₁ : Vm) (B : Pt), s.WarmedH vm₁ ∧ Stand p l e R s m args below meth c B.U B.locs B.cells B.slots ∧ Post ⟨T.setVm vm₁, locs, cells, slots⟩ argsL.toArray v B ∧
      ∀ target, Steps p.tables e below (B.U.setTop { g with pc := g.pc + 3, stack := v.toList ++ rest }) target → Steps p.tables e below (T.setTop g) target) ∨
    (∃ (q : Addr) (vm₁ : Vm) (B : Pt), s.WarmedH vm₁ ∧ Stand p l e R s m args below meth c B.U B.locs B.cells B.slots ∧ PostX ⟨T.setVm vm₁, locs, cells, slots⟩ argsL.toArray q B ∧
      Steps p.tables e below (T.setTop g) ((B.U.setTop { g with stack := rest }).pushFrame (.throwing q))) := by
  obtain ⟨mk, hnamed⟩ := Cond.code_named hcode
  obtain ⟨methM, cM, hmethM, -, -, -, -, -, -, hsigM⟩ := Cond.code_spec hnamed hcode
  have hstatic : methM.isStatic = true := Cond.static_spec hnamed hmethM hstat
  obtain ⟨kP, hkP, -⟩ := className_of_methodNamed hnamed
  have hinitP : kP.init = .initialized := Cond.initialized_spec (findClass_of_methodNamed hnamed) hkP hinit
  obtain ⟨vm₁, X₁, hstep₁⟩ := X.invokestatic hexec hown hlink hnamed hmethM hstatic hkP hinitP hy (g := g) hg (argsL := argsL) (rest := rest) (hlen _ hsigM) hstack hdg
  rcases hK m meth c ⟨T.setVm vm₁, locs, cells, slots⟩ { g with stack := rest } (.invokestatic index) mk argsL.toArray X₁ hg hsize hdg hW (X₁.named hnamed) (hpre vm₁ X₁.warmed) with ⟨v, B, X', hpost, hsteps⟩ | ⟨q, B, X', hpost, hsteps⟩
  · exact Or.inl ⟨v, vm₁, B, X₁.warmed, X', hpost, fun target h => hstep₁ _ fun acts => by rw [doInvoke_state]; exact hsteps.trans h⟩
  · exact Or.inr ⟨q, vm₁, B, X₁.warmed, X', hpost, hstep₁ _ fun acts => by rw [doInvoke_state]; exact hsteps⟩
end Calls
theorem vx_cls {s : State} {T : State} {vm₁ : Vm} {E : String} {k : ClassId} (hW : s.WarmedH vm₁) (h : (T.setVm vm₁).vm.findClass E = some k) : s.vm.findClass E = some k := by
  have h1 : vm₁.findClass E = some k := h
  rw [hW.alike.findClass] at h1
  exact h1
/-- the method's frame g, with q thrown over it -/
def vx_W (p : Program) (l : Launch) (e : Env) (R : Room) (s : State) (m : MethodId) (args : Array Value) (below : List Frame) (meth : Method) (c : Code) (H : Heap) (locs : List Loc) (cells slots : Nat) (Q : State → Prop) (g : JFrame) (q : Addr) : Prop :=
  ∀ T : State, T.heap = H → Stand p l e R s m args below meth c T locs cells slots → ∃ t, Steps p.tables e below ((T.setTop g).pushFrame (.throwing q)) t ∧ Q t
def vx_Run (p : Program) (l : Launch) (e : Env) (R : Room) (s : State) (m : MethodId) (args : Array Value) (below : List Frame) (meth : Method) (c : Code) (H : Heap) (locs : List Loc) (cells slots mc ms : Nat) (g : JFrame) (rest : List Value) (Qa : State → Outcome → State → Prop) (XC : String → State → State → Prop) (free : Addr → Prop) : Prop :=
  ∀ T : State, T.heap = H → Stand p l e R s m args below meth c T locs cells slots →
    (∃ (v : Option Value) (st₀ t T' : State) (L : List Loc), st₀.heap = H ∧ Stand p l e R s m args below meth c T' (locs ++ L) (cells + mc) (slots + ms) ∧ (∀ q ∈ L, free q.base) ∧ T'.heap = t.heap ∧ T'.vm = t.vm ∧ Qa st₀ (.returned v) t ∧
      Goes p e below T g T' { g with pc := g.pc + 3, stack := v.toList ++ rest }) ∨
    (∃ (q : Addr) (st₀ t T' : State) (L : List Loc) (E : String) (ce : Cell), st₀.heap = H ∧ Stand p l e R s m args below meth c T' (locs ++ L) (cells + mc) (slots + ms) ∧ (∀ z ∈ L, free z.base) ∧ T'.heap = t.heap ∧ T'.vm = t.vm ∧ XC E st₀ t ∧ t.heap[q]? = some ce ∧ ce.vm = .none ∧ s.vm.findClass E = some ce.cls ∧
      Steps p.tables e below (T.setTop g) ((T'.setTop { g with stack := rest }).pushFrame (.throwing q)))
def vx_X {S : Type} (px : S → Prop) (B : String → S → State → Prop) (A : Nat → Prop) : String → State → State → Prop := fun E st t => ∃ u : S, px u ∧ B E u t ∧ va_F A st t
section Runs
variable {p : Program} {l : Launch} {e : Env} {R : Room} {s : State} {m : MethodId} {args : Array Value} {below : List Frame} {meth : Method} {c : Code} {H : Heap} {locs : List Loc} {cells slots : Nat}
variable {y : MethodName} {bytes cc : ByteArray} {maxL nL mc ms n index : Nat} {ret : Option FieldType} {ws : List Cond} {rm : Room} {Pc : Array Value → State → Prop} {Qc : Array Value → State → Outcome → State → Prop} {XC : String → State → State → Prop} {free : Addr → Prop} {Ts : List Cond} {own C : String} {b : Addr} {As rest : List Value} {g : JFrame}
theorem vx_callBack (cb : CallB R s args own index y bytes maxL ret ws rm mc ms n) (hM : vx_Met l y ws rm Pc Qc XC mc ms free) (hbl : FrameBlind Pc) : vx_Back l R p e below s args y 3 8 (PreOf R mc ms Pc) (PostOf Qc mc ms free) (vx_Post XC mc ms free) := by
  obtain ⟨hrc, hrs, hfr, hlo, hws, hcw, -, hini, -⟩ := cb
  exact vx_back (bytes := bytes) (maxL := maxL) (ret := ret) hM hbl hrc hrs hfr hlo hws hcw (fun a' U hW => word_at hW (Or.inl (by first | rfl | simp [Cond.onTables, Cond.keeps, Cond.steady])) hini)
theorem vx_runV (S : CallFix p m c cc nL s args Ts own) (hM : vx_Met l y ws rm Pc Qc XC mc ms free) (cw : CallW R s args own C index y bytes maxL ret ws rm mc ms n) (hp : PreV s H C b Pc As)
    (hg : g.method = m) (hn : As.length = n) (hsize : g.locals.size = nL) (hstack : g.stack = As.reverse ++ .ref b :: rest) (hW : 2 * g.monitorRoom + (rest.map fun v => v.category).sum ≤ 8) (hdg : decode cc g.pc = .ok (.invokevirtual index, 3)) (hf : cells + mc ≤ R.cells ∧ slots + ms ≤ R.slots) :
    vx_Run p l e R s m args below meth c H locs cells slots mc ms g rest (Qc (Value.ref b :: As).toArray) XC free := by
  have hK : vx_Back l R p e below s args y 3 8 (PreOf R mc ms Pc) (PostOf Qc mc ms free) (vx_Post XC mc ms free) := vx_callBack cw.1 hM hp.1
  obtain ⟨⟨-, -, -, -, -, -, hcode, -, hy, hlen, hl⟩, hin, hse⟩ := cw
  obtain ⟨hx, hb, hml, ho, -⟩ := S
  obtain ⟨-, ⟨cellB, hcB, hoB, hclB⟩, hPc⟩ := hp
  intro T hT X
  rcases vx_callV X hx (C := C) (bytes := bytes) (maxL := maxL) (ret := ret) ho hl hin hse hcode hy hK (by rw [hT]; exact hcB) hoB hclB hg (hsize.trans hml.symm) (argsL := As) (rest := rest) (fun sig h => hn.trans (hlen sig h)) hstack hW (by rw [hb]; exact hdg)
    (fun vm₁ hW₁ => ⟨hf.1, hf.2, hPc (T.setVm vm₁) hT hW₁⟩) with ⟨v, vm₁, ⟨U', l2, c2, s2⟩, hW₁, X', ⟨g', mk, t, L, e1, e2, hq, h1, hL, h2, h3⟩, st⟩ | ⟨q, vm₁, ⟨U', l2, c2, s2⟩, hW₁, X', ⟨g', mk, t, L, E, ce, e1, e2, hq, hce, hcv, hcl, h1, hL, h2, h3⟩, st⟩
  · dsimp only [Pt.U, Pt.locs, Pt.cells, Pt.slots] at X' e1 e2 h1 h2 h3 st
    subst h1; subst h2; subst h3
    exact Or.inl ⟨v, (T.setVm vm₁).calling g' mk (Value.ref b :: As).toArray, t, U', L, hT, X', hL, e1, e2, hq, st⟩
  · dsimp only [Pt.U, Pt.locs, Pt.cells, Pt.slots] at X' e1 e2 h1 h2 h3 st hcl
    subst h1; subst h2; subst h3
    exact Or.inr ⟨q, (T.setVm vm₁).calling g' mk (Value.ref b :: As).toArray, t, U', L, E, ce, hT, X', hL, e1, e2, hq, hce, hcv, vx_cls hW₁ hcl, st⟩
theorem vx_runS (S : CallFix p m c cc nL s args Ts own) (hM : vx_Met l y ws rm Pc Qc XC mc ms free) (cw : CallB R s args own index y bytes maxL ret ws rm mc ms n ∧ (Cond.static y).before args s = true) (hp : PreS s H Pc As)
    (hg : g.method = m) (hn : As.length = n) (hsize : g.locals.size = nL) (hstack : g.stack = As.reverse ++ rest) (hW : 2 * g.monitorRoom + (rest.map fun v => v.category).sum ≤ 8) (hdg : decode cc g.pc = .ok (.invokestatic index, 3)) (hf : cells + mc ≤ R.cells ∧ slots + ms ≤ R.slots) :
    vx_Run p l e R s m args below meth c H locs cells slots mc ms g rest (Qc As.toArray) XC free := by
  have hK : vx_Back l R p e below s args y 3 8 (PreOf R mc ms Pc) (PostOf Qc mc ms free) (vx_Post XC mc ms free) := vx_callBack cw.1 hM hp.1
  obtain ⟨⟨-, -, -, -, -, -, hcode, hini, hy, hlen, hl⟩, hstt⟩ := cw
  obtain ⟨hx, hb, hml, ho, -⟩ := S
  intro T hT X
  rcases vx_callS X hx (bytes := bytes) (maxL := maxL) (ret := ret) ho hl hstt hini hcode hy hK hg (hsize.trans hml.symm) (argsL := As) (rest := rest) (fun sig h => hn.trans (hlen sig h)) hstack hW (by rw [hb]; exact hdg)
    (fun vm₁ hW₁ => ⟨hf.1, hf.2, hp.2 (T.setVm vm₁) hT hW₁⟩) with ⟨v, vm₁, ⟨U', l2, c2, s2⟩, hW₁, X', ⟨g', mk, t, L, e1, e2, hq, h1, hL, h2, h3⟩, st⟩ | ⟨q, vm₁, ⟨U', l2, c2, s2⟩, hW₁, X', ⟨g', mk, t, L, E, ce, e1, e2, hq, hce, hcv, hcl, h1, hL, h2, h3⟩, st⟩
  · dsimp only [Pt.U, Pt.locs, Pt.cells, Pt.slots] at X' e1 e2 h1 h2 h3 st
    subst h1; subst h2; subst h3
    exact Or.inl ⟨v, (T.setVm vm₁).calling g' mk As.toArray, t, U', L, hT, X', hL, e1, e2, hq, st⟩
  · dsimp only [Pt.U, Pt.locs, Pt.cells, Pt.slots] at X' e1 e2 h1 h2 h3 st hcl
    subst h1; subst h2; subst h3
    exact Or.inr ⟨q, (T.setVm vm₁).calling g' mk As.toArray, t, U', L, E, ce, hT, X', hL, e1, e2, hq, hce, hcv, vx_cls hW₁ hcl, st⟩
end Runs
section Rows
variable {p : Program} {l : Launch} {e : Env} {R : Room} {s : State} {m : MethodId} {args : Array Value} {below : List Frame} {meth : Method} {c : Code} {H : Heap} {locs : List Loc} {cells slots : Nat} {Q : State → Prop}
variable {mc ms : Nat} {free : Addr → Prop} {A0 A1 : Nat → Prop} {H0 : Heap} {a : Array Value} {pc : Nat} {ls : Array Slot} {st0 rest : List Value}
theorem vx_keep {st₀ t T' : State} {L : List Loc} (h0 : st₀.heap = H) (e1 : T'.heap = t.heap) (hS : va_S A0 H0 H locs) (hA : ∀ q, q < H.size → A1 q → A0 q) (hf : ∀ q, free q → A0 q) (hL : ∀ q ∈ L, free q.base) (hF : va_F A1 st₀ t) :
    H.size ≤ T'.heap.size ∧ (∀ q : Nat, q < H.size → ¬ A1 q → T'.heap[q]? = H[q]?) ∧ va_S A0 H0 T'.heap (locs ++ L) := by
  obtain ⟨hz, hk⟩ := hF
  rw [h0] at hz hk
  exact ⟨by rw [e1]; exact hz, fun q h1 h2 => by rw [e1]; exact hk q h1 h2,
    ⟨Nat.le_trans hS.1 (by rw [e1]; exact hz), fun q h1 h2 => by rw [e1, hk q (Nat.lt_of_lt_of_le h1 hS.1) (fun z => h2 (hA q (Nat.lt_of_lt_of_le h1 hS.1) z))]; exact hS.2.1 q h1 h2, fun q hq => by
      rcases List.mem_append.mp hq with h | h
      · exact hS.2.2 q h
      · exact hf _ (hL q h)⟩⟩
theorem vx_calli {S SX : Type} {post : Int32 → S → Prop} {px : SX → Prop} {B : S → State → Prop} {BX : String → SX → State → Prop} {AX : Nat → Prop} (hr : vx_Run p l e R s m args below meth c H locs cells slots mc ms (F0 m pc ls st0) rest (va_Qi post B A1 a) (vx_X px BX AX) free) (hS : va_S A0 H0 H locs) (hA : ∀ q, q < H.size → A1 q → A0 q) (hf : ∀ q, free q → A0 q) (hAX : ∀ q, q < H.size → AX q → A0 q)
    (kx : ∀ (E : String) (ce : Cell) (q9 : Addr) (u : SX) (t : State) (H1 : Heap) (locs1 : List Loc), t.heap = H1 → s.vm.Alike t.vm → px u → BX E u t → H.size ≤ H1.size → (∀ q : Nat, q < H.size → ¬ AX q → H1[q]? = H[q]?) → va_S A0 H0 H1 locs1 → H1[q9]? = some ce → ce.vm = .none → s.vm.findClass E = some ce.cls → vx_W p l e R s m args below meth c H1 locs1 (cells + mc) (slots + ms) Q (F0 m pc ls rest) q9)
    (kk : ∀ (r : Int32) (u : S) (t : State) (H1 : Heap) (locs1 : List Loc), t.heap = H1 → s.vm.Alike t.vm → post r u → B u t → H.size ≤ H1.size → (∀ q : Nat, q < H.size → ¬ A1 q → H1[q]? = H[q]?) → va_S A0 H0 H1 locs1 → W p l e R s m args below meth c H1 locs1 (cells + mc) (slots + ms) Q (F0 m (pc + 3) ls (.int r :: rest))) : W p l e R s m args below meth c H locs cells slots Q (F0 m pc ls st0) := by
  intro T hT X
  rcases hr T hT X with ⟨v, st₀, t, T', L, h0, X', hL, e1, e2, ⟨⟨r, u, hv, hp, hb⟩, hF⟩, st⟩ | ⟨q, st₀, t, T', L, E, ce, h0, X', hL, e1, e2, ⟨u, hp, hb, hF⟩, hce, hcv, hcl, st⟩
  · cases hv
    obtain ⟨k1, k2, k3⟩ := vx_keep h0 e1 hS hA hf hL hF
    obtain ⟨t2, a1, b1⟩ := kk r u t T'.heap (locs ++ L) e1.symm (by rw [← e2]; exact X'.warmed.alike) hp hb k1 k2 k3 T' rfl X'
    exact ⟨t2, st t2 a1, b1⟩
  · obtain ⟨k1, k2, k3⟩ := vx_keep h0 e1 hS hAX hf hL hF
    obtain ⟨t2, a1, b1⟩ := kx E ce q u t T'.heap (locs ++ L) e1.symm (by rw [← e2]; exact X'.warmed.alike) hp hb k1 k2 k3 (by rw [e1]; exact hce) hcv hcl T' rfl X'
    exact ⟨t2, st.trans a1, b1⟩
theorem vx_calll {S SX : Type} {post : Int64 → S → Prop} {px : SX → Prop} {B : S → State → Prop} {BX : String → SX → State → Prop} {AX : Nat → Prop} (hr : vx_Run p l e R s m args below meth c H locs cells slots mc ms (F0 m pc ls st0) rest (va_Ql post B A1 a) (vx_X px BX AX) free) (hS : va_S A0 H0 H locs) (hA : ∀ q, q < H.size → A1 q → A0 q) (hf : ∀ q, free q → A0 q) (hAX : ∀ q, q < H.size → AX q → A0 q)
    (kx : ∀ (E : String) (ce : Cell) (q9 : Addr) (u : SX) (t : State) (H1 : Heap) (locs1 : List Loc), t.heap = H1 → s.vm.Alike t.vm → px u → BX E u t → H.size ≤ H1.size → (∀ q : Nat, q < H.size → ¬ AX q → H1[q]? = H[q]?) → va_S A0 H0 H1 locs1 → H1[q9]? = some ce → ce.vm = .none → s.vm.findClass E = some ce.cls → vx_W p l e R s m args below meth c H1 locs1 (cells + mc) (slots + ms) Q (F0 m pc ls rest) q9)
    (kk : ∀ (r : Int64) (u : S) (t : State) (H1 : Heap) (locs1 : List Loc), t.heap = H1 → s.vm.Alike t.vm → post r u → B u t → H.size ≤ H1.size → (∀ q : Nat, q < H.size → ¬ A1 q → H1[q]? = H[q]?) → va_S A0 H0 H1 locs1 → W p l e R s m args below meth c H1 locs1 (cells + mc) (slots + ms) Q (F0 m (pc + 3) ls (.long r :: rest))) : W p l e R s m args below meth c H locs cells slots Q (F0 m pc ls st0) := by
  intro T hT X
  rcases hr T hT X with ⟨v, st₀, t, T', L, h0, X', hL, e1, e2, ⟨⟨r, u, hv, hp, hb⟩, hF⟩, st⟩ | ⟨q, st₀, t, T', L, E, ce, h0, X', hL, e1, e2, ⟨u, hp, hb, hF⟩, hce, hcv, hcl, st⟩
  · cases hv
    obtain ⟨k1, k2, k3⟩ := vx_keep h0 e1 hS hA hf hL hF
    obtain ⟨t2, a1, b1⟩ := kk r u t T'.heap (locs ++ L) e1.symm (by rw [← e2]; exact X'.warmed.alike) hp hb k1 k2 k3 T' rfl X'
    exact ⟨t2, st t2 a1, b1⟩
  · obtain ⟨k1, k2, k3⟩ := vx_keep h0 e1 hS hAX hf hL hF
    obtain ⟨t2, a1, b1⟩ := kx E ce q u t T'.heap (locs ++ L) e1.symm (by rw [← e2]; exact X'.warmed.alike) hp hb k1 k2 k3 (by rw [e1]; exact hce) hcv hcl T' rfl X'
    exact ⟨t2, st.trans a1, b1⟩
theorem vx_callf {S SX : Type} {post : UInt32 → S → Prop} {px : SX → Prop} {B : S → State → Prop} {BX : String → SX → State → Prop} {AX : Nat → Prop} (hr : vx_Run p l e R s m args below meth c H locs cells slots mc ms (F0 m pc ls st0) rest (va_Qf post B A1 a) (vx_X px BX AX) free) (hS : va_S A0 H0 H locs) (hA : ∀ q, q < H.size → A1 q → A0 q) (hf : ∀ q, free q → A0 q) (hAX : ∀ q, q < H.size → AX q → A0 q)
    (kx : ∀ (E : String) (ce : Cell) (q9 : Addr) (u : SX) (t : State) (H1 : Heap) (locs1 : List Loc), t.heap = H1 → s.vm.Alike t.vm → px u → BX E u t → H.size ≤ H1.size → (∀ q : Nat, q < H.size → ¬ AX q → H1[q]? = H[q]?) → va_S A0 H0 H1 locs1 → H1[q9]? = some ce → ce.vm = .none → s.vm.findClass E = some ce.cls → vx_W p l e R s m args below meth c H1 locs1 (cells + mc) (slots + ms) Q (F0 m pc ls rest) q9)
    (kk : ∀ (r : UInt32) (u : S) (t : State) (H1 : Heap) (locs1 : List Loc), t.heap = H1 → s.vm.Alike t.vm → post r u → B u t → H.size ≤ H1.size → (∀ q : Nat, q < H.size → ¬ A1 q → H1[q]? = H[q]?) → va_S A0 H0 H1 locs1 → W p l e R s m args below meth c H1 locs1 (cells + mc) (slots + ms) Q (F0 m (pc + 3) ls (.float r :: rest))) : W p l e R s m args below meth c H locs cells slots Q (F0 m pc ls st0) := by
  intro T hT X
  rcases hr T hT X with ⟨v, st₀, t, T', L, h0, X', hL, e1, e2, ⟨⟨r, u, hv, hp, hb⟩, hF⟩, st⟩ | ⟨q, st₀, t, T', L, E, ce, h0, X', hL, e1, e2, ⟨u, hp, hb, hF⟩, hce, hcv, hcl, st⟩
  · cases hv
    obtain ⟨k1, k2, k3⟩ := vx_keep h0 e1 hS hA hf hL hF
    obtain ⟨t2, a1, b1⟩ := kk r u t T'.heap (locs ++ L) e1.symm (by rw [← e2]; exact X'.warmed.alike) hp hb k1 k2 k3 T' rfl X'
    exact ⟨t2, st t2 a1, b1⟩
  · obtain ⟨k1, k2, k3⟩ := vx_keep h0 e1 hS hAX hf hL hF
    obtain ⟨t2, a1, b1⟩ := kx E ce q u t T'.heap (locs ++ L) e1.symm (by rw [← e2]; exact X'.warmed.alike) hp hb k1 k2 k3 (by rw [e1]; exact hce) hcv hcl T' rfl X'
    exact ⟨t2, st.trans a1, b1⟩
theorem vx_calld {S SX : Type} {post : UInt64 → S → Prop} {px : SX → Prop} {B : S → State → Prop} {BX : String → SX → State → Prop} {AX : Nat → Prop} (hr : vx_Run p l e R s m args below meth c H locs cells slots mc ms (F0 m pc ls st0) rest (va_Qd post B A1 a) (vx_X px BX AX) free) (hS : va_S A0 H0 H locs) (hA : ∀ q, q < H.size → A1 q → A0 q) (hf : ∀ q, free q → A0 q) (hAX : ∀ q, q < H.size → AX q → A0 q)
    (kx : ∀ (E : String) (ce : Cell) (q9 : Addr) (u : SX) (t : State) (H1 : Heap) (locs1 : List Loc), t.heap = H1 → s.vm.Alike t.vm → px u → BX E u t → H.size ≤ H1.size → (∀ q : Nat, q < H.size → ¬ AX q → H1[q]? = H[q]?) → va_S A0 H0 H1 locs1 → H1[q9]? = some ce → ce.vm = .none → s.vm.findClass E = some ce.cls → vx_W p l e R s m args below meth c H1 locs1 (cells + mc) (slots + ms) Q (F0 m pc ls rest) q9)
    (kk : ∀ (r : UInt64) (u : S) (t : State) (H1 : Heap) (locs1 : List Loc), t.heap = H1 → s.vm.Alike t.vm → post r u → B u t → H.size ≤ H1.size → (∀ q : Nat, q < H.size → ¬ A1 q → H1[q]? = H[q]?) → va_S A0 H0 H1 locs1 → W p l e R s m args below meth c H1 locs1 (cells + mc) (slots + ms) Q (F0 m (pc + 3) ls (.double r :: rest))) : W p l e R s m args below meth c H locs cells slots Q (F0 m pc ls st0) := by
  intro T hT X
  rcases hr T hT X with ⟨v, st₀, t, T', L, h0, X', hL, e1, e2, ⟨⟨r, u, hv, hp, hb⟩, hF⟩, st⟩ | ⟨q, st₀, t, T', L, E, ce, h0, X', hL, e1, e2, ⟨u, hp, hb, hF⟩, hce, hcv, hcl, st⟩
  · cases hv
    obtain ⟨k1, k2, k3⟩ := vx_keep h0 e1 hS hA hf hL hF
    obtain ⟨t2, a1, b1⟩ := kk r u t T'.heap (locs ++ L) e1.symm (by rw [← e2]; exact X'.warmed.alike) hp hb k1 k2 k3 T' rfl X'
    exact ⟨t2, st t2 a1, b1⟩
  · obtain ⟨k1, k2, k3⟩ := vx_keep h0 e1 hS hAX hf hL hF
    obtain ⟨t2, a1, b1⟩ := kx E ce q u t T'.heap (locs ++ L) e1.symm (by rw [← e2]; exact X'.warmed.alike) hp hb k1 k2 k3 (by rw [e1]; exact hce) hcv hcl T' rfl X'
    exact ⟨t2, st.trans a1, b1⟩
theorem vx_callv {S SX : Type} {post : S → Prop} {px : SX → Prop} {B : S → State → Prop} {BX : String → SX → State → Prop} {AX : Nat → Prop} (hr : vx_Run p l e R s m args below meth c H locs cells slots mc ms (F0 m pc ls st0) rest (va_Qv post B A1 a) (vx_X px BX AX) free) (hS : va_S A0 H0 H locs) (hA : ∀ q, q < H.size → A1 q → A0 q) (hf : ∀ q, free q → A0 q) (hAX : ∀ q, q < H.size → AX q → A0 q)
    (kx : ∀ (E : String) (ce : Cell) (q9 : Addr) (u : SX) (t : State) (H1 : Heap) (locs1 : List Loc), t.heap = H1 → s.vm.Alike t.vm → px u → BX E u t → H.size ≤ H1.size → (∀ q : Nat, q < H.size → ¬ AX q → H1[q]? = H[q]?) → va_S A0 H0 H1 locs1 → H1[q9]? = some ce → ce.vm = .none → s.vm.findClass E = some ce.cls → vx_W p l e R s m args below meth c H1 locs1 (cells + mc) (slots + ms) Q (F0 m pc ls rest) q9)
    (kk : ∀ (u : S) (t : State) (H1 : Heap) (locs1 : List Loc), t.heap = H1 → s.vm.Alike t.vm → post u → B u t → H.size ≤ H1.size → (∀ q : Nat, q < H.size → ¬ A1 q → H1[q]? = H[q]?) → va_S A0 H0 H1 locs1 → W p l e R s m args below meth c H1 locs1 (cells + mc) (slots + ms) Q (F0 m (pc + 3) ls (rest))) : W p l e R s m args below meth c H locs cells slots Q (F0 m pc ls st0) := by
  intro T hT X
  rcases hr T hT X with ⟨v, st₀, t, T', L, h0, X', hL, e1, e2, ⟨⟨u, hv, hp, hb⟩, hF⟩, st⟩ | ⟨q, st₀, t, T', L, E, ce, h0, X', hL, e1, e2, ⟨u, hp, hb, hF⟩, hce, hcv, hcl, st⟩
  · cases hv
    obtain ⟨k1, k2, k3⟩ := vx_keep h0 e1 hS hA hf hL hF
    obtain ⟨t2, a1, b1⟩ := kk u t T'.heap (locs ++ L) e1.symm (by rw [← e2]; exact X'.warmed.alike) hp hb k1 k2 k3 T' rfl X'
    exact ⟨t2, st t2 a1, b1⟩
  · obtain ⟨k1, k2, k3⟩ := vx_keep h0 e1 hS hAX hf hL hF
    obtain ⟨t2, a1, b1⟩ := kx E ce q u t T'.heap (locs ++ L) e1.symm (by rw [← e2]; exact X'.warmed.alike) hp hb k1 k2 k3 (by rw [e1]; exact hce) hcv hcl T' rfl X'
    exact ⟨t2, st.trans a1, b1⟩
/-- caught by the row x of this method's table; the rows ahead don't take it -/
theorem vx_catch {own name : String} {E : String} {ce : Cell} {q : Addr} (hown : s.vm.findClass own = some m.cls) (pre : List ExceptionTableEntry) (x : ExceptionTableEntry) (suf : List ExceptionTableEntry) (hsplit : c.exceptionTable.toList = pre ++ x :: suf)
    (hpass : ∀ z ∈ pre, covers z pc = false ∨ (z.catchType ≠ 0 ∧ ∃ nm : String, (Cond.classLink own z.catchType nm).before args s = true ∧ va_Nc E nm s)) (hx : covers x pc = true) (h0 : x.catchType ≠ 0)
    (hlink : (Cond.classLink own x.catchType name).before args s = true) (hcast : (Cond.castable E name).before args s = true) (hcell : H[q]? = some ce) (hv : ce.vm = .none) (hcl : s.vm.findClass E = some ce.cls)
    (kk : W p l e R s m args below meth c H locs cells slots Q (F0 m x.handlerPc ls [.ref q])) : vx_W p l e R s m args below meth c H locs cells slots Q (F0 m pc ls rest) q := by
  intro T hT X
  have hpl : e.platform.magicAccessors = ({} : Platform).magicAccessors := by rw [X.admits.platform]
  obtain ⟨c3, c4, hc3, hc4, hasg⟩ := Cond.castable_spec hcast
  cases Option.some.inj (hc3.symm.trans hcl)
  obtain ⟨c5, hc5, hcl5⟩ := Cond.classLink_spec hown hlink e.platform hpl
  cases Option.some.inj (hc4.symm.trans hc5)
  obtain ⟨vm', X', st⟩ := X.thenCaughtThrough q (g := F0 m pc ls rest) rfl (Steps.refl _) (by rw [hT]; exact hcell) (by rw [hv]; rfl) (by obtain ⟨k9, h9, -⟩ := Vm.findClass_spec hcl; exact ⟨k9, h9⟩) pre x suf hsplit
    (fun z hz => by
      rcases hpass z hz with h | ⟨hz0, nm, hl1, hn1⟩
      · exact Or.inl h
      · obtain ⟨c6, hc6, hcl6⟩ := Cond.classLink_spec hown hl1 e.platform hpl
        obtain ⟨a8, b8, h1, h2, h3⟩ := hn1
        cases Option.some.inj (h1.symm.trans hcl)
        cases Option.some.inj (h2.symm.trans hc6)
        exact Or.inr ⟨hz0, _, hcl6, h3⟩) hx (Or.inr ⟨h0, c4, hcl5, hasg⟩)
  obtain ⟨t, a1, b1⟩ := kk (T.setVm vm') hT X'
  exact ⟨t, st.trans a1, b1⟩
end Rows
section Ends
variable {p : Program} {l : Launch} {e : Env} {R : Room} {s : State} {m : MethodId} {args : Array Value} {below : List Frame} {meth : Method} {c : Code} {H : Heap} {locs : List Loc} {cells slots : Nat} {Q : State → Prop}
variable {mc ms : Nat} {free : Addr → Prop} {A0 A1 : Nat → Prop} {H0 : Heap} {a : Array Value} {ls : Array Slot} {st0 rest : List Value}
variable {Qc : Array Value → State → Outcome → State → Prop} {XC : String → State → State → Prop}
/-- what a body that may throw owes at its end -/
def vx_MQ (below : List Frame) (Qc : Array Value → State → Outcome → State → Prop) (XC : String → State → State → Prop) (a : Array Value) (s : State) (mc ms : Nat) (free : Addr → Prop) : State → Prop := fun t =>
  ∃ o, t.status = .running ∧ Ended t below o ∧ vx_Q Qc XC mc ms free a s o t
theorem vx_ret {g : JFrame} {mc ms : Nat} (k : W p l e R s m args below meth c H locs cells slots (MQ below Qc args s mc ms free) g) : W p l e R s m args below meth c H locs cells slots (vx_MQ below Qc XC args s mc ms free) g := by
  intro T hT X
  obtain ⟨t, a1, o, b1, b2, b3, b4⟩ := k T hT X
  exact ⟨t, a1, o, b1, b2, Or.inl ⟨b3, b4⟩⟩
/-- not caught here: it goes on to the caller -/
theorem vx_widen {g : JFrame} {q : Addr} {k n : Nat} (h1 : cells ≤ k) (h2 : slots ≤ n) (kk : vx_W p l e R s m args below meth c H locs k n Q g q) : vx_W p l e R s m args below meth c H locs cells slots Q g q := fun T hT X => kk T hT (stand_widen X h1 h2)
theorem vx_out {pc : Nat} {E : String} {ce : Cell} {q : Addr} {mc ms : Nat} (hout : ∀ x ∈ c.exceptionTable.toList, covers x pc = false) (hlocks : meth.locks = false) (hcell : H[q]? = some ce) (hv : ce.vm = .none) (hcl : s.vm.findClass E = some ce.cls)
    (hx : ∀ t : State, t.heap = H → s.vm.Alike t.vm → XC E s t) (hf : ∀ z ∈ locs, free z.base) (hc : cells ≤ mc) (hs : slots ≤ ms) :
    vx_W p l e R s m args below meth c H locs cells slots (vx_MQ below Qc XC args s mc ms free) (F0 m pc ls rest) q := by
  intro T hT X
  obtain ⟨st1, hrun, hend, hW, hsm⟩ := X.leaveThrown q (g := F0 m pc ls rest) rfl rfl rfl hout hlocks
  have hcell9 : (T.setFrames (.throwing q :: below)).heap[q]? = some ce := by
    show T.heap[q]? = some ce
    rw [hT]; exact hcell
  exact ⟨_, st1, .threw q, hrun, hend, Or.inr ⟨q, rfl, E, ce, locs, hx _ hT hW.alike, hcell9, hv, hcl, hW, hsm.mono hc hs, hf⟩⟩
theorem vx_frame {U : State} {k n : Nat} (h : s.sameButNew ({ U with vm := s.vm } : State) locs k n) : s.heap.size ≤ U.heap.size ∧ ∀ q : Nat, q < s.heap.size → (∀ z ∈ locs, z.base ≠ q) → U.heap[q]? = s.heap[q]? := by
  obtain ⟨-, h2, -, -, -, h6⟩ := h
  refine ⟨h2, fun q hq hz => ?_⟩
  obtain ⟨c9, e1, e2, e3, e4⟩ := h6 q _ (Array.getElem?_eq_getElem hq)
  have hs : c9.slots = (s.heap[q]).slots := Array.ext_getElem? fun i => e4 i fun hm => hz _ hm rfl
  have h9 : c9 = s.heap[q] := by
    rw [hs] at e2
    exact e2
  have e5 : U.heap[q]? = some c9 := e1
  rw [e5, h9, Array.getElem?_eq_getElem hq]
/-- the words of a throw but the four that speak of the heap -/
def vx_no (w : Cond) : Bool := decide (w ≠ .isRef (.static Bundle.tN "UNASSIGNED_STACK" Bundle.steD)) && decide (w ≠ .isRef (.static Bundle.tN "SUPPRESSED_SENTINEL" Bundle.listD)) && decide (w ≠ .laysStatic Bundle.tN "UNASSIGNED_STACK" Bundle.steD) && decide (w ≠ .laysStatic Bundle.tN "SUPPRESSED_SENTINEL" Bundle.listD)
def vx_at0 (own : String) (ic : Nat) (X : String) (names : List String) : List Cond := (Bundle.ownAtoms0 own ic X names).filter vx_no
def vx_atS (own : String) (ic : Nat) (X : String) (names : List String) : List Cond := (Bundle.ownAtoms own ic X names).filter vx_no
/-- a word that the tables alone decide, or a good one -/
def vx_ot (w : Cond) : Bool := w.onTables || goodWord w
theorem vx_ot_at {args a' : Array Value} {s U : State} {w : Cond} (hW : s.WarmedH U.vm) (hvm : s.vm = U.vm) (hg : vx_ot w = true) (h : w.before args s = true) : w.before a' U = true := by
  simp only [vx_ot, Bool.or_eq_true] at hg
  rcases hg with hg | hg
  · exact va_tabs hg hvm h
  · exact word_at hW (good_of_word hg) h
/-- a list's words: the good ones out of the method's own list, the others by premises of their own -/
theorem vx_hat {args : Array Value} {s : State} {L B : List Cond} (h1 : ∀ w ∈ L.filter goodWord, w.before args s = true) (h2 : ∀ w ∈ L.filter (fun w => !goodWord w), w ∈ B) (h3 : ∀ w ∈ B, w.before args s = true) : ∀ w ∈ L, w.before args s = true := by
  intro w hw
  by_cases g : goodWord w = true
  · exact h1 w (List.mem_filter.mpr ⟨hw, g⟩)
  · refine h3 w (h2 w (List.mem_filter.mpr ⟨hw, ?_⟩))
    show (!goodWord w) = true
    cases hgw : goodWord w
    · rfl
    · exact absurd hgw g
theorem vx_c {args : Array Value} {s : State} {w : Cond} {B : List Cond} (h : w.before args s = true) (t : ∀ w ∈ B, w.before args s = true) : ∀ w' ∈ w :: B, w'.before args s = true := fun w' h' => (List.mem_cons.mp h').elim (fun e => by rw [e]; exact h) (t w')
theorem vx_n {args : Array Value} {s : State} : ∀ w ∈ ([] : List Cond), w.before args s = true := fun _ h => nomatch h
theorem vx_own {args : Array Value} {s : State} {L : List Cond} (h1 : ∀ w ∈ L.filter vx_no, w.before args s = true)
    (hU : (Cond.isRef (.static Bundle.tN "UNASSIGNED_STACK" Bundle.steD)).before args s = true) (hN : (Cond.isRef (.static Bundle.tN "SUPPRESSED_SENTINEL" Bundle.listD)).before args s = true)
    (lU : (Cond.laysStatic Bundle.tN "UNASSIGNED_STACK" Bundle.steD).before args s = true) (lN : (Cond.laysStatic Bundle.tN "SUPPRESSED_SENTINEL" Bundle.listD).before args s = true) : ∀ w ∈ L, w.before args s = true := by
  intro w hw
  by_cases e1 : w = .isRef (.static Bundle.tN "UNASSIGNED_STACK" Bundle.steD)
  · rw [e1]; exact hU
  · by_cases e2 : w = .isRef (.static Bundle.tN "SUPPRESSED_SENTINEL" Bundle.listD)
    · rw [e2]; exact hN
    · by_cases e3 : w = .laysStatic Bundle.tN "UNASSIGNED_STACK" Bundle.steD
      · rw [e3]; exact lU
      · by_cases e4 : w = .laysStatic Bundle.tN "SUPPRESSED_SENTINEL" Bundle.listD
        · rw [e4]; exact lN
        · exact h1 w (List.mem_filter.mpr ⟨hw, by unfold vx_no; rw [decide_eq_true e1, decide_eq_true e2, decide_eq_true e3, decide_eq_true e4]; rfl⟩)
/-- where a static field lies, its class's statics cell in H -/
def vx_L (C n d : String) (A : Nat → Prop) (U : State) (H : Heap) : Prop := ∃ (c : ClassId) (k : Class) (i : Nat) (f : Field) (a : Nat) (cell : Cell), U.vm.findClass C = some c ∧ U.fieldFound? C n d = some (c, k, i, f) ∧ f.isStatic = true ∧ k.statics = some a ∧ H[a]? = some cell ∧ cell.vm.isStatics = true ∧ cell.cls = c ∧ f.slot < cell.slots.size ∧ k.staticTypes[f.slot]? = some f.type ∧ ¬ A a
theorem vx_L.moved {C n d : String} {A : Nat → Prop} {u U : State} {H : Heap} (hvm : u.vm.Alike U.vm) (h : vx_L C n d A u H) : vx_L C n d A U H := by
  obtain ⟨c, k, i, f, a, cell, h1, h2, h3, h4, h5, h6, h7, h8, h9, h10⟩ := h
  obtain ⟨k', hi', he⟩ := State.fieldFound?_setVm hvm h2
  exact ⟨c, k', i, f, a, cell, by rw [hvm.findClass]; exact h1, hi', h3, by rw [he]; exact h4, h5, h6, h7, h8, by rw [he]; exact h9, h10⟩
theorem vx_L.kept {C n d : String} {A : Nat → Prop} {U : State} {H H1 : Heap} (h : vx_L C n d A U H) (hq : ∀ a : Nat, a < H.size → ¬ A a → H1[a]? = H[a]?) : vx_L C n d A U H1 := by
  obtain ⟨c, k, i, f, a, cell, h1, h2, h3, h4, h5, h6, h7, h8, h9, h10⟩ := h
  exact ⟨c, k, i, f, a, cell, h1, h2, h3, h4, by rw [hq a (Array.getElem?_eq_some_iff.mp h5).1 h10]; exact h5, h6, h7, h8, h9, h10⟩
theorem vx_L.narrow {C n d : String} {A B : Nat → Prop} {U : State} {H : Heap} (h : vx_L C n d A U H) (hAB : ∀ q, B q → A q) : vx_L C n d B U H := by
  obtain ⟨c, k, i, f, a, cell, h1, h2, h3, h4, h5, h6, h7, h8, h9, h10⟩ := h
  exact ⟨c, k, i, f, a, cell, h1, h2, h3, h4, h5, h6, h7, h8, h9, fun z => h10 (hAB _ z)⟩
theorem vx_L.word {C n d : String} {A : Nat → Prop} {s : State} {args : Array Value} (h : vx_L C n d A s s.heap) : (Cond.laysStatic C n d).before args s = true := by
  obtain ⟨c, k, i, f, a, cell, h1, h2, h3, h4, h5, h6, h7, h8, h9, -⟩ := h
  show (Cond.laysStatic C n d).holds args s none s [] = true
  exact Cond.laysStatic_of h1 h2 h3 h4 h5 h6 h7 h8 h9
/-- .. and what it holds: null or some reference -/
def vx_Zq (C n d : String) (A : Nat → Prop) (U : State) (H : Heap) : Prop := va_Zq C n d A U H ∧ vx_L C n d A U H
theorem vx_Zq.moved {C n d : String} {A : Nat → Prop} {u U : State} {H : Heap} (hvm : u.vm.Alike U.vm) (h : vx_Zq C n d A u H) : vx_Zq C n d A U H := ⟨va_Zq.moved hvm h.1, vx_L.moved hvm h.2⟩
theorem vx_Zq.kept {C n d : String} {A : Nat → Prop} {U : State} {H H1 : Heap} (h : vx_Zq C n d A U H) (hq : ∀ a : Nat, a < H.size → ¬ A a → H1[a]? = H[a]?) : vx_Zq C n d A U H1 := ⟨va_Zq.kept h.1 hq, vx_L.kept h.2 hq⟩
theorem vx_Zq.narrow {C n d : String} {A B : Nat → Prop} {U : State} {H : Heap} (h : vx_Zq C n d A U H) (hAB : ∀ q, B q → A q) : vx_Zq C n d B U H := ⟨va_Zq.narrow h.1 hAB, vx_L.narrow h.2 hAB⟩
theorem vx_Zqof {args : Array Value} {s : State} {C n d : String} {A : Nat → Prop} (hl : (Cond.laysStatic C n d).before args s = true) (hini : (Cond.initialized C).before args s = true) (h : (Cond.isRef (.static C n d)).before args s = true) (hA : ∀ a : Nat, a < s.heap.size → ¬ A a) : vx_Zq C n d A s s.heap := by
  refine ⟨va_Zqof hl hini h hA, ?_⟩
  obtain ⟨c, k, i, f, a, cell, h1, h2, h3, h4, h5, h6, h7, h8, h9⟩ := Cond.laysStatic_spec hl
  exact ⟨c, k, i, f, a, cell, h1, h2, h3, h4, h5, h6, h7, h8, h9, hA a (Array.getElem?_eq_some_iff.mp h5).1⟩
theorem vx_isRef {C n d : String} {v : Value} {A : Nat → Prop} {s : State} {args : Array Value} (h : va_Z C n d v A s s.heap) (hv : v.isRef = true) : (Cond.isRef (.static C n d)).before args s = true := by
  obtain ⟨cf, kf, fi, f, a, cell, h1, h2, h3, h4, h5, h6, h7, -⟩ := h
  have he : (Term.static C n d).eval args s none [] s = some v := by
    simp [Term.eval, State.fieldNamed?, h1, h2, h4, h5, h6, h7]
  simp only [Cond.before, Cond.holds, Cond.value, he]
  cases v <;> simp_all [Value.isRef]
theorem vx_isRefq {C n d : String} {A : Nat → Prop} {s : State} {args : Array Value} (h : va_Zq C n d A s s.heap) : (Cond.isRef (.static C n d)).before args s = true := by
  rcases h with h | ⟨t, h⟩
  · exact vx_isRef h rfl
  · exact vx_isRef h rfl
/-- the same frame, seen from here: as if the method were called anew in this heap -/
theorem vx_rebase {T : State} (X : Stand p l e R s m args below meth c T locs cells slots) {R' : Room} (hf : R'.frames ≤ R.frames) (hl : R'.locals ≤ R.locals) (hc : cells + R'.cells ≤ R.cells) (hs : slots + R'.slots ≤ R.slots) :
    Stand p l e R' ((T.setVm s.vm).setFrames (.invoking m args :: below)) m args below meth c T [] 0 0 := by
  have htop : (T.setVm s.vm).topJava?.isSome := X.here.top
  have hF : ((T.setVm s.vm).setFrames (.invoking m args :: below)).frames = .invoking m args :: below := State.frames_setFrames _ (State.cur_lt_of_top htop)
  obtain ⟨g₀, hg0⟩ := Option.isSome_iff_exists.mp htop
  obtain ⟨r, hr⟩ := State.topJava?_eq_some.mp hg0
  have hl9 : e.platform.stackLimits (T.setVm s.vm).me = e.platform.stackLimits s.me := X.limits
  have hb9 : (T.setVm s.vm).me.stackBytes = s.me.stackBytes := X.bytes
  refine ⟨X.admits, X.cas, X.clock, hF, ?_, X.hears, X.method, X.code, X.here, X.tail, X.warmed, ?_, ?_, ?_⟩
  · have h := X.room
    have hU : ((T.setVm s.vm).setFrames (.invoking m args :: below)).localsInUse = s.localsInUse := by
      rw [State.localsInUse_invoking hF (meth := meth) (c := c) X.method X.code, State.localsInUse_invoking X.frames X.method X.code]
    simp only [State.hasRoom, Bool.and_eq_true, decide_eq_true_eq] at h ⊢
    obtain ⟨⟨⟨⟨h1, h2, h3, h4, h5, h6⟩, h7⟩, h8⟩, h9⟩ := h
    rw [X.frames, List.length_cons] at h2 h3
    have q1 := X.heapSize
    have q2 := X.used
    simp only [hF, hU, List.length_cons, State.stackLimits_setFrames, State.stackBytes_setFrames, hl9, hb9]
    refine ⟨⟨⟨⟨by omega, by omega, by omega, by omega, by omega, h6⟩, ?_⟩, ?_⟩, X.book⟩
    · show T.heap.size + R'.cells ≤ e.platform.maxCells
      omega
    · show T.slotsUsed + R'.slots ≤ e.platform.maxSlots
      omega
  · rw [State.stackLimits_setFrames]; rfl
  · rw [State.stackBytes_setFrames]; rfl
  · refine ⟨?_, Nat.le_refl _, Nat.le_refl _, ?_, ?_, fun a c9 h9 => ⟨c9, h9, rfl, rfl, fun _ _ => rfl⟩⟩
    · obtain ⟨t, ht, -⟩ := State.frames_cons hr
      show T.setVm s.vm = { ((T.setVm s.vm).setFrames (.invoking m args :: below)).setFrames (T.setVm s.vm).frames with heap := T.heap, slotsUsed := T.slotsUsed }
      rw [State.setFrames_setFrames, State.setFrames_self ht]
      rfl
    · show T.slotsUsed = T.slotsUsed + ((T.heap.toList.drop T.heap.size).map (·.slots.size)).sum
      rw [List.drop_eq_nil_of_le (Nat.le_of_eq Array.length_toList)]
      rfl
    · show ((T.heap.toList.drop T.heap.size).map (·.slots.size)).sum ≤ 0
      rw [List.drop_eq_nil_of_le (Nat.le_of_eq Array.length_toList)]
      exact Nat.le_refl _
/-- 'throw new E()': new; dup; invokespecial; athrow -/
theorem vx_throw0 {cc : ByteArray} {pc : Nat} (hexec : p.tables.exec = Jvm.exec) (hb : c.code = cc) (hl : l.stackTraces = false) {own cls : String} {names : List String} {ik ic mc ms : Nat} {A : Nat → Prop}
    (hown : s.vm.findClass own = some m.cls) (hcls : Bundle.fit cls = true) (hnames : ∀ n ∈ names, Bundle.fit n = true)
    (hk : (Cond.classLink own ik cls).before args s = true) (hini : (Cond.initialized cls).before args s = true) (hat : ∀ w ∈ vx_at0 own ic cls names, w.before args s = true)
    (hgood : ∀ w ∈ Cond.classLink own ik cls :: Cond.initialized cls :: vx_at0 own ic cls names, vx_ot w = true)
    (hU : vx_Zq Bundle.tN "UNASSIGNED_STACK" Bundle.steD A s s.heap) (hN : vx_Zq Bundle.tN "SUPPRESSED_SENTINEL" Bundle.listD A s s.heap) (hS : va_S A s.heap H locs) (hsize : ls.size = c.maxLocals)
    (d0 : decode cc pc = .ok (.new ik, 3)) (d3 : decode cc (pc + 3) = .ok (.dup, 1)) (d4 : decode cc (pc + 4) = .ok (.invokespecial ic, 3)) (d7 : decode cc (pc + 7) = .ok (.athrow, 1))
    (hout : ∀ x ∈ c.exceptionTable.toList, covers x (pc + 7) = false)
    (hRframes : names.length + 3 < R.frames) (hRlocals : (rest.map fun v => v.category).sum + (13 * (names.length + 1) + 42) ≤ R.locals) (hRcells : cells + 1 ≤ R.cells) (hRslots : slots + 6 ≤ R.slots) (hlocks : meth.locks = false)
    (hx : ∀ t : State, s.vm.Alike t.vm → H.size ≤ t.heap.size → (∀ q : Nat, q < H.size → t.heap[q]? = H[q]?) → XC cls s t)
    (hf : ∀ z ∈ locs, free z.base) (hc : cells + 1 ≤ mc) (hs : slots + 6 ≤ ms) :
    W p l e R s m args below meth c H locs cells slots (vx_MQ below Qc XC args s mc ms free) (F0 m pc ls rest) := by
  intro T hT X
  have htr : e.platform.stackTraces = false := (show e.platform.stackTraces = l.stackTraces by rw [X.admits.platform]).trans hl
  have Y := vx_rebase X (R' := { frames := R.frames, locals := R.locals, cells := 1, slots := 6 }) (Nat.le_refl _) (Nat.le_refl _) hRcells hRslots
  obtain ⟨s', hA⟩ : ∃ z, z = (T.setVm s.vm).setFrames (.invoking m args :: below) := ⟨_, rfl⟩
  rw [← hA] at Y
  have hvm : s'.vm = s.vm := by rw [hA]; rfl
  have hhp : s'.heap = H := by rw [hA]; exact hT
  have hW0 : s.WarmedH s'.vm := by rw [hvm]; exact State.WarmedH.refl s
  have hat' : ∀ w ∈ vx_at0 own ic cls names, w.before args s' = true := fun w hw => vx_ot_at hW0 hvm.symm (hgood w (List.mem_cons_of_mem _ (List.mem_cons_of_mem _ hw))) (hat w hw)
  have hk' : (Cond.classLink own ik cls).before args s' = true := vx_ot_at hW0 hvm.symm (hgood _ List.mem_cons_self) hk
  have hini' : (Cond.initialized cls).before args s' = true := vx_ot_at hW0 hvm.symm (hgood _ (List.mem_cons_of_mem _ List.mem_cons_self)) hini
  have hU' : vx_Zq Bundle.tN "UNASSIGNED_STACK" Bundle.steD A s' s'.heap := by rw [hhp]; exact vx_Zq.moved hW0.alike (hU.kept hS.2.1)
  have hN' : vx_Zq Bundle.tN "SUPPRESSED_SENTINEL" Bundle.listD A s' s'.heap := by rw [hhp]; exact vx_Zq.moved hW0.alike (hN.kept hS.2.1)
  have h : ∀ w ∈ Bundle.ownAtoms0 own ic cls names, w.before args s' = true := vx_own hat' (vx_isRefq hU'.1) (vx_isRefq hN'.1) hU'.2.word hN'.2.word
  have hown' : s'.vm.findClass own = some m.cls := by rw [hvm]; exact hown
  have hins : (Cond.instantiable cls 6).before args s' = true := h _ (by simp [Bundle.ownAtoms0])
  obtain ⟨vm₁, cX, kX, hfX, hkX, -, -, X₁, st1⟩ := Y.newCold hexec (own := own) (C := cls) (index := ik) (n := 6) hown' hk' hins hini'
    (g := F0 m pc ls rest) rfl (by rw [hb]; exact d0) (Nat.le_refl _) (Nat.le_refl _)
  generalize hT1 : (T.setVm vm₁).pushCell { cls := cX, slots := kX.instanceTypes.map defaultValue, vm := .none } = T1 at X₁ st1
  have hcat : (Value.ref T.heap.size).category = 1 := rfl
  have hcellA : T1.heap[T.heap.size]? = some (freshCell cX kX) := by rw [← hT1]; exact State.heap_pushCell_size _ _
  have d3' : decode c.code (pc + 3) = .ok (.dup, 1) := by rw [hb]; exact d3
  obtain ⟨U, hsteps, hrun, hend, hW, hsame, ce, hce, hO⟩ := X₁.ctorThrow0 hexec htr (own := own) (cls := cls) (names := names) (ic := ic) hown' hcls hnames h (fun x hx => nomatch hx) hfX hkX hcellA (by rw [hhp, hT]; exact Nat.le_refl _)
    (g := { method := m, pc := pc + 4, locals := ls, stack := .ref T.heap.size :: .ref T.heap.size :: rest, locked := none }) rfl hsize rfl rfl (rest := rest) rfl
    (by rw [hb]; exact d4) (by rw [hb]; exact d7) hout hRframes (by simp only [List.map_cons, List.sum_cons, hcat]; omega) hlocks
  obtain ⟨f1, f2⟩ := vx_frame hsame
  rw [hhp] at f1 f2
  have hWs : s.WarmedH U.vm := State.WarmedH.trans hW0 hW
  have hcl : s.vm.findClass cls = some ce.cls := by
    have h9 := hO.cls
    rw [hvm] at h9
    exact h9
  have hall : s.sameButNew ({ U with vm := s.vm } : State) locs mc ms := by
    subst hA
    obtain ⟨e1, e2⟩ := hsame
    rw [State.setFrames_setFrames] at e1
    have h2 : (T.setVm s.vm).sameButNew ({ U with vm := s.vm } : State) [] (0 + 1) (0 + 6) := ⟨e1, e2⟩
    have h3 := X.same.trans h2
    rw [List.append_nil] at h3
    exact h3.mono hc hs
  refine ⟨U, ?_, .threw T.heap.size, hrun, hend, Or.inr ⟨T.heap.size, rfl, cls, ce, locs, hx U hWs.alike f1 (fun q hq => f2 q hq (fun z hz => nomatch hz)), hce, hO.vm, hcl, hWs, hall, hf⟩⟩
  refine st1 _ ?_
  show Steps p.tables e below (T1.setTop { method := m, pc := pc + 3, locals := ls, stack := .ref T.heap.size :: rest, locked := none }) _
  jvm_step X₁.here [X₁.here.top, hexec, d3', Value.category]
  exact hsteps
/-- 'throw new E("text")': new; dup; ldc; invokespecial; athrow -/
theorem vx_throwS {cc : ByteArray} {pc : Nat} (hexec : p.tables.exec = Jvm.exec) (hb : c.code = cc) (hl : l.stackTraces = false) {own cls text : String} {names : List String} {ik is ic mc ms sa : Nat} {A : Nat → Prop}
    (hown : s.vm.findClass own = some m.cls) (hcls : Bundle.fit cls = true) (hnames : ∀ n ∈ names, Bundle.fit n = true)
    (hk : (Cond.classLink own ik cls).before args s = true) (hini : (Cond.initialized cls).before args s = true) (hstr : vk_R own is text sa s) (hat : ∀ w ∈ vx_atS own ic cls names, w.before args s = true)
    (hgood : ∀ w ∈ Cond.classLink own ik cls :: Cond.initialized cls :: vx_atS own ic cls names, vx_ot w = true)
    (hU : vx_Zq Bundle.tN "UNASSIGNED_STACK" Bundle.steD A s s.heap) (hN : vx_Zq Bundle.tN "SUPPRESSED_SENTINEL" Bundle.listD A s s.heap) (hS : va_S A s.heap H locs) (hsize : ls.size = c.maxLocals)
    (d0 : decode cc pc = .ok (.new ik, 3)) (d3 : decode cc (pc + 3) = .ok (.dup, 1)) (d4 : decode cc (pc + 4) = .ok (.ldc is, 2)) (d6 : decode cc (pc + 6) = .ok (.invokespecial ic, 3)) (d9 : decode cc (pc + 9) = .ok (.athrow, 1))
    (hout : ∀ x ∈ c.exceptionTable.toList, covers x (pc + 9) = false)
    (hRframes : names.length + 3 < R.frames) (hRlocals : (rest.map fun v => v.category).sum + (13 * (names.length + 1) + 43) ≤ R.locals) (hRcells : cells + 1 ≤ R.cells) (hRslots : slots + 6 ≤ R.slots) (hlocks : meth.locks = false)
    (hx : ∀ t : State, s.vm.Alike t.vm → H.size ≤ t.heap.size → (∀ q : Nat, q < H.size → t.heap[q]? = H[q]?) → XC cls s t)
    (hf : ∀ z ∈ locs, free z.base) (hc : cells + 1 ≤ mc) (hs : slots + 6 ≤ ms) :
    W p l e R s m args below meth c H locs cells slots (vx_MQ below Qc XC args s mc ms free) (F0 m pc ls rest) := by
  intro T hT X
  have htr : e.platform.stackTraces = false := (show e.platform.stackTraces = l.stackTraces by rw [X.admits.platform]).trans hl
  have Y := vx_rebase X (R' := { frames := R.frames, locals := R.locals, cells := 1, slots := 6 }) (Nat.le_refl _) (Nat.le_refl _) hRcells hRslots
  obtain ⟨s', hA⟩ : ∃ z, z = (T.setVm s.vm).setFrames (.invoking m args :: below) := ⟨_, rfl⟩
  rw [← hA] at Y
  have hvm : s'.vm = s.vm := by rw [hA]; rfl
  have hhp : s'.heap = H := by rw [hA]; exact hT
  have hW0 : s.WarmedH s'.vm := by rw [hvm]; exact State.WarmedH.refl s
  have hat' : ∀ w ∈ vx_atS own ic cls names, w.before args s' = true := fun w hw => vx_ot_at hW0 hvm.symm (hgood w (List.mem_cons_of_mem _ (List.mem_cons_of_mem _ hw))) (hat w hw)
  have hk' : (Cond.classLink own ik cls).before args s' = true := vx_ot_at hW0 hvm.symm (hgood _ List.mem_cons_self) hk
  have hini' : (Cond.initialized cls).before args s' = true := vx_ot_at hW0 hvm.symm (hgood _ (List.mem_cons_of_mem _ List.mem_cons_self)) hini
  have hU' : vx_Zq Bundle.tN "UNASSIGNED_STACK" Bundle.steD A s' s'.heap := by rw [hhp]; exact vx_Zq.moved hW0.alike (hU.kept hS.2.1)
  have hN' : vx_Zq Bundle.tN "SUPPRESSED_SENTINEL" Bundle.listD A s' s'.heap := by rw [hhp]; exact vx_Zq.moved hW0.alike (hN.kept hS.2.1)
  have h : ∀ w ∈ Bundle.ownAtoms own ic cls names, w.before args s' = true := vx_own hat' (vx_isRefq hU'.1) (vx_isRefq hN'.1) hU'.2.word hN'.2.word
  have hown' : s'.vm.findClass own = some m.cls := by rw [hvm]; exact hown
  have hins : (Cond.instantiable cls 6).before args s' = true := h _ (by simp [Bundle.ownAtoms])
  obtain ⟨vm₁, cX, kX, hfX, hkX, -, -, X₁, st1⟩ := Y.newCold hexec (own := own) (C := cls) (index := ik) (n := 6) hown' hk' hins hini'
    (g := F0 m pc ls rest) rfl (by rw [hb]; exact d0) (Nat.le_refl _) (Nat.le_refl _)
  generalize hT1 : (T.setVm vm₁).pushCell { cls := cX, slots := kX.instanceTypes.map defaultValue, vm := .none } = T1 at X₁ st1
  have hcat : (Value.ref T.heap.size).category = 1 := rfl
  have hcellA : T1.heap[T.heap.size]? = some (freshCell cX kX) := by rw [← hT1]; exact State.heap_pushCell_size _ _
  have d3' : decode c.code (pc + 3) = .ok (.dup, 1) := by rw [hb]; exact d3
  have d4' : decode c.code (pc + 4) = .ok (.ldc is, 2) := by rw [hb]; exact d4
  have hstr' : vk_R own is text sa s' := vk_R.warm hW0 hstr
  obtain ⟨U, hsteps, hrun, hend, hW, hsame, ce, hce, hO⟩ := X₁.ctorThrowS hexec htr (own := own) (cls := cls) (names := names) (ic := ic) hown' hcls hnames h (fun x hx => nomatch hx) hfX hkX hcellA (by rw [hhp, hT]; exact Nat.le_refl _) (msg := .ref sa) rfl
    (g := { method := m, pc := pc + 6, locals := ls, stack := .ref sa :: .ref T.heap.size :: .ref T.heap.size :: rest, locked := none }) rfl hsize rfl rfl (rest := rest) rfl
    (by rw [hb]; exact d6) (by rw [hb]; exact d9) hout hRframes (by simp only [List.map_cons, List.sum_cons, hcat]; omega) hlocks
  obtain ⟨f1, f2⟩ := vx_frame hsame
  rw [hhp] at f1 f2
  have hWs : s.WarmedH U.vm := State.WarmedH.trans hW0 hW
  have hcl : s.vm.findClass cls = some ce.cls := by
    have h9 := hO.cls
    rw [hvm] at h9
    exact h9
  have hall : s.sameButNew ({ U with vm := s.vm } : State) locs mc ms := by
    subst hA
    obtain ⟨e1, e2⟩ := hsame
    rw [State.setFrames_setFrames] at e1
    have h2 : (T.setVm s.vm).sameButNew ({ U with vm := s.vm } : State) [] (0 + 1) (0 + 6) := ⟨e1, e2⟩
    have h3 := X.same.trans h2
    rw [List.append_nil] at h3
    exact h3.mono hc hs
  refine ⟨U, ?_, .threw T.heap.size, hrun, hend, Or.inr ⟨T.heap.size, rfl, cls, ce, locs, hx U hWs.alike f1 (fun q hq => f2 q hq (fun z hz => nomatch hz)), hce, hO.vm, hcl, hWs, hall, hf⟩⟩
  refine st1 _ ?_
  show Steps p.tables e below (T1.setTop { method := m, pc := pc + 3, locals := ls, stack := .ref T.heap.size :: rest, locked := none }) _
  jvm_step X₁.here [X₁.here.top, hexec, d3', Value.category]
  exact X₁.ldcString hexec (own := own) (text := text) (index := is) (a := sa) hown' hstr'.1 hstr'.2
    (g := { method := m, pc := pc + 4, locals := ls, stack := .ref T.heap.size :: .ref T.heap.size :: rest, locked := none }) rfl d4' _ hsteps
/-- 'throw new E("text")', the text by a wide index -/
theorem vx_throwSW {cc : ByteArray} {pc : Nat} (hexec : p.tables.exec = Jvm.exec) (hb : c.code = cc) (hl : l.stackTraces = false) {own cls text : String} {names : List String} {ik is ic mc ms sa : Nat} {A : Nat → Prop}
    (hown : s.vm.findClass own = some m.cls) (hcls : Bundle.fit cls = true) (hnames : ∀ n ∈ names, Bundle.fit n = true)
    (hk : (Cond.classLink own ik cls).before args s = true) (hini : (Cond.initialized cls).before args s = true) (hstr : vk_R own is text sa s) (hat : ∀ w ∈ vx_atS own ic cls names, w.before args s = true)
    (hgood : ∀ w ∈ Cond.classLink own ik cls :: Cond.initialized cls :: vx_atS own ic cls names, vx_ot w = true)
    (hU : vx_Zq Bundle.tN "UNASSIGNED_STACK" Bundle.steD A s s.heap) (hN : vx_Zq Bundle.tN "SUPPRESSED_SENTINEL" Bundle.listD A s s.heap) (hS : va_S A s.heap H locs) (hsize : ls.size = c.maxLocals)
    (d0 : decode cc pc = .ok (.new ik, 3)) (d3 : decode cc (pc + 3) = .ok (.dup, 1)) (d4 : decode cc (pc + 4) = .ok (.ldc_w is, 3)) (d7 : decode cc (pc + 7) = .ok (.invokespecial ic, 3)) (d10 : decode cc (pc + 10) = .ok (.athrow, 1))
    (hout : ∀ x ∈ c.exceptionTable.toList, covers x (pc + 10) = false)
    (hRframes : names.length + 3 < R.frames) (hRlocals : (rest.map fun v => v.category).sum + (13 * (names.length + 1) + 43) ≤ R.locals) (hRcells : cells + 1 ≤ R.cells) (hRslots : slots + 6 ≤ R.slots) (hlocks : meth.locks = false)
    (hx : ∀ t : State, s.vm.Alike t.vm → H.size ≤ t.heap.size → (∀ q : Nat, q < H.size → t.heap[q]? = H[q]?) → XC cls s t)
    (hf : ∀ z ∈ locs, free z.base) (hc : cells + 1 ≤ mc) (hs : slots + 6 ≤ ms) :
    W p l e R s m args below meth c H locs cells slots (vx_MQ below Qc XC args s mc ms free) (F0 m pc ls rest) := by
  intro T hT X
  have htr : e.platform.stackTraces = false := (show e.platform.stackTraces = l.stackTraces by rw [X.admits.platform]).trans hl
  have Y := vx_rebase X (R' := { frames := R.frames, locals := R.locals, cells := 1, slots := 6 }) (Nat.le_refl _) (Nat.le_refl _) hRcells hRslots
  obtain ⟨s', hA⟩ : ∃ z, z = (T.setVm s.vm).setFrames (.invoking m args :: below) := ⟨_, rfl⟩
  rw [← hA] at Y
  have hvm : s'.vm = s.vm := by rw [hA]; rfl
  have hhp : s'.heap = H := by rw [hA]; exact hT
  have hW0 : s.WarmedH s'.vm := by rw [hvm]; exact State.WarmedH.refl s
  have hat' : ∀ w ∈ vx_atS own ic cls names, w.before args s' = true := fun w hw => vx_ot_at hW0 hvm.symm (hgood w (List.mem_cons_of_mem _ (List.mem_cons_of_mem _ hw))) (hat w hw)
  have hk' : (Cond.classLink own ik cls).before args s' = true := vx_ot_at hW0 hvm.symm (hgood _ List.mem_cons_self) hk
  have hini' : (Cond.initialized cls).before args s' = true := vx_ot_at hW0 hvm.symm (hgood _ (List.mem_cons_of_mem _ List.mem_cons_self)) hini
  have hU' : vx_Zq Bundle.tN "UNASSIGNED_STACK" Bundle.steD A s' s'.heap := by rw [hhp]; exact vx_Zq.moved hW0.alike (hU.kept hS.2.1)
  have hN' : vx_Zq Bundle.tN "SUPPRESSED_SENTINEL" Bundle.listD A s' s'.heap := by rw [hhp]; exact vx_Zq.moved hW0.alike (hN.kept hS.2.1)
  have h : ∀ w ∈ Bundle.ownAtoms own ic cls names, w.before args s' = true := vx_own hat' (vx_isRefq hU'.1) (vx_isRefq hN'.1) hU'.2.word hN'.2.word
  have hown' : s'.vm.findClass own = some m.cls := by rw [hvm]; exact hown
  have hins : (Cond.instantiable cls 6).before args s' = true := h _ (by simp [Bundle.ownAtoms])
  obtain ⟨vm₁, cX, kX, hfX, hkX, -, -, X₁, st1⟩ := Y.newCold hexec (own := own) (C := cls) (index := ik) (n := 6) hown' hk' hins hini'
    (g := F0 m pc ls rest) rfl (by rw [hb]; exact d0) (Nat.le_refl _) (Nat.le_refl _)
  generalize hT1 : (T.setVm vm₁).pushCell { cls := cX, slots := kX.instanceTypes.map defaultValue, vm := .none } = T1 at X₁ st1
  have hcat : (Value.ref T.heap.size).category = 1 := rfl
  have hcellA : T1.heap[T.heap.size]? = some (freshCell cX kX) := by rw [← hT1]; exact State.heap_pushCell_size _ _
  have d3' : decode c.code (pc + 3) = .ok (.dup, 1) := by rw [hb]; exact d3
  have d4' : decode c.code (pc + 4) = .ok (.ldc_w is, 3) := by rw [hb]; exact d4
  have hstr' : vk_R own is text sa s' := vk_R.warm hW0 hstr
  obtain ⟨U, hsteps, hrun, hend, hW, hsame, ce, hce, hO⟩ := X₁.ctorThrowS hexec htr (own := own) (cls := cls) (names := names) (ic := ic) hown' hcls hnames h (fun x hx => nomatch hx) hfX hkX hcellA (by rw [hhp, hT]; exact Nat.le_refl _) (msg := .ref sa) rfl
    (g := { method := m, pc := pc + 7, locals := ls, stack := .ref sa :: .ref T.heap.size :: .ref T.heap.size :: rest, locked := none }) rfl hsize rfl rfl (rest := rest) rfl
    (by rw [hb]; exact d7) (by rw [hb]; exact d10) hout hRframes (by simp only [List.map_cons, List.sum_cons, hcat]; omega) hlocks
  obtain ⟨f1, f2⟩ := vx_frame hsame
  rw [hhp] at f1 f2
  have hWs : s.WarmedH U.vm := State.WarmedH.trans hW0 hW
  have hcl : s.vm.findClass cls = some ce.cls := by
    have h9 := hO.cls
    rw [hvm] at h9
    exact h9
  have hall : s.sameButNew ({ U with vm := s.vm } : State) locs mc ms := by
    subst hA
    obtain ⟨e1, e2⟩ := hsame
    rw [State.setFrames_setFrames] at e1
    have h2 : (T.setVm s.vm).sameButNew ({ U with vm := s.vm } : State) [] (0 + 1) (0 + 6) := ⟨e1, e2⟩
    have h3 := X.same.trans h2
    rw [List.append_nil] at h3
    exact h3.mono hc hs
  refine ⟨U, ?_, .threw T.heap.size, hrun, hend, Or.inr ⟨T.heap.size, rfl, cls, ce, locs, hx U hWs.alike f1 (fun q hq => f2 q hq (fun z hz => nomatch hz)), hce, hO.vm, hcl, hWs, hall, hf⟩⟩
  refine st1 _ ?_
  show Steps p.tables e below (T1.setTop { method := m, pc := pc + 3, locals := ls, stack := .ref T.heap.size :: rest, locked := none }) _
  jvm_step X₁.here [X₁.here.top, hexec, d3', Value.category]
  exact X₁.ldcStringW hexec (own := own) (text := text) (index := is) (a := sa) hown' hstr'.1 hstr'.2
    (g := { method := m, pc := pc + 4, locals := ls, stack := .ref T.heap.size :: .ref T.heap.size :: rest, locked := none }) rfl d4' _ hsteps
end Ends
section Bodies
variable {l : Launch}
theorem vx_ofW {y : MethodName} {ws ws' : List Cond} {rm : Room} {Pc : Array Value → State → Prop} {Qc : Array Value → State → Outcome → State → Prop} {XC : String → State → State → Prop} {mc ms : Nat} {free : Addr → Prop} {cc : ByteArray} {maxL : Nat} {ret : Option FieldType}
    (hy : plainName y.cls = true) (hw : ws = Cond.code y cc maxL ret :: ws')
    (body : ∀ p e s m args below meth c s₁, BodyLoose p l y (headSpec ws rm) cc maxL ret e s m args below meth c s₁ → c.maxLocals = maxL → (∀ x ∈ c.exceptionTable.toList, False) → Pc args s →
      W p l e (headSpec ws rm).room s m args below meth c s.heap [] 0 0 (vx_MQ below Qc XC args s mc ms free) (entryFrame m args maxL)) : vx_Met l y ws rm Pc Qc XC mc ms free := by
  refine MetFree.of_bodyS (code := cc) (maxLocals := maxL) (ret := ret) hy ?_ ?_
  · intro args s m h hn
    obtain ⟨meth, c, h1, h2, h3, h4, h5, h6, -, -⟩ := Cond.code_spec hn (atoms_spec (ws := ws) h _ (by rw [hw]; exact List.mem_cons_self))
    exact ⟨meth, c, h1, h2, h3, h4, h5, h6⟩
  · intro p e s m args below meth c s₁ B hml hP _
    have hh0 : s₁.heap = s.heap := by rw [B.state]; rfl
    have ht : ∀ x ∈ c.exceptionTable.toList, False := by
      obtain ⟨meth9, c9, h1, h2, -, -, -, -, h7, -⟩ := Cond.code_spec B.named (atoms_spec (ws := ws) B.pre _ (by rw [hw]; exact List.mem_cons_self))
      cases Option.some.inj (h1.symm.trans B.method)
      cases Option.some.inj (h2.symm.trans (Stand.of_body B).code)
      intro x hx
      rw [Array.isEmpty_iff.mp h7] at hx
      cases hx
    obtain ⟨t, a1, o, b1, b2, b3⟩ := body p e s m args below meth c s₁ B hml ht hP s₁ hh0 (Stand.of_body B)
    exact ⟨t, o, a1, b1, b2, b3⟩
/-- the table of a body with handlers -/
theorem vx_table {p : Program} {x y : MethodName} {S : Spec} {cc bytes : ByteArray} {maxL maxL' : Nat} {ret ret' : Option FieldType} {e : Env} {s s₁ : State} {m : MethodId} {args : Array Value} {below : List Frame} {meth : Method} {c : Code} {hh : List (Nat × Nat × Nat × Nat)}
    (B : BodyLoose p l y S cc maxL ret e s m args below meth c s₁) (h : (Cond.codeWith y bytes maxL' ret' hh).before args s = true) : c.exceptionTable.toList = tableOf hh := by
  obtain ⟨m9, meth9, c9, hn9, h1, h2, -, -, h6, -⟩ := Cond.codeWith_spec h
  cases Option.some.inj (hn9.symm.trans B.named)
  cases Option.some.inj (h1.symm.trans B.method)
  cases Option.some.inj (h2.symm.trans (Stand.of_body B).code)
  rw [← h6, table_eq]
end Bodies
end VXA
/-! ===== END ===== -/
/-! ===== BEGIN a static call of a method with an exception table ===== -/
section VXS
variable {p : Program} {l : Launch} {e : Env} {R : Room} {s : State} {m : MethodId} {args : Array Value} {below : List Frame} {meth : Method} {c : Code} {T : State} {H : Heap} {locs : List Loc} {cells slots : Nat}
abbrev vx_CSW (R : Room) (s : State) (args : Array Value) (own : String) (index : Nat) (y : MethodName) (bytes : ByteArray) (maxL : Nat) (ret : Option FieldType) (hh : List (Nat × Nat × Nat × Nat)) (ws : List Cond) (rm : Room) (mc ms n : Nat) : Prop :=
  (rm.cells = mc ∧ rm.slots = ms ∧ rm.frames + 1 ≤ R.frames ∧ 8 + (maxL + 11) + rm.locals ≤ R.locals ∧ (∀ w ∈ ws, ∀ (a' : Array Value) (U : State), s.WarmedH U.vm → w.before a' U = true) ∧ Cond.codeWith y bytes maxL ret hh ∈ ws) ∧
  (Cond.codeWith y bytes maxL ret hh).before args s = true ∧ (Cond.initialized y.cls).before args s = true ∧ (y.cls ≠ "java/lang/invoke/MethodHandle" ∧ y.cls ≠ "java/lang/invoke/VarHandle") ∧
  (∀ sig, parseMethodDescriptor y.desc = some sig → n = sig.parameters.length) ∧ (Cond.methodLink own index y).before args s = true ∧ (Cond.static y).before args s = true
theorem vx_cwSW {own : String} {index maxL mc ms : Nat} {y : MethodName} {bytes : ByteArray} {ret : Option FieldType} {hh : List (Nat × Nat × Nat × Nat)} {Ts ws ws' : List Cond} {rm : Room} (n : Nat) (ht : ∀ w ∈ Ts, w.before args s = true) (hT : GoodIn Ts (va_wsS own index y ws)) (hw : ws = Cond.codeWith y bytes maxL ret hh :: ws') (hrc : rm.cells = mc) (hrs : rm.slots = ms)
    (hd : y.cls ≠ "java/lang/invoke/MethodHandle" ∧ y.cls ≠ "java/lang/invoke/VarHandle" ∧ (parseMethodDescriptor y.desc).map (fun d => d.parameters.length) = some n) (hR : rm.frames + 1 ≤ R.frames ∧ 8 + (maxL + 11) + rm.locals ≤ R.locals) :
    vx_CSW R s args own index y bytes maxL ret hh ws rm mc ms n := by
  have ok : ∀ w ∈ va_wsS own index y ws, w.before args s = true := fun w h => ht w (hT w h).1
  have hG : GoodIn Ts ws := fun w h => hT w (by unfold va_wsS; exact List.mem_append_right _ h)
  have hc : Cond.codeWith y bytes maxL ret hh ∈ ws := by rw [hw]; exact List.mem_cons_self
  refine ⟨⟨hrc, hrs, hR.1, hR.2, pay_in ht hG, hc⟩, ht _ (hG _ hc).1, ok _ (by simp [va_wsS]), ⟨hd.1, hd.2.1⟩, fun sig h => ?_, ok _ (by simp [va_wsS]), ok _ (by simp [va_wsS])⟩
  have h2 := hd.2.2
  rw [h] at h2
  exact (Option.some.inj h2).symm
theorem vx_callSW (X : Stand p l e R s m args below meth c T locs cells slots) (hexec : p.tables.exec = Jvm.exec) {own : String} {index : Nat} {y : MethodName} {bytes : ByteArray} {maxL : Nat} {ret : Option FieldType} {hh : List (Nat × Nat × Nat × Nat)}
    (hown : s.vm.findClass own = some m.cls) (hlink : (Cond.methodLink own index y).before args s = true) (hstat : (Cond.static y).before args s = true) (hinit : (Cond.initialized y.cls).before args s = true)
    (hcode : (Cond.codeWith y bytes maxL ret hh).before args s = true) (hy : y.cls ≠ "java/lang/invoke/MethodHandle" ∧ y.cls ≠ "java/lang/invoke/VarHandle")
    {W9 : Nat} {Pre : Pt → Array Value → Prop} {Post : Pt → Array Value → Option Value → Pt → Prop} (hK : Back l R p e below s args y 3 W9 Pre Post)
    {g : JFrame} (hg : g.method = m) (hsize : g.locals.size = c.maxLocals) {argsL rest : List Value} (hlen : ∀ sig, parseMethodDescriptor y.desc = some sig → argsL.length = sig.parameters.length)
    (hstack : g.stack = argsL.reverse ++ rest) (hW : 2 * g.monitorRoom + (rest.map fun v => v.category).sum ≤ W9) (hdg : decode c.code g.pc = .ok (.invokestatic index, 3))
    (hpre : ∀ vm₁, s.WarmedH vm₁ → Pre ⟨T.setVm vm₁, locs, cells, slots⟩ argsL.toArray) :
    ∃ (v : Option Value) (vm₁ : Vm) (B : Pt), s.WarmedH vm₁ ∧ Stand p l e R s m args below meth c B.U B.locs B.cells B.slots ∧ Post ⟨T.setVm vm₁, locs, cells, slots⟩ argsL.toArray v B ∧
      ∀ target, Steps p.tables e below (B.U.setTop { g with pc := g.pc + 3, stack := v.toList ++ rest }) target → Steps p.tables e below (T.setTop g) target := by
  obtain ⟨mk, methM, cM, hnamed, hmethM, -, -, -, -, -, -, hsigM⟩ := Cond.codeWith_spec hcode
  have hstatic : methM.isStatic = true := Cond.static_spec hnamed hmethM hstat
  obtain ⟨kP, hkP, -⟩ := className_of_methodNamed hnamed
  have hinitP : kP.init = .initialized := Cond.initialized_spec (findClass_of_methodNamed hnamed) hkP hinit
  obtain ⟨vm₁, X₁, hstep₁⟩ := X.invokestatic hexec hown hlink hnamed hmethM hstatic hkP hinitP hy (g := g) hg (argsL := argsL) (rest := rest) (hlen _ hsigM) hstack hdg
  obtain ⟨v, B, X', hpost, hsteps⟩ := hK m meth c ⟨T.setVm vm₁, locs, cells, slots⟩ { g with stack := rest } (.invokestatic index) mk argsL.toArray X₁ hg hsize hdg hW (X₁.named hnamed) (hpre vm₁ X₁.warmed)
  exact ⟨v, vm₁, B, X₁.warmed, X', hpost, fun target h => hstep₁ _ fun acts => by rw [doInvoke_state]; exact hsteps.trans h⟩
theorem vx_runSW {y : MethodName} {bytes cc : ByteArray} {maxL nL mc ms n index : Nat} {ret : Option FieldType} {hh : List (Nat × Nat × Nat × Nat)} {ws : List Cond} {rm : Room} {Pc : Array Value → State → Prop} {Qc : Array Value → State → Outcome → State → Prop} {free : Addr → Prop} {Ts : List Cond} {own : String} {As rest : List Value} {g : JFrame}
    (S : CallFix p m c cc nL s args Ts own) (hM : Met l y ws rm Pc Qc mc ms free) (cw : vx_CSW R s args own index y bytes maxL ret hh ws rm mc ms n) (hp : PreS s H Pc As)
    (hg : g.method = m) (hn : As.length = n) (hsize : g.locals.size = nL) (hstack : g.stack = As.reverse ++ rest) (hW : 2 * g.monitorRoom + (rest.map fun v => v.category).sum ≤ 8) (hdg : decode cc g.pc = .ok (.invokestatic index, 3)) (hf : cells + mc ≤ R.cells ∧ slots + ms ≤ R.slots) :
    va_Run p l e R s m args below meth c H locs cells slots mc ms g rest (Qc As.toArray) (free) := by
  obtain ⟨⟨hrc, hrs, hfr, hlo, hws, hcw⟩, hcode, hini, hy, hlen, hl, hstt⟩ := cw
  have hK : Back l R p e below s args y 3 8 (PreOf R mc ms Pc) (PostOf Qc mc ms free) := va_backW (hh := hh) (bytes := bytes) (maxL := maxL) (ret := ret) hM hp.1 hrc hrs hfr hlo hws hcw (fun a' U hW => word_at hW (Or.inl (by first | rfl | simp [Cond.onTables, Cond.keeps, Cond.steady])) hini)
  obtain ⟨hx, hb, hml, ho, -⟩ := S
  intro T hT X
  obtain ⟨v, vm₁, ⟨U', l2, c2, s2⟩, hW₁, X', ⟨g', mk, t, L, e1, e2, hq, h1, hL, h2, h3⟩, st⟩ := vx_callSW X hx (hh := hh) (bytes := bytes) (maxL := maxL) (ret := ret) ho hl hstt hini hcode hy hK hg (hsize.trans hml.symm) (argsL := As) (rest := rest) (fun sig h => hn.trans (hlen sig h)) hstack hW (by rw [hb]; exact hdg)
    (fun vm₁ hW₁ => ⟨hf.1, hf.2, hp.2 (T.setVm vm₁) hT hW₁⟩)
  dsimp only [Pt.U, Pt.locs, Pt.cells, Pt.slots] at X' e1 e2 h1 h2 h3 st
  subst h1; subst h2; subst h3
  exact ⟨v, (T.setVm vm₁).calling g' mk As.toArray, t, U', L, hT, X', hL, e1, e2, hq, st⟩
/-- not caught here, past rows that name other classes: it goes on to the caller -/
theorem vx_outP {p : Program} {l : Launch} {e : Env} {R : Room} {s : State} {m : MethodId} {args : Array Value} {below : List Frame} {meth : Method} {c : Code} {H : Heap} {locs : List Loc} {cells slots : Nat} {free : Addr → Prop} {ls : Array Slot} {rest : List Value} {Qc : Array Value → State → Outcome → State → Prop} {XC : String → State → State → Prop}
    {pc : Nat} {own E : String} {ce : Cell} {q : Addr} {mc ms : Nat} (hown : s.vm.findClass own = some m.cls) (hlocks : meth.locks = false)
    (hpass : ∀ z ∈ c.exceptionTable.toList, covers z pc = false ∨ (z.catchType ≠ 0 ∧ ∃ nm : String, (Cond.classLink own z.catchType nm).before args s = true ∧ va_Nc E nm s)) (hcell : H[q]? = some ce) (hv : ce.vm = .none) (hcl : s.vm.findClass E = some ce.cls)
    (hx : ∀ t : State, t.heap = H → s.vm.Alike t.vm → XC E s t) (hf : ∀ z ∈ locs, free z.base) (hc : cells ≤ mc) (hs : slots ≤ ms) :
    vx_W p l e R s m args below meth c H locs cells slots (vx_MQ below Qc XC args s mc ms free) (F0 m pc ls rest) q := by
  intro T hT X
  have hpl : e.platform.magicAccessors = ({} : Platform).magicAccessors := by rw [X.admits.platform]
  obtain ⟨vm', hW', X', st⟩ := X.outThrough hlocks q (g := F0 m pc ls rest) rfl rfl rfl (cell := ce) (by rw [hT]; exact hcell) (by rw [hv]; rfl)
    (by obtain ⟨k9, h9, -⟩ := Vm.findClass_spec hcl; exact ⟨k9, h9⟩) (fun z hz => by
      rcases hpass z hz with h | ⟨hz0, nm, hl1, hn1⟩
      · exact Or.inl h
      · obtain ⟨c6, hc6, hcl6⟩ := Cond.classLink_spec hown hl1 e.platform hpl
        obtain ⟨a8, b8, h1, h2, h3⟩ := hn1
        cases Option.some.inj (h1.symm.trans hcl)
        cases Option.some.inj (h2.symm.trans hc6)
        exact Or.inr ⟨hz0, _, hcl6, h3⟩)
  obtain ⟨g₀, hfr⟩ := X'.frames_eq
  have hcell9 : ((T.setVm vm').setFrames (.throwing q :: below)).heap[q]? = some ce := by
    show T.heap[q]? = some ce
    rw [hT]; exact hcell
  have hend : Ended ((T.setVm vm').setFrames (.throwing q :: below)) below (.threw q) := State.frames_setFrames _ (State.cur_lt_of_frames hfr)
  refine ⟨(T.setVm vm').setFrames (.throwing q :: below), ?_, .threw q, X'.here.running, hend, Or.inr ⟨q, rfl, E, ce, locs, hx _ hT (X'.ends _).1.alike, hcell9, hv, hcl, (X'.ends _).1, (X'.ends _).2.mono hc hs, hf⟩⟩
  rw [X.pushThrowing_eq]
  exact st
/-- a thing of a world lies in the heap -/
theorem vx_lt {D : va_G} {cl : List vw_C} {ws : va_W} {H1 : Heap} (h : va_P D cl ws H1) {k : Nat} {q : Nat × va_E} (hk : ws[k]? = some q) : q.1 < H1.size := (h k q hk).lt
end VXS
/-! ===== END ===== -/
/-! ===== BEGIN methods with a table of their own: called by a name, returning or throwing ===== -/
section VXH
/-! vx_backW, vx_callVX, vx_callSX, vx_callVW, vx_runVW, vx_runVX, vx_runSX, vx_ofWH follow the same proofs as their sisters above (Free/Laws.lean, Shelf42/LK1.lean); vx_outP calls Shelf42/NT130.lean (outThrough). -/
section
variable {l : Launch} {R : Room} {p : Program} {e : Env} {below : List Frame} {s : State} {sargs : Array Value} {y : MethodName} {len W9 : Nat}
theorem vx_backW {ws : List Cond} {rm : Room} {Pc : Array Value → State → Prop} {Qc : Array Value → State → Outcome → State → Prop} {XC : String → State → State → Prop} {mc ms : Nat} {free : Addr → Prop} {bytes : ByteArray} {maxL : Nat} {ret : Option FieldType} {hh : List (Nat × Nat × Nat × Nat)}
    (hM : vx_Met l y ws rm Pc Qc XC mc ms free) (hblind : FrameBlind Pc) (hrc : rm.cells = mc) (hrs : rm.slots = ms)
    (hframes : rm.frames + 1 ≤ R.frames) (hlocals : W9 + (maxL + 11) + rm.locals ≤ R.locals)
    (hws : ∀ w ∈ ws, ∀ a' U, s.WarmedH U.vm → w.before a' U = true) (hcode : Cond.codeWith y bytes maxL ret hh ∈ ws) (hinit : ∀ a' U, s.WarmedH U.vm → (Cond.initialized y.cls).before a' U = true) :
    vx_Back l R p e below s sargs y len W9 (PreOf R mc ms Pc) (PostOf Qc mc ms free) (vx_Post XC mc ms free) := by
  intro m meth c A g ig mk a X hg hsize hdg hW hn hp
  have h1 : (headSpec ws rm).pre.before a A.U = true := atoms_intro fun w hw => hws w hw _ _ X.warmed
  have h2 : (Cond.codeWith y bytes maxL ret hh).before a A.U = true := hws _ hcode _ _ X.warmed
  have h3 : (Cond.initialized y.cls).before a A.U = true := hinit _ _ X.warmed
  have h4 : A.cells + (headSpec ws rm).room.cells ≤ R.cells := by rw [show (headSpec ws rm).room.cells = mc from hrc]; exact hp.1
  have h5 : A.slots + (headSpec ws rm).room.slots ≤ R.slots := by rw [show (headSpec ws rm).room.slots = ms from hrs]; exact hp.2.1
  have hPc : Pc a (A.U.calling g mk a) := hblind _ _ _ _ hp.2.2
  obtain ⟨U, Ls, c0, s0⟩ := A
  dsimp only [Pt.U, Pt.locs, Pt.cells, Pt.slots] at h1 h2 h3 h4 h5 X hn hPc ⊢
  obtain ⟨m9, methY, cY, hn9, hmY, hcY, -, hlY, -⟩ := Cond.codeWith_spec h2
  cases Option.some.inj (hn9.symm.trans hn)
  obtain ⟨kY, hkY, -⟩ := className_of_methodNamed hn
  have hinitY : kY.init = .initialized := Cond.initialized_spec (findClass_of_methodNamed hn) hkY h3
  have h : At U g.method c below := by rw [hg]; exact X.here
  have hlocals9 : W9 + (maxL + 11) + (headSpec ws rm).room.locals ≤ R.locals := hlocals
  have happ : (headSpec ws rm).appliesLoose y e.platform (U.calling g mk a) = true :=
    Spec.appliesLoose_calling (g := g) h hdg hn hkY hinitY
      (X.room_calling (g := g) (R' := (headSpec ws rm).room) hsize hmY hcY hframes (by rw [hlY]; omega) h4 h5) h1
  obtain ⟨mid, hmid⟩ := h.above
  have hfr : (U.setTop g).frames = (.java g :: mid) ++ below := by rw [State.frames_setTop' g h.top, hmid]; rfl
  obtain ⟨o, s₂, hsteps, -, hend, hq⟩ := Steps.callFree hM p X.admits X.cas X.clock (acts := []) hfr happ hPc trivial
  have hq' : vx_Q Qc XC mc ms free a (U.calling g mk a) o s₂ := hq
  rw [State.frames_setTop' g h.top] at hend
  obtain ⟨g₀, hg0⟩ := Option.isSome_iff_exists.mp h.top
  obtain ⟨r, hr⟩ := State.topJava?_eq_some.mp hg0
  have hr' : (({ U with heap := s₂.heap, slotsUsed := s₂.slotsUsed } : State).setVm s₂.vm).frames = .java g₀ :: r := hr
  rcases hq' with ⟨hqc, L, hfe, hL⟩ | ⟨q, rfl, E, ce, L, hx, hce, hcv, hcl, hW₂, hsm, hL⟩
  · obtain ⟨⟨v, rfl⟩, hW₂, e2, q2, q3, q4, q5, q6⟩ := id hfe
    have e3 : s₂ = ({ (U.calling g mk a).setFrames s₂.frames with heap := s₂.heap, slotsUsed := s₂.slotsUsed } : State).setVm s₂.vm := by
      have : s₂ = ({ s₂ with vm := (U.calling g mk a).vm } : State).setVm s₂.vm := rfl
      rw [e2] at this
      exact this
    obtain ⟨c₂, i₂, len₂, hc₂, hd₂, hf₂⟩ := hend
    have hW' : U.WarmedH s₂.vm := hW₂
    have hcc : c₂ = c := by
      have h1 : s₂.code? g.method = U.code? g.method := by
        rw [State.code?_eq, State.code?_eq, hW'.alike.method?]
      exact Option.some.inj (hc₂.symm.trans (h1.trans h.code))
    subst hcc
    have hlen : len₂ = len := by rw [hdg] at hd₂; cases hd₂; rfl
    subst hlen
    have hs₂ : s₂ = (({ U with heap := s₂.heap, slotsUsed := s₂.slotsUsed } : State).setVm s₂.vm).setTop { g with pc := g.pc + len₂, stack := v.toList ++ g.stack } := by
      refine e3.trans ?_
      rw [hf₂, State.calling_eq h.top, State.setFrames_setFrames, State.setTop_of_frames _ hr', hr]
      rfl
    have hsame : U.sameButNew ({ U with heap := s₂.heap, slotsUsed := s₂.slotsUsed } : State) L mc ms := by
      refine ⟨?_, q2, q3, q4, q5, q6⟩
      obtain ⟨t, ht, -⟩ := State.frames_cons hr
      show ({ U with heap := s₂.heap, slotsUsed := s₂.slotsUsed } : State) = { U.setFrames U.frames with heap := s₂.heap, slotsUsed := s₂.slotsUsed }
      rw [State.setFrames_self ht]
    subst hg
    refine Or.inl ⟨v, ⟨(({ U with heap := s₂.heap, slotsUsed := s₂.slotsUsed } : State).setVm s₂.vm), Ls ++ L, c0 + mc, s0 + ms⟩,
      ⟨X.admits, X.cas, X.clock, X.frames, X.room, X.hears, X.method, X.code, (X.here.setHeapUsed s₂.heap s₂.slotsUsed).setVm hW'.alike, X.tail, State.WarmedH.trans X.warmed hW', X.limits, X.bytes, X.same.trans (hsame.setVm s.vm)⟩,
      ⟨g, mk, s₂, L, rfl, rfl, hqc, rfl, hL, rfl, rfl⟩, ?_⟩
    show Steps p.tables e below _ ((({ U with heap := s₂.heap, slotsUsed := s₂.slotsUsed } : State).setVm s₂.vm).setTop { g with pc := g.pc + len₂, stack := v.toList ++ g.stack })
    rw [← hs₂]
    exact hsteps
  · obtain ⟨e2, q2, q3, q4, q5, q6⟩ := id hsm
    have e3 : s₂ = ({ (U.calling g mk a).setFrames s₂.frames with heap := s₂.heap, slotsUsed := s₂.slotsUsed } : State).setVm s₂.vm := by
      have : s₂ = ({ s₂ with vm := (U.calling g mk a).vm } : State).setVm s₂.vm := rfl
      rw [e2] at this
      exact this
    have hf₂ : s₂.frames = .throwing q :: .java g :: U.frames.tail := hend
    have hW' : U.WarmedH s₂.vm := hW₂
    have hs₂ : s₂ = ((({ U with heap := s₂.heap, slotsUsed := s₂.slotsUsed } : State).setVm s₂.vm).setTop g).pushFrame (.throwing q) := by
      refine e3.trans ?_
      rw [hf₂, State.calling_eq h.top, State.setFrames_setFrames, State.pushFrame, State.frames_setTop _ hr', State.setTop_of_frames _ hr', State.setFrames_setFrames, hr]
      rfl
    have hsame : U.sameButNew ({ U with heap := s₂.heap, slotsUsed := s₂.slotsUsed } : State) L mc ms := by
      refine ⟨?_, q2, q3, q4, q5, q6⟩
      obtain ⟨t, ht, -⟩ := State.frames_cons hr
      show ({ U with heap := s₂.heap, slotsUsed := s₂.slotsUsed } : State) = { U.setFrames U.frames with heap := s₂.heap, slotsUsed := s₂.slotsUsed }
      rw [State.setFrames_self ht]
    subst hg
    refine Or.inr ⟨q, ⟨(({ U with heap := s₂.heap, slotsUsed := s₂.slotsUsed } : State).setVm s₂.vm), Ls ++ L, c0 + mc, s0 + ms⟩,
      ⟨X.admits, X.cas, X.clock, X.frames, X.room, X.hears, X.method, X.code, (X.here.setHeapUsed s₂.heap s₂.slotsUsed).setVm hW'.alike, X.tail, State.WarmedH.trans X.warmed hW', X.limits, X.bytes, X.same.trans (hsame.setVm s.vm)⟩,
      ⟨g, mk, s₂, L, E, ce, rfl, rfl, hx, hce, hcv, hcl, rfl, hL, rfl, rfl⟩, ?_⟩
    show Steps p.tables e below _ (((({ U with heap := s₂.heap, slotsUsed := s₂.slotsUsed } : State).setVm s₂.vm).setTop g).pushFrame (.throwing q))
    rw [← hs₂]
    exact hsteps
end
variable {p : Program} {l : Launch} {e : Env} {R : Room} {s : State} {m : MethodId} {args : Array Value} {below : List Frame} {meth : Method} {c : Code} {T : State} {H : Heap} {locs : List Loc} {cells slots : Nat}
theorem vx_callVX (X : Stand p l e R s m args below meth c T locs cells slots) (hexec : p.tables.exec = Jvm.exec) {own C : String} {index : Nat} {y : MethodName} {bytes : ByteArray} {maxL : Nat} {ret : Option FieldType} {hh : List (Nat × Nat × Nat × Nat)}
    (hown : s.vm.findClass own = some m.cls) (hlink : (Cond.methodLink own index y).before args s = true) (hinst : (Cond.instanceMethod y).before args s = true) (hsel : (Cond.selects C y y).before args s = true)
    (hcode : (Cond.codeWith y bytes maxL ret hh).before args s = true) (hy : y.cls ≠ "java/lang/invoke/MethodHandle" ∧ y.cls ≠ "java/lang/invoke/VarHandle")
    {W9 : Nat} {Pre : Pt → Array Value → Prop} {Post : Pt → Array Value → Option Value → Pt → Prop} {PostX : Pt → Array Value → Addr → Pt → Prop} (hK : vx_Back l R p e below s args y 3 W9 Pre Post PostX)
    {b : Addr} {cellB : Cell} (hcell : T.heap[b]? = some cellB) (hobj : cellB.vm.isStatics = false) (hcls : s.vm.findClass C = some cellB.cls)
    {g : JFrame} (hg : g.method = m) (hsize : g.locals.size = c.maxLocals) {argsL rest : List Value} (hlen : ∀ sig, parseMethodDescriptor y.desc = some sig → argsL.length = sig.parameters.length)
    (hstack : g.stack = argsL.reverse ++ .ref b :: rest) (hW : 2 * g.monitorRoom + (rest.map fun v => v.category).sum ≤ W9) (hdg : decode c.code g.pc = .ok (.invokevirtual index, 3))
    (hpre : ∀ vm₁, s.WarmedH vm₁ → Pre ⟨T.setVm vm₁, locs, cells, slots⟩ (Value.ref b :: argsL).toArray) :
    (∃ (v : Option Value) (vm₁ : Vm) (B : Pt), s.WarmedH vm₁ ∧ Stand p l e R s m args below meth c B.U B.locs B.cells B.slots ∧ Post ⟨T.setVm vm₁, locs, cells, slots⟩ (Value.ref b :: argsL).toArray v B ∧
      ∀ target, Steps p.tables e below (B.U.setTop { g with pc := g.pc + 3, stack := v.toList ++ rest }) target → Steps p.tables e below (T.setTop g) target) ∨
    (∃ (q : Addr) (vm₁ : Vm) (B : Pt), s.WarmedH vm₁ ∧ Stand p l e R s m args below meth c B.U B.locs B.cells B.slots ∧ PostX ⟨T.setVm vm₁, locs, cells, slots⟩ (Value.ref b :: argsL).toArray q B ∧
      Steps p.tables e below (T.setTop g) ((B.U.setTop { g with stack := rest }).pushFrame (.throwing q))) := by
  obtain ⟨mk, methM, hnamed, hmethM, hstM, habM⟩ := Cond.instanceMethod_spec hinst
  obtain ⟨m8, methM', cM, hn8, hmethM', -, -, -, -, -, -, hsigM⟩ := Cond.codeWith_spec hcode
  cases Option.some.inj (hn8.symm.trans hnamed)
  cases hmethM.symm.trans hmethM'
  obtain ⟨c2, r2, m2, q1, q2, q3, q4, kP, hkP, hkPi⟩ := Cond.selects_spec hsel
  cases hcls.symm.trans q1
  cases (State.methodFound?_of_named hnamed hy).symm.trans q2
  cases hnamed.symm.trans q3
  have hselP : selectMethod e.platform s.vm cellB.cls mk = .method mk := by rw [Launch.admits_selectMethod X.admits]; exact q4
  obtain ⟨vm₁, X₁, hstep₁⟩ := X.invokevirtual hexec hown hlink hnamed hmethM hstM hkP hkPi hy (a := b) (cell := cellB) hcell
    (fun z h => by rw [h] at hobj; cases hobj) hselP hmethM habM hkP hkPi (g := g) hg (argsL := argsL) (rest := rest) (hlen _ hsigM) hstack hdg
  rcases hK m meth c ⟨T.setVm vm₁, locs, cells, slots⟩ { g with stack := rest } (.invokevirtual index) mk (Value.ref b :: argsL).toArray X₁ hg hsize hdg hW (X₁.named hnamed) (hpre vm₁ X₁.warmed) with ⟨v, B, X', hpost, hsteps⟩ | ⟨q, B, X', hpost, hsteps⟩
  · exact Or.inl ⟨v, vm₁, B, X₁.warmed, X', hpost, fun target h => hstep₁ _ fun acts => by rw [doInvoke_state]; exact hsteps.trans h⟩
  · exact Or.inr ⟨q, vm₁, B, X₁.warmed, X', hpost, hstep₁ _ fun acts => by rw [doInvoke_state]; exact hsteps⟩
theorem vx_callSX (X : Stand p l e R s m args below meth c T locs cells slots) (hexec : p.tables.exec = Jvm.exec) {own : String} {index : Nat} {y : MethodName} {bytes : ByteArray} {maxL : Nat} {ret : Option FieldType} {hh : List (Nat × Nat × Nat × Nat)}
    (hown : s.vm.findClass own = some m.cls) (hlink : (Cond.methodLink own index y).before args s = true) (hstat : (Cond.static y).before args s = true) (hinit : (Cond.initialized y.cls).before args s = true)
    (hcode : (Cond.codeWith y bytes maxL ret hh).before args s = true) (hy : y.cls ≠ "java/lang/invoke/MethodHandle" ∧ y.cls ≠ "java/lang/invoke/VarHandle")
    {W9 : Nat} {Pre : Pt → Array Value → Prop} {Post : Pt → Array Value → Option Value → Pt → Prop} {PostX : Pt → Array Value → Addr → Pt → Prop} (hK : vx_Back l R p e below s args y 3 W9 Pre Post PostX)
    {g : JFrame} (hg : g.method = m) (hsize : g.locals.size = c.maxLocals) {argsL rest : List Value} (hlen : ∀ sig, parseMethodDescriptor y.desc = some sig → argsL.length = sig.parameters.length)
    (hstack : g.stack = argsL.reverse ++ rest) (hW : 2 * g.monitorRoom + (rest.map fun v => v.category).sum ≤ W9) (hdg : decode c.code g.pc = .ok (.invokestatic index, 3))
    (hpre : ∀ vm₁, s.WarmedH vm₁ → Pre ⟨T.setVm vm₁, locs, cells, slots⟩ argsL.toArray) :
    (∃ (v : Option Value) (vm₁ : Vm) (B : Pt), s.WarmedH vm₁ ∧ Stand p l e R s m args below meth c B.U B.locs B.cells B.slots ∧ Post ⟨T.setVm vm₁, locs, cells, slots⟩ argsL.toArray v B ∧
      ∀ target, Steps p.tables e below (B.U.setTop { g with pc := g.pc + 3, stack := v.toList ++ rest }) target → Steps p.tables e below (T.setTop g) target) ∨
    (∃ (q : Addr) (vm₁ : Vm) (B : Pt), s.WarmedH vm₁ ∧ Stand p l e R s m args below meth c B.U B.locs B.cells B.slots ∧ PostX ⟨T.setVm vm₁, locs, cells, slots⟩ argsL.toArray q B ∧
      Steps p.tables e below (T.setTop g) ((B.U.setTop { g with stack := rest }).pushFrame (.throwing q))) := by
  obtain ⟨mk, methM, cM, hnamed, hmethM, -, -, -, -, -, -, hsigM⟩ := Cond.codeWith_spec hcode
  have hstatic : methM.isStatic = true := Cond.static_spec hnamed hmethM hstat
  obtain ⟨kP, hkP, -⟩ := className_of_methodNamed hnamed
  have hinitP : kP.init = .initialized := Cond.initialized_spec (findClass_of_methodNamed hnamed) hkP hinit
  obtain ⟨vm₁, X₁, hstep₁⟩ := X.invokestatic hexec hown hlink hnamed hmethM hstatic hkP hinitP hy (g := g) hg (argsL := argsL) (rest := rest) (hlen _ hsigM) hstack hdg
  rcases hK m meth c ⟨T.setVm vm₁, locs, cells, slots⟩ { g with stack := rest } (.invokestatic index) mk argsL.toArray X₁ hg hsize hdg hW (X₁.named hnamed) (hpre vm₁ X₁.warmed) with ⟨v, B, X', hpost, hsteps⟩ | ⟨q, B, X', hpost, hsteps⟩
  · exact Or.inl ⟨v, vm₁, B, X₁.warmed, X', hpost, fun target h => hstep₁ _ fun acts => by rw [doInvoke_state]; exact hsteps.trans h⟩
  · exact Or.inr ⟨q, vm₁, B, X₁.warmed, X', hpost, hstep₁ _ fun acts => by rw [doInvoke_state]; exact hsteps⟩
theorem vx_callVW (X : Stand p l e R s m args below meth c T locs cells slots) (hexec : p.tables.exec = Jvm.exec) {own C : String} {index : Nat} {y : MethodName} {bytes : ByteArray} {maxL : Nat} {ret : Option FieldType} {hh : List (Nat × Nat × Nat × Nat)}
    (hown : s.vm.findClass own = some m.cls) (hlink : (Cond.methodLink own index y).before args s = true) (hinst : (Cond.instanceMethod y).before args s = true) (hsel : (Cond.selects C y y).before args s = true)
    (hcode : (Cond.codeWith y bytes maxL ret hh).before args s = true) (hy : y.cls ≠ "java/lang/invoke/MethodHandle" ∧ y.cls ≠ "java/lang/invoke/VarHandle")
    {W9 : Nat} {Pre : Pt → Array Value → Prop} {Post : Pt → Array Value → Option Value → Pt → Prop} (hK : Back l R p e below s args y 3 W9 Pre Post)
    {b : Addr} {cellB : Cell} (hcell : T.heap[b]? = some cellB) (hobj : cellB.vm.isStatics = false) (hcls : s.vm.findClass C = some cellB.cls)
    {g : JFrame} (hg : g.method = m) (hsize : g.locals.size = c.maxLocals) {argsL rest : List Value} (hlen : ∀ sig, parseMethodDescriptor y.desc = some sig → argsL.length = sig.parameters.length)
    (hstack : g.stack = argsL.reverse ++ .ref b :: rest) (hW : 2 * g.monitorRoom + (rest.map fun v => v.category).sum ≤ W9) (hdg : decode c.code g.pc = .ok (.invokevirtual index, 3))
    (hpre : ∀ vm₁, s.WarmedH vm₁ → Pre ⟨T.setVm vm₁, locs, cells, slots⟩ (Value.ref b :: argsL).toArray) :
    ∃ (v : Option Value) (vm₁ : Vm) (B : Pt), s.WarmedH vm₁ ∧ Stand p l e R s m args below meth c B.U B.locs B.cells B.slots ∧ Post ⟨T.setVm vm₁, locs, cells, slots⟩ (Value.ref b :: argsL).toArray v B ∧
      ∀ target, Steps p.tables e below (B.U.setTop { g with pc := g.pc + 3, stack := v.toList ++ rest }) target → Steps p.tables e below (T.setTop g) target := by
  obtain ⟨mk, methM, hnamed, hmethM, hstM, habM⟩ := Cond.instanceMethod_spec hinst
  obtain ⟨m8, methM', cM, hn8, hmethM', -, -, -, -, -, -, hsigM⟩ := Cond.codeWith_spec hcode
  cases Option.some.inj (hn8.symm.trans hnamed)
  cases hmethM.symm.trans hmethM'
  obtain ⟨c2, r2, m2, q1, q2, q3, q4, kP, hkP, hkPi⟩ := Cond.selects_spec hsel
  cases hcls.symm.trans q1
  cases (State.methodFound?_of_named hnamed hy).symm.trans q2
  cases hnamed.symm.trans q3
  have hselP : selectMethod e.platform s.vm cellB.cls mk = .method mk := by rw [Launch.admits_selectMethod X.admits]; exact q4
  obtain ⟨vm₁, X₁, hstep₁⟩ := X.invokevirtual hexec hown hlink hnamed hmethM hstM hkP hkPi hy (a := b) (cell := cellB) hcell
    (fun z h => by rw [h] at hobj; cases hobj) hselP hmethM habM hkP hkPi (g := g) hg (argsL := argsL) (rest := rest) (hlen _ hsigM) hstack hdg
  obtain ⟨v, B, X', hpost, hsteps⟩ := hK m meth c ⟨T.setVm vm₁, locs, cells, slots⟩ { g with stack := rest } (.invokevirtual index) mk (Value.ref b :: argsL).toArray X₁ hg hsize hdg hW (X₁.named hnamed) (hpre vm₁ X₁.warmed)
  exact ⟨v, vm₁, B, X₁.warmed, X', hpost, fun target h => hstep₁ _ fun acts => by rw [doInvoke_state]; exact hsteps.trans h⟩
abbrev vx_CVW (R : Room) (s : State) (args : Array Value) (own C : String) (index : Nat) (y : MethodName) (bytes : ByteArray) (maxL : Nat) (ret : Option FieldType) (hh : List (Nat × Nat × Nat × Nat)) (ws : List Cond) (rm : Room) (mc ms n : Nat) : Prop :=
  (rm.cells = mc ∧ rm.slots = ms ∧ rm.frames + 1 ≤ R.frames ∧ 8 + (maxL + 11) + rm.locals ≤ R.locals ∧ (∀ w ∈ ws, ∀ (a' : Array Value) (U : State), s.WarmedH U.vm → w.before a' U = true) ∧ Cond.codeWith y bytes maxL ret hh ∈ ws) ∧
  (Cond.codeWith y bytes maxL ret hh).before args s = true ∧ (Cond.initialized y.cls).before args s = true ∧ (y.cls ≠ "java/lang/invoke/MethodHandle" ∧ y.cls ≠ "java/lang/invoke/VarHandle") ∧
  (∀ sig, parseMethodDescriptor y.desc = some sig → n = sig.parameters.length) ∧ (Cond.methodLink own index y).before args s = true ∧ (Cond.instanceMethod y).before args s = true ∧ (Cond.selects C y y).before args s = true
theorem vx_cwVW {own C : String} {index maxL mc ms : Nat} {y : MethodName} {bytes : ByteArray} {ret : Option FieldType} {hh : List (Nat × Nat × Nat × Nat)} {Ts ws ws' : List Cond} {rm : Room} (n : Nat) (ht : ∀ w ∈ Ts, w.before args s = true) (hT : GoodIn Ts (wsV own index C y ws)) (hw : ws = Cond.codeWith y bytes maxL ret hh :: ws') (hrc : rm.cells = mc) (hrs : rm.slots = ms)
    (hd : y.cls = C ∧ y.cls ≠ "java/lang/invoke/MethodHandle" ∧ y.cls ≠ "java/lang/invoke/VarHandle" ∧ (parseMethodDescriptor y.desc).map (fun d => d.parameters.length) = some n) (hR : rm.frames + 1 ≤ R.frames ∧ 8 + (maxL + 11) + rm.locals ≤ R.locals) :
    vx_CVW R s args own C index y bytes maxL ret hh ws rm mc ms n := by
  obtain ⟨hC, hd⟩ := hd
  subst hC
  have ok : ∀ w ∈ wsV own index y.cls y ws, w.before args s = true := fun w h => ht w (hT w h).1
  have hG : GoodIn Ts ws := fun w h => hT w (by unfold wsV; exact List.mem_append_right _ h)
  have hc : Cond.codeWith y bytes maxL ret hh ∈ ws := by rw [hw]; exact List.mem_cons_self
  refine ⟨⟨hrc, hrs, hR.1, hR.2, pay_in ht hG, hc⟩, ht _ (hG _ hc).1, ok _ (by simp [wsV]), ⟨hd.1, hd.2.1⟩, fun sig h => ?_, ok _ (by simp [wsV]), ok _ (by simp [wsV]), ok _ (by simp [wsV])⟩
  have h2 := hd.2.2
  rw [h] at h2
  exact (Option.some.inj h2).symm
theorem vx_runVW {y : MethodName} {bytes cc : ByteArray} {maxL nL mc ms n index : Nat} {ret : Option FieldType} {hh : List (Nat × Nat × Nat × Nat)} {ws : List Cond} {rm : Room} {Pc : Array Value → State → Prop} {Qc : Array Value → State → Outcome → State → Prop} {free : Addr → Prop} {Ts : List Cond} {own C : String} {b : Addr} {As rest : List Value} {g : JFrame}
    (S : CallFix p m c cc nL s args Ts own) (hM : Met l y ws rm Pc Qc mc ms free) (cw : vx_CVW R s args own C index y bytes maxL ret hh ws rm mc ms n) (hp : PreV s H C b Pc As)
    (hg : g.method = m) (hn : As.length = n) (hsize : g.locals.size = nL) (hstack : g.stack = As.reverse ++ .ref b :: rest) (hW : 2 * g.monitorRoom + (rest.map fun v => v.category).sum ≤ 8) (hdg : decode cc g.pc = .ok (.invokevirtual index, 3)) (hf : cells + mc ≤ R.cells ∧ slots + ms ≤ R.slots) :
    va_Run p l e R s m args below meth c H locs cells slots mc ms g rest (Qc (Value.ref b :: As).toArray) free := by
  obtain ⟨⟨hrc, hrs, hfr, hlo, hws, hcw⟩, hcode, hini, hy, hlen, hl, hin, hse⟩ := cw
  have hK : Back l R p e below s args y 3 8 (PreOf R mc ms Pc) (PostOf Qc mc ms free) := va_backW (hh := hh) (bytes := bytes) (maxL := maxL) (ret := ret) hM hp.1 hrc hrs hfr hlo hws hcw (fun a' U hW => word_at hW (Or.inl (by first | rfl | simp [Cond.onTables, Cond.keeps, Cond.steady])) hini)
  obtain ⟨hx, hb, hml, ho, -⟩ := S
  obtain ⟨-, ⟨cellB, hcB, hoB, hclB⟩, hPc⟩ := hp
  intro T hT X
  obtain ⟨v, vm₁, ⟨U', l2, c2, s2⟩, hW₁, X', ⟨g', mk, t, L, e1, e2, hq, h1, hL, h2, h3⟩, st⟩ := vx_callVW X hx (C := C) (hh := hh) (bytes := bytes) (maxL := maxL) (ret := ret) ho hl hin hse hcode hy hK (by rw [hT]; exact hcB) hoB hclB hg (hsize.trans hml.symm) (argsL := As) (rest := rest) (fun sig h => hn.trans (hlen sig h)) hstack hW (by rw [hb]; exact hdg)
    (fun vm₁ hW₁ => ⟨hf.1, hf.2, hPc (T.setVm vm₁) hT hW₁⟩)
  dsimp only [Pt.U, Pt.locs, Pt.cells, Pt.slots] at X' e1 e2 h1 h2 h3 st
  subst h1; subst h2; subst h3
  exact ⟨v, (T.setVm vm₁).calling g' mk (Value.ref b :: As).toArray, t, U', L, hT, X', hL, e1, e2, hq, st⟩
section
variable {y : MethodName} {bytes cc : ByteArray} {maxL nL mc ms n index : Nat} {ret : Option FieldType} {ws : List Cond} {rm : Room} {Pc : Array Value → State → Prop} {Qc : Array Value → State → Outcome → State → Prop} {XC : String → State → State → Prop} {free : Addr → Prop} {Ts : List Cond} {own C : String} {b : Addr} {As rest : List Value} {g : JFrame}
theorem vx_runVX {hh : List (Nat × Nat × Nat × Nat)} (S : CallFix p m c cc nL s args Ts own) (hM : vx_Met l y ws rm Pc Qc XC mc ms free) (cw : vx_CVW R s args own C index y bytes maxL ret hh ws rm mc ms n) (hp : PreV s H C b Pc As)
    (hg : g.method = m) (hn : As.length = n) (hsize : g.locals.size = nL) (hstack : g.stack = As.reverse ++ .ref b :: rest) (hW : 2 * g.monitorRoom + (rest.map fun v => v.category).sum ≤ 8) (hdg : decode cc g.pc = .ok (.invokevirtual index, 3)) (hf : cells + mc ≤ R.cells ∧ slots + ms ≤ R.slots) :
    vx_Run p l e R s m args below meth c H locs cells slots mc ms g rest (Qc (Value.ref b :: As).toArray) XC free := by
  obtain ⟨⟨hrc, hrs, hfr, hlo, hws, hcw⟩, hcode, hini, hy, hlen, hl, hin, hse⟩ := cw
  have hK : vx_Back l R p e below s args y 3 8 (PreOf R mc ms Pc) (PostOf Qc mc ms free) (vx_Post XC mc ms free) := vx_backW (hh := hh) (bytes := bytes) (maxL := maxL) (ret := ret) hM hp.1 hrc hrs hfr hlo hws hcw (fun a' U hW => word_at hW (Or.inl (by first | rfl | simp [Cond.onTables, Cond.keeps, Cond.steady])) hini)
  obtain ⟨hx, hb, hml, ho, -⟩ := S
  obtain ⟨-, ⟨cellB, hcB, hoB, hclB⟩, hPc⟩ := hp
  intro T hT X
  rcases vx_callVX X hx (C := C) (hh := hh) (bytes := bytes) (maxL := maxL) (ret := ret) ho hl hin hse hcode hy hK (by rw [hT]; exact hcB) hoB hclB hg (hsize.trans hml.symm) (argsL := As) (rest := rest) (fun sig h => hn.trans (hlen sig h)) hstack hW (by rw [hb]; exact hdg)
    (fun vm₁ hW₁ => ⟨hf.1, hf.2, hPc (T.setVm vm₁) hT hW₁⟩) with ⟨v, vm₁, ⟨U', l2, c2, s2⟩, hW₁, X', ⟨g', mk, t, L, e1, e2, hq, h1, hL, h2, h3⟩, st⟩ | ⟨q, vm₁, ⟨U', l2, c2, s2⟩, hW₁, X', ⟨g', mk, t, L, E, ce, e1, e2, hq, hce, hcv, hcl, h1, hL, h2, h3⟩, st⟩
  · dsimp only [Pt.U, Pt.locs, Pt.cells, Pt.slots] at X' e1 e2 h1 h2 h3 st
    subst h1; subst h2; subst h3
    exact Or.inl ⟨v, (T.setVm vm₁).calling g' mk (Value.ref b :: As).toArray, t, U', L, hT, X', hL, e1, e2, hq, st⟩
  · dsimp only [Pt.U, Pt.locs, Pt.cells, Pt.slots] at X' e1 e2 h1 h2 h3 st hcl
    subst h1; subst h2; subst h3
    exact Or.inr ⟨q, (T.setVm vm₁).calling g' mk (Value.ref b :: As).toArray, t, U', L, E, ce, hT, X', hL, e1, e2, hq, hce, hcv, vx_cls hW₁ hcl, st⟩
theorem vx_runSX {hh : List (Nat × Nat × Nat × Nat)} (S : CallFix p m c cc nL s args Ts own) (hM : vx_Met l y ws rm Pc Qc XC mc ms free) (cw : vx_CSW R s args own index y bytes maxL ret hh ws rm mc ms n) (hp : PreS s H Pc As)
    (hg : g.method = m) (hn : As.length = n) (hsize : g.locals.size = nL) (hstack : g.stack = As.reverse ++ rest) (hW : 2 * g.monitorRoom + (rest.map fun v => v.category).sum ≤ 8) (hdg : decode cc g.pc = .ok (.invokestatic index, 3)) (hf : cells + mc ≤ R.cells ∧ slots + ms ≤ R.slots) :
    vx_Run p l e R s m args below meth c H locs cells slots mc ms g rest (Qc As.toArray) XC free := by
  obtain ⟨⟨hrc, hrs, hfr, hlo, hws, hcw⟩, hcode, hini, hy, hlen, hl, hstt⟩ := cw
  have hK : vx_Back l R p e below s args y 3 8 (PreOf R mc ms Pc) (PostOf Qc mc ms free) (vx_Post XC mc ms free) := vx_backW (hh := hh) (bytes := bytes) (maxL := maxL) (ret := ret) hM hp.1 hrc hrs hfr hlo hws hcw (fun a' U hW => word_at hW (Or.inl (by first | rfl | simp [Cond.onTables, Cond.keeps, Cond.steady])) hini)
  obtain ⟨hx, hb, hml, ho, -⟩ := S
  intro T hT X
  rcases vx_callSX X hx (hh := hh) (bytes := bytes) (maxL := maxL) (ret := ret) ho hl hstt hini hcode hy hK hg (hsize.trans hml.symm) (argsL := As) (rest := rest) (fun sig h => hn.trans (hlen sig h)) hstack hW (by rw [hb]; exact hdg)
    (fun vm₁ hW₁ => ⟨hf.1, hf.2, hp.2 (T.setVm vm₁) hT hW₁⟩) with ⟨v, vm₁, ⟨U', l2, c2, s2⟩, hW₁, X', ⟨g', mk, t, L, e1, e2, hq, h1, hL, h2, h3⟩, st⟩ | ⟨q, vm₁, ⟨U', l2, c2, s2⟩, hW₁, X', ⟨g', mk, t, L, E, ce, e1, e2, hq, hce, hcv, hcl, h1, hL, h2, h3⟩, st⟩
  · dsimp only [Pt.U, Pt.locs, Pt.cells, Pt.slots] at X' e1 e2 h1 h2 h3 st
    subst h1; subst h2; subst h3
    exact Or.inl ⟨v, (T.setVm vm₁).calling g' mk As.toArray, t, U', L, hT, X', hL, e1, e2, hq, st⟩
  · dsimp only [Pt.U, Pt.locs, Pt.cells, Pt.slots] at X' e1 e2 h1 h2 h3 st hcl
    subst h1; subst h2; subst h3
    exact Or.inr ⟨q, (T.setVm vm₁).calling g' mk As.toArray, t, U', L, E, ce, hT, X', hL, e1, e2, hq, hce, hcv, vx_cls hW₁ hcl, st⟩
end
end VXH
theorem vx_ofWH {l : Launch} {y : MethodName} {ws ws' : List Cond} {rm : Room} {Pc : Array Value → State → Prop} {Qc : Array Value → State → Outcome → State → Prop} {XC : String → State → State → Prop} {mc ms : Nat} {free : Addr → Prop} {cc : ByteArray} {maxL : Nat} {ret : Option FieldType} {hh : List (Nat × Nat × Nat × Nat)}
    (hy : plainName y.cls = true) (hw : ws = Cond.codeWith y cc maxL ret hh :: ws')
    (body : ∀ p e s m args below meth c s₁, BodyLoose p l y (headSpec ws rm) cc maxL ret e s m args below meth c s₁ → c.maxLocals = maxL → Pc args s →
      W p l e (headSpec ws rm).room s m args below meth c s.heap [] 0 0 (vx_MQ below Qc XC args s mc ms free) (entryFrame m args maxL)) : vx_Met l y ws rm Pc Qc XC mc ms free := by
  refine MetFree.of_bodyS (code := cc) (maxLocals := maxL) (ret := ret) hy ?_ ?_
  · intro args s m h hn
    obtain ⟨m9, meth, c, hn9, h1, h2, h3, h4, -, h5, h6, -⟩ := Cond.codeWith_spec (atoms_spec (ws := ws) h _ (by rw [hw]; exact List.mem_cons_self))
    cases hn.symm.trans hn9
    exact ⟨meth, c, h1, h2, h3, h4, h5, h6⟩
  · intro p e s m args below meth c s₁ B hml hP _
    have hh0 : s₁.heap = s.heap := by rw [B.state]; rfl
    obtain ⟨t, a1, o, b1, b2, b3⟩ := body p e s m args below meth c s₁ B hml hP s₁ hh0 (Stand.of_body B)
    exact ⟨t, o, a1, b1, b2, b3⟩
/-! ===== END ===== -/
end
section
def RX0 : String := "HotPanLocks$History"
def TX0 : u_T := fun k => match k with
  | 0 => ("HotPanLocks$History", "slots", "[LHotPanLocks$State;", true)
  | 1 => ("HotPanLocks$History", "next", "I", false)
  | _ => ("HotPanLocks$History", "kept", "I", false)
def tyX0 : Nat → FieldType := fun k => match k with
  | 0 => .array (.object "HotPanLocks$State")
  | 1 => .int
  | _ => .int
abbrev wsX00 : List Cond := u_ws RX0 TX0 3
theorem nmX0 : ∀ a, a < 3 → ∀ b, b < 3 → a ≠ b → (TX0 a).2.1 ≠ (TX0 b).2.1 := by decide +kernel
theorem tyX0_ok : ∀ k, k < 3 → parseFieldDescriptor (TX0 k).2.2.1 = some (tyX0 k) := by decide +kernel
abbrev cX0_init : ByteArray := prog_2_method_1_code
def yX0_init : MethodName := ⟨RX0, "<init>", "()V"⟩
abbrev cX0_slotAt : ByteArray := prog_2_method_2_code
def yX0_slotAt : MethodName := ⟨RX0, "slotAt", "(I)LHotPanLocks$State;"⟩
abbrev cX0_save : ByteArray := prog_2_method_3_code
def yX0_save : MethodName := ⟨RX0, "save", "(LHotPanLocks$State;)V"⟩
def RX1 : String := "HotPanLocks$Numbers"
def TX1 : u_T := fun k => match k with
  | _ => ("HotPanLocks$Numbers", "cells", "[I", true)
def tyX1 : Nat → FieldType := fun k => match k with
  | _ => .array .int
abbrev wsX10 : List Cond := u_ws RX1 TX1 1
theorem nmX1 : ∀ a, a < 1 → ∀ b, b < 1 → a ≠ b → (TX1 a).2.1 ≠ (TX1 b).2.1 := by decide +kernel
theorem tyX1_ok : ∀ k, k < 1 → parseFieldDescriptor (TX1 k).2.2.1 = some (tyX1 k) := by decide +kernel
abbrev cX1_init : ByteArray := prog_3_method_1_code
def yX1_init : MethodName := ⟨RX1, "<init>", "(I)V"⟩
abbrev cX1_at : ByteArray := prog_3_method_2_code
def yX1_at : MethodName := ⟨RX1, "at", "(I)I"⟩
abbrev cX1_put : ByteArray := prog_3_method_3_code
def yX1_put : MethodName := ⟨RX1, "put", "(II)V"⟩
abbrev cX1_raise : ByteArray := prog_3_method_4_code
def yX1_raise : MethodName := ⟨RX1, "raise", "(I)V"⟩
abbrev cX1_sum : ByteArray := prog_3_method_5_code
def yX1_sum : MethodName := ⟨RX1, "sum", "()I"⟩
abbrev cX1_copyFrom : ByteArray := prog_3_method_6_code
def yX1_copyFrom : MethodName := ⟨RX1, "copyFrom", "(LHotPanLocks$Numbers;)V"⟩
def RX2 : String := "HotPanLocks$State"
def TX2 : u_T := fun k => match k with
  | 0 => ("HotPanLocks$State", "locks", "LHotPanLocks$Numbers;", true)
  | 1 => ("HotPanLocks$State", "requestRow", "LHotPanLocks$Numbers;", true)
  | 2 => ("HotPanLocks$State", "requestMode", "LHotPanLocks$Numbers;", true)
  | 3 => ("HotPanLocks$State", "requestPlace", "LHotPanLocks$Numbers;", true)
  | 4 => ("HotPanLocks$State", "heat", "LHotPanLocks$Numbers;", true)
  | 5 => ("HotPanLocks$State", "handedOn", "LHotPanLocks$Numbers;", true)
  | 6 => ("HotPanLocks$State", "burnt", "LHotPanLocks$Numbers;", true)
  | 7 => ("HotPanLocks$State", "lost", "LHotPanLocks$Numbers;", true)
  | 8 => ("HotPanLocks$State", "granted", "LHotPanLocks$Numbers;", true)
  | 9 => ("HotPanLocks$State", "asked", "LHotPanLocks$Numbers;", true)
  | 10 => ("HotPanLocks$State", "settings", "LHotPanLocks$Numbers;", true)
  | _ => ("HotPanLocks$State", "ticks", "I", false)
def tyX2 : Nat → FieldType := fun k => match k with
  | 0 => .object "HotPanLocks$Numbers"
  | 1 => .object "HotPanLocks$Numbers"
  | 2 => .object "HotPanLocks$Numbers"
  | 3 => .object "HotPanLocks$Numbers"
  | 4 => .object "HotPanLocks$Numbers"
  | 5 => .object "HotPanLocks$Numbers"
  | 6 => .object "HotPanLocks$Numbers"
  | 7 => .object "HotPanLocks$Numbers"
  | 8 => .object "HotPanLocks$Numbers"
  | 9 => .object "HotPanLocks$Numbers"
  | 10 => .object "HotPanLocks$Numbers"
  | _ => .int
abbrev wsX20 : List Cond := u_ws RX2 TX2 12
theorem nmX2 : ∀ a, a < 12 → ∀ b, b < 12 → a ≠ b → (TX2 a).2.1 ≠ (TX2 b).2.1 := by decide +kernel
theorem tyX2_ok : ∀ k, k < 12 → parseFieldDescriptor (TX2 k).2.2.1 = some (tyX2 k) := by decide +kernel
abbrev cX2_init : ByteArray := prog_4_method_1_code
def yX2_init : MethodName := ⟨RX2, "<init>", "()V"⟩
abbrev cX2_copyFrom : ByteArray := prog_4_method_2_code
def yX2_copyFrom : MethodName := ⟨RX2, "copyFrom", "(LHotPanLocks$State;)V"⟩
abbrev cX2_isWaiting : ByteArray := prog_4_method_3_code
def yX2_isWaiting : MethodName := ⟨RX2, "isWaiting", "(I)Z"⟩
abbrev cX2_queueLength : ByteArray := prog_4_method_4_code
def yX2_queueLength : MethodName := ⟨RX2, "queueLength", "(I)I"⟩
abbrev cX2_handAt : ByteArray := prog_4_method_5_code
def yX2_handAt : MethodName := ⟨RX2, "handAt", "(II)I"⟩
abbrev cX2_enqueue : ByteArray := prog_4_method_6_code
def yX2_enqueue : MethodName := ⟨RX2, "enqueue", "(III)V"⟩
abbrev cX2_placeForHolder : ByteArray := prog_4_method_7_code
def yX2_placeForHolder : MethodName := ⟨RX2, "placeForHolder", "(I)I"⟩
abbrev cX2_dequeue : ByteArray := prog_4_method_8_code
def yX2_dequeue : MethodName := ⟨RX2, "dequeue", "(I)V"⟩
abbrev cX2_clashes : ByteArray := prog_4_method_9_code
def yX2_clashes : MethodName := ⟨RX2, "clashes", "(IIII)Z"⟩
abbrev cX2_grant : ByteArray := prog_4_method_10_code
def yX2_grant : MethodName := ⟨RX2, "grant", "(I)V"⟩
abbrev cX2_settle : ByteArray := prog_4_method_11_code
def yX2_settle : MethodName := ⟨RX2, "settle", "(I)I"⟩
abbrev cX2_direct : ByteArray := prog_4_method_12_code
def yX2_direct : MethodName := ⟨RX2, "direct", "(I)I"⟩
abbrev cX2_reach : ByteArray := prog_4_method_13_code
def yX2_reach : MethodName := ⟨RX2, "reach", "(I)I"⟩
abbrev cX2_loserFor : ByteArray := prog_4_method_14_code
def yX2_loserFor : MethodName := ⟨RX2, "loserFor", "(I)I"⟩
abbrev cX2_strip : ByteArray := prog_4_method_15_code
def yX2_strip : MethodName := ⟨RX2, "strip", "(I)I"⟩
abbrev cX2_takeAsking : ByteArray := prog_4_method_16_code
def yX2_takeAsking : MethodName := ⟨RX2, "takeAsking", "(III)I"⟩
abbrev cX2_canLetGo : ByteArray := prog_4_method_17_code
def yX2_canLetGo : MethodName := ⟨RX2, "canLetGo", "(II)Z"⟩
abbrev cX2_letGo : ByteArray := prog_4_method_18_code
def yX2_letGo : MethodName := ⟨RX2, "letGo", "(II)I"⟩
abbrev cX2_stopWaiting : ByteArray := prog_4_method_19_code
def yX2_stopWaiting : MethodName := ⟨RX2, "stopWaiting", "(I)I"⟩
abbrev cX2_canPassOver : ByteArray := prog_4_method_20_code
def yX2_canPassOver : MethodName := ⟨RX2, "canPassOver", "(III)Z"⟩
abbrev cX2_passOver : ByteArray := prog_4_method_21_code
def yX2_passOver : MethodName := ⟨RX2, "passOver", "(III)I"⟩
abbrev cX2_takersOf : ByteArray := prog_4_method_22_code
def yX2_takersOf : MethodName := ⟨RX2, "takersOf", "(II)I"⟩
abbrev cX2_heatAfter : ByteArray := prog_4_method_23_code
def yX2_heatAfter : MethodName := ⟨RX2, "heatAfter", "(II)I"⟩
abbrev cX2_tick : ByteArray := prog_4_method_24_code
def yX2_tick : MethodName := ⟨RX2, "tick", "()I"⟩
abbrev cX2_burn : ByteArray := prog_4_method_25_code
def yX2_burn : MethodName := ⟨RX2, "burn", "(I)I"⟩
abbrev cX2_greatestMode : ByteArray := prog_4_method_27_code
def yX2_greatestMode : MethodName := ⟨RX2, "greatestMode", "(I)I"⟩
abbrev cX2_holders : ByteArray := prog_4_method_28_code
def yX2_holders : MethodName := ⟨RX2, "holders", "(I)I"⟩
abbrev cX2_locksOf : ByteArray := prog_4_method_29_code
def yX2_locksOf : MethodName := ⟨RX2, "locksOf", "(I)I"⟩
abbrev cX2_work : ByteArray := prog_4_method_30_code
def yX2_work : MethodName := ⟨RX2, "work", "(I)I"⟩
abbrev cX2_lockCount : ByteArray := prog_4_method_31_code
def yX2_lockCount : MethodName := ⟨RX2, "lockCount", "()I"⟩
abbrev cX2_waitingCount : ByteArray := prog_4_method_32_code
def yX2_waitingCount : MethodName := ⟨RX2, "waitingCount", "()I"⟩
abbrev cX2_heldRows : ByteArray := prog_4_method_33_code
def yX2_heldRows : MethodName := ⟨RX2, "heldRows", "()I"⟩
abbrev cX2_handPart : ByteArray := prog_4_method_34_code
def yX2_handPart : MethodName := ⟨RX2, "handPart", "(II)I"⟩
abbrev cX2_rowPart : ByteArray := prog_4_method_35_code
def yX2_rowPart : MethodName := ⟨RX2, "rowPart", "(II)I"⟩
abbrev cX2_requestPart : ByteArray := prog_4_method_36_code
def yX2_requestPart : MethodName := ⟨RX2, "requestPart", "(III)I"⟩
abbrev cX2_total : ByteArray := prog_4_method_37_code
def yX2_total : MethodName := ⟨RX2, "total", "(I)I"⟩
def RX3 : String := "HotPanLocks$Text"
def TX3 : u_T := fun k => match k with
  | 0 => ("HotPanLocks$Text", "codes", "LHotPanLocks$Numbers;", true)
  | _ => ("HotPanLocks$Text", "length", "I", false)
def tyX3 : Nat → FieldType := fun k => match k with
  | 0 => .object "HotPanLocks$Numbers"
  | _ => .int
abbrev wsX30 : List Cond := u_ws RX3 TX3 2
theorem nmX3 : ∀ a, a < 2 → ∀ b, b < 2 → a ≠ b → (TX3 a).2.1 ≠ (TX3 b).2.1 := by decide +kernel
theorem tyX3_ok : ∀ k, k < 2 → parseFieldDescriptor (TX3 k).2.2.1 = some (tyX3 k) := by decide +kernel
abbrev cX3_init : ByteArray := prog_5_method_1_code
def yX3_init : MethodName := ⟨RX3, "<init>", "()V"⟩
def RX4 : String := "HotPanLocks"
def TX4 : u_T := fun k => match k with
  | 0 => ("HotPanLocks", "state", "LHotPanLocks$State;", true)
  | 1 => ("HotPanLocks", "trial", "LHotPanLocks$State;", true)
  | 2 => ("HotPanLocks", "history", "LHotPanLocks$History;", true)
  | _ => ("HotPanLocks", "text", "LHotPanLocks$Text;", true)
def tyX4 : Nat → FieldType := fun k => match k with
  | 0 => .object "HotPanLocks$State"
  | 1 => .object "HotPanLocks$State"
  | 2 => .object "HotPanLocks$History"
  | _ => .object "HotPanLocks$Text"
abbrev wsX40 : List Cond := u_ws RX4 TX4 4
theorem nmX4 : ∀ a, a < 4 → ∀ b, b < 4 → a ≠ b → (TX4 a).2.1 ≠ (TX4 b).2.1 := by decide +kernel
theorem tyX4_ok : ∀ k, k < 4 → parseFieldDescriptor (TX4 k).2.2.1 = some (tyX4 k) := by decide +kernel
abbrev cX4_init : ByteArray := prog_1_method_1_code
def yX4_init : MethodName := ⟨RX4, "<init>", "()V"⟩
abbrev cX4_ask : ByteArray := prog_1_method_2_code
def yX4_ask : MethodName := ⟨RX4, "ask", "(III)I"⟩
abbrev cX4_release : ByteArray := prog_1_method_3_code
def yX4_release : MethodName := ⟨RX4, "release", "(II)I"⟩
abbrev cX4_giveUp : ByteArray := prog_1_method_4_code
def yX4_giveUp : MethodName := ⟨RX4, "giveUp", "(I)I"⟩
abbrev cX4_handOn : ByteArray := prog_1_method_5_code
def yX4_handOn : MethodName := ⟨RX4, "handOn", "(III)I"⟩
abbrev cX4_pass : ByteArray := prog_1_method_6_code
def yX4_pass : MethodName := ⟨RX4, "pass", "(I)I"⟩
abbrev cX4_set : ByteArray := prog_1_method_8_code
def yX4_set : MethodName := ⟨RX4, "set", "(II)I"⟩
abbrev cX4_lock : ByteArray := prog_1_method_14_code
def yX4_lock : MethodName := ⟨RX4, "lock", "(II)I"⟩
abbrev cX4_hand : ByteArray := prog_1_method_15_code
def yX4_hand : MethodName := ⟨RX4, "hand", "(II)I"⟩
abbrev cX4_row : ByteArray := prog_1_method_16_code
def yX4_row : MethodName := ⟨RX4, "row", "(II)I"⟩
abbrev cX4_request : ByteArray := prog_1_method_17_code
def yX4_request : MethodName := ⟨RX4, "request", "(III)I"⟩
abbrev cX4_count : ByteArray := prog_1_method_18_code
def yX4_count : MethodName := ⟨RX4, "count", "(I)I"⟩
abbrev cX4_takers : ByteArray := prog_1_method_21_code
def yX4_takers : MethodName := ⟨RX4, "takers", "(II)I"⟩
abbrev cX4_waitsFor : ByteArray := prog_1_method_23_code
def yX4_waitsFor : MethodName := ⟨RX4, "waitsFor", "(I)I"⟩
abbrev cX4_isHand : ByteArray := prog_1_method_27_code
def yX4_isHand : MethodName := ⟨RX4, "isHand", "(I)Z"⟩
abbrev cX4_isRow : ByteArray := prog_1_method_28_code
def yX4_isRow : MethodName := ⟨RX4, "isRow", "(I)Z"⟩
abbrev cX4_isMode : ByteArray := prog_1_method_29_code
def yX4_isMode : MethodName := ⟨RX4, "isMode", "(I)Z"⟩
abbrev cX4_isSetting : ByteArray := prog_1_method_30_code
def yX4_isSetting : MethodName := ⟨RX4, "isSetting", "(I)Z"⟩
abbrev cX4_leastValue : ByteArray := prog_1_method_31_code
def yX4_leastValue : MethodName := ⟨RX4, "leastValue", "(I)I"⟩
abbrev cX4_greatestValue : ByteArray := prog_1_method_32_code
def yX4_greatestValue : MethodName := ⟨RX4, "greatestValue", "(I)I"⟩
abbrev cX4_cell : ByteArray := prog_1_method_33_code
def yX4_cell : MethodName := ⟨RX4, "cell", "(II)I"⟩
abbrev cX4_has : ByteArray := prog_1_method_34_code
def yX4_has : MethodName := ⟨RX4, "has", "(II)Z"⟩
abbrev cX4_numberOf : ByteArray := prog_1_method_37_code
def yX4_numberOf : MethodName := ⟨RX4, "numberOf", "(I)I"⟩
def RX5 : String := "HotPanLocksModel"
def TX5 : u_T := fun k => match k with
  | _ => ("", "", "", false)
def tyX5 : Nat → FieldType := fun k => match k with
  | _ => .int
abbrev wsX50 : List Cond := u_ws RX5 TX5 0
theorem nmX5 : ∀ a, a < 0 → ∀ b, b < 0 → a ≠ b → (TX5 a).2.1 ≠ (TX5 b).2.1 := by decide +kernel
theorem tyX5_ok : ∀ k, k < 0 → parseFieldDescriptor (TX5 k).2.2.1 = some (tyX5 k) := by decide +kernel
def RJ9 : String := "java/lang/Math"
def TJ9 : u_T := fun k => match k with
  | _ => ("", "", "", false)
def tyJ9 : Nat → FieldType := fun k => match k with
  | _ => .int
abbrev wsJ90 : List Cond := u_ws RJ9 TJ9 0
theorem nmJ9 : ∀ a, a < 0 → ∀ b, b < 0 → a ≠ b → (TJ9 a).2.1 ≠ (TJ9 b).2.1 := by decide +kernel
theorem tyJ9_ok : ∀ k, k < 0 → parseFieldDescriptor (TJ9 k).2.2.1 = some (tyJ9 k) := by decide +kernel
abbrev cJ9_max_7cf53 : ByteArray := prog_12_method_65_code
def yJ9_max_7cf53 : MethodName := ⟨RJ9, "max", "(II)I"⟩
abbrev cJ9_min_7cf53 : ByteArray := prog_12_method_69_code
def yJ9_min_7cf53 : MethodName := ⟨RJ9, "min", "(II)I"⟩
def RJ0 : String := "java/lang/String"
def TJ0 : u_T := fun k => match k with
  | _ => ("", "", "", false)
def tyJ0 : Nat → FieldType := fun k => match k with
  | _ => .int
abbrev wsJ00 : List Cond := u_ws RJ0 TJ0 0
theorem nmJ0 : ∀ a, a < 0 → ∀ b, b < 0 → a ≠ b → (TJ0 a).2.1 ≠ (TJ0 b).2.1 := by decide +kernel
theorem tyJ0_ok : ∀ k, k < 0 → parseFieldDescriptor (TJ0 k).2.2.1 = some (tyJ0 k) := by decide +kernel
def RJ10 : String := "java/lang/System"
def TJ10 : u_T := fun k => match k with
  | _ => ("", "", "", false)
def tyJ10 : Nat → FieldType := fun k => match k with
  | _ => .int
abbrev wsJ100 : List Cond := u_ws RJ10 TJ10 0
theorem nmJ10 : ∀ a, a < 0 → ∀ b, b < 0 → a ≠ b → (TJ10 a).2.1 ≠ (TJ10 b).2.1 := by decide +kernel
theorem tyJ10_ok : ∀ k, k < 0 → parseFieldDescriptor (TJ10 k).2.2.1 = some (tyJ10 k) := by decide +kernel
def RL : String := "HotPanLocksLaw"
abbrev cL_cell : ByteArray := method_2_code
def yL_cell : MethodName := ⟨RL, "cell", "([II)I"⟩
abbrev cL_at : ByteArray := method_3_code
def yL_at : MethodName := ⟨RL, "at", "(II)I"⟩
abbrev cL_rowOf : ByteArray := method_4_code
def yL_rowOf : MethodName := ⟨RL, "rowOf", "([I[II)I"⟩
abbrev cL_clashes : ByteArray := method_5_code
def yL_clashes : MethodName := ⟨RL, "clashes", "([IIIII)Z"⟩
abbrev cL_waits : ByteArray := method_6_code
def yL_waits : MethodName := ⟨RL, "waits", "([I[I[II)I"⟩
abbrev cL_over : ByteArray := method_7_code
def yL_over : MethodName := ⟨RL, "over", "([I[I[II)I"⟩
abbrev cL_leave : ByteArray := method_8_code
def yL_leave : MethodName := ⟨RL, "leave", "([I[III)V"⟩
abbrev cL_settle : ByteArray := method_9_code
def yL_settle : MethodName := ⟨RL, "settle", "([I[I[I[II)I"⟩
abbrev cL_work : ByteArray := method_10_code
def yL_work : MethodName := ⟨RL, "work", "([II)I"⟩
abbrev cL_asks : ByteArray := method_11_code
def yL_asks : MethodName := ⟨RL, "asks", "([I[I[I[I[I[IIII)I"⟩
abbrev cL_act : ByteArray := method_12_code
def yL_act : MethodName := ⟨RL, "act", "(LHotPanLocks;II[I[I[I[I[I[I[I[I[I)Z"⟩
abbrev cL_agree : ByteArray := method_13_code
def yL_agree : MethodName := ⟨RL, "agree", "(LHotPanLocks;[I[I[I[I[I[I[I[I[I)Z"⟩
abbrev cL_law : ByteArray := code
def yL_law : MethodName := ⟨RL, "law", "([I)Z"⟩
abbrev vwCl : List vw_C := [(RX0, TX0, 3), (RX1, TX1, 1), (RX2, TX2, 12), (RX3, TX3, 2), (RX4, TX4, 4)]
end
section
def TX0_init : List (Nat × Instr × Nat) := [(0, .aload_n 0, 1), (1, .invokespecial 3, 3), (4, .aload_n 0, 1), (5, .bipush 6, 2), (7, .anewarray 9, 3), (10, .putfield 11, 3), (13, .aload_n 0, 1), (14, .iconst 0, 1), (15, .putfield 17, 3), (18, .aload_n 0, 1), (19, .iconst 0, 1), (20, .putfield 21, 3), (23, .iconst 0, 1), (24, .istore_n 1, 1), (25, .iload_n 1, 1), (26, .aload_n 0, 1), (27, .getfield 11, 3), (30, .arraylength, 1), (31, .if_icmp .ge 22, 3), (34, .aload_n 0, 1), (35, .getfield 11, 3), (38, .iload_n 1, 1), (39, .new 9, 3), (42, .dup, 1), (43, .invokespecial 24, 3), (46, .aastore, 1), (47, .iinc 1 1, 3), (50, .goto (-25), 3), (53, .return_, 1)]
def TX0_slotAt : List (Nat × Instr × Nat) := [(0, .iload_n 1, 1), (1, .ifCond .lt 21, 3), (4, .iload_n 1, 1), (5, .aload_n 0, 1), (6, .getfield 11, 3), (9, .arraylength, 1), (10, .if_icmp .ge 12, 3), (13, .aload_n 0, 1), (14, .getfield 11, 3), (17, .iload_n 1, 1), (18, .aaload, 1), (19, .goto 4, 3), (22, .aconst_null, 1), (23, .areturn, 1)]
def TX0_save : List (Nat × Instr × Nat) := [(0, .aload_n 0, 1), (1, .aload_n 0, 1), (2, .getfield 17, 3), (5, .invokevirtual 25, 3), (8, .astore_n 2, 1), (9, .aload_n 2, 1), (10, .ifnonnull 4, 3), (13, .return_, 1), (14, .aload_n 2, 1), (15, .aload_n 1, 1), (16, .invokevirtual 29, 3), (19, .aload_n 0, 1), (20, .aload_n 0, 1), (21, .getfield 17, 3), (24, .iconst 1, 1), (25, .iadd, 1), (26, .bipush 6, 2), (28, .if_icmp .ge 12, 3), (31, .aload_n 0, 1), (32, .getfield 17, 3), (35, .iconst 1, 1), (36, .iadd, 1), (37, .goto 4, 3), (40, .iconst 0, 1), (41, .putfield 17, 3), (44, .aload_n 0, 1), (45, .bipush 6, 2), (47, .aload_n 0, 1), (48, .getfield 21, 3), (51, .iconst 1, 1), (52, .iadd, 1), (53, .invokestatic 33, 3), (56, .putfield 21, 3), (59, .return_, 1)]
def TX1_init : List (Nat × Instr × Nat) := [(0, .aload_n 0, 1), (1, .invokespecial 1, 3), (4, .aload_n 0, 1), (5, .iload_n 1, 1), (6, .ifCond .le 7, 3), (9, .iload_n 1, 1), (10, .goto 4, 3), (13, .iconst 0, 1), (14, .newarray .int, 2), (16, .putfield 7, 3), (19, .return_, 1)]
def TX1_at : List (Nat × Instr × Nat) := [(0, .iload_n 1, 1), (1, .ifCond .lt 21, 3), (4, .iload_n 1, 1), (5, .aload_n 0, 1), (6, .getfield 7, 3), (9, .arraylength, 1), (10, .if_icmp .ge 12, 3), (13, .aload_n 0, 1), (14, .getfield 7, 3), (17, .iload_n 1, 1), (18, .iaload, 1), (19, .goto 4, 3), (22, .iconst 0, 1), (23, .ireturn, 1)]
def TX1_put : List (Nat × Instr × Nat) := [(0, .iload_n 1, 1), (1, .ifCond .lt 19, 3), (4, .iload_n 1, 1), (5, .aload_n 0, 1), (6, .getfield 7, 3), (9, .arraylength, 1), (10, .if_icmp .ge 10, 3), (13, .aload_n 0, 1), (14, .getfield 7, 3), (17, .iload_n 1, 1), (18, .iload_n 2, 1), (19, .iastore, 1), (20, .return_, 1)]
def TX1_raise : List (Nat × Instr × Nat) := [(0, .aload_n 0, 1), (1, .iload_n 1, 1), (2, .aload_n 0, 1), (3, .iload_n 1, 1), (4, .invokevirtual 13, 3), (7, .iconst 1, 1), (8, .iadd, 1), (9, .invokevirtual 17, 3), (12, .return_, 1)]
def TX1_sum : List (Nat × Instr × Nat) := [(0, .iconst 0, 1), (1, .istore_n 1, 1), (2, .iconst 0, 1), (3, .istore_n 2, 1), (4, .iload_n 2, 1), (5, .aload_n 0, 1), (6, .getfield 7, 3), (9, .arraylength, 1), (10, .if_icmp .ge 18, 3), (13, .iload_n 1, 1), (14, .aload_n 0, 1), (15, .getfield 7, 3), (18, .iload_n 2, 1), (19, .iaload, 1), (20, .iadd, 1), (21, .istore_n 1, 1), (22, .iinc 2 1, 3), (25, .goto (-21), 3), (28, .iload_n 1, 1), (29, .ireturn, 1)]
def TX1_copyFrom : List (Nat × Instr × Nat) := [(0, .aload_n 1, 1), (1, .ifnull 34, 3), (4, .aload_n 1, 1), (5, .getfield 7, 3), (8, .arraylength, 1), (9, .aload_n 0, 1), (10, .getfield 7, 3), (13, .arraylength, 1), (14, .if_icmp .ne 21, 3), (17, .aload_n 1, 1), (18, .getfield 7, 3), (21, .iconst 0, 1), (22, .aload_n 0, 1), (23, .getfield 7, 3), (26, .iconst 0, 1), (27, .aload_n 0, 1), (28, .getfield 7, 3), (31, .arraylength, 1), (32, .invokestatic 21, 3), (35, .return_, 1)]
def TX2_init_0 : List (Nat × Instr × Nat) := [(0, .aload_n 0, 1), (1, .invokespecial 3, 3), (4, .aload_n 0, 1), (5, .new 9, 3), (8, .dup, 1), (9, .bipush 96, 2), (11, .invokespecial 11, 3), (14, .putfield 14, 3), (17, .aload_n 0, 1), (18, .new 9, 3), (21, .dup, 1), (22, .bipush 8, 2), (24, .invokespecial 11, 3), (27, .putfield 20, 3), (30, .aload_n 0, 1), (31, .new 9, 3), (34, .dup, 1), (35, .bipush 8, 2), (37, .invokespecial 11, 3), (40, .putfield 23, 3), (43, .aload_n 0, 1), (44, .new 9, 3), (47, .dup, 1), (48, .bipush 8, 2), (50, .invokespecial 11, 3), (53, .putfield 26, 3), (56, .aload_n 0, 1), (57, .new 9, 3), (60, .dup, 1), (61, .bipush 12, 2), (63, .invokespecial 11, 3), (66, .putfield 29, 3), (69, .aload_n 0, 1), (70, .new 9, 3), (73, .dup, 1), (74, .bipush 12, 2), (76, .invokespecial 11, 3), (79, .putfield 32, 3), (82, .aload_n 0, 1), (83, .new 9, 3), (86, .dup, 1), (87, .bipush 8, 2), (89, .invokespecial 11, 3), (92, .putfield 35, 3), (95, .aload_n 0, 1), (96, .new 9, 3), (99, .dup, 1), (100, .bipush 8, 2), (102, .invokespecial 11, 3), (105, .putfield 38, 3), (108, .aload_n 0, 1), (109, .new 9, 3), (112, .dup, 1), (113, .bipush 8, 2), (115, .invokespecial 11, 3), (118, .putfield 41, 3), (121, .aload_n 0, 1), (122, .new 9, 3), (125, .dup, 1), (126, .bipush 8, 2)]
def TX2_init_1 : List (Nat × Instr × Nat) := [(128, .invokespecial 11, 3), (131, .putfield 44, 3), (134, .aload_n 0, 1), (135, .new 9, 3), (138, .dup, 1), (139, .iconst 3, 1), (140, .invokespecial 11, 3), (143, .putfield 47, 3), (146, .aload_n 0, 1), (147, .iconst 0, 1), (148, .putfield 50, 3), (151, .aload_n 0, 1), (152, .getfield 47, 3), (155, .iconst 0, 1), (156, .bipush 60, 2), (158, .invokevirtual 54, 3), (161, .aload_n 0, 1), (162, .getfield 47, 3), (165, .iconst 1, 1), (166, .iconst 1, 1), (167, .invokevirtual 54, 3), (170, .aload_n 0, 1), (171, .getfield 47, 3), (174, .iconst 2, 1), (175, .iconst 2, 1), (176, .invokevirtual 54, 3), (179, .iconst 0, 1), (180, .istore_n 1, 1), (181, .iload_n 1, 1), (182, .bipush 8, 2), (184, .if_icmp .ge 18, 3), (187, .aload_n 0, 1), (188, .getfield 20, 3), (191, .iload_n 1, 1), (192, .iconst (-1), 1), (193, .invokevirtual 54, 3), (196, .iinc 1 1, 3), (199, .goto (-18), 3), (202, .return_, 1)]
def TX2_init : List (Nat × Instr × Nat) := TX2_init_0 ++ TX2_init_1
def TX2_copyFrom_0 : List (Nat × Instr × Nat) := [(0, .aload_n 1, 1), (1, .ifnonnull 4, 3), (4, .return_, 1), (5, .aload_n 0, 1), (6, .getfield 14, 3), (9, .aload_n 1, 1), (10, .getfield 14, 3), (13, .invokevirtual 58, 3), (16, .aload_n 0, 1), (17, .getfield 20, 3), (20, .aload_n 1, 1), (21, .getfield 20, 3), (24, .invokevirtual 58, 3), (27, .aload_n 0, 1), (28, .getfield 23, 3), (31, .aload_n 1, 1), (32, .getfield 23, 3), (35, .invokevirtual 58, 3), (38, .aload_n 0, 1), (39, .getfield 26, 3), (42, .aload_n 1, 1), (43, .getfield 26, 3), (46, .invokevirtual 58, 3), (49, .aload_n 0, 1), (50, .getfield 29, 3), (53, .aload_n 1, 1), (54, .getfield 29, 3), (57, .invokevirtual 58, 3), (60, .aload_n 0, 1), (61, .getfield 32, 3), (64, .aload_n 1, 1), (65, .getfield 32, 3), (68, .invokevirtual 58, 3), (71, .aload_n 0, 1), (72, .getfield 35, 3), (75, .aload_n 1, 1), (76, .getfield 35, 3), (79, .invokevirtual 58, 3), (82, .aload_n 0, 1), (83, .getfield 38, 3), (86, .aload_n 1, 1), (87, .getfield 38, 3), (90, .invokevirtual 58, 3), (93, .aload_n 0, 1), (94, .getfield 41, 3), (97, .aload_n 1, 1), (98, .getfield 41, 3), (101, .invokevirtual 58, 3), (104, .aload_n 0, 1), (105, .getfield 44, 3), (108, .aload_n 1, 1), (109, .getfield 44, 3), (112, .invokevirtual 58, 3), (115, .aload_n 0, 1), (116, .getfield 47, 3), (119, .aload_n 1, 1), (120, .getfield 47, 3), (123, .invokevirtual 58, 3), (126, .aload_n 0, 1), (127, .aload_n 1, 1)]
def TX2_copyFrom_1 : List (Nat × Instr × Nat) := [(128, .getfield 50, 3), (131, .putfield 50, 3), (134, .return_, 1)]
def TX2_copyFrom : List (Nat × Instr × Nat) := TX2_copyFrom_0 ++ TX2_copyFrom_1
def TX2_isWaiting : List (Nat × Instr × Nat) := [(0, .aload_n 0, 1), (1, .getfield 20, 3), (4, .iload_n 1, 1), (5, .invokevirtual 62, 3), (8, .iconst (-1), 1), (9, .if_icmp .eq 7, 3), (12, .iconst 1, 1), (13, .goto 4, 3), (16, .iconst 0, 1), (17, .ireturn, 1)]
def TX2_queueLength : List (Nat × Instr × Nat) := [(0, .iconst 0, 1), (1, .istore_n 2, 1), (2, .iconst 0, 1), (3, .istore_n 3, 1), (4, .iload_n 3, 1), (5, .bipush 8, 2), (7, .if_icmp .ge 24, 3), (10, .aload_n 0, 1), (11, .getfield 20, 3), (14, .iload_n 3, 1), (15, .invokevirtual 62, 3), (18, .iload_n 1, 1), (19, .if_icmp .ne 6, 3), (22, .iinc 2 1, 3), (25, .iinc 3 1, 3), (28, .goto (-24), 3), (31, .iload_n 2, 1), (32, .ireturn, 1)]
def TX2_handAt : List (Nat × Instr × Nat) := [(0, .iconst 0, 1), (1, .istore_n 3, 1), (2, .iload_n 3, 1), (3, .bipush 8, 2), (5, .if_icmp .ge 35, 3), (8, .aload_n 0, 1), (9, .getfield 20, 3), (12, .iload_n 3, 1), (13, .invokevirtual 62, 3), (16, .iload_n 1, 1), (17, .if_icmp .ne 17, 3), (20, .aload_n 0, 1), (21, .getfield 26, 3), (24, .iload_n 3, 1), (25, .invokevirtual 62, 3), (28, .iload_n 2, 1), (29, .if_icmp .ne 5, 3), (32, .iload_n 3, 1), (33, .ireturn, 1), (34, .iinc 3 1, 3), (37, .goto (-35), 3), (40, .iconst (-1), 1), (41, .ireturn, 1)]
def TX2_enqueue : List (Nat × Instr × Nat) := [(0, .aload_n 0, 1), (1, .getfield 14, 3), (4, .iload_n 1, 1), (5, .iload_n 2, 1), (6, .invokestatic 66, 3), (9, .invokevirtual 62, 3), (12, .ifCond .le 11, 3), (15, .aload_n 0, 1), (16, .iload_n 2, 1), (17, .invokevirtual 70, 3), (20, .goto 8, 3), (23, .aload_n 0, 1), (24, .iload_n 2, 1), (25, .invokevirtual 73, 3), (28, .istore 4, 2), (30, .iconst 0, 1), (31, .istore 5, 2), (33, .iload 5, 2), (35, .bipush 8, 2), (37, .if_icmp .ge 45, 3), (40, .aload_n 0, 1), (41, .getfield 20, 3), (44, .iload 5, 2), (46, .invokevirtual 62, 3), (49, .iload_n 2, 1), (50, .if_icmp .ne 26, 3), (53, .aload_n 0, 1), (54, .getfield 26, 3), (57, .iload 5, 2), (59, .invokevirtual 62, 3), (62, .iload 4, 2), (64, .if_icmp .lt 12, 3), (67, .aload_n 0, 1), (68, .getfield 26, 3), (71, .iload 5, 2), (73, .invokevirtual 76, 3), (76, .iinc 5 1, 3), (79, .goto (-46), 3), (82, .aload_n 0, 1), (83, .getfield 20, 3), (86, .iload_n 1, 1), (87, .iload_n 2, 1), (88, .invokevirtual 54, 3), (91, .aload_n 0, 1), (92, .getfield 23, 3), (95, .iload_n 1, 1), (96, .iload_n 3, 1), (97, .invokevirtual 54, 3), (100, .aload_n 0, 1), (101, .getfield 26, 3), (104, .iload_n 1, 1), (105, .iload 4, 2), (107, .invokevirtual 54, 3), (110, .return_, 1)]
def TX2_placeForHolder : List (Nat × Instr × Nat) := [(0, .iconst 0, 1), (1, .istore_n 2, 1), (2, .iconst 0, 1), (3, .istore_n 3, 1), (4, .iload_n 3, 1), (5, .bipush 8, 2), (7, .if_icmp .ge 51, 3), (10, .aload_n 0, 1), (11, .getfield 20, 3), (14, .iload_n 3, 1), (15, .invokevirtual 62, 3), (18, .iload_n 1, 1), (19, .if_icmp .ne 33, 3), (22, .aload_n 0, 1), (23, .getfield 14, 3), (26, .iload_n 3, 1), (27, .iload_n 1, 1), (28, .invokestatic 66, 3), (31, .invokevirtual 62, 3), (34, .ifCond .le 18, 3), (37, .iload_n 2, 1), (38, .aload_n 0, 1), (39, .getfield 26, 3), (42, .iload_n 3, 1), (43, .invokevirtual 62, 3), (46, .iconst 1, 1), (47, .iadd, 1), (48, .invokestatic 79, 3), (51, .istore_n 2, 1), (52, .iinc 3 1, 3), (55, .goto (-51), 3), (58, .iload_n 2, 1), (59, .ireturn, 1)]
def TX2_dequeue : List (Nat × Instr × Nat) := [(0, .aload_n 0, 1), (1, .getfield 20, 3), (4, .iload_n 1, 1), (5, .invokevirtual 62, 3), (8, .istore_n 2, 1), (9, .aload_n 0, 1), (10, .getfield 26, 3), (13, .iload_n 1, 1), (14, .invokevirtual 62, 3), (17, .istore_n 3, 1), (18, .aload_n 0, 1), (19, .getfield 20, 3), (22, .iload_n 1, 1), (23, .iconst (-1), 1), (24, .invokevirtual 54, 3), (27, .aload_n 0, 1), (28, .getfield 23, 3), (31, .iload_n 1, 1), (32, .iconst 0, 1), (33, .invokevirtual 54, 3), (36, .iconst 0, 1), (37, .istore 4, 2), (39, .iload 4, 2), (41, .bipush 8, 2), (43, .if_icmp .ge 55, 3), (46, .aload_n 0, 1), (47, .getfield 20, 3), (50, .iload 4, 2), (52, .invokevirtual 62, 3), (55, .iload_n 2, 1), (56, .if_icmp .ne 36, 3), (59, .aload_n 0, 1), (60, .getfield 26, 3), (63, .iload 4, 2), (65, .invokevirtual 62, 3), (68, .iload_n 3, 1), (69, .if_icmp .le 23, 3), (72, .aload_n 0, 1), (73, .getfield 26, 3), (76, .iload 4, 2), (78, .aload_n 0, 1), (79, .getfield 26, 3), (82, .iload 4, 2), (84, .invokevirtual 62, 3), (87, .iconst 1, 1), (88, .isub, 1), (89, .invokevirtual 54, 3), (92, .iinc 4 1, 3), (95, .goto (-56), 3), (98, .return_, 1)]
def TX2_clashes : List (Nat × Instr × Nat) := [(0, .iconst 0, 1), (1, .istore 5, 2), (3, .iload 5, 2), (5, .bipush 8, 2), (7, .if_icmp .ge 43, 3), (10, .iload 5, 2), (12, .iload_n 3, 1), (13, .if_icmp .eq 31, 3), (16, .iload 5, 2), (18, .iload 4, 2), (20, .if_icmp .eq 24, 3), (23, .aload_n 0, 1), (24, .getfield 14, 3), (27, .iload 5, 2), (29, .iload_n 1, 1), (30, .invokestatic 66, 3), (33, .invokevirtual 62, 3), (36, .iload_n 2, 1), (37, .iadd, 1), (38, .iconst 3, 1), (39, .if_icmp .le 5, 3), (42, .iconst 1, 1), (43, .ireturn, 1), (44, .iinc 5 1, 3), (47, .goto (-44), 3), (50, .iconst 0, 1), (51, .ireturn, 1)]
def TX2_grant : List (Nat × Instr × Nat) := [(0, .aload_n 0, 1), (1, .getfield 14, 3), (4, .iload_n 1, 1), (5, .aload_n 0, 1), (6, .getfield 20, 3), (9, .iload_n 1, 1), (10, .invokevirtual 62, 3), (13, .invokestatic 66, 3), (16, .aload_n 0, 1), (17, .getfield 23, 3), (20, .iload_n 1, 1), (21, .invokevirtual 62, 3), (24, .invokevirtual 54, 3), (27, .aload_n 0, 1), (28, .getfield 41, 3), (31, .iload_n 1, 1), (32, .invokevirtual 76, 3), (35, .aload_n 0, 1), (36, .iload_n 1, 1), (37, .invokevirtual 84, 3), (40, .return_, 1)]
def TX2_settle : List (Nat × Instr × Nat) := [(0, .iconst 0, 1), (1, .istore_n 2, 1), (2, .iconst 0, 1), (3, .istore_n 3, 1), (4, .iload_n 3, 1), (5, .bipush 8, 2), (7, .if_icmp .ge 56, 3), (10, .aload_n 0, 1), (11, .iload_n 1, 1), (12, .iconst 0, 1), (13, .invokevirtual 87, 3), (16, .istore 4, 2), (18, .iload 4, 2), (20, .iconst (-1), 1), (21, .if_icmp .eq 42, 3), (24, .aload_n 0, 1), (25, .iload_n 1, 1), (26, .aload_n 0, 1), (27, .getfield 23, 3), (30, .iload 4, 2), (32, .invokevirtual 62, 3), (35, .iload 4, 2), (37, .iload 4, 2), (39, .invokevirtual 90, 3), (42, .ifCond .eq 6, 3), (45, .goto 18, 3), (48, .aload_n 0, 1), (49, .iload 4, 2), (51, .invokevirtual 94, 3), (54, .iinc 2 1, 3), (57, .iinc 3 1, 3), (60, .goto (-56), 3), (63, .iload_n 2, 1), (64, .ireturn, 1)]
def TX2_direct_0 : List (Nat × Instr × Nat) := [(0, .aload_n 0, 1), (1, .iload_n 1, 1), (2, .invokevirtual 97, 3), (5, .ifCond .ne 5, 3), (8, .iconst 0, 1), (9, .ireturn, 1), (10, .aload_n 0, 1), (11, .getfield 20, 3), (14, .iload_n 1, 1), (15, .invokevirtual 62, 3), (18, .istore_n 2, 1), (19, .aload_n 0, 1), (20, .getfield 23, 3), (23, .iload_n 1, 1), (24, .invokevirtual 62, 3), (27, .istore_n 3, 1), (28, .aload_n 0, 1), (29, .getfield 26, 3), (32, .iload_n 1, 1), (33, .invokevirtual 62, 3), (36, .istore 4, 2), (38, .iconst 0, 1), (39, .istore 5, 2), (41, .iconst 0, 1), (42, .istore 6, 2), (44, .iload 6, 2), (46, .bipush 8, 2), (48, .if_icmp .ge 94, 3), (51, .aload_n 0, 1), (52, .getfield 14, 3), (55, .iload 6, 2), (57, .iload_n 2, 1), (58, .invokestatic 66, 3), (61, .invokevirtual 62, 3), (64, .iload_n 3, 1), (65, .iadd, 1), (66, .iconst 3, 1), (67, .if_icmp .le 7, 3), (70, .iconst 1, 1), (71, .goto 4, 3), (74, .iconst 0, 1), (75, .istore 7, 2), (77, .aload_n 0, 1), (78, .getfield 20, 3), (81, .iload 6, 2), (83, .invokevirtual 62, 3), (86, .iload_n 2, 1), (87, .if_icmp .ne 21, 3), (90, .aload_n 0, 1), (91, .getfield 26, 3), (94, .iload 6, 2), (96, .invokevirtual 62, 3), (99, .iload 4, 2), (101, .if_icmp .ge 7, 3), (104, .iconst 1, 1), (105, .goto 4, 3), (108, .iconst 0, 1), (109, .istore 8, 2), (111, .iload 6, 2), (113, .iload_n 1, 1)]
def TX2_direct_1 : List (Nat × Instr × Nat) := [(114, .if_icmp .eq 22, 3), (117, .iload 7, 2), (119, .ifCond .ne 8, 3), (122, .iload 8, 2), (124, .ifCond .eq 12, 3), (127, .iload 5, 2), (129, .iconst 1, 1), (130, .iload 6, 2), (132, .ishl, 1), (133, .ior, 1), (134, .istore 5, 2), (136, .iinc 6 1, 3), (139, .goto (-95), 3), (142, .iload 5, 2), (144, .ireturn, 1)]
def TX2_direct : List (Nat × Instr × Nat) := TX2_direct_0 ++ TX2_direct_1
def TX2_reach : List (Nat × Instr × Nat) := [(0, .aload_n 0, 1), (1, .iload_n 1, 1), (2, .invokevirtual 101, 3), (5, .istore_n 2, 1), (6, .iconst 0, 1), (7, .istore_n 3, 1), (8, .iload_n 3, 1), (9, .bipush 8, 2), (11, .if_icmp .ge 60, 3), (14, .iload_n 2, 1), (15, .istore 4, 2), (17, .iconst 0, 1), (18, .istore 5, 2), (20, .iload 5, 2), (22, .bipush 8, 2), (24, .if_icmp .ge 29, 3), (27, .iload_n 2, 1), (28, .iload 5, 2), (30, .invokestatic 104, 3), (33, .ifCond .eq 14, 3), (36, .iload 4, 2), (38, .aload_n 0, 1), (39, .iload 5, 2), (41, .invokevirtual 101, 3), (44, .ior, 1), (45, .istore 4, 2), (47, .iinc 5 1, 3), (50, .goto (-30), 3), (53, .iload 4, 2), (55, .iload_n 2, 1), (56, .if_icmp .ne 6, 3), (59, .goto 12, 3), (62, .iload 4, 2), (64, .istore_n 2, 1), (65, .iinc 3 1, 3), (68, .goto (-60), 3), (71, .iload_n 2, 1), (72, .ireturn, 1)]
def TX2_loserFor : List (Nat × Instr × Nat) := [(0, .aload_n 0, 1), (1, .iload_n 1, 1), (2, .invokevirtual 108, 3), (5, .istore_n 2, 1), (6, .iconst (-1), 1), (7, .istore_n 3, 1), (8, .iload_n 2, 1), (9, .iload_n 1, 1), (10, .invokestatic 104, 3), (13, .ifCond .ne 5, 3), (16, .iload_n 3, 1), (17, .ireturn, 1), (18, .iconst 0, 1), (19, .istore 4, 2), (21, .iconst 0, 1), (22, .istore 5, 2), (24, .iload 5, 2), (26, .bipush 8, 2), (28, .if_icmp .ge 58, 3), (31, .iload_n 2, 1), (32, .iload 5, 2), (34, .invokestatic 104, 3), (37, .ifCond .eq 43, 3), (40, .aload_n 0, 1), (41, .iload 5, 2), (43, .invokevirtual 108, 3), (46, .iload_n 1, 1), (47, .invokestatic 104, 3), (50, .ifCond .eq 30, 3), (53, .aload_n 0, 1), (54, .iload 5, 2), (56, .invokevirtual 111, 3), (59, .istore 6, 2), (61, .iload_n 3, 1), (62, .iconst (-1), 1), (63, .if_icmp .eq 10, 3), (66, .iload 6, 2), (68, .iload 4, 2), (70, .if_icmp .gt 10, 3), (73, .iload 5, 2), (75, .istore_n 3, 1), (76, .iload 6, 2), (78, .istore 4, 2), (80, .iinc 5 1, 3), (83, .goto (-59), 3), (86, .iload_n 3, 1), (87, .ireturn, 1)]
def TX2_strip : List (Nat × Instr × Nat) := [(0, .iconst 0, 1), (1, .istore_n 2, 1), (2, .iconst 0, 1), (3, .istore_n 3, 1), (4, .iload_n 3, 1), (5, .bipush 12, 2), (7, .if_icmp .ge 43, 3), (10, .aload_n 0, 1), (11, .getfield 14, 3), (14, .iload_n 1, 1), (15, .iload_n 3, 1), (16, .invokestatic 66, 3), (19, .invokevirtual 62, 3), (22, .ifCond .le 22, 3), (25, .iload_n 2, 1), (26, .iconst 1, 1), (27, .iload_n 3, 1), (28, .ishl, 1), (29, .ior, 1), (30, .istore_n 2, 1), (31, .aload_n 0, 1), (32, .getfield 14, 3), (35, .iload_n 1, 1), (36, .iload_n 3, 1), (37, .invokestatic 66, 3), (40, .iconst 0, 1), (41, .invokevirtual 54, 3), (44, .iinc 3 1, 3), (47, .goto (-43), 3), (50, .aload_n 0, 1), (51, .iload_n 1, 1), (52, .invokevirtual 97, 3), (55, .ifCond .eq 21, 3), (58, .iload_n 2, 1), (59, .iconst 1, 1), (60, .aload_n 0, 1), (61, .getfield 20, 3), (64, .iload_n 1, 1), (65, .invokevirtual 62, 3), (68, .ishl, 1), (69, .ior, 1), (70, .istore_n 2, 1), (71, .aload_n 0, 1), (72, .iload_n 1, 1), (73, .invokevirtual 84, 3), (76, .aload_n 0, 1), (77, .getfield 38, 3), (80, .iload_n 1, 1), (81, .invokevirtual 76, 3), (84, .iload_n 2, 1), (85, .ireturn, 1)]
def TX2_takeAsking_0 : List (Nat × Instr × Nat) := [(0, .aload_n 0, 1), (1, .getfield 44, 3), (4, .iload_n 1, 1), (5, .invokevirtual 76, 3), (8, .aload_n 0, 1), (9, .getfield 14, 3), (12, .iload_n 1, 1), (13, .iload_n 2, 1), (14, .invokestatic 66, 3), (17, .invokevirtual 62, 3), (20, .iload_n 3, 1), (21, .if_icmp .lt 13, 3), (24, .aload_n 0, 1), (25, .getfield 41, 3), (28, .iload_n 1, 1), (29, .invokevirtual 76, 3), (32, .iconst 0, 1), (33, .ireturn, 1), (34, .aload_n 0, 1), (35, .iload_n 1, 1), (36, .iload_n 2, 1), (37, .iload_n 3, 1), (38, .invokevirtual 114, 3), (41, .aload_n 0, 1), (42, .iload_n 2, 1), (43, .invokevirtual 118, 3), (46, .pop, 1), (47, .iconst 0, 1), (48, .istore 4, 2), (50, .iload 4, 2), (52, .bipush 8, 2), (54, .if_icmp .ge 66, 3), (57, .aload_n 0, 1), (58, .iload_n 1, 1), (59, .invokevirtual 121, 3), (62, .istore 5, 2), (64, .iload 5, 2), (66, .iconst (-1), 1), (67, .if_icmp .ne 6, 3), (70, .goto 50, 3), (73, .aload_n 0, 1), (74, .iload 5, 2), (76, .invokevirtual 124, 3), (79, .istore 6, 2), (81, .iconst 0, 1), (82, .istore 7, 2), (84, .iload 7, 2), (86, .bipush 12, 2), (88, .if_icmp .ge 26, 3), (91, .iload 6, 2), (93, .iload 7, 2), (95, .invokestatic 104, 3), (98, .ifCond .eq 10, 3), (101, .aload_n 0, 1), (102, .iload 7, 2), (104, .invokevirtual 118, 3), (107, .pop, 1), (108, .iinc 7 1, 3), (111, .goto (-27), 3), (114, .iinc 4 1, 3)]
def TX2_takeAsking_1 : List (Nat × Instr × Nat) := [(117, .goto (-67), 3), (120, .aload_n 0, 1), (121, .getfield 14, 3), (124, .iload_n 1, 1), (125, .iload_n 2, 1), (126, .invokestatic 66, 3), (129, .invokevirtual 62, 3), (132, .iload_n 3, 1), (133, .if_icmp .lt 5, 3), (136, .iconst 0, 1), (137, .ireturn, 1), (138, .aload_n 0, 1), (139, .iload_n 1, 1), (140, .invokevirtual 97, 3), (143, .ifCond .eq 7, 3), (146, .iconst 1, 1), (147, .goto 4, 3), (150, .iconst 2, 1), (151, .ireturn, 1)]
def TX2_takeAsking : List (Nat × Instr × Nat) := TX2_takeAsking_0 ++ TX2_takeAsking_1
def TX2_canLetGo : List (Nat × Instr × Nat) := [(0, .aload_n 0, 1), (1, .getfield 14, 3), (4, .iload_n 1, 1), (5, .iload_n 2, 1), (6, .invokestatic 66, 3), (9, .invokevirtual 62, 3), (12, .ifCond .le 19, 3), (15, .aload_n 0, 1), (16, .getfield 20, 3), (19, .iload_n 1, 1), (20, .invokevirtual 62, 3), (23, .iload_n 2, 1), (24, .if_icmp .eq 7, 3), (27, .iconst 1, 1), (28, .goto 4, 3), (31, .iconst 0, 1), (32, .ireturn, 1)]
def TX2_letGo : List (Nat × Instr × Nat) := [(0, .aload_n 0, 1), (1, .getfield 14, 3), (4, .iload_n 1, 1), (5, .iload_n 2, 1), (6, .invokestatic 66, 3), (9, .iconst 0, 1), (10, .invokevirtual 54, 3), (13, .aload_n 0, 1), (14, .iload_n 2, 1), (15, .invokevirtual 118, 3), (18, .ireturn, 1)]
def TX2_stopWaiting : List (Nat × Instr × Nat) := [(0, .aload_n 0, 1), (1, .getfield 20, 3), (4, .iload_n 1, 1), (5, .invokevirtual 62, 3), (8, .istore_n 2, 1), (9, .aload_n 0, 1), (10, .iload_n 1, 1), (11, .invokevirtual 84, 3), (14, .aload_n 0, 1), (15, .iload_n 2, 1), (16, .invokevirtual 118, 3), (19, .pop, 1), (20, .iload_n 2, 1), (21, .ireturn, 1)]
def TX2_canPassOver : List (Nat × Instr × Nat) := [(0, .aload_n 0, 1), (1, .iload_n 1, 1), (2, .iload_n 2, 1), (3, .invokevirtual 127, 3), (6, .ifCond .eq 42, 3), (9, .iload_n 1, 1), (10, .iload_n 3, 1), (11, .if_icmp .eq 37, 3), (14, .aload_n 0, 1), (15, .getfield 20, 3), (18, .iload_n 3, 1), (19, .invokevirtual 62, 3), (22, .iload_n 2, 1), (23, .if_icmp .ne 25, 3), (26, .aload_n 0, 1), (27, .iload_n 2, 1), (28, .aload_n 0, 1), (29, .getfield 23, 3), (32, .iload_n 3, 1), (33, .invokevirtual 62, 3), (36, .iload_n 1, 1), (37, .iload_n 3, 1), (38, .invokevirtual 90, 3), (41, .ifCond .ne 7, 3), (44, .iconst 1, 1), (45, .goto 4, 3), (48, .iconst 0, 1), (49, .ireturn, 1)]
def TX2_passOver : List (Nat × Instr × Nat) := [(0, .aload_n 0, 1), (1, .getfield 14, 3), (4, .iload_n 1, 1), (5, .iload_n 2, 1), (6, .invokestatic 66, 3), (9, .iconst 0, 1), (10, .invokevirtual 54, 3), (13, .aload_n 0, 1), (14, .iload_n 3, 1), (15, .invokevirtual 94, 3), (18, .aload_n 0, 1), (19, .getfield 32, 3), (22, .iload_n 2, 1), (23, .invokevirtual 76, 3), (26, .aload_n 0, 1), (27, .iload_n 2, 1), (28, .invokevirtual 118, 3), (31, .pop, 1), (32, .aload_n 0, 1), (33, .getfield 14, 3), (36, .iload_n 3, 1), (37, .iload_n 2, 1), (38, .invokestatic 66, 3), (41, .invokevirtual 62, 3), (44, .ireturn, 1)]
def TX2_takersOf : List (Nat × Instr × Nat) := [(0, .iconst 0, 1), (1, .istore_n 3, 1), (2, .iconst 0, 1), (3, .istore 4, 2), (5, .iload 4, 2), (7, .bipush 8, 2), (9, .if_icmp .ge 27, 3), (12, .aload_n 0, 1), (13, .iload_n 1, 1), (14, .iload_n 2, 1), (15, .iload 4, 2), (17, .invokevirtual 130, 3), (20, .ifCond .eq 10, 3), (23, .iload_n 3, 1), (24, .iconst 1, 1), (25, .iload 4, 2), (27, .ishl, 1), (28, .ior, 1), (29, .istore_n 3, 1), (30, .iinc 4 1, 3), (33, .goto (-28), 3), (36, .iload_n 3, 1), (37, .ireturn, 1)]
def TX2_heatAfter : List (Nat × Instr × Nat) := [(0, .iload_n 2, 1), (1, .ifCond .le 22, 3), (4, .sipush 1000, 3), (7, .iload_n 1, 1), (8, .iload_n 2, 1), (9, .aload_n 0, 1), (10, .getfield 47, 3), (13, .iconst 1, 1), (14, .invokevirtual 62, 3), (17, .imul, 1), (18, .iadd, 1), (19, .invokestatic 134, 3), (22, .ireturn, 1), (23, .iconst 0, 1), (24, .iload_n 1, 1), (25, .aload_n 0, 1), (26, .getfield 47, 3), (29, .iconst 2, 1), (30, .invokevirtual 62, 3), (33, .isub, 1), (34, .invokestatic 79, 3), (37, .ireturn, 1)]
def TX2_tick : List (Nat × Instr × Nat) := [(0, .aload_n 0, 1), (1, .dup, 1), (2, .getfield 50, 3), (5, .iconst 1, 1), (6, .iadd, 1), (7, .putfield 50, 3), (10, .iconst 0, 1), (11, .istore_n 1, 1), (12, .iload_n 1, 1), (13, .bipush 12, 2), (15, .if_icmp .ge 34, 3), (18, .aload_n 0, 1), (19, .getfield 29, 3), (22, .iload_n 1, 1), (23, .aload_n 0, 1), (24, .aload_n 0, 1), (25, .getfield 29, 3), (28, .iload_n 1, 1), (29, .invokevirtual 62, 3), (32, .aload_n 0, 1), (33, .iload_n 1, 1), (34, .invokevirtual 137, 3), (37, .invokevirtual 140, 3), (40, .invokevirtual 54, 3), (43, .iinc 1 1, 3), (46, .goto (-34), 3), (49, .iconst 0, 1), (50, .istore_n 1, 1), (51, .iconst 0, 1), (52, .istore_n 2, 1), (53, .iload_n 2, 1), (54, .bipush 12, 2), (56, .if_icmp .ge 36, 3), (59, .aload_n 0, 1), (60, .getfield 29, 3), (63, .iload_n 2, 1), (64, .invokevirtual 62, 3), (67, .aload_n 0, 1), (68, .getfield 47, 3), (71, .iconst 0, 1), (72, .invokevirtual 62, 3), (75, .if_icmp .le 11, 3), (78, .iload_n 1, 1), (79, .aload_n 0, 1), (80, .iload_n 2, 1), (81, .invokevirtual 143, 3), (84, .iadd, 1), (85, .istore_n 1, 1), (86, .iinc 2 1, 3), (89, .goto (-36), 3), (92, .iload_n 1, 1), (93, .ireturn, 1)]
def TX2_burn : List (Nat × Instr × Nat) := [(0, .iconst 0, 1), (1, .istore_n 2, 1), (2, .iconst 0, 1), (3, .istore_n 3, 1), (4, .iload_n 3, 1), (5, .bipush 8, 2), (7, .if_icmp .ge 48, 3), (10, .aload_n 0, 1), (11, .getfield 14, 3), (14, .iload_n 3, 1), (15, .iload_n 1, 1), (16, .invokestatic 66, 3), (19, .invokevirtual 62, 3), (22, .ifCond .le 27, 3), (25, .aload_n 0, 1), (26, .getfield 14, 3), (29, .iload_n 3, 1), (30, .iload_n 1, 1), (31, .invokestatic 66, 3), (34, .iconst 0, 1), (35, .invokevirtual 54, 3), (38, .aload_n 0, 1), (39, .getfield 35, 3), (42, .iload_n 3, 1), (43, .invokevirtual 76, 3), (46, .iinc 2 1, 3), (49, .iinc 3 1, 3), (52, .goto (-48), 3), (55, .iload_n 2, 1), (56, .ifCond .le 9, 3), (59, .aload_n 0, 1), (60, .iload_n 1, 1), (61, .invokevirtual 118, 3), (64, .pop, 1), (65, .iload_n 2, 1), (66, .ireturn, 1)]
def TX2_greatestMode : List (Nat × Instr × Nat) := [(0, .iconst 0, 1), (1, .istore_n 2, 1), (2, .iconst 0, 1), (3, .istore_n 3, 1), (4, .iload_n 3, 1), (5, .bipush 8, 2), (7, .if_icmp .ge 26, 3), (10, .iload_n 2, 1), (11, .aload_n 0, 1), (12, .getfield 14, 3), (15, .iload_n 3, 1), (16, .iload_n 1, 1), (17, .invokestatic 66, 3), (20, .invokevirtual 62, 3), (23, .invokestatic 79, 3), (26, .istore_n 2, 1), (27, .iinc 3 1, 3), (30, .goto (-26), 3), (33, .iload_n 2, 1), (34, .ireturn, 1)]
def TX2_holders : List (Nat × Instr × Nat) := [(0, .iconst 0, 1), (1, .istore_n 2, 1), (2, .iconst 0, 1), (3, .istore_n 3, 1), (4, .iload_n 3, 1), (5, .bipush 8, 2), (7, .if_icmp .ge 30, 3), (10, .aload_n 0, 1), (11, .getfield 14, 3), (14, .iload_n 3, 1), (15, .iload_n 1, 1), (16, .invokestatic 66, 3), (19, .invokevirtual 62, 3), (22, .ifCond .le 9, 3), (25, .iload_n 2, 1), (26, .iconst 1, 1), (27, .iload_n 3, 1), (28, .ishl, 1), (29, .ior, 1), (30, .istore_n 2, 1), (31, .iinc 3 1, 3), (34, .goto (-30), 3), (37, .iload_n 2, 1), (38, .ireturn, 1)]
def TX2_locksOf : List (Nat × Instr × Nat) := [(0, .iconst 0, 1), (1, .istore_n 2, 1), (2, .iconst 0, 1), (3, .istore_n 3, 1), (4, .iload_n 3, 1), (5, .bipush 12, 2), (7, .if_icmp .ge 27, 3), (10, .aload_n 0, 1), (11, .getfield 14, 3), (14, .iload_n 1, 1), (15, .iload_n 3, 1), (16, .invokestatic 66, 3), (19, .invokevirtual 62, 3), (22, .ifCond .le 6, 3), (25, .iinc 2 1, 3), (28, .iinc 3 1, 3), (31, .goto (-27), 3), (34, .iload_n 2, 1), (35, .ireturn, 1)]
def TX2_work : List (Nat × Instr × Nat) := [(0, .iconst 0, 1), (1, .istore_n 2, 1), (2, .iconst 0, 1), (3, .istore_n 3, 1), (4, .iload_n 3, 1), (5, .bipush 12, 2), (7, .if_icmp .ge 24, 3), (10, .iload_n 2, 1), (11, .aload_n 0, 1), (12, .getfield 14, 3), (15, .iload_n 1, 1), (16, .iload_n 3, 1), (17, .invokestatic 66, 3), (20, .invokevirtual 62, 3), (23, .iadd, 1), (24, .istore_n 2, 1), (25, .iinc 3 1, 3), (28, .goto (-24), 3), (31, .iload_n 2, 1), (32, .ireturn, 1)]
def TX2_lockCount : List (Nat × Instr × Nat) := [(0, .iconst 0, 1), (1, .istore_n 1, 1), (2, .iconst 0, 1), (3, .istore_n 2, 1), (4, .iload_n 2, 1), (5, .bipush 8, 2), (7, .if_icmp .ge 17, 3), (10, .iload_n 1, 1), (11, .aload_n 0, 1), (12, .iload_n 2, 1), (13, .invokevirtual 146, 3), (16, .iadd, 1), (17, .istore_n 1, 1), (18, .iinc 2 1, 3), (21, .goto (-17), 3), (24, .iload_n 1, 1), (25, .ireturn, 1)]
def TX2_waitingCount : List (Nat × Instr × Nat) := [(0, .iconst 0, 1), (1, .istore_n 1, 1), (2, .iconst 0, 1), (3, .istore_n 2, 1), (4, .iload_n 2, 1), (5, .bipush 8, 2), (7, .if_icmp .ge 20, 3), (10, .aload_n 0, 1), (11, .iload_n 2, 1), (12, .invokevirtual 97, 3), (15, .ifCond .eq 6, 3), (18, .iinc 1 1, 3), (21, .iinc 2 1, 3), (24, .goto (-20), 3), (27, .iload_n 1, 1), (28, .ireturn, 1)]
def TX2_heldRows : List (Nat × Instr × Nat) := [(0, .iconst 0, 1), (1, .istore_n 1, 1), (2, .iconst 0, 1), (3, .istore_n 2, 1), (4, .iload_n 2, 1), (5, .bipush 12, 2), (7, .if_icmp .ge 20, 3), (10, .aload_n 0, 1), (11, .iload_n 2, 1), (12, .invokevirtual 149, 3), (15, .ifCond .eq 6, 3), (18, .iinc 1 1, 3), (21, .iinc 2 1, 3), (24, .goto (-20), 3), (27, .iload_n 1, 1), (28, .ireturn, 1)]
def TX2_handPart : List (Nat × Instr × Nat) := [(0, .iload_n 2, 1), (1, .tableswitch 110 0 7 #[47, 53, 59, 68, 77, 83, 92, 101], 47), (48, .aload_n 0, 1), (49, .iload_n 1, 1), (50, .invokevirtual 146, 3), (53, .ireturn, 1), (54, .aload_n 0, 1), (55, .iload_n 1, 1), (56, .invokevirtual 111, 3), (59, .ireturn, 1), (60, .aload_n 0, 1), (61, .getfield 20, 3), (64, .iload_n 1, 1), (65, .invokevirtual 62, 3), (68, .ireturn, 1), (69, .aload_n 0, 1), (70, .getfield 23, 3), (73, .iload_n 1, 1), (74, .invokevirtual 62, 3), (77, .ireturn, 1), (78, .aload_n 0, 1), (79, .iload_n 1, 1), (80, .invokevirtual 101, 3), (83, .ireturn, 1), (84, .aload_n 0, 1), (85, .getfield 35, 3), (88, .iload_n 1, 1), (89, .invokevirtual 62, 3), (92, .ireturn, 1), (93, .aload_n 0, 1), (94, .getfield 38, 3), (97, .iload_n 1, 1), (98, .invokevirtual 62, 3), (101, .ireturn, 1), (102, .aload_n 0, 1), (103, .getfield 41, 3), (106, .iload_n 1, 1), (107, .invokevirtual 62, 3), (110, .ireturn, 1), (111, .aload_n 0, 1), (112, .getfield 44, 3), (115, .iload_n 1, 1), (116, .invokevirtual 62, 3), (119, .ireturn, 1)]
def TX2_rowPart : List (Nat × Instr × Nat) := [(0, .iload_n 2, 1), (1, .tableswitch 71 0 4 #[35, 44, 50, 56, 62], 35), (36, .aload_n 0, 1), (37, .getfield 29, 3), (40, .iload_n 1, 1), (41, .invokevirtual 62, 3), (44, .ireturn, 1), (45, .aload_n 0, 1), (46, .iload_n 1, 1), (47, .invokevirtual 137, 3), (50, .ireturn, 1), (51, .aload_n 0, 1), (52, .iload_n 1, 1), (53, .invokevirtual 149, 3), (56, .ireturn, 1), (57, .aload_n 0, 1), (58, .iload_n 1, 1), (59, .invokevirtual 73, 3), (62, .ireturn, 1), (63, .aload_n 0, 1), (64, .getfield 32, 3), (67, .iload_n 1, 1), (68, .invokevirtual 62, 3), (71, .ireturn, 1), (72, .aload_n 0, 1), (73, .iload_n 1, 1), (74, .iconst 0, 1), (75, .invokevirtual 87, 3), (78, .ireturn, 1)]
def TX2_requestPart : List (Nat × Instr × Nat) := [(0, .aload_n 0, 1), (1, .iload_n 1, 1), (2, .iload_n 2, 1), (3, .invokevirtual 87, 3), (6, .istore 4, 2), (8, .iload 4, 2), (10, .iconst (-1), 1), (11, .if_icmp .eq 7, 3), (14, .iload_n 3, 1), (15, .ifCond .ne 8, 3), (18, .iload 4, 2), (20, .goto 12, 3), (23, .aload_n 0, 1), (24, .getfield 23, 3), (27, .iload 4, 2), (29, .invokevirtual 62, 3), (32, .ireturn, 1)]
def TX2_total : List (Nat × Instr × Nat) := [(0, .iload_n 1, 1), (1, .tableswitch 102 0 7 #[47, 52, 57, 62, 70, 78, 86, 94], 47), (48, .aload_n 0, 1), (49, .invokevirtual 152, 3), (52, .ireturn, 1), (53, .aload_n 0, 1), (54, .invokevirtual 156, 3), (57, .ireturn, 1), (58, .aload_n 0, 1), (59, .getfield 50, 3), (62, .ireturn, 1), (63, .aload_n 0, 1), (64, .getfield 35, 3), (67, .invokevirtual 159, 3), (70, .ireturn, 1), (71, .aload_n 0, 1), (72, .getfield 38, 3), (75, .invokevirtual 159, 3), (78, .ireturn, 1), (79, .aload_n 0, 1), (80, .getfield 32, 3), (83, .invokevirtual 159, 3), (86, .ireturn, 1), (87, .aload_n 0, 1), (88, .getfield 41, 3), (91, .invokevirtual 159, 3), (94, .ireturn, 1), (95, .aload_n 0, 1), (96, .getfield 44, 3), (99, .invokevirtual 159, 3), (102, .ireturn, 1), (103, .aload_n 0, 1), (104, .invokevirtual 162, 3), (107, .ireturn, 1)]
def TX3_init : List (Nat × Instr × Nat) := [(0, .aload_n 0, 1), (1, .invokespecial 3, 3), (4, .aload_n 0, 1), (5, .new 9, 3), (8, .dup, 1), (9, .bipush 60, 2), (11, .invokespecial 11, 3), (14, .putfield 14, 3), (17, .aload_n 0, 1), (18, .iconst 0, 1), (19, .putfield 20, 3), (22, .return_, 1)]
def TX4_init : List (Nat × Instr × Nat) := [(0, .aload_n 0, 1), (1, .invokespecial 1, 3), (4, .aload_n 0, 1), (5, .new 7, 3), (8, .dup, 1), (9, .invokespecial 9, 3), (12, .putfield 10, 3), (15, .aload_n 0, 1), (16, .new 7, 3), (19, .dup, 1), (20, .invokespecial 9, 3), (23, .putfield 16, 3), (26, .aload_n 0, 1), (27, .new 19, 3), (30, .dup, 1), (31, .invokespecial 21, 3), (34, .putfield 22, 3), (37, .aload_n 0, 1), (38, .new 26, 3), (41, .dup, 1), (42, .invokespecial 28, 3), (45, .putfield 29, 3), (48, .return_, 1)]
def TX4_ask : List (Nat × Instr × Nat) := [(0, .iload_n 1, 1), (1, .invokestatic 33, 3), (4, .ifCond .eq 10, 3), (7, .iload_n 2, 1), (8, .invokestatic 37, 3), (11, .ifCond .ne 13, 3), (14, .new 40, 3), (17, .dup, 1), (18, .ldc 42, 2), (20, .invokespecial 44, 3), (23, .athrow, 1), (24, .iload_n 3, 1), (25, .invokestatic 47, 3), (28, .ifCond .ne 13, 3), (31, .new 50, 3), (34, .dup, 1), (35, .ldc 52, 2), (37, .invokespecial 54, 3), (40, .athrow, 1), (41, .aload_n 0, 1), (42, .getfield 10, 3), (45, .iload_n 1, 1), (46, .invokevirtual 55, 3), (49, .ifCond .eq 13, 3), (52, .new 58, 3), (55, .dup, 1), (56, .ldc 60, 2), (58, .invokespecial 62, 3), (61, .athrow, 1), (62, .aload_n 0, 1), (63, .getfield 22, 3), (66, .aload_n 0, 1), (67, .getfield 10, 3), (70, .invokevirtual 63, 3), (73, .aload_n 0, 1), (74, .getfield 10, 3), (77, .iload_n 1, 1), (78, .iload_n 2, 1), (79, .iload_n 3, 1), (80, .invokevirtual 67, 3), (83, .ireturn, 1)]
def TX4_release : List (Nat × Instr × Nat) := [(0, .iload_n 1, 1), (1, .invokestatic 33, 3), (4, .ifCond .eq 10, 3), (7, .iload_n 2, 1), (8, .invokestatic 37, 3), (11, .ifCond .ne 13, 3), (14, .new 40, 3), (17, .dup, 1), (18, .ldc 42, 2), (20, .invokespecial 44, 3), (23, .athrow, 1), (24, .aload_n 0, 1), (25, .getfield 10, 3), (28, .iload_n 1, 1), (29, .iload_n 2, 1), (30, .invokevirtual 71, 3), (33, .ifCond .ne 13, 3), (36, .new 58, 3), (39, .dup, 1), (40, .ldc 75, 2), (42, .invokespecial 62, 3), (45, .athrow, 1), (46, .aload_n 0, 1), (47, .getfield 22, 3), (50, .aload_n 0, 1), (51, .getfield 10, 3), (54, .invokevirtual 63, 3), (57, .aload_n 0, 1), (58, .getfield 10, 3), (61, .iload_n 1, 1), (62, .iload_n 2, 1), (63, .invokevirtual 77, 3), (66, .ireturn, 1)]
def TX4_giveUp : List (Nat × Instr × Nat) := [(0, .iload_n 1, 1), (1, .invokestatic 33, 3), (4, .ifCond .ne 13, 3), (7, .new 40, 3), (10, .dup, 1), (11, .ldc 81, 2), (13, .invokespecial 44, 3), (16, .athrow, 1), (17, .aload_n 0, 1), (18, .getfield 10, 3), (21, .iload_n 1, 1), (22, .invokevirtual 55, 3), (25, .ifCond .ne 13, 3), (28, .new 58, 3), (31, .dup, 1), (32, .ldc 83, 2), (34, .invokespecial 62, 3), (37, .athrow, 1), (38, .aload_n 0, 1), (39, .getfield 22, 3), (42, .aload_n 0, 1), (43, .getfield 10, 3), (46, .invokevirtual 63, 3), (49, .aload_n 0, 1), (50, .getfield 10, 3), (53, .iload_n 1, 1), (54, .invokevirtual 85, 3), (57, .ireturn, 1)]
def TX4_handOn : List (Nat × Instr × Nat) := [(0, .iload_n 1, 1), (1, .invokestatic 33, 3), (4, .ifCond .eq 17, 3), (7, .iload_n 2, 1), (8, .invokestatic 37, 3), (11, .ifCond .eq 10, 3), (14, .iload_n 3, 1), (15, .invokestatic 33, 3), (18, .ifCond .ne 13, 3), (21, .new 40, 3), (24, .dup, 1), (25, .ldc 42, 2), (27, .invokespecial 44, 3), (30, .athrow, 1), (31, .aload_n 0, 1), (32, .getfield 10, 3), (35, .iload_n 1, 1), (36, .iload_n 2, 1), (37, .iload_n 3, 1), (38, .invokevirtual 89, 3), (41, .ifCond .ne 13, 3), (44, .new 58, 3), (47, .dup, 1), (48, .ldc 93, 2), (50, .invokespecial 62, 3), (53, .athrow, 1), (54, .aload_n 0, 1), (55, .getfield 22, 3), (58, .aload_n 0, 1), (59, .getfield 10, 3), (62, .invokevirtual 63, 3), (65, .aload_n 0, 1), (66, .getfield 10, 3), (69, .iload_n 1, 1), (70, .iload_n 2, 1), (71, .iload_n 3, 1), (72, .invokevirtual 95, 3), (75, .ireturn, 1)]
def TX4_pass : List (Nat × Instr × Nat) := [(0, .iload_n 1, 1), (1, .iconst 1, 1), (2, .if_icmp .lt 9, 3), (5, .iload_n 1, 1), (6, .bipush 100, 2), (8, .if_icmp .le 13, 3), (11, .new 50, 3), (14, .dup, 1), (15, .ldc 98, 2), (17, .invokespecial 54, 3), (20, .athrow, 1), (21, .aload_n 0, 1), (22, .getfield 22, 3), (25, .aload_n 0, 1), (26, .getfield 10, 3), (29, .invokevirtual 63, 3), (32, .iconst 0, 1), (33, .istore_n 2, 1), (34, .iconst 0, 1), (35, .istore_n 3, 1), (36, .iload_n 3, 1), (37, .iload_n 1, 1), (38, .if_icmp .ge 19, 3), (41, .iload_n 2, 1), (42, .aload_n 0, 1), (43, .getfield 10, 3), (46, .invokevirtual 100, 3), (49, .iadd, 1), (50, .istore_n 2, 1), (51, .iinc 3 1, 3), (54, .goto (-18), 3), (57, .iload_n 2, 1), (58, .ireturn, 1)]
def TX4_set : List (Nat × Instr × Nat) := [(0, .iload_n 1, 1), (1, .invokestatic 124, 3), (4, .ifCond .ne 13, 3), (7, .new 40, 3), (10, .dup, 1), (11, .ldc 127, 2), (13, .invokespecial 44, 3), (16, .athrow, 1), (17, .iload_n 2, 1), (18, .iload_n 1, 1), (19, .invokestatic 129, 3), (22, .if_icmp .lt 11, 3), (25, .iload_n 2, 1), (26, .iload_n 1, 1), (27, .invokestatic 132, 3), (30, .if_icmp .le 13, 3), (33, .new 50, 3), (36, .dup, 1), (37, .ldc 135, 2), (39, .invokespecial 54, 3), (42, .athrow, 1), (43, .aload_n 0, 1), (44, .getfield 22, 3), (47, .aload_n 0, 1), (48, .getfield 10, 3), (51, .invokevirtual 63, 3), (54, .aload_n 0, 1), (55, .getfield 10, 3), (58, .getfield 137, 3), (61, .iload_n 1, 1), (62, .invokevirtual 115, 3), (65, .istore_n 3, 1), (66, .aload_n 0, 1), (67, .getfield 10, 3), (70, .getfield 137, 3), (73, .iload_n 1, 1), (74, .iload_n 2, 1), (75, .invokevirtual 120, 3), (78, .iload_n 3, 1), (79, .ireturn, 1)]
def TX4_lock : List (Nat × Instr × Nat) := [(0, .iload_n 1, 1), (1, .invokestatic 33, 3), (4, .ifCond .eq 10, 3), (7, .iload_n 2, 1), (8, .invokestatic 37, 3), (11, .ifCond .ne 13, 3), (14, .new 40, 3), (17, .dup, 1), (18, .ldc 42, 2), (20, .invokespecial 44, 3), (23, .athrow, 1), (24, .aload_n 0, 1), (25, .getfield 10, 3), (28, .getfield 178, 3), (31, .iload_n 1, 1), (32, .iload_n 2, 1), (33, .invokestatic 181, 3), (36, .invokevirtual 115, 3), (39, .ireturn, 1)]
def TX4_hand : List (Nat × Instr × Nat) := [(0, .iload_n 1, 1), (1, .invokestatic 33, 3), (4, .ifCond .ne 13, 3), (7, .new 40, 3), (10, .dup, 1), (11, .ldc 81, 2), (13, .invokespecial 44, 3), (16, .athrow, 1), (17, .iload_n 2, 1), (18, .ifCond .lt 9, 3), (21, .iload_n 2, 1), (22, .bipush 9, 2), (24, .if_icmp .lt 13, 3), (27, .new 50, 3), (30, .dup, 1), (31, .ldc 184, 2), (33, .invokespecial 54, 3), (36, .athrow, 1), (37, .aload_n 0, 1), (38, .getfield 10, 3), (41, .iload_n 1, 1), (42, .iload_n 2, 1), (43, .invokevirtual 186, 3), (46, .ireturn, 1)]
def TX4_row : List (Nat × Instr × Nat) := [(0, .iload_n 1, 1), (1, .invokestatic 37, 3), (4, .ifCond .ne 13, 3), (7, .new 40, 3), (10, .dup, 1), (11, .ldc 104, 2), (13, .invokespecial 44, 3), (16, .athrow, 1), (17, .iload_n 2, 1), (18, .ifCond .lt 9, 3), (21, .iload_n 2, 1), (22, .bipush 6, 2), (24, .if_icmp .lt 13, 3), (27, .new 50, 3), (30, .dup, 1), (31, .ldc 189, 2), (33, .invokespecial 54, 3), (36, .athrow, 1), (37, .aload_n 0, 1), (38, .getfield 10, 3), (41, .iload_n 1, 1), (42, .iload_n 2, 1), (43, .invokevirtual 191, 3), (46, .ireturn, 1)]
def TX4_request : List (Nat × Instr × Nat) := [(0, .iload_n 1, 1), (1, .invokestatic 37, 3), (4, .ifCond .ne 13, 3), (7, .new 40, 3), (10, .dup, 1), (11, .ldc 104, 2), (13, .invokespecial 44, 3), (16, .athrow, 1), (17, .iload_n 2, 1), (18, .ifCond .lt 18, 3), (21, .iload_n 2, 1), (22, .bipush 8, 2), (24, .if_icmp .ge 12, 3), (27, .iload_n 3, 1), (28, .ifCond .lt 8, 3), (31, .iload_n 3, 1), (32, .iconst 2, 1), (33, .if_icmp .lt 13, 3), (36, .new 50, 3), (39, .dup, 1), (40, .ldc 194, 2), (42, .invokespecial 54, 3), (45, .athrow, 1), (46, .aload_n 0, 1), (47, .getfield 10, 3), (50, .iload_n 1, 1), (51, .iload_n 2, 1), (52, .iload_n 3, 1), (53, .invokevirtual 196, 3), (56, .ireturn, 1)]
def TX4_count : List (Nat × Instr × Nat) := [(0, .iload_n 1, 1), (1, .ifCond .lt 9, 3), (4, .iload_n 1, 1), (5, .bipush 10, 2), (7, .if_icmp .lt 13, 3), (10, .new 50, 3), (13, .dup, 1), (14, .ldc 199, 2), (16, .invokespecial 54, 3), (19, .athrow, 1), (20, .aload_n 0, 1), (21, .iload_n 1, 1), (22, .invokevirtual 201, 3), (25, .ireturn, 1)]
def TX4_takers : List (Nat × Instr × Nat) := [(0, .iload_n 1, 1), (1, .invokestatic 33, 3), (4, .ifCond .eq 10, 3), (7, .iload_n 2, 1), (8, .invokestatic 37, 3), (11, .ifCond .ne 13, 3), (14, .new 40, 3), (17, .dup, 1), (18, .ldc 42, 2), (20, .invokespecial 44, 3), (23, .athrow, 1), (24, .aload_n 0, 1), (25, .getfield 10, 3), (28, .iload_n 1, 1), (29, .iload_n 2, 1), (30, .invokevirtual 212, 3), (33, .ireturn, 1)]
def TX4_waitsFor : List (Nat × Instr × Nat) := [(0, .iload_n 1, 1), (1, .invokestatic 33, 3), (4, .ifCond .ne 13, 3), (7, .new 40, 3), (10, .dup, 1), (11, .ldc 81, 2), (13, .invokespecial 44, 3), (16, .athrow, 1), (17, .aload_n 0, 1), (18, .getfield 10, 3), (21, .iload_n 1, 1), (22, .invokevirtual 218, 3), (25, .ireturn, 1)]
def TX4_isHand : List (Nat × Instr × Nat) := [(0, .iload_n 0, 1), (1, .ifCond .lt 13, 3), (4, .iload_n 0, 1), (5, .bipush 8, 2), (7, .if_icmp .ge 7, 3), (10, .iconst 1, 1), (11, .goto 4, 3), (14, .iconst 0, 1), (15, .ireturn, 1)]
def TX4_isRow : List (Nat × Instr × Nat) := [(0, .iload_n 0, 1), (1, .ifCond .lt 13, 3), (4, .iload_n 0, 1), (5, .bipush 12, 2), (7, .if_icmp .ge 7, 3), (10, .iconst 1, 1), (11, .goto 4, 3), (14, .iconst 0, 1), (15, .ireturn, 1)]
def TX4_isMode : List (Nat × Instr × Nat) := [(0, .iload_n 0, 1), (1, .iconst 1, 1), (2, .if_icmp .lt 12, 3), (5, .iload_n 0, 1), (6, .iconst 3, 1), (7, .if_icmp .gt 7, 3), (10, .iconst 1, 1), (11, .goto 4, 3), (14, .iconst 0, 1), (15, .ireturn, 1)]
def TX4_isSetting : List (Nat × Instr × Nat) := [(0, .iload_n 0, 1), (1, .ifCond .lt 12, 3), (4, .iload_n 0, 1), (5, .iconst 3, 1), (6, .if_icmp .ge 7, 3), (9, .iconst 1, 1), (10, .goto 4, 3), (13, .iconst 0, 1), (14, .ireturn, 1)]
def TX4_leastValue : List (Nat × Instr × Nat) := [(0, .iload_n 0, 1), (1, .ifCond .ne 8, 3), (4, .bipush 10, 2), (6, .goto 4, 3), (9, .iconst 0, 1), (10, .ireturn, 1)]
def TX4_greatestValue : List (Nat × Instr × Nat) := [(0, .iload_n 0, 1), (1, .ifCond .ne 7, 3), (4, .sipush 900, 3), (7, .ireturn, 1), (8, .iload_n 0, 1), (9, .iconst 1, 1), (10, .if_icmp .ne 8, 3), (13, .bipush 20, 2), (15, .goto 5, 3), (18, .bipush 50, 2), (20, .ireturn, 1)]
def TX4_cell : List (Nat × Instr × Nat) := [(0, .iload_n 0, 1), (1, .bipush 12, 2), (3, .imul, 1), (4, .iload_n 1, 1), (5, .iadd, 1), (6, .ireturn, 1)]
def TX4_has : List (Nat × Instr × Nat) := [(0, .iload_n 0, 1), (1, .iload_n 1, 1), (2, .ishr, 1), (3, .iconst 1, 1), (4, .iand, 1), (5, .ifCond .eq 7, 3), (8, .iconst 1, 1), (9, .goto 4, 3), (12, .iconst 0, 1), (13, .ireturn, 1)]
def TX4_numberOf : List (Nat × Instr × Nat) := [(0, .iload_n 1, 1), (1, .bipush 9, 2), (3, .if_icmp .ne 13, 3), (6, .aload_n 0, 1), (7, .getfield 22, 3), (10, .getfield 169, 3), (13, .goto 11, 3), (16, .aload_n 0, 1), (17, .getfield 10, 3), (20, .iload_n 1, 1), (21, .invokevirtual 255, 3), (24, .ireturn, 1)]
def TJ9_max_7cf53 : List (Nat × Instr × Nat) := [(0, .iload_n 0, 1), (1, .iload_n 1, 1), (2, .if_icmp .lt 7, 3), (5, .iload_n 0, 1), (6, .goto 4, 3), (9, .iload_n 1, 1), (10, .ireturn, 1)]
def TJ9_min_7cf53 : List (Nat × Instr × Nat) := [(0, .iload_n 0, 1), (1, .iload_n 1, 1), (2, .if_icmp .gt 7, 3), (5, .iload_n 0, 1), (6, .goto 4, 3), (9, .iload_n 1, 1), (10, .ireturn, 1)]
def TL_cell : List (Nat × Instr × Nat) := [(0, .iload_n 1, 1), (1, .aload_n 0, 1), (2, .arraylength, 1), (3, .if_icmp .ge 9, 3), (6, .aload_n 0, 1), (7, .iload_n 1, 1), (8, .iaload, 1), (9, .goto 11, 3), (12, .ldc 7, 2), (14, .iload_n 1, 1), (15, .sipush 191, 3), (18, .iadd, 1), (19, .imul, 1), (20, .ireturn, 1)]
def TL_at : List (Nat × Instr × Nat) := [(0, .iload_n 0, 1), (1, .iconst 1, 1), (2, .iushr, 1), (3, .iload_n 1, 1), (4, .irem, 1), (5, .ireturn, 1)]
def TL_rowOf : List (Nat × Instr × Nat) := [(0, .iconst 0, 1), (1, .istore_n 3, 1), (2, .iload_n 3, 1), (3, .bipush 6, 2), (5, .if_icmp .ge 43, 3), (8, .iconst 0, 1), (9, .istore 4, 2), (11, .iload 4, 2), (13, .aload_n 1, 1), (14, .iload_n 3, 1), (15, .iaload, 1), (16, .if_icmp .ge 26, 3), (19, .aload_n 0, 1), (20, .iconst 5, 1), (21, .iload_n 3, 1), (22, .imul, 1), (23, .iload 4, 2), (25, .iadd, 1), (26, .iaload, 1), (27, .bipush 8, 2), (29, .irem, 1), (30, .iload_n 2, 1), (31, .if_icmp .ne 5, 3), (34, .iload_n 3, 1), (35, .ireturn, 1), (36, .iinc 4 1, 3), (39, .goto (-28), 3), (42, .iinc 3 1, 3), (45, .goto (-43), 3), (48, .iconst (-1), 1), (49, .ireturn, 1)]
def TL_clashes : List (Nat × Instr × Nat) := [(0, .iconst 0, 1), (1, .istore 5, 2), (3, .iload 5, 2), (5, .iconst 5, 1), (6, .if_icmp .ge 51, 3), (9, .iload 5, 2), (11, .iload_n 3, 1), (12, .if_icmp .eq 39, 3), (15, .iload 5, 2), (17, .iload 4, 2), (19, .if_icmp .eq 32, 3), (22, .aload_n 0, 1), (23, .bipush 6, 2), (25, .iload 5, 2), (27, .imul, 1), (28, .iload_n 1, 1), (29, .iadd, 1), (30, .iaload, 1), (31, .ifCond .le 20, 3), (34, .aload_n 0, 1), (35, .bipush 6, 2), (37, .iload 5, 2), (39, .imul, 1), (40, .iload_n 1, 1), (41, .iadd, 1), (42, .iaload, 1), (43, .iload_n 2, 1), (44, .iadd, 1), (45, .iconst 3, 1), (46, .if_icmp .le 5, 3), (49, .iconst 1, 1), (50, .ireturn, 1), (51, .iinc 5 1, 3), (54, .goto (-51), 3), (57, .iconst 0, 1), (58, .ireturn, 1)]
def TL_waits_0 : List (Nat × Instr × Nat) := [(0, .aload_n 1, 1), (1, .aload_n 2, 1), (2, .iload_n 3, 1), (3, .invokestatic 8, 3), (6, .istore 4, 2), (8, .iload 4, 2), (10, .ifCond .ge 5, 3), (13, .iconst 0, 1), (14, .ireturn, 1), (15, .iconst 0, 1), (16, .istore 5, 2), (18, .iconst 0, 1), (19, .istore 6, 2), (21, .iconst 0, 1), (22, .istore 7, 2), (24, .iload 6, 2), (26, .ifCond .ne 61, 3), (29, .aload_n 1, 1), (30, .iconst 5, 1), (31, .iload 4, 2), (33, .imul, 1), (34, .iload 7, 2), (36, .iadd, 1), (37, .iaload, 1), (38, .bipush 8, 2), (40, .irem, 1), (41, .iload_n 3, 1), (42, .if_icmp .ne 20, 3), (45, .aload_n 1, 1), (46, .iconst 5, 1), (47, .iload 4, 2), (49, .imul, 1), (50, .iload 7, 2), (52, .iadd, 1), (53, .iaload, 1), (54, .bipush 8, 2), (56, .idiv, 1), (57, .istore 6, 2), (59, .goto 22, 3), (62, .iload 5, 2), (64, .iconst 1, 1), (65, .aload_n 1, 1), (66, .iconst 5, 1), (67, .iload 4, 2), (69, .imul, 1), (70, .iload 7, 2), (72, .iadd, 1), (73, .iaload, 1), (74, .bipush 8, 2), (76, .irem, 1), (77, .ishl, 1), (78, .ior, 1), (79, .istore 5, 2), (81, .iinc 7 1, 3), (84, .goto (-60), 3), (87, .iconst 0, 1), (88, .istore 7, 2), (90, .iload 7, 2), (92, .iconst 5, 1), (93, .if_icmp .ge 54, 3)]
def TL_waits_1 : List (Nat × Instr × Nat) := [(96, .iload 7, 2), (98, .iload_n 3, 1), (99, .if_icmp .eq 42, 3), (102, .aload_n 0, 1), (103, .bipush 6, 2), (105, .iload 7, 2), (107, .imul, 1), (108, .iload 4, 2), (110, .iadd, 1), (111, .iaload, 1), (112, .ifCond .le 29, 3), (115, .aload_n 0, 1), (116, .bipush 6, 2), (118, .iload 7, 2), (120, .imul, 1), (121, .iload 4, 2), (123, .iadd, 1), (124, .iaload, 1), (125, .iload 6, 2), (127, .iadd, 1), (128, .iconst 3, 1), (129, .if_icmp .le 12, 3), (132, .iload 5, 2), (134, .iconst 1, 1), (135, .iload 7, 2), (137, .ishl, 1), (138, .ior, 1), (139, .istore 5, 2), (141, .iinc 7 1, 3), (144, .goto (-54), 3), (147, .iload 5, 2), (149, .ireturn, 1)]
def TL_waits : List (Nat × Instr × Nat) := TL_waits_0 ++ TL_waits_1
def TL_over : List (Nat × Instr × Nat) := [(0, .aload_n 0, 1), (1, .aload_n 1, 1), (2, .aload_n 2, 1), (3, .iload_n 3, 1), (4, .invokestatic 14, 3), (7, .istore 4, 2), (9, .iconst 0, 1), (10, .istore 5, 2), (12, .iload 5, 2), (14, .iconst 5, 1), (15, .if_icmp .ge 48, 3), (18, .iconst 0, 1), (19, .istore 6, 2), (21, .iload 6, 2), (23, .iconst 5, 1), (24, .if_icmp .ge 33, 3), (27, .iload 4, 2), (29, .iload 6, 2), (31, .ishr, 1), (32, .iconst 1, 1), (33, .iand, 1), (34, .iconst 1, 1), (35, .if_icmp .ne 16, 3), (38, .iload 4, 2), (40, .aload_n 0, 1), (41, .aload_n 1, 1), (42, .aload_n 2, 1), (43, .iload 6, 2), (45, .invokestatic 14, 3), (48, .ior, 1), (49, .istore 4, 2), (51, .iinc 6 1, 3), (54, .goto (-33), 3), (57, .iinc 5 1, 3), (60, .goto (-48), 3), (63, .iload 4, 2), (65, .ireturn, 1)]
def TL_leave : List (Nat × Instr × Nat) := [(0, .aload_n 1, 1), (1, .iload_n 2, 1), (2, .dup2, 1), (3, .iaload, 1), (4, .iconst 1, 1), (5, .isub, 1), (6, .iastore, 1), (7, .iload_n 3, 1), (8, .istore 4, 2), (10, .iload 4, 2), (12, .aload_n 1, 1), (13, .iload_n 2, 1), (14, .iaload, 1), (15, .if_icmp .ge 27, 3), (18, .aload_n 0, 1), (19, .iconst 5, 1), (20, .iload_n 2, 1), (21, .imul, 1), (22, .iload 4, 2), (24, .iadd, 1), (25, .aload_n 0, 1), (26, .iconst 5, 1), (27, .iload_n 2, 1), (28, .imul, 1), (29, .iload 4, 2), (31, .iadd, 1), (32, .iconst 1, 1), (33, .iadd, 1), (34, .iaload, 1), (35, .iastore, 1), (36, .iinc 4 1, 3), (39, .goto (-29), 3), (42, .return_, 1)]
def TL_settle_0 : List (Nat × Instr × Nat) := [(0, .iconst 0, 1), (1, .istore 5, 2), (3, .aload_n 2, 1), (4, .iload 4, 2), (6, .iaload, 1), (7, .ifCond .le 83, 3), (10, .aload_n 0, 1), (11, .iload 4, 2), (13, .aload_n 1, 1), (14, .iconst 5, 1), (15, .iload 4, 2), (17, .imul, 1), (18, .iaload, 1), (19, .bipush 8, 2), (21, .idiv, 1), (22, .aload_n 1, 1), (23, .iconst 5, 1), (24, .iload 4, 2), (26, .imul, 1), (27, .iaload, 1), (28, .bipush 8, 2), (30, .irem, 1), (31, .iconst (-1), 1), (32, .invokestatic 18, 3), (35, .ifCond .ne 55, 3), (38, .aload_n 1, 1), (39, .iconst 5, 1), (40, .iload 4, 2), (42, .imul, 1), (43, .iaload, 1), (44, .bipush 8, 2), (46, .irem, 1), (47, .istore 6, 2), (49, .aload_n 0, 1), (50, .bipush 6, 2), (52, .iload 6, 2), (54, .imul, 1), (55, .iload 4, 2), (57, .iadd, 1), (58, .aload_n 1, 1), (59, .iconst 5, 1), (60, .iload 4, 2), (62, .imul, 1), (63, .iaload, 1), (64, .bipush 8, 2), (66, .idiv, 1), (67, .iastore, 1), (68, .aload_n 3, 1), (69, .iload 6, 2), (71, .dup2, 1), (72, .iaload, 1), (73, .iconst 1, 1), (74, .iadd, 1), (75, .iastore, 1), (76, .aload_n 1, 1), (77, .aload_n 2, 1), (78, .iload 4, 2), (80, .iconst 0, 1), (81, .invokestatic 22, 3), (84, .iinc 5 1, 3)]
def TL_settle_1 : List (Nat × Instr × Nat) := [(87, .goto (-84), 3), (90, .iload 5, 2), (92, .ireturn, 1)]
def TL_settle : List (Nat × Instr × Nat) := TL_settle_0 ++ TL_settle_1
def TL_work : List (Nat × Instr × Nat) := [(0, .iconst 0, 1), (1, .istore_n 2, 1), (2, .iconst 0, 1), (3, .istore_n 3, 1), (4, .iload_n 3, 1), (5, .bipush 6, 2), (7, .if_icmp .ge 20, 3), (10, .iload_n 2, 1), (11, .aload_n 0, 1), (12, .bipush 6, 2), (14, .iload_n 1, 1), (15, .imul, 1), (16, .iload_n 3, 1), (17, .iadd, 1), (18, .iaload, 1), (19, .iadd, 1), (20, .istore_n 2, 1), (21, .iinc 3 1, 3), (24, .goto (-20), 3), (27, .iload_n 2, 1), (28, .ireturn, 1)]
def TL_asks_0 : List (Nat × Instr × Nat) := [(0, .aload 5, 2), (2, .iload 6, 2), (4, .dup2, 1), (5, .iaload, 1), (6, .iconst 1, 1), (7, .iadd, 1), (8, .iastore, 1), (9, .aload_n 0, 1), (10, .bipush 6, 2), (12, .iload 6, 2), (14, .imul, 1), (15, .iload 7, 2), (17, .iadd, 1), (18, .iaload, 1), (19, .iload 8, 2), (21, .if_icmp .lt 14, 3), (24, .aload 4, 2), (26, .iload 6, 2), (28, .dup2, 1), (29, .iaload, 1), (30, .iconst 1, 1), (31, .iadd, 1), (32, .iastore, 1), (33, .iconst 0, 1), (34, .ireturn, 1), (35, .aload_n 2, 1), (36, .iload 7, 2), (38, .iaload, 1), (39, .istore 9, 2), (41, .aload_n 0, 1), (42, .bipush 6, 2), (44, .iload 6, 2), (46, .imul, 1), (47, .iload 7, 2), (49, .iadd, 1), (50, .iaload, 1), (51, .ifCond .le 44, 3), (54, .iconst 0, 1), (55, .istore 9, 2), (57, .iload 9, 2), (59, .aload_n 2, 1), (60, .iload 7, 2), (62, .iaload, 1), (63, .if_icmp .ge 32, 3), (66, .aload_n 0, 1), (67, .bipush 6, 2), (69, .aload_n 1, 1), (70, .iconst 5, 1), (71, .iload 7, 2), (73, .imul, 1), (74, .iload 9, 2), (76, .iadd, 1), (77, .iaload, 1), (78, .bipush 8, 2), (80, .irem, 1), (81, .imul, 1), (82, .iload 7, 2), (84, .iadd, 1), (85, .iaload, 1), (86, .ifCond .le 9, 3)]
def TL_asks_1 : List (Nat × Instr × Nat) := [(89, .iinc 9 1, 3), (92, .goto (-35), 3), (95, .aload_n 2, 1), (96, .iload 7, 2), (98, .iaload, 1), (99, .istore 10, 2), (101, .iload 10, 2), (103, .iload 9, 2), (105, .if_icmp .le 29, 3), (108, .aload_n 1, 1), (109, .iconst 5, 1), (110, .iload 7, 2), (112, .imul, 1), (113, .iload 10, 2), (115, .iadd, 1), (116, .aload_n 1, 1), (117, .iconst 5, 1), (118, .iload 7, 2), (120, .imul, 1), (121, .iload 10, 2), (123, .iadd, 1), (124, .iconst 1, 1), (125, .isub, 1), (126, .iaload, 1), (127, .iastore, 1), (128, .iinc 10 (-1), 3), (131, .goto (-30), 3), (134, .aload_n 1, 1), (135, .iconst 5, 1), (136, .iload 7, 2), (138, .imul, 1), (139, .iload 9, 2), (141, .iadd, 1), (142, .iload 6, 2), (144, .bipush 8, 2), (146, .iload 8, 2), (148, .imul, 1), (149, .iadd, 1), (150, .iastore, 1), (151, .aload_n 2, 1), (152, .iload 7, 2), (154, .dup2, 1), (155, .iaload, 1), (156, .iconst 1, 1), (157, .iadd, 1), (158, .iastore, 1), (159, .aload_n 0, 1), (160, .aload_n 1, 1), (161, .aload_n 2, 1), (162, .aload 4, 2), (164, .iload 7, 2), (166, .invokestatic 26, 3), (169, .istore 10, 2), (171, .aload_n 0, 1), (172, .aload_n 1, 1), (173, .aload_n 2, 1), (174, .iload 6, 2), (176, .invokestatic 30, 3), (179, .iload 6, 2), (181, .ishr, 1)]
def TL_asks_2 : List (Nat × Instr × Nat) := [(182, .iconst 1, 1), (183, .iand, 1), (184, .iconst 1, 1), (185, .if_icmp .ne 244, 3), (188, .iconst (-1), 1), (189, .istore 11, 2), (191, .iconst 4, 1), (192, .istore 12, 2), (194, .iload 12, 2), (196, .ifCond .lt 67, 3), (199, .aload_n 0, 1), (200, .aload_n 1, 1), (201, .aload_n 2, 1), (202, .iload 6, 2), (204, .invokestatic 30, 3), (207, .iload 12, 2), (209, .ishr, 1), (210, .iconst 1, 1), (211, .iand, 1), (212, .iconst 1, 1), (213, .if_icmp .ne 44, 3), (216, .aload_n 0, 1), (217, .aload_n 1, 1), (218, .aload_n 2, 1), (219, .iload 12, 2), (221, .invokestatic 30, 3), (224, .iload 6, 2), (226, .ishr, 1), (227, .iconst 1, 1), (228, .iand, 1), (229, .iconst 1, 1), (230, .if_icmp .ne 27, 3), (233, .iload 11, 2), (235, .ifCond .lt 18, 3), (238, .aload_n 0, 1), (239, .iload 12, 2), (241, .invokestatic 33, 3), (244, .aload_n 0, 1), (245, .iload 11, 2), (247, .invokestatic 33, 3), (250, .if_icmp .ge 7, 3), (253, .iload 12, 2), (255, .istore 11, 2), (257, .iinc 12 (-1), 3), (260, .goto (-66), 3), (263, .aload_n 3, 1), (264, .iload 11, 2), (266, .dup2, 1), (267, .iaload, 1), (268, .iconst 1, 1), (269, .iadd, 1), (270, .iastore, 1), (271, .iconst 0, 1), (272, .istore 12, 2), (274, .aload_n 1, 1), (275, .aload_n 2, 1), (276, .iload 11, 2), (278, .invokestatic 8, 3), (281, .istore 13, 2), (283, .iconst 0, 1)]
def TL_asks_3 : List (Nat × Instr × Nat) := [(284, .istore 14, 2), (286, .iload 14, 2), (288, .bipush 6, 2), (290, .if_icmp .ge 49, 3), (293, .aload_n 0, 1), (294, .bipush 6, 2), (296, .iload 11, 2), (298, .imul, 1), (299, .iload 14, 2), (301, .iadd, 1), (302, .iaload, 1), (303, .ifCond .gt 10, 3), (306, .iload 14, 2), (308, .iload 13, 2), (310, .if_icmp .ne 12, 3), (313, .iload 12, 2), (315, .iconst 1, 1), (316, .iload 14, 2), (318, .ishl, 1), (319, .ior, 1), (320, .istore 12, 2), (322, .aload_n 0, 1), (323, .bipush 6, 2), (325, .iload 11, 2), (327, .imul, 1), (328, .iload 14, 2), (330, .iadd, 1), (331, .iconst 0, 1), (332, .iastore, 1), (333, .iinc 14 1, 3), (336, .goto (-50), 3), (339, .aload_n 2, 1), (340, .iload 13, 2), (342, .iaload, 1), (343, .iconst 1, 1), (344, .isub, 1), (345, .istore 14, 2), (347, .iload 14, 2), (349, .ifCond .lt 35, 3), (352, .aload_n 1, 1), (353, .iconst 5, 1), (354, .iload 13, 2), (356, .imul, 1), (357, .iload 14, 2), (359, .iadd, 1), (360, .iaload, 1), (361, .bipush 8, 2), (363, .irem, 1), (364, .iload 11, 2), (366, .if_icmp .ne 12, 3), (369, .aload_n 1, 1), (370, .aload_n 2, 1), (371, .iload 13, 2), (373, .iload 14, 2), (375, .invokestatic 22, 3), (378, .iinc 14 (-1), 3), (381, .goto (-34), 3), (384, .iconst 0, 1), (385, .istore 14, 2), (387, .iload 14, 2)]
def TL_asks_4 : List (Nat × Instr × Nat) := [(389, .bipush 6, 2), (391, .if_icmp .ge 35, 3), (394, .iload 12, 2), (396, .iload 14, 2), (398, .ishr, 1), (399, .iconst 1, 1), (400, .iand, 1), (401, .iconst 1, 1), (402, .if_icmp .ne 18, 3), (405, .iload 10, 2), (407, .aload_n 0, 1), (408, .aload_n 1, 1), (409, .aload_n 2, 1), (410, .aload 4, 2), (412, .iload 14, 2), (414, .invokestatic 26, 3), (417, .iadd, 1), (418, .istore 10, 2), (420, .iinc 14 1, 3), (423, .goto (-36), 3), (426, .goto (-255), 3), (429, .aload_n 0, 1), (430, .bipush 6, 2), (432, .iload 6, 2), (434, .imul, 1), (435, .iload 7, 2), (437, .iadd, 1), (438, .iaload, 1), (439, .iload 8, 2), (441, .if_icmp .lt 7, 3), (444, .iconst 0, 1), (445, .goto 18, 3), (448, .aload_n 1, 1), (449, .aload_n 2, 1), (450, .iload 6, 2), (452, .invokestatic 8, 3), (455, .ifCond .lt 7, 3), (458, .iconst 1, 1), (459, .goto 4, 3), (462, .iconst 2, 1), (463, .ireturn, 1)]
def TL_asks : List (Nat × Instr × Nat) := TL_asks_0 ++ TL_asks_1 ++ TL_asks_2 ++ TL_asks_3 ++ TL_asks_4
def TL_act_0 : List (Nat × Instr × Nat) := [(0, .iload_n 1, 1), (1, .bipush 20, 2), (3, .ishr, 1), (4, .bipush 14, 2), (6, .invokestatic 37, 3), (9, .istore 12, 2), (11, .iload_n 2, 1), (12, .iconst 5, 1), (13, .invokestatic 37, 3), (16, .istore 13, 2), (18, .iload_n 2, 1), (19, .iconst 3, 1), (20, .ishr, 1), (21, .bipush 6, 2), (23, .invokestatic 37, 3), (26, .istore 14, 2), (28, .aload 5, 2), (30, .aload 6, 2), (32, .iload 13, 2), (34, .invokestatic 8, 3), (37, .istore 15, 2), (39, .iload 12, 2), (41, .bipush 8, 2), (43, .if_icmp .ge 93, 3), (46, .iload 15, 2), (48, .ifCond .lt 21, 3), (51, .aload_n 0, 1), (52, .iload 13, 2), (54, .iconst 2, 1), (55, .invokevirtual 41, 3), (58, .iload 15, 2), (60, .if_icmp .ne 7, 3), (63, .iconst 1, 1), (64, .goto 4, 3), (67, .iconst 0, 1), (68, .ireturn, 1), (69, .aload_n 3, 1), (70, .iconst 2, 1), (71, .iaload, 1), (72, .bipush 6, 2), (74, .if_icmp .ge 10, 3), (77, .aload_n 3, 1), (78, .iconst 2, 1), (79, .dup2, 1), (80, .iaload, 1), (81, .iconst 1, 1), (82, .iadd, 1), (83, .iastore, 1), (84, .iconst 1, 1), (85, .iload_n 2, 1), (86, .bipush 6, 2), (88, .ishr, 1), (89, .iconst 3, 1), (90, .invokestatic 37, 3), (93, .iadd, 1), (94, .istore 16, 2), (96, .aload_n 0, 1), (97, .iload 13, 2), (99, .iload 14, 2), (101, .iload 16, 2)]
def TL_act_1 : List (Nat × Instr × Nat) := [(103, .invokevirtual 46, 3), (106, .aload 4, 2), (108, .aload 5, 2), (110, .aload 6, 2), (112, .aload 9, 2), (114, .aload 10, 2), (116, .aload 11, 2), (118, .iload 13, 2), (120, .iload 14, 2), (122, .iload 16, 2), (124, .invokestatic 50, 3), (127, .if_icmp .ne 7, 3), (130, .iconst 1, 1), (131, .goto 4, 3), (134, .iconst 0, 1), (135, .ireturn, 1), (136, .iload 12, 2), (138, .bipush 8, 2), (140, .if_icmp .ne 83, 3), (143, .aload 4, 2), (145, .bipush 6, 2), (147, .iload 13, 2), (149, .imul, 1), (150, .iload 14, 2), (152, .iadd, 1), (153, .iaload, 1), (154, .ifCond .eq 10, 3), (157, .iload 15, 2), (159, .iload 14, 2), (161, .if_icmp .ne 5, 3), (164, .iconst 1, 1), (165, .ireturn, 1), (166, .aload_n 3, 1), (167, .iconst 2, 1), (168, .iaload, 1), (169, .bipush 6, 2), (171, .if_icmp .ge 10, 3), (174, .aload_n 3, 1), (175, .iconst 2, 1), (176, .dup2, 1), (177, .iaload, 1), (178, .iconst 1, 1), (179, .iadd, 1), (180, .iastore, 1), (181, .aload 4, 2), (183, .bipush 6, 2), (185, .iload 13, 2), (187, .imul, 1), (188, .iload 14, 2), (190, .iadd, 1), (191, .iconst 0, 1), (192, .iastore, 1), (193, .aload_n 0, 1), (194, .iload 13, 2), (196, .iload 14, 2), (198, .invokevirtual 54, 3), (201, .aload 4, 2), (203, .aload 5, 2), (205, .aload 6, 2), (207, .aload 10, 2)]
def TL_act_2 : List (Nat × Instr × Nat) := [(209, .iload 14, 2), (211, .invokestatic 26, 3), (214, .if_icmp .ne 7, 3), (217, .iconst 1, 1), (218, .goto 4, 3), (221, .iconst 0, 1), (222, .ireturn, 1), (223, .iload 12, 2), (225, .bipush 9, 2), (227, .if_icmp .ne 106, 3), (230, .iload 15, 2), (232, .ifCond .ge 5, 3), (235, .iconst 1, 1), (236, .ireturn, 1), (237, .aload 6, 2), (239, .iload 15, 2), (241, .iaload, 1), (242, .iconst 1, 1), (243, .isub, 1), (244, .istore 16, 2), (246, .iload 16, 2), (248, .ifCond .lt 38, 3), (251, .aload 5, 2), (253, .iconst 5, 1), (254, .iload 15, 2), (256, .imul, 1), (257, .iload 16, 2), (259, .iadd, 1), (260, .iaload, 1), (261, .bipush 8, 2), (263, .irem, 1), (264, .iload 13, 2), (266, .if_icmp .ne 14, 3), (269, .aload 5, 2), (271, .aload 6, 2), (273, .iload 15, 2), (275, .iload 16, 2), (277, .invokestatic 22, 3), (280, .iinc 16 (-1), 3), (283, .goto (-37), 3), (286, .aload 4, 2), (288, .aload 5, 2), (290, .aload 6, 2), (292, .aload 10, 2), (294, .iload 15, 2), (296, .invokestatic 26, 3), (299, .istore 16, 2), (301, .aload_n 3, 1), (302, .iconst 2, 1), (303, .iaload, 1), (304, .bipush 6, 2), (306, .if_icmp .ge 10, 3), (309, .aload_n 3, 1), (310, .iconst 2, 1), (311, .dup2, 1), (312, .iaload, 1), (313, .iconst 1, 1), (314, .iadd, 1), (315, .iastore, 1), (316, .aload_n 0, 1)]
def TL_act_3 : List (Nat × Instr × Nat) := [(317, .iload 13, 2), (319, .invokevirtual 57, 3), (322, .iload 15, 2), (324, .if_icmp .ne 7, 3), (327, .iconst 1, 1), (328, .goto 4, 3), (331, .iconst 0, 1), (332, .ireturn, 1), (333, .iload 12, 2), (335, .bipush 10, 2), (337, .if_icmp .ne 258, 3), (340, .iload_n 2, 1), (341, .bipush 6, 2), (343, .ishr, 1), (344, .iconst 5, 1), (345, .invokestatic 37, 3), (348, .istore 16, 2), (350, .iconst (-1), 1), (351, .istore 17, 2), (353, .iconst 0, 1), (354, .istore 18, 2), (356, .iload 18, 2), (358, .aload 6, 2), (360, .iload 14, 2), (362, .iaload, 1), (363, .if_icmp .ge 31, 3), (366, .aload 5, 2), (368, .iconst 5, 1), (369, .iload 14, 2), (371, .imul, 1), (372, .iload 18, 2), (374, .iadd, 1), (375, .iaload, 1), (376, .bipush 8, 2), (378, .irem, 1), (379, .iload 16, 2), (381, .if_icmp .ne 7, 3), (384, .iload 18, 2), (386, .istore 17, 2), (388, .iinc 18 1, 3), (391, .goto (-35), 3), (394, .aload 4, 2), (396, .bipush 6, 2), (398, .iload 13, 2), (400, .imul, 1), (401, .iload 14, 2), (403, .iadd, 1), (404, .iaload, 1), (405, .ifCond .eq 49, 3), (408, .iload 15, 2), (410, .iload 14, 2), (412, .if_icmp .eq 42, 3), (415, .iload 16, 2), (417, .iload 13, 2), (419, .if_icmp .eq 35, 3), (422, .iload 17, 2), (424, .ifCond .lt 30, 3), (427, .aload 4, 2), (429, .iload 14, 2), (431, .aload 5, 2)]
def TL_act_4 : List (Nat × Instr × Nat) := [(433, .iconst 5, 1), (434, .iload 14, 2), (436, .imul, 1), (437, .iload 17, 2), (439, .iadd, 1), (440, .iaload, 1), (441, .bipush 8, 2), (443, .idiv, 1), (444, .iload 16, 2), (446, .iload 13, 2), (448, .invokestatic 18, 3), (451, .ifCond .eq 25, 3), (454, .aload_n 0, 1), (455, .iload 13, 2), (457, .iload 14, 2), (459, .invokevirtual 61, 3), (462, .iload 16, 2), (464, .ishr, 1), (465, .iconst 1, 1), (466, .iand, 1), (467, .ifCond .ne 7, 3), (470, .iconst 1, 1), (471, .goto 4, 3), (474, .iconst 0, 1), (475, .ireturn, 1), (476, .aload 5, 2), (478, .iconst 5, 1), (479, .iload 14, 2), (481, .imul, 1), (482, .iload 17, 2), (484, .iadd, 1), (485, .iaload, 1), (486, .bipush 8, 2), (488, .idiv, 1), (489, .istore 18, 2), (491, .aload 4, 2), (493, .bipush 6, 2), (495, .iload 13, 2), (497, .imul, 1), (498, .iload 14, 2), (500, .iadd, 1), (501, .iconst 0, 1), (502, .iastore, 1), (503, .aload 4, 2), (505, .bipush 6, 2), (507, .iload 16, 2), (509, .imul, 1), (510, .iload 14, 2), (512, .iadd, 1), (513, .iload 18, 2), (515, .iastore, 1), (516, .aload 10, 2), (518, .iload 16, 2), (520, .dup2, 1), (521, .iaload, 1), (522, .iconst 1, 1), (523, .iadd, 1), (524, .iastore, 1), (525, .aload 5, 2), (527, .aload 6, 2)]
def TL_act_5 : List (Nat × Instr × Nat) := [(529, .iload 14, 2), (531, .iload 17, 2), (533, .invokestatic 22, 3), (536, .aload 4, 2), (538, .aload 5, 2), (540, .aload 6, 2), (542, .aload 10, 2), (544, .iload 14, 2), (546, .invokestatic 26, 3), (549, .istore 19, 2), (551, .aload_n 3, 1), (552, .bipush 6, 2), (554, .dup2, 1), (555, .iaload, 1), (556, .iconst 1, 1), (557, .iadd, 1), (558, .iastore, 1), (559, .aload_n 3, 1), (560, .iconst 2, 1), (561, .iaload, 1), (562, .bipush 6, 2), (564, .if_icmp .ge 10, 3), (567, .aload_n 3, 1), (568, .iconst 2, 1), (569, .dup2, 1), (570, .iaload, 1), (571, .iconst 1, 1), (572, .iadd, 1), (573, .iastore, 1), (574, .aload_n 0, 1), (575, .iload 13, 2), (577, .iload 14, 2), (579, .iload 16, 2), (581, .invokevirtual 64, 3), (584, .iload 18, 2), (586, .if_icmp .ne 7, 3), (589, .iconst 1, 1), (590, .goto 4, 3), (593, .iconst 0, 1), (594, .ireturn, 1), (595, .aload_n 3, 1), (596, .iconst 2, 1), (597, .iaload, 1), (598, .bipush 6, 2), (600, .if_icmp .ge 10, 3), (603, .aload_n 3, 1), (604, .iconst 2, 1), (605, .dup2, 1), (606, .iaload, 1), (607, .iconst 1, 1), (608, .iadd, 1), (609, .iastore, 1), (610, .iload 12, 2), (612, .bipush 11, 2), (614, .if_icmp .ne 74, 3), (617, .iload_n 2, 1), (618, .iconst 3, 1), (619, .invokestatic 37, 3), (622, .istore 16, 2), (624, .aload_n 3, 1)]
def TL_act_6 : List (Nat × Instr × Nat) := [(625, .iconst 3, 1), (626, .iload 16, 2), (628, .iadd, 1), (629, .iaload, 1), (630, .istore 17, 2), (632, .aload_n 3, 1), (633, .iconst 3, 1), (634, .iload 16, 2), (636, .iadd, 1), (637, .iload 16, 2), (639, .ifCond .ne 17, 3), (642, .bipush 10, 2), (644, .iload_n 2, 1), (645, .iconst 2, 1), (646, .ishr, 1), (647, .bipush 60, 2), (649, .invokestatic 37, 3), (652, .iadd, 1), (653, .goto 11, 3), (656, .iload_n 2, 1), (657, .iconst 2, 1), (658, .ishr, 1), (659, .bipush 21, 2), (661, .invokestatic 37, 3), (664, .iastore, 1), (665, .aload_n 0, 1), (666, .iload 16, 2), (668, .aload_n 3, 1), (669, .iconst 3, 1), (670, .iload 16, 2), (672, .iadd, 1), (673, .iaload, 1), (674, .invokevirtual 67, 3), (677, .iload 17, 2), (679, .if_icmp .ne 7, 3), (682, .iconst 1, 1), (683, .goto 4, 3), (686, .iconst 0, 1), (687, .ireturn, 1), (688, .iconst 1, 1), (689, .iload_n 2, 1), (690, .bipush 20, 2), (692, .invokestatic 37, 3), (695, .iadd, 1), (696, .istore 16, 2), (698, .aload_n 3, 1), (699, .iconst 1, 1), (700, .iaload, 1), (701, .istore 17, 2), (703, .iconst 0, 1), (704, .istore 18, 2), (706, .iload 18, 2), (708, .iload 16, 2), (710, .if_icmp .ge 248, 3), (713, .aload_n 3, 1), (714, .iconst 0, 1), (715, .dup2, 1), (716, .iaload, 1), (717, .iconst 1, 1), (718, .iadd, 1)]
def TL_act_7 : List (Nat × Instr × Nat) := [(719, .iastore, 1), (720, .iconst 0, 1), (721, .istore 19, 2), (723, .iload 19, 2), (725, .bipush 6, 2), (727, .if_icmp .ge 115, 3), (730, .iconst 0, 1), (731, .istore 20, 2), (733, .iconst 0, 1), (734, .istore 21, 2), (736, .iload 21, 2), (738, .iconst 5, 1), (739, .if_icmp .ge 38, 3), (742, .aload 4, 2), (744, .bipush 6, 2), (746, .iload 21, 2), (748, .imul, 1), (749, .iload 19, 2), (751, .iadd, 1), (752, .iaload, 1), (753, .iload 20, 2), (755, .if_icmp .le 16, 3), (758, .aload 4, 2), (760, .bipush 6, 2), (762, .iload 21, 2), (764, .imul, 1), (765, .iload 19, 2), (767, .iadd, 1), (768, .iaload, 1), (769, .istore 20, 2), (771, .iinc 21 1, 3), (774, .goto (-38), 3), (777, .aload 7, 2), (779, .iload 19, 2), (781, .dup2, 1), (782, .iaload, 1), (783, .iload 20, 2), (785, .ifCond .ne 10, 3), (788, .aload_n 3, 1), (789, .iconst 5, 1), (790, .iaload, 1), (791, .ineg, 1), (792, .goto 9, 3), (795, .iload 20, 2), (797, .aload_n 3, 1), (798, .iconst 4, 1), (799, .iaload, 1), (800, .imul, 1), (801, .iadd, 1), (802, .iastore, 1), (803, .aload 7, 2), (805, .iload 19, 2), (807, .iaload, 1), (808, .ifCond .ge 9, 3), (811, .aload 7, 2), (813, .iload 19, 2), (815, .iconst 0, 1), (816, .iastore, 1), (817, .aload 7, 2), (819, .iload 19, 2)]
def TL_act_8 : List (Nat × Instr × Nat) := [(821, .iaload, 1), (822, .sipush 1000, 3), (825, .if_icmp .le 11, 3), (828, .aload 7, 2), (830, .iload 19, 2), (832, .sipush 1000, 3), (835, .iastore, 1), (836, .iinc 19 1, 3), (839, .goto (-116), 3), (842, .iconst 0, 1), (843, .istore 19, 2), (845, .iload 19, 2), (847, .bipush 6, 2), (849, .if_icmp .ge 103, 3), (852, .aload 7, 2), (854, .iload 19, 2), (856, .iaload, 1), (857, .aload_n 3, 1), (858, .iconst 3, 1), (859, .iaload, 1), (860, .if_icmp .le 86, 3), (863, .iconst 0, 1), (864, .istore 20, 2), (866, .iconst 0, 1), (867, .istore 21, 2), (869, .iload 21, 2), (871, .iconst 5, 1), (872, .if_icmp .ge 54, 3), (875, .aload 4, 2), (877, .bipush 6, 2), (879, .iload 21, 2), (881, .imul, 1), (882, .iload 19, 2), (884, .iadd, 1), (885, .iaload, 1), (886, .ifCond .le 34, 3), (889, .aload 4, 2), (891, .bipush 6, 2), (893, .iload 21, 2), (895, .imul, 1), (896, .iload 19, 2), (898, .iadd, 1), (899, .iconst 0, 1), (900, .iastore, 1), (901, .aload 8, 2), (903, .iload 21, 2), (905, .dup2, 1), (906, .iaload, 1), (907, .iconst 1, 1), (908, .iadd, 1), (909, .iastore, 1), (910, .aload_n 3, 1), (911, .iconst 1, 1), (912, .dup2, 1), (913, .iaload, 1), (914, .iconst 1, 1), (915, .iadd, 1), (916, .iastore, 1), (917, .iconst 1, 1), (918, .istore 20, 2)]
def TL_act_9 : List (Nat × Instr × Nat) := [(920, .iinc 21 1, 3), (923, .goto (-54), 3), (926, .iload 20, 2), (928, .ifCond .eq 18, 3), (931, .aload 4, 2), (933, .aload 5, 2), (935, .aload 6, 2), (937, .aload 10, 2), (939, .iload 19, 2), (941, .invokestatic 26, 3), (944, .istore 21, 2), (946, .iinc 19 1, 3), (949, .goto (-104), 3), (952, .iinc 18 1, 3), (955, .goto (-249), 3), (958, .aload_n 0, 1), (959, .iload 16, 2), (961, .invokevirtual 70, 3), (964, .aload_n 3, 1), (965, .iconst 1, 1), (966, .iaload, 1), (967, .iload 17, 2), (969, .isub, 1), (970, .if_icmp .ne 7, 3), (973, .iconst 1, 1), (974, .goto 4, 3), (977, .iconst 0, 1), (978, .ireturn, 1)]
def TL_act : List (Nat × Instr × Nat) := TL_act_0 ++ TL_act_1 ++ TL_act_2 ++ TL_act_3 ++ TL_act_4 ++ TL_act_5 ++ TL_act_6 ++ TL_act_7 ++ TL_act_8 ++ TL_act_9
def TL_agree_0 : List (Nat × Instr × Nat) := [(0, .iconst 0, 1), (1, .istore 10, 2), (3, .iconst 0, 1), (4, .istore 11, 2), (6, .iconst 0, 1), (7, .istore 12, 2), (9, .iconst 0, 1), (10, .istore 13, 2), (12, .iconst 0, 1), (13, .istore 14, 2), (15, .iconst 0, 1), (16, .istore 15, 2), (18, .iload 15, 2), (20, .iconst 5, 1), (21, .if_icmp .ge 230, 3), (24, .iconst 0, 1), (25, .istore 16, 2), (27, .iload 16, 2), (29, .bipush 6, 2), (31, .if_icmp .ge 48, 3), (34, .aload_n 0, 1), (35, .iload 15, 2), (37, .iload 16, 2), (39, .invokevirtual 73, 3), (42, .aload_n 2, 1), (43, .bipush 6, 2), (45, .iload 15, 2), (47, .imul, 1), (48, .iload 16, 2), (50, .iadd, 1), (51, .iaload, 1), (52, .if_icmp .eq 5, 3), (55, .iconst 0, 1), (56, .ireturn, 1), (57, .aload_n 2, 1), (58, .bipush 6, 2), (60, .iload 15, 2), (62, .imul, 1), (63, .iload 16, 2), (65, .iadd, 1), (66, .iaload, 1), (67, .ifCond .le 6, 3), (70, .iinc 10 1, 3), (73, .iinc 16 1, 3), (76, .goto (-49), 3), (79, .aload_n 0, 1), (80, .iload 15, 2), (82, .iconst 1, 1), (83, .invokevirtual 41, 3), (86, .aload_n 2, 1), (87, .iload 15, 2), (89, .invokestatic 33, 3), (92, .if_icmp .ne 121, 3), (95, .aload_n 0, 1), (96, .iload 15, 2), (98, .iconst 2, 1), (99, .invokevirtual 41, 3), (102, .aload_n 3, 1), (103, .aload 4, 2), (105, .iload 15, 2)]
def TL_agree_1 : List (Nat × Instr × Nat) := [(107, .invokestatic 8, 3), (110, .if_icmp .ne 103, 3), (113, .aload_n 0, 1), (114, .iload 15, 2), (116, .iconst 4, 1), (117, .invokevirtual 41, 3), (120, .aload_n 2, 1), (121, .aload_n 3, 1), (122, .aload 4, 2), (124, .iload 15, 2), (126, .invokestatic 14, 3), (129, .if_icmp .ne 84, 3), (132, .aload_n 0, 1), (133, .iload 15, 2), (135, .iconst 5, 1), (136, .invokevirtual 41, 3), (139, .aload 6, 2), (141, .iload 15, 2), (143, .iaload, 1), (144, .if_icmp .ne 69, 3), (147, .aload_n 0, 1), (148, .iload 15, 2), (150, .bipush 6, 2), (152, .invokevirtual 41, 3), (155, .aload 7, 2), (157, .iload 15, 2), (159, .iaload, 1), (160, .if_icmp .ne 53, 3), (163, .aload_n 0, 1), (164, .iload 15, 2), (166, .bipush 7, 2), (168, .invokevirtual 41, 3), (171, .aload 8, 2), (173, .iload 15, 2), (175, .iaload, 1), (176, .if_icmp .ne 37, 3), (179, .aload_n 0, 1), (180, .iload 15, 2), (182, .bipush 8, 2), (184, .invokevirtual 41, 3), (187, .aload 9, 2), (189, .iload 15, 2), (191, .iaload, 1), (192, .if_icmp .ne 21, 3), (195, .aload_n 0, 1), (196, .iload 15, 2), (198, .invokevirtual 76, 3), (201, .aload_n 2, 1), (202, .aload_n 3, 1), (203, .aload 4, 2), (205, .iload 15, 2), (207, .invokestatic 30, 3), (210, .if_icmp .eq 5, 3), (213, .iconst 0, 1), (214, .ireturn, 1), (215, .iload 11, 2), (217, .aload 7, 2), (219, .iload 15, 2), (221, .iaload, 1), (222, .iadd, 1)]
def TL_agree_2 : List (Nat × Instr × Nat) := [(223, .istore 11, 2), (225, .iload 12, 2), (227, .aload 8, 2), (229, .iload 15, 2), (231, .iaload, 1), (232, .iadd, 1), (233, .istore 12, 2), (235, .iload 13, 2), (237, .aload 9, 2), (239, .iload 15, 2), (241, .iaload, 1), (242, .iadd, 1), (243, .istore 13, 2), (245, .iinc 15 1, 3), (248, .goto (-230), 3), (251, .iconst 0, 1), (252, .istore 15, 2), (254, .iload 15, 2), (256, .bipush 6, 2), (258, .if_icmp .ge 144, 3), (261, .iload 14, 2), (263, .aload 4, 2), (265, .iload 15, 2), (267, .iaload, 1), (268, .iadd, 1), (269, .istore 14, 2), (271, .aload_n 0, 1), (272, .iload 15, 2), (274, .iconst 0, 1), (275, .invokevirtual 79, 3), (278, .aload 5, 2), (280, .iload 15, 2), (282, .iaload, 1), (283, .if_icmp .ne 18, 3), (286, .aload_n 0, 1), (287, .iload 15, 2), (289, .iconst 3, 1), (290, .invokevirtual 79, 3), (293, .aload 4, 2), (295, .iload 15, 2), (297, .iaload, 1), (298, .if_icmp .eq 5, 3), (301, .iconst 0, 1), (302, .ireturn, 1), (303, .iconst 0, 1), (304, .istore 16, 2), (306, .iload 16, 2), (308, .iconst 5, 1), (309, .if_icmp .ge 87, 3), (312, .aload_n 0, 1), (313, .iload 15, 2), (315, .iload 16, 2), (317, .iconst 0, 1), (318, .invokevirtual 82, 3), (321, .iload 16, 2), (323, .aload 4, 2), (325, .iload 15, 2), (327, .iaload, 1), (328, .if_icmp .ge 18, 3), (331, .aload_n 3, 1)]
def TL_agree_3 : List (Nat × Instr × Nat) := [(332, .iconst 5, 1), (333, .iload 15, 2), (335, .imul, 1), (336, .iload 16, 2), (338, .iadd, 1), (339, .iaload, 1), (340, .bipush 8, 2), (342, .irem, 1), (343, .goto 4, 3), (346, .iconst (-1), 1), (347, .if_icmp .ne 41, 3), (350, .aload_n 0, 1), (351, .iload 15, 2), (353, .iload 16, 2), (355, .iconst 1, 1), (356, .invokevirtual 82, 3), (359, .iload 16, 2), (361, .aload 4, 2), (363, .iload 15, 2), (365, .iaload, 1), (366, .if_icmp .ge 18, 3), (369, .aload_n 3, 1), (370, .iconst 5, 1), (371, .iload 15, 2), (373, .imul, 1), (374, .iload 16, 2), (376, .iadd, 1), (377, .iaload, 1), (378, .bipush 8, 2), (380, .idiv, 1), (381, .goto 4, 3), (384, .iconst (-1), 1), (385, .if_icmp .eq 5, 3), (388, .iconst 0, 1), (389, .ireturn, 1), (390, .iinc 16 1, 3), (393, .goto (-87), 3), (396, .iinc 15 1, 3), (399, .goto (-145), 3), (402, .aload_n 0, 1), (403, .iconst 0, 1), (404, .invokevirtual 85, 3), (407, .iload 10, 2), (409, .if_icmp .ne 95, 3), (412, .aload_n 0, 1), (413, .iconst 1, 1), (414, .invokevirtual 85, 3), (417, .iload 14, 2), (419, .if_icmp .ne 85, 3), (422, .aload_n 0, 1), (423, .iconst 2, 1), (424, .invokevirtual 85, 3), (427, .aload_n 1, 1), (428, .iconst 0, 1), (429, .iaload, 1), (430, .if_icmp .ne 74, 3), (433, .aload_n 0, 1), (434, .iconst 3, 1), (435, .invokevirtual 85, 3), (438, .aload_n 1, 1)]
def TL_agree_4 : List (Nat × Instr × Nat) := [(439, .iconst 1, 1), (440, .iaload, 1), (441, .if_icmp .ne 63, 3), (444, .aload_n 0, 1), (445, .iconst 4, 1), (446, .invokevirtual 85, 3), (449, .iload 11, 2), (451, .if_icmp .ne 53, 3), (454, .aload_n 0, 1), (455, .iconst 5, 1), (456, .invokevirtual 85, 3), (459, .aload_n 1, 1), (460, .bipush 6, 2), (462, .iaload, 1), (463, .if_icmp .ne 41, 3), (466, .aload_n 0, 1), (467, .bipush 6, 2), (469, .invokevirtual 85, 3), (472, .iload 12, 2), (474, .if_icmp .ne 30, 3), (477, .aload_n 0, 1), (478, .bipush 7, 2), (480, .invokevirtual 85, 3), (483, .iload 13, 2), (485, .if_icmp .ne 19, 3), (488, .aload_n 0, 1), (489, .bipush 9, 2), (491, .invokevirtual 85, 3), (494, .aload_n 1, 1), (495, .iconst 2, 1), (496, .iaload, 1), (497, .if_icmp .ne 7, 3), (500, .iconst 1, 1), (501, .goto 4, 3), (504, .iconst 0, 1), (505, .ireturn, 1)]
def TL_agree : List (Nat × Instr × Nat) := TL_agree_0 ++ TL_agree_1 ++ TL_agree_2 ++ TL_agree_3 ++ TL_agree_4
def TL_law_0 : List (Nat × Instr × Nat) := [(0, .new 42, 3), (3, .dup, 1), (4, .invokespecial 88, 3), (7, .astore_n 1, 1), (8, .bipush 7, 2), (10, .newarray .int, 2), (12, .astore_n 2, 1), (13, .bipush 30, 2), (15, .newarray .int, 2), (17, .astore_n 3, 1), (18, .bipush 36, 2), (20, .newarray .int, 2), (22, .astore 4, 2), (24, .bipush 6, 2), (26, .newarray .int, 2), (28, .astore 5, 2), (30, .bipush 6, 2), (32, .newarray .int, 2), (34, .astore 6, 2), (36, .iconst 5, 1), (37, .newarray .int, 2), (39, .astore 7, 2), (41, .iconst 5, 1), (42, .newarray .int, 2), (44, .astore 8, 2), (46, .iconst 5, 1), (47, .newarray .int, 2), (49, .astore 9, 2), (51, .iconst 5, 1), (52, .newarray .int, 2), (54, .astore 10, 2), (56, .aload_n 2, 1), (57, .iconst 3, 1), (58, .bipush 60, 2), (60, .iastore, 1), (61, .aload_n 2, 1), (62, .iconst 4, 1), (63, .iconst 1, 1), (64, .iastore, 1), (65, .aload_n 2, 1), (66, .iconst 5, 1), (67, .iconst 2, 1), (68, .iastore, 1), (69, .iconst 0, 1), (70, .istore 11, 2), (72, .iload 11, 2), (74, .bipush 60, 2), (76, .if_icmp .ge 75, 3), (79, .aload_n 1, 1), (80, .aload_n 0, 1), (81, .iconst 2, 1), (82, .iload 11, 2), (84, .imul, 1), (85, .invokestatic 89, 3), (88, .aload_n 0, 1), (89, .iconst 2, 1), (90, .iload 11, 2), (92, .imul, 1), (93, .iconst 1, 1), (94, .iadd, 1)]
def TL_law_1 : List (Nat × Instr × Nat) := [(95, .invokestatic 89, 3), (98, .aload_n 2, 1), (99, .aload_n 3, 1), (100, .aload 4, 2), (102, .aload 5, 2), (104, .aload 6, 2), (106, .aload 7, 2), (108, .aload 8, 2), (110, .aload 9, 2), (112, .aload 10, 2), (114, .invokestatic 92, 3), (117, .ifCond .eq 26, 3), (120, .aload_n 1, 1), (121, .aload_n 2, 1), (122, .aload_n 3, 1), (123, .aload 4, 2), (125, .aload 5, 2), (127, .aload 6, 2), (129, .aload 7, 2), (131, .aload 8, 2), (133, .aload 9, 2), (135, .aload 10, 2), (137, .invokestatic 96, 3), (140, .ifCond .ne 5, 3), (143, .iconst 0, 1), (144, .ireturn, 1), (145, .iinc 11 1, 3), (148, .goto (-76), 3), (151, .iconst 1, 1), (152, .ireturn, 1)]
def TL_law : List (Nat × Instr × Nat) := TL_law_0 ++ TL_law_1
end
section
/-! THE SMALL MACHINE: the instructions that the class and its reference use, over a memory of named cells. A cell is (t, k, g): t its kind, k which of its kind, g of which State. -/
abbrev PR : Type := Nat × Nat × Nat
abbrev PV : Type := Int32 ⊕ Int64 ⊕ UInt64 ⊕ Option PR
abbrev vI (x : Int32) : PV := .inl x
abbrev vL (x : Int64) : PV := .inr (.inl x)
abbrev vD (x : UInt64) : PV := .inr (.inr (.inl x))
abbrev vR (t k g : Nat) : PV := .inr (.inr (.inr (some (t, k, g))))
abbrev vN : PV := .inr (.inr (.inr none))
/-- ints and longs: cell (t, k, g), place -/
abbrev PM : Type := (Nat → Nat → Nat → Nat → Int32) × (Nat → Nat → Nat → Nat → Int64)
/-- a method: name, code, locals, answer's type, its class's number, parameters, frames and locals' words below it, instructions -/
abbrev MI : Type := MethodName × ByteArray × Nat × Option FieldType × Nat × Nat × Nat × Nat × List (Nat × Instr × Nat)
def mY (M : MI) : MethodName := M.1
def mB (M : MI) : ByteArray := M.2.1
def mN (M : MI) : Nat := M.2.2.1
def mRet (M : MI) : Option FieldType := M.2.2.2.1
def mO (M : MI) : Nat := M.2.2.2.2.1
def mPar (M : MI) : Nat := M.2.2.2.2.2.1
def mFr (M : MI) : Nat := M.2.2.2.2.2.2.1
def mLo (M : MI) : Nat := M.2.2.2.2.2.2.2.1
def mT (M : MI) : List (Nat × Instr × Nat) := M.2.2.2.2.2.2.2.2
def asc {α : Type} (l : List (Nat × α)) (k : Nat) : Option α := match l with
  | [] => none
  | (a, x) :: r => if a = k then some x else asc r k
theorem asc_mem {α : Type} {l : List (Nat × α)} {k : Nat} {x : α} (h : asc l k = some x) : (k, x) ∈ l := by
  induction l with
  | nil => cases h
  | cons q r ih =>
    obtain ⟨a, y⟩ := q
    unfold asc at h
    by_cases e : a = k
    · rw [if_pos e] at h; cases h; subst e; exact List.mem_cons_self
    · rw [if_neg e] at h; exact List.mem_cons_of_mem _ (ih h)
def wI (m : PM) (t k g i : Nat) (v : Int32) : PM := (fun a b c d => if a = t ∧ b = k ∧ c = g ∧ d = i then v else m.1 a b c d, m.2)
def wL (m : PM) (t k g i : Nat) (v : Int64) : PM := (m.1, fun a b c d => if a = t ∧ b = k ∧ c = g ∧ d = i then v else m.2 a b c d)
def wC (m : PM) (k g : Nat) (n : Nat) (k2 g2 : Nat) : PM := (fun a b c d => if a = 2 ∧ b = k2 ∧ c = g2 ∧ d < n then m.1 2 k g d else m.1 a b c d, m.2)
def nlen (k : Nat) : Nat := match k with
  | 0 => 96 | 1 => 8 | 2 => 8 | 3 => 8 | 4 => 12 | 5 => 12 | 6 => 8 | 7 => 8 | 8 => 8 | 9 => 8 | 10 => 3 | _ => 60
def zlen (k : Nat) : Nat := match k with
  | 0 => 7 | 1 => 30 | 2 => 36 | 3 => 6 | 4 => 6 | _ => 5
/-- an int array's length -/
def ilen (m : PM) (t k : Nat) : Option Nat := match t with
  | 2 => some (nlen k) | 8 => some (zlen k) | 10 => some (m.1 10 0 1 0).toNatClampNeg | _ => none
/-- an array's length -/
def alen (m : PM) (t k : Nat) : Option Int32 := match t with
  | 2 => some (nI (nlen k)) | 8 => some (nI (zlen k)) | 5 => some 6 | 10 => some (m.1 10 0 1 0) | _ => none
/-- a cell's class, by its place in vwCl -/
def tcl (t : Nat) : Option Nat := match t with
  | 0 => some 2 | 1 => some 1 | 3 => some 4 | 4 => some 0 | 6 => some 3 | _ => none
/-- a field's value -/
def fv (m : PM) (t k g s : Nat) : Option PV := match t with
  | 0 => if s = 11 then some (vI (m.1 0 0 g 11)) else if s < 11 then some (vR 1 s g) else none
  | 1 => match s with
    | 0 => some (vR 2 k g)
    | _ => none
  | 3 => match s with
    | 0 => some (vR 0 0 0) | 1 => some (vR 0 0 1) | 2 => some (vR 4 0 0) | 3 => some (vR 6 0 0) | _ => none
  | 4 => match s with
    | 0 => some (vR 5 0 0) | 1 => some (vI (m.1 4 0 0 1)) | 2 => some (vI (m.1 4 0 0 2)) | _ => none
  | 6 => match s with
    | 0 => some (vR 1 11 0) | 1 => some (vI (m.1 6 0 0 1)) | _ => none
  | _ => none
/-- an int field, a long field that may be written -/
def ipf (t s : Nat) : Bool := match t with
  | 0 => Nat.beq s 11
  | 4 => Nat.beq s 1 || Nat.beq s 2
  | 6 => Nat.beq s 1
  | _ => false
def lpf (_ _ : Nat) : Bool := false
/-- a branch's target -/
def bt (pc : Nat) (off : Int) : Option Nat := match (pc : Int) + off with
  | .ofNat t => some t
  | .negSucc _ => none
def cat (v : PV) : Nat := match v with
  | .inl _ => 1
  | .inr (.inl _) => 2
  | .inr (.inr (.inl _)) => 2
  | .inr (.inr (.inr _)) => 1
/-- a wide value whose second half is place i is gone -/
def clr (L : List (Option PV)) (i : Nat) : List (Option PV) := match i with
  | 0 => L
  | j + 1 => match L[j]? with
    | some (some w) => if cat w = 2 then L.set j none else L
    | _ => L
/-- v is stored at place i -/
def lset (L : List (Option PV)) (i : Nat) (v : PV) : Option (List (Option PV)) := if i < L.length then some ((clr L i).set i (some v)) else none
def lset2 (L : List (Option PV)) (i : Nat) (v : PV) : Option (List (Option PV)) := if i + 1 < L.length then some (((clr L i).set i (some v)).set (i + 1) none) else none
/-- the locals with which a method begins -/
def lent : List PV → List (Option PV)
  | [] => []
  | v :: r => if cat v = 2 then some v :: none :: lent r else some v :: lent r
def lpad (l : List (Option PV)) : Nat → List (Option PV)
  | 0 => l
  | n + 1 => lpad (l ++ [none]) n
abbrev PS : Type := Nat × List (Option PV) × List PV × PM
def ival (v : Int32) (k : Nat) (L : List (Option PV)) (st : List PV) (m : PM) : Option PS := some (k, L, vI v :: st, m)
end
section
def MX0_slotAt : MI := (yX0_slotAt, cX0_slotAt, 2, (some (.object "HotPanLocks$State")), 0, 1, 1, 30, TX0_slotAt)
def MX1_copyFrom : MI := (yX1_copyFrom, cX1_copyFrom, 2, none, 1, 1, 1, 30, TX1_copyFrom)
def MX2_copyFrom : MI := (yX2_copyFrom, cX2_copyFrom, 2, none, 2, 1, 2, 51, TX2_copyFrom)
def MX0_save : MI := (yX0_save, cX0_save, 3, none, 0, 1, 3, 72, TX0_save)
def MX1_at : MI := (yX1_at, cX1_at, 2, (some .int), 1, 1, 1, 30, TX1_at)
def MX1_put : MI := (yX1_put, cX1_put, 3, none, 1, 2, 1, 30, TX1_put)
def MX1_raise : MI := (yX1_raise, cX1_raise, 2, none, 1, 1, 2, 52, TX1_raise)
def MX1_sum : MI := (yX1_sum, cX1_sum, 3, (some .int), 1, 0, 1, 30, TX1_sum)
def MX2_isWaiting : MI := (yX2_isWaiting, cX2_isWaiting, 2, (some .boolean), 2, 1, 2, 51, TX2_isWaiting)
def MX2_queueLength : MI := (yX2_queueLength, cX2_queueLength, 4, (some .int), 2, 1, 2, 51, TX2_queueLength)
def MX2_handAt : MI := (yX2_handAt, cX2_handAt, 4, (some .int), 2, 2, 2, 51, TX2_handAt)
def MX4_cell : MI := (yX4_cell, cX4_cell, 2, (some .int), 4, 2, 1, 30, TX4_cell)
def MX2_placeForHolder : MI := (yX2_placeForHolder, cX2_placeForHolder, 4, (some .int), 2, 1, 2, 51, TX2_placeForHolder)
def MX2_enqueue : MI := (yX2_enqueue, cX2_enqueue, 6, none, 2, 3, 3, 74, TX2_enqueue)
def MX2_dequeue : MI := (yX2_dequeue, cX2_dequeue, 5, none, 2, 1, 2, 52, TX2_dequeue)
def MX2_clashes : MI := (yX2_clashes, cX2_clashes, 6, (some .boolean), 2, 4, 2, 51, TX2_clashes)
def MX2_grant : MI := (yX2_grant, cX2_grant, 2, none, 2, 1, 3, 76, TX2_grant)
def MX2_settle : MI := (yX2_settle, cX2_settle, 5, (some .int), 2, 1, 4, 97, TX2_settle)
def MX2_direct : MI := (yX2_direct, cX2_direct, 9, (some .int), 2, 1, 3, 72, TX2_direct)
def MX4_has : MI := (yX4_has, cX4_has, 2, (some .boolean), 4, 2, 1, 30, TX4_has)
def MX2_reach : MI := (yX2_reach, cX2_reach, 6, (some .int), 2, 1, 4, 100, TX2_reach)
def MX2_work : MI := (yX2_work, cX2_work, 4, (some .int), 2, 1, 2, 51, TX2_work)
def MX2_loserFor : MI := (yX2_loserFor, cX2_loserFor, 7, (some .int), 2, 1, 5, 125, TX2_loserFor)
def MX2_strip : MI := (yX2_strip, cX2_strip, 4, (some .int), 2, 1, 3, 76, TX2_strip)
def MX2_takeAsking : MI := (yX2_takeAsking, cX2_takeAsking, 8, (some .int), 2, 3, 6, 151, TX2_takeAsking)
def MX2_canLetGo : MI := (yX2_canLetGo, cX2_canLetGo, 3, (some .boolean), 2, 2, 2, 51, TX2_canLetGo)
def MX2_letGo : MI := (yX2_letGo, cX2_letGo, 3, (some .int), 2, 2, 5, 121, TX2_letGo)
def MX2_stopWaiting : MI := (yX2_stopWaiting, cX2_stopWaiting, 3, (some .int), 2, 1, 5, 121, TX2_stopWaiting)
def MX2_canPassOver : MI := (yX2_canPassOver, cX2_canPassOver, 4, (some .boolean), 2, 3, 3, 76, TX2_canPassOver)
def MX2_passOver : MI := (yX2_passOver, cX2_passOver, 4, (some .int), 2, 3, 5, 121, TX2_passOver)
def MX2_takersOf : MI := (yX2_takersOf, cX2_takersOf, 5, (some .int), 2, 2, 4, 99, TX2_takersOf)
def MX2_heatAfter : MI := (yX2_heatAfter, cX2_heatAfter, 3, (some .int), 2, 2, 2, 51, TX2_heatAfter)
def MX2_greatestMode : MI := (yX2_greatestMode, cX2_greatestMode, 4, (some .int), 2, 1, 2, 51, TX2_greatestMode)
def MX2_burn : MI := (yX2_burn, cX2_burn, 4, (some .int), 2, 1, 5, 121, TX2_burn)
def MX2_tick : MI := (yX2_tick, cX2_tick, 3, (some .int), 2, 0, 6, 144, TX2_tick)
def MX2_holders : MI := (yX2_holders, cX2_holders, 4, (some .int), 2, 1, 2, 51, TX2_holders)
def MX2_locksOf : MI := (yX2_locksOf, cX2_locksOf, 4, (some .int), 2, 1, 2, 51, TX2_locksOf)
def MX2_lockCount : MI := (yX2_lockCount, cX2_lockCount, 3, (some .int), 2, 0, 3, 74, TX2_lockCount)
def MX2_waitingCount : MI := (yX2_waitingCount, cX2_waitingCount, 3, (some .int), 2, 0, 3, 72, TX2_waitingCount)
def MX2_heldRows : MI := (yX2_heldRows, cX2_heldRows, 3, (some .int), 2, 0, 3, 74, TX2_heldRows)
def MX2_handPart : MI := (yX2_handPart, cX2_handPart, 3, (some .int), 2, 2, 4, 100, TX2_handPart)
def MX2_rowPart : MI := (yX2_rowPart, cX2_rowPart, 3, (some .int), 2, 2, 3, 74, TX2_rowPart)
def MX2_requestPart : MI := (yX2_requestPart, cX2_requestPart, 5, (some .int), 2, 3, 3, 74, TX2_requestPart)
def MX2_total : MI := (yX2_total, cX2_total, 2, (some .int), 2, 1, 4, 96, TX2_total)
def MX4_isHand : MI := (yX4_isHand, cX4_isHand, 1, (some .boolean), 4, 1, 1, 30, TX4_isHand)
def MX4_isRow : MI := (yX4_isRow, cX4_isRow, 1, (some .boolean), 4, 1, 1, 30, TX4_isRow)
def MX4_isMode : MI := (yX4_isMode, cX4_isMode, 1, (some .boolean), 4, 1, 1, 30, TX4_isMode)
def MX4_ask : MI := (yX4_ask, cX4_ask, 4, (some .int), 4, 3, 7, 178, TX4_ask)
def MX4_release : MI := (yX4_release, cX4_release, 3, (some .int), 4, 2, 6, 143, TX4_release)
def MX4_giveUp : MI := (yX4_giveUp, cX4_giveUp, 2, (some .int), 4, 1, 6, 143, TX4_giveUp)
def MX4_handOn : MI := (yX4_handOn, cX4_handOn, 4, (some .int), 4, 3, 6, 144, TX4_handOn)
def MX4_pass : MI := (yX4_pass, cX4_pass, 4, (some .int), 4, 1, 7, 166, TX4_pass)
def MX4_isSetting : MI := (yX4_isSetting, cX4_isSetting, 1, (some .boolean), 4, 1, 1, 30, TX4_isSetting)
def MX4_leastValue : MI := (yX4_leastValue, cX4_leastValue, 1, (some .int), 4, 1, 1, 30, TX4_leastValue)
def MX4_greatestValue : MI := (yX4_greatestValue, cX4_greatestValue, 1, (some .int), 4, 1, 1, 30, TX4_greatestValue)
def MX4_set : MI := (yX4_set, cX4_set, 4, (some .int), 4, 2, 6, 100, TX4_set)
def MX4_lock : MI := (yX4_lock, cX4_lock, 3, (some .int), 4, 2, 6, 100, TX4_lock)
def MX4_hand : MI := (yX4_hand, cX4_hand, 3, (some .int), 4, 2, 6, 122, TX4_hand)
def MX4_row : MI := (yX4_row, cX4_row, 3, (some .int), 4, 2, 6, 100, TX4_row)
def MX4_request : MI := (yX4_request, cX4_request, 4, (some .int), 4, 3, 6, 100, TX4_request)
def MX4_numberOf : MI := (yX4_numberOf, cX4_numberOf, 2, (some .int), 4, 1, 5, 117, TX4_numberOf)
def MX4_count : MI := (yX4_count, cX4_count, 2, (some .int), 4, 1, 6, 138, TX4_count)
def MX4_takers : MI := (yX4_takers, cX4_takers, 3, (some .int), 4, 2, 6, 123, TX4_takers)
def MX4_waitsFor : MI := (yX4_waitsFor, cX4_waitsFor, 2, (some .int), 4, 1, 6, 125, TX4_waitsFor)
def ML_cell : MI := (yL_cell, cL_cell, 2, (some .int), 6, 2, 1, 30, TL_cell)
def ML_at : MI := (yL_at, cL_at, 2, (some .int), 6, 2, 1, 30, TL_at)
def ML_rowOf : MI := (yL_rowOf, cL_rowOf, 5, (some .int), 6, 3, 1, 30, TL_rowOf)
def ML_clashes : MI := (yL_clashes, cL_clashes, 6, (some .boolean), 6, 5, 1, 30, TL_clashes)
def ML_waits : MI := (yL_waits, cL_waits, 8, (some .int), 6, 4, 2, 54, TL_waits)
def ML_over : MI := (yL_over, cL_over, 7, (some .int), 6, 4, 3, 81, TL_over)
def ML_leave : MI := (yL_leave, cL_leave, 5, none, 6, 4, 1, 30, TL_leave)
def ML_settle : MI := (yL_settle, cL_settle, 7, (some .int), 6, 5, 2, 55, TL_settle)
def ML_work : MI := (yL_work, cL_work, 4, (some .int), 6, 2, 1, 30, TL_work)
def ML_asks : MI := (yL_asks, cL_asks, 15, (some .int), 6, 9, 4, 107, TL_asks)
def ML_act : MI := (yL_act, cL_act, 22, (some .boolean), 6, 12, 8, 201, TL_act)
def ML_agree : MI := (yL_agree, cL_agree, 17, (some .boolean), 6, 10, 7, 159, TL_agree)
def ML_law : MI := (yL_law, cL_law, 12, (some .boolean), 6, 1, 9, 242, TL_law)
def RO (o : Nat) : String := match o with
  | 0 => RX0
  | 1 => RX1
  | 2 => RX2
  | 3 => RX3
  | 4 => RX4
  | 5 => RX5
  | _ => RL
def flk (o : Nat) : List (Nat × Nat × Nat) := match o with
  | 0 => [(11, 0, 0), (17, 0, 1), (21, 0, 2)]
  | 1 => [(7, 1, 0)]
  | 2 => [(14, 2, 0), (20, 2, 1), (23, 2, 2), (26, 2, 3), (29, 2, 4), (32, 2, 5), (35, 2, 6), (38, 2, 7), (41, 2, 8), (44, 2, 9), (47, 2, 10), (50, 2, 11)]
  | 3 => [(14, 3, 0), (20, 3, 1)]
  | 4 => [(10, 4, 0), (16, 4, 1), (22, 4, 2), (29, 4, 3), (137, 2, 10), (169, 0, 2), (178, 2, 0)]
  | _ => []
def llk (o : Nat) : List (Nat × Int64) := match o with
  | _ => []
def dlk (o : Nat) : List (Nat × UInt64) := match o with
  | _ => []
def ilk (o : Nat) : List (Nat × Int32) := match o with
  | 6 => [(7, 1284865837)]
  | _ => []
def nlk (o : Nat) : List (Nat × Nat) := match o with
  | 0 => [(33, 3)]
  | 1 => [(21, 0)]
  | 2 => [(79, 2), (134, 3)]
  | _ => []
def clk (o : Nat) : List (Nat × Nat × MI) := match o with
  | 0 => [(25, 1, MX0_slotAt), (29, 1, MX2_copyFrom)]
  | 1 => [(13, 1, MX1_at), (17, 1, MX1_put)]
  | 2 => [(54, 1, MX1_put), (58, 1, MX1_copyFrom), (62, 1, MX1_at), (66, 2, MX4_cell), (70, 1, MX2_placeForHolder), (73, 1, MX2_queueLength), (76, 1, MX1_raise), (84, 1, MX2_dequeue), (87, 1, MX2_handAt), (90, 1, MX2_clashes), (94, 1, MX2_grant), (97, 1, MX2_isWaiting), (101, 1, MX2_direct), (104, 2, MX4_has), (108, 1, MX2_reach), (111, 1, MX2_work), (114, 1, MX2_enqueue), (118, 1, MX2_settle), (121, 1, MX2_loserFor), (124, 1, MX2_strip), (127, 1, MX2_canLetGo), (130, 1, MX2_canPassOver), (137, 1, MX2_greatestMode), (140, 1, MX2_heatAfter), (143, 1, MX2_burn), (146, 1, MX2_locksOf), (149, 1, MX2_holders), (152, 1, MX2_lockCount), (156, 1, MX2_waitingCount), (159, 1, MX1_sum), (162, 1, MX2_heldRows)]
  | 4 => [(33, 0, MX4_isHand), (37, 0, MX4_isRow), (47, 0, MX4_isMode), (55, 1, MX2_isWaiting), (63, 1, MX0_save), (67, 1, MX2_takeAsking), (71, 1, MX2_canLetGo), (77, 1, MX2_letGo), (85, 1, MX2_stopWaiting), (89, 1, MX2_canPassOver), (95, 1, MX2_passOver), (100, 1, MX2_tick), (115, 1, MX1_at), (120, 1, MX1_put), (124, 0, MX4_isSetting), (129, 0, MX4_leastValue), (132, 0, MX4_greatestValue), (181, 0, MX4_cell), (186, 1, MX2_handPart), (191, 1, MX2_rowPart), (196, 1, MX2_requestPart), (201, 1, MX4_numberOf), (212, 1, MX2_takersOf), (218, 1, MX2_reach), (255, 1, MX2_total)]
  | 6 => [(8, 0, ML_rowOf), (14, 0, ML_waits), (18, 0, ML_clashes), (22, 0, ML_leave), (26, 0, ML_settle), (30, 0, ML_over), (33, 0, ML_work), (37, 0, ML_at), (41, 1, MX4_hand), (46, 1, MX4_ask), (50, 0, ML_asks), (54, 1, MX4_release), (57, 1, MX4_giveUp), (61, 1, MX4_takers), (64, 1, MX4_handOn), (67, 1, MX4_set), (70, 1, MX4_pass), (73, 1, MX4_lock), (76, 1, MX4_waitsFor), (79, 1, MX4_row), (82, 1, MX4_request), (85, 1, MX4_count), (89, 0, ML_cell), (92, 0, ML_act), (96, 0, ML_agree)]
  | _ => []
end
section
/-! one instruction of the small machine, but for calls and answers -/
/-- what pushes -/
def sm_a (i : Instr) (n pc : Nat) (L : List (Option PV)) (st : List PV) (m : PM) : Option PS := match i, n with
  | .iconst v, 1 => some (pc + 1, L, vI (Int32.ofInt v) :: st, m)
  | .bipush v, 2 => some (pc + 2, L, vI (Int8.ofInt v).toInt32 :: st, m)
  | .sipush v, 3 => some (pc + 3, L, vI (Int16.ofInt v).toInt32 :: st, m)
  | .lconst v, 1 => some (pc + 1, L, vL (Int64.ofNat (v : Nat)) :: st, m)
  | .dconst v, 1 => some (pc + 1, L, vD (if v = 0 then FP.dconst0 else FP.dconst1) :: st, m)
  | .aconst_null, 1 => some (pc + 1, L, vN :: st, m)
  | .iload_n k, 1 => match L[(k : Nat)]? with
    | some (some (.inl x)) => some (pc + 1, L, vI x :: st, m)
    | _ => none
  | .iload k, 2 => match L[k]? with
    | some (some (.inl x)) => some (pc + 2, L, vI x :: st, m)
    | _ => none
  | .lload_n k, 1 => match L[(k : Nat)]? with
    | some (some (.inr (.inl x))) => some (pc + 1, L, vL x :: st, m)
    | _ => none
  | .lload k, 2 => match L[k]? with
    | some (some (.inr (.inl x))) => some (pc + 2, L, vL x :: st, m)
    | _ => none
  | .dload_n k, 1 => match L[(k : Nat)]? with
    | some (some (.inr (.inr (.inl x)))) => some (pc + 1, L, vD x :: st, m)
    | _ => none
  | .dload k, 2 => match L[k]? with
    | some (some (.inr (.inr (.inl x)))) => some (pc + 2, L, vD x :: st, m)
    | _ => none
  | .aload_n k, 1 => match L[(k : Nat)]? with
    | some (some (.inr (.inr (.inr x)))) => some (pc + 1, L, .inr (.inr (.inr x)) :: st, m)
    | _ => none
  | .aload k, 2 => match L[k]? with
    | some (some (.inr (.inr (.inr x)))) => some (pc + 2, L, .inr (.inr (.inr x)) :: st, m)
    | _ => none
  | _, _ => none
/-- what stores, and the stack's own -/
def sm_b (i : Instr) (n pc : Nat) (L : List (Option PV)) (st : List PV) (m : PM) : Option PS := match i, n with
  | .istore_n k, 1 => match st with
    | .inl x :: r => match lset L (k : Nat) (vI x) with
      | some L' => some (pc + 1, L', r, m)
      | none => none
    | _ => none
  | .istore k, 2 => match st with
    | .inl x :: r => match lset L k (vI x) with
      | some L' => some (pc + 2, L', r, m)
      | none => none
    | _ => none
  | .lstore_n k, 1 => match st with
    | .inr (.inl x) :: r => match lset2 L (k : Nat) (vL x) with
      | some L' => some (pc + 1, L', r, m)
      | none => none
    | _ => none
  | .lstore k, 2 => match st with
    | .inr (.inl x) :: r => match lset2 L k (vL x) with
      | some L' => some (pc + 2, L', r, m)
      | none => none
    | _ => none
  | .dstore_n k, 1 => match st with
    | .inr (.inr (.inl x)) :: r => match lset2 L (k : Nat) (vD x) with
      | some L' => some (pc + 1, L', r, m)
      | none => none
    | _ => none
  | .dstore k, 2 => match st with
    | .inr (.inr (.inl x)) :: r => match lset2 L k (vD x) with
      | some L' => some (pc + 2, L', r, m)
      | none => none
    | _ => none
  | .astore_n k, 1 => match st with
    | .inr (.inr (.inr x)) :: r => match lset L (k : Nat) (.inr (.inr (.inr x))) with
      | some L' => some (pc + 1, L', r, m)
      | none => none
    | _ => none
  | .astore k, 2 => match st with
    | .inr (.inr (.inr x)) :: r => match lset L k (.inr (.inr (.inr x))) with
      | some L' => some (pc + 2, L', r, m)
      | none => none
    | _ => none
  | .iinc k d, 3 => match L[k]? with
    | some (some (.inl x)) => match lset L k (vI (x + Int32.ofInt d)) with
      | some L' => some (pc + 3, L', st, m)
      | none => none
    | _ => none
  | .dup, 1 => match st with
    | v :: r => if cat v = 1 then some (pc + 1, L, v :: v :: r, m) else none
    | _ => none
  | .dup2, 1 => match st with
    | v :: w :: r => if cat v = 1 then (if cat w = 1 then some (pc + 1, L, v :: w :: v :: w :: r, m) else none) else none
    | _ => none
  | .pop, 1 => match st with
    | v :: r => if cat v = 1 then some (pc + 1, L, r, m) else none
    | _ => none
  | _, _ => none
/-- numbers -/
def sm_c (i : Instr) (n pc : Nat) (L : List (Option PV)) (st : List PV) (m : PM) : Option PS := match i, n, st with
  | .iadd, 1, .inl y :: .inl x :: r => some (pc + 1, L, vI (x + y) :: r, m)
  | .isub, 1, .inl y :: .inl x :: r => some (pc + 1, L, vI (x - y) :: r, m)
  | .imul, 1, .inl y :: .inl x :: r => some (pc + 1, L, vI (x * y) :: r, m)
  | .iand, 1, .inl y :: .inl x :: r => some (pc + 1, L, vI (x &&& y) :: r, m)
  | .ior, 1, .inl y :: .inl x :: r => some (pc + 1, L, vI (x ||| y) :: r, m)
  | .ixor, 1, .inl y :: .inl x :: r => some (pc + 1, L, vI (x ^^^ y) :: r, m)
  | .ishl, 1, .inl y :: .inl x :: r => some (pc + 1, L, vI (x <<< (y &&& 31)) :: r, m)
  | .ishr, 1, .inl y :: .inl x :: r => some (pc + 1, L, vI (x >>> (y &&& 31)) :: r, m)
  | .idiv, 1, .inl y :: .inl x :: r => if y = 0 then none else some (pc + 1, L, vI (x / y) :: r, m)
  | .irem, 1, .inl y :: .inl x :: r => if y = 0 then none else some (pc + 1, L, vI (x - x / y * y) :: r, m)
  | .iushr, 1, .inl y :: .inl x :: r => some (pc + 1, L, vI (x.toUInt32 >>> (y.toUInt32 &&& Int32.toUInt32 31)).toInt32 :: r, m)
  | .ineg, 1, .inl x :: r => some (pc + 1, L, vI (-x) :: r, m)
  | .i2l, 1, .inl x :: r => some (pc + 1, L, vL x.toInt64 :: r, m)
  | .i2d, 1, .inl x :: r => some (pc + 1, L, vD (FP.i2d x) :: r, m)
  | .ladd, 1, .inr (.inl y) :: .inr (.inl x) :: r => some (pc + 1, L, vL (x + y) :: r, m)
  | .lsub, 1, .inr (.inl y) :: .inr (.inl x) :: r => some (pc + 1, L, vL (x - y) :: r, m)
  | .lmul, 1, .inr (.inl y) :: .inr (.inl x) :: r => some (pc + 1, L, vL (x * y) :: r, m)
  | .lshl, 1, .inl y :: .inr (.inl x) :: r => some (pc + 1, L, vL (x <<< (y.toInt64 &&& 63)) :: r, m)
  | .lcmp, 1, .inr (.inl y) :: .inr (.inl x) :: r => some (pc + 1, L, vI (lg_cmp x y) :: r, m)
  | .dcmp o, 1, .inr (.inr (.inl y)) :: .inr (.inr (.inl x)) :: r => some (pc + 1, L, vI (Op.cmpValue (FP.dcmp x y) o) :: r, m)
  | .d2l, 1, .inr (.inr (.inl x)) :: r => some (pc + 1, L, vL (FP.d2l x) :: r, m)
  | .dmul, 1, .inr (.inr (.inl y)) :: .inr (.inr (.inl x)) :: r => if FP.dmul x y &&& 0x7fffffffffffffff ≤ 0x7ff0000000000000 then some (pc + 1, L, vD (FP.dmul x y) :: r, m) else none
  | .dsub, 1, .inr (.inr (.inl y)) :: .inr (.inr (.inl x)) :: r => if FP.dsub x y &&& 0x7fffffffffffffff ≤ 0x7ff0000000000000 then some (pc + 1, L, vD (FP.dsub x y) :: r, m) else none
  | .ddiv, 1, .inr (.inr (.inl y)) :: .inr (.inr (.inl x)) :: r => if FP.ddiv x y &&& 0x7fffffffffffffff ≤ 0x7ff0000000000000 then some (pc + 1, L, vD (FP.ddiv x y) :: r, m) else none
  | _, _, _ => none
/-- branches -/
def sm_d (i : Instr) (n pc : Nat) (L : List (Option PV)) (st : List PV) (m : PM) : Option PS := match i, n with
  | .goto o, 3 => match bt pc o with
    | some t => some (t, L, st, m)
    | none => none
  | .ifCond c o, 3 => match st with
    | .inl x :: r => match bt pc o with
      | some t => match c with
        | .eq => some (if x = 0 then t else pc + 3, L, r, m)
        | .ne => some (if ¬ x = 0 then t else pc + 3, L, r, m)
        | .lt => some (if x < 0 then t else pc + 3, L, r, m)
        | .ge => some (if 0 ≤ x then t else pc + 3, L, r, m)
        | .gt => some (if 0 < x then t else pc + 3, L, r, m)
        | .le => some (if x ≤ 0 then t else pc + 3, L, r, m)
      | none => none
    | _ => none
  | .if_icmp c o, 3 => match st with
    | .inl y :: .inl x :: r => match bt pc o with
      | some t => match c with
        | .eq => some (if x = y then t else pc + 3, L, r, m)
        | .ne => some (if ¬ x = y then t else pc + 3, L, r, m)
        | .lt => some (if x < y then t else pc + 3, L, r, m)
        | .ge => some (if y ≤ x then t else pc + 3, L, r, m)
        | .gt => some (if y < x then t else pc + 3, L, r, m)
        | .le => some (if x ≤ y then t else pc + 3, L, r, m)
      | none => none
    | _ => none
  | .ifnull o, 3 => match st with
    | .inr (.inr (.inr none)) :: r => match bt pc o with
      | some t => some (t, L, r, m)
      | none => none
    | .inr (.inr (.inr (some _))) :: r => some (pc + 3, L, r, m)
    | _ => none
  | .ifnonnull o, 3 => match st with
    | .inr (.inr (.inr (some _))) :: r => match bt pc o with
      | some t => some (t, L, r, m)
      | none => none
    | .inr (.inr (.inr none)) :: r => some (pc + 3, L, r, m)
    | _ => none
  | .tableswitch d lo hi os, _ => match st with
    | .inl x :: r => if x.toInt < lo ∨ hi < x.toInt then
        match bt pc d with
        | some t => some (t, L, r, m)
        | none => none
      else match os[(x.toInt - lo).toNat]? with
        | some o => match bt pc o with
          | some t => some (t, L, r, m)
          | none => none
        | none => none
    | _ => none
  | .lookupswitch d ps, _ => match st with
    | .inl x :: r => if (ps.toList.zip (ps.toList.drop 1)).all (fun (a, next) => a.1 < next.1) = true then
        match bt pc (Op.lookupswitch.offset ps.toList d x.toInt) with
        | some t => some (t, L, r, m)
        | none => none
      else none
    | _ => none
  | _, _ => none
/-- the memory; o: the class whose code this is -/
def sm_e (o : Nat) (i : Instr) (n pc : Nat) (L : List (Option PV)) (st : List PV) (m : PM) : Option PS := match i, n with
  | .getfield x, 3 => match st with
    | .inr (.inr (.inr (some (t, k, g)))) :: r => match asc (flk o) x with
      | some (ci, s) => if tcl t = some ci then
          match fv m t k g s with
          | some v => some (pc + 3, L, v :: r, m)
          | none => none
        else none
      | none => none
    | _ => none
  | .putfield x, 3 => match st with
    | .inl v :: .inr (.inr (.inr (some (t, k, g)))) :: r => match asc (flk o) x with
      | some (ci, s) => if tcl t = some ci then (if ipf t s = true then some (pc + 3, L, r, wI m t k g s v) else none) else none
      | none => none
    | .inr (.inl v) :: .inr (.inr (.inr (some (t, k, g)))) :: r => match asc (flk o) x with
      | some (ci, s) => if tcl t = some ci then (if lpf t s = true then some (pc + 3, L, r, wL m t k g s v) else none) else none
      | none => none
    | _ => none
  | .iaload, 1 => match st with
    | .inl j :: .inr (.inr (.inr (some (t, k, g)))) :: r => match ilen m t k with
      | some N => if j < 0 ∨ N ≤ j.toNatClampNeg then none else some (pc + 1, L, vI (m.1 t k g j.toNatClampNeg) :: r, m)
      | none => none
    | _ => none
  | .iastore, 1 => match st with
    | .inl v :: .inl j :: .inr (.inr (.inr (some (t, k, g)))) :: r => match ilen m t k with
      | some N => if t = 10 then none else if j < 0 ∨ N ≤ j.toNatClampNeg then none else some (pc + 1, L, r, wI m t k g j.toNatClampNeg v)
      | none => none
    | _ => none
  | .aaload, 1 => match st with
    | .inl j :: .inr (.inr (.inr (some (5, _, _)))) :: r => if j < 0 ∨ 6 ≤ j.toNatClampNeg then none else some (pc + 1, L, vR 0 0 (2 + j.toNatClampNeg) :: r, m)
    | _ => none
  | .arraylength, 1 => match st with
    | .inr (.inr (.inr (some (t, k, _)))) :: r => match alen m t k with
      | some N => some (pc + 1, L, vI N :: r, m)
      | none => none
    | _ => none
  | .ldc x, 2 => match asc (ilk o) x with
    | some v => some (pc + 2, L, vI v :: st, m)
    | none => none
  | .ldc2_w x, 3 => match asc (llk o) x with
    | some v => some (pc + 3, L, vL v :: st, m)
    | none => match asc (dlk o) x with
      | some v => some (pc + 3, L, vD v :: st, m)
      | none => none
  | .invokestatic x, 3 => match asc (nlk o) x with
    | some 0 => match st with
      | .inl n :: .inl dp :: .inr (.inr (.inr (some (2, k2, g2)))) :: .inl sp :: .inr (.inr (.inr (some (2, k1, g1)))) :: [] =>
        if sp = 0 ∧ dp = 0 ∧ n = nI (nlen k1) ∧ nlen k2 = nlen k1 then some (pc + 3, L, [], wC m k1 g1 (nlen k1) k2 g2) else none
      | _ => none
    | some 1 => match st with
      | [.inr (.inr (.inl x))] => some (pc + 3, L, [vL x.toInt64], m)
      | _ => none
    | some 2 => match st with
      | .inl y :: .inl x :: r => if (r.map cat).sum ≤ 8 then some (pc + 3, L, vI (if x < y then y else x) :: r, m) else none
      | _ => none
    | some 3 => match st with
      | .inl y :: .inl x :: r => if (r.map cat).sum ≤ 8 then some (pc + 3, L, vI (if y < x then y else x) :: r, m) else none
      | _ => none
    | _ => none
  | _, _ => none
def sm_ins (o : Nat) (i : Instr) (n pc : Nat) (L : List (Option PV)) (st : List PV) (m : PM) : Option PS :=
  match sm_a i n pc L st m with
  | some r => some r
  | none => match sm_b i n pc L st m with
    | some r => some r
    | none => match sm_c i n pc L st m with
      | some r => some r
      | none => match sm_d i n pc L st m with
        | some r => some r
        | none => sm_e o i n pc L st m
end
section
/-! the small machine's runs: to the next answer, or to a 'new' -/
def sm_one (M : MI) (pc : Nat) (L : List (Option PV)) (st : List PV) (m : PM) : Option PS := match asc (mT M) pc with
  | some (i, n) => sm_ins (mO M) i n pc L st m
  | none => none
/-- a call's callee, arguments, and what stays on the stack -/
def sm_cal (M : MI) (i : Instr) (st : List PV) : Option (MI × List PV × List PV) := match i with
  | .invokestatic x => match asc (clk (mO M)) x with
    | some (0, M2) => if mPar M2 ≤ st.length then some (M2, (st.take (mPar M2)).reverse, st.drop (mPar M2)) else none
    | some (2, M2) => if mPar M2 ≤ st.length then some (M2, (st.take (mPar M2)).reverse, st.drop (mPar M2)) else none
    | _ => none
  | .invokevirtual x => match asc (clk (mO M)) x with
    | some (1, M2) => match st[mPar M2]? with
      | some (.inr (.inr (.inr (some (t, _, _))))) => if tcl t = some (mO M2) then some (M2, (st.take (mPar M2 + 1)).reverse, st.drop (mPar M2 + 1)) else none
      | _ => none
    | _ => none
  | _ => none
def sm_fit (M M2 : MI) (as rest : List PV) : Bool := decide (mFr M2 + 1 ≤ mFr M) && decide (1 ≤ mFr M2) && decide (30 ≤ mLo M2) && decide (8 + (mN M2 + 11) + mLo M2 ≤ mLo M) && decide ((rest.map cat).sum ≤ 8) && decide ((lent as).length ≤ mN M2)
/-- the answer, at an answering instruction -/
def sm_ret (M : MI) (pc : Nat) (st : List PV) : Option (Option PV) := match asc (mT M) pc with
  | some (.ireturn, 1) => match st with
    | [.inl x] => if mRet M = some .int then some (some (vI x)) else if mRet M = some .boolean then (if x = 0 then some (some (vI 0)) else if x = 1 then some (some (vI 1)) else none) else none
    | _ => none
  | some (.lreturn, 1) => match st with
    | [.inr (.inl x)] => if mRet M = some .long then some (some (vL x)) else none
    | _ => none
  | some (.dreturn, 1) => match st with
    | [.inr (.inr (.inl x))] => if mRet M = some .double then some (some (vD x)) else none
    | _ => none
  | some (.areturn, 1) => match st with
    | [.inr (.inr (.inr x))] => if mRet M = some (.object "HotPanLocks$State") then some (some (.inr (.inr (.inr x)))) else none
    | _ => none
  | some (.return_, 1) => match st with
    | [] => if mRet M = none then some none else none
    | _ => none
  | _ => none
def sm_stop (i : Instr) : Bool := match i with
  | .ireturn => true | .lreturn => true | .dreturn => true | .areturn => true | .return_ => true | .new _ => true
  | _ => false
def sm_go : Nat → MI → Nat → List (Option PV) → List PV → PM → Option PS
  | 0, _, _, _, _, _ => none
  | n + 1, M, pc, L, st, m => match asc (mT M) pc with
    | none => none
    | some (i, len) => match sm_ins (mO M) i len pc L st m with
      | some (pc2, L2, st2, m2) => sm_go n M pc2 L2 st2 m2
      | none => match sm_cal M i st with
        | some (M2, as, rest) => if len = 3 ∧ sm_fit M M2 as rest = true then
            match sm_go n M2 0 (lpad (lent as) (mN M2 - (lent as).length)) [] m with
            | some (pcE, _, stE, m2) => match sm_ret M2 pcE stE with
              | some v => sm_go n M (pc + 3) L (v.toList ++ rest) m2
              | none => none
            | none => none
          else none
        | none => if sm_stop i = true then some (pc, L, st, m) else none
/-- from (pc, L, st, m) the method comes to a stop at e -/
def Go (M : MI) (pc : Nat) (L : List (Option PV)) (st : List PV) (m : PM) (e : PS) : Prop := ∃ n, sm_go n M pc L st m = some e
/-- called with as over m the method answers v, and leaves m2 -/
def Rn (M : MI) (as : List PV) (m : PM) (v : Option PV) (m2 : PM) : Prop := ∃ pcE LE stE, Go M 0 (lpad (lent as) (mN M - (lent as).length)) [] m (pcE, LE, stE, m2) ∧ sm_ret M pcE stE = some v
theorem go_mono {n : Nat} : ∀ {M pc L st m e}, sm_go n M pc L st m = some e → ∀ k, sm_go (n + k) M pc L st m = some e := by
  induction n with
  | zero => intro M pc L st m e h; cases h
  | succ n ih =>
    intro M pc L st m e h k
    rw [show n + 1 + k = (n + k) + 1 by omega]
    unfold sm_go at h ⊢
    cases h1 : asc (mT M) pc with
    | none => rw [h1] at h; cases h
    | some q =>
      obtain ⟨i, len⟩ := q
      rw [h1] at h
      dsimp only at h ⊢
      cases h2 : sm_ins (mO M) i len pc L st m with
      | some r =>
        obtain ⟨a, b, c, d⟩ := r
        rw [h2] at h
        exact ih h k
      | none =>
        rw [h2] at h
        dsimp only at h ⊢
        cases h3 : sm_cal M i st with
        | none => rw [h3] at h; exact h
        | some r =>
          obtain ⟨M2, as, rest⟩ := r
          rw [h3] at h
          dsimp only at h ⊢
          by_cases h4 : len = 3 ∧ sm_fit M M2 as rest = true
          · rw [if_pos h4] at h ⊢
            cases h5 : sm_go n M2 0 (lpad (lent as) (mN M2 - (lent as).length)) [] m with
            | none => rw [h5] at h; cases h
            | some r =>
              obtain ⟨a, b, c, d⟩ := r
              rw [h5] at h
              rw [ih h5 k]
              dsimp only at h ⊢
              cases h6 : sm_ret M2 a c with
              | none => rw [h6] at h; cases h
              | some v => rw [h6] at h; exact ih h k
          · rw [if_neg h4] at h; cases h
theorem go_stop {M : MI} {pc : Nat} {L : List (Option PV)} {st : List PV} {m : PM} {i : Instr} {n : Nat} (h : asc (mT M) pc = some (i, n)) (h1 : sm_ins (mO M) i n pc L st m = none) (h2 : sm_cal M i st = none) (h3 : sm_stop i = true) : Go M pc L st m (pc, L, st, m) := ⟨1, by
  unfold sm_go
  rw [h]; dsimp only
  rw [h1]; dsimp only
  rw [h2]; dsimp only
  rw [if_pos h3]⟩
theorem go_one {M : MI} {pc : Nat} {L : List (Option PV)} {st : List PV} {m : PM} {s2 : PS} {e : PS} (h : sm_one M pc L st m = some s2) (k : Go M s2.1 s2.2.1 s2.2.2.1 s2.2.2.2 e) : Go M pc L st m e := by
  obtain ⟨n, hn⟩ := k
  refine ⟨n + 1, ?_⟩
  unfold sm_one at h
  unfold sm_go
  cases h1 : asc (mT M) pc with
  | none => rw [h1] at h; cases h
  | some q =>
    rw [h1] at h
    dsimp only at h ⊢
    rw [h]
    exact hn
def sm_many : Nat → MI → PS → Option PS
  | 0, _, s => some s
  | n + 1, M, (pc, L, st, m) => match sm_one M pc L st m with
    | some s2 => sm_many n M s2
    | none => none
theorem go_many {n : Nat} : ∀ {M : MI} {s s2 : PS} {e : PS}, sm_many n M s = some s2 → Go M s2.1 s2.2.1 s2.2.2.1 s2.2.2.2 e → Go M s.1 s.2.1 s.2.2.1 s.2.2.2 e := by
  induction n with
  | zero => intro M s s2 e h k; cases h; exact k
  | succ n ih =>
    intro M s s2 e h k
    obtain ⟨pc, L, st, m⟩ := s
    unfold sm_many at h
    cases h1 : sm_one M pc L st m with
    | none => rw [h1] at h; cases h
    | some s3 =>
      rw [h1] at h
      exact go_one h1 (ih h k)
/-- n instructions, none of them a call -/
theorem go_b (n : Nat) {M : MI} {pc pc2 : Nat} {L L2 : List (Option PV)} {st st2 : List PV} {m m2 : PM} {e : PS} (h : sm_many n M (pc, L, st, m) = some (pc2, L2, st2, m2)) (k : Go M pc2 L2 st2 m2 e) : Go M pc L st m e := go_many (s := (pc, L, st, m)) (s2 := (pc2, L2, st2, m2)) h k
theorem go_if {M : MI} {t f : Nat} {c : Prop} [Decidable c] {L : List (Option PV)} {st : List PV} {m : PM} {e : PS} (ht : c → Go M t L st m e) (hf : ¬ c → Go M f L st m e) : Go M (if c then t else f) L st m e := by
  by_cases h : c
  · rw [if_pos h]; exact ht h
  · rw [if_neg h]; exact hf h
theorem go_call {M M2 : MI} {pc : Nat} {L : List (Option PV)} {st as rest : List PV} {m m2 : PM} {e : PS} {v : Option PV} {i : Instr} (h : asc (mT M) pc = some (i, 3)) (h1 : sm_ins (mO M) i 3 pc L st m = none) (h2 : sm_cal M i st = some (M2, as, rest)) (h3 : sm_fit M M2 as rest = true) (hr : Rn M2 as m v m2) (k : Go M (pc + 3) L (v.toList ++ rest) m2 e) : Go M pc L st m e := by
  obtain ⟨pcE, LE, stE, ⟨n1, hn1⟩, hv⟩ := hr
  obtain ⟨n2, hn2⟩ := k
  refine ⟨n1 + n2 + 1, ?_⟩
  unfold sm_go
  rw [h]; dsimp only
  rw [h1]; dsimp only
  rw [h2]; dsimp only
  rw [if_pos ⟨rfl, h3⟩, go_mono hn1 n2]
  dsimp only
  rw [hv]; dsimp only
  rw [Nat.add_comm n1 n2]
  exact go_mono hn2 n1
end
section
/-- how a method ends: with an answer, or at a 'new' of a throw, by its place in the pool -/
abbrev OC : Type := Option PV ⊕ Nat
def sm_out (M : MI) (pc : Nat) (st : List PV) : Option OC := match sm_ret M pc st with
  | some v => some (.inl v)
  | none => match asc (mT M) pc, st with
    | some (.new x, 3), [] => some (.inr x)
    | _, _ => none
theorem sm_out_inr {M : MI} {pc x : Nat} {st : List PV} (h : sm_out M pc st = some (.inr x)) : asc (mT M) pc = some (.new x, 3) ∧ st = [] := by
  unfold sm_out at h
  cases h1 : sm_ret M pc st with
  | some w => rw [h1] at h; cases h
  | none =>
    rw [h1] at h
    dsimp only at h
    split at h
    · next h2 => cases h; exact ⟨h2, rfl⟩
    · cases h
theorem sm_out_inl {M : MI} {pc : Nat} {st : List PV} {v : Option PV} (h : sm_out M pc st = some (.inl v)) : sm_ret M pc st = some v := by
  unfold sm_out at h
  cases h1 : sm_ret M pc st with
  | some w => rw [h1] at h; cases h; rfl
  | none =>
    rw [h1] at h
    dsimp only at h
    split at h <;> cases h
/-- from (pc, L, st, m) the method ends so, and leaves m2 -/
def An (M : MI) (pc : Nat) (L : List (Option PV)) (st : List PV) (m : PM) (v : OC) (m2 : PM) : Prop := ∃ pcE LE stE, Go M pc L st m (pcE, LE, stE, m2) ∧ sm_out M pcE stE = some v
theorem rn_of {M : MI} {as : List PV} {m m2 : PM} {v : Option PV} (L : List (Option PV)) (h : lpad (lent as) (mN M - (lent as).length) = L) (k : An M 0 L [] m (.inl v) m2) : Rn M as m v m2 := by
  subst h
  obtain ⟨a, b, c, h1, h2⟩ := k
  exact ⟨a, b, c, h1, sm_out_inl h2⟩
theorem an_b (n : Nat) {M : MI} {pc pc2 : Nat} {L L2 : List (Option PV)} {st st2 : List PV} {m m1 m2 : PM} {v : OC} (h : sm_many n M (pc, L, st, m) = some (pc2, L2, st2, m1)) (k : An M pc2 L2 st2 m1 v m2) : An M pc L st m v m2 := by
  obtain ⟨a, b, c, h1, h2⟩ := k
  exact ⟨a, b, c, go_b n h h1, h2⟩
theorem an_if {M : MI} {t f : Nat} {c : Prop} [Decidable c] {L : List (Option PV)} {st : List PV} {m m2 : PM} {v : OC} (ht : c → An M t L st m v m2) (hf : ¬ c → An M f L st m v m2) : An M (if c then t else f) L st m v m2 := by
  by_cases h : c
  · rw [if_pos h]; exact ht h
  · rw [if_neg h]; exact hf h
theorem an_ret {M : MI} {pc : Nat} {L : List (Option PV)} {st : List PV} {m : PM} {v : OC} {i : Instr} (h : asc (mT M) pc = some (i, 1)) (h1 : sm_ins (mO M) i 1 pc L st m = none) (h2 : sm_cal M i st = none) (h3 : sm_stop i = true) (h4 : sm_out M pc st = some v) : An M pc L st m v m := ⟨pc, L, st, go_stop h h1 h2 h3, h4⟩
theorem an_thr {M : MI} {pc : Nat} {L : List (Option PV)} {st : List PV} {m : PM} {v : OC} {i : Instr} (h : asc (mT M) pc = some (i, 3)) (h1 : sm_ins (mO M) i 3 pc L st m = none) (h2 : sm_cal M i st = none) (h3 : sm_stop i = true) (h4 : sm_out M pc st = some v) : An M pc L st m v m := ⟨pc, L, st, go_stop h h1 h2 h3, h4⟩
theorem an_call {M M2 : MI} {pc : Nat} {L : List (Option PV)} {st as rest : List PV} {m m1 m2 : PM} {v : OC} {w : Option PV} {i : Instr} (hr : Rn M2 as m w m1) (h : asc (mT M) pc = some (i, 3)) (h1 : sm_ins (mO M) i 3 pc L st m = none) (h2 : sm_cal M i st = some (M2, as, rest)) (h3 : sm_fit M M2 as rest = true) (k : An M (pc + 3) L (w.toList ++ rest) m1 v m2) : An M pc L st m v m2 := by
  obtain ⟨a, b, c, h4, h5⟩ := k
  exact ⟨a, b, c, go_call h h1 h2 h3 hr h4, h5⟩
end
section
/-! THE WORLD: where the named cells lie in the heap, and what stands in them -/
def okW (r : PR) : Bool := match r.1 with
  | 0 => decide (r.2.1 = 0) && decide (r.2.2 < 8)
  | 1 => (decide (r.2.1 < 11) && decide (r.2.2 < 8)) || (decide (r.2.1 = 11) && decide (r.2.2 = 0))
  | 2 => (decide (r.2.1 < 11) && decide (r.2.2 < 8)) || (decide (r.2.1 = 11) && decide (r.2.2 = 0))
  | 3 => decide (r.2.1 = 0) && decide (r.2.2 = 0)
  | 4 => decide (r.2.1 = 0) && decide (r.2.2 = 0)
  | 5 => decide (r.2.1 = 0) && decide (r.2.2 = 0)
  | 6 => decide (r.2.1 = 0) && decide (r.2.2 = 0)
  | 8 => decide (r.2.1 < 9) && decide (r.2.2 = 0)
  | _ => false
def okR (r : PR) : Bool := okW r || decide (r = (10, 0, 0))
def vok (v : PV) : Bool := match v with
  | .inr (.inr (.inr (some r))) => okR r
  | _ => true
def ids : List PR := ((List.range 8).flatMap fun g => (0, 0, g) :: (List.range 11).flatMap fun k => [(1, k, g), (2, k, g)]) ++ [(1, 11, 0), (2, 11, 0), (3, 0, 0), (4, 0, 0), (5, 0, 0), (6, 0, 0), (8, 0, 0), (8, 1, 0), (8, 2, 0), (8, 3, 0), (8, 4, 0), (8, 5, 0), (8, 6, 0), (8, 7, 0), (8, 8, 0)]
set_option maxRecDepth 100000 in
theorem ids_all0 : ((List.range 10).all fun t => (List.range 12).all fun k => (List.range 8).all fun g => !okW (t, k, g) || ids.any fun r => Nat.beq r.1 t && Nat.beq r.2.1 k && Nat.beq r.2.2 g) = true := by decide +kernel
theorem ids_all (t : Nat) (ht : t < 10) (k : Nat) (hk : k < 12) (g : Nat) (hg : g < 8) (h : okW (t, k, g) = true) : (t, k, g) ∈ ids := by
  have h1 := List.all_eq_true.mp (List.all_eq_true.mp (List.all_eq_true.mp ids_all0 t (List.mem_range.mpr ht)) k (List.mem_range.mpr hk)) g (List.mem_range.mpr hg)
  rw [h, Bool.not_true, Bool.false_or] at h1
  obtain ⟨r, hr, h2⟩ := List.any_eq_true.mp h1
  simp only [Bool.and_eq_true] at h2
  obtain ⟨⟨h3, h4⟩, h5⟩ := h2
  obtain ⟨a, b, c⟩ := r
  obtain rfl := Nat.eq_of_beq_eq_true h3
  obtain rfl := Nat.eq_of_beq_eq_true h4
  obtain rfl := Nat.eq_of_beq_eq_true h5
  exact hr
set_option maxRecDepth 100000 in
theorem ids_ok : ∀ r ∈ ids, okW r = true := by decide +kernel
def rcode (r : PR) : Nat := r.1 + 16 * (r.2.1 + 16 * r.2.2)
set_option maxRecDepth 100000 in
theorem ids_nd : va_nd (ids.map rcode) = true := by decide +kernel
theorem ids_inj {i j : Nat} {r : PR} (hi : ids[i]? = some r) (hj : ids[j]? = some r) : i = j :=
  va_nd_inj (ids.map rcode) ids_nd i j (rcode r) (by rw [List.getElem?_map, hi]; rfl) (by rw [List.getElem?_map, hj]; rfl)
theorem okW_lt {t k g : Nat} (h : okW (t, k, g) = true) : t < 10 ∧ k < 12 ∧ g < 8 := by
  have ht : t < 10 := by
    rcases Nat.lt_or_ge t 10 with q | q
    · exact q
    · exfalso
      obtain ⟨u, rfl⟩ : ∃ u, t = u + 10 := ⟨t - 10, by omega⟩
      simp [okW] at h
  refine ⟨ht, ?_⟩
  rcases (show t = 0 ∨ t = 1 ∨ t = 2 ∨ t = 3 ∨ t = 4 ∨ t = 5 ∨ t = 6 ∨ t = 7 ∨ t = 8 ∨ t = 9 by omega) with rfl | rfl | rfl | rfl | rfl | rfl | rfl | rfl | rfl | rfl <;> simp [okW] at h <;> omega
theorem ids_in {r : PR} (h : okW r = true) : r ∈ ids := by
  obtain ⟨t, k, g⟩ := r
  obtain ⟨h1, h2, h3⟩ := okW_lt h
  exact ids_all t h1 k h2 g h3 h
/-- a value of the small machine, in the heap's addresses -/
def toV (ad : PR → Nat) (v : PV) : Value := match v with
  | .inl x => .int x
  | .inr (.inl x) => .long x
  | .inr (.inr (.inl x)) => .double x
  | .inr (.inr (.inr none)) => .null
  | .inr (.inr (.inr (some r))) => .ref (ad r)
theorem toV_cat (ad : PR → Nat) (v : PV) : (toV ad v).category = cat v := by
  rcases v with x | x | x | _ | r <;> rfl
/-- the classes of int[], long[], State[] -/
abbrev AC : Type := ClassId × ClassId × ClassId
def tys (A : AC) : List (ClassId × FieldType) := [(A.1, .int), (A.2.2, .object "HotPanLocks$State")]
/-- what stands in a cell -/
def ce (A : AC) (ad : PR → Nat) (m : PM) (r : PR) : va_E := match r.1 with
  | 0 => .inr (2, [.ref (ad (1, 0, r.2.2)), .ref (ad (1, 1, r.2.2)), .ref (ad (1, 2, r.2.2)), .ref (ad (1, 3, r.2.2)), .ref (ad (1, 4, r.2.2)), .ref (ad (1, 5, r.2.2)), .ref (ad (1, 6, r.2.2)), .ref (ad (1, 7, r.2.2)), .ref (ad (1, 8, r.2.2)), .ref (ad (1, 9, r.2.2)), .ref (ad (1, 10, r.2.2)), .int (m.1 0 0 r.2.2 11)])
  | 1 => .inr (1, [.ref (ad (2, r.2.1, r.2.2))])
  | 2 => .inl (A.1, nlen r.2.1, .inl (fun i => m.1 2 r.2.1 r.2.2 i))
  | 3 => .inr (4, [.ref (ad (0, 0, 0)), .ref (ad (0, 0, 1)), .ref (ad (4, 0, 0)), .ref (ad (6, 0, 0))])
  | 4 => .inr (0, [.ref (ad (5, 0, 0)), .int (m.1 4 0 0 1), .int (m.1 4 0 0 2)])
  | 5 => .inl (A.2.2, 6, .inr (.inr (.inr (.inr (fun i => some (ad (0, 0, 2 + i)))))))
  | 6 => .inr (3, [.ref (ad (1, 11, 0)), .int (m.1 6 0 0 1)])
  | _ => .inl (A.1, zlen r.2.1, .inl (fun i => m.1 8 r.2.1 0 i))
def wd (A : AC) (ad : PR → Nat) (m : PM) : va_W := ids.map fun r => (ad r, ce A ad m r)
theorem wd_at {A : AC} {ad : PR → Nat} {m : PM} {r : PR} (h : okW r = true) : ∃ q0 : Nat, ids[q0]? = some r ∧ (wd A ad m)[q0]? = some (ad r, ce A ad m r) := by
  obtain ⟨q0, h0⟩ := List.getElem?_of_mem (ids_in h)
  exact ⟨q0, h0, by rw [wd, List.getElem?_map, h0]; rfl⟩
theorem wd_set {A : AC} {ad : PR → Nat} {m m2 : PM} {r : PR} {q0 : Nat} {e : va_E} (h0 : ids[q0]? = some r) (he : ce A ad m2 r = e) (ho : ∀ r2 : PR, okW r2 = true → r2 ≠ r → ce A ad m2 r2 = ce A ad m r2) : (wd A ad m).set q0 (ad r, e) = wd A ad m2 := by
  apply List.ext_getElem?
  intro i
  have hl : q0 < ids.length := (List.getElem?_eq_some_iff.mp h0).1
  by_cases hi : i = q0
  · subst hi
    rw [List.getElem?_set_self (by rw [wd, List.length_map]; exact hl), wd, List.getElem?_map, h0, Option.map_some, he]
  · rw [List.getElem?_set_ne (Ne.symm hi), wd, wd, List.getElem?_map, List.getElem?_map]
    cases h1 : ids[i]? with
    | none => rfl
    | some r2 =>
      have hne : r2 ≠ r := fun q => hi (ids_inj (r := r) (by rw [h1, q]) h0)
      rw [Option.map_some, Option.map_some, ho r2 (ids_ok r2 (List.mem_of_getElem? h1)) hne]
theorem ce_same {A : AC} {ad : PR → Nat} {m m2 : PM} {r : PR} (h : okW r = true) (h1 : ∀ i, m2.1 r.1 r.2.1 r.2.2 i = m.1 r.1 r.2.1 r.2.2 i) (h2 : ∀ i, m2.2 r.1 r.2.1 r.2.2 i = m.2 r.1 r.2.1 r.2.2 i) : ce A ad m2 r = ce A ad m r := by
  obtain ⟨t, k, g⟩ := r
  have ht := (okW_lt h).1
  dsimp only at h1 h2
  rcases (show t = 0 ∨ t = 1 ∨ t = 2 ∨ t = 3 ∨ t = 4 ∨ t = 5 ∨ t = 6 ∨ t = 7 ∨ t = 8 ∨ t = 9 by omega) with rfl | rfl | rfl | rfl | rfl | rfl | rfl | rfl | rfl | rfl <;> simp [okW] at h
  · obtain ⟨rfl, -⟩ := h; simp [ce, h1]
  · rfl
  · simp [ce, h1]
  · rfl
  · obtain ⟨rfl, rfl⟩ := h; simp [ce, h1]
  · rfl
  · obtain ⟨rfl, rfl⟩ := h; simp [ce, h1]
  · obtain ⟨-, rfl⟩ := h; simp [ce, h1]
theorem wI_ne {m : PM} {t k g s : Nat} {v : Int32} {r : PR} (h : r ≠ (t, k, g)) (i : Nat) : (wI m t k g s v).1 r.1 r.2.1 r.2.2 i = m.1 r.1 r.2.1 r.2.2 i := by
  obtain ⟨a, b, c⟩ := r
  unfold wI
  dsimp only
  rw [if_neg]
  rintro ⟨rfl, rfl, rfl, -⟩
  exact h rfl
theorem wL_ne {m : PM} {t k g s : Nat} {v : Int64} {r : PR} (h : r ≠ (t, k, g)) (i : Nat) : (wL m t k g s v).2 r.1 r.2.1 r.2.2 i = m.2 r.1 r.2.1 r.2.2 i := by
  obtain ⟨a, b, c⟩ := r
  unfold wL
  dsimp only
  rw [if_neg]
  rintro ⟨rfl, rfl, rfl, -⟩
  exact h rfl
theorem wC_ne {m : PM} {k g n k2 g2 : Nat} {r : PR} (h : r ≠ (2, k2, g2)) (i : Nat) : (wC m k g n k2 g2).1 r.1 r.2.1 r.2.2 i = m.1 r.1 r.2.1 r.2.2 i := by
  obtain ⟨a, b, c⟩ := r
  unfold wC
  dsimp only
  rw [if_neg]
  rintro ⟨rfl, rfl, rfl, -⟩
  exact h rfl
/-- a field that is read -/
theorem fv_ok {A : AC} {ad : PR → Nat} {m : PM} {t k g s ci : Nat} {v : PV} (h : okW (t, k, g) = true) (ht : tcl t = some ci) (hv : fv m t k g s = some v) : ∃ fs, ce A ad m (t, k, g) = .inr (ci, fs) ∧ fs[s]? = some (toV ad v) ∧ vok v = true := by
  have h10 := (okW_lt h).1
  rcases (show t = 0 ∨ t = 1 ∨ t = 2 ∨ t = 3 ∨ t = 4 ∨ t = 5 ∨ t = 6 ∨ t = 7 ∨ t = 8 ∨ t = 9 by omega) with rfl | rfl | rfl | rfl | rfl | rfl | rfl | rfl | rfl | rfl <;> simp [tcl] at ht <;> subst ht
  · simp [okW] at h
    obtain ⟨rfl, hg⟩ := h
    refine ⟨_, rfl, ?_⟩
    have hv : (if s = 11 then some (vI (m.1 0 0 g 11)) else if s < 11 then some (vR 1 s g) else none) = some v := hv
    by_cases h11 : s = 11
    · rw [if_pos h11] at hv; cases hv; subst h11; exact ⟨rfl, rfl⟩
    · rw [if_neg h11] at hv
      by_cases hs : s < 11
      · rw [if_pos hs] at hv
        cases hv
        rcases (show s = 0 ∨ s = 1 ∨ s = 2 ∨ s = 3 ∨ s = 4 ∨ s = 5 ∨ s = 6 ∨ s = 7 ∨ s = 8 ∨ s = 9 ∨ s = 10 by omega) with rfl | rfl | rfl | rfl | rfl | rfl | rfl | rfl | rfl | rfl | rfl <;> exact ⟨rfl, by simp [vok, okR, okW, hg]⟩
      · rw [if_neg hs] at hv; cases hv
  · simp [okW] at h
    refine ⟨_, rfl, ?_⟩
    rcases s with _ | s
    · cases hv; exact ⟨rfl, by simp [vok, okR, okW]; exact h⟩
    · cases hv
  · simp [okW] at h
    obtain ⟨rfl, rfl⟩ := h
    refine ⟨_, rfl, ?_⟩
    rcases s with _ | _ | _ | _ | s <;> cases hv <;> exact ⟨rfl, rfl⟩
  · simp [okW] at h
    obtain ⟨rfl, rfl⟩ := h
    refine ⟨_, rfl, ?_⟩
    rcases s with _ | _ | _ | s <;> cases hv <;> exact ⟨rfl, rfl⟩
  · simp [okW] at h
    obtain ⟨rfl, rfl⟩ := h
    refine ⟨_, rfl, ?_⟩
    rcases s with _ | _ | s <;> cases hv <;> exact ⟨rfl, rfl⟩
/-- the int fields that are written: class, place -/
def ipl : List (Nat × Nat) := [(2, 11), (0, 1), (0, 2), (3, 1)]
theorem ip_ok {A : AC} {ad : PR → Nat} {m : PM} {t k g s ci : Nat} (v : Int32) (h : okW (t, k, g) = true) (ht : tcl t = some ci) (hs : ipf t s = true) : (ci, s) ∈ ipl ∧ ∃ fs, ce A ad m (t, k, g) = .inr (ci, fs) ∧ s < fs.length ∧ ce A ad (wI m t k g s v) (t, k, g) = .inr (ci, fs.set s (.int v)) := by
  have h10 := (okW_lt h).1
  rcases (show t = 0 ∨ t = 1 ∨ t = 2 ∨ t = 3 ∨ t = 4 ∨ t = 5 ∨ t = 6 ∨ t = 7 ∨ t = 8 ∨ t = 9 by omega) with rfl | rfl | rfl | rfl | rfl | rfl | rfl | rfl | rfl | rfl <;> simp [tcl] at ht <;> subst ht <;> simp [ipf] at hs <;> simp [okW] at h
  · obtain ⟨rfl, hg⟩ := h
    subst hs
    exact ⟨by decide, _, rfl, Nat.le_of_ble_eq_true rfl, by simp [ce, wI]⟩
  · obtain ⟨rfl, rfl⟩ := h
    rcases hs with rfl | rfl <;> exact ⟨by decide, _, rfl, Nat.le_of_ble_eq_true rfl, by simp [ce, wI]⟩
  · obtain ⟨rfl, rfl⟩ := h
    subst hs
    exact ⟨by decide, _, rfl, Nat.le_of_ble_eq_true rfl, by simp [ce, wI]⟩
/-- int arrays -/
theorem ia_ok {A : AC} {ad : PR → Nat} {m : PM} {t k g N : Nat} (h : okW (t, k, g) = true) (hn : ilen m t k = some N) : ce A ad m (t, k, g) = .inl (A.1, N, .inl (fun i => m.1 t k g i)) ∧ ∀ (j : Nat) (v : Int32), ce A ad (wI m t k g j v) (t, k, g) = .inl (A.1, N, .inl (upd (fun i => m.1 t k g i) j v)) := by
  have h10 := (okW_lt h).1
  rcases (show t = 0 ∨ t = 1 ∨ t = 2 ∨ t = 3 ∨ t = 4 ∨ t = 5 ∨ t = 6 ∨ t = 7 ∨ t = 8 ∨ t = 9 by omega) with rfl | rfl | rfl | rfl | rfl | rfl | rfl | rfl | rfl | rfl <;> simp [ilen] at hn <;> subst hn
  · refine ⟨rfl, fun j v => ?_⟩
    simp only [ce, wI]
    congr 4
    funext i
    simp [upd]
  · simp [okW] at h
    obtain ⟨-, rfl⟩ := h
    refine ⟨rfl, fun j v => ?_⟩
    simp only [ce, wI]
    congr 4
    funext i
    simp [upd]
theorem al_ok {A : AC} {ad : PR → Nat} {m : PM} {t k g : Nat} {v : Int32} (h : okW (t, k, g) = true) (hn : alen m t k = some v) : ∃ (t0 : Nat) (c : ClassId) (ty : FieldType) (x : vp_A), (tys A)[t0]? = some (c, ty) ∧ ce A ad m (t, k, g) = .inl (c, x) ∧ Int32.ofNat x.1 = v := by
  have h10 := (okW_lt h).1
  rcases (show t = 0 ∨ t = 1 ∨ t = 2 ∨ t = 3 ∨ t = 4 ∨ t = 5 ∨ t = 6 ∨ t = 7 ∨ t = 8 ∨ t = 9 by omega) with rfl | rfl | rfl | rfl | rfl | rfl | rfl | rfl | rfl | rfl <;> simp [alen] at hn <;> subst hn
  · exact ⟨0, A.1, .int, _, rfl, rfl, rfl⟩
  · exact ⟨1, A.2.2, _, _, rfl, rfl, rfl⟩
  · exact ⟨0, A.1, .int, _, rfl, rfl, rfl⟩
end
section
/-! THE SMALL MACHINE IS SOUND: locals and stacks, then one instruction after the other -/
def lvl (ad : PR → Nat) : Nat → List (Option PV) → List (Nat × Value)
  | _, [] => []
  | i, none :: r => lvl ad (i + 1) r
  | i, some v :: r => (i, toV ad v) :: lvl ad (i + 1) r
theorem lvl_mem {ad : PR → Nat} {L : List (Option PV)} : ∀ {i j : Nat} {w : Value}, (j, w) ∈ lvl ad i L ↔ ∃ (k : Nat) (v : PV), j = i + k ∧ L[k]? = some (some v) ∧ w = toV ad v := by
  induction L with
  | nil => intro i j w; simp [lvl]
  | cons a r ih =>
    intro i j w
    have step : (∃ (k : Nat) (v : PV), j = i + k ∧ (a :: r)[k]? = some (some v) ∧ w = toV ad v) ↔ ((∃ v, a = some v ∧ j = i ∧ w = toV ad v) ∨ ∃ (k : Nat) (v : PV), j = i + 1 + k ∧ r[k]? = some (some v) ∧ w = toV ad v) := by
      constructor
      · rintro ⟨k, v, h1, h2, h3⟩
        cases k with
        | zero => exact Or.inl ⟨v, by simpa using h2, by omega, h3⟩
        | succ k => exact Or.inr ⟨k, v, by omega, by simpa using h2, h3⟩
      · rintro (⟨v, h1, h2, h3⟩ | ⟨k, v, h1, h2, h3⟩)
        · exact ⟨0, v, by omega, by simp [h1], h3⟩
        · exact ⟨k + 1, v, by omega, by simpa using h2, h3⟩
    rw [step]
    cases a with
    | none => simp only [lvl, ih]; simp
    | some v =>
      simp only [lvl, List.mem_cons, ih, Prod.mk.injEq]
      constructor
      · rintro (⟨h1, h2⟩ | h)
        · exact Or.inl ⟨v, rfl, h1, h2⟩
        · exact Or.inr h
      · rintro (⟨v2, h0, h1, h2⟩ | h)
        · cases h0; exact Or.inl ⟨h1, h2⟩
        · exact Or.inr h
def LR (ad : PR → Nat) (n : Nat) (L : List (Option PV)) (ls : Array Slot) : Prop := L.length = n ∧ lv_has ls n (lvl ad 0 L) ∧ ∀ (k : Nat) (v : PV), L[k]? = some (some v) → vok v = true
theorem lr_get {ad : PR → Nat} {n : Nat} {L : List (Option PV)} {ls : Array Slot} (h : LR ad n L ls) {k : Nat} {v : PV} (hk : L[k]? = some (some v)) : ls[k]? = some (.val (toV ad v)) := h.2.1.2.2 (k, toV ad v) (lvl_mem.mpr ⟨k, v, by omega, hk, rfl⟩)
theorem lv_sub2 {ls : Array Slot} {n : Nat} {l l2 : List (Nat × Value)} (h : lv_has ls n l) (hs : ∀ q ∈ l2, q ∈ l) : lv_has ls n l2 := ⟨h.1, h.2.1, fun q hq => h.2.2 q (hs q hq)⟩
theorem clr_len (L : List (Option PV)) (i : Nat) : (clr L i).length = L.length := by
  unfold clr
  split
  · rfl
  · split
    · split
      · exact List.length_set
      · rfl
    · rfl
theorem clr_get {L : List (Option PV)} {i k : Nat} {u : PV} (h : (clr L i)[k]? = some (some u)) : L[k]? = some (some u) ∧ (i = k + 1 → ¬ cat u = 2) := by
  unfold clr at h
  split at h
  · exact ⟨h, fun q => by omega⟩
  · next j =>
    split at h
    · next w hw =>
      split at h
      · by_cases hk : k = j
        · subst hk
          rw [List.getElem?_set_self (List.getElem?_eq_some_iff.mp hw).1] at h
          cases h
        · rw [List.getElem?_set_ne (Ne.symm hk)] at h
          exact ⟨h, fun q => by omega⟩
      · next hc =>
        refine ⟨h, fun q => ?_⟩
        obtain rfl : j = k := by omega
        rw [hw] at h
        cases h
        exact hc
    · next hn =>
      refine ⟨h, fun q => ?_⟩
      obtain rfl : j = k := by omega
      exact absurd h (hn u)
theorem lset_len {L L2 : List (Option PV)} {i : Nat} {v : PV} (h : lset L i v = some L2) : i < L.length ∧ L2 = (clr L i).set i (some v) := by
  unfold lset at h
  by_cases hi : i < L.length
  · rw [if_pos hi] at h; cases h; exact ⟨hi, rfl⟩
  · rw [if_neg hi] at h; cases h
theorem lset2_len {L L2 : List (Option PV)} {i : Nat} {v : PV} (h : lset2 L i v = some L2) : i + 1 < L.length ∧ L2 = ((clr L i).set i (some v)).set (i + 1) none := by
  unfold lset2 at h
  by_cases hi : i + 1 < L.length
  · rw [if_pos hi] at h; cases h; exact ⟨hi, rfl⟩
  · rw [if_neg hi] at h; cases h
theorem lset_in {ad : PR → Nat} {L L2 : List (Option PV)} {i : Nat} {v : PV} (h : lset L i v = some L2) : ∀ q ∈ lvl ad 0 L2, q ∈ (i, toV ad v) :: (lvl ad 0 L).filter (fun q => !(q.1 == i) && !(q.1 + 1 == i && q.2.category == 2)) := by
  obtain ⟨hi, rfl⟩ := lset_len h
  rintro ⟨j, w⟩ hq
  obtain ⟨k, u, e1, e2, e3⟩ := lvl_mem.mp hq
  obtain rfl : j = k := by omega
  by_cases hj : j = i
  · subst hj
    rw [List.getElem?_set_self (by rw [clr_len]; exact hi)] at e2
    cases e2
    rw [e3]
    exact List.mem_cons_self
  · rw [List.getElem?_set_ne (Ne.symm hj)] at e2
    obtain ⟨e4, e5⟩ := clr_get e2
    refine List.mem_cons_of_mem _ (List.mem_filter.mpr ⟨lvl_mem.mpr ⟨j, u, by omega, e4, e3⟩, ?_⟩)
    simp only [Bool.and_eq_true, Bool.not_eq_true', beq_eq_false_iff_ne, ne_eq, Bool.and_eq_false_iff]
    refine ⟨hj, ?_⟩
    by_cases hji : j + 1 = i
    · right
      rw [e3, toV_cat]
      exact e5 hji.symm
    · exact Or.inl hji
theorem lset2_in {ad : PR → Nat} {L L2 : List (Option PV)} {i : Nat} {v : PV} (h : lset2 L i v = some L2) : ∀ q ∈ lvl ad 0 L2, q ∈ (i, toV ad v) :: (lvl ad 0 L).filter (fun q => !(q.1 == i) && (!(q.1 == i + 1) && !(q.1 + 1 == i && q.2.category == 2))) := by
  obtain ⟨hi, rfl⟩ := lset2_len h
  rintro ⟨j, w⟩ hq
  obtain ⟨k, u, e1, e2, e3⟩ := lvl_mem.mp hq
  obtain rfl : j = k := by omega
  by_cases hj1 : j = i + 1
  · subst hj1
    rw [List.getElem?_set_self (by rw [List.length_set, clr_len]; exact hi)] at e2
    cases e2
  rw [List.getElem?_set_ne (Ne.symm hj1)] at e2
  by_cases hj : j = i
  · subst hj
    rw [List.getElem?_set_self (by rw [clr_len]; omega)] at e2
    cases e2
    rw [e3]
    exact List.mem_cons_self
  · rw [List.getElem?_set_ne (Ne.symm hj)] at e2
    obtain ⟨e4, e5⟩ := clr_get e2
    refine List.mem_cons_of_mem _ (List.mem_filter.mpr ⟨lvl_mem.mpr ⟨j, u, by omega, e4, e3⟩, ?_⟩)
    simp only [Bool.and_eq_true, Bool.not_eq_true', beq_eq_false_iff_ne, ne_eq, Bool.and_eq_false_iff]
    refine ⟨hj, hj1, ?_⟩
    by_cases hji : j + 1 = i
    · right
      rw [e3, toV_cat]
      exact e5 hji.symm
    · exact Or.inl hji
theorem lset_ok {L L2 : List (Option PV)} {i : Nat} {v : PV} (h : lset L i v = some L2) (hv : vok v = true) (hL : ∀ (k : Nat) (v : PV), L[k]? = some (some v) → vok v = true) : L2.length = L.length ∧ ∀ (k : Nat) (v : PV), L2[k]? = some (some v) → vok v = true := by
  obtain ⟨hi, rfl⟩ := lset_len h
  refine ⟨by rw [List.length_set, clr_len], fun k w hk => ?_⟩
  by_cases hj : k = i
  · subst hj
    rw [List.getElem?_set_self (by rw [clr_len]; exact hi)] at hk
    cases hk
    exact hv
  · rw [List.getElem?_set_ne (Ne.symm hj)] at hk
    exact hL k w (clr_get hk).1
theorem lset2_ok {L L2 : List (Option PV)} {i : Nat} {v : PV} (h : lset2 L i v = some L2) (hv : vok v = true) (hL : ∀ (k : Nat) (v : PV), L[k]? = some (some v) → vok v = true) : L2.length = L.length ∧ ∀ (k : Nat) (v : PV), L2[k]? = some (some v) → vok v = true := by
  obtain ⟨hi, rfl⟩ := lset2_len h
  refine ⟨by rw [List.length_set, List.length_set, clr_len], fun k w hk => ?_⟩
  by_cases hj1 : k = i + 1
  · subst hj1
    rw [List.getElem?_set_self (by rw [List.length_set, clr_len]; exact hi)] at hk
    cases hk
  rw [List.getElem?_set_ne (Ne.symm hj1)] at hk
  by_cases hj : k = i
  · subst hj
    rw [List.getElem?_set_self (by rw [clr_len]; omega)] at hk
    cases hk
    exact hv
  · rw [List.getElem?_set_ne (Ne.symm hj)] at hk
    exact hL k w (clr_get hk).1
def SV (st : List PV) : Prop := ∀ v ∈ st, vok v = true
theorem sv_c {v : PV} {st : List PV} (h : vok v = true) (hs : SV st) : SV (v :: st) := fun w hw => (List.mem_cons.mp hw).elim (fun e => by rw [e]; exact h) (hs w)
theorem sv_t {v : PV} {st : List PV} (hs : SV (v :: st)) : SV st := fun w hw => hs w (List.mem_cons_of_mem _ hw)
theorem sv_h {v : PV} {st : List PV} (hs : SV (v :: st)) : vok v = true := hs v List.mem_cons_self
section SA
variable {p : Program} {l : Launch} {e : Env} {R : Room} {s : State} {mi : MethodId} {args : Array Value} {below : List Frame} {meth : Method} {c : Code} {H : Heap} {locs : List Loc} {cells slots : Nat} {Q : State → Prop}
variable {cc : ByteArray} {pc pc2 n nL : Nat} {ls : Array Slot} {ad : PR → Nat} {L L2 : List (Option PV)} {st st2 : List PV} {m m2 : PM} {i : Instr}
set_option maxHeartbeats 4000000 in
theorem sa_ok (hx : p.tables.exec = Jvm.exec) (hb : c.code = cc) (hl : LR ad nL L ls) (hs : SV st) (hd : decode cc pc = .ok (i, n)) (h : sm_a i n pc L st m = some (pc2, L2, st2, m2))
    (K : L2 = L → m2 = m → SV st2 → W p l e R s mi args below meth c H locs cells slots Q (F0 mi pc2 ls (st2.map (toV ad)))) : W p l e R s mi args below meth c H locs cells slots Q (F0 mi pc ls (st.map (toV ad))) := by
  unfold sm_a at h
  split at h
  · cases h; exact lv_iconst hx hb hd rfl (K rfl rfl (sv_c rfl hs))
  · cases h; exact lv_bipush hx hb hd rfl (K rfl rfl (sv_c rfl hs))
  · cases h; exact lv_sipush hx hb hd rfl (K rfl rfl (sv_c rfl hs))
  · cases h; exact lv_lconst hx hb hd rfl (K rfl rfl (sv_c rfl hs))
  · next v =>
    cases h
    have K2 := K rfl rfl (sv_c rfl hs)
    by_cases hv : v = 0
    · subst hv; rw [if_pos rfl] at K2; exact lv_dconst0 hx hb hd K2
    · rw [if_neg hv] at K2
      have hv1 : v = 1 := by omega
      subst hv1
      exact lv_dconst1 hx hb hd K2
  · cases h; exact lv_null hx hb hd (K rfl rfl (sv_c rfl hs))
  · split at h
    · next hk => cases h; exact lv_iload_n hx hb hd rfl (lr_get hl hk) (K rfl rfl (sv_c rfl hs))
    · cases h
  · split at h
    · next hk => cases h; exact lv_iload hx hb hd (lr_get hl hk) (K rfl rfl (sv_c rfl hs))
    · cases h
  · split at h
    · next hk => cases h; exact lv_lload_n hx hb hd rfl (lr_get hl hk) (K rfl rfl (sv_c rfl hs))
    · cases h
  · split at h
    · next hk => cases h; exact lv_lload hx hb hd (lr_get hl hk) (K rfl rfl (sv_c rfl hs))
    · cases h
  · split at h
    · next hk => cases h; exact lv_dload_n hx hb hd rfl (lr_get hl hk) (K rfl rfl (sv_c rfl hs))
    · cases h
  · split at h
    · next hk => cases h; exact lv_dload hx hb hd (lr_get hl hk) (K rfl rfl (sv_c rfl hs))
    · cases h
  · split at h
    · next x hk =>
      cases h
      have hv := hl.2.2 _ _ hk
      cases x with
      | none => exact lv_aload_nN hx hb hd rfl (lr_get hl hk) (K rfl rfl (sv_c hv hs))
      | some r => exact lv_aload_n hx hb hd rfl (lr_get hl hk) (K rfl rfl (sv_c hv hs))
    · cases h
  · split at h
    · next x hk =>
      cases h
      have hv := hl.2.2 _ _ hk
      cases x with
      | none => exact lv_aloadN hx hb hd (lr_get hl hk) (K rfl rfl (sv_c hv hs))
      | some r => exact lv_aload hx hb hd (lr_get hl hk) (K rfl rfl (sv_c hv hs))
    · cases h
  · cases h
end SA
end
section
section SB
variable {p : Program} {l : Launch} {e : Env} {R : Room} {s : State} {mi : MethodId} {args : Array Value} {below : List Frame} {meth : Method} {c : Code} {H : Heap} {locs : List Loc} {cells slots : Nat} {Q : State → Prop}
variable {cc : ByteArray} {pc pc2 n nL : Nat} {ls : Array Slot} {ad : PR → Nat} {L L2 : List (Option PV)} {st st2 : List PV} {m m2 : PM} {i : Instr}
theorem lr_set (hl : LR ad nL L ls) {k : Nat} {v : PV} (h : lset L k v = some L2) (hv : vok v = true) {ls2 : Array Slot} (h2 : lv_has ls2 nL ((k, toV ad v) :: (lvl ad 0 L).filter (fun q => !(q.1 == k) && !(q.1 + 1 == k && q.2.category == 2)))) : LR ad nL L2 ls2 :=
  ⟨(lset_ok h hv hl.2.2).1.trans hl.1, lv_sub2 h2 (lset_in h), (lset_ok h hv hl.2.2).2⟩
theorem lr_set2 (hl : LR ad nL L ls) {k : Nat} {v : PV} (h : lset2 L k v = some L2) (hv : vok v = true) {ls2 : Array Slot} (h2 : lv_has ls2 nL ((k, toV ad v) :: (lvl ad 0 L).filter (fun q => !(q.1 == k) && (!(q.1 == k + 1) && !(q.1 + 1 == k && q.2.category == 2))))) : LR ad nL L2 ls2 :=
  ⟨(lset2_ok h hv hl.2.2).1.trans hl.1, lv_sub2 h2 (lset2_in h), (lset2_ok h hv hl.2.2).2⟩
theorem lr_lt (hl : LR ad nL L ls) {k : Nat} {v : PV} (h : lset L k v = some L2) : k < nL := by rw [← hl.1]; exact (lset_len h).1
theorem lr_lt2 (hl : LR ad nL L ls) {k : Nat} {v : PV} (h : lset2 L k v = some L2) : k + 1 < nL := by rw [← hl.1]; exact (lset2_len h).1
set_option maxHeartbeats 4000000 in
theorem sb_ok (hx : p.tables.exec = Jvm.exec) (hb : c.code = cc) (hl : LR ad nL L ls) (hs : SV st) (hd : decode cc pc = .ok (i, n)) (h : sm_b i n pc L st m = some (pc2, L2, st2, m2))
    (K : ∀ ls2 : Array Slot, m2 = m → LR ad nL L2 ls2 → SV st2 → W p l e R s mi args below meth c H locs cells slots Q (F0 mi pc2 ls2 (st2.map (toV ad)))) : W p l e R s mi args below meth c H locs cells slots Q (F0 mi pc ls (st.map (toV ad))) := by
  unfold sm_b at h
  split at h
  · split at h
    · split at h
      · next hk => cases h; exact lv_istore_n hx hb hd rfl hl.2.1 (lr_lt hl hk) rfl (fun ls2 h2 => K ls2 rfl (lr_set hl hk rfl h2) (sv_t hs))
      · cases h
    · cases h
  · split at h
    · split at h
      · next hk => cases h; exact lv_istore hx hb hd hl.2.1 (lr_lt hl hk) rfl (fun ls2 h2 => K ls2 rfl (lr_set hl hk rfl h2) (sv_t hs))
      · cases h
    · cases h
  · split at h
    · split at h
      · next hk => cases h; exact lv_lstore_n hx hb hd rfl hl.2.1 (lr_lt2 hl hk) rfl (fun ls2 h2 => K ls2 rfl (lr_set2 hl hk rfl h2) (sv_t hs))
      · cases h
    · cases h
  · split at h
    · split at h
      · next hk => cases h; exact lv_lstore hx hb hd hl.2.1 (lr_lt2 hl hk) rfl (fun ls2 h2 => K ls2 rfl (lr_set2 hl hk rfl h2) (sv_t hs))
      · cases h
    · cases h
  · split at h
    · split at h
      · next hk => cases h; exact lv_dstore_n hx hb hd rfl hl.2.1 (lr_lt2 hl hk) rfl (fun ls2 h2 => K ls2 rfl (lr_set2 hl hk rfl h2) (sv_t hs))
      · cases h
    · cases h
  · split at h
    · split at h
      · next hk => cases h; exact lv_dstore hx hb hd hl.2.1 (lr_lt2 hl hk) rfl (fun ls2 h2 => K ls2 rfl (lr_set2 hl hk rfl h2) (sv_t hs))
      · cases h
    · cases h
  · split at h
    · next x r =>
      split at h
      · next hk =>
        cases h
        have hv := sv_h hs
        cases x with
        | none => exact lv_astore_nN hx hb hd rfl hl.2.1 (lr_lt hl hk) rfl (fun ls2 h2 => K ls2 rfl (lr_set hl hk hv h2) (sv_t hs))
        | some r => exact lv_astore_n hx hb hd rfl hl.2.1 (lr_lt hl hk) rfl (fun ls2 h2 => K ls2 rfl (lr_set hl hk hv h2) (sv_t hs))
      · cases h
    · cases h
  · split at h
    · next x r =>
      split at h
      · next hk =>
        cases h
        have hv := sv_h hs
        cases x with
        | none => exact lv_astoreN hx hb hd hl.2.1 (lr_lt hl hk) rfl (fun ls2 h2 => K ls2 rfl (lr_set hl hk hv h2) (sv_t hs))
        | some r => exact lv_astore hx hb hd hl.2.1 (lr_lt hl hk) rfl (fun ls2 h2 => K ls2 rfl (lr_set hl hk hv h2) (sv_t hs))
      · cases h
    · cases h
  · next k d =>
    split at h
    · next x hk0 =>
      split at h
      · next hk =>
        cases h
        obtain ⟨q, hq⟩ := List.getElem?_of_mem ((lvl_mem (ad := ad) (i := 0) (j := k) (w := .int x)).mpr ⟨k, vI x, by omega, hk0, rfl⟩)
        exact lv_iinc hx hb hd hl.2.1 hq rfl (lr_lt hl hk) rfl (fun ls2 h2 => K ls2 rfl (lr_set hl hk rfl h2) hs)
      · cases h
    · cases h
  · split at h
    · split at h
      · next hc => cases h; exact lv_dup hx hb hd (by rw [toV_cat]; exact hc) (K ls rfl hl (sv_c (sv_h hs) hs))
      · cases h
    · cases h
  · split at h
    · split at h
      · next hc =>
        split at h
        · next hc2 => cases h; exact lv_dup2_11 hx hb hd (by rw [toV_cat]; exact hc) (by rw [toV_cat]; exact hc2) (K ls rfl hl (sv_c (sv_h hs) (sv_c (sv_h (sv_t hs)) hs)))
        · cases h
      · cases h
    · cases h
  · split at h
    · split at h
      · next hc => cases h; exact lv_pop hx hb hd (by rw [toV_cat]; exact hc) (K ls rfl hl (sv_t hs))
      · cases h
    · cases h
  · cases h
set_option maxHeartbeats 4000000 in
theorem sc_ok (hx : p.tables.exec = Jvm.exec) (hb : c.code = cc) (hs : SV st) (hd : decode cc pc = .ok (i, n)) (h : sm_c i n pc L st m = some (pc2, L2, st2, m2))
    (K : L2 = L → m2 = m → SV st2 → W p l e R s mi args below meth c H locs cells slots Q (F0 mi pc2 ls (st2.map (toV ad)))) : W p l e R s mi args below meth c H locs cells slots Q (F0 mi pc ls (st.map (toV ad))) := by
  unfold sm_c at h
  split at h
  · cases h; exact lv_iadd hx hb hd (K rfl rfl (sv_c rfl (sv_t (sv_t hs))))
  · cases h; exact lv_isub hx hb hd (K rfl rfl (sv_c rfl (sv_t (sv_t hs))))
  · cases h; exact lv_imul hx hb hd (K rfl rfl (sv_c rfl (sv_t (sv_t hs))))
  · cases h; exact lv_iand hx hb hd (K rfl rfl (sv_c rfl (sv_t (sv_t hs))))
  · cases h; exact lv_ior hx hb hd (K rfl rfl (sv_c rfl (sv_t (sv_t hs))))
  · cases h; exact lv_ixor hx hb hd (K rfl rfl (sv_c rfl (sv_t (sv_t hs))))
  · cases h; exact lv_ishl hx hb hd (K rfl rfl (sv_c rfl (sv_t (sv_t hs))))
  · cases h; exact lv_ishr hx hb hd (K rfl rfl (sv_c rfl (sv_t (sv_t hs))))
  · split at h
    · cases h
    · next hn => cases h; exact lv_idiv hx hb hd hn (K rfl rfl (sv_c rfl (sv_t (sv_t hs))))
  · split at h
    · cases h
    · next hn => cases h; exact lv_irem hx hb hd hn (K rfl rfl (sv_c rfl (sv_t (sv_t hs))))
  · cases h; exact lv_iushr hx hb hd rfl (K rfl rfl (sv_c rfl (sv_t (sv_t hs))))
  · cases h; exact lv_ineg hx hb hd (K rfl rfl (sv_c rfl (sv_t hs)))
  · cases h; exact lv_i2l hx hb hd rfl (K rfl rfl (sv_c rfl (sv_t hs)))
  · cases h; exact lv_i2d hx hb hd (K rfl rfl (sv_c rfl (sv_t hs)))
  · cases h; exact lv_ladd hx hb hd (K rfl rfl (sv_c rfl (sv_t (sv_t hs))))
  · cases h; exact lv_lsub hx hb hd (K rfl rfl (sv_c rfl (sv_t (sv_t hs))))
  · cases h; exact lv_lmul hx hb hd (K rfl rfl (sv_c rfl (sv_t (sv_t hs))))
  · cases h; exact lv_lshl hx hb hd rfl (K rfl rfl (sv_c rfl (sv_t (sv_t hs))))
  · cases h; exact W.lcmp hx hb hd (K rfl rfl (sv_c rfl (sv_t (sv_t hs))))
  · cases h; exact lv_dcmp hx hb hd (K rfl rfl (sv_c rfl (sv_t (sv_t hs))))
  · cases h; exact lv_d2l hx hb hd (K rfl rfl (sv_c rfl (sv_t hs)))
  · split at h
    · next hn => cases h; exact lv_dmul hx hb hd hn (K rfl rfl (sv_c rfl (sv_t (sv_t hs))))
    · cases h
  · split at h
    · next hn => cases h; exact lv_dsub hx hb hd hn (K rfl rfl (sv_c rfl (sv_t (sv_t hs))))
    · cases h
  · split at h
    · next hn => cases h; exact lv_ddiv hx hb hd hn (K rfl rfl (sv_c rfl (sv_t (sv_t hs))))
    · cases h
  · cases h
theorem bt_ok {pc t : Nat} {o : Int} (h : bt pc o = some t) : (pc : Int) + o = (t : Int) := by
  unfold bt at h
  split at h
  · next h2 => cases h; rw [h2]; rfl
  · cases h
set_option maxHeartbeats 4000000 in
theorem sd_ok (hx : p.tables.exec = Jvm.exec) (hb : c.code = cc) (hs : SV st) (hd : decode cc pc = .ok (i, n)) (h : sm_d i n pc L st m = some (pc2, L2, st2, m2))
    (K : L2 = L → m2 = m → SV st2 → W p l e R s mi args below meth c H locs cells slots Q (F0 mi pc2 ls (st2.map (toV ad)))) : W p l e R s mi args below meth c H locs cells slots Q (F0 mi pc ls (st.map (toV ad))) := by
  unfold sm_d at h
  split at h
  · split at h
    · next ht => cases h; exact lv_goto hx hb hd (bt_ok ht) (K rfl rfl hs)
    · cases h
  · split at h
    · split at h
      · next ht =>
        have ht := bt_ok ht
        split at h <;> cases h <;> have K2 := K rfl rfl (sv_t hs)
        · exact lv_if_eq hx hb hd ht (fun q => by rw [if_pos q] at K2; exact K2) (fun q => by rw [if_neg q] at K2; exact K2)
        · exact lv_if_ne hx hb hd ht (fun q => by rw [if_pos q] at K2; exact K2) (fun q => by rw [if_neg (fun z => z q)] at K2; exact K2)
        · exact lv_if_lt hx hb hd ht (fun q => by rw [if_pos q] at K2; exact K2) (fun q => by rw [if_neg q] at K2; exact K2)
        · exact lv_if_ge hx hb hd ht (fun q => by rw [if_pos q] at K2; exact K2) (fun q => by rw [if_neg q] at K2; exact K2)
        · exact lv_if_gt hx hb hd ht (fun q => by rw [if_pos q] at K2; exact K2) (fun q => by rw [if_neg q] at K2; exact K2)
        · exact lv_if_le hx hb hd ht (fun q => by rw [if_pos q] at K2; exact K2) (fun q => by rw [if_neg q] at K2; exact K2)
      · cases h
    · cases h
  · split at h
    · split at h
      · next ht =>
        have ht := bt_ok ht
        split at h <;> cases h <;> have K2 := K rfl rfl (sv_t (sv_t hs))
        · exact lv_icmp_eq hx hb hd ht (fun q => by rw [if_pos q] at K2; exact K2) (fun q => by rw [if_neg q] at K2; exact K2)
        · exact lv_icmp_ne hx hb hd ht (fun q => by rw [if_pos q] at K2; exact K2) (fun q => by rw [if_neg (fun z => z q)] at K2; exact K2)
        · exact lv_icmp_lt hx hb hd ht (fun q => by rw [if_pos q] at K2; exact K2) (fun q => by rw [if_neg q] at K2; exact K2)
        · exact lv_icmp_ge hx hb hd ht (fun q => by rw [if_pos q] at K2; exact K2) (fun q => by rw [if_neg q] at K2; exact K2)
        · exact lv_icmp_gt hx hb hd ht (fun q => by rw [if_pos q] at K2; exact K2) (fun q => by rw [if_neg q] at K2; exact K2)
        · exact lv_icmp_le hx hb hd ht (fun q => by rw [if_pos q] at K2; exact K2) (fun q => by rw [if_neg q] at K2; exact K2)
      · cases h
    · cases h
  · split at h
    · split at h
      · next ht => cases h; exact lv_ifnullN hx hb hd (bt_ok ht) (K rfl rfl (sv_t hs))
      · cases h
    · cases h; exact lv_ifnull hx hb hd (K rfl rfl (sv_t hs))
    · cases h
  · split at h
    · split at h
      · next ht => cases h; exact lv_ifnonnull hx hb hd (bt_ok ht) (K rfl rfl (sv_t hs))
      · cases h
    · cases h; exact lv_ifnonnullN hx hb hd (K rfl rfl (sv_t hs))
    · cases h
  · split at h
    · split at h
      · next hc =>
        split at h
        · next ht => cases h; exact lv_tableOut hx hb hd hc (bt_ok ht) (K rfl rfl (sv_t hs))
        · cases h
      · next hc =>
        split at h
        · next ho =>
          split at h
          · next ht => cases h; exact lv_tableIn hx hb hd (fun q => hc (Or.inl q)) (fun q => hc (Or.inr q)) ho (bt_ok ht) (K rfl rfl (sv_t hs))
          · cases h
        · cases h
    · cases h
  · split at h
    · split at h
      · next hp =>
        split at h
        · next ht => cases h; exact lv_lookup hx hb hd hp rfl (bt_ok ht) (K rfl rfl (sv_t hs))
        · cases h
      · cases h
    · cases h
  · cases h
end SB
end
section
def BW : List Cond := lw_tbl.filter goodWord
def isNest (w : Cond) : Bool := match w with
  | .methodLinkNest _ _ _ _ => true
  | _ => false
def NW : List Cond := lw_tbl.filter isNest
theorem bw_of (i : Nat) {w : Cond} (h : lw_tbl[i]? = some w) (g : goodWord w = true) : w ∈ BW := List.mem_filter.mpr ⟨List.mem_of_getElem? h, g⟩
theorem nw_of (i : Nat) {w : Cond} (h : lw_tbl[i]? = some w) (g : isNest w = true) : w ∈ NW := List.mem_filter.mpr ⟨List.mem_of_getElem? h, g⟩
theorem bw_all (ws : List Cond) (ps : List Nat) (h : ps.map (fun i => lw_tbl[i]?) = ws.map some) (g : ws.all goodWord = true) : ∀ w ∈ ws, w ∈ BW := by
  intro w hw
  have h1 : some w ∈ ps.map (fun i => lw_tbl[i]?) := by rw [h]; exact List.mem_map.mpr ⟨w, hw, rfl⟩
  obtain ⟨i, -, hi⟩ := List.mem_map.mp h1
  exact bw_of i hi (List.all_eq_true.mp g w hw)
theorem bw_good : GoodIn lw_tbl BW := fun w h => ⟨(List.mem_filter.mp h).1, good_of_word (List.mem_filter.mp h).2⟩
theorem bw_tbl {w : Cond} (h : w ∈ BW) : w ∈ lw_tbl := (List.mem_filter.mp h).1
theorem bw_gw {w : Cond} (h : w ∈ BW) : goodWord w = true := (List.mem_filter.mp h).2
def flG (o x ci s : Nat) : Prop := ∃ q : vw_C, vwCl[ci]? = some q ∧ s < q.2.2 ∧ (q.2.1 s).1 = q.1 ∧ Cond.fieldLink (RO o) x q.1 (q.2.1 s).2.1 (q.2.1 s).2.2.1 ∈ BW
def clG (q : vw_C) : Prop := (∀ w ∈ u_ws q.1 q.2.1 q.2.2, w ∈ BW) ∧ ∃ ty0 : Nat → FieldType, (∀ k, k < q.2.2 → parseFieldDescriptor (q.2.1 k).2.2.1 = some (ty0 k)) ∧ ∀ a, a < q.2.2 → ∀ b, b < q.2.2 → a ≠ b → (q.2.1 a).2.1 ≠ (q.2.1 b).2.1
/-- a method's own words -/
def miG (M : MI) : Prop := plainName (mY M).cls = true ∧ Cond.code (mY M) (mB M) (mN M) (mRet M) ∈ BW ∧ Cond.initialized (mY M).cls ∈ BW ∧ ((mY M).cls ≠ "java/lang/invoke/MethodHandle" ∧ (mY M).cls ≠ "java/lang/invoke/VarHandle" ∧ (parseMethodDescriptor (mY M).desc).map (fun d => d.parameters.length) = some (mPar M)) ∧ RO (mO M) = (mY M).cls
/-- a call's words -/
def lkG (o x k : Nat) (M : MI) : Prop := match k with
  | 0 => Cond.methodLink (RO o) x (mY M) ∈ BW ∧ Cond.static (mY M) ∈ BW
  | 1 => Cond.methodLink (RO o) x (mY M) ∈ BW ∧ Cond.instanceMethod (mY M) ∈ BW ∧ Cond.selects (mY M).cls (mY M) (mY M) ∈ BW ∧ (vwCl[mO M]?).map (fun q => q.1) = some (mY M).cls
  | _ => (∃ host, Cond.methodLinkNest (RO o) x (mY M) host ∈ NW) ∧ Cond.static (mY M) ∈ BW
def dcG (M : MI) : Prop := ∀ e ∈ mT M, decode (mB M) e.1 = .ok (e.2.1, e.2.2)
/-- all that the tables must say -/
def WOK : Prop := (∀ o, ∀ q ∈ flk o, flG o q.1 q.2.1 q.2.2) ∧ (∀ o, ∀ q ∈ llk o, Cond.constantLong (RO o) q.1 q.2 ∈ BW) ∧ (∀ o, ∀ q ∈ dlk o, Cond.constantDouble (RO o) q.1 q.2 ∈ BW) ∧
  (∀ o x, (x, 0) ∈ nlk o → Cond.methodLink (RO o) x arraycopyName ∈ BW ∧ Cond.native arraycopyName ∈ BW ∧ Cond.static arraycopyName ∈ BW ∧ Cond.initialized "java/lang/System" ∈ BW) ∧
  (∀ o x, (x, 1) ∈ nlk o → Cond.methodLink (RO o) x ⟨"java/lang/Double", "doubleToRawLongBits", "(D)J"⟩ ∈ BW ∧ Cond.native ⟨"java/lang/Double", "doubleToRawLongBits", "(D)J"⟩ ∈ BW ∧ Cond.static ⟨"java/lang/Double", "doubleToRawLongBits", "(D)J"⟩ ∈ BW ∧ Cond.initialized "java/lang/Double" ∈ BW) ∧
  (∀ o x, (x, 2) ∈ nlk o → Cond.methodLink (RO o) x Lib.Math.max.name ∈ BW ∧ Cond.static Lib.Math.max.name ∈ BW ∧ Cond.initialized "java/lang/Math" ∈ BW ∧ Cond.code Lib.Math.max.name Lib.Math.max.code 2 (some .int) ∈ BW) ∧
  (∀ o x, (x, 3) ∈ nlk o → Cond.methodLink (RO o) x Lib.Math.min.name ∈ BW ∧ Cond.static Lib.Math.min.name ∈ BW ∧ Cond.initialized "java/lang/Math" ∈ BW ∧ Cond.code Lib.Math.min.name Lib.Math.min.code 2 (some .int) ∈ BW) ∧
  (∀ (ci : Nat) (q : vw_C), vwCl[ci]? = some q → clG q) ∧
  (∀ z ∈ ipl, (vwCl[z.1]?.map fun q => decide ((q.2.1 z.2).2.2.2 = false) && decide ((q.2.1 z.2).2.2.1 = "I")) = some true) ∧
  (∀ o, ∀ q ∈ ilk o, Cond.constant (RO o) q.1 q.2 ∈ BW) ∧
  (∀ o, ∀ q ∈ clk o, lkG o q.1 q.2.1 q.2.2 ∧ miG q.2.2)
end
section
section SE
variable {p : Program} {l : Launch} {e : Env} {R : Room} {s : State} {mi : MethodId} {args : Array Value} {below : List Frame} {meth : Method} {c : Code} {H H0 : Heap} {locs : List Loc} {cells slots : Nat} {Q : State → Prop}
variable {cc : ByteArray} {o pc pc2 n nL : Nat} {ls : Array Slot} {A : AC} {D : va_G} {ad : PR → Nat} {Ba : Nat → Prop} {L L2 : List (Option PV)} {st st2 : List PV} {m m2 : PM} {i : Instr} {bs L9 : Nat} {xs : Nat → Int32}
/-- the heap holds the memory m; the script is what m says -/
def HR (A : AC) (D : va_G) (ad : PR → Nat) (L9 : Nat) (xs : Nat → Int32) (m : PM) (H : Heap) : Prop := va_P D vwCl (wd A ad m) H ∧ m.1 10 0 1 0 = nI L9 ∧ L9 < 2 ^ 31 ∧ ∀ i, i < L9 → m.1 10 0 0 i = xs i
theorem vok_ok {t k g : Nat} (h : vok (vR t k g) = true) (ht : t ≠ 10) : okW (t, k, g) = true := by
  have h1 : okR (t, k, g) = true := h
  unfold okR at h1
  rcases Bool.or_eq_true _ _ ▸ h1 with h2 | h2
  · exact h2
  · exact absurd (congrArg Prod.fst (of_decide_eq_true h2)) ht
theorem tcl_ne {t ci : Nat} (h : tcl t = some ci) : t ≠ 10 := by
  rintro rfl
  cases h
theorem va_D_eq {A1 : Nat → Prop} {w w2 : va_W} (h : w = w2) (hD : va_D A1 w) : va_D A1 w2 := h ▸ hD
theorem map_cat (ad : PR → Nat) (r : List PV) : ((r.map (toV ad)).map fun v => v.category) = r.map cat := by
  rw [List.map_map]
  exact List.map_congr_left fun v _ => toV_cat ad v
theorem hsm {s : State} {C C2 a b : String} (h : C2 = C) : ∀ x, s.fieldFound? C2 a b = some x → s.fieldFound? C a b = some x := by
  subst h
  exact fun _ h => h
theorem hr_wI {t k g j : Nat} {v : Int32} (hm : HR A D ad L9 xs m H0) (ht : t ≠ 10) (h : va_P D vwCl (wd A ad (wI m t k g j v)) H) : HR A D ad L9 xs (wI m t k g j v) H := by
  obtain ⟨-, h1, h2, h3⟩ := hm
  refine ⟨h, ?_, h2, fun i hi => ?_⟩
  · unfold wI
    dsimp only
    rw [if_neg (fun q => ht q.1.symm)]; exact h1
  · unfold wI
    dsimp only
    rw [if_neg (fun q => ht q.1.symm)]; exact h3 i hi
theorem hr_wL {t k g j : Nat} {v : Int64} (hm : HR A D ad L9 xs m H0) (h : va_P D vwCl (wd A ad (wL m t k g j v)) H) : HR A D ad L9 xs (wL m t k g j v) H := ⟨h, hm.2⟩
theorem hr_wC {k g n k2 g2 : Nat} (hm : HR A D ad L9 xs m H0) (h : va_P D vwCl (wd A ad (wC m k g n k2 g2)) H) : HR A D ad L9 xs (wC m k g n k2 g2) H := by
  obtain ⟨-, h1, h2, h3⟩ := hm
  refine ⟨h, ?_, h2, fun i hi => ?_⟩
  · unfold wC
    dsimp only
    rw [if_neg (fun q => absurd q.1 (by decide))]; exact h1
  · unfold wC
    dsimp only
    rw [if_neg (fun q => absurd q.1 (by decide))]; exact h3 i hi
set_option maxHeartbeats 8000000 in
theorem se_ok (hw : WOK) (hx : p.tables.exec = Jvm.exec) (hb : c.code = cc) (hml : c.maxLocals = nL) (hown : s.vm.findClass (RO o) = some mi.cls) (hts : ∀ w ∈ BW, w.before args s = true) (hK : va_K D vwCl (tys A) s) (hRf : 1 ≤ R.frames) (hRl : 30 ≤ R.locals) (hcl : cells ≤ R.cells) (hsl : slots ≤ R.slots)
    (hX : va_X bs L9 xs s H0) (hbl : bs < H0.size) (hbA : ¬ Ba bs) (had : ad (10, 0, 0) = bs)
    (hP : HR A D ad L9 xs m H) (hD : va_D Ba (wd A ad m)) (hS : va_S Ba H0 H locs)
    (hl : LR ad nL L ls) (hs : SV st) (hd : decode cc pc = .ok (i, n)) (h : sm_e o i n pc L st m = some (pc2, L2, st2, m2))
    (K : ∀ (H1 : Heap) (locs1 : List Loc), L2 = L → HR A D ad L9 xs m2 H1 → va_D Ba (wd A ad m2) → va_S Ba H0 H1 locs1 → SV st2 → W p l e R s mi args below meth c H1 locs1 cells slots Q (F0 mi pc2 ls (st2.map (toV ad)))) : W p l e R s mi args below meth c H locs cells slots Q (F0 mi pc ls (st.map (toV ad))) := by
  obtain ⟨w1, w2, w3, w4, w5, w6, w7, w8, w9, w10, -⟩ := hw
  have hlsz : c.maxLocals = ls.size := by rw [hml, hl.2.1.1]
  unfold sm_e at h
  split at h
  · -- getfield
    split at h
    · next t k g r =>
      split at h
      · next ci f hf =>
        split at h
        · next ht =>
          split at h
          · next v hv =>
            cases h
            have hok := vok_ok (sv_h hs) (tcl_ne ht)
            obtain ⟨fs, e1, e2, e3⟩ := fv_ok (A := A) (ad := ad) hok ht hv
            obtain ⟨q, g1, g2, g3, g4⟩ := w1 o _ (asc_mem hf)
            obtain ⟨q0, -, hq0⟩ := wd_at (A := A) (ad := ad) (m := m) hok
            rw [e1] at hq0
            obtain ⟨C, T, N⟩ := q
            exact va_get hx hb hts (w8 ci _ g1).1 hown hK hP.1 q0 hq0 g1 f g2 (hts _ g4) (hsm g3) e2 hd (K H locs rfl hP hD hS (sv_c e3 (sv_t hs)))
          · cases h
        · cases h
      · cases h
    · cases h
  · -- putfield
    split at h
    · next v t k g r =>
      split at h
      · next ci f hf =>
        split at h
        · next ht =>
          split at h
          · next hp =>
            cases h
            have hok := vok_ok (sv_h (sv_t hs)) (tcl_ne ht)
            obtain ⟨hin, fs, e1, e2, e3⟩ := ip_ok (A := A) (ad := ad) (m := m) v hok ht hp
            obtain ⟨q, g1, g2, g3, g4⟩ := w1 o _ (asc_mem hf)
            obtain ⟨q0, hq, hq0⟩ := wd_at (A := A) (ad := ad) (m := m) hok
            rw [e1] at hq0
            obtain ⟨C, T, N⟩ := q
            obtain ⟨c1, ty0, c2, c3⟩ := w8 ci _ g1
            have h9 := w9 _ hin
            rw [show vwCl[ci]? = some (C, T, N) from g1] at h9
            simp only [Option.map_some, Option.some.injEq, Bool.and_eq_true, decide_eq_true_eq] at h9
            have es := wd_set (A := A) (ad := ad) (m := m) hq e3 (fun r2 ok2 ne => ce_same ok2 (wI_ne ne) (fun _ => rfl))
            refine va_put (D := D) (v := .int v) (ty := .int) hx hb hts c1 ty0 c2 c3 hown hK hP.1 hD hS q0 hq0 g1 f g2 (hts _ g4) (hsm g3) h9.1 (by rw [h9.2]; decide) rfl rfl e2 hd (fun H1 locs1 hP1 hD1 hS1 => ?_)
            rw [es] at hP1 hD1
            exact K H1 locs1 rfl (hr_wI hP (tcl_ne ht) hP1) hD1 hS1 (sv_t (sv_t hs))
          · cases h
        · cases h
      · cases h
    · next v t k g r =>
      split at h
      · next ci f hf =>
        split at h
        · next ht =>
          split at h
          · next hp =>
            unfold lpf at hp; cases hp
          · cases h
        · cases h
      · cases h
    · cases h
  · -- iaload
    split at h
    · next j t k g r =>
      split at h
      · next N hN =>
        split at h
        · cases h
        · next hj =>
          cases h
          by_cases ht : t = 10
          · subst ht
            have h1 : okR (10, k, g) = true := sv_h (sv_t hs)
            have hkg : k = 0 ∧ g = 0 := by
              unfold okR at h1
              rcases Bool.or_eq_true _ _ ▸ h1 with h2 | h2
              · exact absurd (okW_lt h2).1 (by decide)
              · have h3 := of_decide_eq_true h2; simp at h3; exact h3
            obtain ⟨rfl, rfl⟩ := hkg
            have hNe : N = L9 := by
              have h2 : (m.1 10 0 1 0).toNatClampNeg = N := Option.some.inj hN
              rw [hP.2.1, nI_clamp hP.2.2.1] at h2
              exact h2.symm
            subst hNe
            have hlt : j.toNatClampNeg < N := Nat.not_le.mp fun q => hj (Or.inr q)
            have hval : m.1 10 0 0 j.toNatClampNeg = xs j.toNatClampNeg := hP.2.2.2 _ hlt
            show W p l e R s mi args below meth c H locs cells slots Q (F0 mi pc ls (.int j :: .ref (ad (10, 0, 0)) :: r.map (toV ad)))
            rw [had]
            refine va_sld hx hb hX hbl hbA hS hj hd ?_
            rw [← hval]
            exact K H locs rfl hP hD hS (sv_c rfl (sv_t (sv_t hs)))
          · have hok := vok_ok (sv_h (sv_t hs)) ht
            obtain ⟨q0, hq, hq0⟩ := wd_at (A := A) (ad := ad) (m := m) hok
            rw [(ia_ok hok hN).1] at hq0
            exact va_iald hx hb hK hP.1 q0 0 hq0 rfl hj hd (K H locs rfl hP hD hS (sv_c rfl (sv_t (sv_t hs))))
      · cases h
    · cases h
  · -- iastore
    split at h
    · next v j t k g r =>
      split at h
      · next N hN =>
        split at h
        · cases h
        · next ht =>
          split at h
          · cases h
          · next hj =>
            cases h
            have hok := vok_ok (sv_h (sv_t (sv_t hs))) ht
            obtain ⟨q0, hq, hq0⟩ := wd_at (A := A) (ad := ad) (m := m) hok
            rw [(ia_ok hok hN).1] at hq0
            have es := wd_set (A := A) (ad := ad) (m := m) hq ((ia_ok (A := A) (ad := ad) hok hN).2 j.toNatClampNeg v) (fun r2 ok2 ne => ce_same ok2 (wI_ne ne) (fun _ => rfl))
            refine va_iast hx hb hK hP.1 hD hS q0 0 hq0 rfl hj hd (fun H1 locs1 hP1 hD1 hS1 => ?_)
            rw [es] at hP1 hD1
            exact K H1 locs1 rfl (hr_wI hP ht hP1) hD1 hS1 (sv_t (sv_t (sv_t hs)))
      · cases h
    · cases h
  · -- aaload
    split at h
    · next j k g r =>
      split at h
      · cases h
      · next hj =>
        cases h
        have hok := vok_ok (sv_h (sv_t hs)) (by decide)
        have hkg : k = 0 ∧ g = 0 := by simpa [okW] using hok
        obtain ⟨rfl, rfl⟩ := hkg
        obtain ⟨q0, hq, hq0⟩ := wd_at (A := A) (ad := ad) (m := m) hok
        have hlt : j.toNatClampNeg < 6 := Nat.not_le.mp fun q => hj (Or.inr q)
        exact va_aldq hx hb hK hP.1 q0 1 hq0 rfl hj hd (K H locs rfl hP hD hS (sv_c (by simp [vok, okR, okW]; omega) (sv_t (sv_t hs))))
    · cases h
  · -- arraylength
    split at h
    · next t k g r =>
      split at h
      · next N hN =>
        cases h
        by_cases ht : t = 10
        · subst ht
          have h1 : okR (10, k, g) = true := sv_h hs
          have hkg : k = 0 ∧ g = 0 := by
            unfold okR at h1
            rcases Bool.or_eq_true _ _ ▸ h1 with h2 | h2
            · exact absurd (okW_lt h2).1 (by decide)
            · have h3 := of_decide_eq_true h2; simp at h3; exact h3
          obtain ⟨rfl, rfl⟩ := hkg
          have hNe : N = Int32.ofNat L9 := by
            have h2 : m.1 10 0 1 0 = N := Option.some.inj hN
            rw [hP.2.1] at h2
            exact h2.symm
          subst hNe
          show W p l e R s mi args below meth c H locs cells slots Q (F0 mi pc ls (.ref (ad (10, 0, 0)) :: r.map (toV ad)))
          rw [had]
          exact va_slen hx hb hX hbl hbA hS hd (K H locs rfl hP hD hS (sv_c rfl (sv_t hs)))
        · have hok := vok_ok (sv_h hs) ht
          obtain ⟨t0, cA, ty, x, g1, g2, g3⟩ := al_ok (A := A) (ad := ad) (m := m) hok hN
          obtain ⟨q0, hq, hq0⟩ := wd_at (A := A) (ad := ad) (m := m) hok
          rw [g2] at hq0
          exact va_alen hx hb hK hP.1 q0 t0 hq0 g1 g3 hd (K H locs rfl hP hD hS (sv_c rfl (sv_t hs)))
      · cases h
    · cases h
  · -- ldc
    split at h
    · next v hv =>
      cases h
      exact lv_ldc hx hb hown (hts _ (w10 o _ (asc_mem hv))) hd (K H locs rfl hP hD hS (sv_c rfl hs))
    · cases h
  · -- ldc2_w
    split at h
    · next v hv =>
      cases h
      exact lv_ldc2 hx hb hown (hts _ (w2 o _ (asc_mem hv))) hd (K H locs rfl hP hD hS (sv_c rfl hs))
    · split at h
      · next v hv =>
        cases h
        exact lv_ldc2d hx hb hown (hts _ (w3 o _ (asc_mem hv))) hd (K H locs rfl hP hD hS (sv_c rfl hs))
      · cases h
  · -- natives
    split at h
    · next hn =>
      split at h
      · next n0 dp k2 g2 sp k1 g1 =>
        split at h
        · next hc =>
          cases h
          obtain ⟨rfl, rfl, rfl, hlen⟩ := hc
          obtain ⟨c1, c2, c3, c4⟩ := w4 o _ (asc_mem hn)
          have ok2 := vok_ok (sv_h (sv_t (sv_t hs))) (by decide)
          have ok1 := vok_ok (sv_h (sv_t (sv_t (sv_t (sv_t hs))))) (by decide)
          obtain ⟨q1, hq1, hq10⟩ := wd_at (A := A) (ad := ad) (m := m) ok1
          obtain ⟨q2, hq2, hq20⟩ := wd_at (A := A) (ad := ad) (m := m) ok2
          have hb31 : nlen k1 < 2 ^ 31 := by unfold nlen; split <;> decide
          refine va_copyi hx hb hlsz hown (hts _ c1) (hts _ c2) (hts _ c3) (hts _ c4) hK hP.1 hD hS q1 q2 0 0 hq10 hq20 rfl rfl rfl (by decide) (by decide) (nI_pos hb31) (by rw [nI_clamp hb31]; show 0 + nlen k1 ≤ nlen k1; omega) (by rw [nI_clamp hb31, hlen]; show 0 + nlen k1 ≤ nlen k1; omega) (fun _ _ => rfl) hRf (Nat.le_trans (show ([] : List Nat).sum + (nativeFrameWords "java/lang/System" "arraycopy" 5 + 11) ≤ 30 by decide +kernel) hRl) hd (fun H1 locs1 hP1 hD1 hS1 => ?_)
          have ef : (fun i => (wC m k1 g1 (nlen k1) k2 g2).1 2 k2 g2 i) = va_cpy (fun i => m.1 2 k1 g1 i) (fun i => m.1 2 k2 g2 i) (0 : Int32).toNatClampNeg (0 : Int32).toNatClampNeg (nI (nlen k1)).toNatClampNeg := by
            funext i
            rw [nI_clamp hb31]
            simp only [wC, va_cpy, true_and]
            by_cases hi : i < nlen k1
            · rw [if_pos hi, if_pos ⟨Nat.zero_le _, by show i < 0 + nlen k1; omega⟩]
              show m.1 2 k1 g1 i = m.1 2 k1 g1 (0 + (i - 0))
              rw [Nat.zero_add, Nat.sub_zero]
            · rw [if_neg hi, if_neg]
              intro q
              exact hi (by have q2 : i < 0 + nlen k1 := q.2
                           omega)
          have ec : ce A ad (wC m k1 g1 (nlen k1) k2 g2) (2, k2, g2) = .inl (A.1, nlen k2, .inl (va_cpy (fun i => m.1 2 k1 g1 i) (fun i => m.1 2 k2 g2 i) (0 : Int32).toNatClampNeg (0 : Int32).toNatClampNeg (nI (nlen k1)).toNatClampNeg)) := by rw [← ef]; rfl
          have es := wd_set (A := A) (ad := ad) (m := m) hq2 ec (fun r2 ok2 ne => ce_same ok2 (wC_ne ne) (fun _ => rfl))
          rw [es] at hP1 hD1
          exact K H1 locs1 rfl (hr_wC hP hP1) hD1 hS1 (fun v hv => by cases hv)
        · cases h
      · cases h
    · next hn =>
      split at h
      · cases h
        obtain ⟨c1, c2, c3, c4⟩ := w5 o _ (asc_mem hn)
        exact vn_d2l hx hb hlsz hown (hts _ c1) (hts _ c2) (hts _ c3) (hts _ c4) hRf (Nat.le_trans (show ([] : List Nat).sum + 15 ≤ 30 by decide) hRl) hd (K H locs rfl hP hD hS (sv_c rfl (fun v hv => by cases hv)))
      · cases h
    · next hn =>
      split at h
      · next y x r =>
        split at h
        · next hc =>
          cases h
          obtain ⟨c1, c2, c3, c4⟩ := w6 o _ (asc_mem hn)
          exact va_mmax hx hb hlsz hown (hts _ c1) (hts _ c2) (hts _ c3) (hts _ c4) hRf (by rw [map_cat]; omega) hcl hsl hd (K H locs rfl hP hD hS (sv_c rfl (sv_t (sv_t hs))))
        · cases h
      · cases h
    · next hn =>
      split at h
      · next y x r =>
        split at h
        · next hc =>
          cases h
          obtain ⟨c1, c2, c3, c4⟩ := w7 o _ (asc_mem hn)
          exact va_mmin hx hb hlsz hown (hts _ c1) (hts _ c2) (hts _ c3) (hts _ c4) hRf (by rw [map_cat]; omega) hcl hsl hd (K H locs rfl hP hD hS (sv_c rfl (sv_t (sv_t hs))))
        · cases h
      · cases h
    · cases h
  · cases h
end SE
end
section
section GO
variable {A : AC} {D : va_G} {ad : PR → Nat} {Ba : Nat → Prop} {bs L9 : Nat} {xs : Nat → Int32}
/-- what holds of a method's start but its own code: the classes, the nest's words, the script -/
def TB (A : AC) (D : va_G) (Ba : Nat → Prop) (bs L9 : Nat) (xs : Nat → Int32) (s : State) : Prop := va_K D vwCl (tys A) s ∧ (∀ w ∈ NW, va_Nw w s) ∧ va_X bs L9 xs s s.heap ∧ bs < s.heap.size ∧ (∀ q, s.heap.size ≤ q → Ba q) ∧ ¬ Ba bs
def Cx (A : AC) (D : va_G) (Ba : Nat → Prop) (bs L9 : Nat) (xs : Nat → Int32) (M : MI) (p : Program) (R : Room) (s : State) (mi : MethodId) (args : Array Value) (meth : Method) (c : Code) : Prop :=
  p.tables.exec = Jvm.exec ∧ c.code = mB M ∧ c.maxLocals = mN M ∧ s.vm.findClass (RO (mO M)) = some mi.cls ∧ (∀ w ∈ BW, w.before args s = true) ∧ meth.sig.returnType = mRet M ∧ meth.locks = false ∧ mFr M ≤ R.frames ∧ mLo M ≤ R.locals ∧ 1 ≤ mFr M ∧ 30 ≤ mLo M ∧ dcG M ∧ TB A D Ba bs L9 xs s
theorem nw_nest {w : Cond} (h : w ∈ NW) : ∃ a i x h, w = .methodLinkNest a i x h := by
  have h2 := (List.mem_filter.mp h).2
  unfold isNest at h2
  split at h2
  · exact ⟨_, _, _, _, rfl⟩
  · cases h2
theorem tb_calling {U : State} {g : JFrame} {mk : MethodId} {a : Array Value} (h : TB A D Ba bs L9 xs U) : TB A D Ba bs L9 xs (U.calling g mk a) := by
  obtain ⟨h1, h2, h3, h4, h5, h6⟩ := h
  refine ⟨va_K.moved (u := U) (U := U.calling g mk a) (Vm.Alike.refl U.vm) h1, fun w hw => ?_, va_X.moved (u := U) (U := U.calling g mk a) (Vm.Alike.refl U.vm) h3, h4, h5, h6⟩
  obtain ⟨_, _, _, _, rfl⟩ := nw_nest hw
  exact va_Nw.same rfl (u := U) rfl (h2 _ hw)
theorem tb_moved {s U : State} {H : Heap} {locs : List Loc} (h : TB A D Ba bs L9 xs s) (hS : va_S Ba s.heap H locs) (hU : U.heap = H) (hW : s.WarmedH U.vm) : TB A D Ba bs L9 xs U := by
  obtain ⟨h1, h2, h3, h4, h5, h6⟩ := h
  refine ⟨va_K.moved hW.alike h1, fun w hw => ?_, ?_, by rw [hU]; exact Nat.lt_of_lt_of_le h4 hS.1, fun q hq => h5 q (by rw [hU] at hq; exact Nat.le_trans hS.1 hq), h6⟩
  · obtain ⟨_, _, _, _, rfl⟩ := nw_nest hw
    exact va_Nw.warmM hW (h2 _ hw)
  · rw [hU]
    exact (va_X.moved hW.alike h3).kept (hS.2.1 bs h4 h6)
theorem lvl_none {ad : PR → Nat} : ∀ (l : List (Option PV)) (i : Nat), lvl ad i (l ++ [none]) = lvl ad i l
  | [], i => rfl
  | none :: r, i => lvl_none r (i + 1)
  | some v :: r, i => by
    show (i, toV ad v) :: lvl ad (i + 1) (r ++ [none]) = (i, toV ad v) :: lvl ad (i + 1) r
    rw [lvl_none r (i + 1)]
theorem lvl_pad {ad : PR → Nat} : ∀ (n : Nat) (l : List (Option PV)), lvl ad 0 (lpad l n) = lvl ad 0 l
  | 0, l => rfl
  | n + 1, l => by
    show lvl ad 0 (lpad (l ++ [none]) n) = _
    rw [lvl_pad n, lvl_none]
theorem lpad_len : ∀ (n : Nat) (l : List (Option PV)), (lpad l n).length = l.length + n
  | 0, l => rfl
  | n + 1, l => by
    show (lpad (l ++ [none]) n).length = _
    rw [lpad_len n, List.length_append]
    show l.length + 1 + n = _
    omega
theorem lpad_get : ∀ (n : Nat) (l : List (Option PV)) (k : Nat) (v : PV), (lpad l n)[k]? = some (some v) → l[k]? = some (some v)
  | 0, l, k, v, h => h
  | n + 1, l, k, v, h => by
    have h2 := lpad_get n (l ++ [none]) k v h
    by_cases hk : k < l.length
    · rw [List.getElem?_append_left hk] at h2; exact h2
    · rw [List.getElem?_append_right (by omega)] at h2
      cases hkl : k - l.length with
      | zero => rw [hkl] at h2; cases h2
      | succ j => rw [hkl] at h2; cases h2
theorem lent_lvl {ad : PR → Nat} : ∀ (as : List PV) (i : Nat), lvl ad i (lent as) = lv_args i (as.map (toV ad))
  | [], i => rfl
  | v :: r, i => by
    unfold lent
    show _ = (i, toV ad v) :: lv_args (if (toV ad v).category = 2 then i + 2 else i + 1) (r.map (toV ad))
    rw [toV_cat]
    by_cases h : cat v = 2
    · rw [if_pos h, if_pos h]
      show (i, toV ad v) :: lvl ad (i + 1 + 1) (lent r) = _
      rw [lent_lvl r]
    · rw [if_neg h, if_neg h]
      show (i, toV ad v) :: lvl ad (i + 1) (lent r) = _
      rw [lent_lvl r]
theorem lent_len {ad : PR → Nat} : ∀ (as : List PV), (lg_sl (as.map (toV ad))).length = (lent as).length
  | [] => rfl
  | v :: r => by
    unfold lent
    show (lg_sl (toV ad v :: r.map (toV ad))).length = _
    unfold lg_sl
    rw [List.flatMap_cons, List.length_append]
    have ih := lent_len (ad := ad) r
    unfold lg_sl at ih
    rw [ih, toV_cat]
    by_cases h : cat v = 2
    · rw [if_pos h, if_pos h]; simp; omega
    · rw [if_neg h, if_neg h]; simp; omega
theorem lent_ok : ∀ (as : List PV), SV as → ∀ (k : Nat) (v : PV), (lent as)[k]? = some (some v) → vok v = true
  | [], _, k, v, h => by simp [lent] at h
  | w :: r, hs, k, v, h => by
    unfold lent at h
    by_cases hc : cat w = 2
    · rw [if_pos hc] at h
      match k, h with
      | 0, h => cases h; exact sv_h hs
      | 1, h => cases h
      | k + 2, h => exact lent_ok r (sv_t hs) k v h
    · rw [if_neg hc] at h
      match k, h with
      | 0, h => cases h; exact sv_h hs
      | k + 1, h => exact lent_ok r (sv_t hs) k v h
theorem lr_entry {as : List PV} {n : Nat} (hs : SV as) (hn : (lent as).length ≤ n) : LR ad n (lpad (lent as) (n - (lent as).length)) ((lg_sl (as.map (toV ad)) ++ List.replicate (n - (lg_sl (as.map (toV ad))).length) Slot.unset).toArray) := by
  refine ⟨by rw [lpad_len]; omega, ?_, fun k v h => lent_ok as hs k v (lpad_get _ _ k v h)⟩
  rw [lvl_pad, lent_lvl]
  exact lv_entry (as.map (toV ad)) (by rw [lent_len]; exact hn)
section ROWS
variable {p : Program} {l : Launch} {e : Env} {R : Room} {s : State} {mi : MethodId} {args : Array Value} {below : List Frame} {meth : Method} {c : Code} {H : Heap} {locs : List Loc} {cells slots : Nat} {Q : State → Prop} {pc : Nat} {ls : Array Slot} {st0 rest : List Value} {m m2 : PM} {v : Option PV}
/-- what a call brings -/
def Qc0 (A : AC) (D : va_G) (ad : PR → Nat) (Ba : Nat → Prop) (L9 : Nat) (xs : Nat → Int32) (v : Option PV) (m2 : PM) : Array Value → State → Outcome → State → Prop := fun _ st oc t => oc = .returned (v.map (toV ad)) ∧ (HR A D ad L9 xs m2 t.heap ∧ va_D Ba (wd A ad m2) ∧ ∀ u, v = some u → vok u = true) ∧ va_F Ba st t
theorem call_row {a : Array Value} (hr : va_Run p l e R s mi args below meth c H locs cells slots 0 0 (F0 mi pc ls st0) rest (Qc0 A D ad Ba L9 xs v m2 a) Ba) (hS : va_S Ba s.heap H locs)
    (kk : ∀ (H1 : Heap) (locs1 : List Loc), HR A D ad L9 xs m2 H1 → va_D Ba (wd A ad m2) → (∀ u, v = some u → vok u = true) → va_S Ba s.heap H1 locs1 → W p l e R s mi args below meth c H1 locs1 cells slots Q (F0 mi (pc + 3) ls ((v.map (toV ad)).toList ++ rest))) : W p l e R s mi args below meth c H locs cells slots Q (F0 mi pc ls st0) := by
  intro T hT X
  obtain ⟨v2, st₀, t, T', L, h0, X', hL, e1, e2, ⟨hv, ⟨hb, hd9, hk9⟩, hz, hk⟩, st⟩ := hr T hT X
  cases hv
  rw [h0] at hz hk
  obtain ⟨t2, a1, b1⟩ := kk T'.heap (locs ++ L) (by rw [e1]; exact hb) hd9 hk9
    ⟨Nat.le_trans hS.1 (by rw [e1]; exact hz), fun q h1 h2 => by rw [e1, hk q (Nat.lt_of_lt_of_le h1 hS.1) h2]; exact hS.2.1 q h1 h2, fun q hq => by
      rcases List.mem_append.mp hq with h | h
      · exact hS.2.2 q h
      · exact hL q h⟩ T' rfl X'
  exact ⟨t2, st t2 a1, b1⟩
end ROWS
end GO
end
section
section GK
variable {A : AC} {D : va_G} {ad : PR → Nat} {Ba : Nat → Prop} {bs L9 : Nat} {xs : Nat → Int32}
section INS
variable {p : Program} {l : Launch} {e : Env} {R : Room} {s : State} {mi : MethodId} {args : Array Value} {below : List Frame} {meth : Method} {c : Code} {H : Heap} {locs : List Loc} {cells slots : Nat} {Q : State → Prop}
variable {M : MI} {pc pc2 n : Nat} {ls : Array Slot} {L L2 : List (Option PV)} {st st2 : List PV} {m m2 : PM} {i : Instr}
theorem ins_ok (hw : WOK) (had : ad (10, 0, 0) = bs) (C0 : Cx A D Ba bs L9 xs M p R s mi args meth c) (hcl : cells ≤ R.cells) (hsl : slots ≤ R.slots) (hP : HR A D ad L9 xs m H) (hD : va_D Ba (wd A ad m)) (hS : va_S Ba s.heap H locs) (hl : LR ad (mN M) L ls) (hs : SV st)
    (hd : decode (mB M) pc = .ok (i, n)) (h : sm_ins (mO M) i n pc L st m = some (pc2, L2, st2, m2))
    (K : ∀ (H1 : Heap) (locs1 : List Loc) (ls1 : Array Slot), HR A D ad L9 xs m2 H1 → va_D Ba (wd A ad m2) → va_S Ba s.heap H1 locs1 → LR ad (mN M) L2 ls1 → SV st2 → W p l e R s mi args below meth c H1 locs1 cells slots Q (F0 mi pc2 ls1 (st2.map (toV ad)))) : W p l e R s mi args below meth c H locs cells slots Q (F0 mi pc ls (st.map (toV ad))) := by
  obtain ⟨hx, hb, hml, hown, hts, hr, hlk, hRf, hRl, h1f, h30, hdc, hK, hN, hX, hbl, hA, hbA⟩ := C0
  unfold sm_ins at h
  cases ha : sm_a i n pc L st m with
  | some r =>
    rw [ha] at h; cases h
    exact sa_ok hx hb hl hs hd ha (fun eL em h2 => by subst eL; subst em; exact K H locs ls hP hD hS hl h2)
  | none =>
    rw [ha] at h
    cases hb2 : sm_b i n pc L st m with
    | some r =>
      rw [hb2] at h; cases h
      exact sb_ok hx hb hl hs hd hb2 (fun ls2 em h1 h2 => by subst em; exact K H locs ls2 hP hD hS h1 h2)
    | none =>
      rw [hb2] at h
      cases hc : sm_c i n pc L st m with
      | some r =>
        rw [hc] at h; cases h
        exact sc_ok hx hb hs hd hc (fun eL em h2 => by subst eL; subst em; exact K H locs ls hP hD hS hl h2)
      | none =>
        rw [hc] at h
        cases hd2 : sm_d i n pc L st m with
        | some r =>
          rw [hd2] at h; cases h
          exact sd_ok hx hb hs hd hd2 (fun eL em h2 => by subst eL; subst em; exact K H locs ls hP hD hS hl h2)
        | none =>
          rw [hd2] at h
          exact se_ok hw hx hb hml hown hts hK (Nat.le_trans h1f hRf) (Nat.le_trans h30 hRl) hcl hsl hX hbl hbA had hP hD hS hl hs hd h (fun H1 locs1 eL h1 h2 h3 h4 => by subst eL; exact K H1 locs1 ls h1 h2 h3 hl h4)
end INS
theorem dc_at {M : MI} {pc n : Nat} {i : Instr} (h : dcG M) (h1 : asc (mT M) pc = some (i, n)) : decode (mB M) pc = .ok (i, n) := by
  have h2 := h (pc, i, n) (asc_mem h1)
  dsimp only at h2
  exact h2
/-- a method's contract, out of its run -/
def mWs (M : MI) : List Cond := Cond.code (mY M) (mB M) (mN M) (mRet M) :: BW
def mRm (M : MI) : Room := { frames := mFr M, cells := 0, slots := 0, locals := mLo M }
def mPc (A : AC) (D : va_G) (ad : PR → Nat) (Ba : Nat → Prop) (bs L9 : Nat) (xs : Nat → Int32) (as : List PV) (m : PM) : Array Value → State → Prop := va_Pc (as.map (toV ad)) (fun U => HR A D ad L9 xs m U.heap ∧ TB A D Ba bs L9 xs U)
/-- what a run is worth -/
def GoOK (A : AC) (D : va_G) (ad : PR → Nat) (Ba : Nat → Prop) (bs L9 : Nat) (xs : Nat → Int32) (l : Launch) (M : MI) (pc : Nat) (L : List (Option PV)) (st : List PV) (m : PM) (r : PS) : Prop :=
  ∀ (p : Program) (e : Env) (R : Room) (s : State) (mi : MethodId) (args : Array Value) (below : List Frame) (meth : Method) (c : Code) (H : Heap) (locs : List Loc) (cells slots : Nat) (Q : State → Prop) (ls : Array Slot),
    Cx A D Ba bs L9 xs M p R s mi args meth c → cells ≤ R.cells → slots ≤ R.slots → HR A D ad L9 xs m H → va_D Ba (wd A ad m) → va_S Ba s.heap H locs → LR ad (mN M) L ls → SV st →
    (∀ (H1 : Heap) (locs1 : List Loc) (ls1 : Array Slot), HR A D ad L9 xs r.2.2.2 H1 → va_D Ba (wd A ad r.2.2.2) → va_S Ba s.heap H1 locs1 → LR ad (mN M) r.2.1 ls1 → SV r.2.2.1 → W p l e R s mi args below meth c H1 locs1 cells slots Q (F0 mi r.1 ls1 (r.2.2.1.map (toV ad)))) →
    W p l e R s mi args below meth c H locs cells slots Q (F0 mi pc ls (st.map (toV ad)))
theorem sm_ret_ok {M : MI} {pc : Nat} {st : List PV} {v : Option PV} (h : sm_ret M pc st = some v) :
    (asc (mT M) pc = some (.ireturn, 1) ∧ ∃ (x : Int32) (ty : FieldType), st = [vI x] ∧ mRet M = some ty ∧ narrow ty (.int x) = .int x ∧ v = some (vI x)) ∨
    (asc (mT M) pc = some (.lreturn, 1) ∧ ∃ x : Int64, st = [vL x] ∧ mRet M = some .long ∧ v = some (vL x)) ∨
    (asc (mT M) pc = some (.dreturn, 1) ∧ ∃ x : UInt64, st = [vD x] ∧ mRet M = some .double ∧ v = some (vD x)) ∨
    (asc (mT M) pc = some (.areturn, 1) ∧ ∃ x : Option PR, st = [.inr (.inr (.inr x))] ∧ mRet M = some (.object "HotPanLocks$State") ∧ v = some (.inr (.inr (.inr x)))) ∨
    (asc (mT M) pc = some (.return_, 1) ∧ st = [] ∧ mRet M = none ∧ v = none) := by
  unfold sm_ret at h
  split at h
  · next h1 =>
    left
    refine ⟨h1, ?_⟩
    split at h
    · next x =>
      by_cases h2 : mRet M = some .int
      · rw [if_pos h2] at h; cases h
        exact ⟨x, _, rfl, h2, rfl, rfl⟩
      · rw [if_neg h2] at h
        by_cases h3 : mRet M = some .boolean
        · rw [if_pos h3] at h
          by_cases h4 : x = 0
          · rw [if_pos h4] at h; cases h; subst h4
            exact ⟨0, _, rfl, h3, by decide, rfl⟩
          · rw [if_neg h4] at h
            by_cases h5 : x = 1
            · rw [if_pos h5] at h; cases h; subst h5
              exact ⟨1, _, rfl, h3, by decide, rfl⟩
            · rw [if_neg h5] at h; cases h
        · rw [if_neg h3] at h; cases h
    · cases h
  · next h1 =>
    right; left
    refine ⟨h1, ?_⟩
    split at h
    · next x =>
      by_cases h2 : mRet M = some .long
      · rw [if_pos h2] at h; cases h; exact ⟨x, rfl, h2, rfl⟩
      · rw [if_neg h2] at h; cases h
    · cases h
  · next h1 =>
    right; right; left
    refine ⟨h1, ?_⟩
    split at h
    · next x =>
      by_cases h2 : mRet M = some .double
      · rw [if_pos h2] at h; cases h; exact ⟨x, rfl, h2, rfl⟩
      · rw [if_neg h2] at h; cases h
    · cases h
  · next h1 =>
    right; right; right; left
    refine ⟨h1, ?_⟩
    split at h
    · next x =>
      by_cases h2 : mRet M = some (.object "HotPanLocks$State")
      · rw [if_pos h2] at h; cases h; exact ⟨x, rfl, h2, rfl⟩
      · rw [if_neg h2] at h; cases h
    · cases h
  · next h1 =>
    right; right; right; right
    refine ⟨h1, ?_⟩
    split at h
    · by_cases h2 : mRet M = none
      · rw [if_pos h2] at h; cases h; exact ⟨rfl, h2, rfl⟩
      · rw [if_neg h2] at h; cases h
    · cases h
  · cases h
/-- the end of a method -/
theorem end_row {p : Program} {l : Launch} {e : Env} {R : Room} {s : State} {mi : MethodId} {args : Array Value} {below : List Frame} {meth : Method} {c : Code} {H : Heap} {locs : List Loc} {cells slots : Nat} {M : MI} {pc : Nat} {st : List PV} {v : Option PV} {m2 : PM} {ls : Array Slot}
    (hx : p.tables.exec = Jvm.exec) (hb : c.code = mB M) (hr : meth.sig.returnType = mRet M) (hlk : meth.locks = false) (hdc : dcG M) (hP : HR A D ad L9 xs m2 H) (hD : va_D Ba (wd A ad m2)) (hs : SV st) (hS : va_S Ba s.heap H locs) (h : sm_ret M pc st = some v) :
    W p l e R s mi args below meth c H locs cells slots (MQ below (Qc0 A D ad Ba L9 xs v m2) args s cells slots Ba) (F0 mi pc ls (st.map (toV ad))) := by
  rcases sm_ret_ok h with ⟨h1, x, ty, rfl, h2, h3, rfl⟩ | ⟨h1, x, rfl, h2, rfl⟩ | ⟨h1, x, rfl, h2, rfl⟩ | ⟨h1, x, rfl, h2, rfl⟩ | ⟨h1, rfl, h2, rfl⟩
  · exact W.zret hx hb (hr.trans h2) h3 (fun t ht hW => ⟨rfl, ⟨by rw [ht]; exact hP, hD, fun u hu => by cases hu <;> first | rfl | exact sv_h hs⟩, hS.F ht⟩) hS.2.2 (dc_at hdc h1) hlk
  · exact W.lret hx hb (hr.trans h2) (fun t ht hW => ⟨rfl, ⟨by rw [ht]; exact hP, hD, fun u hu => by cases hu <;> first | rfl | exact sv_h hs⟩, hS.F ht⟩) hS.2.2 (dc_at hdc h1) hlk
  · exact W.dret hx hb (hr.trans h2) (fun t ht hW => ⟨rfl, ⟨by rw [ht]; exact hP, hD, fun u hu => by cases hu <;> first | rfl | exact sv_h hs⟩, hS.F ht⟩) hS.2.2 (dc_at hdc h1) hlk
  · refine W.aret (v := toV ad (.inr (.inr (.inr x)))) hx hb (hr.trans h2) (Or.inl ⟨_, rfl⟩) ?_ (fun t ht hW => ⟨rfl, ⟨by rw [ht]; exact hP, hD, fun u hu => by cases hu <;> first | rfl | exact sv_h hs⟩, hS.F ht⟩) hS.2.2 (dc_at hdc h1) hlk
    cases x with
    | none => exact Or.inl rfl
    | some r => exact Or.inr ⟨_, rfl⟩
  · exact W.vret hx hb (hr.trans h2) (fun t ht hW => ⟨rfl, ⟨by rw [ht]; exact hP, hD, fun u hu => by cases hu <;> first | rfl | exact sv_h hs⟩, hS.F ht⟩) hS.2.2 (dc_at hdc h1) hlk
/-- a run to an answer gives the method's contract -/
theorem met_of {l : Launch} {M : MI} {as : List PV} {m m2 : PM} {v : Option PV} {pcE : Nat} {LE : List (Option PV)} {stE : List PV} (hg : miG M) (hdc : dcG M) (h1f : 1 ≤ mFr M) (h30 : 30 ≤ mLo M) (hD0 : va_D Ba (wd A ad m)) (hn : (lent as).length ≤ mN M) (hs : SV as)
    (G : GoOK A D ad Ba bs L9 xs l M 0 (lpad (lent as) (mN M - (lent as).length)) [] m (pcE, LE, stE, m2)) (hv : sm_ret M pcE stE = some v) :
    Met l (mY M) (mWs M) (mRm M) (mPc A D ad Ba bs L9 xs as m) (Qc0 A D ad Ba L9 xs v m2) 0 0 Ba := by
  obtain ⟨g1, g2, g3, g4, g5⟩ := hg
  refine Met.ofW (cc := mB M) (maxL := mN M) (ret := mRet M) g1 rfl ?_
  intro p e s mi args below meth c s₁ B hml hv0
  obtain ⟨rfl, hP, hT⟩ := hv0
  have hts := atoms_spec (ws := mWs M) B.pre
  have hown : s.vm.findClass (mY M).cls = some mi.cls := findClass_of_methodNamed B.named
  rw [lg_entry_eq]
  refine G p e _ s mi _ below meth c s.heap [] 0 0 _ _ ⟨B.exec, B.bytes, hml, by rw [g5]; exact hown, fun w hw => hts w (List.mem_cons_of_mem _ hw), B.returns, B.notSynchronized, Nat.le_refl _, Nat.le_refl _, h1f, h30, hdc, hT⟩ (Nat.zero_le _) (Nat.zero_le _) hP hD0 va_S.rf (lr_entry hs hn) (fun v h => nomatch h) ?_
  intro H1 locs1 ls1 hP1 hD1 hS1 hl1 hs1
  exact end_row B.exec B.bytes B.returns B.notSynchronized hdc hP1 hD1 hs1 hS1 hv
theorem good_in {ws : List Cond} (h : ∀ w ∈ ws, w ∈ BW) : GoodIn BW ws := fun w hw => ⟨h w hw, good_of_word (bw_gw (h w hw))⟩
theorem mws_in {M : MI} (hg : miG M) : ∀ w ∈ mWs M, w ∈ BW := fun w hw => (List.mem_cons.mp hw).elim (fun e => by rw [e]; exact hg.2.1) id
theorem pc_pre {s : State} {H : Heap} {locs : List Loc} {as : List PV} {m : PM} (hT : TB A D Ba bs L9 xs s) (hS : va_S Ba s.heap H locs) (hP : HR A D ad L9 xs m H) : FrameBlind (mPc A D ad Ba bs L9 xs as m) ∧ ∀ U : State, U.heap = H → s.WarmedH U.vm → mPc A D ad Ba bs L9 xs as m (as.map (toV ad)).toArray U :=
  ⟨fun a U g mk q => ⟨q.1, q.2.1, tb_calling q.2.2⟩, fun U hU hW => ⟨rfl, by rw [hU]; exact hP, tb_moved hT hS hU hW⟩⟩
set_option maxHeartbeats 4000000 in
theorem go_ok (hw : WOK) (hdcs : ∀ o, ∀ q ∈ clk o, dcG q.2.2) (had : ad (10, 0, 0) = bs) (l : Launch) : ∀ (n : Nat) (M : MI) (pc : Nat) (L : List (Option PV)) (st : List PV) (m : PM) (r : PS), sm_go n M pc L st m = some r → GoOK A D ad Ba bs L9 xs l M pc L st m r := by
  intro n
  induction n with
  | zero => intro M pc L st m r h; cases h
  | succ n ih =>
    intro M pc L st m r h p e R s mi args below meth c H locs cells slots Q ls C0 hcl hsl hP hD hS hl hs K
    obtain ⟨hx, hb, hml, hown, hts, hr, hlk, hRf, hRl, h1f, h30, hdc, hT⟩ := id C0
    unfold sm_go at h
    cases h1 : asc (mT M) pc with
    | none => rw [h1] at h; cases h
    | some q =>
      obtain ⟨i, len⟩ := q
      have hd : decode (mB M) pc = .ok (i, len) := dc_at hdc h1
      rw [h1] at h
      dsimp only at h
      cases h2 : sm_ins (mO M) i len pc L st m with
      | some q =>
        obtain ⟨pc2, L2, st2, m2⟩ := q
        rw [h2] at h
        exact ins_ok hw had C0 hcl hsl hP hD hS hl hs hd h2 (fun H1 locs1 ls1 a1 a2 a3 a4 a5 => ih M pc2 L2 st2 m2 r h p e R s mi args below meth c H1 locs1 cells slots Q ls1 C0 hcl hsl a1 a2 a3 a4 a5 K)
      | none =>
        rw [h2] at h
        dsimp only at h
        cases h3 : sm_cal M i st with
        | none =>
          rw [h3] at h
          dsimp only at h
          by_cases h4 : sm_stop i = true
          · rw [if_pos h4] at h; cases h
            exact K H locs ls hP hD hS hl hs
          · rw [if_neg h4] at h; cases h
        | some q =>
          obtain ⟨M2, as, rest⟩ := q
          rw [h3] at h
          dsimp only at h
          by_cases h4 : len = 3 ∧ sm_fit M M2 as rest = true
          · rw [if_pos h4] at h
            obtain ⟨rfl, hfit⟩ := h4
            simp only [sm_fit, Bool.and_eq_true, decide_eq_true_eq] at hfit
            obtain ⟨⟨⟨⟨⟨f1, f2⟩, f3⟩, f4⟩, f5⟩, f6⟩ := hfit
            cases h5 : sm_go n M2 0 (lpad (lent as) (mN M2 - (lent as).length)) [] m with
            | none => rw [h5] at h; cases h
            | some q =>
              obtain ⟨pcE, LE, stE, m2⟩ := q
              rw [h5] at h
              dsimp only at h
              cases h6 : sm_ret M2 pcE stE with
              | none => rw [h6] at h; cases h
              | some v =>
                rw [h6] at h
                dsimp only at h
                have G := ih M2 0 _ [] m _ h5
                have hRR : (mRm M2).frames + 1 ≤ R.frames ∧ 8 + (mN M2 + 11) + (mRm M2).locals ≤ R.locals := ⟨Nat.le_trans f1 hRf, Nat.le_trans f4 hRl⟩
                -- behind the call
                have after : SV rest → ∀ (H1 : Heap) (locs1 : List Loc), HR A D ad L9 xs m2 H1 → va_D Ba (wd A ad m2) → (∀ u, v = some u → vok u = true) → va_S Ba s.heap H1 locs1 → W p l e R s mi args below meth c H1 locs1 cells slots Q (F0 mi (pc + 3) ls ((v.map (toV ad)).toList ++ rest.map (toV ad))) := by
                  intro a4 H1 locs1 a1 a2 a6 a3
                  have k := ih M (pc + 3) L (v.toList ++ rest) m2 r h p e R s mi args below meth c H1 locs1 cells slots Q ls C0 hcl hsl a1 a2 a3 hl (fun u hu => by
                    rcases List.mem_append.mp hu with q | q
                    · cases v with
                      | none => cases q
                      | some z => exact a6 u (by rw [List.mem_singleton.mp q])
                    · exact a4 u q) K
                  cases v with
                  | none => exact k
                  | some z => exact k
                have hroom : 2 * (F0 mi pc ls (st.map (toV ad))).monitorRoom + ((rest.map (toV ad)).map fun v => v.category).sum ≤ 8 := lv_room (by rw [map_cat]; exact f5)
                have Sx : CallFix p mi c (mB M) (mN M) s args BW (RO (mO M)) := ⟨hx, hb, hml, hown, hts⟩
                unfold sm_cal at h3
                split at h3
                · next x =>
                  split at h3
                  · next M3 hc =>
                    by_cases h7 : mPar M3 ≤ st.length
                    · rw [if_pos h7] at h3; cases h3
                      obtain ⟨k1, g⟩ := hw.2.2.2.2.2.2.2.2.2.2 (mO M) _ (asc_mem hc)
                      have hdc2 := hdcs (mO M) _ (asc_mem hc)
                      have hsa : SV ((st.take (mPar M2)).reverse) := fun u hu => hs u (List.mem_of_mem_take (List.mem_reverse.mp hu))
                      have hsr : SV (st.drop (mPar M2)) := fun u hu => hs u (List.mem_of_mem_drop hu)
                      have hM := met_of (l := l) g hdc2 f2 f3 hD f6 hsa G h6
                      have hp := pc_pre (as := (st.take (mPar M2)).reverse) hT hS hP
                      refine call_row (rest := (st.drop (mPar M2)).map (toV ad)) (va_runS (As := ((st.take (mPar M2)).reverse).map (toV ad)) (rest := (st.drop (mPar M2)).map (toV ad)) Sx hM (va_cwS (mPar M2) hts (good_in (fun w hw2 => ?_)) rfl rfl rfl g.2.2.2.1 hRR) hp rfl ?_ hl.2.1.1 ?_ hroom hd ⟨hcl, hsl⟩) hS (after hsr)
                      · unfold va_wsS at hw2
                        rcases List.mem_append.mp hw2 with q | q
                        · simp only [List.mem_cons, List.not_mem_nil, or_false] at q
                          rcases q with rfl | rfl | rfl
                          · exact k1.1
                          · exact k1.2
                          · exact g.2.2.1
                        · exact mws_in g w q
                      · rw [List.length_map, List.length_reverse, List.length_take]; omega
                      · show st.map (toV ad) = _
                        rw [← List.map_reverse, List.reverse_reverse, ← List.map_append, List.take_append_drop]
                    · rw [if_neg h7] at h3; cases h3
                  · next M3 hc =>
                    by_cases h7 : mPar M3 ≤ st.length
                    · rw [if_pos h7] at h3; cases h3
                      obtain ⟨k1, g⟩ := hw.2.2.2.2.2.2.2.2.2.2 (mO M) _ (asc_mem hc)
                      have hdc2 := hdcs (mO M) _ (asc_mem hc)
                      have hsa : SV ((st.take (mPar M2)).reverse) := fun u hu => hs u (List.mem_of_mem_take (List.mem_reverse.mp hu))
                      have hsr : SV (st.drop (mPar M2)) := fun u hu => hs u (List.mem_of_mem_drop hu)
                      have hM := met_of (l := l) g hdc2 f2 f3 hD f6 hsa G h6
                      have hp := pc_pre (as := (st.take (mPar M2)).reverse) hT hS hP
                      obtain ⟨⟨host, k2⟩, k3⟩ := k1
                      have hi : (Cond.initialized (mY M2).cls).before args s = true := hts _ g.2.2.1
                      refine call_row (rest := (st.drop (mPar M2)).map (toV ad)) (va_runSN (As := ((st.take (mPar M2)).reverse).map (toV ad)) (rest := (st.drop (mPar M2)).map (toV ad)) Sx hM ⟨va_cnB (mPar M2) hts (good_in (mws_in g)) rfl rfl rfl (hT.2.1 _ k2) hi g.2.2.2.1 hRR, hts _ k3, trivial⟩ hp rfl ?_ hl.2.1.1 ?_ hroom hd ⟨hcl, hsl⟩) hS (after hsr)
                      · rw [List.length_map, List.length_reverse, List.length_take]; omega
                      · show st.map (toV ad) = _
                        rw [← List.map_reverse, List.reverse_reverse, ← List.map_append, List.take_append_drop]
                    · rw [if_neg h7] at h3; cases h3
                  · cases h3
                · next x =>
                  split at h3
                  · next M3 hc =>
                    split at h3
                    · next t k g0 hrc =>
                      split at h3
                      · next ht =>
                        cases h3
                        obtain ⟨k1, g⟩ := hw.2.2.2.2.2.2.2.2.2.2 (mO M) _ (asc_mem hc)
                        have hdc2 := hdcs (mO M) _ (asc_mem hc)
                        obtain ⟨k2, k3, k4, k5⟩ := k1
                        have hpl : mPar M2 < st.length := (List.getElem?_eq_some_iff.mp hrc).1
                        have etk : st.take (mPar M2 + 1) = st.take (mPar M2) ++ [vR t k g0] := by
                          rw [List.take_add_one, hrc]; rfl
                        have hsa : SV ((st.take (mPar M2 + 1)).reverse) := fun u hu => hs u (List.mem_of_mem_take (List.mem_reverse.mp hu))
                        have hsr : SV (st.drop (mPar M2 + 1)) := fun u hu => hs u (List.mem_of_mem_drop hu)
                        have hM := met_of (l := l) g hdc2 f2 f3 hD f6 hsa G h6
                        have hp := pc_pre (as := (st.take (mPar M2 + 1)).reverse) hT hS hP
                        have ear : ((st.take (mPar M2 + 1)).reverse).map (toV ad) = .ref (ad (t, k, g0)) :: ((st.take (mPar M2)).reverse).map (toV ad) := by
                          rw [etk, List.reverse_append]; rfl
                        have hvr : vok (vR t k g0) = true := hs _ (List.mem_of_getElem? hrc)
                        have hok := vok_ok hvr (tcl_ne ht)
                        obtain ⟨q0, hq, hq0⟩ := wd_at (A := A) (ad := ad) (m := m) hok
                        have hce : ∃ fs, ce A ad m (t, k, g0) = .inr (mO M2, fs) := by
                          have h10 := (okW_lt hok).1
                          rcases (show t = 0 ∨ t = 1 ∨ t = 2 ∨ t = 3 ∨ t = 4 ∨ t = 5 ∨ t = 6 ∨ t = 7 ∨ t = 8 ∨ t = 9 by omega) with rfl | rfl | rfl | rfl | rfl | rfl | rfl | rfl | rfl | rfl <;> simp [tcl] at ht <;> rw [← ht] <;> exact ⟨_, rfl⟩
                        obtain ⟨fs, hce⟩ := hce
                        rw [hce] at hq0
                        obtain ⟨qc, hqc, hqn⟩ := Option.map_eq_some_iff.mp k5
                        have hrv := va_recv hT.1 hP.1 hqc hq0
                        rw [hqn] at hrv
                        rw [ear] at hp
                        unfold mPc at hM hp
                        rw [ear] at hM hp
                        refine call_row (rest := (st.drop (mPar M2 + 1)).map (toV ad)) (va_runV (b := ad (t, k, g0)) (As := ((st.take (mPar M2)).reverse).map (toV ad)) (rest := (st.drop (mPar M2 + 1)).map (toV ad)) Sx hM (cwV (mPar M2) hts (good_in (fun w hw2 => ?_)) rfl rfl rfl ⟨rfl, g.2.2.2.1⟩ hRR) ⟨hp.1, hrv, hp.2⟩ rfl ?_ hl.2.1.1 ?_ hroom hd ⟨hcl, hsl⟩) hS (after hsr)
                        · unfold wsV at hw2
                          rcases List.mem_append.mp hw2 with q | q
                          · simp only [List.mem_cons, List.not_mem_nil, or_false] at q
                            rcases q with rfl | rfl | rfl | rfl
                            · exact k2
                            · exact k3
                            · exact k4
                            · exact g.2.2.1
                          · exact mws_in g w q
                        · rw [List.length_map, List.length_reverse, List.length_take]; omega
                        · show st.map (toV ad) = _
                          rw [← List.map_reverse, List.reverse_reverse]
                          have e3 : st = st.take (mPar M2) ++ vR t k g0 :: st.drop (mPar M2 + 1) := by
                            have e4 : st = st.take (mPar M2 + 1) ++ st.drop (mPar M2 + 1) := (List.take_append_drop _ _).symm
                            rw [etk, List.append_assoc] at e4
                            exact e4
                          have e5 := congrArg (List.map (toV ad)) e3
                          rw [List.map_append] at e5
                          exact e5
                      · cases h3
                    · cases h3
                  · cases h3
                · cases h3
          · rw [if_neg h4] at h; cases h
end GK
end
section
/-! less known of the locals: what runs so, runs so with more known -/
def LE : List (Option PV) → List (Option PV) → Prop
  | [], [] => True
  | none :: r, _ :: q => LE r q
  | some a :: r, some b :: q => a = b ∧ LE r q
  | _, _ => False
theorem le_len : ∀ {L K : List (Option PV)}, LE L K → L.length = K.length
  | [], [], _ => rfl
  | [], _ :: _, h => h.elim
  | none :: r, [], h => h.elim
  | some a :: r, [], h => h.elim
  | none :: r, b :: q, h => by simp only [List.length_cons]; rw [le_len (L := r) (K := q) h]
  | some a :: r, none :: q, h => h.elim
  | some a :: r, some b :: q, h => by simp only [List.length_cons]; rw [le_len h.2]
theorem le_get : ∀ {L K : List (Option PV)}, LE L K → ∀ {k : Nat} {v : PV}, L[k]? = some (some v) → K[k]? = some (some v)
  | [], [], _, k, v, h => h
  | [], _ :: _, h, _, _, _ => h.elim
  | none :: r, [], h, _, _, _ => h.elim
  | some a :: r, [], h, _, _, _ => h.elim
  | none :: r, b :: q, h, 0, v, hk => by cases hk
  | none :: r, b :: q, h, k + 1, v, hk => le_get (L := r) (K := q) h (k := k) hk
  | some a :: r, none :: q, h, _, _, _ => h.elim
  | some a :: r, some b :: q, h, 0, v, hk => by rw [← h.1]; exact hk
  | some a :: r, some b :: q, h, k + 1, v, hk => le_get h.2 (k := k) hk
theorem le_refl : ∀ (L : List (Option PV)), LE L L
  | [] => trivial
  | none :: r => le_refl r
  | some a :: r => ⟨rfl, le_refl r⟩
theorem le_set : ∀ {L K : List (Option PV)}, LE L K → ∀ (k : Nat) (x : Option PV), LE (L.set k x) (K.set k x)
  | [], [], _, k, x => trivial
  | [], _ :: _, h, _, _ => h.elim
  | none :: r, [], h, _, _ => h.elim
  | some a :: r, [], h, _, _ => h.elim
  | none :: r, b :: q, h, 0, none => h
  | none :: r, b :: q, h, 0, some v => ⟨rfl, h⟩
  | none :: r, b :: q, h, k + 1, x => le_set (L := r) (K := q) h k x
  | some a :: r, none :: q, h, _, _ => h.elim
  | some a :: r, some b :: q, h, 0, none => h.2
  | some a :: r, some b :: q, h, 0, some v => ⟨rfl, h.2⟩
  | some a :: r, some b :: q, h, k + 1, x => ⟨h.1, le_set h.2 k x⟩
theorem le_setn : ∀ {L K : List (Option PV)}, LE L K → ∀ (k : Nat), LE (L.set k none) K
  | [], [], _, k => trivial
  | [], _ :: _, h, _ => h.elim
  | none :: r, [], h, _ => h.elim
  | some a :: r, [], h, _ => h.elim
  | none :: r, b :: q, h, 0 => h
  | none :: r, b :: q, h, k + 1 => le_setn (L := r) (K := q) h k
  | some a :: r, none :: q, h, _ => h.elim
  | some a :: r, some b :: q, h, 0 => h.2
  | some a :: r, some b :: q, h, k + 1 => ⟨h.1, le_setn h.2 k⟩
theorem le_clr {L K : List (Option PV)} (h : LE L K) (i : Nat) : LE (clr L i) (clr K i) := by
  unfold clr
  cases i with
  | zero => exact h
  | succ j =>
    dsimp only
    cases hk : K[j]? with
    | none =>
      have hl : L[j]? = none := by
        rw [List.getElem?_eq_none_iff] at hk ⊢
        rw [le_len h]; exact hk
      rw [hl]; exact h
    | some o =>
      cases hl : L[j]? with
      | none =>
        rw [List.getElem?_eq_none_iff, le_len h] at hl
        rw [List.getElem?_eq_none_iff.mpr hl] at hk
        cases hk
      | some a =>
        cases a with
        | none =>
          cases o with
          | none => exact h
          | some w =>
            dsimp only
            split
            · have h2 := le_set h j none
              have e : L.set j none = L := by
                apply List.ext_getElem?
                intro q
                by_cases hq : q = j
                · subst hq
                  rw [List.getElem?_set_self (List.getElem?_eq_some_iff.mp hl).1, hl]
                · rw [List.getElem?_set_ne (Ne.symm hq)]
              rw [e] at h2
              exact h2
            · exact h
        | some w =>
          have h3 := le_get h hl
          rw [hk] at h3
          cases h3
          dsimp only
          split
          · exact le_set h j none
          · exact h
theorem le_lset {L K L2 : List (Option PV)} (h : LE L K) {i : Nat} {v : PV} (e : lset L i v = some L2) : ∃ K2, lset K i v = some K2 ∧ LE L2 K2 := by
  obtain ⟨hi, rfl⟩ := lset_len e
  exact ⟨_, by unfold lset; rw [if_pos (by rw [← le_len h]; exact hi)], le_set (le_clr h i) i (some v)⟩
theorem le_lset2 {L K L2 : List (Option PV)} (h : LE L K) {i : Nat} {v : PV} (e : lset2 L i v = some L2) : ∃ K2, lset2 K i v = some K2 ∧ LE L2 K2 := by
  obtain ⟨hi, rfl⟩ := lset2_len e
  exact ⟨_, by unfold lset2; rw [if_pos (by rw [← le_len h]; exact hi)], le_set (le_set (le_clr h i) i (some v)) (i + 1) none⟩
section LW
variable {o n pc pc2 : Nat} {L K L2 : List (Option PV)} {st st2 : List PV} {m m2 : PM} {i : Instr}
theorem le_a (hL : LE L K) (h : sm_a i n pc L st m = some (pc2, L2, st2, m2)) : L2 = L ∧ sm_a i n pc K st m = some (pc2, K, st2, m2) := by
  unfold sm_a at h
  split at h
  · cases h; exact ⟨rfl, rfl⟩
  · cases h; exact ⟨rfl, rfl⟩
  · cases h; exact ⟨rfl, rfl⟩
  · cases h; exact ⟨rfl, rfl⟩
  · cases h; exact ⟨rfl, rfl⟩
  · cases h; exact ⟨rfl, rfl⟩
  · split at h
    · next hk => cases h; exact ⟨rfl, by unfold sm_a; simp only [le_get hL hk]⟩
    · cases h
  · split at h
    · next hk => cases h; exact ⟨rfl, by unfold sm_a; simp only [le_get hL hk]⟩
    · cases h
  · split at h
    · next hk => cases h; exact ⟨rfl, by unfold sm_a; simp only [le_get hL hk]⟩
    · cases h
  · split at h
    · next hk => cases h; exact ⟨rfl, by unfold sm_a; simp only [le_get hL hk]⟩
    · cases h
  · split at h
    · next hk => cases h; exact ⟨rfl, by unfold sm_a; simp only [le_get hL hk]⟩
    · cases h
  · split at h
    · next hk => cases h; exact ⟨rfl, by unfold sm_a; simp only [le_get hL hk]⟩
    · cases h
  · split at h
    · next hk => cases h; exact ⟨rfl, by unfold sm_a; simp only [le_get hL hk]⟩
    · cases h
  · split at h
    · next hk => cases h; exact ⟨rfl, by unfold sm_a; simp only [le_get hL hk]⟩
    · cases h
  · cases h
theorem le_b (hL : LE L K) (h : sm_b i n pc L st m = some (pc2, L2, st2, m2)) : ∃ K2, sm_b i n pc K st m = some (pc2, K2, st2, m2) ∧ LE L2 K2 := by
  unfold sm_b at h
  split at h
  · split at h
    · split at h
      · next hk => cases h; obtain ⟨K2, h1, h2⟩ := le_lset hL hk; exact ⟨K2, by unfold sm_b; simp only [h1], h2⟩
      · cases h
    · cases h
  · split at h
    · split at h
      · next hk => cases h; obtain ⟨K2, h1, h2⟩ := le_lset hL hk; exact ⟨K2, by unfold sm_b; simp only [h1], h2⟩
      · cases h
    · cases h
  · split at h
    · split at h
      · next hk => cases h; obtain ⟨K2, h1, h2⟩ := le_lset2 hL hk; exact ⟨K2, by unfold sm_b; simp only [h1], h2⟩
      · cases h
    · cases h
  · split at h
    · split at h
      · next hk => cases h; obtain ⟨K2, h1, h2⟩ := le_lset2 hL hk; exact ⟨K2, by unfold sm_b; simp only [h1], h2⟩
      · cases h
    · cases h
  · split at h
    · split at h
      · next hk => cases h; obtain ⟨K2, h1, h2⟩ := le_lset2 hL hk; exact ⟨K2, by unfold sm_b; simp only [h1], h2⟩
      · cases h
    · cases h
  · split at h
    · split at h
      · next hk => cases h; obtain ⟨K2, h1, h2⟩ := le_lset2 hL hk; exact ⟨K2, by unfold sm_b; simp only [h1], h2⟩
      · cases h
    · cases h
  · split at h
    · split at h
      · next hk => cases h; obtain ⟨K2, h1, h2⟩ := le_lset hL hk; exact ⟨K2, by unfold sm_b; simp only [h1], h2⟩
      · cases h
    · cases h
  · split at h
    · split at h
      · next hk => cases h; obtain ⟨K2, h1, h2⟩ := le_lset hL hk; exact ⟨K2, by unfold sm_b; simp only [h1], h2⟩
      · cases h
    · cases h
  · split at h
    · next hk0 =>
      split at h
      · next hk => cases h; obtain ⟨K2, h1, h2⟩ := le_lset hL hk; exact ⟨K2, by unfold sm_b; simp only [le_get hL hk0, h1], h2⟩
      · cases h
    · cases h
  · split at h
    · split at h
      · next hc => cases h; exact ⟨K, by unfold sm_b; simp only [if_pos hc], hL⟩
      · cases h
    · cases h
  · split at h
    · split at h
      · next hc =>
        split at h
        · next hc2 => cases h; exact ⟨K, by unfold sm_b; simp only [if_pos hc, if_pos hc2], hL⟩
        · cases h
      · cases h
    · cases h
  · split at h
    · split at h
      · next hc => cases h; exact ⟨K, by unfold sm_b; simp only [if_pos hc], hL⟩
      · cases h
    · cases h
  · cases h
theorem le_c (h : sm_c i n pc L st m = some (pc2, L2, st2, m2)) (K : List (Option PV)) : L2 = L ∧ sm_c i n pc K st m = some (pc2, K, st2, m2) := by
  unfold sm_c at h
  split at h
  iterate 8 (next => cases h; exact ⟨rfl, rfl⟩)
  iterate 2 (next =>
    split at h
    · cases h
    · next hc => cases h; exact ⟨rfl, by unfold sm_c; simp only [if_neg hc]⟩)
  iterate 11 (next => cases h; exact ⟨rfl, rfl⟩)
  iterate 3 (next =>
    split at h
    · next hc => cases h; exact ⟨rfl, by unfold sm_c; simp only [if_pos hc]⟩
    · cases h)
  next => cases h
set_option maxHeartbeats 4000000 in
theorem le_d (h : sm_d i n pc L st m = some (pc2, L2, st2, m2)) (K : List (Option PV)) : L2 = L ∧ sm_d i n pc K st m = some (pc2, K, st2, m2) := by
  unfold sm_d at h
  split at h
  all_goals (repeat' split at h)
  all_goals first
    | (cases h; done)
    | (simp only [Option.some.injEq, Prod.mk.injEq] at h
       obtain ⟨rfl, rfl, rfl, rfl⟩ := h
       refine ⟨rfl, ?_⟩
       unfold sm_d
       simp only [*, if_true, if_false, ite_true, ite_false, not_false_eq_true, not_true_eq_false]
       done)
    | (simp only [Option.some.injEq, Prod.mk.injEq] at h
       obtain ⟨rfl, rfl, rfl, rfl⟩ := h
       refine ⟨rfl, ?_⟩
       unfold sm_d
       simp [*])
set_option maxHeartbeats 4000000 in
theorem le_e (h : sm_e o i n pc L st m = some (pc2, L2, st2, m2)) (K : List (Option PV)) : L2 = L ∧ sm_e o i n pc K st m = some (pc2, K, st2, m2) := by
  unfold sm_e at h
  split at h
  all_goals (repeat' split at h)
  all_goals first
    | (cases h; done)
    | (simp only [Option.some.injEq, Prod.mk.injEq] at h
       obtain ⟨rfl, rfl, rfl, rfl⟩ := h
       refine ⟨rfl, ?_⟩
       unfold sm_e
       simp only [*, if_true, if_false, ite_true, ite_false, not_false_eq_true, not_true_eq_false]
       done)
    | (simp only [Option.some.injEq, Prod.mk.injEq] at h
       obtain ⟨rfl, rfl, rfl, rfl⟩ := h
       refine ⟨rfl, ?_⟩
       unfold sm_e
       simp [*])
end LW
end
section
section LW2
variable {o n pc pc2 : Nat} {L K L2 : List (Option PV)} {st st2 : List PV} {m m2 : PM} {i : Instr} {r : PS}
theorem b_na (h : sm_b i n pc L st m = some r) (K : List (Option PV)) : sm_a i n pc K st m = none := by
  unfold sm_b at h
  split at h
  all_goals first | (cases h; done) | rfl
theorem c_n (h : sm_c i n pc L st m = some r) (K : List (Option PV)) : sm_a i n pc K st m = none ∧ sm_b i n pc K st m = none := by
  unfold sm_c at h
  split at h
  all_goals first | (cases h; done) | exact ⟨rfl, rfl⟩
theorem d_n (h : sm_d i n pc L st m = some r) (K : List (Option PV)) : sm_a i n pc K st m = none ∧ sm_b i n pc K st m = none ∧ sm_c i n pc K st m = none := by
  unfold sm_d at h
  split at h
  all_goals first | (cases h; done) | (refine ⟨?_, ?_, ?_⟩ <;> rfl) | (refine ⟨?_, ?_, ?_⟩ <;> simp [sm_a, sm_b, sm_c])
theorem e_n (h : sm_e o i n pc L st m = some r) (K : List (Option PV)) : sm_a i n pc K st m = none ∧ sm_b i n pc K st m = none ∧ sm_c i n pc K st m = none ∧ sm_d i n pc K st m = none := by
  unfold sm_e at h
  split at h
  all_goals first | (cases h; done) | (refine ⟨?_, ?_, ?_, ?_⟩ <;> rfl) | (refine ⟨?_, ?_, ?_, ?_⟩ <;> simp [sm_a, sm_b, sm_c, sm_d])
theorem le_ins (hL : LE L K) (h : sm_ins o i n pc L st m = some (pc2, L2, st2, m2)) : ∃ K2, sm_ins o i n pc K st m = some (pc2, K2, st2, m2) ∧ LE L2 K2 := by
  unfold sm_ins at h
  cases ha : sm_a i n pc L st m with
  | some r =>
    rw [ha] at h; cases h
    obtain ⟨rfl, h2⟩ := le_a hL ha
    exact ⟨K, by unfold sm_ins; rw [h2], hL⟩
  | none =>
    rw [ha] at h
    cases hb : sm_b i n pc L st m with
    | some r =>
      rw [hb] at h; cases h
      obtain ⟨K2, h2, h3⟩ := le_b hL hb
      exact ⟨K2, by unfold sm_ins; rw [b_na hb K, h2], h3⟩
    | none =>
      rw [hb] at h
      cases hc : sm_c i n pc L st m with
      | some r =>
        rw [hc] at h; cases h
        obtain ⟨rfl, h2⟩ := le_c hc K
        obtain ⟨n1, n2⟩ := c_n hc K
        exact ⟨K, by unfold sm_ins; rw [n1, n2, h2], hL⟩
      | none =>
        rw [hc] at h
        cases hd : sm_d i n pc L st m with
        | some r =>
          rw [hd] at h; cases h
          obtain ⟨rfl, h2⟩ := le_d hd K
          obtain ⟨n1, n2, n3⟩ := d_n hd K
          exact ⟨K, by unfold sm_ins; rw [n1, n2, n3, h2], hL⟩
        | none =>
          rw [hd] at h
          obtain ⟨rfl, h2⟩ := le_e (show sm_e o i n pc L st m = some (pc2, L2, st2, m2) from h) K
          obtain ⟨n1, n2, n3, n4⟩ := e_n h K
          exact ⟨K, by unfold sm_ins; rw [n1, n2, n3, n4, h2], hL⟩
theorem ins_none {M : MI} (h : sm_ins o i n pc L st m = none) (hc : (∃ q, sm_cal M i st = some q) ∨ sm_stop i = true) (K : List (Option PV)) : sm_ins o i n pc K st m = none := by
  have key : ∀ K : List (Option PV), sm_a i n pc K st m = none ∧ sm_b i n pc K st m = none ∧ sm_c i n pc K st m = none ∧ sm_d i n pc K st m = none := by
    intro K
    rcases hc with ⟨q, hq⟩ | hq
    · unfold sm_cal at hq
      split at hq
      · refine ⟨?_, ?_, ?_, ?_⟩ <;> rfl
      · refine ⟨?_, ?_, ?_, ?_⟩ <;> rfl
      · cases hq
    · unfold sm_stop at hq
      split at hq
      all_goals first | (cases hq; done) | (refine ⟨?_, ?_, ?_, ?_⟩ <;> rfl)
  obtain ⟨a1, a2, a3, a4⟩ := key K
  obtain ⟨b1, b2, b3, b4⟩ := key L
  unfold sm_ins at h ⊢
  rw [b1, b2, b3, b4] at h
  rw [a1, a2, a3, a4]
  cases he : sm_e o i n pc K st m with
  | none => rfl
  | some r =>
    obtain ⟨x1, x2, x3, x4⟩ := r
    have h2 := (le_e he L).2
    dsimp only at h
    rw [h2] at h
    cases h
end LW2
theorem le_go {n : Nat} : ∀ {M : MI} {pc : Nat} {L K : List (Option PV)} {st : List PV} {m : PM} {r : PS}, LE L K → sm_go n M pc L st m = some r → ∃ K2, sm_go n M pc K st m = some (r.1, K2, r.2.2.1, r.2.2.2) ∧ LE r.2.1 K2 := by
  induction n with
  | zero => intro M pc L K st m r hL h; cases h
  | succ n ih =>
    intro M pc L K st m r hL h
    unfold sm_go at h
    cases h1 : asc (mT M) pc with
    | none => rw [h1] at h; cases h
    | some q =>
      obtain ⟨i, len⟩ := q
      rw [h1] at h
      dsimp only at h
      cases h2 : sm_ins (mO M) i len pc L st m with
      | some q =>
        obtain ⟨pc2, L2, st2, m2⟩ := q
        rw [h2] at h
        obtain ⟨K2, h3, h4⟩ := le_ins hL h2
        obtain ⟨K3, h5, h6⟩ := ih h4 h
        refine ⟨K3, ?_, h6⟩
        unfold sm_go
        rw [h1]; dsimp only
        rw [h3]; exact h5
      | none =>
        rw [h2] at h
        dsimp only at h
        cases h3 : sm_cal M i st with
        | none =>
          rw [h3] at h
          dsimp only at h
          by_cases h4 : sm_stop i = true
          · rw [if_pos h4] at h; cases h
            refine ⟨K, ?_, hL⟩
            unfold sm_go
            rw [h1]; dsimp only
            rw [ins_none (M := M) h2 (Or.inr h4) K]; dsimp only
            rw [h3]; dsimp only
            rw [if_pos h4]
          · rw [if_neg h4] at h; cases h
        | some q =>
          obtain ⟨M2, as, rest⟩ := q
          rw [h3] at h
          dsimp only at h
          by_cases h4 : len = 3 ∧ sm_fit M M2 as rest = true
          · rw [if_pos h4] at h
            cases h5 : sm_go n M2 0 (lpad (lent as) (mN M2 - (lent as).length)) [] m with
            | none => rw [h5] at h; cases h
            | some q =>
              obtain ⟨pcE, LE', stE, m2⟩ := q
              rw [h5] at h
              dsimp only at h
              cases h6 : sm_ret M2 pcE stE with
              | none => rw [h6] at h; cases h
              | some v =>
                rw [h6] at h
                dsimp only at h
                obtain ⟨K3, h7, h8⟩ := ih hL h
                refine ⟨K3, ?_, h8⟩
                unfold sm_go
                rw [h1]; dsimp only
                rw [ins_none (M := M) h2 (Or.inl ⟨_, h3⟩) K]; dsimp only
                rw [h3]; dsimp only
                rw [if_pos h4, h5]; dsimp only
                rw [h6]
                exact h7
          · rw [if_neg h4] at h; cases h
theorem an_weak {M : MI} {pc : Nat} {L K : List (Option PV)} {st : List PV} {m m2 : PM} {v : OC} (hL : LE L K) (h : An M pc L st m v m2) : An M pc K st m v m2 := by
  obtain ⟨a, b, c, ⟨n, h1⟩, h2⟩ := h
  obtain ⟨K2, h3, -⟩ := le_go hL h1
  exact ⟨a, K2, c, ⟨n, h3⟩, h2⟩
end
section
/-! walks put together -/
def AnS (M : MI) (s : PS) (v : OC) (m2 : PM) : Prop := match s with
  | (pc, L, st, m) => An M pc L st m v m2
def Re (M : MI) (s s2 : PS) : Prop := ∀ (v : OC) (m2 : PM), AnS M s2 v m2 → AnS M s v m2
section COMB
variable {M : MI} {t f pc : Nat} {L : List (Option PV)} {st : List PV} {m m1 m2 : PM} {v : OC}
theorem re_if0 {c : Prop} [Decidable c] {s : PS} (ht : c → Re M (t, L, st, m) s) (hf : ¬ c → Re M (f, L, st, m) s) : Re M (if c then t else f, L, st, m) s := by
  by_cases h : c
  · rw [if_pos h]; exact ht h
  · rw [if_neg h]; exact hf h
theorem re_if1 {c : Prop} [Decidable c] {α : Type} (G : α → PS) {a b : α} (ht : c → Re M (t, L, st, m) (G a)) (hf : ¬ c → Re M (f, L, st, m) (G b)) : Re M (if c then t else f, L, st, m) (G (if c then a else b)) := by
  by_cases h : c
  · rw [if_pos h, if_pos h]; exact ht h
  · rw [if_neg h, if_neg h]; exact hf h
theorem re_if2 {c : Prop} [Decidable c] {α β : Type} (G : α → β → PS) {a b : α} {x y : β} (ht : c → Re M (t, L, st, m) (G a x)) (hf : ¬ c → Re M (f, L, st, m) (G b y)) : Re M (if c then t else f, L, st, m) (G (if c then a else b) (if c then x else y)) := by
  by_cases h : c
  · rw [if_pos h, if_pos h, if_pos h]; exact ht h
  · rw [if_neg h, if_neg h, if_neg h]; exact hf h
theorem re_if3 {c : Prop} [Decidable c] {α β γ : Type} (G : α → β → γ → PS) {a b : α} {x y : β} {u w : γ} (ht : c → Re M (t, L, st, m) (G a x u)) (hf : ¬ c → Re M (f, L, st, m) (G b y w)) : Re M (if c then t else f, L, st, m) (G (if c then a else b) (if c then x else y) (if c then u else w)) := by
  by_cases h : c
  · rw [if_pos h, if_pos h, if_pos h, if_pos h]; exact ht h
  · rw [if_neg h, if_neg h, if_neg h, if_neg h]; exact hf h
theorem an_t {c : Prop} [Decidable c] (h : c) (k : An M t L st m v m2) : An M (if c then t else f) L st m v m2 := by rw [if_pos h]; exact k
theorem an_f {c : Prop} [Decidable c] (h : ¬ c) (k : An M f L st m v m2) : An M (if c then t else f) L st m v m2 := by rw [if_neg h]; exact k
theorem an_ifi {c : Prop} [Decidable c] {a b : Int32} (ht : c → An M t L st m (.inl (some (vI a))) m2) (hf : ¬ c → An M f L st m (.inl (some (vI b))) m2) : An M (if c then t else f) L st m (.inl (some (vI (if c then a else b)))) m2 := by
  by_cases h : c
  · rw [if_pos h, if_pos h]; exact ht h
  · rw [if_neg h, if_neg h]; exact hf h
theorem an_ifl {c : Prop} [Decidable c] {a b : Int64} (ht : c → An M t L st m (.inl (some (vL a))) m2) (hf : ¬ c → An M f L st m (.inl (some (vL b))) m2) : An M (if c then t else f) L st m (.inl (some (vL (if c then a else b)))) m2 := by
  by_cases h : c
  · rw [if_pos h, if_pos h]; exact ht h
  · rw [if_neg h, if_neg h]; exact hf h
theorem an_ifd {c : Prop} [Decidable c] {a b : UInt64} (ht : c → An M t L st m (.inl (some (vD a))) m2) (hf : ¬ c → An M f L st m (.inl (some (vD b))) m2) : An M (if c then t else f) L st m (.inl (some (vD (if c then a else b)))) m2 := by
  by_cases h : c
  · rw [if_pos h, if_pos h]; exact ht h
  · rw [if_neg h, if_neg h]; exact hf h
theorem an_ifim {c : Prop} [Decidable c] {a b : Int32} (ht : c → An M t L st m (.inl (some (vI a))) m1) (hf : ¬ c → An M f L st m (.inl (some (vI b))) m2) : An M (if c then t else f) L st m (.inl (some (vI (if c then a else b)))) (if c then m1 else m2) := by
  by_cases h : c
  · rw [if_pos h, if_pos h, if_pos h]; exact ht h
  · rw [if_neg h, if_neg h, if_neg h]; exact hf h
theorem an_ifm {c : Prop} [Decidable c] (ht : c → An M t L st m v m1) (hf : ¬ c → An M f L st m v m2) : An M (if c then t else f) L st m v (if c then m1 else m2) := by
  by_cases h : c
  · rw [if_pos h, if_pos h]; exact ht h
  · rw [if_neg h, if_neg h]; exact hf h
theorem an_ifo {c : Prop} [Decidable c] {a b : OC} (ht : c → An M t L st m a m1) (hf : ¬ c → An M f L st m b m2) : An M (if c then t else f) L st m (if c then a else b) (if c then m1 else m2) := by
  by_cases h : c
  · rw [if_pos h, if_pos h, if_pos h]; exact ht h
  · rw [if_neg h, if_neg h, if_neg h]; exact hf h
theorem an_ifp {c : Prop} [Decidable c] {a b : OC} (ht : c → An M t L st m a m2) (hf : ¬ c → An M f L st m b m2) : An M (if c then t else f) L st m (if c then a else b) m2 := by
  by_cases h : c
  · rw [if_pos h, if_pos h]; exact ht h
  · rw [if_neg h, if_neg h]; exact hf h
theorem an_cL {K : List (Option PV)} (h : L = K) (k : An M pc K st m v m2) : An M pc L st m v m2 := by rw [h]; exact k
end COMB
/-- n rounds from the j-th on -/
def lp {σ : Type} (f : Nat → σ → σ) (n j : Nat) (s : σ) : σ := if n = 0 then s else lp f (n - 1) (j + 1) (f j s)
termination_by n
decreasing_by omega
theorem lp_0 {σ : Type} (f : Nat → σ → σ) (j : Nat) (s : σ) : lp f 0 j s = s := by rw [lp, if_pos rfl]
theorem lp_s {σ : Type} (f : Nat → σ → σ) (n j : Nat) (s : σ) : lp f (n + 1) j s = lp f n (j + 1) (f j s) := by rw [lp, if_neg (by omega)]; rfl
def lq {σ ρ : Type} (f : Nat → σ → σ ⊕ ρ) (n j : Nat) (s : σ) : σ ⊕ ρ := if n = 0 then .inl s else match f j s with
  | .inl s2 => lq f (n - 1) (j + 1) s2
  | .inr r => .inr r
termination_by n
decreasing_by omega
theorem lq_0 {σ ρ : Type} (f : Nat → σ → σ ⊕ ρ) (j : Nat) (s : σ) : lq f 0 j s = .inl s := by rw [lq, if_pos rfl]
theorem lq_l {σ ρ : Type} {f : Nat → σ → σ ⊕ ρ} {n j : Nat} {s s2 : σ} (h : f j s = .inl s2) : lq f (n + 1) j s = lq f n (j + 1) s2 := by rw [lq, if_neg (by omega), h]; rfl
theorem lq_r {σ ρ : Type} {f : Nat → σ → σ ⊕ ρ} {n j : Nat} {s : σ} {r : ρ} (h : f j s = .inr r) : lq f (n + 1) j s = .inr r := by rw [lq, if_neg (by omega), h]
theorem re_lp {σ : Type} {M : MI} (f : Nat → σ → σ) (P : Nat → σ → PS) (N : Nat) (E : σ → PS) (step : ∀ j s, j < N → Re M (P j s) (P (j + 1) (f j s))) (exit : ∀ s, Re M (P N s) (E s)) : ∀ n j s, n + j = N → Re M (P j s) (E (lp f n j s)) := by
  intro n
  induction n with
  | zero =>
    intro j s h
    obtain rfl : j = N := by omega
    rw [lp_0]; exact exit s
  | succ n ih =>
    intro j s h v m2 k
    rw [lp_s] at k
    exact step j s (by omega) v m2 (ih (j + 1) (f j s) (by omega) v m2 k)
theorem re_lq {σ ρ : Type} {M : MI} (f : Nat → σ → σ ⊕ ρ) (P : Nat → σ → PS) (N : Nat) (E : σ ⊕ ρ → PS) (step : ∀ j s, j < N → ∀ (v : OC) (m2 : PM), (∀ s2, f j s = .inl s2 → AnS M (P (j + 1) s2) v m2) → (∀ r, f j s = .inr r → AnS M (E (.inr r)) v m2) → AnS M (P j s) v m2) (exit : ∀ s, Re M (P N s) (E (.inl s))) : ∀ n j s, n + j = N → Re M (P j s) (E (lq f n j s)) := by
  intro n
  induction n with
  | zero =>
    intro j s h
    obtain rfl : j = N := by omega
    rw [lq_0]; exact exit s
  | succ n ih =>
    intro j s h v m2 k
    refine step j s (by omega) v m2 (fun s2 e => ?_) (fun r e => ?_)
    · rw [lq_l e] at k; exact ih (j + 1) s2 (by omega) v m2 k
    · rw [lq_r e] at k; exact k
/-- a round that may answer: V, W of the whole -/
theorem an_lq {σ ρ : Type} {M : MI} (f : Nat → σ → σ ⊕ ρ) (P : Nat → σ → PS) (N : Nat) (V : σ ⊕ ρ → OC) (X : σ ⊕ ρ → PM) (step : ∀ j s, j < N → ∀ (v : OC) (m2 : PM), (∀ s2, f j s = .inl s2 → AnS M (P (j + 1) s2) v m2) → (∀ r, f j s = .inr r → v = V (.inr r) ∧ m2 = X (.inr r)) → AnS M (P j s) v m2) (exit : ∀ s, AnS M (P N s) (V (.inl s)) (X (.inl s))) : ∀ n j s, n + j = N → AnS M (P j s) (V (lq f n j s)) (X (lq f n j s)) := by
  intro n
  induction n with
  | zero =>
    intro j s h
    obtain rfl : j = N := by omega
    rw [lq_0]; exact exit s
  | succ n ih =>
    intro j s h
    refine step j s (by omega) _ _ (fun s2 e => ?_) (fun r e => ?_)
    · rw [lq_l e]; exact ih (j + 1) s2 (by omega)
    · rw [lq_r e]; exact ⟨rfl, rfl⟩
theorem bnd_lt {B : Int32} {j : Nat} (h : j < B.toNatClampNeg) : ¬ B ≤ nI j := by
  have h1 : B.toNatClampNeg = B.toInt.toNat := rfl
  have h2 : B.toInt < 2 ^ 31 := Int32.toInt_lt B
  have hj : j < 2 ^ 31 := by omega
  rw [Int32.le_iff_toInt_le, nI_toInt hj]
  omega
theorem bnd_ge {B : Int32} {j : Nat} (h : j = B.toNatClampNeg) : B ≤ nI j := by
  have h1 : B.toNatClampNeg = B.toInt.toNat := rfl
  have h2 : B.toInt < 2 ^ 31 := Int32.toInt_lt B
  have hj : j < 2 ^ 31 := by omega
  rw [Int32.le_iff_toInt_le, nI_toInt hj]
  omega
def lqv {σ : Type} (x : σ ⊕ σ) : σ := match x with
  | .inl s => s
  | .inr s => s
def lqr {σ ρ : Type} (g : σ → ρ) (x : σ ⊕ ρ) : ρ := match x with
  | .inl s => g s
  | .inr r => r
/-- a switch's target -/
def swt (x : Int32) (td : Nat) : List Nat → Nat → Nat
  | [], _ => td
  | t :: r, j => if x = nI j then t else swt x td r (j + 1)
theorem swt_out {x : Int32} {td : Nat} : ∀ {ts : List Nat} {j : Nat}, (∀ i, i < ts.length → ¬ x = nI (j + i)) → swt x td ts j = td
  | [], _, _ => rfl
  | t :: r, j, h => by
    show (if x = nI j then t else swt x td r (j + 1)) = td
    rw [if_neg (show ¬ x = nI j from h 0 (by simp))]
    exact swt_out (fun i hi => by rw [Nat.add_assoc, Nat.add_comm 1 i]; exact h (i + 1) (by simp; omega))
theorem swt_in {x : Int32} {td t : Nat} : ∀ {ts : List Nat} {j i : Nat}, ts[i]? = some t → x = nI (j + i) → j + ts.length < 2 ^ 31 → swt x td ts j = t
  | [], _, i, h, _, _ => by simp at h
  | a :: r, j, 0, h, hx, _ => by
    show (if x = nI j then a else swt x td r (j + 1)) = t
    rw [if_pos (show x = nI j from hx)]
    cases h; rfl
  | a :: r, j, i + 1, h, hx, hb => by
    have hl : i < r.length := (List.getElem?_eq_some_iff.mp (show r[i]? = some t from h)).1
    have hb2 : j + (r.length + 1) < 2 ^ 31 := hb
    show (if x = nI j then a else swt x td r (j + 1)) = t
    rw [if_neg (by rw [hx, nI_eq (by omega) (by omega)]; omega)]
    exact swt_in (i := i) h (by rw [hx]; congr 1; omega) (by omega)
theorem an_tsw {M : MI} {pc : Nat} {L : List (Option PV)} {st : List PV} {m m2 : PM} {v : OC} {x : Int32} {d hi : Int} {os : Array Int} {len : Nat} (ts : List Nat) (td : Nat) (h : asc (mT M) pc = some (.tableswitch d 0 hi os, len)) (hd : bt pc d = some td) (ho : os.toList.map (bt pc) = ts.map some) (hh : hi + 1 = (ts.length : Int) ∧ ts.length < 2 ^ 31) (k : An M (swt x td ts 0) L st m v m2) : An M pc L (vI x :: st) m v m2 := by
  refine an_b 1 (pc2 := swt x td ts 0) (L2 := L) (st2 := st) (m1 := m) ?_ k
  have e : sm_one M pc L (vI x :: st) m = some (swt x td ts 0, L, st, m) := by
    unfold sm_one
    rw [h]
    show sm_ins _ _ _ _ _ _ _ = _
    have e2 : sm_d (.tableswitch d 0 hi os) len pc L (vI x :: st) m = some (swt x td ts 0, L, st, m) := by
      unfold sm_d
      dsimp only
      by_cases hc : x.toInt < 0 ∨ hi < x.toInt
      · rw [if_pos hc, hd]
        dsimp only
        rw [swt_out]
        intro i hil q
        rw [q, Nat.zero_add, nI_toInt (by omega)] at hc
        omega
      · rw [if_neg hc]
        have hlt : (x.toInt - 0).toNat < ts.length := by omega
        have hsz : os.size = ts.length := by
          have := congrArg List.length ho
          rw [List.length_map, List.length_map, Array.length_toList] at this
          exact this
        have h1 : (os.toList.map (bt pc))[(x.toInt - 0).toNat]? = (ts.map some)[(x.toInt - 0).toNat]? := by rw [ho]
        rw [List.getElem?_map, List.getElem?_map] at h1
        obtain ⟨t, ht⟩ : ∃ t, ts[(x.toInt - 0).toNat]? = some t := ⟨_, List.getElem?_eq_getElem hlt⟩
        rw [ht] at h1
        obtain ⟨o, hoo⟩ : ∃ o, os.toList[(x.toInt - 0).toNat]? = some o := ⟨_, List.getElem?_eq_getElem (by rw [Array.length_toList]; omega)⟩
        rw [hoo] at h1
        have h2 : bt pc o = some t := Option.some.inj h1
        have h3 : os[(x.toInt - 0).toNat]? = some o := by rw [← Array.getElem?_toList]; exact hoo
        rw [h3]
        dsimp only
        rw [h2]
        dsimp only
        rw [swt_in (i := (x.toInt - 0).toNat) (j := 0) ht]
        · apply Int32.toInt_inj.mp
          rw [nI_toInt (by omega)]
          omega
        · omega
    unfold sm_ins
    have n1 : sm_a (.tableswitch d 0 hi os) len pc L (vI x :: st) m = none := by simp [sm_a]
    have n2 : sm_b (.tableswitch d 0 hi os) len pc L (vI x :: st) m = none := by simp [sm_b]
    have n3 : sm_c (.tableswitch d 0 hi os) len pc L (vI x :: st) m = none := by simp [sm_c]
    rw [n1, n2, n3, e2]
  show (match sm_one M pc L (vI x :: st) m with | some s2 => sm_many 0 M s2 | none => none) = _
  rw [e]
  rfl
end
section
/-! the methods that touch arrays: by hand -/
theorem one_iald {M : MI} {pc : Nat} {L : List (Option PV)} {r : List PV} {m m2 : PM} {t k g : Nat} {j : Int32} {v : OC} (N : Nat) (h : asc (mT M) pc = some (.iaload, 1)) (hN : ilen m t k = some N) (hj : ¬ (j < 0 ∨ N ≤ j.toNatClampNeg)) (kk : An M (pc + 1) L (vI (m.1 t k g j.toNatClampNeg) :: r) m v m2) : An M pc L (vI j :: vR t k g :: r) m v m2 := by
  refine an_b 1 (pc2 := pc + 1) (L2 := L) (st2 := vI (m.1 t k g j.toNatClampNeg) :: r) (m1 := m) ?_ kk
  have e : sm_one M pc L (vI j :: vR t k g :: r) m = some (pc + 1, L, vI (m.1 t k g j.toNatClampNeg) :: r, m) := by
    unfold sm_one
    rw [h]
    have e2 : sm_e (mO M) .iaload 1 pc L (vI j :: vR t k g :: r) m = some (pc + 1, L, vI (m.1 t k g j.toNatClampNeg) :: r, m) := by
      unfold sm_e
      simp only [hN, if_neg hj]
    exact e2
  show (match sm_one M pc L (vI j :: vR t k g :: r) m with | some s2 => sm_many 0 M s2 | none => none) = _
  rw [e]
  rfl
theorem one_iast {M : MI} {pc : Nat} {L : List (Option PV)} {r : List PV} {m m2 : PM} {t k g : Nat} {j x : Int32} {v : OC} (N : Nat) (h : asc (mT M) pc = some (.iastore, 1)) (hN : ilen m t k = some N) (ht : ¬ t = 10) (hj : ¬ (j < 0 ∨ N ≤ j.toNatClampNeg)) (kk : An M (pc + 1) L r (wI m t k g j.toNatClampNeg x) v m2) : An M pc L (vI x :: vI j :: vR t k g :: r) m v m2 := by
  refine an_b 1 (pc2 := pc + 1) (L2 := L) (st2 := r) (m1 := wI m t k g j.toNatClampNeg x) ?_ kk
  have e : sm_one M pc L (vI x :: vI j :: vR t k g :: r) m = some (pc + 1, L, r, wI m t k g j.toNatClampNeg x) := by
    unfold sm_one
    rw [h]
    have e2 : sm_e (mO M) .iastore 1 pc L (vI x :: vI j :: vR t k g :: r) m = some (pc + 1, L, r, wI m t k g j.toNatClampNeg x) := by
      unfold sm_e
      simp only [hN, if_neg ht, if_neg hj]
    exact e2
  show (match sm_one M pc L (vI x :: vI j :: vR t k g :: r) m with | some s2 => sm_many 0 M s2 | none => none) = _
  rw [e]
  rfl
theorem nlen_lt (k : Nat) : nlen k < 2 ^ 31 := by unfold nlen; split <;> decide
theorem in_of {i : Int32} {k : Nat} (h1 : ¬ i < 0) (h2 : ¬ nI (nlen k) ≤ i) : ¬ (i < 0 ∨ nlen k ≤ i.toNatClampNeg) := by
  rintro (q | q)
  · exact h1 q
  · apply h2
    obtain ⟨j, hj, rfl⟩ := nI_of h1
    rw [nI_clamp hj] at q
    exact nI_le q hj
/-- Numbers.at -/
def v_X1_at (m : PM) (k g : Nat) (i : Int32) : Int32 := if i < 0 then 0 else if nI (nlen k) ≤ i then 0 else m.1 2 k g i.toNatClampNeg
theorem r_X1_at (m : PM) (k g : Nat) (i : Int32) : Rn MX1_at [vR 1 k g, vI i] m (some (vI (v_X1_at m k g i))) m := by
  refine rn_of [some (vR 1 k g), some (vI i)] rfl ?_
  unfold v_X1_at
  refine an_b 2 (pc2 := if i < 0 then 22 else 4) (L2 := [some (vR 1 k g), some (vI i)]) (st2 := []) (m1 := m) rfl ?_
  refine an_ifi (fun h => ?_) (fun h => ?_)
  · refine an_b 1 (pc2 := 23) (L2 := [some (vR 1 k g), some (vI i)]) (st2 := [vI 0]) (m1 := m) rfl ?_
    exact an_ret rfl rfl rfl rfl rfl
  · refine an_b 5 (pc2 := if nI (nlen k) ≤ i then 22 else 13) (L2 := [some (vR 1 k g), some (vI i)]) (st2 := []) (m1 := m) rfl ?_
    refine an_ifi (fun h2 => ?_) (fun h2 => ?_)
    · refine an_b 1 (pc2 := 23) (L2 := [some (vR 1 k g), some (vI i)]) (st2 := [vI 0]) (m1 := m) rfl ?_
      exact an_ret rfl rfl rfl rfl rfl
    · refine an_b 3 (pc2 := 18) (L2 := [some (vR 1 k g), some (vI i)]) (st2 := [vI i, vR 2 k g]) (m1 := m) rfl ?_
      refine one_iald (nlen k) rfl rfl (in_of h h2) ?_
      refine an_b 1 (pc2 := 23) (L2 := [some (vR 1 k g), some (vI i)]) (st2 := [vI (m.1 2 k g i.toNatClampNeg)]) (m1 := m) rfl ?_
      exact an_ret rfl rfl rfl rfl rfl
/-- Numbers.put -/
def w_X1_put (m : PM) (k g : Nat) (i x : Int32) : PM := if i < 0 then m else if nI (nlen k) ≤ i then m else wI m 2 k g i.toNatClampNeg x
theorem r_X1_put (m : PM) (k g : Nat) (i x : Int32) : Rn MX1_put [vR 1 k g, vI i, vI x] m none (w_X1_put m k g i x) := by
  refine rn_of [some (vR 1 k g), some (vI i), some (vI x)] rfl ?_
  unfold w_X1_put
  refine an_b 2 (pc2 := if i < 0 then 20 else 4) (L2 := [some (vR 1 k g), some (vI i), some (vI x)]) (st2 := []) (m1 := m) rfl ?_
  refine an_ifm (fun h => ?_) (fun h => ?_)
  · exact an_ret rfl rfl rfl rfl rfl
  · refine an_b 5 (pc2 := if nI (nlen k) ≤ i then 20 else 13) (L2 := [some (vR 1 k g), some (vI i), some (vI x)]) (st2 := []) (m1 := m) rfl ?_
    refine an_ifm (fun h2 => ?_) (fun h2 => ?_)
    · exact an_ret rfl rfl rfl rfl rfl
    · refine an_b 4 (pc2 := 19) (L2 := [some (vR 1 k g), some (vI i), some (vI x)]) (st2 := [vI x, vI i, vR 2 k g]) (m1 := m) rfl ?_
      refine one_iast (nlen k) rfl rfl (by decide) (in_of h h2) ?_
      exact an_ret rfl rfl rfl rfl rfl
/-- Numbers.sum -/
def v_X1_sum (m : PM) (k g : Nat) : Int32 := lp (fun j s => s + m.1 2 k g j) (nlen k) 0 0
theorem r_X1_sum (m : PM) (k g : Nat) : Rn MX1_sum [vR 1 k g] m (some (vI (v_X1_sum m k g))) m := by
  refine rn_of [some (vR 1 k g), none, none] rfl ?_
  unfold v_X1_sum
  refine an_b 4 (pc2 := 4) (L2 := [some (vR 1 k g), some (vI 0), some (vI (nI 0))]) (st2 := []) (m1 := m) rfl ?_
  refine re_lp (σ := Int32) (fun j s => s + m.1 2 k g j) (fun j s => (4, [some (vR 1 k g), some (vI s), some (vI (nI j))], [], m)) (nlen k) (fun s => (28, [some (vR 1 k g), some (vI s), none], [], m)) (fun j s hj v9 m9 K => ?_) (fun s v9 m9 K => ?_) (nlen k) 0 0 (Nat.add_zero _) _ _ ?_
  · show An MX1_sum 4 [some (vR 1 k g), some (vI s), some (vI (nI j))] [] m v9 m9
    refine an_b 5 (pc2 := if nI (nlen k) ≤ nI j then 28 else 13) (L2 := [some (vR 1 k g), some (vI s), some (vI (nI j))]) (st2 := []) (m1 := m) rfl ?_
    have hb := nlen_lt k
    refine an_f (nI_ge hj hb) ?_
    refine an_b 4 (pc2 := 19) (L2 := [some (vR 1 k g), some (vI s), some (vI (nI j))]) (st2 := [vI (nI j), vR 2 k g, vI s]) (m1 := m) rfl ?_
    refine one_iald (nlen k) rfl rfl (nI_in hj hb) ?_
    rw [nI_clamp (by omega)]
    refine an_b 4 (pc2 := 4) (L2 := [some (vR 1 k g), some (vI (s + m.1 2 k g j)), some (vI (nI j + 1))]) (st2 := []) (m1 := m) rfl ?_
    refine an_cL (K := [some (vR 1 k g), some (vI (s + m.1 2 k g j)), some (vI (nI (j + 1)))]) (by simp only [nI_1]) ?_
    exact K
  · show An MX1_sum 4 [some (vR 1 k g), some (vI s), some (vI (nI (nlen k)))] [] m v9 m9
    refine an_b 5 (pc2 := if nI (nlen k) ≤ nI (nlen k) then 28 else 13) (L2 := [some (vR 1 k g), some (vI s), some (vI (nI (nlen k)))]) (st2 := []) (m1 := m) rfl ?_
    refine an_t (nI_le (Nat.le_refl _) (nlen_lt k)) ?_
    refine an_weak (L := [some (vR 1 k g), some (vI s), none]) ⟨rfl, rfl, trivial⟩ ?_
    exact K
  show An MX1_sum 28 [some (vR 1 k g), some (vI (lp (fun j s => s + m.1 2 k g j) (nlen k) 0 0)), none] [] m _ _
  refine an_b 1 (pc2 := 29) (L2 := [some (vR 1 k g), some (vI (lp (fun j s => s + m.1 2 k g j) (nlen k) 0 0)), none]) (st2 := [vI (lp (fun j s => s + m.1 2 k g j) (nlen k) 0 0)]) (m1 := m) rfl ?_
  exact an_ret rfl rfl rfl rfl rfl
/-- Numbers.copyFrom -/
def w_X1_copyFrom (m : PM) (k g k1 g1 : Nat) : PM := if ¬ nI (nlen k1) = nI (nlen k) then m else wC m k1 g1 (nlen k1) k g
theorem r_X1_copyFrom (m : PM) (k g k1 g1 : Nat) : Rn MX1_copyFrom [vR 1 k g, vR 1 k1 g1] m none (w_X1_copyFrom m k g k1 g1) := by
  refine rn_of [some (vR 1 k g), some (vR 1 k1 g1)] rfl ?_
  unfold w_X1_copyFrom
  refine an_b 9 (pc2 := if ¬ nI (nlen k1) = nI (nlen k) then 35 else 17) (L2 := [some (vR 1 k g), some (vR 1 k1 g1)]) (st2 := []) (m1 := m) rfl ?_
  refine an_ifm (fun h => ?_) (fun h => ?_)
  · exact an_ret rfl rfl rfl rfl rfl
  · have h : nI (nlen k1) = nI (nlen k) := Decidable.not_not.mp h
    have h2 : nlen k1 = nlen k := (nI_eq (nlen_lt k1) (nlen_lt k)).mp h
    refine an_b 9 (pc2 := 32) (L2 := [some (vR 1 k g), some (vR 1 k1 g1)]) (st2 := [vI (nI (nlen k)), vI 0, vR 2 k g, vI 0, vR 2 k1 g1]) (m1 := m) rfl ?_
    refine an_b 1 (pc2 := 35) (L2 := [some (vR 1 k g), some (vR 1 k1 g1)]) (st2 := []) (m1 := wC m k1 g1 (nlen k1) k g) ?_ ?_
    · have e : sm_one MX1_copyFrom 32 [some (vR 1 k g), some (vR 1 k1 g1)] [vI (nI (nlen k)), vI 0, vR 2 k g, vI 0, vR 2 k1 g1] m = (if (0 : Int32) = 0 ∧ (0 : Int32) = 0 ∧ nI (nlen k) = nI (nlen k1) ∧ nlen k = nlen k1 then some (35, [some (vR 1 k g), some (vR 1 k1 g1)], [], wC m k1 g1 (nlen k1) k g) else none) := rfl
      show (match sm_one MX1_copyFrom 32 [some (vR 1 k g), some (vR 1 k1 g1)] [vI (nI (nlen k)), vI 0, vR 2 k g, vI 0, vR 2 k1 g1] m with | some s2 => sm_many 0 MX1_copyFrom s2 | none => none) = _
      rw [e, if_pos ⟨rfl, rfl, h.symm, h2.symm⟩]
      rfl
    · exact an_ret rfl rfl rfl rfl rfl
end
section
def w_X2_copyFrom (m : PM) (g : Nat) (g1 : Nat) : PM := (wI (w_X1_copyFrom (w_X1_copyFrom (w_X1_copyFrom (w_X1_copyFrom (w_X1_copyFrom (w_X1_copyFrom (w_X1_copyFrom (w_X1_copyFrom (w_X1_copyFrom (w_X1_copyFrom (w_X1_copyFrom m 0 g 0 g1) 1 g 1 g1) 2 g 2 g1) 3 g 3 g1) 4 g 4 g1) 5 g 5 g1) 6 g 6 g1) 7 g 7 g1) 8 g 8 g1) 9 g 9 g1) 10 g 10 g1) 0 0 g 11 ((w_X1_copyFrom (w_X1_copyFrom (w_X1_copyFrom (w_X1_copyFrom (w_X1_copyFrom (w_X1_copyFrom (w_X1_copyFrom (w_X1_copyFrom (w_X1_copyFrom (w_X1_copyFrom (w_X1_copyFrom m 0 g 0 g1) 1 g 1 g1) 2 g 2 g1) 3 g 3 g1) 4 g 4 g1) 5 g 5 g1) 6 g 6 g1) 7 g 7 g1) 8 g 8 g1) 9 g 9 g1) 10 g 10 g1).1 0 0 g1 11))
set_option maxRecDepth 100000 in
theorem r_X2_copyFrom (m : PM) (g : Nat) (g1 : Nat) : Rn MX2_copyFrom [vR 0 0 g, vR 0 0 g1] m none (w_X2_copyFrom m g g1) := by
  refine rn_of [some (vR 0 0 g), some (vR 0 0 g1)] rfl ?_
  unfold w_X2_copyFrom
  refine an_b 6 (pc2 := 13) (L2 := [some (vR 0 0 g), some (vR 0 0 g1)]) (st2 := [vR 1 0 g1, vR 1 0 g]) (m1 := m) rfl ?_
  refine an_call (r_X1_copyFrom m 0 g 0 g1) rfl rfl rfl rfl ?_
  refine an_b 4 (pc2 := 24) (L2 := [some (vR 0 0 g), some (vR 0 0 g1)]) (st2 := [vR 1 1 g1, vR 1 1 g]) (m1 := (w_X1_copyFrom m 0 g 0 g1)) rfl ?_
  refine an_call (r_X1_copyFrom (w_X1_copyFrom m 0 g 0 g1) 1 g 1 g1) rfl rfl rfl rfl ?_
  refine an_b 4 (pc2 := 35) (L2 := [some (vR 0 0 g), some (vR 0 0 g1)]) (st2 := [vR 1 2 g1, vR 1 2 g]) (m1 := (w_X1_copyFrom (w_X1_copyFrom m 0 g 0 g1) 1 g 1 g1)) rfl ?_
  refine an_call (r_X1_copyFrom (w_X1_copyFrom (w_X1_copyFrom m 0 g 0 g1) 1 g 1 g1) 2 g 2 g1) rfl rfl rfl rfl ?_
  refine an_b 4 (pc2 := 46) (L2 := [some (vR 0 0 g), some (vR 0 0 g1)]) (st2 := [vR 1 3 g1, vR 1 3 g]) (m1 := (w_X1_copyFrom (w_X1_copyFrom (w_X1_copyFrom m 0 g 0 g1) 1 g 1 g1) 2 g 2 g1)) rfl ?_
  refine an_call (r_X1_copyFrom (w_X1_copyFrom (w_X1_copyFrom (w_X1_copyFrom m 0 g 0 g1) 1 g 1 g1) 2 g 2 g1) 3 g 3 g1) rfl rfl rfl rfl ?_
  refine an_b 4 (pc2 := 57) (L2 := [some (vR 0 0 g), some (vR 0 0 g1)]) (st2 := [vR 1 4 g1, vR 1 4 g]) (m1 := (w_X1_copyFrom (w_X1_copyFrom (w_X1_copyFrom (w_X1_copyFrom m 0 g 0 g1) 1 g 1 g1) 2 g 2 g1) 3 g 3 g1)) rfl ?_
  refine an_call (r_X1_copyFrom (w_X1_copyFrom (w_X1_copyFrom (w_X1_copyFrom (w_X1_copyFrom m 0 g 0 g1) 1 g 1 g1) 2 g 2 g1) 3 g 3 g1) 4 g 4 g1) rfl rfl rfl rfl ?_
  refine an_b 4 (pc2 := 68) (L2 := [some (vR 0 0 g), some (vR 0 0 g1)]) (st2 := [vR 1 5 g1, vR 1 5 g]) (m1 := (w_X1_copyFrom (w_X1_copyFrom (w_X1_copyFrom (w_X1_copyFrom (w_X1_copyFrom m 0 g 0 g1) 1 g 1 g1) 2 g 2 g1) 3 g 3 g1) 4 g 4 g1)) rfl ?_
  refine an_call (r_X1_copyFrom (w_X1_copyFrom (w_X1_copyFrom (w_X1_copyFrom (w_X1_copyFrom (w_X1_copyFrom m 0 g 0 g1) 1 g 1 g1) 2 g 2 g1) 3 g 3 g1) 4 g 4 g1) 5 g 5 g1) rfl rfl rfl rfl ?_
  refine an_b 4 (pc2 := 79) (L2 := [some (vR 0 0 g), some (vR 0 0 g1)]) (st2 := [vR 1 6 g1, vR 1 6 g]) (m1 := (w_X1_copyFrom (w_X1_copyFrom (w_X1_copyFrom (w_X1_copyFrom (w_X1_copyFrom (w_X1_copyFrom m 0 g 0 g1) 1 g 1 g1) 2 g 2 g1) 3 g 3 g1) 4 g 4 g1) 5 g 5 g1)) rfl ?_
  refine an_call (r_X1_copyFrom (w_X1_copyFrom (w_X1_copyFrom (w_X1_copyFrom (w_X1_copyFrom (w_X1_copyFrom (w_X1_copyFrom m 0 g 0 g1) 1 g 1 g1) 2 g 2 g1) 3 g 3 g1) 4 g 4 g1) 5 g 5 g1) 6 g 6 g1) rfl rfl rfl rfl ?_
  refine an_b 4 (pc2 := 90) (L2 := [some (vR 0 0 g), some (vR 0 0 g1)]) (st2 := [vR 1 7 g1, vR 1 7 g]) (m1 := (w_X1_copyFrom (w_X1_copyFrom (w_X1_copyFrom (w_X1_copyFrom (w_X1_copyFrom (w_X1_copyFrom (w_X1_copyFrom m 0 g 0 g1) 1 g 1 g1) 2 g 2 g1) 3 g 3 g1) 4 g 4 g1) 5 g 5 g1) 6 g 6 g1)) rfl ?_
  refine an_call (r_X1_copyFrom (w_X1_copyFrom (w_X1_copyFrom (w_X1_copyFrom (w_X1_copyFrom (w_X1_copyFrom (w_X1_copyFrom (w_X1_copyFrom m 0 g 0 g1) 1 g 1 g1) 2 g 2 g1) 3 g 3 g1) 4 g 4 g1) 5 g 5 g1) 6 g 6 g1) 7 g 7 g1) rfl rfl rfl rfl ?_
  refine an_b 4 (pc2 := 101) (L2 := [some (vR 0 0 g), some (vR 0 0 g1)]) (st2 := [vR 1 8 g1, vR 1 8 g]) (m1 := (w_X1_copyFrom (w_X1_copyFrom (w_X1_copyFrom (w_X1_copyFrom (w_X1_copyFrom (w_X1_copyFrom (w_X1_copyFrom (w_X1_copyFrom m 0 g 0 g1) 1 g 1 g1) 2 g 2 g1) 3 g 3 g1) 4 g 4 g1) 5 g 5 g1) 6 g 6 g1) 7 g 7 g1)) rfl ?_
  refine an_call (r_X1_copyFrom (w_X1_copyFrom (w_X1_copyFrom (w_X1_copyFrom (w_X1_copyFrom (w_X1_copyFrom (w_X1_copyFrom (w_X1_copyFrom (w_X1_copyFrom m 0 g 0 g1) 1 g 1 g1) 2 g 2 g1) 3 g 3 g1) 4 g 4 g1) 5 g 5 g1) 6 g 6 g1) 7 g 7 g1) 8 g 8 g1) rfl rfl rfl rfl ?_
  refine an_b 4 (pc2 := 112) (L2 := [some (vR 0 0 g), some (vR 0 0 g1)]) (st2 := [vR 1 9 g1, vR 1 9 g]) (m1 := (w_X1_copyFrom (w_X1_copyFrom (w_X1_copyFrom (w_X1_copyFrom (w_X1_copyFrom (w_X1_copyFrom (w_X1_copyFrom (w_X1_copyFrom (w_X1_copyFrom m 0 g 0 g1) 1 g 1 g1) 2 g 2 g1) 3 g 3 g1) 4 g 4 g1) 5 g 5 g1) 6 g 6 g1) 7 g 7 g1) 8 g 8 g1)) rfl ?_
  refine an_call (r_X1_copyFrom (w_X1_copyFrom (w_X1_copyFrom (w_X1_copyFrom (w_X1_copyFrom (w_X1_copyFrom (w_X1_copyFrom (w_X1_copyFrom (w_X1_copyFrom (w_X1_copyFrom m 0 g 0 g1) 1 g 1 g1) 2 g 2 g1) 3 g 3 g1) 4 g 4 g1) 5 g 5 g1) 6 g 6 g1) 7 g 7 g1) 8 g 8 g1) 9 g 9 g1) rfl rfl rfl rfl ?_
  refine an_b 4 (pc2 := 123) (L2 := [some (vR 0 0 g), some (vR 0 0 g1)]) (st2 := [vR 1 10 g1, vR 1 10 g]) (m1 := (w_X1_copyFrom (w_X1_copyFrom (w_X1_copyFrom (w_X1_copyFrom (w_X1_copyFrom (w_X1_copyFrom (w_X1_copyFrom (w_X1_copyFrom (w_X1_copyFrom (w_X1_copyFrom m 0 g 0 g1) 1 g 1 g1) 2 g 2 g1) 3 g 3 g1) 4 g 4 g1) 5 g 5 g1) 6 g 6 g1) 7 g 7 g1) 8 g 8 g1) 9 g 9 g1)) rfl ?_
  refine an_call (r_X1_copyFrom (w_X1_copyFrom (w_X1_copyFrom (w_X1_copyFrom (w_X1_copyFrom (w_X1_copyFrom (w_X1_copyFrom (w_X1_copyFrom (w_X1_copyFrom (w_X1_copyFrom (w_X1_copyFrom m 0 g 0 g1) 1 g 1 g1) 2 g 2 g1) 3 g 3 g1) 4 g 4 g1) 5 g 5 g1) 6 g 6 g1) 7 g 7 g1) 8 g 8 g1) 9 g 9 g1) 10 g 10 g1) rfl rfl rfl rfl ?_
  refine an_b 4 (pc2 := 134) (L2 := [some (vR 0 0 g), some (vR 0 0 g1)]) (st2 := []) (m1 := (wI (w_X1_copyFrom (w_X1_copyFrom (w_X1_copyFrom (w_X1_copyFrom (w_X1_copyFrom (w_X1_copyFrom (w_X1_copyFrom (w_X1_copyFrom (w_X1_copyFrom (w_X1_copyFrom (w_X1_copyFrom m 0 g 0 g1) 1 g 1 g1) 2 g 2 g1) 3 g 3 g1) 4 g 4 g1) 5 g 5 g1) 6 g 6 g1) 7 g 7 g1) 8 g 8 g1) 9 g 9 g1) 10 g 10 g1) 0 0 g 11 ((w_X1_copyFrom (w_X1_copyFrom (w_X1_copyFrom (w_X1_copyFrom (w_X1_copyFrom (w_X1_copyFrom (w_X1_copyFrom (w_X1_copyFrom (w_X1_copyFrom (w_X1_copyFrom (w_X1_copyFrom m 0 g 0 g1) 1 g 1 g1) 2 g 2 g1) 3 g 3 g1) 4 g 4 g1) 5 g 5 g1) 6 g 6 g1) 7 g 7 g1) 8 g 8 g1) 9 g 9 g1) 10 g 10 g1).1 0 0 g1 11))) rfl ?_
  exact an_ret rfl rfl rfl rfl rfl
def w_X1_raise (m : PM) (k : Nat) (g : Nat) (a1 : Int32) : PM := (w_X1_put m k g a1 ((v_X1_at m k g a1) + (1 : Int32)))
set_option maxRecDepth 100000 in
theorem r_X1_raise (m : PM) (k : Nat) (g : Nat) (a1 : Int32) : Rn MX1_raise [vR 1 k g, vI a1] m none (w_X1_raise m k g a1) := by
  refine rn_of [some (vR 1 k g), some (vI a1)] rfl ?_
  unfold w_X1_raise
  refine an_b 4 (pc2 := 4) (L2 := [some (vR 1 k g), some (vI a1)]) (st2 := [vI a1, vR 1 k g, vI a1, vR 1 k g]) (m1 := m) rfl ?_
  refine an_call (r_X1_at m k g a1) rfl rfl rfl rfl ?_
  refine an_b 2 (pc2 := 9) (L2 := [some (vR 1 k g), some (vI a1)]) (st2 := [vI ((v_X1_at m k g a1) + (1 : Int32)), vI a1, vR 1 k g]) (m1 := m) rfl ?_
  refine an_call (r_X1_put m k g a1 ((v_X1_at m k g a1) + (1 : Int32))) rfl rfl rfl rfl ?_
  exact an_ret rfl rfl rfl rfl rfl
def v_X2_isWaiting (m : PM) (g : Nat) (a1 : Int32) : Int32 := (if (v_X1_at m 1 g a1) = (-1 : Int32) then (0 : Int32) else (1 : Int32))
set_option maxRecDepth 100000 in
theorem r_X2_isWaiting (m : PM) (g : Nat) (a1 : Int32) : Rn MX2_isWaiting [vR 0 0 g, vI a1] m (some (vI (v_X2_isWaiting m g a1))) m := by
  refine rn_of [some (vR 0 0 g), some (vI a1)] rfl ?_
  unfold v_X2_isWaiting
  refine an_b 3 (pc2 := 5) (L2 := [some (vR 0 0 g), some (vI a1)]) (st2 := [vI a1, vR 1 1 g]) (m1 := m) rfl ?_
  refine an_call (r_X1_at m 1 g a1) rfl rfl rfl rfl ?_
  refine an_b 2 (pc2 := if (v_X1_at m 1 g a1) = (-1 : Int32) then 16 else 12) (L2 := [some (vR 0 0 g), some (vI a1)]) (st2 := []) (m1 := m) rfl ?_
  refine an_ifi (c := (v_X1_at m 1 g a1) = (-1 : Int32)) (fun h1 => ?_) (fun h1 => ?_)
  · refine an_b 1 (pc2 := 17) (L2 := [some (vR 0 0 g), some (vI a1)]) (st2 := [vI (0 : Int32)]) (m1 := m) rfl ?_
    exact an_ret rfl rfl rfl rfl rfl
  · refine an_b 2 (pc2 := 17) (L2 := [some (vR 0 0 g), some (vI a1)]) (st2 := [vI (1 : Int32)]) (m1 := m) rfl ?_
    exact an_ret rfl rfl rfl rfl rfl
def b_X2_queueLength_1 (m : PM) (g : Nat) (a1 : Int32)  (j1 : Nat) (s1 : Int32) : Int32 := (if ¬ (v_X1_at m 1 g (nI j1)) = a1 then s1 else (s1 + (1 : Int32)))
def v_X2_queueLength (m : PM) (g : Nat) (a1 : Int32) : Int32 := (lp (b_X2_queueLength_1 m g a1) 8 0 (0 : Int32))
set_option maxRecDepth 100000 in
theorem r_X2_queueLength (m : PM) (g : Nat) (a1 : Int32) : Rn MX2_queueLength [vR 0 0 g, vI a1] m (some (vI (v_X2_queueLength m g a1))) m := by
  refine rn_of [some (vR 0 0 g), some (vI a1), none, none] rfl ?_
  unfold v_X2_queueLength
  refine an_b 4 (pc2 := 4) (L2 := [some (vR 0 0 g), some (vI a1), some (vI (0 : Int32)), some (vI (0 : Int32))]) (st2 := []) (m1 := m) rfl ?_
  refine re_lp (σ := Int32) (b_X2_queueLength_1 m g a1) (fun j1 s1 => (4, [some (vR 0 0 g), some (vI a1), some (vI s1), some (vI (nI j1))], [], m)) 8 (fun s1 => (31, [some (vR 0 0 g), some (vI a1), some (vI s1), none], [], m)) (fun j1 s1 hj1 v9 m9 K1 => ?_) (fun s1 v9 m9 K1 => ?_) 8 0 (0 : Int32) (Nat.add_zero _) _ _ ?_
  · show An MX2_queueLength 4 [some (vR 0 0 g), some (vI a1), some (vI s1), some (vI (nI j1))] [] m v9 m9
    refine an_b 3 (pc2 := if (8 : Int32) ≤ (nI j1) then 31 else 10) (L2 := [some (vR 0 0 g), some (vI a1), some (vI s1), some (vI (nI j1))]) (st2 := []) (m1 := m) rfl ?_
    refine an_f (nI_ge (a := j1) (b := 8) (by omega) (by omega)) ?_
    refine an_b 3 (pc2 := 15) (L2 := [some (vR 0 0 g), some (vI a1), some (vI s1), some (vI (nI j1))]) (st2 := [vI (nI j1), vR 1 1 g]) (m1 := m) rfl ?_
    refine an_call (r_X1_at m 1 g (nI j1)) rfl rfl rfl rfl ?_
    refine an_b 2 (pc2 := if ¬ (v_X1_at m 1 g (nI j1)) = a1 then 25 else 22) (L2 := [some (vR 0 0 g), some (vI a1), some (vI s1), some (vI (nI j1))]) (st2 := []) (m1 := m) rfl ?_
    refine re_if1 (c := ¬ (v_X1_at m 1 g (nI j1)) = a1) (a := s1) (b := s1 + (1 : Int32)) (fun x => (25, [some (vR 0 0 g), some (vI a1), some (vI x), some (vI (nI j1))], [], m)) (fun h1 v9 m9 K2 => ?_) (fun h1 v9 m9 K2 => ?_) _ _ ?_
    · exact K2
    · refine an_b 1 (pc2 := 25) (L2 := [some (vR 0 0 g), some (vI a1), some (vI (s1 + (1 : Int32))), some (vI (nI j1))]) (st2 := []) (m1 := m) rfl ?_
      exact K2
    refine an_b 2 (pc2 := 4) (L2 := [some (vR 0 0 g), some (vI a1), some (vI (if ¬ (v_X1_at m 1 g (nI j1)) = a1 then s1 else (s1 + (1 : Int32)))), some (vI ((nI j1) + (1 : Int32)))]) (st2 := []) (m1 := m) rfl ?_
    refine an_cL (K := [some (vR 0 0 g), some (vI a1), some (vI (if ¬ (v_X1_at m 1 g (nI j1)) = a1 then s1 else (s1 + (1 : Int32)))), some (vI (nI (j1 + 1)))]) (by simp only [nI_1]) ?_
    exact K1
  · show An MX2_queueLength 4 [some (vR 0 0 g), some (vI a1), some (vI s1), some (vI (nI 8))] [] m v9 m9
    refine an_b 3 (pc2 := if (8 : Int32) ≤ (nI 8) then 31 else 10) (L2 := [some (vR 0 0 g), some (vI a1), some (vI s1), some (vI (nI 8))]) (st2 := []) (m1 := m) rfl ?_
    refine an_t (nI_le (a := 8) (b := 8) (by omega) (by omega)) ?_
    refine an_weak (L := [some (vR 0 0 g), some (vI a1), some (vI s1), none]) (⟨rfl, rfl, rfl, trivial⟩) ?_
    exact K1
  show An MX2_queueLength 31 [some (vR 0 0 g), some (vI a1), some (vI (lp (b_X2_queueLength_1 m g a1) 8 0 (0 : Int32))), none] [] m _ _
  refine an_b 1 (pc2 := 32) (L2 := [some (vR 0 0 g), some (vI a1), some (vI (lp (b_X2_queueLength_1 m g a1) 8 0 (0 : Int32))), none]) (st2 := [vI (lp (b_X2_queueLength_1 m g a1) 8 0 (0 : Int32))]) (m1 := m) rfl ?_
  exact an_ret rfl rfl rfl rfl rfl
def b_X2_handAt_1 (m : PM) (g : Nat) (a1 : Int32) (a2 : Int32)  (j1 : Nat) (s1 : Unit) : (Unit) ⊕ (Int32) := if ¬ (v_X1_at m 1 g (nI j1)) = a1 then .inl () else if ¬ (v_X1_at m 3 g (nI j1)) = a2 then .inl () else .inr (nI j1)
def v_X2_handAt (m : PM) (g : Nat) (a1 : Int32) (a2 : Int32) : Int32 := (lqr (fun s1 : Unit => (-1 : Int32)) (lq (b_X2_handAt_1 m g a1 a2) 8 0 ()))
set_option maxRecDepth 100000 in
theorem r_X2_handAt (m : PM) (g : Nat) (a1 : Int32) (a2 : Int32) : Rn MX2_handAt [vR 0 0 g, vI a1, vI a2] m (some (vI (v_X2_handAt m g a1 a2))) m := by
  refine rn_of [some (vR 0 0 g), some (vI a1), some (vI a2), none] rfl ?_
  unfold v_X2_handAt
  refine an_b 2 (pc2 := 2) (L2 := [some (vR 0 0 g), some (vI a1), some (vI a2), some (vI (0 : Int32))]) (st2 := []) (m1 := m) rfl ?_
  refine an_lq (σ := Unit) (ρ := Int32) (b_X2_handAt_1 m g a1 a2) (fun j1 s1 => (2, [some (vR 0 0 g), some (vI a1), some (vI a2), some (vI (nI j1))], [], m)) 8 (fun x9 => .inl (some (vI (lqr (fun s1 => (-1 : Int32)) x9)))) (fun _ => m) (fun j1 s1 hj1 v9 m9 hc1 hr1 => ?_) (fun s1 => ?_) 8 0 () (Nat.add_zero _)
  · show An MX2_handAt 2 [some (vR 0 0 g), some (vI a1), some (vI a2), some (vI (nI j1))] [] m v9 m9
    refine an_b 3 (pc2 := if (8 : Int32) ≤ (nI j1) then 40 else 8) (L2 := [some (vR 0 0 g), some (vI a1), some (vI a2), some (vI (nI j1))]) (st2 := []) (m1 := m) rfl ?_
    refine an_f (nI_ge (a := j1) (b := 8) (by omega) (by omega)) ?_
    refine an_b 3 (pc2 := 13) (L2 := [some (vR 0 0 g), some (vI a1), some (vI a2), some (vI (nI j1))]) (st2 := [vI (nI j1), vR 1 1 g]) (m1 := m) rfl ?_
    refine an_call (r_X1_at m 1 g (nI j1)) rfl rfl rfl rfl ?_
    refine an_b 2 (pc2 := if ¬ (v_X1_at m 1 g (nI j1)) = a1 then 34 else 20) (L2 := [some (vR 0 0 g), some (vI a1), some (vI a2), some (vI (nI j1))]) (st2 := []) (m1 := m) rfl ?_
    refine an_if (c := ¬ (v_X1_at m 1 g (nI j1)) = a1) (fun h1 => ?_) (fun h1 => ?_)
    · refine an_b 2 (pc2 := 2) (L2 := [some (vR 0 0 g), some (vI a1), some (vI a2), some (vI ((nI j1) + (1 : Int32)))]) (st2 := []) (m1 := m) rfl ?_
      refine an_cL (K := [some (vR 0 0 g), some (vI a1), some (vI a2), some (vI (nI (j1 + 1)))]) (by simp only [nI_1]) ?_
      exact hc1 _ (by unfold b_X2_handAt_1; rw [if_pos h1])
    · refine an_b 3 (pc2 := 25) (L2 := [some (vR 0 0 g), some (vI a1), some (vI a2), some (vI (nI j1))]) (st2 := [vI (nI j1), vR 1 3 g]) (m1 := m) rfl ?_
      refine an_call (r_X1_at m 3 g (nI j1)) rfl rfl rfl rfl ?_
      refine an_b 2 (pc2 := if ¬ (v_X1_at m 3 g (nI j1)) = a2 then 34 else 32) (L2 := [some (vR 0 0 g), some (vI a1), some (vI a2), some (vI (nI j1))]) (st2 := []) (m1 := m) rfl ?_
      refine an_if (c := ¬ (v_X1_at m 3 g (nI j1)) = a2) (fun h2 => ?_) (fun h2 => ?_)
      · refine an_b 2 (pc2 := 2) (L2 := [some (vR 0 0 g), some (vI a1), some (vI a2), some (vI ((nI j1) + (1 : Int32)))]) (st2 := []) (m1 := m) rfl ?_
        refine an_cL (K := [some (vR 0 0 g), some (vI a1), some (vI a2), some (vI (nI (j1 + 1)))]) (by simp only [nI_1]) ?_
        exact hc1 _ (by unfold b_X2_handAt_1; rw [if_neg h1, if_pos h2])
      · refine an_b 1 (pc2 := 33) (L2 := [some (vR 0 0 g), some (vI a1), some (vI a2), some (vI (nI j1))]) (st2 := [vI (nI j1)]) (m1 := m) rfl ?_
        obtain ⟨rfl, rfl⟩ := hr1 _ (by unfold b_X2_handAt_1; rw [if_neg h1, if_neg h2])
        exact an_ret rfl rfl rfl rfl rfl
  · show An MX2_handAt 2 [some (vR 0 0 g), some (vI a1), some (vI a2), some (vI (nI 8))] [] m _ _
    refine an_b 3 (pc2 := if (8 : Int32) ≤ (nI 8) then 40 else 8) (L2 := [some (vR 0 0 g), some (vI a1), some (vI a2), some (vI (nI 8))]) (st2 := []) (m1 := m) rfl ?_
    refine an_t (nI_le (a := 8) (b := 8) (by omega) (by omega)) ?_
    refine an_b 1 (pc2 := 41) (L2 := [some (vR 0 0 g), some (vI a1), some (vI a2), some (vI (nI 8))]) (st2 := [vI (-1 : Int32)]) (m1 := m) rfl ?_
    exact an_ret rfl rfl rfl rfl rfl
def v_X4_cell (m : PM) (a1 : Int32) (a2 : Int32) : Int32 := ((a1 * (12 : Int32)) + a2)
set_option maxRecDepth 100000 in
theorem r_X4_cell (m : PM) (a1 : Int32) (a2 : Int32) : Rn MX4_cell [vI a1, vI a2] m (some (vI (v_X4_cell m a1 a2))) m := by
  refine rn_of [some (vI a1), some (vI a2)] rfl ?_
  unfold v_X4_cell
  refine an_b 5 (pc2 := 6) (L2 := [some (vI a1), some (vI a2)]) (st2 := [vI ((a1 * (12 : Int32)) + a2)]) (m1 := m) rfl ?_
  exact an_ret rfl rfl rfl rfl rfl
def b_X2_placeForHolder_1 (m : PM) (g : Nat) (a1 : Int32)  (j1 : Nat) (s1 : Int32) : Int32 := (if ¬ (v_X1_at m 1 g (nI j1)) = a1 then s1 else (if (v_X1_at m 0 g (v_X4_cell m (nI j1) a1)) ≤ 0 then s1 else (if s1 < ((v_X1_at m 3 g (nI j1)) + (1 : Int32)) then ((v_X1_at m 3 g (nI j1)) + (1 : Int32)) else s1)))
def v_X2_placeForHolder (m : PM) (g : Nat) (a1 : Int32) : Int32 := (lp (b_X2_placeForHolder_1 m g a1) 8 0 (0 : Int32))
set_option maxRecDepth 100000 in
theorem r_X2_placeForHolder (m : PM) (g : Nat) (a1 : Int32) : Rn MX2_placeForHolder [vR 0 0 g, vI a1] m (some (vI (v_X2_placeForHolder m g a1))) m := by
  refine rn_of [some (vR 0 0 g), some (vI a1), none, none] rfl ?_
  unfold v_X2_placeForHolder
  refine an_b 4 (pc2 := 4) (L2 := [some (vR 0 0 g), some (vI a1), some (vI (0 : Int32)), some (vI (0 : Int32))]) (st2 := []) (m1 := m) rfl ?_
  refine re_lp (σ := Int32) (b_X2_placeForHolder_1 m g a1) (fun j1 s1 => (4, [some (vR 0 0 g), some (vI a1), some (vI s1), some (vI (nI j1))], [], m)) 8 (fun s1 => (58, [some (vR 0 0 g), some (vI a1), some (vI s1), none], [], m)) (fun j1 s1 hj1 v9 m9 K1 => ?_) (fun s1 v9 m9 K1 => ?_) 8 0 (0 : Int32) (Nat.add_zero _) _ _ ?_
  · show An MX2_placeForHolder 4 [some (vR 0 0 g), some (vI a1), some (vI s1), some (vI (nI j1))] [] m v9 m9
    refine an_b 3 (pc2 := if (8 : Int32) ≤ (nI j1) then 58 else 10) (L2 := [some (vR 0 0 g), some (vI a1), some (vI s1), some (vI (nI j1))]) (st2 := []) (m1 := m) rfl ?_
    refine an_f (nI_ge (a := j1) (b := 8) (by omega) (by omega)) ?_
    refine an_b 3 (pc2 := 15) (L2 := [some (vR 0 0 g), some (vI a1), some (vI s1), some (vI (nI j1))]) (st2 := [vI (nI j1), vR 1 1 g]) (m1 := m) rfl ?_
    refine an_call (r_X1_at m 1 g (nI j1)) rfl rfl rfl rfl ?_
    refine an_b 2 (pc2 := if ¬ (v_X1_at m 1 g (nI j1)) = a1 then 52 else 22) (L2 := [some (vR 0 0 g), some (vI a1), some (vI s1), some (vI (nI j1))]) (st2 := []) (m1 := m) rfl ?_
    refine re_if1 (c := ¬ (v_X1_at m 1 g (nI j1)) = a1) (a := s1) (b := (if (v_X1_at m 0 g (v_X4_cell m (nI j1) a1)) ≤ 0 then s1 else (if s1 < ((v_X1_at m 3 g (nI j1)) + (1 : Int32)) then ((v_X1_at m 3 g (nI j1)) + (1 : Int32)) else s1))) (fun x => (52, [some (vR 0 0 g), some (vI a1), some (vI x), some (vI (nI j1))], [], m)) (fun h1 v9 m9 K4 => ?_) (fun h1 v9 m9 K4 => ?_) _ _ ?_
    · exact K4
    · refine an_b 4 (pc2 := 28) (L2 := [some (vR 0 0 g), some (vI a1), some (vI s1), some (vI (nI j1))]) (st2 := [vI a1, vI (nI j1), vR 1 0 g]) (m1 := m) rfl ?_
      refine an_call (r_X4_cell m (nI j1) a1) rfl rfl rfl rfl ?_
      refine an_call (r_X1_at m 0 g (v_X4_cell m (nI j1) a1)) rfl rfl rfl rfl ?_
      refine an_b 1 (pc2 := if (v_X1_at m 0 g (v_X4_cell m (nI j1) a1)) ≤ 0 then 52 else 37) (L2 := [some (vR 0 0 g), some (vI a1), some (vI s1), some (vI (nI j1))]) (st2 := []) (m1 := m) rfl ?_
      refine re_if1 (c := (v_X1_at m 0 g (v_X4_cell m (nI j1) a1)) ≤ 0) (a := s1) (b := (if s1 < ((v_X1_at m 3 g (nI j1)) + (1 : Int32)) then ((v_X1_at m 3 g (nI j1)) + (1 : Int32)) else s1)) (fun x => (52, [some (vR 0 0 g), some (vI a1), some (vI x), some (vI (nI j1))], [], m)) (fun h2 v9 m9 K3 => ?_) (fun h2 v9 m9 K3 => ?_) _ _ ?_
      · exact K3
      · refine an_b 4 (pc2 := 43) (L2 := [some (vR 0 0 g), some (vI a1), some (vI s1), some (vI (nI j1))]) (st2 := [vI (nI j1), vR 1 3 g, vI s1]) (m1 := m) rfl ?_
        refine an_call (r_X1_at m 3 g (nI j1)) rfl rfl rfl rfl ?_
        refine an_b 4 (pc2 := 52) (L2 := [some (vR 0 0 g), some (vI a1), some (vI (if s1 < ((v_X1_at m 3 g (nI j1)) + (1 : Int32)) then ((v_X1_at m 3 g (nI j1)) + (1 : Int32)) else s1)), some (vI (nI j1))]) (st2 := []) (m1 := m) rfl ?_
        exact K3
      exact K4
    refine an_b 2 (pc2 := 4) (L2 := [some (vR 0 0 g), some (vI a1), some (vI (if ¬ (v_X1_at m 1 g (nI j1)) = a1 then s1 else (if (v_X1_at m 0 g (v_X4_cell m (nI j1) a1)) ≤ 0 then s1 else (if s1 < ((v_X1_at m 3 g (nI j1)) + (1 : Int32)) then ((v_X1_at m 3 g (nI j1)) + (1 : Int32)) else s1)))), some (vI ((nI j1) + (1 : Int32)))]) (st2 := []) (m1 := m) rfl ?_
    refine an_cL (K := [some (vR 0 0 g), some (vI a1), some (vI (if ¬ (v_X1_at m 1 g (nI j1)) = a1 then s1 else (if (v_X1_at m 0 g (v_X4_cell m (nI j1) a1)) ≤ 0 then s1 else (if s1 < ((v_X1_at m 3 g (nI j1)) + (1 : Int32)) then ((v_X1_at m 3 g (nI j1)) + (1 : Int32)) else s1)))), some (vI (nI (j1 + 1)))]) (by simp only [nI_1]) ?_
    exact K1
  · show An MX2_placeForHolder 4 [some (vR 0 0 g), some (vI a1), some (vI s1), some (vI (nI 8))] [] m v9 m9
    refine an_b 3 (pc2 := if (8 : Int32) ≤ (nI 8) then 58 else 10) (L2 := [some (vR 0 0 g), some (vI a1), some (vI s1), some (vI (nI 8))]) (st2 := []) (m1 := m) rfl ?_
    refine an_t (nI_le (a := 8) (b := 8) (by omega) (by omega)) ?_
    refine an_weak (L := [some (vR 0 0 g), some (vI a1), some (vI s1), none]) (⟨rfl, rfl, rfl, trivial⟩) ?_
    exact K1
  show An MX2_placeForHolder 58 [some (vR 0 0 g), some (vI a1), some (vI (lp (b_X2_placeForHolder_1 m g a1) 8 0 (0 : Int32))), none] [] m _ _
  refine an_b 1 (pc2 := 59) (L2 := [some (vR 0 0 g), some (vI a1), some (vI (lp (b_X2_placeForHolder_1 m g a1) 8 0 (0 : Int32))), none]) (st2 := [vI (lp (b_X2_placeForHolder_1 m g a1) 8 0 (0 : Int32))]) (m1 := m) rfl ?_
  exact an_ret rfl rfl rfl rfl rfl
def b_X2_enqueue_1 (m : PM) (g : Nat) (a1 : Int32) (a2 : Int32) (a3 : Int32)  (j1 : Nat) (s1 : PM) : PM := (if ¬ (v_X1_at s1 1 g (nI j1)) = a2 then s1 else (if (v_X1_at s1 3 g (nI j1)) < (if (v_X1_at m 0 g (v_X4_cell m a1 a2)) ≤ 0 then (v_X2_queueLength m g a2) else (v_X2_placeForHolder m g a2)) then s1 else (w_X1_raise s1 3 g (nI j1))))
def w_X2_enqueue (m : PM) (g : Nat) (a1 : Int32) (a2 : Int32) (a3 : Int32) : PM := (w_X1_put (w_X1_put (w_X1_put (lp (b_X2_enqueue_1 m g a1 a2 a3) 8 0 m) 1 g a1 a2) 2 g a1 a3) 3 g a1 (if (v_X1_at m 0 g (v_X4_cell m a1 a2)) ≤ 0 then (v_X2_queueLength m g a2) else (v_X2_placeForHolder m g a2)))
set_option maxRecDepth 100000 in
theorem r_X2_enqueue (m : PM) (g : Nat) (a1 : Int32) (a2 : Int32) (a3 : Int32) : Rn MX2_enqueue [vR 0 0 g, vI a1, vI a2, vI a3] m none (w_X2_enqueue m g a1 a2 a3) := by
  refine rn_of [some (vR 0 0 g), some (vI a1), some (vI a2), some (vI a3), none, none] rfl ?_
  unfold w_X2_enqueue
  refine an_b 4 (pc2 := 6) (L2 := [some (vR 0 0 g), some (vI a1), some (vI a2), some (vI a3), none, none]) (st2 := [vI a2, vI a1, vR 1 0 g]) (m1 := m) rfl ?_
  refine an_call (r_X4_cell m a1 a2) rfl rfl rfl rfl ?_
  refine an_call (r_X1_at m 0 g (v_X4_cell m a1 a2)) rfl rfl rfl rfl ?_
  refine an_b 1 (pc2 := if (v_X1_at m 0 g (v_X4_cell m a1 a2)) ≤ 0 then 23 else 15) (L2 := [some (vR 0 0 g), some (vI a1), some (vI a2), some (vI a3), none, none]) (st2 := []) (m1 := m) rfl ?_
  refine re_if1 (c := (v_X1_at m 0 g (v_X4_cell m a1 a2)) ≤ 0) (a := (v_X2_queueLength m g a2)) (b := (v_X2_placeForHolder m g a2)) (fun x => (28, [some (vR 0 0 g), some (vI a1), some (vI a2), some (vI a3), none, none], [vI x], m)) (fun h1 v9 m9 K2 => ?_) (fun h1 v9 m9 K2 => ?_) _ _ ?_
  · refine an_b 2 (pc2 := 25) (L2 := [some (vR 0 0 g), some (vI a1), some (vI a2), some (vI a3), none, none]) (st2 := [vI a2, vR 0 0 g]) (m1 := m) rfl ?_
    refine an_call (r_X2_queueLength m g a2) rfl rfl rfl rfl ?_
    exact K2
  · refine an_b 2 (pc2 := 17) (L2 := [some (vR 0 0 g), some (vI a1), some (vI a2), some (vI a3), none, none]) (st2 := [vI a2, vR 0 0 g]) (m1 := m) rfl ?_
    refine an_call (r_X2_placeForHolder m g a2) rfl rfl rfl rfl ?_
    refine an_b 1 (pc2 := 28) (L2 := [some (vR 0 0 g), some (vI a1), some (vI a2), some (vI a3), none, none]) (st2 := [vI (v_X2_placeForHolder m g a2)]) (m1 := m) rfl ?_
    exact K2
  refine an_b 3 (pc2 := 33) (L2 := [some (vR 0 0 g), some (vI a1), some (vI a2), some (vI a3), some (vI (if (v_X1_at m 0 g (v_X4_cell m a1 a2)) ≤ 0 then (v_X2_queueLength m g a2) else (v_X2_placeForHolder m g a2))), some (vI (0 : Int32))]) (st2 := []) (m1 := m) rfl ?_
  refine re_lp (σ := PM) (b_X2_enqueue_1 m g a1 a2 a3) (fun j1 s1 => (33, [some (vR 0 0 g), some (vI a1), some (vI a2), some (vI a3), some (vI (if (v_X1_at m 0 g (v_X4_cell m a1 a2)) ≤ 0 then (v_X2_queueLength m g a2) else (v_X2_placeForHolder m g a2))), some (vI (nI j1))], [], s1)) 8 (fun s1 => (82, [some (vR 0 0 g), some (vI a1), some (vI a2), some (vI a3), some (vI (if (v_X1_at m 0 g (v_X4_cell m a1 a2)) ≤ 0 then (v_X2_queueLength m g a2) else (v_X2_placeForHolder m g a2))), none], [], s1)) (fun j1 s1 hj1 v9 m9 K1 => ?_) (fun s1 v9 m9 K1 => ?_) 8 0 m (Nat.add_zero _) _ _ ?_
  · show An MX2_enqueue 33 [some (vR 0 0 g), some (vI a1), some (vI a2), some (vI a3), some (vI (if (v_X1_at m 0 g (v_X4_cell m a1 a2)) ≤ 0 then (v_X2_queueLength m g a2) else (v_X2_placeForHolder m g a2))), some (vI (nI j1))] [] s1 v9 m9
    refine an_b 3 (pc2 := if (8 : Int32) ≤ (nI j1) then 82 else 40) (L2 := [some (vR 0 0 g), some (vI a1), some (vI a2), some (vI a3), some (vI (if (v_X1_at m 0 g (v_X4_cell m a1 a2)) ≤ 0 then (v_X2_queueLength m g a2) else (v_X2_placeForHolder m g a2))), some (vI (nI j1))]) (st2 := []) (m1 := s1) rfl ?_
    refine an_f (nI_ge (a := j1) (b := 8) (by omega) (by omega)) ?_
    refine an_b 3 (pc2 := 46) (L2 := [some (vR 0 0 g), some (vI a1), some (vI a2), some (vI a3), some (vI (if (v_X1_at m 0 g (v_X4_cell m a1 a2)) ≤ 0 then (v_X2_queueLength m g a2) else (v_X2_placeForHolder m g a2))), some (vI (nI j1))]) (st2 := [vI (nI j1), vR 1 1 g]) (m1 := s1) rfl ?_
    refine an_call (r_X1_at s1 1 g (nI j1)) rfl rfl rfl rfl ?_
    refine an_b 2 (pc2 := if ¬ (v_X1_at s1 1 g (nI j1)) = a2 then 76 else 53) (L2 := [some (vR 0 0 g), some (vI a1), some (vI a2), some (vI a3), some (vI (if (v_X1_at m 0 g (v_X4_cell m a1 a2)) ≤ 0 then (v_X2_queueLength m g a2) else (v_X2_placeForHolder m g a2))), some (vI (nI j1))]) (st2 := []) (m1 := s1) rfl ?_
    refine re_if1 (c := ¬ (v_X1_at s1 1 g (nI j1)) = a2) (a := s1) (b := (if (v_X1_at s1 3 g (nI j1)) < (if (v_X1_at m 0 g (v_X4_cell m a1 a2)) ≤ 0 then (v_X2_queueLength m g a2) else (v_X2_placeForHolder m g a2)) then s1 else (w_X1_raise s1 3 g (nI j1)))) (fun x => (76, [some (vR 0 0 g), some (vI a1), some (vI a2), some (vI a3), some (vI (if (v_X1_at m 0 g (v_X4_cell m a1 a2)) ≤ 0 then (v_X2_queueLength m g a2) else (v_X2_placeForHolder m g a2))), some (vI (nI j1))], [], x)) (fun h3 v9 m9 K6 => ?_) (fun h3 v9 m9 K6 => ?_) _ _ ?_
    · exact K6
    · refine an_b 3 (pc2 := 59) (L2 := [some (vR 0 0 g), some (vI a1), some (vI a2), some (vI a3), some (vI (if (v_X1_at m 0 g (v_X4_cell m a1 a2)) ≤ 0 then (v_X2_queueLength m g a2) else (v_X2_placeForHolder m g a2))), some (vI (nI j1))]) (st2 := [vI (nI j1), vR 1 3 g]) (m1 := s1) rfl ?_
      refine an_call (r_X1_at s1 3 g (nI j1)) rfl rfl rfl rfl ?_
      refine an_b 2 (pc2 := if (v_X1_at s1 3 g (nI j1)) < (if (v_X1_at m 0 g (v_X4_cell m a1 a2)) ≤ 0 then (v_X2_queueLength m g a2) else (v_X2_placeForHolder m g a2)) then 76 else 67) (L2 := [some (vR 0 0 g), some (vI a1), some (vI a2), some (vI a3), some (vI (if (v_X1_at m 0 g (v_X4_cell m a1 a2)) ≤ 0 then (v_X2_queueLength m g a2) else (v_X2_placeForHolder m g a2))), some (vI (nI j1))]) (st2 := []) (m1 := s1) rfl ?_
      refine re_if1 (c := (v_X1_at s1 3 g (nI j1)) < (if (v_X1_at m 0 g (v_X4_cell m a1 a2)) ≤ 0 then (v_X2_queueLength m g a2) else (v_X2_placeForHolder m g a2))) (a := s1) (b := (w_X1_raise s1 3 g (nI j1))) (fun x => (76, [some (vR 0 0 g), some (vI a1), some (vI a2), some (vI a3), some (vI (if (v_X1_at m 0 g (v_X4_cell m a1 a2)) ≤ 0 then (v_X2_queueLength m g a2) else (v_X2_placeForHolder m g a2))), some (vI (nI j1))], [], x)) (fun h4 v9 m9 K5 => ?_) (fun h4 v9 m9 K5 => ?_) _ _ ?_
      · exact K5
      · refine an_b 3 (pc2 := 73) (L2 := [some (vR 0 0 g), some (vI a1), some (vI a2), some (vI a3), some (vI (if (v_X1_at m 0 g (v_X4_cell m a1 a2)) ≤ 0 then (v_X2_queueLength m g a2) else (v_X2_placeForHolder m g a2))), some (vI (nI j1))]) (st2 := [vI (nI j1), vR 1 3 g]) (m1 := s1) rfl ?_
        refine an_call (r_X1_raise s1 3 g (nI j1)) rfl rfl rfl rfl ?_
        exact K5
      exact K6
    refine an_b 2 (pc2 := 33) (L2 := [some (vR 0 0 g), some (vI a1), some (vI a2), some (vI a3), some (vI (if (v_X1_at m 0 g (v_X4_cell m a1 a2)) ≤ 0 then (v_X2_queueLength m g a2) else (v_X2_placeForHolder m g a2))), some (vI ((nI j1) + (1 : Int32)))]) (st2 := []) (m1 := (if ¬ (v_X1_at s1 1 g (nI j1)) = a2 then s1 else (if (v_X1_at s1 3 g (nI j1)) < (if (v_X1_at m 0 g (v_X4_cell m a1 a2)) ≤ 0 then (v_X2_queueLength m g a2) else (v_X2_placeForHolder m g a2)) then s1 else (w_X1_raise s1 3 g (nI j1))))) rfl ?_
    refine an_cL (K := [some (vR 0 0 g), some (vI a1), some (vI a2), some (vI a3), some (vI (if (v_X1_at m 0 g (v_X4_cell m a1 a2)) ≤ 0 then (v_X2_queueLength m g a2) else (v_X2_placeForHolder m g a2))), some (vI (nI (j1 + 1)))]) (by simp only [nI_1]) ?_
    exact K1
  · show An MX2_enqueue 33 [some (vR 0 0 g), some (vI a1), some (vI a2), some (vI a3), some (vI (if (v_X1_at m 0 g (v_X4_cell m a1 a2)) ≤ 0 then (v_X2_queueLength m g a2) else (v_X2_placeForHolder m g a2))), some (vI (nI 8))] [] s1 v9 m9
    refine an_b 3 (pc2 := if (8 : Int32) ≤ (nI 8) then 82 else 40) (L2 := [some (vR 0 0 g), some (vI a1), some (vI a2), some (vI a3), some (vI (if (v_X1_at m 0 g (v_X4_cell m a1 a2)) ≤ 0 then (v_X2_queueLength m g a2) else (v_X2_placeForHolder m g a2))), some (vI (nI 8))]) (st2 := []) (m1 := s1) rfl ?_
    refine an_t (nI_le (a := 8) (b := 8) (by omega) (by omega)) ?_
    refine an_weak (L := [some (vR 0 0 g), some (vI a1), some (vI a2), some (vI a3), some (vI (if (v_X1_at m 0 g (v_X4_cell m a1 a2)) ≤ 0 then (v_X2_queueLength m g a2) else (v_X2_placeForHolder m g a2))), none]) (⟨rfl, rfl, rfl, rfl, rfl, trivial⟩) ?_
    exact K1
  show An MX2_enqueue 82 [some (vR 0 0 g), some (vI a1), some (vI a2), some (vI a3), some (vI (if (v_X1_at m 0 g (v_X4_cell m a1 a2)) ≤ 0 then (v_X2_queueLength m g a2) else (v_X2_placeForHolder m g a2))), none] [] (lp (b_X2_enqueue_1 m g a1 a2 a3) 8 0 m) _ _
  refine an_b 4 (pc2 := 88) (L2 := [some (vR 0 0 g), some (vI a1), some (vI a2), some (vI a3), some (vI (if (v_X1_at m 0 g (v_X4_cell m a1 a2)) ≤ 0 then (v_X2_queueLength m g a2) else (v_X2_placeForHolder m g a2))), none]) (st2 := [vI a2, vI a1, vR 1 1 g]) (m1 := (lp (b_X2_enqueue_1 m g a1 a2 a3) 8 0 m)) rfl ?_
  refine an_call (r_X1_put (lp (b_X2_enqueue_1 m g a1 a2 a3) 8 0 m) 1 g a1 a2) rfl rfl rfl rfl ?_
  refine an_b 4 (pc2 := 97) (L2 := [some (vR 0 0 g), some (vI a1), some (vI a2), some (vI a3), some (vI (if (v_X1_at m 0 g (v_X4_cell m a1 a2)) ≤ 0 then (v_X2_queueLength m g a2) else (v_X2_placeForHolder m g a2))), none]) (st2 := [vI a3, vI a1, vR 1 2 g]) (m1 := (w_X1_put (lp (b_X2_enqueue_1 m g a1 a2 a3) 8 0 m) 1 g a1 a2)) rfl ?_
  refine an_call (r_X1_put (w_X1_put (lp (b_X2_enqueue_1 m g a1 a2 a3) 8 0 m) 1 g a1 a2) 2 g a1 a3) rfl rfl rfl rfl ?_
  refine an_b 4 (pc2 := 107) (L2 := [some (vR 0 0 g), some (vI a1), some (vI a2), some (vI a3), some (vI (if (v_X1_at m 0 g (v_X4_cell m a1 a2)) ≤ 0 then (v_X2_queueLength m g a2) else (v_X2_placeForHolder m g a2))), none]) (st2 := [vI (if (v_X1_at m 0 g (v_X4_cell m a1 a2)) ≤ 0 then (v_X2_queueLength m g a2) else (v_X2_placeForHolder m g a2)), vI a1, vR 1 3 g]) (m1 := (w_X1_put (w_X1_put (lp (b_X2_enqueue_1 m g a1 a2 a3) 8 0 m) 1 g a1 a2) 2 g a1 a3)) rfl ?_
  refine an_call (r_X1_put (w_X1_put (w_X1_put (lp (b_X2_enqueue_1 m g a1 a2 a3) 8 0 m) 1 g a1 a2) 2 g a1 a3) 3 g a1 (if (v_X1_at m 0 g (v_X4_cell m a1 a2)) ≤ 0 then (v_X2_queueLength m g a2) else (v_X2_placeForHolder m g a2))) rfl rfl rfl rfl ?_
  exact an_ret rfl rfl rfl rfl rfl
def b_X2_dequeue_1 (m : PM) (g : Nat) (a1 : Int32)  (j1 : Nat) (s1 : PM) : PM := (if ¬ (v_X1_at s1 1 g (nI j1)) = (v_X1_at m 1 g a1) then s1 else (if (v_X1_at s1 3 g (nI j1)) ≤ (v_X1_at m 3 g a1) then s1 else (w_X1_put s1 3 g (nI j1) ((v_X1_at s1 3 g (nI j1)) - (1 : Int32)))))
def w_X2_dequeue (m : PM) (g : Nat) (a1 : Int32) : PM := (lp (b_X2_dequeue_1 m g a1) 8 0 (w_X1_put (w_X1_put m 1 g a1 (-1 : Int32)) 2 g a1 (0 : Int32)))
set_option maxRecDepth 100000 in
theorem r_X2_dequeue (m : PM) (g : Nat) (a1 : Int32) : Rn MX2_dequeue [vR 0 0 g, vI a1] m none (w_X2_dequeue m g a1) := by
  refine rn_of [some (vR 0 0 g), some (vI a1), none, none, none] rfl ?_
  unfold w_X2_dequeue
  refine an_b 3 (pc2 := 5) (L2 := [some (vR 0 0 g), some (vI a1), none, none, none]) (st2 := [vI a1, vR 1 1 g]) (m1 := m) rfl ?_
  refine an_call (r_X1_at m 1 g a1) rfl rfl rfl rfl ?_
  refine an_b 4 (pc2 := 14) (L2 := [some (vR 0 0 g), some (vI a1), some (vI (v_X1_at m 1 g a1)), none, none]) (st2 := [vI a1, vR 1 3 g]) (m1 := m) rfl ?_
  refine an_call (r_X1_at m 3 g a1) rfl rfl rfl rfl ?_
  refine an_b 5 (pc2 := 24) (L2 := [some (vR 0 0 g), some (vI a1), some (vI (v_X1_at m 1 g a1)), some (vI (v_X1_at m 3 g a1)), none]) (st2 := [vI (-1 : Int32), vI a1, vR 1 1 g]) (m1 := m) rfl ?_
  refine an_call (r_X1_put m 1 g a1 (-1 : Int32)) rfl rfl rfl rfl ?_
  refine an_b 4 (pc2 := 33) (L2 := [some (vR 0 0 g), some (vI a1), some (vI (v_X1_at m 1 g a1)), some (vI (v_X1_at m 3 g a1)), none]) (st2 := [vI (0 : Int32), vI a1, vR 1 2 g]) (m1 := (w_X1_put m 1 g a1 (-1 : Int32))) rfl ?_
  refine an_call (r_X1_put (w_X1_put m 1 g a1 (-1 : Int32)) 2 g a1 (0 : Int32)) rfl rfl rfl rfl ?_
  refine an_b 2 (pc2 := 39) (L2 := [some (vR 0 0 g), some (vI a1), some (vI (v_X1_at m 1 g a1)), some (vI (v_X1_at m 3 g a1)), some (vI (0 : Int32))]) (st2 := []) (m1 := (w_X1_put (w_X1_put m 1 g a1 (-1 : Int32)) 2 g a1 (0 : Int32))) rfl ?_
  refine re_lp (σ := PM) (b_X2_dequeue_1 m g a1) (fun j1 s1 => (39, [some (vR 0 0 g), some (vI a1), some (vI (v_X1_at m 1 g a1)), some (vI (v_X1_at m 3 g a1)), some (vI (nI j1))], [], s1)) 8 (fun s1 => (98, [some (vR 0 0 g), some (vI a1), some (vI (v_X1_at m 1 g a1)), some (vI (v_X1_at m 3 g a1)), none], [], s1)) (fun j1 s1 hj1 v9 m9 K1 => ?_) (fun s1 v9 m9 K1 => ?_) 8 0 (w_X1_put (w_X1_put m 1 g a1 (-1 : Int32)) 2 g a1 (0 : Int32)) (Nat.add_zero _) _ _ ?_
  · show An MX2_dequeue 39 [some (vR 0 0 g), some (vI a1), some (vI (v_X1_at m 1 g a1)), some (vI (v_X1_at m 3 g a1)), some (vI (nI j1))] [] s1 v9 m9
    refine an_b 3 (pc2 := if (8 : Int32) ≤ (nI j1) then 98 else 46) (L2 := [some (vR 0 0 g), some (vI a1), some (vI (v_X1_at m 1 g a1)), some (vI (v_X1_at m 3 g a1)), some (vI (nI j1))]) (st2 := []) (m1 := s1) rfl ?_
    refine an_f (nI_ge (a := j1) (b := 8) (by omega) (by omega)) ?_
    refine an_b 3 (pc2 := 52) (L2 := [some (vR 0 0 g), some (vI a1), some (vI (v_X1_at m 1 g a1)), some (vI (v_X1_at m 3 g a1)), some (vI (nI j1))]) (st2 := [vI (nI j1), vR 1 1 g]) (m1 := s1) rfl ?_
    refine an_call (r_X1_at s1 1 g (nI j1)) rfl rfl rfl rfl ?_
    refine an_b 2 (pc2 := if ¬ (v_X1_at s1 1 g (nI j1)) = (v_X1_at m 1 g a1) then 92 else 59) (L2 := [some (vR 0 0 g), some (vI a1), some (vI (v_X1_at m 1 g a1)), some (vI (v_X1_at m 3 g a1)), some (vI (nI j1))]) (st2 := []) (m1 := s1) rfl ?_
    refine re_if1 (c := ¬ (v_X1_at s1 1 g (nI j1)) = (v_X1_at m 1 g a1)) (a := s1) (b := (if (v_X1_at s1 3 g (nI j1)) ≤ (v_X1_at m 3 g a1) then s1 else (w_X1_put s1 3 g (nI j1) ((v_X1_at s1 3 g (nI j1)) - (1 : Int32))))) (fun x => (92, [some (vR 0 0 g), some (vI a1), some (vI (v_X1_at m 1 g a1)), some (vI (v_X1_at m 3 g a1)), some (vI (nI j1))], [], x)) (fun h1 v9 m9 K4 => ?_) (fun h1 v9 m9 K4 => ?_) _ _ ?_
    · exact K4
    · refine an_b 3 (pc2 := 65) (L2 := [some (vR 0 0 g), some (vI a1), some (vI (v_X1_at m 1 g a1)), some (vI (v_X1_at m 3 g a1)), some (vI (nI j1))]) (st2 := [vI (nI j1), vR 1 3 g]) (m1 := s1) rfl ?_
      refine an_call (r_X1_at s1 3 g (nI j1)) rfl rfl rfl rfl ?_
      refine an_b 2 (pc2 := if (v_X1_at s1 3 g (nI j1)) ≤ (v_X1_at m 3 g a1) then 92 else 72) (L2 := [some (vR 0 0 g), some (vI a1), some (vI (v_X1_at m 1 g a1)), some (vI (v_X1_at m 3 g a1)), some (vI (nI j1))]) (st2 := []) (m1 := s1) rfl ?_
      refine re_if1 (c := (v_X1_at s1 3 g (nI j1)) ≤ (v_X1_at m 3 g a1)) (a := s1) (b := (w_X1_put s1 3 g (nI j1) ((v_X1_at s1 3 g (nI j1)) - (1 : Int32)))) (fun x => (92, [some (vR 0 0 g), some (vI a1), some (vI (v_X1_at m 1 g a1)), some (vI (v_X1_at m 3 g a1)), some (vI (nI j1))], [], x)) (fun h2 v9 m9 K3 => ?_) (fun h2 v9 m9 K3 => ?_) _ _ ?_
      · exact K3
      · refine an_b 6 (pc2 := 84) (L2 := [some (vR 0 0 g), some (vI a1), some (vI (v_X1_at m 1 g a1)), some (vI (v_X1_at m 3 g a1)), some (vI (nI j1))]) (st2 := [vI (nI j1), vR 1 3 g, vI (nI j1), vR 1 3 g]) (m1 := s1) rfl ?_
        refine an_call (r_X1_at s1 3 g (nI j1)) rfl rfl rfl rfl ?_
        refine an_b 2 (pc2 := 89) (L2 := [some (vR 0 0 g), some (vI a1), some (vI (v_X1_at m 1 g a1)), some (vI (v_X1_at m 3 g a1)), some (vI (nI j1))]) (st2 := [vI ((v_X1_at s1 3 g (nI j1)) - (1 : Int32)), vI (nI j1), vR 1 3 g]) (m1 := s1) rfl ?_
        refine an_call (r_X1_put s1 3 g (nI j1) ((v_X1_at s1 3 g (nI j1)) - (1 : Int32))) rfl rfl rfl rfl ?_
        exact K3
      exact K4
    refine an_b 2 (pc2 := 39) (L2 := [some (vR 0 0 g), some (vI a1), some (vI (v_X1_at m 1 g a1)), some (vI (v_X1_at m 3 g a1)), some (vI ((nI j1) + (1 : Int32)))]) (st2 := []) (m1 := (if ¬ (v_X1_at s1 1 g (nI j1)) = (v_X1_at m 1 g a1) then s1 else (if (v_X1_at s1 3 g (nI j1)) ≤ (v_X1_at m 3 g a1) then s1 else (w_X1_put s1 3 g (nI j1) ((v_X1_at s1 3 g (nI j1)) - (1 : Int32)))))) rfl ?_
    refine an_cL (K := [some (vR 0 0 g), some (vI a1), some (vI (v_X1_at m 1 g a1)), some (vI (v_X1_at m 3 g a1)), some (vI (nI (j1 + 1)))]) (by simp only [nI_1]) ?_
    exact K1
  · show An MX2_dequeue 39 [some (vR 0 0 g), some (vI a1), some (vI (v_X1_at m 1 g a1)), some (vI (v_X1_at m 3 g a1)), some (vI (nI 8))] [] s1 v9 m9
    refine an_b 3 (pc2 := if (8 : Int32) ≤ (nI 8) then 98 else 46) (L2 := [some (vR 0 0 g), some (vI a1), some (vI (v_X1_at m 1 g a1)), some (vI (v_X1_at m 3 g a1)), some (vI (nI 8))]) (st2 := []) (m1 := s1) rfl ?_
    refine an_t (nI_le (a := 8) (b := 8) (by omega) (by omega)) ?_
    refine an_weak (L := [some (vR 0 0 g), some (vI a1), some (vI (v_X1_at m 1 g a1)), some (vI (v_X1_at m 3 g a1)), none]) (⟨rfl, rfl, rfl, rfl, trivial⟩) ?_
    exact K1
  show An MX2_dequeue 98 [some (vR 0 0 g), some (vI a1), some (vI (v_X1_at m 1 g a1)), some (vI (v_X1_at m 3 g a1)), none] [] (lp (b_X2_dequeue_1 m g a1) 8 0 (w_X1_put (w_X1_put m 1 g a1 (-1 : Int32)) 2 g a1 (0 : Int32))) _ _
  exact an_ret rfl rfl rfl rfl rfl
def b_X2_clashes_1 (m : PM) (g : Nat) (a1 : Int32) (a2 : Int32) (a3 : Int32) (a4 : Int32)  (j1 : Nat) (s1 : Unit) : (Unit) ⊕ (Int32) := if (nI j1) = a3 then .inl () else if (nI j1) = a4 then .inl () else if ((v_X1_at m 0 g (v_X4_cell m (nI j1) a1)) + a2) ≤ (3 : Int32) then .inl () else .inr (1 : Int32)
def v_X2_clashes (m : PM) (g : Nat) (a1 : Int32) (a2 : Int32) (a3 : Int32) (a4 : Int32) : Int32 := (lqr (fun s1 : Unit => (0 : Int32)) (lq (b_X2_clashes_1 m g a1 a2 a3 a4) 8 0 ()))
set_option maxRecDepth 100000 in
theorem r_X2_clashes (m : PM) (g : Nat) (a1 : Int32) (a2 : Int32) (a3 : Int32) (a4 : Int32) : Rn MX2_clashes [vR 0 0 g, vI a1, vI a2, vI a3, vI a4] m (some (vI (v_X2_clashes m g a1 a2 a3 a4))) m := by
  refine rn_of [some (vR 0 0 g), some (vI a1), some (vI a2), some (vI a3), some (vI a4), none] rfl ?_
  unfold v_X2_clashes
  refine an_b 2 (pc2 := 3) (L2 := [some (vR 0 0 g), some (vI a1), some (vI a2), some (vI a3), some (vI a4), some (vI (0 : Int32))]) (st2 := []) (m1 := m) rfl ?_
  refine an_lq (σ := Unit) (ρ := Int32) (b_X2_clashes_1 m g a1 a2 a3 a4) (fun j1 s1 => (3, [some (vR 0 0 g), some (vI a1), some (vI a2), some (vI a3), some (vI a4), some (vI (nI j1))], [], m)) 8 (fun x9 => .inl (some (vI (lqr (fun s1 => (0 : Int32)) x9)))) (fun _ => m) (fun j1 s1 hj1 v9 m9 hc1 hr1 => ?_) (fun s1 => ?_) 8 0 () (Nat.add_zero _)
  · show An MX2_clashes 3 [some (vR 0 0 g), some (vI a1), some (vI a2), some (vI a3), some (vI a4), some (vI (nI j1))] [] m v9 m9
    refine an_b 3 (pc2 := if (8 : Int32) ≤ (nI j1) then 50 else 10) (L2 := [some (vR 0 0 g), some (vI a1), some (vI a2), some (vI a3), some (vI a4), some (vI (nI j1))]) (st2 := []) (m1 := m) rfl ?_
    refine an_f (nI_ge (a := j1) (b := 8) (by omega) (by omega)) ?_
    refine an_b 3 (pc2 := if (nI j1) = a3 then 44 else 16) (L2 := [some (vR 0 0 g), some (vI a1), some (vI a2), some (vI a3), some (vI a4), some (vI (nI j1))]) (st2 := []) (m1 := m) rfl ?_
    refine an_if (c := (nI j1) = a3) (fun h1 => ?_) (fun h1 => ?_)
    · refine an_b 2 (pc2 := 3) (L2 := [some (vR 0 0 g), some (vI a1), some (vI a2), some (vI a3), some (vI a4), some (vI ((nI j1) + (1 : Int32)))]) (st2 := []) (m1 := m) rfl ?_
      refine an_cL (K := [some (vR 0 0 g), some (vI a1), some (vI a2), some (vI a3), some (vI a4), some (vI (nI (j1 + 1)))]) (by simp only [nI_1]) ?_
      exact hc1 _ (by unfold b_X2_clashes_1; rw [if_pos h1])
    · refine an_b 3 (pc2 := if (nI j1) = a4 then 44 else 23) (L2 := [some (vR 0 0 g), some (vI a1), some (vI a2), some (vI a3), some (vI a4), some (vI (nI j1))]) (st2 := []) (m1 := m) rfl ?_
      refine an_if (c := (nI j1) = a4) (fun h2 => ?_) (fun h2 => ?_)
      · refine an_b 2 (pc2 := 3) (L2 := [some (vR 0 0 g), some (vI a1), some (vI a2), some (vI a3), some (vI a4), some (vI ((nI j1) + (1 : Int32)))]) (st2 := []) (m1 := m) rfl ?_
        refine an_cL (K := [some (vR 0 0 g), some (vI a1), some (vI a2), some (vI a3), some (vI a4), some (vI (nI (j1 + 1)))]) (by simp only [nI_1]) ?_
        exact hc1 _ (by unfold b_X2_clashes_1; rw [if_neg h1, if_pos h2])
      · refine an_b 4 (pc2 := 30) (L2 := [some (vR 0 0 g), some (vI a1), some (vI a2), some (vI a3), some (vI a4), some (vI (nI j1))]) (st2 := [vI a1, vI (nI j1), vR 1 0 g]) (m1 := m) rfl ?_
        refine an_call (r_X4_cell m (nI j1) a1) rfl rfl rfl rfl ?_
        refine an_call (r_X1_at m 0 g (v_X4_cell m (nI j1) a1)) rfl rfl rfl rfl ?_
        refine an_b 4 (pc2 := if ((v_X1_at m 0 g (v_X4_cell m (nI j1) a1)) + a2) ≤ (3 : Int32) then 44 else 42) (L2 := [some (vR 0 0 g), some (vI a1), some (vI a2), some (vI a3), some (vI a4), some (vI (nI j1))]) (st2 := []) (m1 := m) rfl ?_
        refine an_if (c := ((v_X1_at m 0 g (v_X4_cell m (nI j1) a1)) + a2) ≤ (3 : Int32)) (fun h3 => ?_) (fun h3 => ?_)
        · refine an_b 2 (pc2 := 3) (L2 := [some (vR 0 0 g), some (vI a1), some (vI a2), some (vI a3), some (vI a4), some (vI ((nI j1) + (1 : Int32)))]) (st2 := []) (m1 := m) rfl ?_
          refine an_cL (K := [some (vR 0 0 g), some (vI a1), some (vI a2), some (vI a3), some (vI a4), some (vI (nI (j1 + 1)))]) (by simp only [nI_1]) ?_
          exact hc1 _ (by unfold b_X2_clashes_1; rw [if_neg h1, if_neg h2, if_pos h3])
        · refine an_b 1 (pc2 := 43) (L2 := [some (vR 0 0 g), some (vI a1), some (vI a2), some (vI a3), some (vI a4), some (vI (nI j1))]) (st2 := [vI (1 : Int32)]) (m1 := m) rfl ?_
          obtain ⟨rfl, rfl⟩ := hr1 _ (by unfold b_X2_clashes_1; rw [if_neg h1, if_neg h2, if_neg h3])
          exact an_ret rfl rfl rfl rfl rfl
  · show An MX2_clashes 3 [some (vR 0 0 g), some (vI a1), some (vI a2), some (vI a3), some (vI a4), some (vI (nI 8))] [] m _ _
    refine an_b 3 (pc2 := if (8 : Int32) ≤ (nI 8) then 50 else 10) (L2 := [some (vR 0 0 g), some (vI a1), some (vI a2), some (vI a3), some (vI a4), some (vI (nI 8))]) (st2 := []) (m1 := m) rfl ?_
    refine an_t (nI_le (a := 8) (b := 8) (by omega) (by omega)) ?_
    refine an_b 1 (pc2 := 51) (L2 := [some (vR 0 0 g), some (vI a1), some (vI a2), some (vI a3), some (vI a4), some (vI (nI 8))]) (st2 := [vI (0 : Int32)]) (m1 := m) rfl ?_
    exact an_ret rfl rfl rfl rfl rfl
def w_X2_grant (m : PM) (g : Nat) (a1 : Int32) : PM := (w_X2_dequeue (w_X1_raise (w_X1_put m 0 g (v_X4_cell m a1 (v_X1_at m 1 g a1)) (v_X1_at m 2 g a1)) 8 g a1) g a1)
set_option maxRecDepth 100000 in
theorem r_X2_grant (m : PM) (g : Nat) (a1 : Int32) : Rn MX2_grant [vR 0 0 g, vI a1] m none (w_X2_grant m g a1) := by
  refine rn_of [some (vR 0 0 g), some (vI a1)] rfl ?_
  unfold w_X2_grant
  refine an_b 6 (pc2 := 10) (L2 := [some (vR 0 0 g), some (vI a1)]) (st2 := [vI a1, vR 1 1 g, vI a1, vR 1 0 g]) (m1 := m) rfl ?_
  refine an_call (r_X1_at m 1 g a1) rfl rfl rfl rfl ?_
  refine an_call (r_X4_cell m a1 (v_X1_at m 1 g a1)) rfl rfl rfl rfl ?_
  refine an_b 3 (pc2 := 21) (L2 := [some (vR 0 0 g), some (vI a1)]) (st2 := [vI a1, vR 1 2 g, vI (v_X4_cell m a1 (v_X1_at m 1 g a1)), vR 1 0 g]) (m1 := m) rfl ?_
  refine an_call (r_X1_at m 2 g a1) rfl rfl rfl rfl ?_
  refine an_call (r_X1_put m 0 g (v_X4_cell m a1 (v_X1_at m 1 g a1)) (v_X1_at m 2 g a1)) rfl rfl rfl rfl ?_
  refine an_b 3 (pc2 := 32) (L2 := [some (vR 0 0 g), some (vI a1)]) (st2 := [vI a1, vR 1 8 g]) (m1 := (w_X1_put m 0 g (v_X4_cell m a1 (v_X1_at m 1 g a1)) (v_X1_at m 2 g a1))) rfl ?_
  refine an_call (r_X1_raise (w_X1_put m 0 g (v_X4_cell m a1 (v_X1_at m 1 g a1)) (v_X1_at m 2 g a1)) 8 g a1) rfl rfl rfl rfl ?_
  refine an_b 2 (pc2 := 37) (L2 := [some (vR 0 0 g), some (vI a1)]) (st2 := [vI a1, vR 0 0 g]) (m1 := (w_X1_raise (w_X1_put m 0 g (v_X4_cell m a1 (v_X1_at m 1 g a1)) (v_X1_at m 2 g a1)) 8 g a1)) rfl ?_
  refine an_call (r_X2_dequeue (w_X1_raise (w_X1_put m 0 g (v_X4_cell m a1 (v_X1_at m 1 g a1)) (v_X1_at m 2 g a1)) 8 g a1) g a1) rfl rfl rfl rfl ?_
  exact an_ret rfl rfl rfl rfl rfl
def b_X2_settle_1 (m : PM) (g : Nat) (a1 : Int32)  (j1 : Nat) (s1 : Int32 × PM) : (Int32 × PM) ⊕ (Int32 × PM) := if (v_X2_handAt s1.2 g a1 (0 : Int32)) = (-1 : Int32) then .inr (s1.1, s1.2) else if (v_X2_clashes s1.2 g a1 (v_X1_at s1.2 2 g (v_X2_handAt s1.2 g a1 (0 : Int32))) (v_X2_handAt s1.2 g a1 (0 : Int32)) (v_X2_handAt s1.2 g a1 (0 : Int32))) = 0 then .inl (s1.1 + (1 : Int32), (w_X2_grant s1.2 g (v_X2_handAt s1.2 g a1 (0 : Int32)))) else .inr (s1.1, s1.2)
def v_X2_settle (m : PM) (g : Nat) (a1 : Int32) : Int32 := (lqv (lq (b_X2_settle_1 m g a1) 8 0 ((0 : Int32), m))).1
def w_X2_settle (m : PM) (g : Nat) (a1 : Int32) : PM := (lqv (lq (b_X2_settle_1 m g a1) 8 0 ((0 : Int32), m))).2
set_option maxRecDepth 100000 in
theorem r_X2_settle (m : PM) (g : Nat) (a1 : Int32) : Rn MX2_settle [vR 0 0 g, vI a1] m (some (vI (v_X2_settle m g a1))) (w_X2_settle m g a1) := by
  refine rn_of [some (vR 0 0 g), some (vI a1), none, none, none] rfl ?_
  unfold v_X2_settle w_X2_settle
  refine an_b 4 (pc2 := 4) (L2 := [some (vR 0 0 g), some (vI a1), some (vI (0 : Int32)), some (vI (0 : Int32)), none]) (st2 := []) (m1 := m) rfl ?_
  refine re_lq (σ := Int32 × PM) (ρ := Int32 × PM) (b_X2_settle_1 m g a1) (fun j1 s1 => (4, [some (vR 0 0 g), some (vI a1), some (vI s1.1), some (vI (nI j1)), none], [], s1.2)) 8 (fun x9 => (63, [some (vR 0 0 g), some (vI a1), some (vI ((lqv x9).1)), none, none], [], (lqv x9).2)) (fun j1 s1 hj1 v9 m9 hc1 hr1 => ?_) (fun s1 v9 m9 K1 => ?_) 8 0 ((0 : Int32), m) (Nat.add_zero _) _ _ ?_
  · show An MX2_settle 4 [some (vR 0 0 g), some (vI a1), some (vI s1.1), some (vI (nI j1)), none] [] s1.2 v9 m9
    refine an_b 3 (pc2 := if (8 : Int32) ≤ (nI j1) then 63 else 10) (L2 := [some (vR 0 0 g), some (vI a1), some (vI s1.1), some (vI (nI j1)), none]) (st2 := []) (m1 := s1.2) rfl ?_
    refine an_f (nI_ge (a := j1) (b := 8) (by omega) (by omega)) ?_
    refine an_b 3 (pc2 := 13) (L2 := [some (vR 0 0 g), some (vI a1), some (vI s1.1), some (vI (nI j1)), none]) (st2 := [vI (0 : Int32), vI a1, vR 0 0 g]) (m1 := s1.2) rfl ?_
    refine an_call (r_X2_handAt s1.2 g a1 (0 : Int32)) rfl rfl rfl rfl ?_
    refine an_b 4 (pc2 := if (v_X2_handAt s1.2 g a1 (0 : Int32)) = (-1 : Int32) then 63 else 24) (L2 := [some (vR 0 0 g), some (vI a1), some (vI s1.1), some (vI (nI j1)), some (vI (v_X2_handAt s1.2 g a1 (0 : Int32)))]) (st2 := []) (m1 := s1.2) rfl ?_
    refine an_if (c := (v_X2_handAt s1.2 g a1 (0 : Int32)) = (-1 : Int32)) (fun h1 => ?_) (fun h1 => ?_)
    · refine an_weak (L := [some (vR 0 0 g), some (vI a1), some (vI s1.1), none, none]) (⟨rfl, rfl, rfl, trivial⟩) ?_
      exact hr1 _ (by unfold b_X2_settle_1; rw [if_pos h1])
    · refine an_b 5 (pc2 := 32) (L2 := [some (vR 0 0 g), some (vI a1), some (vI s1.1), some (vI (nI j1)), some (vI (v_X2_handAt s1.2 g a1 (0 : Int32)))]) (st2 := [vI (v_X2_handAt s1.2 g a1 (0 : Int32)), vR 1 2 g, vI a1, vR 0 0 g]) (m1 := s1.2) rfl ?_
      refine an_call (r_X1_at s1.2 2 g (v_X2_handAt s1.2 g a1 (0 : Int32))) rfl rfl rfl rfl ?_
      refine an_b 2 (pc2 := 39) (L2 := [some (vR 0 0 g), some (vI a1), some (vI s1.1), some (vI (nI j1)), some (vI (v_X2_handAt s1.2 g a1 (0 : Int32)))]) (st2 := [vI (v_X2_handAt s1.2 g a1 (0 : Int32)), vI (v_X2_handAt s1.2 g a1 (0 : Int32)), vI (v_X1_at s1.2 2 g (v_X2_handAt s1.2 g a1 (0 : Int32))), vI a1, vR 0 0 g]) (m1 := s1.2) rfl ?_
      refine an_call (r_X2_clashes s1.2 g a1 (v_X1_at s1.2 2 g (v_X2_handAt s1.2 g a1 (0 : Int32))) (v_X2_handAt s1.2 g a1 (0 : Int32)) (v_X2_handAt s1.2 g a1 (0 : Int32))) rfl rfl rfl rfl ?_
      refine an_b 1 (pc2 := if (v_X2_clashes s1.2 g a1 (v_X1_at s1.2 2 g (v_X2_handAt s1.2 g a1 (0 : Int32))) (v_X2_handAt s1.2 g a1 (0 : Int32)) (v_X2_handAt s1.2 g a1 (0 : Int32))) = 0 then 48 else 45) (L2 := [some (vR 0 0 g), some (vI a1), some (vI s1.1), some (vI (nI j1)), some (vI (v_X2_handAt s1.2 g a1 (0 : Int32)))]) (st2 := []) (m1 := s1.2) rfl ?_
      refine an_if (c := (v_X2_clashes s1.2 g a1 (v_X1_at s1.2 2 g (v_X2_handAt s1.2 g a1 (0 : Int32))) (v_X2_handAt s1.2 g a1 (0 : Int32)) (v_X2_handAt s1.2 g a1 (0 : Int32))) = 0) (fun h2 => ?_) (fun h2 => ?_)
      · refine an_b 2 (pc2 := 51) (L2 := [some (vR 0 0 g), some (vI a1), some (vI s1.1), some (vI (nI j1)), some (vI (v_X2_handAt s1.2 g a1 (0 : Int32)))]) (st2 := [vI (v_X2_handAt s1.2 g a1 (0 : Int32)), vR 0 0 g]) (m1 := s1.2) rfl ?_
        refine an_call (r_X2_grant s1.2 g (v_X2_handAt s1.2 g a1 (0 : Int32))) rfl rfl rfl rfl ?_
        refine an_b 3 (pc2 := 4) (L2 := [some (vR 0 0 g), some (vI a1), some (vI (s1.1 + (1 : Int32))), some (vI ((nI j1) + (1 : Int32))), some (vI (v_X2_handAt s1.2 g a1 (0 : Int32)))]) (st2 := []) (m1 := (w_X2_grant s1.2 g (v_X2_handAt s1.2 g a1 (0 : Int32)))) rfl ?_
        refine an_weak (L := [some (vR 0 0 g), some (vI a1), some (vI (s1.1 + (1 : Int32))), some (vI ((nI j1) + (1 : Int32))), none]) (⟨rfl, rfl, rfl, rfl, trivial⟩) ?_
        refine an_cL (K := [some (vR 0 0 g), some (vI a1), some (vI (s1.1 + (1 : Int32))), some (vI (nI (j1 + 1))), none]) (by simp only [nI_1]) ?_
        exact hc1 _ (by unfold b_X2_settle_1; rw [if_neg h1, if_pos h2])
      · refine an_b 1 (pc2 := 63) (L2 := [some (vR 0 0 g), some (vI a1), some (vI s1.1), some (vI (nI j1)), some (vI (v_X2_handAt s1.2 g a1 (0 : Int32)))]) (st2 := []) (m1 := s1.2) rfl ?_
        refine an_weak (L := [some (vR 0 0 g), some (vI a1), some (vI s1.1), none, none]) (⟨rfl, rfl, rfl, trivial⟩) ?_
        exact hr1 _ (by unfold b_X2_settle_1; rw [if_neg h1, if_neg h2])
  · show An MX2_settle 4 [some (vR 0 0 g), some (vI a1), some (vI s1.1), some (vI (nI 8)), none] [] s1.2 v9 m9
    refine an_b 3 (pc2 := if (8 : Int32) ≤ (nI 8) then 63 else 10) (L2 := [some (vR 0 0 g), some (vI a1), some (vI s1.1), some (vI (nI 8)), none]) (st2 := []) (m1 := s1.2) rfl ?_
    refine an_t (nI_le (a := 8) (b := 8) (by omega) (by omega)) ?_
    refine an_weak (L := [some (vR 0 0 g), some (vI a1), some (vI s1.1), none, none]) (⟨rfl, rfl, rfl, trivial⟩) ?_
    exact K1
  show An MX2_settle 63 [some (vR 0 0 g), some (vI a1), some (vI ((lqv (lq (b_X2_settle_1 m g a1) 8 0 ((0 : Int32), m))).1)), none, none] [] (lqv (lq (b_X2_settle_1 m g a1) 8 0 ((0 : Int32), m))).2 _ _
  refine an_b 1 (pc2 := 64) (L2 := [some (vR 0 0 g), some (vI a1), some (vI ((lqv (lq (b_X2_settle_1 m g a1) 8 0 ((0 : Int32), m))).1)), none, none]) (st2 := [vI ((lqv (lq (b_X2_settle_1 m g a1) 8 0 ((0 : Int32), m))).1)]) (m1 := (lqv (lq (b_X2_settle_1 m g a1) 8 0 ((0 : Int32), m))).2) rfl ?_
  exact an_ret rfl rfl rfl rfl rfl
def b_X2_direct_1 (m : PM) (g : Nat) (a1 : Int32)  (j1 : Nat) (s1 : Int32) : Int32 := (if (nI j1) = a1 then s1 else (if ¬ (if ((v_X1_at m 0 g (v_X4_cell m (nI j1) (v_X1_at m 1 g a1))) + (v_X1_at m 2 g a1)) ≤ (3 : Int32) then (0 : Int32) else (1 : Int32)) = 0 then (s1 ||| ((1 : Int32) <<< ((nI j1) &&& (31 : Int32)))) else (if (if ¬ (v_X1_at m 1 g (nI j1)) = (v_X1_at m 1 g a1) then (0 : Int32) else (if (v_X1_at m 3 g a1) ≤ (v_X1_at m 3 g (nI j1)) then (0 : Int32) else (1 : Int32))) = 0 then s1 else (s1 ||| ((1 : Int32) <<< ((nI j1) &&& (31 : Int32)))))))
def v_X2_direct (m : PM) (g : Nat) (a1 : Int32) : Int32 := (if ¬ (v_X2_isWaiting m g a1) = 0 then (lp (b_X2_direct_1 m g a1) 8 0 (0 : Int32)) else (0 : Int32))
set_option maxRecDepth 100000 in
theorem r_X2_direct (m : PM) (g : Nat) (a1 : Int32) : Rn MX2_direct [vR 0 0 g, vI a1] m (some (vI (v_X2_direct m g a1))) m := by
  refine rn_of [some (vR 0 0 g), some (vI a1), none, none, none, none, none, none, none] rfl ?_
  unfold v_X2_direct
  refine an_b 2 (pc2 := 2) (L2 := [some (vR 0 0 g), some (vI a1), none, none, none, none, none, none, none]) (st2 := [vI a1, vR 0 0 g]) (m1 := m) rfl ?_
  refine an_call (r_X2_isWaiting m g a1) rfl rfl rfl rfl ?_
  refine an_b 1 (pc2 := if ¬ (v_X2_isWaiting m g a1) = 0 then 10 else 8) (L2 := [some (vR 0 0 g), some (vI a1), none, none, none, none, none, none, none]) (st2 := []) (m1 := m) rfl ?_
  refine an_ifi (c := ¬ (v_X2_isWaiting m g a1) = 0) (fun h1 => ?_) (fun h1 => ?_)
  · refine an_b 3 (pc2 := 15) (L2 := [some (vR 0 0 g), some (vI a1), none, none, none, none, none, none, none]) (st2 := [vI a1, vR 1 1 g]) (m1 := m) rfl ?_
    refine an_call (r_X1_at m 1 g a1) rfl rfl rfl rfl ?_
    refine an_b 4 (pc2 := 24) (L2 := [some (vR 0 0 g), some (vI a1), some (vI (v_X1_at m 1 g a1)), none, none, none, none, none, none]) (st2 := [vI a1, vR 1 2 g]) (m1 := m) rfl ?_
    refine an_call (r_X1_at m 2 g a1) rfl rfl rfl rfl ?_
    refine an_b 4 (pc2 := 33) (L2 := [some (vR 0 0 g), some (vI a1), some (vI (v_X1_at m 1 g a1)), some (vI (v_X1_at m 2 g a1)), none, none, none, none, none]) (st2 := [vI a1, vR 1 3 g]) (m1 := m) rfl ?_
    refine an_call (r_X1_at m 3 g a1) rfl rfl rfl rfl ?_
    refine an_b 5 (pc2 := 44) (L2 := [some (vR 0 0 g), some (vI a1), some (vI (v_X1_at m 1 g a1)), some (vI (v_X1_at m 2 g a1)), some (vI (v_X1_at m 3 g a1)), some (vI (0 : Int32)), some (vI (0 : Int32)), none, none]) (st2 := []) (m1 := m) rfl ?_
    refine re_lp (σ := Int32) (b_X2_direct_1 m g a1) (fun j1 s1 => (44, [some (vR 0 0 g), some (vI a1), some (vI (v_X1_at m 1 g a1)), some (vI (v_X1_at m 2 g a1)), some (vI (v_X1_at m 3 g a1)), some (vI s1), some (vI (nI j1)), none, none], [], m)) 8 (fun s1 => (142, [some (vR 0 0 g), some (vI a1), some (vI (v_X1_at m 1 g a1)), some (vI (v_X1_at m 2 g a1)), some (vI (v_X1_at m 3 g a1)), some (vI s1), none, none, none], [], m)) (fun j1 s1 hj1 v9 m9 K1 => ?_) (fun s1 v9 m9 K1 => ?_) 8 0 (0 : Int32) (Nat.add_zero _) _ _ ?_
    · show An MX2_direct 44 [some (vR 0 0 g), some (vI a1), some (vI (v_X1_at m 1 g a1)), some (vI (v_X1_at m 2 g a1)), some (vI (v_X1_at m 3 g a1)), some (vI s1), some (vI (nI j1)), none, none] [] m v9 m9
      refine an_b 3 (pc2 := if (8 : Int32) ≤ (nI j1) then 142 else 51) (L2 := [some (vR 0 0 g), some (vI a1), some (vI (v_X1_at m 1 g a1)), some (vI (v_X1_at m 2 g a1)), some (vI (v_X1_at m 3 g a1)), some (vI s1), some (vI (nI j1)), none, none]) (st2 := []) (m1 := m) rfl ?_
      refine an_f (nI_ge (a := j1) (b := 8) (by omega) (by omega)) ?_
      refine an_b 4 (pc2 := 58) (L2 := [some (vR 0 0 g), some (vI a1), some (vI (v_X1_at m 1 g a1)), some (vI (v_X1_at m 2 g a1)), some (vI (v_X1_at m 3 g a1)), some (vI s1), some (vI (nI j1)), none, none]) (st2 := [vI (v_X1_at m 1 g a1), vI (nI j1), vR 1 0 g]) (m1 := m) rfl ?_
      refine an_call (r_X4_cell m (nI j1) (v_X1_at m 1 g a1)) rfl rfl rfl rfl ?_
      refine an_call (r_X1_at m 0 g (v_X4_cell m (nI j1) (v_X1_at m 1 g a1))) rfl rfl rfl rfl ?_
      refine an_b 4 (pc2 := if ((v_X1_at m 0 g (v_X4_cell m (nI j1) (v_X1_at m 1 g a1))) + (v_X1_at m 2 g a1)) ≤ (3 : Int32) then 74 else 70) (L2 := [some (vR 0 0 g), some (vI a1), some (vI (v_X1_at m 1 g a1)), some (vI (v_X1_at m 2 g a1)), some (vI (v_X1_at m 3 g a1)), some (vI s1), some (vI (nI j1)), none, none]) (st2 := []) (m1 := m) rfl ?_
      refine re_if1 (c := ((v_X1_at m 0 g (v_X4_cell m (nI j1) (v_X1_at m 1 g a1))) + (v_X1_at m 2 g a1)) ≤ (3 : Int32)) (a := (0 : Int32)) (b := (1 : Int32)) (fun x => (75, [some (vR 0 0 g), some (vI a1), some (vI (v_X1_at m 1 g a1)), some (vI (v_X1_at m 2 g a1)), some (vI (v_X1_at m 3 g a1)), some (vI s1), some (vI (nI j1)), none, none], [vI x], m)) (fun h2 v9 m9 K3 => ?_) (fun h2 v9 m9 K3 => ?_) _ _ ?_
      · refine an_b 1 (pc2 := 75) (L2 := [some (vR 0 0 g), some (vI a1), some (vI (v_X1_at m 1 g a1)), some (vI (v_X1_at m 2 g a1)), some (vI (v_X1_at m 3 g a1)), some (vI s1), some (vI (nI j1)), none, none]) (st2 := [vI (0 : Int32)]) (m1 := m) rfl ?_
        exact K3
      · refine an_b 2 (pc2 := 75) (L2 := [some (vR 0 0 g), some (vI a1), some (vI (v_X1_at m 1 g a1)), some (vI (v_X1_at m 2 g a1)), some (vI (v_X1_at m 3 g a1)), some (vI s1), some (vI (nI j1)), none, none]) (st2 := [vI (1 : Int32)]) (m1 := m) rfl ?_
        exact K3
      refine an_b 4 (pc2 := 83) (L2 := [some (vR 0 0 g), some (vI a1), some (vI (v_X1_at m 1 g a1)), some (vI (v_X1_at m 2 g a1)), some (vI (v_X1_at m 3 g a1)), some (vI s1), some (vI (nI j1)), some (vI (if ((v_X1_at m 0 g (v_X4_cell m (nI j1) (v_X1_at m 1 g a1))) + (v_X1_at m 2 g a1)) ≤ (3 : Int32) then (0 : Int32) else (1 : Int32))), none]) (st2 := [vI (nI j1), vR 1 1 g]) (m1 := m) rfl ?_
      refine an_call (r_X1_at m 1 g (nI j1)) rfl rfl rfl rfl ?_
      refine an_b 2 (pc2 := if ¬ (v_X1_at m 1 g (nI j1)) = (v_X1_at m 1 g a1) then 108 else 90) (L2 := [some (vR 0 0 g), some (vI a1), some (vI (v_X1_at m 1 g a1)), some (vI (v_X1_at m 2 g a1)), some (vI (v_X1_at m 3 g a1)), some (vI s1), some (vI (nI j1)), some (vI (if ((v_X1_at m 0 g (v_X4_cell m (nI j1) (v_X1_at m 1 g a1))) + (v_X1_at m 2 g a1)) ≤ (3 : Int32) then (0 : Int32) else (1 : Int32))), none]) (st2 := []) (m1 := m) rfl ?_
      refine re_if1 (c := ¬ (v_X1_at m 1 g (nI j1)) = (v_X1_at m 1 g a1)) (a := (0 : Int32)) (b := (if (v_X1_at m 3 g a1) ≤ (v_X1_at m 3 g (nI j1)) then (0 : Int32) else (1 : Int32))) (fun x => (109, [some (vR 0 0 g), some (vI a1), some (vI (v_X1_at m 1 g a1)), some (vI (v_X1_at m 2 g a1)), some (vI (v_X1_at m 3 g a1)), some (vI s1), some (vI (nI j1)), some (vI (if ((v_X1_at m 0 g (v_X4_cell m (nI j1) (v_X1_at m 1 g a1))) + (v_X1_at m 2 g a1)) ≤ (3 : Int32) then (0 : Int32) else (1 : Int32))), none], [vI x], m)) (fun h4 v9 m9 K7 => ?_) (fun h4 v9 m9 K7 => ?_) _ _ ?_
      · refine an_b 1 (pc2 := 109) (L2 := [some (vR 0 0 g), some (vI a1), some (vI (v_X1_at m 1 g a1)), some (vI (v_X1_at m 2 g a1)), some (vI (v_X1_at m 3 g a1)), some (vI s1), some (vI (nI j1)), some (vI (if ((v_X1_at m 0 g (v_X4_cell m (nI j1) (v_X1_at m 1 g a1))) + (v_X1_at m 2 g a1)) ≤ (3 : Int32) then (0 : Int32) else (1 : Int32))), none]) (st2 := [vI (0 : Int32)]) (m1 := m) rfl ?_
        exact K7
      · refine an_b 3 (pc2 := 96) (L2 := [some (vR 0 0 g), some (vI a1), some (vI (v_X1_at m 1 g a1)), some (vI (v_X1_at m 2 g a1)), some (vI (v_X1_at m 3 g a1)), some (vI s1), some (vI (nI j1)), some (vI (if ((v_X1_at m 0 g (v_X4_cell m (nI j1) (v_X1_at m 1 g a1))) + (v_X1_at m 2 g a1)) ≤ (3 : Int32) then (0 : Int32) else (1 : Int32))), none]) (st2 := [vI (nI j1), vR 1 3 g]) (m1 := m) rfl ?_
        refine an_call (r_X1_at m 3 g (nI j1)) rfl rfl rfl rfl ?_
        refine an_b 2 (pc2 := if (v_X1_at m 3 g a1) ≤ (v_X1_at m 3 g (nI j1)) then 108 else 104) (L2 := [some (vR 0 0 g), some (vI a1), some (vI (v_X1_at m 1 g a1)), some (vI (v_X1_at m 2 g a1)), some (vI (v_X1_at m 3 g a1)), some (vI s1), some (vI (nI j1)), some (vI (if ((v_X1_at m 0 g (v_X4_cell m (nI j1) (v_X1_at m 1 g a1))) + (v_X1_at m 2 g a1)) ≤ (3 : Int32) then (0 : Int32) else (1 : Int32))), none]) (st2 := []) (m1 := m) rfl ?_
        refine re_if1 (c := (v_X1_at m 3 g a1) ≤ (v_X1_at m 3 g (nI j1))) (a := (0 : Int32)) (b := (1 : Int32)) (fun x => (109, [some (vR 0 0 g), some (vI a1), some (vI (v_X1_at m 1 g a1)), some (vI (v_X1_at m 2 g a1)), some (vI (v_X1_at m 3 g a1)), some (vI s1), some (vI (nI j1)), some (vI (if ((v_X1_at m 0 g (v_X4_cell m (nI j1) (v_X1_at m 1 g a1))) + (v_X1_at m 2 g a1)) ≤ (3 : Int32) then (0 : Int32) else (1 : Int32))), none], [vI x], m)) (fun h5 v9 m9 K6 => ?_) (fun h5 v9 m9 K6 => ?_) _ _ ?_
        · refine an_b 1 (pc2 := 109) (L2 := [some (vR 0 0 g), some (vI a1), some (vI (v_X1_at m 1 g a1)), some (vI (v_X1_at m 2 g a1)), some (vI (v_X1_at m 3 g a1)), some (vI s1), some (vI (nI j1)), some (vI (if ((v_X1_at m 0 g (v_X4_cell m (nI j1) (v_X1_at m 1 g a1))) + (v_X1_at m 2 g a1)) ≤ (3 : Int32) then (0 : Int32) else (1 : Int32))), none]) (st2 := [vI (0 : Int32)]) (m1 := m) rfl ?_
          exact K6
        · refine an_b 2 (pc2 := 109) (L2 := [some (vR 0 0 g), some (vI a1), some (vI (v_X1_at m 1 g a1)), some (vI (v_X1_at m 2 g a1)), some (vI (v_X1_at m 3 g a1)), some (vI s1), some (vI (nI j1)), some (vI (if ((v_X1_at m 0 g (v_X4_cell m (nI j1) (v_X1_at m 1 g a1))) + (v_X1_at m 2 g a1)) ≤ (3 : Int32) then (0 : Int32) else (1 : Int32))), none]) (st2 := [vI (1 : Int32)]) (m1 := m) rfl ?_
          exact K6
        exact K7
      refine an_b 4 (pc2 := if (nI j1) = a1 then 136 else 117) (L2 := [some (vR 0 0 g), some (vI a1), some (vI (v_X1_at m 1 g a1)), some (vI (v_X1_at m 2 g a1)), some (vI (v_X1_at m 3 g a1)), some (vI s1), some (vI (nI j1)), some (vI (if ((v_X1_at m 0 g (v_X4_cell m (nI j1) (v_X1_at m 1 g a1))) + (v_X1_at m 2 g a1)) ≤ (3 : Int32) then (0 : Int32) else (1 : Int32))), some (vI (if ¬ (v_X1_at m 1 g (nI j1)) = (v_X1_at m 1 g a1) then (0 : Int32) else (if (v_X1_at m 3 g a1) ≤ (v_X1_at m 3 g (nI j1)) then (0 : Int32) else (1 : Int32))))]) (st2 := []) (m1 := m) rfl ?_
      refine re_if1 (c := (nI j1) = a1) (a := s1) (b := (if ¬ (if ((v_X1_at m 0 g (v_X4_cell m (nI j1) (v_X1_at m 1 g a1))) + (v_X1_at m 2 g a1)) ≤ (3 : Int32) then (0 : Int32) else (1 : Int32)) = 0 then (s1 ||| ((1 : Int32) <<< ((nI j1) &&& (31 : Int32)))) else (if (if ¬ (v_X1_at m 1 g (nI j1)) = (v_X1_at m 1 g a1) then (0 : Int32) else (if (v_X1_at m 3 g a1) ≤ (v_X1_at m 3 g (nI j1)) then (0 : Int32) else (1 : Int32))) = 0 then s1 else (s1 ||| ((1 : Int32) <<< ((nI j1) &&& (31 : Int32))))))) (fun x => (136, [some (vR 0 0 g), some (vI a1), some (vI (v_X1_at m 1 g a1)), some (vI (v_X1_at m 2 g a1)), some (vI (v_X1_at m 3 g a1)), some (vI x), some (vI (nI j1)), some (vI (if ((v_X1_at m 0 g (v_X4_cell m (nI j1) (v_X1_at m 1 g a1))) + (v_X1_at m 2 g a1)) ≤ (3 : Int32) then (0 : Int32) else (1 : Int32))), some (vI (if ¬ (v_X1_at m 1 g (nI j1)) = (v_X1_at m 1 g a1) then (0 : Int32) else (if (v_X1_at m 3 g a1) ≤ (v_X1_at m 3 g (nI j1)) then (0 : Int32) else (1 : Int32))))], [], m)) (fun h8 v9 m9 K13 => ?_) (fun h8 v9 m9 K13 => ?_) _ _ ?_
      · exact K13
      · refine an_b 2 (pc2 := if ¬ (if ((v_X1_at m 0 g (v_X4_cell m (nI j1) (v_X1_at m 1 g a1))) + (v_X1_at m 2 g a1)) ≤ (3 : Int32) then (0 : Int32) else (1 : Int32)) = 0 then 127 else 122) (L2 := [some (vR 0 0 g), some (vI a1), some (vI (v_X1_at m 1 g a1)), some (vI (v_X1_at m 2 g a1)), some (vI (v_X1_at m 3 g a1)), some (vI s1), some (vI (nI j1)), some (vI (if ((v_X1_at m 0 g (v_X4_cell m (nI j1) (v_X1_at m 1 g a1))) + (v_X1_at m 2 g a1)) ≤ (3 : Int32) then (0 : Int32) else (1 : Int32))), some (vI (if ¬ (v_X1_at m 1 g (nI j1)) = (v_X1_at m 1 g a1) then (0 : Int32) else (if (v_X1_at m 3 g a1) ≤ (v_X1_at m 3 g (nI j1)) then (0 : Int32) else (1 : Int32))))]) (st2 := []) (m1 := m) rfl ?_
        refine re_if1 (c := ¬ (if ((v_X1_at m 0 g (v_X4_cell m (nI j1) (v_X1_at m 1 g a1))) + (v_X1_at m 2 g a1)) ≤ (3 : Int32) then (0 : Int32) else (1 : Int32)) = 0) (a := (s1 ||| ((1 : Int32) <<< ((nI j1) &&& (31 : Int32))))) (b := (if (if ¬ (v_X1_at m 1 g (nI j1)) = (v_X1_at m 1 g a1) then (0 : Int32) else (if (v_X1_at m 3 g a1) ≤ (v_X1_at m 3 g (nI j1)) then (0 : Int32) else (1 : Int32))) = 0 then s1 else (s1 ||| ((1 : Int32) <<< ((nI j1) &&& (31 : Int32)))))) (fun x => (136, [some (vR 0 0 g), some (vI a1), some (vI (v_X1_at m 1 g a1)), some (vI (v_X1_at m 2 g a1)), some (vI (v_X1_at m 3 g a1)), some (vI x), some (vI (nI j1)), some (vI (if ((v_X1_at m 0 g (v_X4_cell m (nI j1) (v_X1_at m 1 g a1))) + (v_X1_at m 2 g a1)) ≤ (3 : Int32) then (0 : Int32) else (1 : Int32))), some (vI (if ¬ (v_X1_at m 1 g (nI j1)) = (v_X1_at m 1 g a1) then (0 : Int32) else (if (v_X1_at m 3 g a1) ≤ (v_X1_at m 3 g (nI j1)) then (0 : Int32) else (1 : Int32))))], [], m)) (fun h9 v9 m9 K12 => ?_) (fun h9 v9 m9 K12 => ?_) _ _ ?_
        · refine an_b 6 (pc2 := 136) (L2 := [some (vR 0 0 g), some (vI a1), some (vI (v_X1_at m 1 g a1)), some (vI (v_X1_at m 2 g a1)), some (vI (v_X1_at m 3 g a1)), some (vI (s1 ||| ((1 : Int32) <<< ((nI j1) &&& (31 : Int32))))), some (vI (nI j1)), some (vI (if ((v_X1_at m 0 g (v_X4_cell m (nI j1) (v_X1_at m 1 g a1))) + (v_X1_at m 2 g a1)) ≤ (3 : Int32) then (0 : Int32) else (1 : Int32))), some (vI (if ¬ (v_X1_at m 1 g (nI j1)) = (v_X1_at m 1 g a1) then (0 : Int32) else (if (v_X1_at m 3 g a1) ≤ (v_X1_at m 3 g (nI j1)) then (0 : Int32) else (1 : Int32))))]) (st2 := []) (m1 := m) rfl ?_
          exact K12
        · refine an_b 2 (pc2 := if (if ¬ (v_X1_at m 1 g (nI j1)) = (v_X1_at m 1 g a1) then (0 : Int32) else (if (v_X1_at m 3 g a1) ≤ (v_X1_at m 3 g (nI j1)) then (0 : Int32) else (1 : Int32))) = 0 then 136 else 127) (L2 := [some (vR 0 0 g), some (vI a1), some (vI (v_X1_at m 1 g a1)), some (vI (v_X1_at m 2 g a1)), some (vI (v_X1_at m 3 g a1)), some (vI s1), some (vI (nI j1)), some (vI (if ((v_X1_at m 0 g (v_X4_cell m (nI j1) (v_X1_at m 1 g a1))) + (v_X1_at m 2 g a1)) ≤ (3 : Int32) then (0 : Int32) else (1 : Int32))), some (vI (if ¬ (v_X1_at m 1 g (nI j1)) = (v_X1_at m 1 g a1) then (0 : Int32) else (if (v_X1_at m 3 g a1) ≤ (v_X1_at m 3 g (nI j1)) then (0 : Int32) else (1 : Int32))))]) (st2 := []) (m1 := m) rfl ?_
          refine re_if1 (c := (if ¬ (v_X1_at m 1 g (nI j1)) = (v_X1_at m 1 g a1) then (0 : Int32) else (if (v_X1_at m 3 g a1) ≤ (v_X1_at m 3 g (nI j1)) then (0 : Int32) else (1 : Int32))) = 0) (a := s1) (b := (s1 ||| ((1 : Int32) <<< ((nI j1) &&& (31 : Int32))))) (fun x => (136, [some (vR 0 0 g), some (vI a1), some (vI (v_X1_at m 1 g a1)), some (vI (v_X1_at m 2 g a1)), some (vI (v_X1_at m 3 g a1)), some (vI x), some (vI (nI j1)), some (vI (if ((v_X1_at m 0 g (v_X4_cell m (nI j1) (v_X1_at m 1 g a1))) + (v_X1_at m 2 g a1)) ≤ (3 : Int32) then (0 : Int32) else (1 : Int32))), some (vI (if ¬ (v_X1_at m 1 g (nI j1)) = (v_X1_at m 1 g a1) then (0 : Int32) else (if (v_X1_at m 3 g a1) ≤ (v_X1_at m 3 g (nI j1)) then (0 : Int32) else (1 : Int32))))], [], m)) (fun h10 v9 m9 K11 => ?_) (fun h10 v9 m9 K11 => ?_) _ _ ?_
          · exact K11
          · refine an_b 6 (pc2 := 136) (L2 := [some (vR 0 0 g), some (vI a1), some (vI (v_X1_at m 1 g a1)), some (vI (v_X1_at m 2 g a1)), some (vI (v_X1_at m 3 g a1)), some (vI (s1 ||| ((1 : Int32) <<< ((nI j1) &&& (31 : Int32))))), some (vI (nI j1)), some (vI (if ((v_X1_at m 0 g (v_X4_cell m (nI j1) (v_X1_at m 1 g a1))) + (v_X1_at m 2 g a1)) ≤ (3 : Int32) then (0 : Int32) else (1 : Int32))), some (vI (if ¬ (v_X1_at m 1 g (nI j1)) = (v_X1_at m 1 g a1) then (0 : Int32) else (if (v_X1_at m 3 g a1) ≤ (v_X1_at m 3 g (nI j1)) then (0 : Int32) else (1 : Int32))))]) (st2 := []) (m1 := m) rfl ?_
            exact K11
          exact K12
        exact K13
      refine an_b 2 (pc2 := 44) (L2 := [some (vR 0 0 g), some (vI a1), some (vI (v_X1_at m 1 g a1)), some (vI (v_X1_at m 2 g a1)), some (vI (v_X1_at m 3 g a1)), some (vI (if (nI j1) = a1 then s1 else (if ¬ (if ((v_X1_at m 0 g (v_X4_cell m (nI j1) (v_X1_at m 1 g a1))) + (v_X1_at m 2 g a1)) ≤ (3 : Int32) then (0 : Int32) else (1 : Int32)) = 0 then (s1 ||| ((1 : Int32) <<< ((nI j1) &&& (31 : Int32)))) else (if (if ¬ (v_X1_at m 1 g (nI j1)) = (v_X1_at m 1 g a1) then (0 : Int32) else (if (v_X1_at m 3 g a1) ≤ (v_X1_at m 3 g (nI j1)) then (0 : Int32) else (1 : Int32))) = 0 then s1 else (s1 ||| ((1 : Int32) <<< ((nI j1) &&& (31 : Int32)))))))), some (vI ((nI j1) + (1 : Int32))), some (vI (if ((v_X1_at m 0 g (v_X4_cell m (nI j1) (v_X1_at m 1 g a1))) + (v_X1_at m 2 g a1)) ≤ (3 : Int32) then (0 : Int32) else (1 : Int32))), some (vI (if ¬ (v_X1_at m 1 g (nI j1)) = (v_X1_at m 1 g a1) then (0 : Int32) else (if (v_X1_at m 3 g a1) ≤ (v_X1_at m 3 g (nI j1)) then (0 : Int32) else (1 : Int32))))]) (st2 := []) (m1 := m) rfl ?_
      refine an_weak (L := [some (vR 0 0 g), some (vI a1), some (vI (v_X1_at m 1 g a1)), some (vI (v_X1_at m 2 g a1)), some (vI (v_X1_at m 3 g a1)), some (vI (if (nI j1) = a1 then s1 else (if ¬ (if ((v_X1_at m 0 g (v_X4_cell m (nI j1) (v_X1_at m 1 g a1))) + (v_X1_at m 2 g a1)) ≤ (3 : Int32) then (0 : Int32) else (1 : Int32)) = 0 then (s1 ||| ((1 : Int32) <<< ((nI j1) &&& (31 : Int32)))) else (if (if ¬ (v_X1_at m 1 g (nI j1)) = (v_X1_at m 1 g a1) then (0 : Int32) else (if (v_X1_at m 3 g a1) ≤ (v_X1_at m 3 g (nI j1)) then (0 : Int32) else (1 : Int32))) = 0 then s1 else (s1 ||| ((1 : Int32) <<< ((nI j1) &&& (31 : Int32)))))))), some (vI ((nI j1) + (1 : Int32))), none, none]) (⟨rfl, rfl, rfl, rfl, rfl, rfl, rfl, trivial⟩) ?_
      refine an_cL (K := [some (vR 0 0 g), some (vI a1), some (vI (v_X1_at m 1 g a1)), some (vI (v_X1_at m 2 g a1)), some (vI (v_X1_at m 3 g a1)), some (vI (if (nI j1) = a1 then s1 else (if ¬ (if ((v_X1_at m 0 g (v_X4_cell m (nI j1) (v_X1_at m 1 g a1))) + (v_X1_at m 2 g a1)) ≤ (3 : Int32) then (0 : Int32) else (1 : Int32)) = 0 then (s1 ||| ((1 : Int32) <<< ((nI j1) &&& (31 : Int32)))) else (if (if ¬ (v_X1_at m 1 g (nI j1)) = (v_X1_at m 1 g a1) then (0 : Int32) else (if (v_X1_at m 3 g a1) ≤ (v_X1_at m 3 g (nI j1)) then (0 : Int32) else (1 : Int32))) = 0 then s1 else (s1 ||| ((1 : Int32) <<< ((nI j1) &&& (31 : Int32)))))))), some (vI (nI (j1 + 1))), none, none]) (by simp only [nI_1]) ?_
      exact K1
    · show An MX2_direct 44 [some (vR 0 0 g), some (vI a1), some (vI (v_X1_at m 1 g a1)), some (vI (v_X1_at m 2 g a1)), some (vI (v_X1_at m 3 g a1)), some (vI s1), some (vI (nI 8)), none, none] [] m v9 m9
      refine an_b 3 (pc2 := if (8 : Int32) ≤ (nI 8) then 142 else 51) (L2 := [some (vR 0 0 g), some (vI a1), some (vI (v_X1_at m 1 g a1)), some (vI (v_X1_at m 2 g a1)), some (vI (v_X1_at m 3 g a1)), some (vI s1), some (vI (nI 8)), none, none]) (st2 := []) (m1 := m) rfl ?_
      refine an_t (nI_le (a := 8) (b := 8) (by omega) (by omega)) ?_
      refine an_weak (L := [some (vR 0 0 g), some (vI a1), some (vI (v_X1_at m 1 g a1)), some (vI (v_X1_at m 2 g a1)), some (vI (v_X1_at m 3 g a1)), some (vI s1), none, none, none]) (⟨rfl, rfl, rfl, rfl, rfl, rfl, trivial⟩) ?_
      exact K1
    show An MX2_direct 142 [some (vR 0 0 g), some (vI a1), some (vI (v_X1_at m 1 g a1)), some (vI (v_X1_at m 2 g a1)), some (vI (v_X1_at m 3 g a1)), some (vI (lp (b_X2_direct_1 m g a1) 8 0 (0 : Int32))), none, none, none] [] m _ _
    refine an_b 1 (pc2 := 144) (L2 := [some (vR 0 0 g), some (vI a1), some (vI (v_X1_at m 1 g a1)), some (vI (v_X1_at m 2 g a1)), some (vI (v_X1_at m 3 g a1)), some (vI (lp (b_X2_direct_1 m g a1) 8 0 (0 : Int32))), none, none, none]) (st2 := [vI (lp (b_X2_direct_1 m g a1) 8 0 (0 : Int32))]) (m1 := m) rfl ?_
    exact an_ret rfl rfl rfl rfl rfl
  · refine an_b 1 (pc2 := 9) (L2 := [some (vR 0 0 g), some (vI a1), none, none, none, none, none, none, none]) (st2 := [vI (0 : Int32)]) (m1 := m) rfl ?_
    exact an_ret rfl rfl rfl rfl rfl
def v_X4_has (m : PM) (a1 : Int32) (a2 : Int32) : Int32 := (if ((a1 >>> (a2 &&& (31 : Int32))) &&& (1 : Int32)) = 0 then (0 : Int32) else (1 : Int32))
set_option maxRecDepth 100000 in
theorem r_X4_has (m : PM) (a1 : Int32) (a2 : Int32) : Rn MX4_has [vI a1, vI a2] m (some (vI (v_X4_has m a1 a2))) m := by
  refine rn_of [some (vI a1), some (vI a2)] rfl ?_
  unfold v_X4_has
  refine an_b 6 (pc2 := if ((a1 >>> (a2 &&& (31 : Int32))) &&& (1 : Int32)) = 0 then 12 else 8) (L2 := [some (vI a1), some (vI a2)]) (st2 := []) (m1 := m) rfl ?_
  refine an_ifi (c := ((a1 >>> (a2 &&& (31 : Int32))) &&& (1 : Int32)) = 0) (fun h1 => ?_) (fun h1 => ?_)
  · refine an_b 1 (pc2 := 13) (L2 := [some (vI a1), some (vI a2)]) (st2 := [vI (0 : Int32)]) (m1 := m) rfl ?_
    exact an_ret rfl rfl rfl rfl rfl
  · refine an_b 2 (pc2 := 13) (L2 := [some (vI a1), some (vI a2)]) (st2 := [vI (1 : Int32)]) (m1 := m) rfl ?_
    exact an_ret rfl rfl rfl rfl rfl
def b_X2_reach_2 (m : PM) (g : Nat) (a1 : Int32) (j1 : Nat) (s1 : Int32) (j2 : Nat) (s2 : Int32) : Int32 := (if (v_X4_has m s1 (nI j2)) = 0 then s2 else (s2 ||| (v_X2_direct m g (nI j2))))
def b_X2_reach_1 (m : PM) (g : Nat) (a1 : Int32)  (j1 : Nat) (s1 : Int32) : (Int32) ⊕ (Int32) := if ¬ (lp (b_X2_reach_2 m g a1 j1 s1) 8 0 s1) = s1 then .inl (lp (b_X2_reach_2 m g a1 j1 s1) 8 0 s1) else .inr s1
def v_X2_reach (m : PM) (g : Nat) (a1 : Int32) : Int32 := (lqv (lq (b_X2_reach_1 m g a1) 8 0 (v_X2_direct m g a1)))
set_option maxRecDepth 100000 in
theorem r_X2_reach (m : PM) (g : Nat) (a1 : Int32) : Rn MX2_reach [vR 0 0 g, vI a1] m (some (vI (v_X2_reach m g a1))) m := by
  refine rn_of [some (vR 0 0 g), some (vI a1), none, none, none, none] rfl ?_
  unfold v_X2_reach
  refine an_b 2 (pc2 := 2) (L2 := [some (vR 0 0 g), some (vI a1), none, none, none, none]) (st2 := [vI a1, vR 0 0 g]) (m1 := m) rfl ?_
  refine an_call (r_X2_direct m g a1) rfl rfl rfl rfl ?_
  refine an_b 3 (pc2 := 8) (L2 := [some (vR 0 0 g), some (vI a1), some (vI (v_X2_direct m g a1)), some (vI (0 : Int32)), none, none]) (st2 := []) (m1 := m) rfl ?_
  refine re_lq (σ := Int32) (ρ := Int32) (b_X2_reach_1 m g a1) (fun j1 s1 => (8, [some (vR 0 0 g), some (vI a1), some (vI s1), some (vI (nI j1)), none, none], [], m)) 8 (fun x9 => (71, [some (vR 0 0 g), some (vI a1), some (vI (lqv x9)), none, none, none], [], m)) (fun j1 s1 hj1 v9 m9 hc1 hr1 => ?_) (fun s1 v9 m9 K1 => ?_) 8 0 (v_X2_direct m g a1) (Nat.add_zero _) _ _ ?_
  · show An MX2_reach 8 [some (vR 0 0 g), some (vI a1), some (vI s1), some (vI (nI j1)), none, none] [] m v9 m9
    refine an_b 3 (pc2 := if (8 : Int32) ≤ (nI j1) then 71 else 14) (L2 := [some (vR 0 0 g), some (vI a1), some (vI s1), some (vI (nI j1)), none, none]) (st2 := []) (m1 := m) rfl ?_
    refine an_f (nI_ge (a := j1) (b := 8) (by omega) (by omega)) ?_
    refine an_b 4 (pc2 := 20) (L2 := [some (vR 0 0 g), some (vI a1), some (vI s1), some (vI (nI j1)), some (vI s1), some (vI (0 : Int32))]) (st2 := []) (m1 := m) rfl ?_
    refine re_lp (σ := Int32) (b_X2_reach_2 m g a1 j1 s1) (fun j2 s2 => (20, [some (vR 0 0 g), some (vI a1), some (vI s1), some (vI (nI j1)), some (vI s2), some (vI (nI j2))], [], m)) 8 (fun s2 => (53, [some (vR 0 0 g), some (vI a1), some (vI s1), some (vI (nI j1)), some (vI s2), none], [], m)) (fun j2 s2 hj2 v9 m9 K2 => ?_) (fun s2 v9 m9 K2 => ?_) 8 0 s1 (Nat.add_zero _) _ _ ?_
    · show An MX2_reach 20 [some (vR 0 0 g), some (vI a1), some (vI s1), some (vI (nI j1)), some (vI s2), some (vI (nI j2))] [] m v9 m9
      refine an_b 3 (pc2 := if (8 : Int32) ≤ (nI j2) then 53 else 27) (L2 := [some (vR 0 0 g), some (vI a1), some (vI s1), some (vI (nI j1)), some (vI s2), some (vI (nI j2))]) (st2 := []) (m1 := m) rfl ?_
      refine an_f (nI_ge (a := j2) (b := 8) (by omega) (by omega)) ?_
      refine an_b 2 (pc2 := 30) (L2 := [some (vR 0 0 g), some (vI a1), some (vI s1), some (vI (nI j1)), some (vI s2), some (vI (nI j2))]) (st2 := [vI (nI j2), vI s1]) (m1 := m) rfl ?_
      refine an_call (r_X4_has m s1 (nI j2)) rfl rfl rfl rfl ?_
      refine an_b 1 (pc2 := if (v_X4_has m s1 (nI j2)) = 0 then 47 else 36) (L2 := [some (vR 0 0 g), some (vI a1), some (vI s1), some (vI (nI j1)), some (vI s2), some (vI (nI j2))]) (st2 := []) (m1 := m) rfl ?_
      refine re_if1 (c := (v_X4_has m s1 (nI j2)) = 0) (a := s2) (b := (s2 ||| (v_X2_direct m g (nI j2)))) (fun x => (47, [some (vR 0 0 g), some (vI a1), some (vI s1), some (vI (nI j1)), some (vI x), some (vI (nI j2))], [], m)) (fun h1 v9 m9 K2 => ?_) (fun h1 v9 m9 K2 => ?_) _ _ ?_
      · exact K2
      · refine an_b 3 (pc2 := 41) (L2 := [some (vR 0 0 g), some (vI a1), some (vI s1), some (vI (nI j1)), some (vI s2), some (vI (nI j2))]) (st2 := [vI (nI j2), vR 0 0 g, vI s2]) (m1 := m) rfl ?_
        refine an_call (r_X2_direct m g (nI j2)) rfl rfl rfl rfl ?_
        refine an_b 2 (pc2 := 47) (L2 := [some (vR 0 0 g), some (vI a1), some (vI s1), some (vI (nI j1)), some (vI (s2 ||| (v_X2_direct m g (nI j2)))), some (vI (nI j2))]) (st2 := []) (m1 := m) rfl ?_
        exact K2
      refine an_b 2 (pc2 := 20) (L2 := [some (vR 0 0 g), some (vI a1), some (vI s1), some (vI (nI j1)), some (vI (if (v_X4_has m s1 (nI j2)) = 0 then s2 else (s2 ||| (v_X2_direct m g (nI j2))))), some (vI ((nI j2) + (1 : Int32)))]) (st2 := []) (m1 := m) rfl ?_
      refine an_cL (K := [some (vR 0 0 g), some (vI a1), some (vI s1), some (vI (nI j1)), some (vI (if (v_X4_has m s1 (nI j2)) = 0 then s2 else (s2 ||| (v_X2_direct m g (nI j2))))), some (vI (nI (j2 + 1)))]) (by simp only [nI_1]) ?_
      exact K2
    · show An MX2_reach 20 [some (vR 0 0 g), some (vI a1), some (vI s1), some (vI (nI j1)), some (vI s2), some (vI (nI 8))] [] m v9 m9
      refine an_b 3 (pc2 := if (8 : Int32) ≤ (nI 8) then 53 else 27) (L2 := [some (vR 0 0 g), some (vI a1), some (vI s1), some (vI (nI j1)), some (vI s2), some (vI (nI 8))]) (st2 := []) (m1 := m) rfl ?_
      refine an_t (nI_le (a := 8) (b := 8) (by omega) (by omega)) ?_
      refine an_weak (L := [some (vR 0 0 g), some (vI a1), some (vI s1), some (vI (nI j1)), some (vI s2), none]) (⟨rfl, rfl, rfl, rfl, rfl, trivial⟩) ?_
      exact K2
    show An MX2_reach 53 [some (vR 0 0 g), some (vI a1), some (vI s1), some (vI (nI j1)), some (vI (lp (b_X2_reach_2 m g a1 j1 s1) 8 0 s1)), none] [] m _ _
    refine an_b 3 (pc2 := if ¬ (lp (b_X2_reach_2 m g a1 j1 s1) 8 0 s1) = s1 then 62 else 59) (L2 := [some (vR 0 0 g), some (vI a1), some (vI s1), some (vI (nI j1)), some (vI (lp (b_X2_reach_2 m g a1 j1 s1) 8 0 s1)), none]) (st2 := []) (m1 := m) rfl ?_
    refine an_if (c := ¬ (lp (b_X2_reach_2 m g a1 j1 s1) 8 0 s1) = s1) (fun h3 => ?_) (fun h3 => ?_)
    · refine an_b 4 (pc2 := 8) (L2 := [some (vR 0 0 g), some (vI a1), some (vI (lp (b_X2_reach_2 m g a1 j1 s1) 8 0 s1)), some (vI ((nI j1) + (1 : Int32))), some (vI (lp (b_X2_reach_2 m g a1 j1 s1) 8 0 s1)), none]) (st2 := []) (m1 := m) rfl ?_
      refine an_weak (L := [some (vR 0 0 g), some (vI a1), some (vI (lp (b_X2_reach_2 m g a1 j1 s1) 8 0 s1)), some (vI ((nI j1) + (1 : Int32))), none, none]) (⟨rfl, rfl, rfl, rfl, trivial⟩) ?_
      refine an_cL (K := [some (vR 0 0 g), some (vI a1), some (vI (lp (b_X2_reach_2 m g a1 j1 s1) 8 0 s1)), some (vI (nI (j1 + 1))), none, none]) (by simp only [nI_1]) ?_
      exact hc1 _ (by unfold b_X2_reach_1; rw [if_pos h3])
    · refine an_b 1 (pc2 := 71) (L2 := [some (vR 0 0 g), some (vI a1), some (vI s1), some (vI (nI j1)), some (vI (lp (b_X2_reach_2 m g a1 j1 s1) 8 0 s1)), none]) (st2 := []) (m1 := m) rfl ?_
      refine an_weak (L := [some (vR 0 0 g), some (vI a1), some (vI s1), none, none, none]) (⟨rfl, rfl, rfl, trivial⟩) ?_
      exact hr1 _ (by unfold b_X2_reach_1; rw [if_neg h3])
  · show An MX2_reach 8 [some (vR 0 0 g), some (vI a1), some (vI s1), some (vI (nI 8)), none, none] [] m v9 m9
    refine an_b 3 (pc2 := if (8 : Int32) ≤ (nI 8) then 71 else 14) (L2 := [some (vR 0 0 g), some (vI a1), some (vI s1), some (vI (nI 8)), none, none]) (st2 := []) (m1 := m) rfl ?_
    refine an_t (nI_le (a := 8) (b := 8) (by omega) (by omega)) ?_
    refine an_weak (L := [some (vR 0 0 g), some (vI a1), some (vI s1), none, none, none]) (⟨rfl, rfl, rfl, trivial⟩) ?_
    exact K1
  show An MX2_reach 71 [some (vR 0 0 g), some (vI a1), some (vI (lqv (lq (b_X2_reach_1 m g a1) 8 0 (v_X2_direct m g a1)))), none, none, none] [] m _ _
  refine an_b 1 (pc2 := 72) (L2 := [some (vR 0 0 g), some (vI a1), some (vI (lqv (lq (b_X2_reach_1 m g a1) 8 0 (v_X2_direct m g a1)))), none, none, none]) (st2 := [vI (lqv (lq (b_X2_reach_1 m g a1) 8 0 (v_X2_direct m g a1)))]) (m1 := m) rfl ?_
  exact an_ret rfl rfl rfl rfl rfl
def b_X2_work_1 (m : PM) (g : Nat) (a1 : Int32)  (j1 : Nat) (s1 : Int32) : Int32 := (s1 + (v_X1_at m 0 g (v_X4_cell m a1 (nI j1))))
def v_X2_work (m : PM) (g : Nat) (a1 : Int32) : Int32 := (lp (b_X2_work_1 m g a1) 12 0 (0 : Int32))
set_option maxRecDepth 100000 in
theorem r_X2_work (m : PM) (g : Nat) (a1 : Int32) : Rn MX2_work [vR 0 0 g, vI a1] m (some (vI (v_X2_work m g a1))) m := by
  refine rn_of [some (vR 0 0 g), some (vI a1), none, none] rfl ?_
  unfold v_X2_work
  refine an_b 4 (pc2 := 4) (L2 := [some (vR 0 0 g), some (vI a1), some (vI (0 : Int32)), some (vI (0 : Int32))]) (st2 := []) (m1 := m) rfl ?_
  refine re_lp (σ := Int32) (b_X2_work_1 m g a1) (fun j1 s1 => (4, [some (vR 0 0 g), some (vI a1), some (vI s1), some (vI (nI j1))], [], m)) 12 (fun s1 => (31, [some (vR 0 0 g), some (vI a1), some (vI s1), none], [], m)) (fun j1 s1 hj1 v9 m9 K1 => ?_) (fun s1 v9 m9 K1 => ?_) 12 0 (0 : Int32) (Nat.add_zero _) _ _ ?_
  · show An MX2_work 4 [some (vR 0 0 g), some (vI a1), some (vI s1), some (vI (nI j1))] [] m v9 m9
    refine an_b 3 (pc2 := if (12 : Int32) ≤ (nI j1) then 31 else 10) (L2 := [some (vR 0 0 g), some (vI a1), some (vI s1), some (vI (nI j1))]) (st2 := []) (m1 := m) rfl ?_
    refine an_f (nI_ge (a := j1) (b := 12) (by omega) (by omega)) ?_
    refine an_b 5 (pc2 := 17) (L2 := [some (vR 0 0 g), some (vI a1), some (vI s1), some (vI (nI j1))]) (st2 := [vI (nI j1), vI a1, vR 1 0 g, vI s1]) (m1 := m) rfl ?_
    refine an_call (r_X4_cell m a1 (nI j1)) rfl rfl rfl rfl ?_
    refine an_call (r_X1_at m 0 g (v_X4_cell m a1 (nI j1))) rfl rfl rfl rfl ?_
    refine an_b 4 (pc2 := 4) (L2 := [some (vR 0 0 g), some (vI a1), some (vI (s1 + (v_X1_at m 0 g (v_X4_cell m a1 (nI j1))))), some (vI ((nI j1) + (1 : Int32)))]) (st2 := []) (m1 := m) rfl ?_
    refine an_cL (K := [some (vR 0 0 g), some (vI a1), some (vI (s1 + (v_X1_at m 0 g (v_X4_cell m a1 (nI j1))))), some (vI (nI (j1 + 1)))]) (by simp only [nI_1]) ?_
    exact K1
  · show An MX2_work 4 [some (vR 0 0 g), some (vI a1), some (vI s1), some (vI (nI 12))] [] m v9 m9
    refine an_b 3 (pc2 := if (12 : Int32) ≤ (nI 12) then 31 else 10) (L2 := [some (vR 0 0 g), some (vI a1), some (vI s1), some (vI (nI 12))]) (st2 := []) (m1 := m) rfl ?_
    refine an_t (nI_le (a := 12) (b := 12) (by omega) (by omega)) ?_
    refine an_weak (L := [some (vR 0 0 g), some (vI a1), some (vI s1), none]) (⟨rfl, rfl, rfl, trivial⟩) ?_
    exact K1
  show An MX2_work 31 [some (vR 0 0 g), some (vI a1), some (vI (lp (b_X2_work_1 m g a1) 12 0 (0 : Int32))), none] [] m _ _
  refine an_b 1 (pc2 := 32) (L2 := [some (vR 0 0 g), some (vI a1), some (vI (lp (b_X2_work_1 m g a1) 12 0 (0 : Int32))), none]) (st2 := [vI (lp (b_X2_work_1 m g a1) 12 0 (0 : Int32))]) (m1 := m) rfl ?_
  exact an_ret rfl rfl rfl rfl rfl
def b_X2_loserFor_1 (m : PM) (g : Nat) (a1 : Int32)  (j1 : Nat) (s1 : Int32 × Int32) : Int32 × Int32 := ((if (v_X4_has m (v_X2_reach m g a1) (nI j1)) = 0 then s1.1 else (if (v_X4_has m (v_X2_reach m g (nI j1)) a1) = 0 then s1.1 else (if s1.1 = (-1 : Int32) then (nI j1) else (if s1.2 < (v_X2_work m g (nI j1)) then s1.1 else (nI j1))))), (if (v_X4_has m (v_X2_reach m g a1) (nI j1)) = 0 then s1.2 else (if (v_X4_has m (v_X2_reach m g (nI j1)) a1) = 0 then s1.2 else (if s1.1 = (-1 : Int32) then (v_X2_work m g (nI j1)) else (if s1.2 < (v_X2_work m g (nI j1)) then s1.2 else (v_X2_work m g (nI j1)))))))
def v_X2_loserFor (m : PM) (g : Nat) (a1 : Int32) : Int32 := (if ¬ (v_X4_has m (v_X2_reach m g a1) a1) = 0 then ((lp (b_X2_loserFor_1 m g a1) 8 0 ((-1 : Int32), (0 : Int32))).1) else (-1 : Int32))
set_option maxRecDepth 100000 in
theorem r_X2_loserFor (m : PM) (g : Nat) (a1 : Int32) : Rn MX2_loserFor [vR 0 0 g, vI a1] m (some (vI (v_X2_loserFor m g a1))) m := by
  refine rn_of [some (vR 0 0 g), some (vI a1), none, none, none, none, none] rfl ?_
  unfold v_X2_loserFor
  refine an_b 2 (pc2 := 2) (L2 := [some (vR 0 0 g), some (vI a1), none, none, none, none, none]) (st2 := [vI a1, vR 0 0 g]) (m1 := m) rfl ?_
  refine an_call (r_X2_reach m g a1) rfl rfl rfl rfl ?_
  refine an_b 5 (pc2 := 10) (L2 := [some (vR 0 0 g), some (vI a1), some (vI (v_X2_reach m g a1)), some (vI (-1 : Int32)), none, none, none]) (st2 := [vI a1, vI (v_X2_reach m g a1)]) (m1 := m) rfl ?_
  refine an_call (r_X4_has m (v_X2_reach m g a1) a1) rfl rfl rfl rfl ?_
  refine an_b 1 (pc2 := if ¬ (v_X4_has m (v_X2_reach m g a1) a1) = 0 then 18 else 16) (L2 := [some (vR 0 0 g), some (vI a1), some (vI (v_X2_reach m g a1)), some (vI (-1 : Int32)), none, none, none]) (st2 := []) (m1 := m) rfl ?_
  refine an_ifi (c := ¬ (v_X4_has m (v_X2_reach m g a1) a1) = 0) (fun h1 => ?_) (fun h1 => ?_)
  · refine an_b 4 (pc2 := 24) (L2 := [some (vR 0 0 g), some (vI a1), some (vI (v_X2_reach m g a1)), some (vI (-1 : Int32)), some (vI (0 : Int32)), some (vI (0 : Int32)), none]) (st2 := []) (m1 := m) rfl ?_
    refine re_lp (σ := Int32 × Int32) (b_X2_loserFor_1 m g a1) (fun j1 s1 => (24, [some (vR 0 0 g), some (vI a1), some (vI (v_X2_reach m g a1)), some (vI s1.1), some (vI s1.2), some (vI (nI j1)), none], [], m)) 8 (fun s1 => (86, [some (vR 0 0 g), some (vI a1), some (vI (v_X2_reach m g a1)), some (vI s1.1), none, none, none], [], m)) (fun j1 s1 hj1 v9 m9 K1 => ?_) (fun s1 v9 m9 K1 => ?_) 8 0 ((-1 : Int32), (0 : Int32)) (Nat.add_zero _) _ _ ?_
    · show An MX2_loserFor 24 [some (vR 0 0 g), some (vI a1), some (vI (v_X2_reach m g a1)), some (vI s1.1), some (vI s1.2), some (vI (nI j1)), none] [] m v9 m9
      refine an_b 3 (pc2 := if (8 : Int32) ≤ (nI j1) then 86 else 31) (L2 := [some (vR 0 0 g), some (vI a1), some (vI (v_X2_reach m g a1)), some (vI s1.1), some (vI s1.2), some (vI (nI j1)), none]) (st2 := []) (m1 := m) rfl ?_
      refine an_f (nI_ge (a := j1) (b := 8) (by omega) (by omega)) ?_
      refine an_b 2 (pc2 := 34) (L2 := [some (vR 0 0 g), some (vI a1), some (vI (v_X2_reach m g a1)), some (vI s1.1), some (vI s1.2), some (vI (nI j1)), none]) (st2 := [vI (nI j1), vI (v_X2_reach m g a1)]) (m1 := m) rfl ?_
      refine an_call (r_X4_has m (v_X2_reach m g a1) (nI j1)) rfl rfl rfl rfl ?_
      refine an_b 1 (pc2 := if (v_X4_has m (v_X2_reach m g a1) (nI j1)) = 0 then 80 else 40) (L2 := [some (vR 0 0 g), some (vI a1), some (vI (v_X2_reach m g a1)), some (vI s1.1), some (vI s1.2), some (vI (nI j1)), none]) (st2 := []) (m1 := m) rfl ?_
      refine re_if2 (c := (v_X4_has m (v_X2_reach m g a1) (nI j1)) = 0) (a := s1.1) (b := (if (v_X4_has m (v_X2_reach m g (nI j1)) a1) = 0 then s1.1 else (if s1.1 = (-1 : Int32) then (nI j1) else (if s1.2 < (v_X2_work m g (nI j1)) then s1.1 else (nI j1))))) (x := s1.2) (y := (if (v_X4_has m (v_X2_reach m g (nI j1)) a1) = 0 then s1.2 else (if s1.1 = (-1 : Int32) then (v_X2_work m g (nI j1)) else (if s1.2 < (v_X2_work m g (nI j1)) then s1.2 else (v_X2_work m g (nI j1)))))) (fun x y => (80, [some (vR 0 0 g), some (vI a1), some (vI (v_X2_reach m g a1)), some (vI x), some (vI y), some (vI (nI j1)), none], [], m)) (fun h2 v9 m9 K9 => ?_) (fun h2 v9 m9 K9 => ?_) _ _ ?_
      · exact K9
      · refine an_b 2 (pc2 := 43) (L2 := [some (vR 0 0 g), some (vI a1), some (vI (v_X2_reach m g a1)), some (vI s1.1), some (vI s1.2), some (vI (nI j1)), none]) (st2 := [vI (nI j1), vR 0 0 g]) (m1 := m) rfl ?_
        refine an_call (r_X2_reach m g (nI j1)) rfl rfl rfl rfl ?_
        refine an_b 1 (pc2 := 47) (L2 := [some (vR 0 0 g), some (vI a1), some (vI (v_X2_reach m g a1)), some (vI s1.1), some (vI s1.2), some (vI (nI j1)), none]) (st2 := [vI a1, vI (v_X2_reach m g (nI j1))]) (m1 := m) rfl ?_
        refine an_call (r_X4_has m (v_X2_reach m g (nI j1)) a1) rfl rfl rfl rfl ?_
        refine an_b 1 (pc2 := if (v_X4_has m (v_X2_reach m g (nI j1)) a1) = 0 then 80 else 53) (L2 := [some (vR 0 0 g), some (vI a1), some (vI (v_X2_reach m g a1)), some (vI s1.1), some (vI s1.2), some (vI (nI j1)), none]) (st2 := []) (m1 := m) rfl ?_
        refine re_if2 (c := (v_X4_has m (v_X2_reach m g (nI j1)) a1) = 0) (a := s1.1) (b := (if s1.1 = (-1 : Int32) then (nI j1) else (if s1.2 < (v_X2_work m g (nI j1)) then s1.1 else (nI j1)))) (x := s1.2) (y := (if s1.1 = (-1 : Int32) then (v_X2_work m g (nI j1)) else (if s1.2 < (v_X2_work m g (nI j1)) then s1.2 else (v_X2_work m g (nI j1))))) (fun x y => (80, [some (vR 0 0 g), some (vI a1), some (vI (v_X2_reach m g a1)), some (vI x), some (vI y), some (vI (nI j1)), none], [], m)) (fun h3 v9 m9 K8 => ?_) (fun h3 v9 m9 K8 => ?_) _ _ ?_
        · exact K8
        · refine an_b 2 (pc2 := 56) (L2 := [some (vR 0 0 g), some (vI a1), some (vI (v_X2_reach m g a1)), some (vI s1.1), some (vI s1.2), some (vI (nI j1)), none]) (st2 := [vI (nI j1), vR 0 0 g]) (m1 := m) rfl ?_
          refine an_call (r_X2_work m g (nI j1)) rfl rfl rfl rfl ?_
          refine an_b 4 (pc2 := if s1.1 = (-1 : Int32) then 73 else 66) (L2 := [some (vR 0 0 g), some (vI a1), some (vI (v_X2_reach m g a1)), some (vI s1.1), some (vI s1.2), some (vI (nI j1)), some (vI (v_X2_work m g (nI j1)))]) (st2 := []) (m1 := m) rfl ?_
          refine re_if2 (c := s1.1 = (-1 : Int32)) (a := (nI j1)) (b := (if s1.2 < (v_X2_work m g (nI j1)) then s1.1 else (nI j1))) (x := (v_X2_work m g (nI j1))) (y := (if s1.2 < (v_X2_work m g (nI j1)) then s1.2 else (v_X2_work m g (nI j1)))) (fun x y => (80, [some (vR 0 0 g), some (vI a1), some (vI (v_X2_reach m g a1)), some (vI x), some (vI y), some (vI (nI j1)), some (vI (v_X2_work m g (nI j1)))], [], m)) (fun h4 v9 m9 K7 => ?_) (fun h4 v9 m9 K7 => ?_) _ _ ?_
          · refine an_b 4 (pc2 := 80) (L2 := [some (vR 0 0 g), some (vI a1), some (vI (v_X2_reach m g a1)), some (vI (nI j1)), some (vI (v_X2_work m g (nI j1))), some (vI (nI j1)), some (vI (v_X2_work m g (nI j1)))]) (st2 := []) (m1 := m) rfl ?_
            exact K7
          · refine an_b 3 (pc2 := if s1.2 < (v_X2_work m g (nI j1)) then 80 else 73) (L2 := [some (vR 0 0 g), some (vI a1), some (vI (v_X2_reach m g a1)), some (vI s1.1), some (vI s1.2), some (vI (nI j1)), some (vI (v_X2_work m g (nI j1)))]) (st2 := []) (m1 := m) rfl ?_
            refine re_if2 (c := s1.2 < (v_X2_work m g (nI j1))) (a := s1.1) (b := (nI j1)) (x := s1.2) (y := (v_X2_work m g (nI j1))) (fun x y => (80, [some (vR 0 0 g), some (vI a1), some (vI (v_X2_reach m g a1)), some (vI x), some (vI y), some (vI (nI j1)), some (vI (v_X2_work m g (nI j1)))], [], m)) (fun h5 v9 m9 K6 => ?_) (fun h5 v9 m9 K6 => ?_) _ _ ?_
            · exact K6
            · refine an_b 4 (pc2 := 80) (L2 := [some (vR 0 0 g), some (vI a1), some (vI (v_X2_reach m g a1)), some (vI (nI j1)), some (vI (v_X2_work m g (nI j1))), some (vI (nI j1)), some (vI (v_X2_work m g (nI j1)))]) (st2 := []) (m1 := m) rfl ?_
              exact K6
            exact K7
          refine an_weak (L := [some (vR 0 0 g), some (vI a1), some (vI (v_X2_reach m g a1)), some (vI (if s1.1 = (-1 : Int32) then (nI j1) else (if s1.2 < (v_X2_work m g (nI j1)) then s1.1 else (nI j1)))), some (vI (if s1.1 = (-1 : Int32) then (v_X2_work m g (nI j1)) else (if s1.2 < (v_X2_work m g (nI j1)) then s1.2 else (v_X2_work m g (nI j1))))), some (vI (nI j1)), none]) (⟨rfl, rfl, rfl, rfl, rfl, rfl, trivial⟩) ?_
          exact K8
        exact K9
      refine an_b 2 (pc2 := 24) (L2 := [some (vR 0 0 g), some (vI a1), some (vI (v_X2_reach m g a1)), some (vI (if (v_X4_has m (v_X2_reach m g a1) (nI j1)) = 0 then s1.1 else (if (v_X4_has m (v_X2_reach m g (nI j1)) a1) = 0 then s1.1 else (if s1.1 = (-1 : Int32) then (nI j1) else (if s1.2 < (v_X2_work m g (nI j1)) then s1.1 else (nI j1)))))), some (vI (if (v_X4_has m (v_X2_reach m g a1) (nI j1)) = 0 then s1.2 else (if (v_X4_has m (v_X2_reach m g (nI j1)) a1) = 0 then s1.2 else (if s1.1 = (-1 : Int32) then (v_X2_work m g (nI j1)) else (if s1.2 < (v_X2_work m g (nI j1)) then s1.2 else (v_X2_work m g (nI j1))))))), some (vI ((nI j1) + (1 : Int32))), none]) (st2 := []) (m1 := m) rfl ?_
      refine an_cL (K := [some (vR 0 0 g), some (vI a1), some (vI (v_X2_reach m g a1)), some (vI (if (v_X4_has m (v_X2_reach m g a1) (nI j1)) = 0 then s1.1 else (if (v_X4_has m (v_X2_reach m g (nI j1)) a1) = 0 then s1.1 else (if s1.1 = (-1 : Int32) then (nI j1) else (if s1.2 < (v_X2_work m g (nI j1)) then s1.1 else (nI j1)))))), some (vI (if (v_X4_has m (v_X2_reach m g a1) (nI j1)) = 0 then s1.2 else (if (v_X4_has m (v_X2_reach m g (nI j1)) a1) = 0 then s1.2 else (if s1.1 = (-1 : Int32) then (v_X2_work m g (nI j1)) else (if s1.2 < (v_X2_work m g (nI j1)) then s1.2 else (v_X2_work m g (nI j1))))))), some (vI (nI (j1 + 1))), none]) (by simp only [nI_1]) ?_
      exact K1
    · show An MX2_loserFor 24 [some (vR 0 0 g), some (vI a1), some (vI (v_X2_reach m g a1)), some (vI s1.1), some (vI s1.2), some (vI (nI 8)), none] [] m v9 m9
      refine an_b 3 (pc2 := if (8 : Int32) ≤ (nI 8) then 86 else 31) (L2 := [some (vR 0 0 g), some (vI a1), some (vI (v_X2_reach m g a1)), some (vI s1.1), some (vI s1.2), some (vI (nI 8)), none]) (st2 := []) (m1 := m) rfl ?_
      refine an_t (nI_le (a := 8) (b := 8) (by omega) (by omega)) ?_
      refine an_weak (L := [some (vR 0 0 g), some (vI a1), some (vI (v_X2_reach m g a1)), some (vI s1.1), none, none, none]) (⟨rfl, rfl, rfl, rfl, trivial⟩) ?_
      exact K1
    show An MX2_loserFor 86 [some (vR 0 0 g), some (vI a1), some (vI (v_X2_reach m g a1)), some (vI ((lp (b_X2_loserFor_1 m g a1) 8 0 ((-1 : Int32), (0 : Int32))).1)), none, none, none] [] m _ _
    refine an_b 1 (pc2 := 87) (L2 := [some (vR 0 0 g), some (vI a1), some (vI (v_X2_reach m g a1)), some (vI ((lp (b_X2_loserFor_1 m g a1) 8 0 ((-1 : Int32), (0 : Int32))).1)), none, none, none]) (st2 := [vI ((lp (b_X2_loserFor_1 m g a1) 8 0 ((-1 : Int32), (0 : Int32))).1)]) (m1 := m) rfl ?_
    exact an_ret rfl rfl rfl rfl rfl
  · refine an_b 1 (pc2 := 17) (L2 := [some (vR 0 0 g), some (vI a1), some (vI (v_X2_reach m g a1)), some (vI (-1 : Int32)), none, none, none]) (st2 := [vI (-1 : Int32)]) (m1 := m) rfl ?_
    exact an_ret rfl rfl rfl rfl rfl
def b_X2_strip_1 (m : PM) (g : Nat) (a1 : Int32)  (j1 : Nat) (s1 : Int32 × PM) : Int32 × PM := ((if (v_X1_at s1.2 0 g (v_X4_cell s1.2 a1 (nI j1))) ≤ 0 then s1.1 else (s1.1 ||| ((1 : Int32) <<< ((nI j1) &&& (31 : Int32))))), (if (v_X1_at s1.2 0 g (v_X4_cell s1.2 a1 (nI j1))) ≤ 0 then s1.2 else (w_X1_put s1.2 0 g (v_X4_cell s1.2 a1 (nI j1)) (0 : Int32))))
def v_X2_strip (m : PM) (g : Nat) (a1 : Int32) : Int32 := (if (v_X2_isWaiting ((lp (b_X2_strip_1 m g a1) 12 0 ((0 : Int32), m)).2) g a1) = 0 then ((lp (b_X2_strip_1 m g a1) 12 0 ((0 : Int32), m)).1) else (((lp (b_X2_strip_1 m g a1) 12 0 ((0 : Int32), m)).1) ||| ((1 : Int32) <<< ((v_X1_at ((lp (b_X2_strip_1 m g a1) 12 0 ((0 : Int32), m)).2) 1 g a1) &&& (31 : Int32)))))
def w_X2_strip (m : PM) (g : Nat) (a1 : Int32) : PM := (w_X1_raise (if (v_X2_isWaiting ((lp (b_X2_strip_1 m g a1) 12 0 ((0 : Int32), m)).2) g a1) = 0 then (lp (b_X2_strip_1 m g a1) 12 0 ((0 : Int32), m)).2 else (w_X2_dequeue ((lp (b_X2_strip_1 m g a1) 12 0 ((0 : Int32), m)).2) g a1)) 7 g a1)
set_option maxRecDepth 100000 in
theorem r_X2_strip (m : PM) (g : Nat) (a1 : Int32) : Rn MX2_strip [vR 0 0 g, vI a1] m (some (vI (v_X2_strip m g a1))) (w_X2_strip m g a1) := by
  refine rn_of [some (vR 0 0 g), some (vI a1), none, none] rfl ?_
  unfold v_X2_strip w_X2_strip
  refine an_b 4 (pc2 := 4) (L2 := [some (vR 0 0 g), some (vI a1), some (vI (0 : Int32)), some (vI (0 : Int32))]) (st2 := []) (m1 := m) rfl ?_
  refine re_lp (σ := Int32 × PM) (b_X2_strip_1 m g a1) (fun j1 s1 => (4, [some (vR 0 0 g), some (vI a1), some (vI s1.1), some (vI (nI j1))], [], s1.2)) 12 (fun s1 => (50, [some (vR 0 0 g), some (vI a1), some (vI s1.1), none], [], s1.2)) (fun j1 s1 hj1 v9 m9 K1 => ?_) (fun s1 v9 m9 K1 => ?_) 12 0 ((0 : Int32), m) (Nat.add_zero _) _ _ ?_
  · show An MX2_strip 4 [some (vR 0 0 g), some (vI a1), some (vI s1.1), some (vI (nI j1))] [] s1.2 v9 m9
    refine an_b 3 (pc2 := if (12 : Int32) ≤ (nI j1) then 50 else 10) (L2 := [some (vR 0 0 g), some (vI a1), some (vI s1.1), some (vI (nI j1))]) (st2 := []) (m1 := s1.2) rfl ?_
    refine an_f (nI_ge (a := j1) (b := 12) (by omega) (by omega)) ?_
    refine an_b 4 (pc2 := 16) (L2 := [some (vR 0 0 g), some (vI a1), some (vI s1.1), some (vI (nI j1))]) (st2 := [vI (nI j1), vI a1, vR 1 0 g]) (m1 := s1.2) rfl ?_
    refine an_call (r_X4_cell s1.2 a1 (nI j1)) rfl rfl rfl rfl ?_
    refine an_call (r_X1_at s1.2 0 g (v_X4_cell s1.2 a1 (nI j1))) rfl rfl rfl rfl ?_
    refine an_b 1 (pc2 := if (v_X1_at s1.2 0 g (v_X4_cell s1.2 a1 (nI j1))) ≤ 0 then 44 else 25) (L2 := [some (vR 0 0 g), some (vI a1), some (vI s1.1), some (vI (nI j1))]) (st2 := []) (m1 := s1.2) rfl ?_
    refine re_if2 (c := (v_X1_at s1.2 0 g (v_X4_cell s1.2 a1 (nI j1))) ≤ 0) (a := s1.1) (b := (s1.1 ||| ((1 : Int32) <<< ((nI j1) &&& (31 : Int32))))) (x := s1.2) (y := (w_X1_put s1.2 0 g (v_X4_cell s1.2 a1 (nI j1)) (0 : Int32))) (fun x y => (44, [some (vR 0 0 g), some (vI a1), some (vI x), some (vI (nI j1))], [], y)) (fun h1 v9 m9 K2 => ?_) (fun h1 v9 m9 K2 => ?_) _ _ ?_
    · exact K2
    · refine an_b 10 (pc2 := 37) (L2 := [some (vR 0 0 g), some (vI a1), some (vI (s1.1 ||| ((1 : Int32) <<< ((nI j1) &&& (31 : Int32))))), some (vI (nI j1))]) (st2 := [vI (nI j1), vI a1, vR 1 0 g]) (m1 := s1.2) rfl ?_
      refine an_call (r_X4_cell s1.2 a1 (nI j1)) rfl rfl rfl rfl ?_
      refine an_b 1 (pc2 := 41) (L2 := [some (vR 0 0 g), some (vI a1), some (vI (s1.1 ||| ((1 : Int32) <<< ((nI j1) &&& (31 : Int32))))), some (vI (nI j1))]) (st2 := [vI (0 : Int32), vI (v_X4_cell s1.2 a1 (nI j1)), vR 1 0 g]) (m1 := s1.2) rfl ?_
      refine an_call (r_X1_put s1.2 0 g (v_X4_cell s1.2 a1 (nI j1)) (0 : Int32)) rfl rfl rfl rfl ?_
      exact K2
    refine an_b 2 (pc2 := 4) (L2 := [some (vR 0 0 g), some (vI a1), some (vI (if (v_X1_at s1.2 0 g (v_X4_cell s1.2 a1 (nI j1))) ≤ 0 then s1.1 else (s1.1 ||| ((1 : Int32) <<< ((nI j1) &&& (31 : Int32)))))), some (vI ((nI j1) + (1 : Int32)))]) (st2 := []) (m1 := (if (v_X1_at s1.2 0 g (v_X4_cell s1.2 a1 (nI j1))) ≤ 0 then s1.2 else (w_X1_put s1.2 0 g (v_X4_cell s1.2 a1 (nI j1)) (0 : Int32)))) rfl ?_
    refine an_cL (K := [some (vR 0 0 g), some (vI a1), some (vI (if (v_X1_at s1.2 0 g (v_X4_cell s1.2 a1 (nI j1))) ≤ 0 then s1.1 else (s1.1 ||| ((1 : Int32) <<< ((nI j1) &&& (31 : Int32)))))), some (vI (nI (j1 + 1)))]) (by simp only [nI_1]) ?_
    exact K1
  · show An MX2_strip 4 [some (vR 0 0 g), some (vI a1), some (vI s1.1), some (vI (nI 12))] [] s1.2 v9 m9
    refine an_b 3 (pc2 := if (12 : Int32) ≤ (nI 12) then 50 else 10) (L2 := [some (vR 0 0 g), some (vI a1), some (vI s1.1), some (vI (nI 12))]) (st2 := []) (m1 := s1.2) rfl ?_
    refine an_t (nI_le (a := 12) (b := 12) (by omega) (by omega)) ?_
    refine an_weak (L := [some (vR 0 0 g), some (vI a1), some (vI s1.1), none]) (⟨rfl, rfl, rfl, trivial⟩) ?_
    exact K1
  show An MX2_strip 50 [some (vR 0 0 g), some (vI a1), some (vI ((lp (b_X2_strip_1 m g a1) 12 0 ((0 : Int32), m)).1)), none] [] (lp (b_X2_strip_1 m g a1) 12 0 ((0 : Int32), m)).2 _ _
  refine an_b 2 (pc2 := 52) (L2 := [some (vR 0 0 g), some (vI a1), some (vI ((lp (b_X2_strip_1 m g a1) 12 0 ((0 : Int32), m)).1)), none]) (st2 := [vI a1, vR 0 0 g]) (m1 := (lp (b_X2_strip_1 m g a1) 12 0 ((0 : Int32), m)).2) rfl ?_
  refine an_call (r_X2_isWaiting ((lp (b_X2_strip_1 m g a1) 12 0 ((0 : Int32), m)).2) g a1) rfl rfl rfl rfl ?_
  refine an_b 1 (pc2 := if (v_X2_isWaiting ((lp (b_X2_strip_1 m g a1) 12 0 ((0 : Int32), m)).2) g a1) = 0 then 76 else 58) (L2 := [some (vR 0 0 g), some (vI a1), some (vI ((lp (b_X2_strip_1 m g a1) 12 0 ((0 : Int32), m)).1)), none]) (st2 := []) (m1 := (lp (b_X2_strip_1 m g a1) 12 0 ((0 : Int32), m)).2) rfl ?_
  refine re_if2 (c := (v_X2_isWaiting ((lp (b_X2_strip_1 m g a1) 12 0 ((0 : Int32), m)).2) g a1) = 0) (a := (lp (b_X2_strip_1 m g a1) 12 0 ((0 : Int32), m)).1) (b := (((lp (b_X2_strip_1 m g a1) 12 0 ((0 : Int32), m)).1) ||| ((1 : Int32) <<< ((v_X1_at ((lp (b_X2_strip_1 m g a1) 12 0 ((0 : Int32), m)).2) 1 g a1) &&& (31 : Int32))))) (x := (lp (b_X2_strip_1 m g a1) 12 0 ((0 : Int32), m)).2) (y := (w_X2_dequeue ((lp (b_X2_strip_1 m g a1) 12 0 ((0 : Int32), m)).2) g a1)) (fun x y => (76, [some (vR 0 0 g), some (vI a1), some (vI x), none], [], y)) (fun h3 v9 m9 K4 => ?_) (fun h3 v9 m9 K4 => ?_) _ _ ?_
  · exact K4
  · refine an_b 5 (pc2 := 65) (L2 := [some (vR 0 0 g), some (vI a1), some (vI ((lp (b_X2_strip_1 m g a1) 12 0 ((0 : Int32), m)).1)), none]) (st2 := [vI a1, vR 1 1 g, vI (1 : Int32), vI ((lp (b_X2_strip_1 m g a1) 12 0 ((0 : Int32), m)).1)]) (m1 := (lp (b_X2_strip_1 m g a1) 12 0 ((0 : Int32), m)).2) rfl ?_
    refine an_call (r_X1_at ((lp (b_X2_strip_1 m g a1) 12 0 ((0 : Int32), m)).2) 1 g a1) rfl rfl rfl rfl ?_
    refine an_b 5 (pc2 := 73) (L2 := [some (vR 0 0 g), some (vI a1), some (vI (((lp (b_X2_strip_1 m g a1) 12 0 ((0 : Int32), m)).1) ||| ((1 : Int32) <<< ((v_X1_at ((lp (b_X2_strip_1 m g a1) 12 0 ((0 : Int32), m)).2) 1 g a1) &&& (31 : Int32))))), none]) (st2 := [vI a1, vR 0 0 g]) (m1 := (lp (b_X2_strip_1 m g a1) 12 0 ((0 : Int32), m)).2) rfl ?_
    refine an_call (r_X2_dequeue ((lp (b_X2_strip_1 m g a1) 12 0 ((0 : Int32), m)).2) g a1) rfl rfl rfl rfl ?_
    exact K4
  refine an_b 3 (pc2 := 81) (L2 := [some (vR 0 0 g), some (vI a1), some (vI (if (v_X2_isWaiting ((lp (b_X2_strip_1 m g a1) 12 0 ((0 : Int32), m)).2) g a1) = 0 then ((lp (b_X2_strip_1 m g a1) 12 0 ((0 : Int32), m)).1) else (((lp (b_X2_strip_1 m g a1) 12 0 ((0 : Int32), m)).1) ||| ((1 : Int32) <<< ((v_X1_at ((lp (b_X2_strip_1 m g a1) 12 0 ((0 : Int32), m)).2) 1 g a1) &&& (31 : Int32)))))), none]) (st2 := [vI a1, vR 1 7 g]) (m1 := (if (v_X2_isWaiting ((lp (b_X2_strip_1 m g a1) 12 0 ((0 : Int32), m)).2) g a1) = 0 then (lp (b_X2_strip_1 m g a1) 12 0 ((0 : Int32), m)).2 else (w_X2_dequeue ((lp (b_X2_strip_1 m g a1) 12 0 ((0 : Int32), m)).2) g a1))) rfl ?_
  refine an_call (r_X1_raise (if (v_X2_isWaiting ((lp (b_X2_strip_1 m g a1) 12 0 ((0 : Int32), m)).2) g a1) = 0 then (lp (b_X2_strip_1 m g a1) 12 0 ((0 : Int32), m)).2 else (w_X2_dequeue ((lp (b_X2_strip_1 m g a1) 12 0 ((0 : Int32), m)).2) g a1)) 7 g a1) rfl rfl rfl rfl ?_
  refine an_b 1 (pc2 := 85) (L2 := [some (vR 0 0 g), some (vI a1), some (vI (if (v_X2_isWaiting ((lp (b_X2_strip_1 m g a1) 12 0 ((0 : Int32), m)).2) g a1) = 0 then ((lp (b_X2_strip_1 m g a1) 12 0 ((0 : Int32), m)).1) else (((lp (b_X2_strip_1 m g a1) 12 0 ((0 : Int32), m)).1) ||| ((1 : Int32) <<< ((v_X1_at ((lp (b_X2_strip_1 m g a1) 12 0 ((0 : Int32), m)).2) 1 g a1) &&& (31 : Int32)))))), none]) (st2 := [vI (if (v_X2_isWaiting ((lp (b_X2_strip_1 m g a1) 12 0 ((0 : Int32), m)).2) g a1) = 0 then ((lp (b_X2_strip_1 m g a1) 12 0 ((0 : Int32), m)).1) else (((lp (b_X2_strip_1 m g a1) 12 0 ((0 : Int32), m)).1) ||| ((1 : Int32) <<< ((v_X1_at ((lp (b_X2_strip_1 m g a1) 12 0 ((0 : Int32), m)).2) 1 g a1) &&& (31 : Int32)))))]) (m1 := (w_X1_raise (if (v_X2_isWaiting ((lp (b_X2_strip_1 m g a1) 12 0 ((0 : Int32), m)).2) g a1) = 0 then (lp (b_X2_strip_1 m g a1) 12 0 ((0 : Int32), m)).2 else (w_X2_dequeue ((lp (b_X2_strip_1 m g a1) 12 0 ((0 : Int32), m)).2) g a1)) 7 g a1)) rfl ?_
  exact an_ret rfl rfl rfl rfl rfl
def b_X2_takeAsking_2 (m : PM) (g : Nat) (a1 : Int32) (a2 : Int32) (a3 : Int32) (j1 : Nat) (s1 : PM) (j2 : Nat) (s2 : PM) : PM := (if (v_X4_has s2 (v_X2_strip s1 g (v_X2_loserFor s1 g a1)) (nI j2)) = 0 then s2 else (w_X2_settle s2 g (nI j2)))
def b_X2_takeAsking_1 (m : PM) (g : Nat) (a1 : Int32) (a2 : Int32) (a3 : Int32)  (j1 : Nat) (s1 : PM) : (PM) ⊕ (PM) := if ¬ (v_X2_loserFor s1 g a1) = (-1 : Int32) then .inl (lp (b_X2_takeAsking_2 m g a1 a2 a3 j1 s1) 12 0 (w_X2_strip s1 g (v_X2_loserFor s1 g a1))) else .inr s1
def v_X2_takeAsking (m : PM) (g : Nat) (a1 : Int32) (a2 : Int32) (a3 : Int32) : Int32 := (if (v_X1_at (w_X1_raise m 9 g a1) 0 g (v_X4_cell (w_X1_raise m 9 g a1) a1 a2)) < a3 then (if (v_X1_at (lqv (lq (b_X2_takeAsking_1 m g a1 a2 a3) 8 0 (w_X2_settle (w_X2_enqueue (w_X1_raise m 9 g a1) g a1 a2 a3) g a2))) 0 g (v_X4_cell (lqv (lq (b_X2_takeAsking_1 m g a1 a2 a3) 8 0 (w_X2_settle (w_X2_enqueue (w_X1_raise m 9 g a1) g a1 a2 a3) g a2))) a1 a2)) < a3 then (if (v_X2_isWaiting (lqv (lq (b_X2_takeAsking_1 m g a1 a2 a3) 8 0 (w_X2_settle (w_X2_enqueue (w_X1_raise m 9 g a1) g a1 a2 a3) g a2))) g a1) = 0 then (2 : Int32) else (1 : Int32)) else (0 : Int32)) else (0 : Int32))
def w_X2_takeAsking (m : PM) (g : Nat) (a1 : Int32) (a2 : Int32) (a3 : Int32) : PM := (if (v_X1_at (w_X1_raise m 9 g a1) 0 g (v_X4_cell (w_X1_raise m 9 g a1) a1 a2)) < a3 then (lqv (lq (b_X2_takeAsking_1 m g a1 a2 a3) 8 0 (w_X2_settle (w_X2_enqueue (w_X1_raise m 9 g a1) g a1 a2 a3) g a2))) else (w_X1_raise (w_X1_raise m 9 g a1) 8 g a1))
set_option maxRecDepth 100000 in
theorem r_X2_takeAsking (m : PM) (g : Nat) (a1 : Int32) (a2 : Int32) (a3 : Int32) : Rn MX2_takeAsking [vR 0 0 g, vI a1, vI a2, vI a3] m (some (vI (v_X2_takeAsking m g a1 a2 a3))) (w_X2_takeAsking m g a1 a2 a3) := by
  refine rn_of [some (vR 0 0 g), some (vI a1), some (vI a2), some (vI a3), none, none, none, none] rfl ?_
  unfold v_X2_takeAsking w_X2_takeAsking
  refine an_b 3 (pc2 := 5) (L2 := [some (vR 0 0 g), some (vI a1), some (vI a2), some (vI a3), none, none, none, none]) (st2 := [vI a1, vR 1 9 g]) (m1 := m) rfl ?_
  refine an_call (r_X1_raise m 9 g a1) rfl rfl rfl rfl ?_
  refine an_b 4 (pc2 := 14) (L2 := [some (vR 0 0 g), some (vI a1), some (vI a2), some (vI a3), none, none, none, none]) (st2 := [vI a2, vI a1, vR 1 0 g]) (m1 := (w_X1_raise m 9 g a1)) rfl ?_
  refine an_call (r_X4_cell (w_X1_raise m 9 g a1) a1 a2) rfl rfl rfl rfl ?_
  refine an_call (r_X1_at (w_X1_raise m 9 g a1) 0 g (v_X4_cell (w_X1_raise m 9 g a1) a1 a2)) rfl rfl rfl rfl ?_
  refine an_b 2 (pc2 := if (v_X1_at (w_X1_raise m 9 g a1) 0 g (v_X4_cell (w_X1_raise m 9 g a1) a1 a2)) < a3 then 34 else 24) (L2 := [some (vR 0 0 g), some (vI a1), some (vI a2), some (vI a3), none, none, none, none]) (st2 := []) (m1 := (w_X1_raise m 9 g a1)) rfl ?_
  refine an_ifim (c := (v_X1_at (w_X1_raise m 9 g a1) 0 g (v_X4_cell (w_X1_raise m 9 g a1) a1 a2)) < a3) (fun h1 => ?_) (fun h1 => ?_)
  · refine an_b 4 (pc2 := 38) (L2 := [some (vR 0 0 g), some (vI a1), some (vI a2), some (vI a3), none, none, none, none]) (st2 := [vI a3, vI a2, vI a1, vR 0 0 g]) (m1 := (w_X1_raise m 9 g a1)) rfl ?_
    refine an_call (r_X2_enqueue (w_X1_raise m 9 g a1) g a1 a2 a3) rfl rfl rfl rfl ?_
    refine an_b 2 (pc2 := 43) (L2 := [some (vR 0 0 g), some (vI a1), some (vI a2), some (vI a3), none, none, none, none]) (st2 := [vI a2, vR 0 0 g]) (m1 := (w_X2_enqueue (w_X1_raise m 9 g a1) g a1 a2 a3)) rfl ?_
    refine an_call (r_X2_settle (w_X2_enqueue (w_X1_raise m 9 g a1) g a1 a2 a3) g a2) rfl rfl rfl rfl ?_
    refine an_b 3 (pc2 := 50) (L2 := [some (vR 0 0 g), some (vI a1), some (vI a2), some (vI a3), some (vI (0 : Int32)), none, none, none]) (st2 := []) (m1 := (w_X2_settle (w_X2_enqueue (w_X1_raise m 9 g a1) g a1 a2 a3) g a2)) rfl ?_
    refine re_lq (σ := PM) (ρ := PM) (b_X2_takeAsking_1 m g a1 a2 a3) (fun j1 s1 => (50, [some (vR 0 0 g), some (vI a1), some (vI a2), some (vI a3), some (vI (nI j1)), none, none, none], [], s1)) 8 (fun x9 => (120, [some (vR 0 0 g), some (vI a1), some (vI a2), some (vI a3), none, none, none, none], [], (lqv x9))) (fun j1 s1 hj1 v9 m9 hc1 hr1 => ?_) (fun s1 v9 m9 K1 => ?_) 8 0 (w_X2_settle (w_X2_enqueue (w_X1_raise m 9 g a1) g a1 a2 a3) g a2) (Nat.add_zero _) _ _ ?_
    · show An MX2_takeAsking 50 [some (vR 0 0 g), some (vI a1), some (vI a2), some (vI a3), some (vI (nI j1)), none, none, none] [] s1 v9 m9
      refine an_b 3 (pc2 := if (8 : Int32) ≤ (nI j1) then 120 else 57) (L2 := [some (vR 0 0 g), some (vI a1), some (vI a2), some (vI a3), some (vI (nI j1)), none, none, none]) (st2 := []) (m1 := s1) rfl ?_
      refine an_f (nI_ge (a := j1) (b := 8) (by omega) (by omega)) ?_
      refine an_b 2 (pc2 := 59) (L2 := [some (vR 0 0 g), some (vI a1), some (vI a2), some (vI a3), some (vI (nI j1)), none, none, none]) (st2 := [vI a1, vR 0 0 g]) (m1 := s1) rfl ?_
      refine an_call (r_X2_loserFor s1 g a1) rfl rfl rfl rfl ?_
      refine an_b 4 (pc2 := if ¬ (v_X2_loserFor s1 g a1) = (-1 : Int32) then 73 else 70) (L2 := [some (vR 0 0 g), some (vI a1), some (vI a2), some (vI a3), some (vI (nI j1)), some (vI (v_X2_loserFor s1 g a1)), none, none]) (st2 := []) (m1 := s1) rfl ?_
      refine an_if (c := ¬ (v_X2_loserFor s1 g a1) = (-1 : Int32)) (fun h2 => ?_) (fun h2 => ?_)
      · refine an_b 2 (pc2 := 76) (L2 := [some (vR 0 0 g), some (vI a1), some (vI a2), some (vI a3), some (vI (nI j1)), some (vI (v_X2_loserFor s1 g a1)), none, none]) (st2 := [vI (v_X2_loserFor s1 g a1), vR 0 0 g]) (m1 := s1) rfl ?_
        refine an_call (r_X2_strip s1 g (v_X2_loserFor s1 g a1)) rfl rfl rfl rfl ?_
        refine an_b 3 (pc2 := 84) (L2 := [some (vR 0 0 g), some (vI a1), some (vI a2), some (vI a3), some (vI (nI j1)), some (vI (v_X2_loserFor s1 g a1)), some (vI (v_X2_strip s1 g (v_X2_loserFor s1 g a1))), some (vI (0 : Int32))]) (st2 := []) (m1 := (w_X2_strip s1 g (v_X2_loserFor s1 g a1))) rfl ?_
        refine re_lp (σ := PM) (b_X2_takeAsking_2 m g a1 a2 a3 j1 s1) (fun j2 s2 => (84, [some (vR 0 0 g), some (vI a1), some (vI a2), some (vI a3), some (vI (nI j1)), some (vI (v_X2_loserFor s1 g a1)), some (vI (v_X2_strip s1 g (v_X2_loserFor s1 g a1))), some (vI (nI j2))], [], s2)) 12 (fun s2 => (114, [some (vR 0 0 g), some (vI a1), some (vI a2), some (vI a3), some (vI (nI j1)), some (vI (v_X2_loserFor s1 g a1)), some (vI (v_X2_strip s1 g (v_X2_loserFor s1 g a1))), none], [], s2)) (fun j2 s2 hj2 v9 m9 K2 => ?_) (fun s2 v9 m9 K2 => ?_) 12 0 (w_X2_strip s1 g (v_X2_loserFor s1 g a1)) (Nat.add_zero _) _ _ ?_
        · show An MX2_takeAsking 84 [some (vR 0 0 g), some (vI a1), some (vI a2), some (vI a3), some (vI (nI j1)), some (vI (v_X2_loserFor s1 g a1)), some (vI (v_X2_strip s1 g (v_X2_loserFor s1 g a1))), some (vI (nI j2))] [] s2 v9 m9
          refine an_b 3 (pc2 := if (12 : Int32) ≤ (nI j2) then 114 else 91) (L2 := [some (vR 0 0 g), some (vI a1), some (vI a2), some (vI a3), some (vI (nI j1)), some (vI (v_X2_loserFor s1 g a1)), some (vI (v_X2_strip s1 g (v_X2_loserFor s1 g a1))), some (vI (nI j2))]) (st2 := []) (m1 := s2) rfl ?_
          refine an_f (nI_ge (a := j2) (b := 12) (by omega) (by omega)) ?_
          refine an_b 2 (pc2 := 95) (L2 := [some (vR 0 0 g), some (vI a1), some (vI a2), some (vI a3), some (vI (nI j1)), some (vI (v_X2_loserFor s1 g a1)), some (vI (v_X2_strip s1 g (v_X2_loserFor s1 g a1))), some (vI (nI j2))]) (st2 := [vI (nI j2), vI (v_X2_strip s1 g (v_X2_loserFor s1 g a1))]) (m1 := s2) rfl ?_
          refine an_call (r_X4_has s2 (v_X2_strip s1 g (v_X2_loserFor s1 g a1)) (nI j2)) rfl rfl rfl rfl ?_
          refine an_b 1 (pc2 := if (v_X4_has s2 (v_X2_strip s1 g (v_X2_loserFor s1 g a1)) (nI j2)) = 0 then 108 else 101) (L2 := [some (vR 0 0 g), some (vI a1), some (vI a2), some (vI a3), some (vI (nI j1)), some (vI (v_X2_loserFor s1 g a1)), some (vI (v_X2_strip s1 g (v_X2_loserFor s1 g a1))), some (vI (nI j2))]) (st2 := []) (m1 := s2) rfl ?_
          refine re_if1 (c := (v_X4_has s2 (v_X2_strip s1 g (v_X2_loserFor s1 g a1)) (nI j2)) = 0) (a := s2) (b := (w_X2_settle s2 g (nI j2))) (fun x => (108, [some (vR 0 0 g), some (vI a1), some (vI a2), some (vI a3), some (vI (nI j1)), some (vI (v_X2_loserFor s1 g a1)), some (vI (v_X2_strip s1 g (v_X2_loserFor s1 g a1))), some (vI (nI j2))], [], x)) (fun h3 v9 m9 K4 => ?_) (fun h3 v9 m9 K4 => ?_) _ _ ?_
          · exact K4
          · refine an_b 2 (pc2 := 104) (L2 := [some (vR 0 0 g), some (vI a1), some (vI a2), some (vI a3), some (vI (nI j1)), some (vI (v_X2_loserFor s1 g a1)), some (vI (v_X2_strip s1 g (v_X2_loserFor s1 g a1))), some (vI (nI j2))]) (st2 := [vI (nI j2), vR 0 0 g]) (m1 := s2) rfl ?_
            refine an_call (r_X2_settle s2 g (nI j2)) rfl rfl rfl rfl ?_
            refine an_b 1 (pc2 := 108) (L2 := [some (vR 0 0 g), some (vI a1), some (vI a2), some (vI a3), some (vI (nI j1)), some (vI (v_X2_loserFor s1 g a1)), some (vI (v_X2_strip s1 g (v_X2_loserFor s1 g a1))), some (vI (nI j2))]) (st2 := []) (m1 := (w_X2_settle s2 g (nI j2))) rfl ?_
            exact K4
          refine an_b 2 (pc2 := 84) (L2 := [some (vR 0 0 g), some (vI a1), some (vI a2), some (vI a3), some (vI (nI j1)), some (vI (v_X2_loserFor s1 g a1)), some (vI (v_X2_strip s1 g (v_X2_loserFor s1 g a1))), some (vI ((nI j2) + (1 : Int32)))]) (st2 := []) (m1 := (if (v_X4_has s2 (v_X2_strip s1 g (v_X2_loserFor s1 g a1)) (nI j2)) = 0 then s2 else (w_X2_settle s2 g (nI j2)))) rfl ?_
          refine an_cL (K := [some (vR 0 0 g), some (vI a1), some (vI a2), some (vI a3), some (vI (nI j1)), some (vI (v_X2_loserFor s1 g a1)), some (vI (v_X2_strip s1 g (v_X2_loserFor s1 g a1))), some (vI (nI (j2 + 1)))]) (by simp only [nI_1]) ?_
          exact K2
        · show An MX2_takeAsking 84 [some (vR 0 0 g), some (vI a1), some (vI a2), some (vI a3), some (vI (nI j1)), some (vI (v_X2_loserFor s1 g a1)), some (vI (v_X2_strip s1 g (v_X2_loserFor s1 g a1))), some (vI (nI 12))] [] s2 v9 m9
          refine an_b 3 (pc2 := if (12 : Int32) ≤ (nI 12) then 114 else 91) (L2 := [some (vR 0 0 g), some (vI a1), some (vI a2), some (vI a3), some (vI (nI j1)), some (vI (v_X2_loserFor s1 g a1)), some (vI (v_X2_strip s1 g (v_X2_loserFor s1 g a1))), some (vI (nI 12))]) (st2 := []) (m1 := s2) rfl ?_
          refine an_t (nI_le (a := 12) (b := 12) (by omega) (by omega)) ?_
          refine an_weak (L := [some (vR 0 0 g), some (vI a1), some (vI a2), some (vI a3), some (vI (nI j1)), some (vI (v_X2_loserFor s1 g a1)), some (vI (v_X2_strip s1 g (v_X2_loserFor s1 g a1))), none]) (⟨rfl, rfl, rfl, rfl, rfl, rfl, rfl, trivial⟩) ?_
          exact K2
        show An MX2_takeAsking 114 [some (vR 0 0 g), some (vI a1), some (vI a2), some (vI a3), some (vI (nI j1)), some (vI (v_X2_loserFor s1 g a1)), some (vI (v_X2_strip s1 g (v_X2_loserFor s1 g a1))), none] [] (lp (b_X2_takeAsking_2 m g a1 a2 a3 j1 s1) 12 0 (w_X2_strip s1 g (v_X2_loserFor s1 g a1))) _ _
        refine an_b 2 (pc2 := 50) (L2 := [some (vR 0 0 g), some (vI a1), some (vI a2), some (vI a3), some (vI ((nI j1) + (1 : Int32))), some (vI (v_X2_loserFor s1 g a1)), some (vI (v_X2_strip s1 g (v_X2_loserFor s1 g a1))), none]) (st2 := []) (m1 := (lp (b_X2_takeAsking_2 m g a1 a2 a3 j1 s1) 12 0 (w_X2_strip s1 g (v_X2_loserFor s1 g a1)))) rfl ?_
        refine an_weak (L := [some (vR 0 0 g), some (vI a1), some (vI a2), some (vI a3), some (vI ((nI j1) + (1 : Int32))), none, none, none]) (⟨rfl, rfl, rfl, rfl, rfl, trivial⟩) ?_
        refine an_cL (K := [some (vR 0 0 g), some (vI a1), some (vI a2), some (vI a3), some (vI (nI (j1 + 1))), none, none, none]) (by simp only [nI_1]) ?_
        exact hc1 _ (by unfold b_X2_takeAsking_1; rw [if_pos h2])
      · refine an_b 1 (pc2 := 120) (L2 := [some (vR 0 0 g), some (vI a1), some (vI a2), some (vI a3), some (vI (nI j1)), some (vI (v_X2_loserFor s1 g a1)), none, none]) (st2 := []) (m1 := s1) rfl ?_
        refine an_weak (L := [some (vR 0 0 g), some (vI a1), some (vI a2), some (vI a3), none, none, none, none]) (⟨rfl, rfl, rfl, rfl, trivial⟩) ?_
        exact hr1 _ (by unfold b_X2_takeAsking_1; rw [if_neg h2])
    · show An MX2_takeAsking 50 [some (vR 0 0 g), some (vI a1), some (vI a2), some (vI a3), some (vI (nI 8)), none, none, none] [] s1 v9 m9
      refine an_b 3 (pc2 := if (8 : Int32) ≤ (nI 8) then 120 else 57) (L2 := [some (vR 0 0 g), some (vI a1), some (vI a2), some (vI a3), some (vI (nI 8)), none, none, none]) (st2 := []) (m1 := s1) rfl ?_
      refine an_t (nI_le (a := 8) (b := 8) (by omega) (by omega)) ?_
      refine an_weak (L := [some (vR 0 0 g), some (vI a1), some (vI a2), some (vI a3), none, none, none, none]) (⟨rfl, rfl, rfl, rfl, trivial⟩) ?_
      exact K1
    show An MX2_takeAsking 120 [some (vR 0 0 g), some (vI a1), some (vI a2), some (vI a3), none, none, none, none] [] (lqv (lq (b_X2_takeAsking_1 m g a1 a2 a3) 8 0 (w_X2_settle (w_X2_enqueue (w_X1_raise m 9 g a1) g a1 a2 a3) g a2))) _ _
    refine an_b 4 (pc2 := 126) (L2 := [some (vR 0 0 g), some (vI a1), some (vI a2), some (vI a3), none, none, none, none]) (st2 := [vI a2, vI a1, vR 1 0 g]) (m1 := (lqv (lq (b_X2_takeAsking_1 m g a1 a2 a3) 8 0 (w_X2_settle (w_X2_enqueue (w_X1_raise m 9 g a1) g a1 a2 a3) g a2)))) rfl ?_
    refine an_call (r_X4_cell (lqv (lq (b_X2_takeAsking_1 m g a1 a2 a3) 8 0 (w_X2_settle (w_X2_enqueue (w_X1_raise m 9 g a1) g a1 a2 a3) g a2))) a1 a2) rfl rfl rfl rfl ?_
    refine an_call (r_X1_at (lqv (lq (b_X2_takeAsking_1 m g a1 a2 a3) 8 0 (w_X2_settle (w_X2_enqueue (w_X1_raise m 9 g a1) g a1 a2 a3) g a2))) 0 g (v_X4_cell (lqv (lq (b_X2_takeAsking_1 m g a1 a2 a3) 8 0 (w_X2_settle (w_X2_enqueue (w_X1_raise m 9 g a1) g a1 a2 a3) g a2))) a1 a2)) rfl rfl rfl rfl ?_
    refine an_b 2 (pc2 := if (v_X1_at (lqv (lq (b_X2_takeAsking_1 m g a1 a2 a3) 8 0 (w_X2_settle (w_X2_enqueue (w_X1_raise m 9 g a1) g a1 a2 a3) g a2))) 0 g (v_X4_cell (lqv (lq (b_X2_takeAsking_1 m g a1 a2 a3) 8 0 (w_X2_settle (w_X2_enqueue (w_X1_raise m 9 g a1) g a1 a2 a3) g a2))) a1 a2)) < a3 then 138 else 136) (L2 := [some (vR 0 0 g), some (vI a1), some (vI a2), some (vI a3), none, none, none, none]) (st2 := []) (m1 := (lqv (lq (b_X2_takeAsking_1 m g a1 a2 a3) 8 0 (w_X2_settle (w_X2_enqueue (w_X1_raise m 9 g a1) g a1 a2 a3) g a2)))) rfl ?_
    refine an_ifi (c := (v_X1_at (lqv (lq (b_X2_takeAsking_1 m g a1 a2 a3) 8 0 (w_X2_settle (w_X2_enqueue (w_X1_raise m 9 g a1) g a1 a2 a3) g a2))) 0 g (v_X4_cell (lqv (lq (b_X2_takeAsking_1 m g a1 a2 a3) 8 0 (w_X2_settle (w_X2_enqueue (w_X1_raise m 9 g a1) g a1 a2 a3) g a2))) a1 a2)) < a3) (fun h5 => ?_) (fun h5 => ?_)
    · refine an_b 2 (pc2 := 140) (L2 := [some (vR 0 0 g), some (vI a1), some (vI a2), some (vI a3), none, none, none, none]) (st2 := [vI a1, vR 0 0 g]) (m1 := (lqv (lq (b_X2_takeAsking_1 m g a1 a2 a3) 8 0 (w_X2_settle (w_X2_enqueue (w_X1_raise m 9 g a1) g a1 a2 a3) g a2)))) rfl ?_
      refine an_call (r_X2_isWaiting (lqv (lq (b_X2_takeAsking_1 m g a1 a2 a3) 8 0 (w_X2_settle (w_X2_enqueue (w_X1_raise m 9 g a1) g a1 a2 a3) g a2))) g a1) rfl rfl rfl rfl ?_
      refine an_b 1 (pc2 := if (v_X2_isWaiting (lqv (lq (b_X2_takeAsking_1 m g a1 a2 a3) 8 0 (w_X2_settle (w_X2_enqueue (w_X1_raise m 9 g a1) g a1 a2 a3) g a2))) g a1) = 0 then 150 else 146) (L2 := [some (vR 0 0 g), some (vI a1), some (vI a2), some (vI a3), none, none, none, none]) (st2 := []) (m1 := (lqv (lq (b_X2_takeAsking_1 m g a1 a2 a3) 8 0 (w_X2_settle (w_X2_enqueue (w_X1_raise m 9 g a1) g a1 a2 a3) g a2)))) rfl ?_
      refine an_ifi (c := (v_X2_isWaiting (lqv (lq (b_X2_takeAsking_1 m g a1 a2 a3) 8 0 (w_X2_settle (w_X2_enqueue (w_X1_raise m 9 g a1) g a1 a2 a3) g a2))) g a1) = 0) (fun h6 => ?_) (fun h6 => ?_)
      · refine an_b 1 (pc2 := 151) (L2 := [some (vR 0 0 g), some (vI a1), some (vI a2), some (vI a3), none, none, none, none]) (st2 := [vI (2 : Int32)]) (m1 := (lqv (lq (b_X2_takeAsking_1 m g a1 a2 a3) 8 0 (w_X2_settle (w_X2_enqueue (w_X1_raise m 9 g a1) g a1 a2 a3) g a2)))) rfl ?_
        exact an_ret rfl rfl rfl rfl rfl
      · refine an_b 2 (pc2 := 151) (L2 := [some (vR 0 0 g), some (vI a1), some (vI a2), some (vI a3), none, none, none, none]) (st2 := [vI (1 : Int32)]) (m1 := (lqv (lq (b_X2_takeAsking_1 m g a1 a2 a3) 8 0 (w_X2_settle (w_X2_enqueue (w_X1_raise m 9 g a1) g a1 a2 a3) g a2)))) rfl ?_
        exact an_ret rfl rfl rfl rfl rfl
    · refine an_b 1 (pc2 := 137) (L2 := [some (vR 0 0 g), some (vI a1), some (vI a2), some (vI a3), none, none, none, none]) (st2 := [vI (0 : Int32)]) (m1 := (lqv (lq (b_X2_takeAsking_1 m g a1 a2 a3) 8 0 (w_X2_settle (w_X2_enqueue (w_X1_raise m 9 g a1) g a1 a2 a3) g a2)))) rfl ?_
      exact an_ret rfl rfl rfl rfl rfl
  · refine an_b 3 (pc2 := 29) (L2 := [some (vR 0 0 g), some (vI a1), some (vI a2), some (vI a3), none, none, none, none]) (st2 := [vI a1, vR 1 8 g]) (m1 := (w_X1_raise m 9 g a1)) rfl ?_
    refine an_call (r_X1_raise (w_X1_raise m 9 g a1) 8 g a1) rfl rfl rfl rfl ?_
    refine an_b 1 (pc2 := 33) (L2 := [some (vR 0 0 g), some (vI a1), some (vI a2), some (vI a3), none, none, none, none]) (st2 := [vI (0 : Int32)]) (m1 := (w_X1_raise (w_X1_raise m 9 g a1) 8 g a1)) rfl ?_
    exact an_ret rfl rfl rfl rfl rfl
def v_X2_canLetGo (m : PM) (g : Nat) (a1 : Int32) (a2 : Int32) : Int32 := (if (v_X1_at m 0 g (v_X4_cell m a1 a2)) ≤ 0 then (0 : Int32) else (if (v_X1_at m 1 g a1) = a2 then (0 : Int32) else (1 : Int32)))
set_option maxRecDepth 100000 in
theorem r_X2_canLetGo (m : PM) (g : Nat) (a1 : Int32) (a2 : Int32) : Rn MX2_canLetGo [vR 0 0 g, vI a1, vI a2] m (some (vI (v_X2_canLetGo m g a1 a2))) m := by
  refine rn_of [some (vR 0 0 g), some (vI a1), some (vI a2)] rfl ?_
  unfold v_X2_canLetGo
  refine an_b 4 (pc2 := 6) (L2 := [some (vR 0 0 g), some (vI a1), some (vI a2)]) (st2 := [vI a2, vI a1, vR 1 0 g]) (m1 := m) rfl ?_
  refine an_call (r_X4_cell m a1 a2) rfl rfl rfl rfl ?_
  refine an_call (r_X1_at m 0 g (v_X4_cell m a1 a2)) rfl rfl rfl rfl ?_
  refine an_b 1 (pc2 := if (v_X1_at m 0 g (v_X4_cell m a1 a2)) ≤ 0 then 31 else 15) (L2 := [some (vR 0 0 g), some (vI a1), some (vI a2)]) (st2 := []) (m1 := m) rfl ?_
  refine an_ifi (c := (v_X1_at m 0 g (v_X4_cell m a1 a2)) ≤ 0) (fun h1 => ?_) (fun h1 => ?_)
  · refine an_b 1 (pc2 := 32) (L2 := [some (vR 0 0 g), some (vI a1), some (vI a2)]) (st2 := [vI (0 : Int32)]) (m1 := m) rfl ?_
    exact an_ret rfl rfl rfl rfl rfl
  · refine an_b 3 (pc2 := 20) (L2 := [some (vR 0 0 g), some (vI a1), some (vI a2)]) (st2 := [vI a1, vR 1 1 g]) (m1 := m) rfl ?_
    refine an_call (r_X1_at m 1 g a1) rfl rfl rfl rfl ?_
    refine an_b 2 (pc2 := if (v_X1_at m 1 g a1) = a2 then 31 else 27) (L2 := [some (vR 0 0 g), some (vI a1), some (vI a2)]) (st2 := []) (m1 := m) rfl ?_
    refine an_ifi (c := (v_X1_at m 1 g a1) = a2) (fun h2 => ?_) (fun h2 => ?_)
    · refine an_b 1 (pc2 := 32) (L2 := [some (vR 0 0 g), some (vI a1), some (vI a2)]) (st2 := [vI (0 : Int32)]) (m1 := m) rfl ?_
      exact an_ret rfl rfl rfl rfl rfl
    · refine an_b 2 (pc2 := 32) (L2 := [some (vR 0 0 g), some (vI a1), some (vI a2)]) (st2 := [vI (1 : Int32)]) (m1 := m) rfl ?_
      exact an_ret rfl rfl rfl rfl rfl
def v_X2_letGo (m : PM) (g : Nat) (a1 : Int32) (a2 : Int32) : Int32 := (v_X2_settle (w_X1_put m 0 g (v_X4_cell m a1 a2) (0 : Int32)) g a2)
def w_X2_letGo (m : PM) (g : Nat) (a1 : Int32) (a2 : Int32) : PM := (w_X2_settle (w_X1_put m 0 g (v_X4_cell m a1 a2) (0 : Int32)) g a2)
set_option maxRecDepth 100000 in
theorem r_X2_letGo (m : PM) (g : Nat) (a1 : Int32) (a2 : Int32) : Rn MX2_letGo [vR 0 0 g, vI a1, vI a2] m (some (vI (v_X2_letGo m g a1 a2))) (w_X2_letGo m g a1 a2) := by
  refine rn_of [some (vR 0 0 g), some (vI a1), some (vI a2)] rfl ?_
  unfold v_X2_letGo w_X2_letGo
  refine an_b 4 (pc2 := 6) (L2 := [some (vR 0 0 g), some (vI a1), some (vI a2)]) (st2 := [vI a2, vI a1, vR 1 0 g]) (m1 := m) rfl ?_
  refine an_call (r_X4_cell m a1 a2) rfl rfl rfl rfl ?_
  refine an_b 1 (pc2 := 10) (L2 := [some (vR 0 0 g), some (vI a1), some (vI a2)]) (st2 := [vI (0 : Int32), vI (v_X4_cell m a1 a2), vR 1 0 g]) (m1 := m) rfl ?_
  refine an_call (r_X1_put m 0 g (v_X4_cell m a1 a2) (0 : Int32)) rfl rfl rfl rfl ?_
  refine an_b 2 (pc2 := 15) (L2 := [some (vR 0 0 g), some (vI a1), some (vI a2)]) (st2 := [vI a2, vR 0 0 g]) (m1 := (w_X1_put m 0 g (v_X4_cell m a1 a2) (0 : Int32))) rfl ?_
  refine an_call (r_X2_settle (w_X1_put m 0 g (v_X4_cell m a1 a2) (0 : Int32)) g a2) rfl rfl rfl rfl ?_
  exact an_ret rfl rfl rfl rfl rfl
def v_X2_stopWaiting (m : PM) (g : Nat) (a1 : Int32) : Int32 := (v_X1_at m 1 g a1)
def w_X2_stopWaiting (m : PM) (g : Nat) (a1 : Int32) : PM := (w_X2_settle (w_X2_dequeue m g a1) g (v_X1_at m 1 g a1))
set_option maxRecDepth 100000 in
theorem r_X2_stopWaiting (m : PM) (g : Nat) (a1 : Int32) : Rn MX2_stopWaiting [vR 0 0 g, vI a1] m (some (vI (v_X2_stopWaiting m g a1))) (w_X2_stopWaiting m g a1) := by
  refine rn_of [some (vR 0 0 g), some (vI a1), none] rfl ?_
  unfold v_X2_stopWaiting w_X2_stopWaiting
  refine an_b 3 (pc2 := 5) (L2 := [some (vR 0 0 g), some (vI a1), none]) (st2 := [vI a1, vR 1 1 g]) (m1 := m) rfl ?_
  refine an_call (r_X1_at m 1 g a1) rfl rfl rfl rfl ?_
  refine an_b 3 (pc2 := 11) (L2 := [some (vR 0 0 g), some (vI a1), some (vI (v_X1_at m 1 g a1))]) (st2 := [vI a1, vR 0 0 g]) (m1 := m) rfl ?_
  refine an_call (r_X2_dequeue m g a1) rfl rfl rfl rfl ?_
  refine an_b 2 (pc2 := 16) (L2 := [some (vR 0 0 g), some (vI a1), some (vI (v_X1_at m 1 g a1))]) (st2 := [vI (v_X1_at m 1 g a1), vR 0 0 g]) (m1 := (w_X2_dequeue m g a1)) rfl ?_
  refine an_call (r_X2_settle (w_X2_dequeue m g a1) g (v_X1_at m 1 g a1)) rfl rfl rfl rfl ?_
  refine an_b 2 (pc2 := 21) (L2 := [some (vR 0 0 g), some (vI a1), some (vI (v_X1_at m 1 g a1))]) (st2 := [vI (v_X1_at m 1 g a1)]) (m1 := (w_X2_settle (w_X2_dequeue m g a1) g (v_X1_at m 1 g a1))) rfl ?_
  exact an_ret rfl rfl rfl rfl rfl
def v_X2_canPassOver (m : PM) (g : Nat) (a1 : Int32) (a2 : Int32) (a3 : Int32) : Int32 := (if (v_X2_canLetGo m g a1 a2) = 0 then (0 : Int32) else (if a1 = a3 then (0 : Int32) else (if ¬ (v_X1_at m 1 g a3) = a2 then (0 : Int32) else (if ¬ (v_X2_clashes m g a2 (v_X1_at m 2 g a3) a1 a3) = 0 then (0 : Int32) else (1 : Int32)))))
set_option maxRecDepth 100000 in
theorem r_X2_canPassOver (m : PM) (g : Nat) (a1 : Int32) (a2 : Int32) (a3 : Int32) : Rn MX2_canPassOver [vR 0 0 g, vI a1, vI a2, vI a3] m (some (vI (v_X2_canPassOver m g a1 a2 a3))) m := by
  refine rn_of [some (vR 0 0 g), some (vI a1), some (vI a2), some (vI a3)] rfl ?_
  unfold v_X2_canPassOver
  refine an_b 3 (pc2 := 3) (L2 := [some (vR 0 0 g), some (vI a1), some (vI a2), some (vI a3)]) (st2 := [vI a2, vI a1, vR 0 0 g]) (m1 := m) rfl ?_
  refine an_call (r_X2_canLetGo m g a1 a2) rfl rfl rfl rfl ?_
  refine an_b 1 (pc2 := if (v_X2_canLetGo m g a1 a2) = 0 then 48 else 9) (L2 := [some (vR 0 0 g), some (vI a1), some (vI a2), some (vI a3)]) (st2 := []) (m1 := m) rfl ?_
  refine an_ifi (c := (v_X2_canLetGo m g a1 a2) = 0) (fun h1 => ?_) (fun h1 => ?_)
  · refine an_b 1 (pc2 := 49) (L2 := [some (vR 0 0 g), some (vI a1), some (vI a2), some (vI a3)]) (st2 := [vI (0 : Int32)]) (m1 := m) rfl ?_
    exact an_ret rfl rfl rfl rfl rfl
  · refine an_b 3 (pc2 := if a1 = a3 then 48 else 14) (L2 := [some (vR 0 0 g), some (vI a1), some (vI a2), some (vI a3)]) (st2 := []) (m1 := m) rfl ?_
    refine an_ifi (c := a1 = a3) (fun h2 => ?_) (fun h2 => ?_)
    · refine an_b 1 (pc2 := 49) (L2 := [some (vR 0 0 g), some (vI a1), some (vI a2), some (vI a3)]) (st2 := [vI (0 : Int32)]) (m1 := m) rfl ?_
      exact an_ret rfl rfl rfl rfl rfl
    · refine an_b 3 (pc2 := 19) (L2 := [some (vR 0 0 g), some (vI a1), some (vI a2), some (vI a3)]) (st2 := [vI a3, vR 1 1 g]) (m1 := m) rfl ?_
      refine an_call (r_X1_at m 1 g a3) rfl rfl rfl rfl ?_
      refine an_b 2 (pc2 := if ¬ (v_X1_at m 1 g a3) = a2 then 48 else 26) (L2 := [some (vR 0 0 g), some (vI a1), some (vI a2), some (vI a3)]) (st2 := []) (m1 := m) rfl ?_
      refine an_ifi (c := ¬ (v_X1_at m 1 g a3) = a2) (fun h3 => ?_) (fun h3 => ?_)
      · refine an_b 1 (pc2 := 49) (L2 := [some (vR 0 0 g), some (vI a1), some (vI a2), some (vI a3)]) (st2 := [vI (0 : Int32)]) (m1 := m) rfl ?_
        exact an_ret rfl rfl rfl rfl rfl
      · refine an_b 5 (pc2 := 33) (L2 := [some (vR 0 0 g), some (vI a1), some (vI a2), some (vI a3)]) (st2 := [vI a3, vR 1 2 g, vI a2, vR 0 0 g]) (m1 := m) rfl ?_
        refine an_call (r_X1_at m 2 g a3) rfl rfl rfl rfl ?_
        refine an_b 2 (pc2 := 38) (L2 := [some (vR 0 0 g), some (vI a1), some (vI a2), some (vI a3)]) (st2 := [vI a3, vI a1, vI (v_X1_at m 2 g a3), vI a2, vR 0 0 g]) (m1 := m) rfl ?_
        refine an_call (r_X2_clashes m g a2 (v_X1_at m 2 g a3) a1 a3) rfl rfl rfl rfl ?_
        refine an_b 1 (pc2 := if ¬ (v_X2_clashes m g a2 (v_X1_at m 2 g a3) a1 a3) = 0 then 48 else 44) (L2 := [some (vR 0 0 g), some (vI a1), some (vI a2), some (vI a3)]) (st2 := []) (m1 := m) rfl ?_
        refine an_ifi (c := ¬ (v_X2_clashes m g a2 (v_X1_at m 2 g a3) a1 a3) = 0) (fun h4 => ?_) (fun h4 => ?_)
        · refine an_b 1 (pc2 := 49) (L2 := [some (vR 0 0 g), some (vI a1), some (vI a2), some (vI a3)]) (st2 := [vI (0 : Int32)]) (m1 := m) rfl ?_
          exact an_ret rfl rfl rfl rfl rfl
        · refine an_b 2 (pc2 := 49) (L2 := [some (vR 0 0 g), some (vI a1), some (vI a2), some (vI a3)]) (st2 := [vI (1 : Int32)]) (m1 := m) rfl ?_
          exact an_ret rfl rfl rfl rfl rfl
def v_X2_passOver (m : PM) (g : Nat) (a1 : Int32) (a2 : Int32) (a3 : Int32) : Int32 := (v_X1_at (w_X2_settle (w_X1_raise (w_X2_grant (w_X1_put m 0 g (v_X4_cell m a1 a2) (0 : Int32)) g a3) 5 g a2) g a2) 0 g (v_X4_cell (w_X2_settle (w_X1_raise (w_X2_grant (w_X1_put m 0 g (v_X4_cell m a1 a2) (0 : Int32)) g a3) 5 g a2) g a2) a3 a2))
def w_X2_passOver (m : PM) (g : Nat) (a1 : Int32) (a2 : Int32) (a3 : Int32) : PM := (w_X2_settle (w_X1_raise (w_X2_grant (w_X1_put m 0 g (v_X4_cell m a1 a2) (0 : Int32)) g a3) 5 g a2) g a2)
set_option maxRecDepth 100000 in
theorem r_X2_passOver (m : PM) (g : Nat) (a1 : Int32) (a2 : Int32) (a3 : Int32) : Rn MX2_passOver [vR 0 0 g, vI a1, vI a2, vI a3] m (some (vI (v_X2_passOver m g a1 a2 a3))) (w_X2_passOver m g a1 a2 a3) := by
  refine rn_of [some (vR 0 0 g), some (vI a1), some (vI a2), some (vI a3)] rfl ?_
  unfold v_X2_passOver w_X2_passOver
  refine an_b 4 (pc2 := 6) (L2 := [some (vR 0 0 g), some (vI a1), some (vI a2), some (vI a3)]) (st2 := [vI a2, vI a1, vR 1 0 g]) (m1 := m) rfl ?_
  refine an_call (r_X4_cell m a1 a2) rfl rfl rfl rfl ?_
  refine an_b 1 (pc2 := 10) (L2 := [some (vR 0 0 g), some (vI a1), some (vI a2), some (vI a3)]) (st2 := [vI (0 : Int32), vI (v_X4_cell m a1 a2), vR 1 0 g]) (m1 := m) rfl ?_
  refine an_call (r_X1_put m 0 g (v_X4_cell m a1 a2) (0 : Int32)) rfl rfl rfl rfl ?_
  refine an_b 2 (pc2 := 15) (L2 := [some (vR 0 0 g), some (vI a1), some (vI a2), some (vI a3)]) (st2 := [vI a3, vR 0 0 g]) (m1 := (w_X1_put m 0 g (v_X4_cell m a1 a2) (0 : Int32))) rfl ?_
  refine an_call (r_X2_grant (w_X1_put m 0 g (v_X4_cell m a1 a2) (0 : Int32)) g a3) rfl rfl rfl rfl ?_
  refine an_b 3 (pc2 := 23) (L2 := [some (vR 0 0 g), some (vI a1), some (vI a2), some (vI a3)]) (st2 := [vI a2, vR 1 5 g]) (m1 := (w_X2_grant (w_X1_put m 0 g (v_X4_cell m a1 a2) (0 : Int32)) g a3)) rfl ?_
  refine an_call (r_X1_raise (w_X2_grant (w_X1_put m 0 g (v_X4_cell m a1 a2) (0 : Int32)) g a3) 5 g a2) rfl rfl rfl rfl ?_
  refine an_b 2 (pc2 := 28) (L2 := [some (vR 0 0 g), some (vI a1), some (vI a2), some (vI a3)]) (st2 := [vI a2, vR 0 0 g]) (m1 := (w_X1_raise (w_X2_grant (w_X1_put m 0 g (v_X4_cell m a1 a2) (0 : Int32)) g a3) 5 g a2)) rfl ?_
  refine an_call (r_X2_settle (w_X1_raise (w_X2_grant (w_X1_put m 0 g (v_X4_cell m a1 a2) (0 : Int32)) g a3) 5 g a2) g a2) rfl rfl rfl rfl ?_
  refine an_b 5 (pc2 := 38) (L2 := [some (vR 0 0 g), some (vI a1), some (vI a2), some (vI a3)]) (st2 := [vI a2, vI a3, vR 1 0 g]) (m1 := (w_X2_settle (w_X1_raise (w_X2_grant (w_X1_put m 0 g (v_X4_cell m a1 a2) (0 : Int32)) g a3) 5 g a2) g a2)) rfl ?_
  refine an_call (r_X4_cell (w_X2_settle (w_X1_raise (w_X2_grant (w_X1_put m 0 g (v_X4_cell m a1 a2) (0 : Int32)) g a3) 5 g a2) g a2) a3 a2) rfl rfl rfl rfl ?_
  refine an_call (r_X1_at (w_X2_settle (w_X1_raise (w_X2_grant (w_X1_put m 0 g (v_X4_cell m a1 a2) (0 : Int32)) g a3) 5 g a2) g a2) 0 g (v_X4_cell (w_X2_settle (w_X1_raise (w_X2_grant (w_X1_put m 0 g (v_X4_cell m a1 a2) (0 : Int32)) g a3) 5 g a2) g a2) a3 a2)) rfl rfl rfl rfl ?_
  exact an_ret rfl rfl rfl rfl rfl
def b_X2_takersOf_1 (m : PM) (g : Nat) (a1 : Int32) (a2 : Int32)  (j1 : Nat) (s1 : Int32) : Int32 := (if (v_X2_canPassOver m g a1 a2 (nI j1)) = 0 then s1 else (s1 ||| ((1 : Int32) <<< ((nI j1) &&& (31 : Int32)))))
def v_X2_takersOf (m : PM) (g : Nat) (a1 : Int32) (a2 : Int32) : Int32 := (lp (b_X2_takersOf_1 m g a1 a2) 8 0 (0 : Int32))
set_option maxRecDepth 100000 in
theorem r_X2_takersOf (m : PM) (g : Nat) (a1 : Int32) (a2 : Int32) : Rn MX2_takersOf [vR 0 0 g, vI a1, vI a2] m (some (vI (v_X2_takersOf m g a1 a2))) m := by
  refine rn_of [some (vR 0 0 g), some (vI a1), some (vI a2), none, none] rfl ?_
  unfold v_X2_takersOf
  refine an_b 4 (pc2 := 5) (L2 := [some (vR 0 0 g), some (vI a1), some (vI a2), some (vI (0 : Int32)), some (vI (0 : Int32))]) (st2 := []) (m1 := m) rfl ?_
  refine re_lp (σ := Int32) (b_X2_takersOf_1 m g a1 a2) (fun j1 s1 => (5, [some (vR 0 0 g), some (vI a1), some (vI a2), some (vI s1), some (vI (nI j1))], [], m)) 8 (fun s1 => (36, [some (vR 0 0 g), some (vI a1), some (vI a2), some (vI s1), none], [], m)) (fun j1 s1 hj1 v9 m9 K1 => ?_) (fun s1 v9 m9 K1 => ?_) 8 0 (0 : Int32) (Nat.add_zero _) _ _ ?_
  · show An MX2_takersOf 5 [some (vR 0 0 g), some (vI a1), some (vI a2), some (vI s1), some (vI (nI j1))] [] m v9 m9
    refine an_b 3 (pc2 := if (8 : Int32) ≤ (nI j1) then 36 else 12) (L2 := [some (vR 0 0 g), some (vI a1), some (vI a2), some (vI s1), some (vI (nI j1))]) (st2 := []) (m1 := m) rfl ?_
    refine an_f (nI_ge (a := j1) (b := 8) (by omega) (by omega)) ?_
    refine an_b 4 (pc2 := 17) (L2 := [some (vR 0 0 g), some (vI a1), some (vI a2), some (vI s1), some (vI (nI j1))]) (st2 := [vI (nI j1), vI a2, vI a1, vR 0 0 g]) (m1 := m) rfl ?_
    refine an_call (r_X2_canPassOver m g a1 a2 (nI j1)) rfl rfl rfl rfl ?_
    refine an_b 1 (pc2 := if (v_X2_canPassOver m g a1 a2 (nI j1)) = 0 then 30 else 23) (L2 := [some (vR 0 0 g), some (vI a1), some (vI a2), some (vI s1), some (vI (nI j1))]) (st2 := []) (m1 := m) rfl ?_
    refine re_if1 (c := (v_X2_canPassOver m g a1 a2 (nI j1)) = 0) (a := s1) (b := (s1 ||| ((1 : Int32) <<< ((nI j1) &&& (31 : Int32))))) (fun x => (30, [some (vR 0 0 g), some (vI a1), some (vI a2), some (vI x), some (vI (nI j1))], [], m)) (fun h1 v9 m9 K2 => ?_) (fun h1 v9 m9 K2 => ?_) _ _ ?_
    · exact K2
    · refine an_b 6 (pc2 := 30) (L2 := [some (vR 0 0 g), some (vI a1), some (vI a2), some (vI (s1 ||| ((1 : Int32) <<< ((nI j1) &&& (31 : Int32))))), some (vI (nI j1))]) (st2 := []) (m1 := m) rfl ?_
      exact K2
    refine an_b 2 (pc2 := 5) (L2 := [some (vR 0 0 g), some (vI a1), some (vI a2), some (vI (if (v_X2_canPassOver m g a1 a2 (nI j1)) = 0 then s1 else (s1 ||| ((1 : Int32) <<< ((nI j1) &&& (31 : Int32)))))), some (vI ((nI j1) + (1 : Int32)))]) (st2 := []) (m1 := m) rfl ?_
    refine an_cL (K := [some (vR 0 0 g), some (vI a1), some (vI a2), some (vI (if (v_X2_canPassOver m g a1 a2 (nI j1)) = 0 then s1 else (s1 ||| ((1 : Int32) <<< ((nI j1) &&& (31 : Int32)))))), some (vI (nI (j1 + 1)))]) (by simp only [nI_1]) ?_
    exact K1
  · show An MX2_takersOf 5 [some (vR 0 0 g), some (vI a1), some (vI a2), some (vI s1), some (vI (nI 8))] [] m v9 m9
    refine an_b 3 (pc2 := if (8 : Int32) ≤ (nI 8) then 36 else 12) (L2 := [some (vR 0 0 g), some (vI a1), some (vI a2), some (vI s1), some (vI (nI 8))]) (st2 := []) (m1 := m) rfl ?_
    refine an_t (nI_le (a := 8) (b := 8) (by omega) (by omega)) ?_
    refine an_weak (L := [some (vR 0 0 g), some (vI a1), some (vI a2), some (vI s1), none]) (⟨rfl, rfl, rfl, rfl, trivial⟩) ?_
    exact K1
  show An MX2_takersOf 36 [some (vR 0 0 g), some (vI a1), some (vI a2), some (vI (lp (b_X2_takersOf_1 m g a1 a2) 8 0 (0 : Int32))), none] [] m _ _
  refine an_b 1 (pc2 := 37) (L2 := [some (vR 0 0 g), some (vI a1), some (vI a2), some (vI (lp (b_X2_takersOf_1 m g a1 a2) 8 0 (0 : Int32))), none]) (st2 := [vI (lp (b_X2_takersOf_1 m g a1 a2) 8 0 (0 : Int32))]) (m1 := m) rfl ?_
  exact an_ret rfl rfl rfl rfl rfl
def v_X2_heatAfter (m : PM) (g : Nat) (a1 : Int32) (a2 : Int32) : Int32 := (if a2 ≤ 0 then (if (0 : Int32) < (a1 - (v_X1_at m 10 g (2 : Int32))) then (a1 - (v_X1_at m 10 g (2 : Int32))) else (0 : Int32)) else (if (a1 + (a2 * (v_X1_at m 10 g (1 : Int32)))) < (1000 : Int32) then (a1 + (a2 * (v_X1_at m 10 g (1 : Int32)))) else (1000 : Int32)))
set_option maxRecDepth 100000 in
theorem r_X2_heatAfter (m : PM) (g : Nat) (a1 : Int32) (a2 : Int32) : Rn MX2_heatAfter [vR 0 0 g, vI a1, vI a2] m (some (vI (v_X2_heatAfter m g a1 a2))) m := by
  refine rn_of [some (vR 0 0 g), some (vI a1), some (vI a2)] rfl ?_
  unfold v_X2_heatAfter
  refine an_b 2 (pc2 := if a2 ≤ 0 then 23 else 4) (L2 := [some (vR 0 0 g), some (vI a1), some (vI a2)]) (st2 := []) (m1 := m) rfl ?_
  refine an_ifi (c := a2 ≤ 0) (fun h1 => ?_) (fun h1 => ?_)
  · refine an_b 5 (pc2 := 30) (L2 := [some (vR 0 0 g), some (vI a1), some (vI a2)]) (st2 := [vI (2 : Int32), vR 1 10 g, vI a1, vI (0 : Int32)]) (m1 := m) rfl ?_
    refine an_call (r_X1_at m 10 g (2 : Int32)) rfl rfl rfl rfl ?_
    refine an_b 2 (pc2 := 37) (L2 := [some (vR 0 0 g), some (vI a1), some (vI a2)]) (st2 := [vI (if (0 : Int32) < (a1 - (v_X1_at m 10 g (2 : Int32))) then (a1 - (v_X1_at m 10 g (2 : Int32))) else (0 : Int32))]) (m1 := m) rfl ?_
    exact an_ret rfl rfl rfl rfl rfl
  · refine an_b 6 (pc2 := 14) (L2 := [some (vR 0 0 g), some (vI a1), some (vI a2)]) (st2 := [vI (1 : Int32), vR 1 10 g, vI a2, vI a1, vI (1000 : Int32)]) (m1 := m) rfl ?_
    refine an_call (r_X1_at m 10 g (1 : Int32)) rfl rfl rfl rfl ?_
    refine an_b 3 (pc2 := 22) (L2 := [some (vR 0 0 g), some (vI a1), some (vI a2)]) (st2 := [vI (if (a1 + (a2 * (v_X1_at m 10 g (1 : Int32)))) < (1000 : Int32) then (a1 + (a2 * (v_X1_at m 10 g (1 : Int32)))) else (1000 : Int32))]) (m1 := m) rfl ?_
    exact an_ret rfl rfl rfl rfl rfl
def b_X2_greatestMode_1 (m : PM) (g : Nat) (a1 : Int32)  (j1 : Nat) (s1 : Int32) : Int32 := (if s1 < (v_X1_at m 0 g (v_X4_cell m (nI j1) a1)) then (v_X1_at m 0 g (v_X4_cell m (nI j1) a1)) else s1)
def v_X2_greatestMode (m : PM) (g : Nat) (a1 : Int32) : Int32 := (lp (b_X2_greatestMode_1 m g a1) 8 0 (0 : Int32))
set_option maxRecDepth 100000 in
theorem r_X2_greatestMode (m : PM) (g : Nat) (a1 : Int32) : Rn MX2_greatestMode [vR 0 0 g, vI a1] m (some (vI (v_X2_greatestMode m g a1))) m := by
  refine rn_of [some (vR 0 0 g), some (vI a1), none, none] rfl ?_
  unfold v_X2_greatestMode
  refine an_b 4 (pc2 := 4) (L2 := [some (vR 0 0 g), some (vI a1), some (vI (0 : Int32)), some (vI (0 : Int32))]) (st2 := []) (m1 := m) rfl ?_
  refine re_lp (σ := Int32) (b_X2_greatestMode_1 m g a1) (fun j1 s1 => (4, [some (vR 0 0 g), some (vI a1), some (vI s1), some (vI (nI j1))], [], m)) 8 (fun s1 => (33, [some (vR 0 0 g), some (vI a1), some (vI s1), none], [], m)) (fun j1 s1 hj1 v9 m9 K1 => ?_) (fun s1 v9 m9 K1 => ?_) 8 0 (0 : Int32) (Nat.add_zero _) _ _ ?_
  · show An MX2_greatestMode 4 [some (vR 0 0 g), some (vI a1), some (vI s1), some (vI (nI j1))] [] m v9 m9
    refine an_b 3 (pc2 := if (8 : Int32) ≤ (nI j1) then 33 else 10) (L2 := [some (vR 0 0 g), some (vI a1), some (vI s1), some (vI (nI j1))]) (st2 := []) (m1 := m) rfl ?_
    refine an_f (nI_ge (a := j1) (b := 8) (by omega) (by omega)) ?_
    refine an_b 5 (pc2 := 17) (L2 := [some (vR 0 0 g), some (vI a1), some (vI s1), some (vI (nI j1))]) (st2 := [vI a1, vI (nI j1), vR 1 0 g, vI s1]) (m1 := m) rfl ?_
    refine an_call (r_X4_cell m (nI j1) a1) rfl rfl rfl rfl ?_
    refine an_call (r_X1_at m 0 g (v_X4_cell m (nI j1) a1)) rfl rfl rfl rfl ?_
    refine an_b 4 (pc2 := 4) (L2 := [some (vR 0 0 g), some (vI a1), some (vI (if s1 < (v_X1_at m 0 g (v_X4_cell m (nI j1) a1)) then (v_X1_at m 0 g (v_X4_cell m (nI j1) a1)) else s1)), some (vI ((nI j1) + (1 : Int32)))]) (st2 := []) (m1 := m) rfl ?_
    refine an_cL (K := [some (vR 0 0 g), some (vI a1), some (vI (if s1 < (v_X1_at m 0 g (v_X4_cell m (nI j1) a1)) then (v_X1_at m 0 g (v_X4_cell m (nI j1) a1)) else s1)), some (vI (nI (j1 + 1)))]) (by simp only [nI_1]) ?_
    exact K1
  · show An MX2_greatestMode 4 [some (vR 0 0 g), some (vI a1), some (vI s1), some (vI (nI 8))] [] m v9 m9
    refine an_b 3 (pc2 := if (8 : Int32) ≤ (nI 8) then 33 else 10) (L2 := [some (vR 0 0 g), some (vI a1), some (vI s1), some (vI (nI 8))]) (st2 := []) (m1 := m) rfl ?_
    refine an_t (nI_le (a := 8) (b := 8) (by omega) (by omega)) ?_
    refine an_weak (L := [some (vR 0 0 g), some (vI a1), some (vI s1), none]) (⟨rfl, rfl, rfl, trivial⟩) ?_
    exact K1
  show An MX2_greatestMode 33 [some (vR 0 0 g), some (vI a1), some (vI (lp (b_X2_greatestMode_1 m g a1) 8 0 (0 : Int32))), none] [] m _ _
  refine an_b 1 (pc2 := 34) (L2 := [some (vR 0 0 g), some (vI a1), some (vI (lp (b_X2_greatestMode_1 m g a1) 8 0 (0 : Int32))), none]) (st2 := [vI (lp (b_X2_greatestMode_1 m g a1) 8 0 (0 : Int32))]) (m1 := m) rfl ?_
  exact an_ret rfl rfl rfl rfl rfl
def b_X2_burn_1 (m : PM) (g : Nat) (a1 : Int32)  (j1 : Nat) (s1 : Int32 × PM) : Int32 × PM := ((if (v_X1_at s1.2 0 g (v_X4_cell s1.2 (nI j1) a1)) ≤ 0 then s1.1 else (s1.1 + (1 : Int32))), (if (v_X1_at s1.2 0 g (v_X4_cell s1.2 (nI j1) a1)) ≤ 0 then s1.2 else (w_X1_raise (w_X1_put s1.2 0 g (v_X4_cell s1.2 (nI j1) a1) (0 : Int32)) 6 g (nI j1))))
def v_X2_burn (m : PM) (g : Nat) (a1 : Int32) : Int32 := (lp (b_X2_burn_1 m g a1) 8 0 ((0 : Int32), m)).1
def w_X2_burn (m : PM) (g : Nat) (a1 : Int32) : PM := (if ((lp (b_X2_burn_1 m g a1) 8 0 ((0 : Int32), m)).1) ≤ 0 then (lp (b_X2_burn_1 m g a1) 8 0 ((0 : Int32), m)).2 else (w_X2_settle ((lp (b_X2_burn_1 m g a1) 8 0 ((0 : Int32), m)).2) g a1))
set_option maxRecDepth 100000 in
theorem r_X2_burn (m : PM) (g : Nat) (a1 : Int32) : Rn MX2_burn [vR 0 0 g, vI a1] m (some (vI (v_X2_burn m g a1))) (w_X2_burn m g a1) := by
  refine rn_of [some (vR 0 0 g), some (vI a1), none, none] rfl ?_
  unfold v_X2_burn w_X2_burn
  refine an_b 4 (pc2 := 4) (L2 := [some (vR 0 0 g), some (vI a1), some (vI (0 : Int32)), some (vI (0 : Int32))]) (st2 := []) (m1 := m) rfl ?_
  refine re_lp (σ := Int32 × PM) (b_X2_burn_1 m g a1) (fun j1 s1 => (4, [some (vR 0 0 g), some (vI a1), some (vI s1.1), some (vI (nI j1))], [], s1.2)) 8 (fun s1 => (55, [some (vR 0 0 g), some (vI a1), some (vI s1.1), none], [], s1.2)) (fun j1 s1 hj1 v9 m9 K1 => ?_) (fun s1 v9 m9 K1 => ?_) 8 0 ((0 : Int32), m) (Nat.add_zero _) _ _ ?_
  · show An MX2_burn 4 [some (vR 0 0 g), some (vI a1), some (vI s1.1), some (vI (nI j1))] [] s1.2 v9 m9
    refine an_b 3 (pc2 := if (8 : Int32) ≤ (nI j1) then 55 else 10) (L2 := [some (vR 0 0 g), some (vI a1), some (vI s1.1), some (vI (nI j1))]) (st2 := []) (m1 := s1.2) rfl ?_
    refine an_f (nI_ge (a := j1) (b := 8) (by omega) (by omega)) ?_
    refine an_b 4 (pc2 := 16) (L2 := [some (vR 0 0 g), some (vI a1), some (vI s1.1), some (vI (nI j1))]) (st2 := [vI a1, vI (nI j1), vR 1 0 g]) (m1 := s1.2) rfl ?_
    refine an_call (r_X4_cell s1.2 (nI j1) a1) rfl rfl rfl rfl ?_
    refine an_call (r_X1_at s1.2 0 g (v_X4_cell s1.2 (nI j1) a1)) rfl rfl rfl rfl ?_
    refine an_b 1 (pc2 := if (v_X1_at s1.2 0 g (v_X4_cell s1.2 (nI j1) a1)) ≤ 0 then 49 else 25) (L2 := [some (vR 0 0 g), some (vI a1), some (vI s1.1), some (vI (nI j1))]) (st2 := []) (m1 := s1.2) rfl ?_
    refine re_if2 (c := (v_X1_at s1.2 0 g (v_X4_cell s1.2 (nI j1) a1)) ≤ 0) (a := s1.1) (b := s1.1 + (1 : Int32)) (x := s1.2) (y := (w_X1_raise (w_X1_put s1.2 0 g (v_X4_cell s1.2 (nI j1) a1) (0 : Int32)) 6 g (nI j1))) (fun x y => (49, [some (vR 0 0 g), some (vI a1), some (vI x), some (vI (nI j1))], [], y)) (fun h1 v9 m9 K2 => ?_) (fun h1 v9 m9 K2 => ?_) _ _ ?_
    · exact K2
    · refine an_b 4 (pc2 := 31) (L2 := [some (vR 0 0 g), some (vI a1), some (vI s1.1), some (vI (nI j1))]) (st2 := [vI a1, vI (nI j1), vR 1 0 g]) (m1 := s1.2) rfl ?_
      refine an_call (r_X4_cell s1.2 (nI j1) a1) rfl rfl rfl rfl ?_
      refine an_b 1 (pc2 := 35) (L2 := [some (vR 0 0 g), some (vI a1), some (vI s1.1), some (vI (nI j1))]) (st2 := [vI (0 : Int32), vI (v_X4_cell s1.2 (nI j1) a1), vR 1 0 g]) (m1 := s1.2) rfl ?_
      refine an_call (r_X1_put s1.2 0 g (v_X4_cell s1.2 (nI j1) a1) (0 : Int32)) rfl rfl rfl rfl ?_
      refine an_b 3 (pc2 := 43) (L2 := [some (vR 0 0 g), some (vI a1), some (vI s1.1), some (vI (nI j1))]) (st2 := [vI (nI j1), vR 1 6 g]) (m1 := (w_X1_put s1.2 0 g (v_X4_cell s1.2 (nI j1) a1) (0 : Int32))) rfl ?_
      refine an_call (r_X1_raise (w_X1_put s1.2 0 g (v_X4_cell s1.2 (nI j1) a1) (0 : Int32)) 6 g (nI j1)) rfl rfl rfl rfl ?_
      refine an_b 1 (pc2 := 49) (L2 := [some (vR 0 0 g), some (vI a1), some (vI (s1.1 + (1 : Int32))), some (vI (nI j1))]) (st2 := []) (m1 := (w_X1_raise (w_X1_put s1.2 0 g (v_X4_cell s1.2 (nI j1) a1) (0 : Int32)) 6 g (nI j1))) rfl ?_
      exact K2
    refine an_b 2 (pc2 := 4) (L2 := [some (vR 0 0 g), some (vI a1), some (vI (if (v_X1_at s1.2 0 g (v_X4_cell s1.2 (nI j1) a1)) ≤ 0 then s1.1 else (s1.1 + (1 : Int32)))), some (vI ((nI j1) + (1 : Int32)))]) (st2 := []) (m1 := (if (v_X1_at s1.2 0 g (v_X4_cell s1.2 (nI j1) a1)) ≤ 0 then s1.2 else (w_X1_raise (w_X1_put s1.2 0 g (v_X4_cell s1.2 (nI j1) a1) (0 : Int32)) 6 g (nI j1)))) rfl ?_
    refine an_cL (K := [some (vR 0 0 g), some (vI a1), some (vI (if (v_X1_at s1.2 0 g (v_X4_cell s1.2 (nI j1) a1)) ≤ 0 then s1.1 else (s1.1 + (1 : Int32)))), some (vI (nI (j1 + 1)))]) (by simp only [nI_1]) ?_
    exact K1
  · show An MX2_burn 4 [some (vR 0 0 g), some (vI a1), some (vI s1.1), some (vI (nI 8))] [] s1.2 v9 m9
    refine an_b 3 (pc2 := if (8 : Int32) ≤ (nI 8) then 55 else 10) (L2 := [some (vR 0 0 g), some (vI a1), some (vI s1.1), some (vI (nI 8))]) (st2 := []) (m1 := s1.2) rfl ?_
    refine an_t (nI_le (a := 8) (b := 8) (by omega) (by omega)) ?_
    refine an_weak (L := [some (vR 0 0 g), some (vI a1), some (vI s1.1), none]) (⟨rfl, rfl, rfl, trivial⟩) ?_
    exact K1
  show An MX2_burn 55 [some (vR 0 0 g), some (vI a1), some (vI ((lp (b_X2_burn_1 m g a1) 8 0 ((0 : Int32), m)).1)), none] [] (lp (b_X2_burn_1 m g a1) 8 0 ((0 : Int32), m)).2 _ _
  refine an_b 2 (pc2 := if ((lp (b_X2_burn_1 m g a1) 8 0 ((0 : Int32), m)).1) ≤ 0 then 65 else 59) (L2 := [some (vR 0 0 g), some (vI a1), some (vI ((lp (b_X2_burn_1 m g a1) 8 0 ((0 : Int32), m)).1)), none]) (st2 := []) (m1 := (lp (b_X2_burn_1 m g a1) 8 0 ((0 : Int32), m)).2) rfl ?_
  refine re_if1 (c := ((lp (b_X2_burn_1 m g a1) 8 0 ((0 : Int32), m)).1) ≤ 0) (a := (lp (b_X2_burn_1 m g a1) 8 0 ((0 : Int32), m)).2) (b := (w_X2_settle ((lp (b_X2_burn_1 m g a1) 8 0 ((0 : Int32), m)).2) g a1)) (fun x => (65, [some (vR 0 0 g), some (vI a1), some (vI ((lp (b_X2_burn_1 m g a1) 8 0 ((0 : Int32), m)).1)), none], [], x)) (fun h3 v9 m9 K4 => ?_) (fun h3 v9 m9 K4 => ?_) _ _ ?_
  · exact K4
  · refine an_b 2 (pc2 := 61) (L2 := [some (vR 0 0 g), some (vI a1), some (vI ((lp (b_X2_burn_1 m g a1) 8 0 ((0 : Int32), m)).1)), none]) (st2 := [vI a1, vR 0 0 g]) (m1 := (lp (b_X2_burn_1 m g a1) 8 0 ((0 : Int32), m)).2) rfl ?_
    refine an_call (r_X2_settle ((lp (b_X2_burn_1 m g a1) 8 0 ((0 : Int32), m)).2) g a1) rfl rfl rfl rfl ?_
    refine an_b 1 (pc2 := 65) (L2 := [some (vR 0 0 g), some (vI a1), some (vI ((lp (b_X2_burn_1 m g a1) 8 0 ((0 : Int32), m)).1)), none]) (st2 := []) (m1 := (w_X2_settle ((lp (b_X2_burn_1 m g a1) 8 0 ((0 : Int32), m)).2) g a1)) rfl ?_
    exact K4
  refine an_b 1 (pc2 := 66) (L2 := [some (vR 0 0 g), some (vI a1), some (vI ((lp (b_X2_burn_1 m g a1) 8 0 ((0 : Int32), m)).1)), none]) (st2 := [vI ((lp (b_X2_burn_1 m g a1) 8 0 ((0 : Int32), m)).1)]) (m1 := (if ((lp (b_X2_burn_1 m g a1) 8 0 ((0 : Int32), m)).1) ≤ 0 then (lp (b_X2_burn_1 m g a1) 8 0 ((0 : Int32), m)).2 else (w_X2_settle ((lp (b_X2_burn_1 m g a1) 8 0 ((0 : Int32), m)).2) g a1))) rfl ?_
  exact an_ret rfl rfl rfl rfl rfl
def b_X2_tick_1 (m : PM) (g : Nat)  (j1 : Nat) (s1 : PM) : PM := (w_X1_put s1 4 g (nI j1) (v_X2_heatAfter s1 g (v_X1_at s1 4 g (nI j1)) (v_X2_greatestMode s1 g (nI j1))))
def b_X2_tick_2 (m : PM) (g : Nat)  (j2 : Nat) (s2 : Int32 × PM) : Int32 × PM := ((if (v_X1_at s2.2 4 g (nI j2)) ≤ (v_X1_at s2.2 10 g (0 : Int32)) then s2.1 else (s2.1 + (v_X2_burn s2.2 g (nI j2)))), (if (v_X1_at s2.2 4 g (nI j2)) ≤ (v_X1_at s2.2 10 g (0 : Int32)) then s2.2 else (w_X2_burn s2.2 g (nI j2))))
def v_X2_tick (m : PM) (g : Nat) : Int32 := (lp (b_X2_tick_2 m g) 12 0 ((0 : Int32), (lp (b_X2_tick_1 m g) 12 0 (wI m 0 0 g 11 ((m.1 0 0 g 11) + (1 : Int32)))))).1
def w_X2_tick (m : PM) (g : Nat) : PM := (lp (b_X2_tick_2 m g) 12 0 ((0 : Int32), (lp (b_X2_tick_1 m g) 12 0 (wI m 0 0 g 11 ((m.1 0 0 g 11) + (1 : Int32)))))).2
set_option maxRecDepth 100000 in
theorem r_X2_tick (m : PM) (g : Nat) : Rn MX2_tick [vR 0 0 g] m (some (vI (v_X2_tick m g))) (w_X2_tick m g) := by
  refine rn_of [some (vR 0 0 g), none, none] rfl ?_
  unfold v_X2_tick w_X2_tick
  refine an_b 8 (pc2 := 12) (L2 := [some (vR 0 0 g), some (vI (0 : Int32)), none]) (st2 := []) (m1 := (wI m 0 0 g 11 ((m.1 0 0 g 11) + (1 : Int32)))) rfl ?_
  refine re_lp (σ := PM) (b_X2_tick_1 m g) (fun j1 s1 => (12, [some (vR 0 0 g), some (vI (nI j1)), none], [], s1)) 12 (fun s1 => (49, [some (vR 0 0 g), none, none], [], s1)) (fun j1 s1 hj1 v9 m9 K1 => ?_) (fun s1 v9 m9 K1 => ?_) 12 0 (wI m 0 0 g 11 ((m.1 0 0 g 11) + (1 : Int32))) (Nat.add_zero _) _ _ ?_
  · show An MX2_tick 12 [some (vR 0 0 g), some (vI (nI j1)), none] [] s1 v9 m9
    refine an_b 3 (pc2 := if (12 : Int32) ≤ (nI j1) then 49 else 18) (L2 := [some (vR 0 0 g), some (vI (nI j1)), none]) (st2 := []) (m1 := s1) rfl ?_
    refine an_f (nI_ge (a := j1) (b := 12) (by omega) (by omega)) ?_
    refine an_b 7 (pc2 := 29) (L2 := [some (vR 0 0 g), some (vI (nI j1)), none]) (st2 := [vI (nI j1), vR 1 4 g, vR 0 0 g, vI (nI j1), vR 1 4 g]) (m1 := s1) rfl ?_
    refine an_call (r_X1_at s1 4 g (nI j1)) rfl rfl rfl rfl ?_
    refine an_b 2 (pc2 := 34) (L2 := [some (vR 0 0 g), some (vI (nI j1)), none]) (st2 := [vI (nI j1), vR 0 0 g, vI (v_X1_at s1 4 g (nI j1)), vR 0 0 g, vI (nI j1), vR 1 4 g]) (m1 := s1) rfl ?_
    refine an_call (r_X2_greatestMode s1 g (nI j1)) rfl rfl rfl rfl ?_
    refine an_call (r_X2_heatAfter s1 g (v_X1_at s1 4 g (nI j1)) (v_X2_greatestMode s1 g (nI j1))) rfl rfl rfl rfl ?_
    refine an_call (r_X1_put s1 4 g (nI j1) (v_X2_heatAfter s1 g (v_X1_at s1 4 g (nI j1)) (v_X2_greatestMode s1 g (nI j1)))) rfl rfl rfl rfl ?_
    refine an_b 2 (pc2 := 12) (L2 := [some (vR 0 0 g), some (vI ((nI j1) + (1 : Int32))), none]) (st2 := []) (m1 := (w_X1_put s1 4 g (nI j1) (v_X2_heatAfter s1 g (v_X1_at s1 4 g (nI j1)) (v_X2_greatestMode s1 g (nI j1))))) rfl ?_
    refine an_cL (K := [some (vR 0 0 g), some (vI (nI (j1 + 1))), none]) (by simp only [nI_1]) ?_
    exact K1
  · show An MX2_tick 12 [some (vR 0 0 g), some (vI (nI 12)), none] [] s1 v9 m9
    refine an_b 3 (pc2 := if (12 : Int32) ≤ (nI 12) then 49 else 18) (L2 := [some (vR 0 0 g), some (vI (nI 12)), none]) (st2 := []) (m1 := s1) rfl ?_
    refine an_t (nI_le (a := 12) (b := 12) (by omega) (by omega)) ?_
    refine an_weak (L := [some (vR 0 0 g), none, none]) (⟨rfl, trivial⟩) ?_
    exact K1
  show An MX2_tick 49 [some (vR 0 0 g), none, none] [] (lp (b_X2_tick_1 m g) 12 0 (wI m 0 0 g 11 ((m.1 0 0 g 11) + (1 : Int32)))) _ _
  refine an_b 4 (pc2 := 53) (L2 := [some (vR 0 0 g), some (vI (0 : Int32)), some (vI (0 : Int32))]) (st2 := []) (m1 := (lp (b_X2_tick_1 m g) 12 0 (wI m 0 0 g 11 ((m.1 0 0 g 11) + (1 : Int32))))) rfl ?_
  refine re_lp (σ := Int32 × PM) (b_X2_tick_2 m g) (fun j2 s2 => (53, [some (vR 0 0 g), some (vI s2.1), some (vI (nI j2))], [], s2.2)) 12 (fun s2 => (92, [some (vR 0 0 g), some (vI s2.1), none], [], s2.2)) (fun j2 s2 hj2 v9 m9 K2 => ?_) (fun s2 v9 m9 K2 => ?_) 12 0 ((0 : Int32), (lp (b_X2_tick_1 m g) 12 0 (wI m 0 0 g 11 ((m.1 0 0 g 11) + (1 : Int32))))) (Nat.add_zero _) _ _ ?_
  · show An MX2_tick 53 [some (vR 0 0 g), some (vI s2.1), some (vI (nI j2))] [] s2.2 v9 m9
    refine an_b 3 (pc2 := if (12 : Int32) ≤ (nI j2) then 92 else 59) (L2 := [some (vR 0 0 g), some (vI s2.1), some (vI (nI j2))]) (st2 := []) (m1 := s2.2) rfl ?_
    refine an_f (nI_ge (a := j2) (b := 12) (by omega) (by omega)) ?_
    refine an_b 3 (pc2 := 64) (L2 := [some (vR 0 0 g), some (vI s2.1), some (vI (nI j2))]) (st2 := [vI (nI j2), vR 1 4 g]) (m1 := s2.2) rfl ?_
    refine an_call (r_X1_at s2.2 4 g (nI j2)) rfl rfl rfl rfl ?_
    refine an_b 3 (pc2 := 72) (L2 := [some (vR 0 0 g), some (vI s2.1), some (vI (nI j2))]) (st2 := [vI (0 : Int32), vR 1 10 g, vI (v_X1_at s2.2 4 g (nI j2))]) (m1 := s2.2) rfl ?_
    refine an_call (r_X1_at s2.2 10 g (0 : Int32)) rfl rfl rfl rfl ?_
    refine an_b 1 (pc2 := if (v_X1_at s2.2 4 g (nI j2)) ≤ (v_X1_at s2.2 10 g (0 : Int32)) then 86 else 78) (L2 := [some (vR 0 0 g), some (vI s2.1), some (vI (nI j2))]) (st2 := []) (m1 := s2.2) rfl ?_
    refine re_if2 (c := (v_X1_at s2.2 4 g (nI j2)) ≤ (v_X1_at s2.2 10 g (0 : Int32))) (a := s2.1) (b := (s2.1 + (v_X2_burn s2.2 g (nI j2)))) (x := s2.2) (y := (w_X2_burn s2.2 g (nI j2))) (fun x y => (86, [some (vR 0 0 g), some (vI x), some (vI (nI j2))], [], y)) (fun h1 v9 m9 K2 => ?_) (fun h1 v9 m9 K2 => ?_) _ _ ?_
    · exact K2
    · refine an_b 3 (pc2 := 81) (L2 := [some (vR 0 0 g), some (vI s2.1), some (vI (nI j2))]) (st2 := [vI (nI j2), vR 0 0 g, vI s2.1]) (m1 := s2.2) rfl ?_
      refine an_call (r_X2_burn s2.2 g (nI j2)) rfl rfl rfl rfl ?_
      refine an_b 2 (pc2 := 86) (L2 := [some (vR 0 0 g), some (vI (s2.1 + (v_X2_burn s2.2 g (nI j2)))), some (vI (nI j2))]) (st2 := []) (m1 := (w_X2_burn s2.2 g (nI j2))) rfl ?_
      exact K2
    refine an_b 2 (pc2 := 53) (L2 := [some (vR 0 0 g), some (vI (if (v_X1_at s2.2 4 g (nI j2)) ≤ (v_X1_at s2.2 10 g (0 : Int32)) then s2.1 else (s2.1 + (v_X2_burn s2.2 g (nI j2))))), some (vI ((nI j2) + (1 : Int32)))]) (st2 := []) (m1 := (if (v_X1_at s2.2 4 g (nI j2)) ≤ (v_X1_at s2.2 10 g (0 : Int32)) then s2.2 else (w_X2_burn s2.2 g (nI j2)))) rfl ?_
    refine an_cL (K := [some (vR 0 0 g), some (vI (if (v_X1_at s2.2 4 g (nI j2)) ≤ (v_X1_at s2.2 10 g (0 : Int32)) then s2.1 else (s2.1 + (v_X2_burn s2.2 g (nI j2))))), some (vI (nI (j2 + 1)))]) (by simp only [nI_1]) ?_
    exact K2
  · show An MX2_tick 53 [some (vR 0 0 g), some (vI s2.1), some (vI (nI 12))] [] s2.2 v9 m9
    refine an_b 3 (pc2 := if (12 : Int32) ≤ (nI 12) then 92 else 59) (L2 := [some (vR 0 0 g), some (vI s2.1), some (vI (nI 12))]) (st2 := []) (m1 := s2.2) rfl ?_
    refine an_t (nI_le (a := 12) (b := 12) (by omega) (by omega)) ?_
    refine an_weak (L := [some (vR 0 0 g), some (vI s2.1), none]) (⟨rfl, rfl, trivial⟩) ?_
    exact K2
  show An MX2_tick 92 [some (vR 0 0 g), some (vI ((lp (b_X2_tick_2 m g) 12 0 ((0 : Int32), (lp (b_X2_tick_1 m g) 12 0 (wI m 0 0 g 11 ((m.1 0 0 g 11) + (1 : Int32)))))).1)), none] [] (lp (b_X2_tick_2 m g) 12 0 ((0 : Int32), (lp (b_X2_tick_1 m g) 12 0 (wI m 0 0 g 11 ((m.1 0 0 g 11) + (1 : Int32)))))).2 _ _
  refine an_b 1 (pc2 := 93) (L2 := [some (vR 0 0 g), some (vI ((lp (b_X2_tick_2 m g) 12 0 ((0 : Int32), (lp (b_X2_tick_1 m g) 12 0 (wI m 0 0 g 11 ((m.1 0 0 g 11) + (1 : Int32)))))).1)), none]) (st2 := [vI ((lp (b_X2_tick_2 m g) 12 0 ((0 : Int32), (lp (b_X2_tick_1 m g) 12 0 (wI m 0 0 g 11 ((m.1 0 0 g 11) + (1 : Int32)))))).1)]) (m1 := (lp (b_X2_tick_2 m g) 12 0 ((0 : Int32), (lp (b_X2_tick_1 m g) 12 0 (wI m 0 0 g 11 ((m.1 0 0 g 11) + (1 : Int32)))))).2) rfl ?_
  exact an_ret rfl rfl rfl rfl rfl
def b_X2_holders_1 (m : PM) (g : Nat) (a1 : Int32)  (j1 : Nat) (s1 : Int32) : Int32 := (if (v_X1_at m 0 g (v_X4_cell m (nI j1) a1)) ≤ 0 then s1 else (s1 ||| ((1 : Int32) <<< ((nI j1) &&& (31 : Int32)))))
def v_X2_holders (m : PM) (g : Nat) (a1 : Int32) : Int32 := (lp (b_X2_holders_1 m g a1) 8 0 (0 : Int32))
set_option maxRecDepth 100000 in
theorem r_X2_holders (m : PM) (g : Nat) (a1 : Int32) : Rn MX2_holders [vR 0 0 g, vI a1] m (some (vI (v_X2_holders m g a1))) m := by
  refine rn_of [some (vR 0 0 g), some (vI a1), none, none] rfl ?_
  unfold v_X2_holders
  refine an_b 4 (pc2 := 4) (L2 := [some (vR 0 0 g), some (vI a1), some (vI (0 : Int32)), some (vI (0 : Int32))]) (st2 := []) (m1 := m) rfl ?_
  refine re_lp (σ := Int32) (b_X2_holders_1 m g a1) (fun j1 s1 => (4, [some (vR 0 0 g), some (vI a1), some (vI s1), some (vI (nI j1))], [], m)) 8 (fun s1 => (37, [some (vR 0 0 g), some (vI a1), some (vI s1), none], [], m)) (fun j1 s1 hj1 v9 m9 K1 => ?_) (fun s1 v9 m9 K1 => ?_) 8 0 (0 : Int32) (Nat.add_zero _) _ _ ?_
  · show An MX2_holders 4 [some (vR 0 0 g), some (vI a1), some (vI s1), some (vI (nI j1))] [] m v9 m9
    refine an_b 3 (pc2 := if (8 : Int32) ≤ (nI j1) then 37 else 10) (L2 := [some (vR 0 0 g), some (vI a1), some (vI s1), some (vI (nI j1))]) (st2 := []) (m1 := m) rfl ?_
    refine an_f (nI_ge (a := j1) (b := 8) (by omega) (by omega)) ?_
    refine an_b 4 (pc2 := 16) (L2 := [some (vR 0 0 g), some (vI a1), some (vI s1), some (vI (nI j1))]) (st2 := [vI a1, vI (nI j1), vR 1 0 g]) (m1 := m) rfl ?_
    refine an_call (r_X4_cell m (nI j1) a1) rfl rfl rfl rfl ?_
    refine an_call (r_X1_at m 0 g (v_X4_cell m (nI j1) a1)) rfl rfl rfl rfl ?_
    refine an_b 1 (pc2 := if (v_X1_at m 0 g (v_X4_cell m (nI j1) a1)) ≤ 0 then 31 else 25) (L2 := [some (vR 0 0 g), some (vI a1), some (vI s1), some (vI (nI j1))]) (st2 := []) (m1 := m) rfl ?_
    refine re_if1 (c := (v_X1_at m 0 g (v_X4_cell m (nI j1) a1)) ≤ 0) (a := s1) (b := (s1 ||| ((1 : Int32) <<< ((nI j1) &&& (31 : Int32))))) (fun x => (31, [some (vR 0 0 g), some (vI a1), some (vI x), some (vI (nI j1))], [], m)) (fun h1 v9 m9 K2 => ?_) (fun h1 v9 m9 K2 => ?_) _ _ ?_
    · exact K2
    · refine an_b 6 (pc2 := 31) (L2 := [some (vR 0 0 g), some (vI a1), some (vI (s1 ||| ((1 : Int32) <<< ((nI j1) &&& (31 : Int32))))), some (vI (nI j1))]) (st2 := []) (m1 := m) rfl ?_
      exact K2
    refine an_b 2 (pc2 := 4) (L2 := [some (vR 0 0 g), some (vI a1), some (vI (if (v_X1_at m 0 g (v_X4_cell m (nI j1) a1)) ≤ 0 then s1 else (s1 ||| ((1 : Int32) <<< ((nI j1) &&& (31 : Int32)))))), some (vI ((nI j1) + (1 : Int32)))]) (st2 := []) (m1 := m) rfl ?_
    refine an_cL (K := [some (vR 0 0 g), some (vI a1), some (vI (if (v_X1_at m 0 g (v_X4_cell m (nI j1) a1)) ≤ 0 then s1 else (s1 ||| ((1 : Int32) <<< ((nI j1) &&& (31 : Int32)))))), some (vI (nI (j1 + 1)))]) (by simp only [nI_1]) ?_
    exact K1
  · show An MX2_holders 4 [some (vR 0 0 g), some (vI a1), some (vI s1), some (vI (nI 8))] [] m v9 m9
    refine an_b 3 (pc2 := if (8 : Int32) ≤ (nI 8) then 37 else 10) (L2 := [some (vR 0 0 g), some (vI a1), some (vI s1), some (vI (nI 8))]) (st2 := []) (m1 := m) rfl ?_
    refine an_t (nI_le (a := 8) (b := 8) (by omega) (by omega)) ?_
    refine an_weak (L := [some (vR 0 0 g), some (vI a1), some (vI s1), none]) (⟨rfl, rfl, rfl, trivial⟩) ?_
    exact K1
  show An MX2_holders 37 [some (vR 0 0 g), some (vI a1), some (vI (lp (b_X2_holders_1 m g a1) 8 0 (0 : Int32))), none] [] m _ _
  refine an_b 1 (pc2 := 38) (L2 := [some (vR 0 0 g), some (vI a1), some (vI (lp (b_X2_holders_1 m g a1) 8 0 (0 : Int32))), none]) (st2 := [vI (lp (b_X2_holders_1 m g a1) 8 0 (0 : Int32))]) (m1 := m) rfl ?_
  exact an_ret rfl rfl rfl rfl rfl
def b_X2_locksOf_1 (m : PM) (g : Nat) (a1 : Int32)  (j1 : Nat) (s1 : Int32) : Int32 := (if (v_X1_at m 0 g (v_X4_cell m a1 (nI j1))) ≤ 0 then s1 else (s1 + (1 : Int32)))
def v_X2_locksOf (m : PM) (g : Nat) (a1 : Int32) : Int32 := (lp (b_X2_locksOf_1 m g a1) 12 0 (0 : Int32))
set_option maxRecDepth 100000 in
theorem r_X2_locksOf (m : PM) (g : Nat) (a1 : Int32) : Rn MX2_locksOf [vR 0 0 g, vI a1] m (some (vI (v_X2_locksOf m g a1))) m := by
  refine rn_of [some (vR 0 0 g), some (vI a1), none, none] rfl ?_
  unfold v_X2_locksOf
  refine an_b 4 (pc2 := 4) (L2 := [some (vR 0 0 g), some (vI a1), some (vI (0 : Int32)), some (vI (0 : Int32))]) (st2 := []) (m1 := m) rfl ?_
  refine re_lp (σ := Int32) (b_X2_locksOf_1 m g a1) (fun j1 s1 => (4, [some (vR 0 0 g), some (vI a1), some (vI s1), some (vI (nI j1))], [], m)) 12 (fun s1 => (34, [some (vR 0 0 g), some (vI a1), some (vI s1), none], [], m)) (fun j1 s1 hj1 v9 m9 K1 => ?_) (fun s1 v9 m9 K1 => ?_) 12 0 (0 : Int32) (Nat.add_zero _) _ _ ?_
  · show An MX2_locksOf 4 [some (vR 0 0 g), some (vI a1), some (vI s1), some (vI (nI j1))] [] m v9 m9
    refine an_b 3 (pc2 := if (12 : Int32) ≤ (nI j1) then 34 else 10) (L2 := [some (vR 0 0 g), some (vI a1), some (vI s1), some (vI (nI j1))]) (st2 := []) (m1 := m) rfl ?_
    refine an_f (nI_ge (a := j1) (b := 12) (by omega) (by omega)) ?_
    refine an_b 4 (pc2 := 16) (L2 := [some (vR 0 0 g), some (vI a1), some (vI s1), some (vI (nI j1))]) (st2 := [vI (nI j1), vI a1, vR 1 0 g]) (m1 := m) rfl ?_
    refine an_call (r_X4_cell m a1 (nI j1)) rfl rfl rfl rfl ?_
    refine an_call (r_X1_at m 0 g (v_X4_cell m a1 (nI j1))) rfl rfl rfl rfl ?_
    refine an_b 1 (pc2 := if (v_X1_at m 0 g (v_X4_cell m a1 (nI j1))) ≤ 0 then 28 else 25) (L2 := [some (vR 0 0 g), some (vI a1), some (vI s1), some (vI (nI j1))]) (st2 := []) (m1 := m) rfl ?_
    refine re_if1 (c := (v_X1_at m 0 g (v_X4_cell m a1 (nI j1))) ≤ 0) (a := s1) (b := s1 + (1 : Int32)) (fun x => (28, [some (vR 0 0 g), some (vI a1), some (vI x), some (vI (nI j1))], [], m)) (fun h1 v9 m9 K2 => ?_) (fun h1 v9 m9 K2 => ?_) _ _ ?_
    · exact K2
    · refine an_b 1 (pc2 := 28) (L2 := [some (vR 0 0 g), some (vI a1), some (vI (s1 + (1 : Int32))), some (vI (nI j1))]) (st2 := []) (m1 := m) rfl ?_
      exact K2
    refine an_b 2 (pc2 := 4) (L2 := [some (vR 0 0 g), some (vI a1), some (vI (if (v_X1_at m 0 g (v_X4_cell m a1 (nI j1))) ≤ 0 then s1 else (s1 + (1 : Int32)))), some (vI ((nI j1) + (1 : Int32)))]) (st2 := []) (m1 := m) rfl ?_
    refine an_cL (K := [some (vR 0 0 g), some (vI a1), some (vI (if (v_X1_at m 0 g (v_X4_cell m a1 (nI j1))) ≤ 0 then s1 else (s1 + (1 : Int32)))), some (vI (nI (j1 + 1)))]) (by simp only [nI_1]) ?_
    exact K1
  · show An MX2_locksOf 4 [some (vR 0 0 g), some (vI a1), some (vI s1), some (vI (nI 12))] [] m v9 m9
    refine an_b 3 (pc2 := if (12 : Int32) ≤ (nI 12) then 34 else 10) (L2 := [some (vR 0 0 g), some (vI a1), some (vI s1), some (vI (nI 12))]) (st2 := []) (m1 := m) rfl ?_
    refine an_t (nI_le (a := 12) (b := 12) (by omega) (by omega)) ?_
    refine an_weak (L := [some (vR 0 0 g), some (vI a1), some (vI s1), none]) (⟨rfl, rfl, rfl, trivial⟩) ?_
    exact K1
  show An MX2_locksOf 34 [some (vR 0 0 g), some (vI a1), some (vI (lp (b_X2_locksOf_1 m g a1) 12 0 (0 : Int32))), none] [] m _ _
  refine an_b 1 (pc2 := 35) (L2 := [some (vR 0 0 g), some (vI a1), some (vI (lp (b_X2_locksOf_1 m g a1) 12 0 (0 : Int32))), none]) (st2 := [vI (lp (b_X2_locksOf_1 m g a1) 12 0 (0 : Int32))]) (m1 := m) rfl ?_
  exact an_ret rfl rfl rfl rfl rfl
def b_X2_lockCount_1 (m : PM) (g : Nat)  (j1 : Nat) (s1 : Int32) : Int32 := (s1 + (v_X2_locksOf m g (nI j1)))
def v_X2_lockCount (m : PM) (g : Nat) : Int32 := (lp (b_X2_lockCount_1 m g) 8 0 (0 : Int32))
set_option maxRecDepth 100000 in
theorem r_X2_lockCount (m : PM) (g : Nat) : Rn MX2_lockCount [vR 0 0 g] m (some (vI (v_X2_lockCount m g))) m := by
  refine rn_of [some (vR 0 0 g), none, none] rfl ?_
  unfold v_X2_lockCount
  refine an_b 4 (pc2 := 4) (L2 := [some (vR 0 0 g), some (vI (0 : Int32)), some (vI (0 : Int32))]) (st2 := []) (m1 := m) rfl ?_
  refine re_lp (σ := Int32) (b_X2_lockCount_1 m g) (fun j1 s1 => (4, [some (vR 0 0 g), some (vI s1), some (vI (nI j1))], [], m)) 8 (fun s1 => (24, [some (vR 0 0 g), some (vI s1), none], [], m)) (fun j1 s1 hj1 v9 m9 K1 => ?_) (fun s1 v9 m9 K1 => ?_) 8 0 (0 : Int32) (Nat.add_zero _) _ _ ?_
  · show An MX2_lockCount 4 [some (vR 0 0 g), some (vI s1), some (vI (nI j1))] [] m v9 m9
    refine an_b 3 (pc2 := if (8 : Int32) ≤ (nI j1) then 24 else 10) (L2 := [some (vR 0 0 g), some (vI s1), some (vI (nI j1))]) (st2 := []) (m1 := m) rfl ?_
    refine an_f (nI_ge (a := j1) (b := 8) (by omega) (by omega)) ?_
    refine an_b 3 (pc2 := 13) (L2 := [some (vR 0 0 g), some (vI s1), some (vI (nI j1))]) (st2 := [vI (nI j1), vR 0 0 g, vI s1]) (m1 := m) rfl ?_
    refine an_call (r_X2_locksOf m g (nI j1)) rfl rfl rfl rfl ?_
    refine an_b 4 (pc2 := 4) (L2 := [some (vR 0 0 g), some (vI (s1 + (v_X2_locksOf m g (nI j1)))), some (vI ((nI j1) + (1 : Int32)))]) (st2 := []) (m1 := m) rfl ?_
    refine an_cL (K := [some (vR 0 0 g), some (vI (s1 + (v_X2_locksOf m g (nI j1)))), some (vI (nI (j1 + 1)))]) (by simp only [nI_1]) ?_
    exact K1
  · show An MX2_lockCount 4 [some (vR 0 0 g), some (vI s1), some (vI (nI 8))] [] m v9 m9
    refine an_b 3 (pc2 := if (8 : Int32) ≤ (nI 8) then 24 else 10) (L2 := [some (vR 0 0 g), some (vI s1), some (vI (nI 8))]) (st2 := []) (m1 := m) rfl ?_
    refine an_t (nI_le (a := 8) (b := 8) (by omega) (by omega)) ?_
    refine an_weak (L := [some (vR 0 0 g), some (vI s1), none]) (⟨rfl, rfl, trivial⟩) ?_
    exact K1
  show An MX2_lockCount 24 [some (vR 0 0 g), some (vI (lp (b_X2_lockCount_1 m g) 8 0 (0 : Int32))), none] [] m _ _
  refine an_b 1 (pc2 := 25) (L2 := [some (vR 0 0 g), some (vI (lp (b_X2_lockCount_1 m g) 8 0 (0 : Int32))), none]) (st2 := [vI (lp (b_X2_lockCount_1 m g) 8 0 (0 : Int32))]) (m1 := m) rfl ?_
  exact an_ret rfl rfl rfl rfl rfl
def b_X2_waitingCount_1 (m : PM) (g : Nat)  (j1 : Nat) (s1 : Int32) : Int32 := (if (v_X2_isWaiting m g (nI j1)) = 0 then s1 else (s1 + (1 : Int32)))
def v_X2_waitingCount (m : PM) (g : Nat) : Int32 := (lp (b_X2_waitingCount_1 m g) 8 0 (0 : Int32))
set_option maxRecDepth 100000 in
theorem r_X2_waitingCount (m : PM) (g : Nat) : Rn MX2_waitingCount [vR 0 0 g] m (some (vI (v_X2_waitingCount m g))) m := by
  refine rn_of [some (vR 0 0 g), none, none] rfl ?_
  unfold v_X2_waitingCount
  refine an_b 4 (pc2 := 4) (L2 := [some (vR 0 0 g), some (vI (0 : Int32)), some (vI (0 : Int32))]) (st2 := []) (m1 := m) rfl ?_
  refine re_lp (σ := Int32) (b_X2_waitingCount_1 m g) (fun j1 s1 => (4, [some (vR 0 0 g), some (vI s1), some (vI (nI j1))], [], m)) 8 (fun s1 => (27, [some (vR 0 0 g), some (vI s1), none], [], m)) (fun j1 s1 hj1 v9 m9 K1 => ?_) (fun s1 v9 m9 K1 => ?_) 8 0 (0 : Int32) (Nat.add_zero _) _ _ ?_
  · show An MX2_waitingCount 4 [some (vR 0 0 g), some (vI s1), some (vI (nI j1))] [] m v9 m9
    refine an_b 3 (pc2 := if (8 : Int32) ≤ (nI j1) then 27 else 10) (L2 := [some (vR 0 0 g), some (vI s1), some (vI (nI j1))]) (st2 := []) (m1 := m) rfl ?_
    refine an_f (nI_ge (a := j1) (b := 8) (by omega) (by omega)) ?_
    refine an_b 2 (pc2 := 12) (L2 := [some (vR 0 0 g), some (vI s1), some (vI (nI j1))]) (st2 := [vI (nI j1), vR 0 0 g]) (m1 := m) rfl ?_
    refine an_call (r_X2_isWaiting m g (nI j1)) rfl rfl rfl rfl ?_
    refine an_b 1 (pc2 := if (v_X2_isWaiting m g (nI j1)) = 0 then 21 else 18) (L2 := [some (vR 0 0 g), some (vI s1), some (vI (nI j1))]) (st2 := []) (m1 := m) rfl ?_
    refine re_if1 (c := (v_X2_isWaiting m g (nI j1)) = 0) (a := s1) (b := s1 + (1 : Int32)) (fun x => (21, [some (vR 0 0 g), some (vI x), some (vI (nI j1))], [], m)) (fun h1 v9 m9 K2 => ?_) (fun h1 v9 m9 K2 => ?_) _ _ ?_
    · exact K2
    · refine an_b 1 (pc2 := 21) (L2 := [some (vR 0 0 g), some (vI (s1 + (1 : Int32))), some (vI (nI j1))]) (st2 := []) (m1 := m) rfl ?_
      exact K2
    refine an_b 2 (pc2 := 4) (L2 := [some (vR 0 0 g), some (vI (if (v_X2_isWaiting m g (nI j1)) = 0 then s1 else (s1 + (1 : Int32)))), some (vI ((nI j1) + (1 : Int32)))]) (st2 := []) (m1 := m) rfl ?_
    refine an_cL (K := [some (vR 0 0 g), some (vI (if (v_X2_isWaiting m g (nI j1)) = 0 then s1 else (s1 + (1 : Int32)))), some (vI (nI (j1 + 1)))]) (by simp only [nI_1]) ?_
    exact K1
  · show An MX2_waitingCount 4 [some (vR 0 0 g), some (vI s1), some (vI (nI 8))] [] m v9 m9
    refine an_b 3 (pc2 := if (8 : Int32) ≤ (nI 8) then 27 else 10) (L2 := [some (vR 0 0 g), some (vI s1), some (vI (nI 8))]) (st2 := []) (m1 := m) rfl ?_
    refine an_t (nI_le (a := 8) (b := 8) (by omega) (by omega)) ?_
    refine an_weak (L := [some (vR 0 0 g), some (vI s1), none]) (⟨rfl, rfl, trivial⟩) ?_
    exact K1
  show An MX2_waitingCount 27 [some (vR 0 0 g), some (vI (lp (b_X2_waitingCount_1 m g) 8 0 (0 : Int32))), none] [] m _ _
  refine an_b 1 (pc2 := 28) (L2 := [some (vR 0 0 g), some (vI (lp (b_X2_waitingCount_1 m g) 8 0 (0 : Int32))), none]) (st2 := [vI (lp (b_X2_waitingCount_1 m g) 8 0 (0 : Int32))]) (m1 := m) rfl ?_
  exact an_ret rfl rfl rfl rfl rfl
def b_X2_heldRows_1 (m : PM) (g : Nat)  (j1 : Nat) (s1 : Int32) : Int32 := (if (v_X2_holders m g (nI j1)) = 0 then s1 else (s1 + (1 : Int32)))
def v_X2_heldRows (m : PM) (g : Nat) : Int32 := (lp (b_X2_heldRows_1 m g) 12 0 (0 : Int32))
set_option maxRecDepth 100000 in
theorem r_X2_heldRows (m : PM) (g : Nat) : Rn MX2_heldRows [vR 0 0 g] m (some (vI (v_X2_heldRows m g))) m := by
  refine rn_of [some (vR 0 0 g), none, none] rfl ?_
  unfold v_X2_heldRows
  refine an_b 4 (pc2 := 4) (L2 := [some (vR 0 0 g), some (vI (0 : Int32)), some (vI (0 : Int32))]) (st2 := []) (m1 := m) rfl ?_
  refine re_lp (σ := Int32) (b_X2_heldRows_1 m g) (fun j1 s1 => (4, [some (vR 0 0 g), some (vI s1), some (vI (nI j1))], [], m)) 12 (fun s1 => (27, [some (vR 0 0 g), some (vI s1), none], [], m)) (fun j1 s1 hj1 v9 m9 K1 => ?_) (fun s1 v9 m9 K1 => ?_) 12 0 (0 : Int32) (Nat.add_zero _) _ _ ?_
  · show An MX2_heldRows 4 [some (vR 0 0 g), some (vI s1), some (vI (nI j1))] [] m v9 m9
    refine an_b 3 (pc2 := if (12 : Int32) ≤ (nI j1) then 27 else 10) (L2 := [some (vR 0 0 g), some (vI s1), some (vI (nI j1))]) (st2 := []) (m1 := m) rfl ?_
    refine an_f (nI_ge (a := j1) (b := 12) (by omega) (by omega)) ?_
    refine an_b 2 (pc2 := 12) (L2 := [some (vR 0 0 g), some (vI s1), some (vI (nI j1))]) (st2 := [vI (nI j1), vR 0 0 g]) (m1 := m) rfl ?_
    refine an_call (r_X2_holders m g (nI j1)) rfl rfl rfl rfl ?_
    refine an_b 1 (pc2 := if (v_X2_holders m g (nI j1)) = 0 then 21 else 18) (L2 := [some (vR 0 0 g), some (vI s1), some (vI (nI j1))]) (st2 := []) (m1 := m) rfl ?_
    refine re_if1 (c := (v_X2_holders m g (nI j1)) = 0) (a := s1) (b := s1 + (1 : Int32)) (fun x => (21, [some (vR 0 0 g), some (vI x), some (vI (nI j1))], [], m)) (fun h1 v9 m9 K2 => ?_) (fun h1 v9 m9 K2 => ?_) _ _ ?_
    · exact K2
    · refine an_b 1 (pc2 := 21) (L2 := [some (vR 0 0 g), some (vI (s1 + (1 : Int32))), some (vI (nI j1))]) (st2 := []) (m1 := m) rfl ?_
      exact K2
    refine an_b 2 (pc2 := 4) (L2 := [some (vR 0 0 g), some (vI (if (v_X2_holders m g (nI j1)) = 0 then s1 else (s1 + (1 : Int32)))), some (vI ((nI j1) + (1 : Int32)))]) (st2 := []) (m1 := m) rfl ?_
    refine an_cL (K := [some (vR 0 0 g), some (vI (if (v_X2_holders m g (nI j1)) = 0 then s1 else (s1 + (1 : Int32)))), some (vI (nI (j1 + 1)))]) (by simp only [nI_1]) ?_
    exact K1
  · show An MX2_heldRows 4 [some (vR 0 0 g), some (vI s1), some (vI (nI 12))] [] m v9 m9
    refine an_b 3 (pc2 := if (12 : Int32) ≤ (nI 12) then 27 else 10) (L2 := [some (vR 0 0 g), some (vI s1), some (vI (nI 12))]) (st2 := []) (m1 := m) rfl ?_
    refine an_t (nI_le (a := 12) (b := 12) (by omega) (by omega)) ?_
    refine an_weak (L := [some (vR 0 0 g), some (vI s1), none]) (⟨rfl, rfl, trivial⟩) ?_
    exact K1
  show An MX2_heldRows 27 [some (vR 0 0 g), some (vI (lp (b_X2_heldRows_1 m g) 12 0 (0 : Int32))), none] [] m _ _
  refine an_b 1 (pc2 := 28) (L2 := [some (vR 0 0 g), some (vI (lp (b_X2_heldRows_1 m g) 12 0 (0 : Int32))), none]) (st2 := [vI (lp (b_X2_heldRows_1 m g) 12 0 (0 : Int32))]) (m1 := m) rfl ?_
  exact an_ret rfl rfl rfl rfl rfl
def v_X2_handPart (m : PM) (g : Nat) (a1 : Int32) (a2 : Int32) : Int32 := (if a2 = nI 0 then (v_X2_locksOf m g a1) else (if a2 = nI 1 then (v_X2_work m g a1) else (if a2 = nI 2 then (v_X1_at m 1 g a1) else (if a2 = nI 3 then (v_X1_at m 2 g a1) else (if a2 = nI 4 then (v_X2_direct m g a1) else (if a2 = nI 5 then (v_X1_at m 6 g a1) else (if a2 = nI 6 then (v_X1_at m 7 g a1) else (if a2 = nI 7 then (v_X1_at m 8 g a1) else (v_X1_at m 9 g a1)))))))))
set_option maxRecDepth 100000 in
theorem r_X2_handPart (m : PM) (g : Nat) (a1 : Int32) (a2 : Int32) : Rn MX2_handPart [vR 0 0 g, vI a1, vI a2] m (some (vI (v_X2_handPart m g a1 a2))) m := by
  refine rn_of [some (vR 0 0 g), some (vI a1), some (vI a2)] rfl ?_
  unfold v_X2_handPart
  refine an_b 1 (pc2 := 1) (L2 := [some (vR 0 0 g), some (vI a1), some (vI a2)]) (st2 := [vI a2]) (m1 := m) rfl ?_
  refine an_tsw [48, 54, 60, 69, 78, 84, 93, 102] 111 rfl rfl rfl (by decide) ?_
  refine an_ifi (c := a2 = nI 0) (fun h1 => ?_) (fun h1 => ?_)
  · refine an_b 2 (pc2 := 50) (L2 := [some (vR 0 0 g), some (vI a1), some (vI a2)]) (st2 := [vI a1, vR 0 0 g]) (m1 := m) rfl ?_
    refine an_call (r_X2_locksOf m g a1) rfl rfl rfl rfl ?_
    exact an_ret rfl rfl rfl rfl rfl
  · refine an_ifi (c := a2 = nI 1) (fun h2 => ?_) (fun h2 => ?_)
    · refine an_b 2 (pc2 := 56) (L2 := [some (vR 0 0 g), some (vI a1), some (vI a2)]) (st2 := [vI a1, vR 0 0 g]) (m1 := m) rfl ?_
      refine an_call (r_X2_work m g a1) rfl rfl rfl rfl ?_
      exact an_ret rfl rfl rfl rfl rfl
    · refine an_ifi (c := a2 = nI 2) (fun h3 => ?_) (fun h3 => ?_)
      · refine an_b 3 (pc2 := 65) (L2 := [some (vR 0 0 g), some (vI a1), some (vI a2)]) (st2 := [vI a1, vR 1 1 g]) (m1 := m) rfl ?_
        refine an_call (r_X1_at m 1 g a1) rfl rfl rfl rfl ?_
        exact an_ret rfl rfl rfl rfl rfl
      · refine an_ifi (c := a2 = nI 3) (fun h4 => ?_) (fun h4 => ?_)
        · refine an_b 3 (pc2 := 74) (L2 := [some (vR 0 0 g), some (vI a1), some (vI a2)]) (st2 := [vI a1, vR 1 2 g]) (m1 := m) rfl ?_
          refine an_call (r_X1_at m 2 g a1) rfl rfl rfl rfl ?_
          exact an_ret rfl rfl rfl rfl rfl
        · refine an_ifi (c := a2 = nI 4) (fun h5 => ?_) (fun h5 => ?_)
          · refine an_b 2 (pc2 := 80) (L2 := [some (vR 0 0 g), some (vI a1), some (vI a2)]) (st2 := [vI a1, vR 0 0 g]) (m1 := m) rfl ?_
            refine an_call (r_X2_direct m g a1) rfl rfl rfl rfl ?_
            exact an_ret rfl rfl rfl rfl rfl
          · refine an_ifi (c := a2 = nI 5) (fun h6 => ?_) (fun h6 => ?_)
            · refine an_b 3 (pc2 := 89) (L2 := [some (vR 0 0 g), some (vI a1), some (vI a2)]) (st2 := [vI a1, vR 1 6 g]) (m1 := m) rfl ?_
              refine an_call (r_X1_at m 6 g a1) rfl rfl rfl rfl ?_
              exact an_ret rfl rfl rfl rfl rfl
            · refine an_ifi (c := a2 = nI 6) (fun h7 => ?_) (fun h7 => ?_)
              · refine an_b 3 (pc2 := 98) (L2 := [some (vR 0 0 g), some (vI a1), some (vI a2)]) (st2 := [vI a1, vR 1 7 g]) (m1 := m) rfl ?_
                refine an_call (r_X1_at m 7 g a1) rfl rfl rfl rfl ?_
                exact an_ret rfl rfl rfl rfl rfl
              · refine an_ifi (c := a2 = nI 7) (fun h8 => ?_) (fun h8 => ?_)
                · refine an_b 3 (pc2 := 107) (L2 := [some (vR 0 0 g), some (vI a1), some (vI a2)]) (st2 := [vI a1, vR 1 8 g]) (m1 := m) rfl ?_
                  refine an_call (r_X1_at m 8 g a1) rfl rfl rfl rfl ?_
                  exact an_ret rfl rfl rfl rfl rfl
                · refine an_b 3 (pc2 := 116) (L2 := [some (vR 0 0 g), some (vI a1), some (vI a2)]) (st2 := [vI a1, vR 1 9 g]) (m1 := m) rfl ?_
                  refine an_call (r_X1_at m 9 g a1) rfl rfl rfl rfl ?_
                  exact an_ret rfl rfl rfl rfl rfl
def v_X2_rowPart (m : PM) (g : Nat) (a1 : Int32) (a2 : Int32) : Int32 := (if a2 = nI 0 then (v_X1_at m 4 g a1) else (if a2 = nI 1 then (v_X2_greatestMode m g a1) else (if a2 = nI 2 then (v_X2_holders m g a1) else (if a2 = nI 3 then (v_X2_queueLength m g a1) else (if a2 = nI 4 then (v_X1_at m 5 g a1) else (v_X2_handAt m g a1 (0 : Int32)))))))
set_option maxRecDepth 100000 in
theorem r_X2_rowPart (m : PM) (g : Nat) (a1 : Int32) (a2 : Int32) : Rn MX2_rowPart [vR 0 0 g, vI a1, vI a2] m (some (vI (v_X2_rowPart m g a1 a2))) m := by
  refine rn_of [some (vR 0 0 g), some (vI a1), some (vI a2)] rfl ?_
  unfold v_X2_rowPart
  refine an_b 1 (pc2 := 1) (L2 := [some (vR 0 0 g), some (vI a1), some (vI a2)]) (st2 := [vI a2]) (m1 := m) rfl ?_
  refine an_tsw [36, 45, 51, 57, 63] 72 rfl rfl rfl (by decide) ?_
  refine an_ifi (c := a2 = nI 0) (fun h1 => ?_) (fun h1 => ?_)
  · refine an_b 3 (pc2 := 41) (L2 := [some (vR 0 0 g), some (vI a1), some (vI a2)]) (st2 := [vI a1, vR 1 4 g]) (m1 := m) rfl ?_
    refine an_call (r_X1_at m 4 g a1) rfl rfl rfl rfl ?_
    exact an_ret rfl rfl rfl rfl rfl
  · refine an_ifi (c := a2 = nI 1) (fun h2 => ?_) (fun h2 => ?_)
    · refine an_b 2 (pc2 := 47) (L2 := [some (vR 0 0 g), some (vI a1), some (vI a2)]) (st2 := [vI a1, vR 0 0 g]) (m1 := m) rfl ?_
      refine an_call (r_X2_greatestMode m g a1) rfl rfl rfl rfl ?_
      exact an_ret rfl rfl rfl rfl rfl
    · refine an_ifi (c := a2 = nI 2) (fun h3 => ?_) (fun h3 => ?_)
      · refine an_b 2 (pc2 := 53) (L2 := [some (vR 0 0 g), some (vI a1), some (vI a2)]) (st2 := [vI a1, vR 0 0 g]) (m1 := m) rfl ?_
        refine an_call (r_X2_holders m g a1) rfl rfl rfl rfl ?_
        exact an_ret rfl rfl rfl rfl rfl
      · refine an_ifi (c := a2 = nI 3) (fun h4 => ?_) (fun h4 => ?_)
        · refine an_b 2 (pc2 := 59) (L2 := [some (vR 0 0 g), some (vI a1), some (vI a2)]) (st2 := [vI a1, vR 0 0 g]) (m1 := m) rfl ?_
          refine an_call (r_X2_queueLength m g a1) rfl rfl rfl rfl ?_
          exact an_ret rfl rfl rfl rfl rfl
        · refine an_ifi (c := a2 = nI 4) (fun h5 => ?_) (fun h5 => ?_)
          · refine an_b 3 (pc2 := 68) (L2 := [some (vR 0 0 g), some (vI a1), some (vI a2)]) (st2 := [vI a1, vR 1 5 g]) (m1 := m) rfl ?_
            refine an_call (r_X1_at m 5 g a1) rfl rfl rfl rfl ?_
            exact an_ret rfl rfl rfl rfl rfl
          · refine an_b 3 (pc2 := 75) (L2 := [some (vR 0 0 g), some (vI a1), some (vI a2)]) (st2 := [vI (0 : Int32), vI a1, vR 0 0 g]) (m1 := m) rfl ?_
            refine an_call (r_X2_handAt m g a1 (0 : Int32)) rfl rfl rfl rfl ?_
            exact an_ret rfl rfl rfl rfl rfl
def v_X2_requestPart (m : PM) (g : Nat) (a1 : Int32) (a2 : Int32) (a3 : Int32) : Int32 := (if (v_X2_handAt m g a1 a2) = (-1 : Int32) then (v_X2_handAt m g a1 a2) else (if ¬ a3 = 0 then (v_X1_at m 2 g (v_X2_handAt m g a1 a2)) else (v_X2_handAt m g a1 a2)))
set_option maxRecDepth 100000 in
theorem r_X2_requestPart (m : PM) (g : Nat) (a1 : Int32) (a2 : Int32) (a3 : Int32) : Rn MX2_requestPart [vR 0 0 g, vI a1, vI a2, vI a3] m (some (vI (v_X2_requestPart m g a1 a2 a3))) m := by
  refine rn_of [some (vR 0 0 g), some (vI a1), some (vI a2), some (vI a3), none] rfl ?_
  unfold v_X2_requestPart
  refine an_b 3 (pc2 := 3) (L2 := [some (vR 0 0 g), some (vI a1), some (vI a2), some (vI a3), none]) (st2 := [vI a2, vI a1, vR 0 0 g]) (m1 := m) rfl ?_
  refine an_call (r_X2_handAt m g a1 a2) rfl rfl rfl rfl ?_
  refine an_b 4 (pc2 := if (v_X2_handAt m g a1 a2) = (-1 : Int32) then 18 else 14) (L2 := [some (vR 0 0 g), some (vI a1), some (vI a2), some (vI a3), some (vI (v_X2_handAt m g a1 a2))]) (st2 := []) (m1 := m) rfl ?_
  refine an_ifi (c := (v_X2_handAt m g a1 a2) = (-1 : Int32)) (fun h1 => ?_) (fun h1 => ?_)
  · refine an_b 2 (pc2 := 32) (L2 := [some (vR 0 0 g), some (vI a1), some (vI a2), some (vI a3), some (vI (v_X2_handAt m g a1 a2))]) (st2 := [vI (v_X2_handAt m g a1 a2)]) (m1 := m) rfl ?_
    exact an_ret rfl rfl rfl rfl rfl
  · refine an_b 2 (pc2 := if ¬ a3 = 0 then 23 else 18) (L2 := [some (vR 0 0 g), some (vI a1), some (vI a2), some (vI a3), some (vI (v_X2_handAt m g a1 a2))]) (st2 := []) (m1 := m) rfl ?_
    refine an_ifi (c := ¬ a3 = 0) (fun h2 => ?_) (fun h2 => ?_)
    · refine an_b 3 (pc2 := 29) (L2 := [some (vR 0 0 g), some (vI a1), some (vI a2), some (vI a3), some (vI (v_X2_handAt m g a1 a2))]) (st2 := [vI (v_X2_handAt m g a1 a2), vR 1 2 g]) (m1 := m) rfl ?_
      refine an_call (r_X1_at m 2 g (v_X2_handAt m g a1 a2)) rfl rfl rfl rfl ?_
      exact an_ret rfl rfl rfl rfl rfl
    · refine an_b 2 (pc2 := 32) (L2 := [some (vR 0 0 g), some (vI a1), some (vI a2), some (vI a3), some (vI (v_X2_handAt m g a1 a2))]) (st2 := [vI (v_X2_handAt m g a1 a2)]) (m1 := m) rfl ?_
      exact an_ret rfl rfl rfl rfl rfl
def v_X2_total (m : PM) (g : Nat) (a1 : Int32) : Int32 := (if a1 = nI 0 then (v_X2_lockCount m g) else (if a1 = nI 1 then (v_X2_waitingCount m g) else (if a1 = nI 2 then (m.1 0 0 g 11) else (if a1 = nI 3 then (v_X1_sum m 6 g) else (if a1 = nI 4 then (v_X1_sum m 7 g) else (if a1 = nI 5 then (v_X1_sum m 5 g) else (if a1 = nI 6 then (v_X1_sum m 8 g) else (if a1 = nI 7 then (v_X1_sum m 9 g) else (v_X2_heldRows m g)))))))))
set_option maxRecDepth 100000 in
theorem r_X2_total (m : PM) (g : Nat) (a1 : Int32) : Rn MX2_total [vR 0 0 g, vI a1] m (some (vI (v_X2_total m g a1))) m := by
  refine rn_of [some (vR 0 0 g), some (vI a1)] rfl ?_
  unfold v_X2_total
  refine an_b 1 (pc2 := 1) (L2 := [some (vR 0 0 g), some (vI a1)]) (st2 := [vI a1]) (m1 := m) rfl ?_
  refine an_tsw [48, 53, 58, 63, 71, 79, 87, 95] 103 rfl rfl rfl (by decide) ?_
  refine an_ifi (c := a1 = nI 0) (fun h1 => ?_) (fun h1 => ?_)
  · refine an_b 1 (pc2 := 49) (L2 := [some (vR 0 0 g), some (vI a1)]) (st2 := [vR 0 0 g]) (m1 := m) rfl ?_
    refine an_call (r_X2_lockCount m g) rfl rfl rfl rfl ?_
    exact an_ret rfl rfl rfl rfl rfl
  · refine an_ifi (c := a1 = nI 1) (fun h2 => ?_) (fun h2 => ?_)
    · refine an_b 1 (pc2 := 54) (L2 := [some (vR 0 0 g), some (vI a1)]) (st2 := [vR 0 0 g]) (m1 := m) rfl ?_
      refine an_call (r_X2_waitingCount m g) rfl rfl rfl rfl ?_
      exact an_ret rfl rfl rfl rfl rfl
    · refine an_ifi (c := a1 = nI 2) (fun h3 => ?_) (fun h3 => ?_)
      · refine an_b 2 (pc2 := 62) (L2 := [some (vR 0 0 g), some (vI a1)]) (st2 := [vI (m.1 0 0 g 11)]) (m1 := m) rfl ?_
        exact an_ret rfl rfl rfl rfl rfl
      · refine an_ifi (c := a1 = nI 3) (fun h4 => ?_) (fun h4 => ?_)
        · refine an_b 2 (pc2 := 67) (L2 := [some (vR 0 0 g), some (vI a1)]) (st2 := [vR 1 6 g]) (m1 := m) rfl ?_
          refine an_call (r_X1_sum m 6 g) rfl rfl rfl rfl ?_
          exact an_ret rfl rfl rfl rfl rfl
        · refine an_ifi (c := a1 = nI 4) (fun h5 => ?_) (fun h5 => ?_)
          · refine an_b 2 (pc2 := 75) (L2 := [some (vR 0 0 g), some (vI a1)]) (st2 := [vR 1 7 g]) (m1 := m) rfl ?_
            refine an_call (r_X1_sum m 7 g) rfl rfl rfl rfl ?_
            exact an_ret rfl rfl rfl rfl rfl
          · refine an_ifi (c := a1 = nI 5) (fun h6 => ?_) (fun h6 => ?_)
            · refine an_b 2 (pc2 := 83) (L2 := [some (vR 0 0 g), some (vI a1)]) (st2 := [vR 1 5 g]) (m1 := m) rfl ?_
              refine an_call (r_X1_sum m 5 g) rfl rfl rfl rfl ?_
              exact an_ret rfl rfl rfl rfl rfl
            · refine an_ifi (c := a1 = nI 6) (fun h7 => ?_) (fun h7 => ?_)
              · refine an_b 2 (pc2 := 91) (L2 := [some (vR 0 0 g), some (vI a1)]) (st2 := [vR 1 8 g]) (m1 := m) rfl ?_
                refine an_call (r_X1_sum m 8 g) rfl rfl rfl rfl ?_
                exact an_ret rfl rfl rfl rfl rfl
              · refine an_ifi (c := a1 = nI 7) (fun h8 => ?_) (fun h8 => ?_)
                · refine an_b 2 (pc2 := 99) (L2 := [some (vR 0 0 g), some (vI a1)]) (st2 := [vR 1 9 g]) (m1 := m) rfl ?_
                  refine an_call (r_X1_sum m 9 g) rfl rfl rfl rfl ?_
                  exact an_ret rfl rfl rfl rfl rfl
                · refine an_b 1 (pc2 := 104) (L2 := [some (vR 0 0 g), some (vI a1)]) (st2 := [vR 0 0 g]) (m1 := m) rfl ?_
                  refine an_call (r_X2_heldRows m g) rfl rfl rfl rfl ?_
                  exact an_ret rfl rfl rfl rfl rfl
def v_X4_isHand (m : PM) (a1 : Int32) : Int32 := (if a1 < 0 then (0 : Int32) else (if (8 : Int32) ≤ a1 then (0 : Int32) else (1 : Int32)))
set_option maxRecDepth 100000 in
theorem r_X4_isHand (m : PM) (a1 : Int32) : Rn MX4_isHand [vI a1] m (some (vI (v_X4_isHand m a1))) m := by
  refine rn_of [some (vI a1)] rfl ?_
  unfold v_X4_isHand
  refine an_b 2 (pc2 := if a1 < 0 then 14 else 4) (L2 := [some (vI a1)]) (st2 := []) (m1 := m) rfl ?_
  refine an_ifi (c := a1 < 0) (fun h1 => ?_) (fun h1 => ?_)
  · refine an_b 1 (pc2 := 15) (L2 := [some (vI a1)]) (st2 := [vI (0 : Int32)]) (m1 := m) rfl ?_
    exact an_ret rfl rfl rfl rfl rfl
  · refine an_b 3 (pc2 := if (8 : Int32) ≤ a1 then 14 else 10) (L2 := [some (vI a1)]) (st2 := []) (m1 := m) rfl ?_
    refine an_ifi (c := (8 : Int32) ≤ a1) (fun h2 => ?_) (fun h2 => ?_)
    · refine an_b 1 (pc2 := 15) (L2 := [some (vI a1)]) (st2 := [vI (0 : Int32)]) (m1 := m) rfl ?_
      exact an_ret rfl rfl rfl rfl rfl
    · refine an_b 2 (pc2 := 15) (L2 := [some (vI a1)]) (st2 := [vI (1 : Int32)]) (m1 := m) rfl ?_
      exact an_ret rfl rfl rfl rfl rfl
def v_X4_isRow (m : PM) (a1 : Int32) : Int32 := (if a1 < 0 then (0 : Int32) else (if (12 : Int32) ≤ a1 then (0 : Int32) else (1 : Int32)))
set_option maxRecDepth 100000 in
theorem r_X4_isRow (m : PM) (a1 : Int32) : Rn MX4_isRow [vI a1] m (some (vI (v_X4_isRow m a1))) m := by
  refine rn_of [some (vI a1)] rfl ?_
  unfold v_X4_isRow
  refine an_b 2 (pc2 := if a1 < 0 then 14 else 4) (L2 := [some (vI a1)]) (st2 := []) (m1 := m) rfl ?_
  refine an_ifi (c := a1 < 0) (fun h1 => ?_) (fun h1 => ?_)
  · refine an_b 1 (pc2 := 15) (L2 := [some (vI a1)]) (st2 := [vI (0 : Int32)]) (m1 := m) rfl ?_
    exact an_ret rfl rfl rfl rfl rfl
  · refine an_b 3 (pc2 := if (12 : Int32) ≤ a1 then 14 else 10) (L2 := [some (vI a1)]) (st2 := []) (m1 := m) rfl ?_
    refine an_ifi (c := (12 : Int32) ≤ a1) (fun h2 => ?_) (fun h2 => ?_)
    · refine an_b 1 (pc2 := 15) (L2 := [some (vI a1)]) (st2 := [vI (0 : Int32)]) (m1 := m) rfl ?_
      exact an_ret rfl rfl rfl rfl rfl
    · refine an_b 2 (pc2 := 15) (L2 := [some (vI a1)]) (st2 := [vI (1 : Int32)]) (m1 := m) rfl ?_
      exact an_ret rfl rfl rfl rfl rfl
def v_X4_isMode (m : PM) (a1 : Int32) : Int32 := (if a1 < (1 : Int32) then (0 : Int32) else (if (3 : Int32) < a1 then (0 : Int32) else (1 : Int32)))
set_option maxRecDepth 100000 in
theorem r_X4_isMode (m : PM) (a1 : Int32) : Rn MX4_isMode [vI a1] m (some (vI (v_X4_isMode m a1))) m := by
  refine rn_of [some (vI a1)] rfl ?_
  unfold v_X4_isMode
  refine an_b 3 (pc2 := if a1 < (1 : Int32) then 14 else 5) (L2 := [some (vI a1)]) (st2 := []) (m1 := m) rfl ?_
  refine an_ifi (c := a1 < (1 : Int32)) (fun h1 => ?_) (fun h1 => ?_)
  · refine an_b 1 (pc2 := 15) (L2 := [some (vI a1)]) (st2 := [vI (0 : Int32)]) (m1 := m) rfl ?_
    exact an_ret rfl rfl rfl rfl rfl
  · refine an_b 3 (pc2 := if (3 : Int32) < a1 then 14 else 10) (L2 := [some (vI a1)]) (st2 := []) (m1 := m) rfl ?_
    refine an_ifi (c := (3 : Int32) < a1) (fun h2 => ?_) (fun h2 => ?_)
    · refine an_b 1 (pc2 := 15) (L2 := [some (vI a1)]) (st2 := [vI (0 : Int32)]) (m1 := m) rfl ?_
      exact an_ret rfl rfl rfl rfl rfl
    · refine an_b 2 (pc2 := 15) (L2 := [some (vI a1)]) (st2 := [vI (1 : Int32)]) (m1 := m) rfl ?_
      exact an_ret rfl rfl rfl rfl rfl
def v_X4_isSetting (m : PM) (a1 : Int32) : Int32 := (if a1 < 0 then (0 : Int32) else (if (3 : Int32) ≤ a1 then (0 : Int32) else (1 : Int32)))
set_option maxRecDepth 100000 in
theorem r_X4_isSetting (m : PM) (a1 : Int32) : Rn MX4_isSetting [vI a1] m (some (vI (v_X4_isSetting m a1))) m := by
  refine rn_of [some (vI a1)] rfl ?_
  unfold v_X4_isSetting
  refine an_b 2 (pc2 := if a1 < 0 then 13 else 4) (L2 := [some (vI a1)]) (st2 := []) (m1 := m) rfl ?_
  refine an_ifi (c := a1 < 0) (fun h1 => ?_) (fun h1 => ?_)
  · refine an_b 1 (pc2 := 14) (L2 := [some (vI a1)]) (st2 := [vI (0 : Int32)]) (m1 := m) rfl ?_
    exact an_ret rfl rfl rfl rfl rfl
  · refine an_b 3 (pc2 := if (3 : Int32) ≤ a1 then 13 else 9) (L2 := [some (vI a1)]) (st2 := []) (m1 := m) rfl ?_
    refine an_ifi (c := (3 : Int32) ≤ a1) (fun h2 => ?_) (fun h2 => ?_)
    · refine an_b 1 (pc2 := 14) (L2 := [some (vI a1)]) (st2 := [vI (0 : Int32)]) (m1 := m) rfl ?_
      exact an_ret rfl rfl rfl rfl rfl
    · refine an_b 2 (pc2 := 14) (L2 := [some (vI a1)]) (st2 := [vI (1 : Int32)]) (m1 := m) rfl ?_
      exact an_ret rfl rfl rfl rfl rfl
def v_X4_leastValue (m : PM) (a1 : Int32) : Int32 := (if ¬ a1 = 0 then (0 : Int32) else (10 : Int32))
set_option maxRecDepth 100000 in
theorem r_X4_leastValue (m : PM) (a1 : Int32) : Rn MX4_leastValue [vI a1] m (some (vI (v_X4_leastValue m a1))) m := by
  refine rn_of [some (vI a1)] rfl ?_
  unfold v_X4_leastValue
  refine an_b 2 (pc2 := if ¬ a1 = 0 then 9 else 4) (L2 := [some (vI a1)]) (st2 := []) (m1 := m) rfl ?_
  refine an_ifi (c := ¬ a1 = 0) (fun h1 => ?_) (fun h1 => ?_)
  · refine an_b 1 (pc2 := 10) (L2 := [some (vI a1)]) (st2 := [vI (0 : Int32)]) (m1 := m) rfl ?_
    exact an_ret rfl rfl rfl rfl rfl
  · refine an_b 2 (pc2 := 10) (L2 := [some (vI a1)]) (st2 := [vI (10 : Int32)]) (m1 := m) rfl ?_
    exact an_ret rfl rfl rfl rfl rfl
def v_X4_greatestValue (m : PM) (a1 : Int32) : Int32 := (if ¬ a1 = 0 then (if ¬ a1 = (1 : Int32) then (50 : Int32) else (20 : Int32)) else (900 : Int32))
set_option maxRecDepth 100000 in
theorem r_X4_greatestValue (m : PM) (a1 : Int32) : Rn MX4_greatestValue [vI a1] m (some (vI (v_X4_greatestValue m a1))) m := by
  refine rn_of [some (vI a1)] rfl ?_
  unfold v_X4_greatestValue
  refine an_b 2 (pc2 := if ¬ a1 = 0 then 8 else 4) (L2 := [some (vI a1)]) (st2 := []) (m1 := m) rfl ?_
  refine an_ifi (c := ¬ a1 = 0) (fun h1 => ?_) (fun h1 => ?_)
  · refine an_b 3 (pc2 := if ¬ a1 = (1 : Int32) then 18 else 13) (L2 := [some (vI a1)]) (st2 := []) (m1 := m) rfl ?_
    refine an_ifi (c := ¬ a1 = (1 : Int32)) (fun h2 => ?_) (fun h2 => ?_)
    · refine an_b 1 (pc2 := 20) (L2 := [some (vI a1)]) (st2 := [vI (50 : Int32)]) (m1 := m) rfl ?_
      exact an_ret rfl rfl rfl rfl rfl
    · refine an_b 2 (pc2 := 20) (L2 := [some (vI a1)]) (st2 := [vI (20 : Int32)]) (m1 := m) rfl ?_
      exact an_ret rfl rfl rfl rfl rfl
  · refine an_b 1 (pc2 := 7) (L2 := [some (vI a1)]) (st2 := [vI (900 : Int32)]) (m1 := m) rfl ?_
    exact an_ret rfl rfl rfl rfl rfl
def v_X4_numberOf (m : PM) (a1 : Int32) : Int32 := (if ¬ a1 = (9 : Int32) then (v_X2_total m 0 a1) else (m.1 4 0 0 2))
set_option maxRecDepth 100000 in
theorem r_X4_numberOf (m : PM) (a1 : Int32) : Rn MX4_numberOf [vR 3 0 0, vI a1] m (some (vI (v_X4_numberOf m a1))) m := by
  refine rn_of [some (vR 3 0 0), some (vI a1)] rfl ?_
  unfold v_X4_numberOf
  refine an_b 3 (pc2 := if ¬ a1 = (9 : Int32) then 16 else 6) (L2 := [some (vR 3 0 0), some (vI a1)]) (st2 := []) (m1 := m) rfl ?_
  refine an_ifi (c := ¬ a1 = (9 : Int32)) (fun h1 => ?_) (fun h1 => ?_)
  · refine an_b 3 (pc2 := 21) (L2 := [some (vR 3 0 0), some (vI a1)]) (st2 := [vI a1, vR 0 0 0]) (m1 := m) rfl ?_
    refine an_call (r_X2_total m 0 a1) rfl rfl rfl rfl ?_
    exact an_ret rfl rfl rfl rfl rfl
  · refine an_b 4 (pc2 := 24) (L2 := [some (vR 3 0 0), some (vI a1)]) (st2 := [vI (m.1 4 0 0 2)]) (m1 := m) rfl ?_
    exact an_ret rfl rfl rfl rfl rfl
end
section
/-! History: which slot; to save; to restore -/
theorem one_aald {M : MI} {pc : Nat} {L : List (Option PV)} {r : List PV} {m m2 : PM} {j : Int32} {v : OC} (h : asc (mT M) pc = some (.aaload, 1)) (hj : ¬ (j < 0 ∨ 6 ≤ j.toNatClampNeg)) (kk : An M (pc + 1) L (vR 0 0 (2 + j.toNatClampNeg) :: r) m v m2) : An M pc L (vI j :: vR 5 0 0 :: r) m v m2 := by
  refine an_b 1 (pc2 := pc + 1) (L2 := L) (st2 := vR 0 0 (2 + j.toNatClampNeg) :: r) (m1 := m) ?_ kk
  have e : sm_one M pc L (vI j :: vR 5 0 0 :: r) m = some (pc + 1, L, vR 0 0 (2 + j.toNatClampNeg) :: r, m) := by
    unfold sm_one
    rw [h]
    have e2 : sm_e (mO M) .aaload 1 pc L (vI j :: vR 5 0 0 :: r) m = some (pc + 1, L, vR 0 0 (2 + j.toNatClampNeg) :: r, m) := by
      unfold sm_e
      simp only [if_neg hj]
    exact e2
  show (match sm_one M pc L (vI j :: vR 5 0 0 :: r) m with | some s2 => sm_many 0 M s2 | none => none) = _
  rw [e]
  rfl
theorem in_of6 {i : Int32} (h1 : ¬ i < 0) (h2 : ¬ 6 ≤ i) : ¬ (i < 0 ∨ 6 ≤ i.toNatClampNeg) := by
  rintro (q | q)
  · exact h1 q
  · apply h2
    obtain ⟨j, hj, rfl⟩ := nI_of h1
    rw [nI_clamp hj] at q
    exact nI_le q hj
theorem r_slot_out (m : PM) (i : Int32) (h : i < 0 ∨ 6 ≤ i) : Rn MX0_slotAt [vR 4 0 0, vI i] m (some vN) m := by
  refine rn_of [some (vR 4 0 0), some (vI i)] rfl ?_
  refine an_b 2 (pc2 := if i < 0 then 22 else 4) (L2 := [some (vR 4 0 0), some (vI i)]) (st2 := []) (m1 := m) rfl ?_
  have last : An MX0_slotAt 22 [some (vR 4 0 0), some (vI i)] [] m (.inl (some vN)) m := by
    refine an_b 1 (pc2 := 23) (L2 := [some (vR 4 0 0), some (vI i)]) (st2 := [vN]) (m1 := m) rfl ?_
    exact an_ret rfl rfl rfl rfl rfl
  refine an_if (fun h1 => last) (fun h1 => ?_)
  refine an_b 5 (pc2 := if (6 : Int32) ≤ i then 22 else 13) (L2 := [some (vR 4 0 0), some (vI i)]) (st2 := []) (m1 := m) rfl ?_
  exact an_t (h.resolve_left h1) last
theorem r_slot_in (m : PM) (i : Int32) (h1 : ¬ i < 0) (h2 : ¬ 6 ≤ i) : Rn MX0_slotAt [vR 4 0 0, vI i] m (some (vR 0 0 (2 + i.toNatClampNeg))) m := by
  refine rn_of [some (vR 4 0 0), some (vI i)] rfl ?_
  refine an_b 2 (pc2 := if i < 0 then 22 else 4) (L2 := [some (vR 4 0 0), some (vI i)]) (st2 := []) (m1 := m) rfl ?_
  refine an_f h1 ?_
  refine an_b 5 (pc2 := if (6 : Int32) ≤ i then 22 else 13) (L2 := [some (vR 4 0 0), some (vI i)]) (st2 := []) (m1 := m) rfl ?_
  refine an_f h2 ?_
  refine an_b 3 (pc2 := 18) (L2 := [some (vR 4 0 0), some (vI i)]) (st2 := [vI i, vR 5 0 0]) (m1 := m) rfl ?_
  refine one_aald rfl (in_of6 h1 h2) ?_
  refine an_b 1 (pc2 := 23) (L2 := [some (vR 4 0 0), some (vI i)]) (st2 := [vR 0 0 (2 + i.toNatClampNeg)]) (m1 := m) rfl ?_
  exact an_ret rfl rfl rfl rfl rfl
def sv_1 (m : PM) (g : Nat) : PM := w_X2_copyFrom m (2 + (m.1 4 0 0 1).toNatClampNeg) g
def sv_2 (m : PM) : PM := wI m 4 0 0 1 (if 6 ≤ m.1 4 0 0 1 + 1 then 0 else m.1 4 0 0 1 + 1)
def sv_3 (m : PM) : PM := wI m 4 0 0 2 (if m.1 4 0 0 2 + 1 < 6 then m.1 4 0 0 2 + 1 else 6)
def w_X0_save (m : PM) (g : Nat) : PM := if m.1 4 0 0 1 < 0 then m else if 6 ≤ m.1 4 0 0 1 then m else sv_3 (sv_2 (sv_1 m g))
theorem r_X0_save (m : PM) (g : Nat) : Rn MX0_save [vR 4 0 0, vR 0 0 g] m none (w_X0_save m g) := by
  refine rn_of [some (vR 4 0 0), some (vR 0 0 g), none] rfl ?_
  refine an_b 3 (pc2 := 5) (L2 := [some (vR 4 0 0), some (vR 0 0 g), none]) (st2 := [vI (m.1 4 0 0 1), vR 4 0 0]) (m1 := m) rfl ?_
  have out : (m.1 4 0 0 1 < 0 ∨ 6 ≤ m.1 4 0 0 1) → An MX0_save 5 [some (vR 4 0 0), some (vR 0 0 g), none] [vI (m.1 4 0 0 1), vR 4 0 0] m (.inl none) m := by
    intro h
    refine an_call (r_slot_out m _ h) rfl rfl rfl rfl ?_
    refine an_b 3 (pc2 := 13) (L2 := [some (vR 4 0 0), some (vR 0 0 g), some vN]) (st2 := []) (m1 := m) rfl ?_
    exact an_ret rfl rfl rfl rfl rfl
  unfold w_X0_save
  by_cases h1 : m.1 4 0 0 1 < 0
  · rw [if_pos h1]; exact out (Or.inl h1)
  rw [if_neg h1]
  by_cases h2 : 6 ≤ m.1 4 0 0 1
  · rw [if_pos h2]; exact out (Or.inr h2)
  rw [if_neg h2]
  refine an_call (r_slot_in m _ h1 h2) rfl rfl rfl rfl ?_
  refine an_b 5 (pc2 := 16) (L2 := [some (vR 4 0 0), some (vR 0 0 g), some (vR 0 0 (2 + (m.1 4 0 0 1).toNatClampNeg))]) (st2 := [vR 0 0 g, vR 0 0 (2 + (m.1 4 0 0 1).toNatClampNeg)]) (m1 := m) rfl ?_
  refine an_call (r_X2_copyFrom m _ _) rfl rfl rfl rfl ?_
  show An MX0_save 19 [some (vR 4 0 0), some (vR 0 0 g), some (vR 0 0 (2 + (m.1 4 0 0 1).toNatClampNeg))] [] (sv_1 m g) _ _
  refine an_b 7 (pc2 := if 6 ≤ (sv_1 m g).1 4 0 0 1 + 1 then 40 else 31) (L2 := [some (vR 4 0 0), some (vR 0 0 g), some (vR 0 0 (2 + (m.1 4 0 0 1).toNatClampNeg))]) (st2 := [vR 4 0 0]) (m1 := sv_1 m g) rfl ?_
  refine re_if1 (c := 6 ≤ (sv_1 m g).1 4 0 0 1 + 1) (a := (0 : Int32)) (b := (sv_1 m g).1 4 0 0 1 + 1) (fun x => (41, [some (vR 4 0 0), some (vR 0 0 g), some (vR 0 0 (2 + (m.1 4 0 0 1).toNatClampNeg))], [vI x, vR 4 0 0], sv_1 m g)) (fun h v9 m9 K => ?_) (fun h v9 m9 K => ?_) _ _ ?_
  · refine an_b 1 (pc2 := 41) (L2 := [some (vR 4 0 0), some (vR 0 0 g), some (vR 0 0 (2 + (m.1 4 0 0 1).toNatClampNeg))]) (st2 := [vI 0, vR 4 0 0]) (m1 := sv_1 m g) rfl ?_
    exact K
  · refine an_b 5 (pc2 := 41) (L2 := [some (vR 4 0 0), some (vR 0 0 g), some (vR 0 0 (2 + (m.1 4 0 0 1).toNatClampNeg))]) (st2 := [vI ((sv_1 m g).1 4 0 0 1 + 1), vR 4 0 0]) (m1 := sv_1 m g) rfl ?_
    exact K
  refine an_b 1 (pc2 := 44) (L2 := [some (vR 4 0 0), some (vR 0 0 g), some (vR 0 0 (2 + (m.1 4 0 0 1).toNatClampNeg))]) (st2 := []) (m1 := sv_2 (sv_1 m g)) rfl ?_
  refine an_b 8 (pc2 := 59) (L2 := [some (vR 4 0 0), some (vR 0 0 g), some (vR 0 0 (2 + (m.1 4 0 0 1).toNatClampNeg))]) (st2 := []) (m1 := sv_3 (sv_2 (sv_1 m g))) rfl ?_
  exact an_ret rfl rfl rfl rfl rfl
end
section
def o_X4_ask (m : PM) (a1 : Int32) (a2 : Int32) (a3 : Int32) : OC := (if (v_X4_isHand m a1) = 0 then (.inr 40) else (if ¬ (v_X4_isRow m a2) = 0 then (if ¬ (v_X4_isMode m a3) = 0 then (if (v_X2_isWaiting m 0 a1) = 0 then (.inl (some (vI (v_X2_takeAsking (w_X0_save m 0) 0 a1 a2 a3)))) else (.inr 58)) else (.inr 50)) else (.inr 40)))
def w_X4_ask (m : PM) (a1 : Int32) (a2 : Int32) (a3 : Int32) : PM := (if (v_X4_isHand m a1) = 0 then m else (if ¬ (v_X4_isRow m a2) = 0 then (if ¬ (v_X4_isMode m a3) = 0 then (if (v_X2_isWaiting m 0 a1) = 0 then (w_X2_takeAsking (w_X0_save m 0) 0 a1 a2 a3) else m) else m) else m))
set_option maxRecDepth 100000 in
theorem t_X4_ask (m : PM) (a1 : Int32) (a2 : Int32) (a3 : Int32) : An MX4_ask 0 [some (vR 3 0 0), some (vI a1), some (vI a2), some (vI a3)] [] m (o_X4_ask m a1 a2 a3) (w_X4_ask m a1 a2 a3) := by
  unfold o_X4_ask w_X4_ask
  refine an_b 1 (pc2 := 1) (L2 := [some (vR 3 0 0), some (vI a1), some (vI a2), some (vI a3)]) (st2 := [vI a1]) (m1 := m) rfl ?_
  refine an_call (r_X4_isHand m a1) rfl rfl rfl rfl ?_
  refine an_b 1 (pc2 := if (v_X4_isHand m a1) = 0 then 14 else 7) (L2 := [some (vR 3 0 0), some (vI a1), some (vI a2), some (vI a3)]) (st2 := []) (m1 := m) rfl ?_
  refine an_ifo (c := (v_X4_isHand m a1) = 0) (fun h1 => ?_) (fun h1 => ?_)
  · exact an_thr rfl rfl rfl rfl rfl
  · refine an_b 1 (pc2 := 8) (L2 := [some (vR 3 0 0), some (vI a1), some (vI a2), some (vI a3)]) (st2 := [vI a2]) (m1 := m) rfl ?_
    refine an_call (r_X4_isRow m a2) rfl rfl rfl rfl ?_
    refine an_b 1 (pc2 := if ¬ (v_X4_isRow m a2) = 0 then 24 else 14) (L2 := [some (vR 3 0 0), some (vI a1), some (vI a2), some (vI a3)]) (st2 := []) (m1 := m) rfl ?_
    refine an_ifo (c := ¬ (v_X4_isRow m a2) = 0) (fun h2 => ?_) (fun h2 => ?_)
    · refine an_b 1 (pc2 := 25) (L2 := [some (vR 3 0 0), some (vI a1), some (vI a2), some (vI a3)]) (st2 := [vI a3]) (m1 := m) rfl ?_
      refine an_call (r_X4_isMode m a3) rfl rfl rfl rfl ?_
      refine an_b 1 (pc2 := if ¬ (v_X4_isMode m a3) = 0 then 41 else 31) (L2 := [some (vR 3 0 0), some (vI a1), some (vI a2), some (vI a3)]) (st2 := []) (m1 := m) rfl ?_
      refine an_ifo (c := ¬ (v_X4_isMode m a3) = 0) (fun h3 => ?_) (fun h3 => ?_)
      · refine an_b 3 (pc2 := 46) (L2 := [some (vR 3 0 0), some (vI a1), some (vI a2), some (vI a3)]) (st2 := [vI a1, vR 0 0 0]) (m1 := m) rfl ?_
        refine an_call (r_X2_isWaiting m 0 a1) rfl rfl rfl rfl ?_
        refine an_b 1 (pc2 := if (v_X2_isWaiting m 0 a1) = 0 then 62 else 52) (L2 := [some (vR 3 0 0), some (vI a1), some (vI a2), some (vI a3)]) (st2 := []) (m1 := m) rfl ?_
        refine an_ifo (c := (v_X2_isWaiting m 0 a1) = 0) (fun h4 => ?_) (fun h4 => ?_)
        · refine an_b 4 (pc2 := 70) (L2 := [some (vR 3 0 0), some (vI a1), some (vI a2), some (vI a3)]) (st2 := [vR 0 0 0, vR 4 0 0]) (m1 := m) rfl ?_
          refine an_call (r_X0_save m 0) rfl rfl rfl rfl ?_
          refine an_b 5 (pc2 := 80) (L2 := [some (vR 3 0 0), some (vI a1), some (vI a2), some (vI a3)]) (st2 := [vI a3, vI a2, vI a1, vR 0 0 0]) (m1 := (w_X0_save m 0)) rfl ?_
          refine an_call (r_X2_takeAsking (w_X0_save m 0) 0 a1 a2 a3) rfl rfl rfl rfl ?_
          exact an_ret rfl rfl rfl rfl rfl
        · exact an_thr rfl rfl rfl rfl rfl
      · exact an_thr rfl rfl rfl rfl rfl
    · exact an_thr rfl rfl rfl rfl rfl
def o_X4_release (m : PM) (a1 : Int32) (a2 : Int32) : OC := (if (v_X4_isHand m a1) = 0 then (.inr 40) else (if ¬ (v_X4_isRow m a2) = 0 then (if ¬ (v_X2_canLetGo m 0 a1 a2) = 0 then (.inl (some (vI (v_X2_letGo (w_X0_save m 0) 0 a1 a2)))) else (.inr 58)) else (.inr 40)))
def w_X4_release (m : PM) (a1 : Int32) (a2 : Int32) : PM := (if (v_X4_isHand m a1) = 0 then m else (if ¬ (v_X4_isRow m a2) = 0 then (if ¬ (v_X2_canLetGo m 0 a1 a2) = 0 then (w_X2_letGo (w_X0_save m 0) 0 a1 a2) else m) else m))
set_option maxRecDepth 100000 in
theorem t_X4_release (m : PM) (a1 : Int32) (a2 : Int32) : An MX4_release 0 [some (vR 3 0 0), some (vI a1), some (vI a2)] [] m (o_X4_release m a1 a2) (w_X4_release m a1 a2) := by
  unfold o_X4_release w_X4_release
  refine an_b 1 (pc2 := 1) (L2 := [some (vR 3 0 0), some (vI a1), some (vI a2)]) (st2 := [vI a1]) (m1 := m) rfl ?_
  refine an_call (r_X4_isHand m a1) rfl rfl rfl rfl ?_
  refine an_b 1 (pc2 := if (v_X4_isHand m a1) = 0 then 14 else 7) (L2 := [some (vR 3 0 0), some (vI a1), some (vI a2)]) (st2 := []) (m1 := m) rfl ?_
  refine an_ifo (c := (v_X4_isHand m a1) = 0) (fun h1 => ?_) (fun h1 => ?_)
  · exact an_thr rfl rfl rfl rfl rfl
  · refine an_b 1 (pc2 := 8) (L2 := [some (vR 3 0 0), some (vI a1), some (vI a2)]) (st2 := [vI a2]) (m1 := m) rfl ?_
    refine an_call (r_X4_isRow m a2) rfl rfl rfl rfl ?_
    refine an_b 1 (pc2 := if ¬ (v_X4_isRow m a2) = 0 then 24 else 14) (L2 := [some (vR 3 0 0), some (vI a1), some (vI a2)]) (st2 := []) (m1 := m) rfl ?_
    refine an_ifo (c := ¬ (v_X4_isRow m a2) = 0) (fun h2 => ?_) (fun h2 => ?_)
    · refine an_b 4 (pc2 := 30) (L2 := [some (vR 3 0 0), some (vI a1), some (vI a2)]) (st2 := [vI a2, vI a1, vR 0 0 0]) (m1 := m) rfl ?_
      refine an_call (r_X2_canLetGo m 0 a1 a2) rfl rfl rfl rfl ?_
      refine an_b 1 (pc2 := if ¬ (v_X2_canLetGo m 0 a1 a2) = 0 then 46 else 36) (L2 := [some (vR 3 0 0), some (vI a1), some (vI a2)]) (st2 := []) (m1 := m) rfl ?_
      refine an_ifo (c := ¬ (v_X2_canLetGo m 0 a1 a2) = 0) (fun h3 => ?_) (fun h3 => ?_)
      · refine an_b 4 (pc2 := 54) (L2 := [some (vR 3 0 0), some (vI a1), some (vI a2)]) (st2 := [vR 0 0 0, vR 4 0 0]) (m1 := m) rfl ?_
        refine an_call (r_X0_save m 0) rfl rfl rfl rfl ?_
        refine an_b 4 (pc2 := 63) (L2 := [some (vR 3 0 0), some (vI a1), some (vI a2)]) (st2 := [vI a2, vI a1, vR 0 0 0]) (m1 := (w_X0_save m 0)) rfl ?_
        refine an_call (r_X2_letGo (w_X0_save m 0) 0 a1 a2) rfl rfl rfl rfl ?_
        exact an_ret rfl rfl rfl rfl rfl
      · exact an_thr rfl rfl rfl rfl rfl
    · exact an_thr rfl rfl rfl rfl rfl
def o_X4_giveUp (m : PM) (a1 : Int32) : OC := (if ¬ (v_X4_isHand m a1) = 0 then (if ¬ (v_X2_isWaiting m 0 a1) = 0 then (.inl (some (vI (v_X2_stopWaiting (w_X0_save m 0) 0 a1)))) else (.inr 58)) else (.inr 40))
def w_X4_giveUp (m : PM) (a1 : Int32) : PM := (if ¬ (v_X4_isHand m a1) = 0 then (if ¬ (v_X2_isWaiting m 0 a1) = 0 then (w_X2_stopWaiting (w_X0_save m 0) 0 a1) else m) else m)
set_option maxRecDepth 100000 in
theorem t_X4_giveUp (m : PM) (a1 : Int32) : An MX4_giveUp 0 [some (vR 3 0 0), some (vI a1)] [] m (o_X4_giveUp m a1) (w_X4_giveUp m a1) := by
  unfold o_X4_giveUp w_X4_giveUp
  refine an_b 1 (pc2 := 1) (L2 := [some (vR 3 0 0), some (vI a1)]) (st2 := [vI a1]) (m1 := m) rfl ?_
  refine an_call (r_X4_isHand m a1) rfl rfl rfl rfl ?_
  refine an_b 1 (pc2 := if ¬ (v_X4_isHand m a1) = 0 then 17 else 7) (L2 := [some (vR 3 0 0), some (vI a1)]) (st2 := []) (m1 := m) rfl ?_
  refine an_ifo (c := ¬ (v_X4_isHand m a1) = 0) (fun h1 => ?_) (fun h1 => ?_)
  · refine an_b 3 (pc2 := 22) (L2 := [some (vR 3 0 0), some (vI a1)]) (st2 := [vI a1, vR 0 0 0]) (m1 := m) rfl ?_
    refine an_call (r_X2_isWaiting m 0 a1) rfl rfl rfl rfl ?_
    refine an_b 1 (pc2 := if ¬ (v_X2_isWaiting m 0 a1) = 0 then 38 else 28) (L2 := [some (vR 3 0 0), some (vI a1)]) (st2 := []) (m1 := m) rfl ?_
    refine an_ifo (c := ¬ (v_X2_isWaiting m 0 a1) = 0) (fun h2 => ?_) (fun h2 => ?_)
    · refine an_b 4 (pc2 := 46) (L2 := [some (vR 3 0 0), some (vI a1)]) (st2 := [vR 0 0 0, vR 4 0 0]) (m1 := m) rfl ?_
      refine an_call (r_X0_save m 0) rfl rfl rfl rfl ?_
      refine an_b 3 (pc2 := 54) (L2 := [some (vR 3 0 0), some (vI a1)]) (st2 := [vI a1, vR 0 0 0]) (m1 := (w_X0_save m 0)) rfl ?_
      refine an_call (r_X2_stopWaiting (w_X0_save m 0) 0 a1) rfl rfl rfl rfl ?_
      exact an_ret rfl rfl rfl rfl rfl
    · exact an_thr rfl rfl rfl rfl rfl
  · exact an_thr rfl rfl rfl rfl rfl
def o_X4_handOn (m : PM) (a1 : Int32) (a2 : Int32) (a3 : Int32) : OC := (if (v_X4_isHand m a1) = 0 then (.inr 40) else (if (v_X4_isRow m a2) = 0 then (.inr 40) else (if ¬ (v_X4_isHand m a3) = 0 then (if ¬ (v_X2_canPassOver m 0 a1 a2 a3) = 0 then (.inl (some (vI (v_X2_passOver (w_X0_save m 0) 0 a1 a2 a3)))) else (.inr 58)) else (.inr 40))))
def w_X4_handOn (m : PM) (a1 : Int32) (a2 : Int32) (a3 : Int32) : PM := (if (v_X4_isHand m a1) = 0 then m else (if (v_X4_isRow m a2) = 0 then m else (if ¬ (v_X4_isHand m a3) = 0 then (if ¬ (v_X2_canPassOver m 0 a1 a2 a3) = 0 then (w_X2_passOver (w_X0_save m 0) 0 a1 a2 a3) else m) else m)))
set_option maxRecDepth 100000 in
theorem t_X4_handOn (m : PM) (a1 : Int32) (a2 : Int32) (a3 : Int32) : An MX4_handOn 0 [some (vR 3 0 0), some (vI a1), some (vI a2), some (vI a3)] [] m (o_X4_handOn m a1 a2 a3) (w_X4_handOn m a1 a2 a3) := by
  unfold o_X4_handOn w_X4_handOn
  refine an_b 1 (pc2 := 1) (L2 := [some (vR 3 0 0), some (vI a1), some (vI a2), some (vI a3)]) (st2 := [vI a1]) (m1 := m) rfl ?_
  refine an_call (r_X4_isHand m a1) rfl rfl rfl rfl ?_
  refine an_b 1 (pc2 := if (v_X4_isHand m a1) = 0 then 21 else 7) (L2 := [some (vR 3 0 0), some (vI a1), some (vI a2), some (vI a3)]) (st2 := []) (m1 := m) rfl ?_
  refine an_ifo (c := (v_X4_isHand m a1) = 0) (fun h1 => ?_) (fun h1 => ?_)
  · exact an_thr rfl rfl rfl rfl rfl
  · refine an_b 1 (pc2 := 8) (L2 := [some (vR 3 0 0), some (vI a1), some (vI a2), some (vI a3)]) (st2 := [vI a2]) (m1 := m) rfl ?_
    refine an_call (r_X4_isRow m a2) rfl rfl rfl rfl ?_
    refine an_b 1 (pc2 := if (v_X4_isRow m a2) = 0 then 21 else 14) (L2 := [some (vR 3 0 0), some (vI a1), some (vI a2), some (vI a3)]) (st2 := []) (m1 := m) rfl ?_
    refine an_ifo (c := (v_X4_isRow m a2) = 0) (fun h2 => ?_) (fun h2 => ?_)
    · exact an_thr rfl rfl rfl rfl rfl
    · refine an_b 1 (pc2 := 15) (L2 := [some (vR 3 0 0), some (vI a1), some (vI a2), some (vI a3)]) (st2 := [vI a3]) (m1 := m) rfl ?_
      refine an_call (r_X4_isHand m a3) rfl rfl rfl rfl ?_
      refine an_b 1 (pc2 := if ¬ (v_X4_isHand m a3) = 0 then 31 else 21) (L2 := [some (vR 3 0 0), some (vI a1), some (vI a2), some (vI a3)]) (st2 := []) (m1 := m) rfl ?_
      refine an_ifo (c := ¬ (v_X4_isHand m a3) = 0) (fun h3 => ?_) (fun h3 => ?_)
      · refine an_b 5 (pc2 := 38) (L2 := [some (vR 3 0 0), some (vI a1), some (vI a2), some (vI a3)]) (st2 := [vI a3, vI a2, vI a1, vR 0 0 0]) (m1 := m) rfl ?_
        refine an_call (r_X2_canPassOver m 0 a1 a2 a3) rfl rfl rfl rfl ?_
        refine an_b 1 (pc2 := if ¬ (v_X2_canPassOver m 0 a1 a2 a3) = 0 then 54 else 44) (L2 := [some (vR 3 0 0), some (vI a1), some (vI a2), some (vI a3)]) (st2 := []) (m1 := m) rfl ?_
        refine an_ifo (c := ¬ (v_X2_canPassOver m 0 a1 a2 a3) = 0) (fun h4 => ?_) (fun h4 => ?_)
        · refine an_b 4 (pc2 := 62) (L2 := [some (vR 3 0 0), some (vI a1), some (vI a2), some (vI a3)]) (st2 := [vR 0 0 0, vR 4 0 0]) (m1 := m) rfl ?_
          refine an_call (r_X0_save m 0) rfl rfl rfl rfl ?_
          refine an_b 5 (pc2 := 72) (L2 := [some (vR 3 0 0), some (vI a1), some (vI a2), some (vI a3)]) (st2 := [vI a3, vI a2, vI a1, vR 0 0 0]) (m1 := (w_X0_save m 0)) rfl ?_
          refine an_call (r_X2_passOver (w_X0_save m 0) 0 a1 a2 a3) rfl rfl rfl rfl ?_
          exact an_ret rfl rfl rfl rfl rfl
        · exact an_thr rfl rfl rfl rfl rfl
      · exact an_thr rfl rfl rfl rfl rfl
def b_X4_pass_1 (m : PM) (a1 : Int32)  (j1 : Nat) (s1 : Int32 × PM) : Int32 × PM := ((s1.1 + (v_X2_tick s1.2 0)), (w_X2_tick s1.2 0))
def o_X4_pass (m : PM) (a1 : Int32) : OC := (if a1 < (1 : Int32) then (.inr 50) else (if a1 ≤ (100 : Int32) then (.inl (some (vI ((lp (b_X4_pass_1 m a1) (a1).toNatClampNeg 0 ((0 : Int32), (w_X0_save m 0))).1)))) else (.inr 50)))
def w_X4_pass (m : PM) (a1 : Int32) : PM := (if a1 < (1 : Int32) then m else (if a1 ≤ (100 : Int32) then (lp (b_X4_pass_1 m a1) (a1).toNatClampNeg 0 ((0 : Int32), (w_X0_save m 0))).2 else m))
set_option maxRecDepth 100000 in
theorem t_X4_pass (m : PM) (a1 : Int32) : An MX4_pass 0 [some (vR 3 0 0), some (vI a1), none, none] [] m (o_X4_pass m a1) (w_X4_pass m a1) := by
  unfold o_X4_pass w_X4_pass
  refine an_b 3 (pc2 := if a1 < (1 : Int32) then 11 else 5) (L2 := [some (vR 3 0 0), some (vI a1), none, none]) (st2 := []) (m1 := m) rfl ?_
  refine an_ifo (c := a1 < (1 : Int32)) (fun h1 => ?_) (fun h1 => ?_)
  · exact an_thr rfl rfl rfl rfl rfl
  · refine an_b 3 (pc2 := if a1 ≤ (100 : Int32) then 21 else 11) (L2 := [some (vR 3 0 0), some (vI a1), none, none]) (st2 := []) (m1 := m) rfl ?_
    refine an_ifo (c := a1 ≤ (100 : Int32)) (fun h2 => ?_) (fun h2 => ?_)
    · refine an_b 4 (pc2 := 29) (L2 := [some (vR 3 0 0), some (vI a1), none, none]) (st2 := [vR 0 0 0, vR 4 0 0]) (m1 := m) rfl ?_
      refine an_call (r_X0_save m 0) rfl rfl rfl rfl ?_
      refine an_b 4 (pc2 := 36) (L2 := [some (vR 3 0 0), some (vI a1), some (vI (0 : Int32)), some (vI (0 : Int32))]) (st2 := []) (m1 := (w_X0_save m 0)) rfl ?_
      refine re_lp (σ := Int32 × PM) (b_X4_pass_1 m a1) (fun j1 s1 => (36, [some (vR 3 0 0), some (vI a1), some (vI s1.1), some (vI (nI j1))], [], s1.2)) (a1).toNatClampNeg (fun s1 => (57, [some (vR 3 0 0), some (vI a1), some (vI s1.1), none], [], s1.2)) (fun j1 s1 hj1 v9 m9 K1 => ?_) (fun s1 v9 m9 K1 => ?_) (a1).toNatClampNeg 0 ((0 : Int32), (w_X0_save m 0)) (Nat.add_zero _) _ _ ?_
      · show An MX4_pass 36 [some (vR 3 0 0), some (vI a1), some (vI s1.1), some (vI (nI j1))] [] s1.2 v9 m9
        refine an_b 3 (pc2 := if a1 ≤ (nI j1) then 57 else 41) (L2 := [some (vR 3 0 0), some (vI a1), some (vI s1.1), some (vI (nI j1))]) (st2 := []) (m1 := s1.2) rfl ?_
        refine an_f (bnd_lt hj1) ?_
        refine an_b 3 (pc2 := 46) (L2 := [some (vR 3 0 0), some (vI a1), some (vI s1.1), some (vI (nI j1))]) (st2 := [vR 0 0 0, vI s1.1]) (m1 := s1.2) rfl ?_
        refine an_call (r_X2_tick s1.2 0) rfl rfl rfl rfl ?_
        refine an_b 4 (pc2 := 36) (L2 := [some (vR 3 0 0), some (vI a1), some (vI (s1.1 + (v_X2_tick s1.2 0))), some (vI ((nI j1) + (1 : Int32)))]) (st2 := []) (m1 := (w_X2_tick s1.2 0)) rfl ?_
        refine an_cL (K := [some (vR 3 0 0), some (vI a1), some (vI (s1.1 + (v_X2_tick s1.2 0))), some (vI (nI (j1 + 1)))]) (by simp only [nI_1]) ?_
        exact K1
      · show An MX4_pass 36 [some (vR 3 0 0), some (vI a1), some (vI s1.1), some (vI (nI ((a1).toNatClampNeg)))] [] s1.2 v9 m9
        refine an_b 3 (pc2 := if a1 ≤ (nI ((a1).toNatClampNeg)) then 57 else 41) (L2 := [some (vR 3 0 0), some (vI a1), some (vI s1.1), some (vI (nI ((a1).toNatClampNeg)))]) (st2 := []) (m1 := s1.2) rfl ?_
        refine an_t (bnd_ge rfl) ?_
        refine an_weak (L := [some (vR 3 0 0), some (vI a1), some (vI s1.1), none]) (⟨rfl, rfl, rfl, trivial⟩) ?_
        exact K1
      show An MX4_pass 57 [some (vR 3 0 0), some (vI a1), some (vI ((lp (b_X4_pass_1 m a1) (a1).toNatClampNeg 0 ((0 : Int32), (w_X0_save m 0))).1)), none] [] (lp (b_X4_pass_1 m a1) (a1).toNatClampNeg 0 ((0 : Int32), (w_X0_save m 0))).2 _ _
      refine an_b 1 (pc2 := 58) (L2 := [some (vR 3 0 0), some (vI a1), some (vI ((lp (b_X4_pass_1 m a1) (a1).toNatClampNeg 0 ((0 : Int32), (w_X0_save m 0))).1)), none]) (st2 := [vI ((lp (b_X4_pass_1 m a1) (a1).toNatClampNeg 0 ((0 : Int32), (w_X0_save m 0))).1)]) (m1 := (lp (b_X4_pass_1 m a1) (a1).toNatClampNeg 0 ((0 : Int32), (w_X0_save m 0))).2) rfl ?_
      exact an_ret rfl rfl rfl rfl rfl
    · exact an_thr rfl rfl rfl rfl rfl
def o_X4_set (m : PM) (a1 : Int32) (a2 : Int32) : OC := (if ¬ (v_X4_isSetting m a1) = 0 then (if a2 < (v_X4_leastValue m a1) then (.inr 50) else (if a2 ≤ (v_X4_greatestValue m a1) then (.inl (some (vI (v_X1_at (w_X0_save m 0) 10 0 a1)))) else (.inr 50))) else (.inr 40))
def w_X4_set (m : PM) (a1 : Int32) (a2 : Int32) : PM := (if ¬ (v_X4_isSetting m a1) = 0 then (if a2 < (v_X4_leastValue m a1) then m else (if a2 ≤ (v_X4_greatestValue m a1) then (w_X1_put (w_X0_save m 0) 10 0 a1 a2) else m)) else m)
set_option maxRecDepth 100000 in
theorem t_X4_set (m : PM) (a1 : Int32) (a2 : Int32) : An MX4_set 0 [some (vR 3 0 0), some (vI a1), some (vI a2), none] [] m (o_X4_set m a1 a2) (w_X4_set m a1 a2) := by
  unfold o_X4_set w_X4_set
  refine an_b 1 (pc2 := 1) (L2 := [some (vR 3 0 0), some (vI a1), some (vI a2), none]) (st2 := [vI a1]) (m1 := m) rfl ?_
  refine an_call (r_X4_isSetting m a1) rfl rfl rfl rfl ?_
  refine an_b 1 (pc2 := if ¬ (v_X4_isSetting m a1) = 0 then 17 else 7) (L2 := [some (vR 3 0 0), some (vI a1), some (vI a2), none]) (st2 := []) (m1 := m) rfl ?_
  refine an_ifo (c := ¬ (v_X4_isSetting m a1) = 0) (fun h1 => ?_) (fun h1 => ?_)
  · refine an_b 2 (pc2 := 19) (L2 := [some (vR 3 0 0), some (vI a1), some (vI a2), none]) (st2 := [vI a1, vI a2]) (m1 := m) rfl ?_
    refine an_call (r_X4_leastValue m a1) rfl rfl rfl rfl ?_
    refine an_b 1 (pc2 := if a2 < (v_X4_leastValue m a1) then 33 else 25) (L2 := [some (vR 3 0 0), some (vI a1), some (vI a2), none]) (st2 := []) (m1 := m) rfl ?_
    refine an_ifo (c := a2 < (v_X4_leastValue m a1)) (fun h2 => ?_) (fun h2 => ?_)
    · exact an_thr rfl rfl rfl rfl rfl
    · refine an_b 2 (pc2 := 27) (L2 := [some (vR 3 0 0), some (vI a1), some (vI a2), none]) (st2 := [vI a1, vI a2]) (m1 := m) rfl ?_
      refine an_call (r_X4_greatestValue m a1) rfl rfl rfl rfl ?_
      refine an_b 1 (pc2 := if a2 ≤ (v_X4_greatestValue m a1) then 43 else 33) (L2 := [some (vR 3 0 0), some (vI a1), some (vI a2), none]) (st2 := []) (m1 := m) rfl ?_
      refine an_ifo (c := a2 ≤ (v_X4_greatestValue m a1)) (fun h3 => ?_) (fun h3 => ?_)
      · refine an_b 4 (pc2 := 51) (L2 := [some (vR 3 0 0), some (vI a1), some (vI a2), none]) (st2 := [vR 0 0 0, vR 4 0 0]) (m1 := m) rfl ?_
        refine an_call (r_X0_save m 0) rfl rfl rfl rfl ?_
        refine an_b 4 (pc2 := 62) (L2 := [some (vR 3 0 0), some (vI a1), some (vI a2), none]) (st2 := [vI a1, vR 1 10 0]) (m1 := (w_X0_save m 0)) rfl ?_
        refine an_call (r_X1_at (w_X0_save m 0) 10 0 a1) rfl rfl rfl rfl ?_
        refine an_b 6 (pc2 := 75) (L2 := [some (vR 3 0 0), some (vI a1), some (vI a2), some (vI (v_X1_at (w_X0_save m 0) 10 0 a1))]) (st2 := [vI a2, vI a1, vR 1 10 0]) (m1 := (w_X0_save m 0)) rfl ?_
        refine an_call (r_X1_put (w_X0_save m 0) 10 0 a1 a2) rfl rfl rfl rfl ?_
        refine an_b 1 (pc2 := 79) (L2 := [some (vR 3 0 0), some (vI a1), some (vI a2), some (vI (v_X1_at (w_X0_save m 0) 10 0 a1))]) (st2 := [vI (v_X1_at (w_X0_save m 0) 10 0 a1)]) (m1 := (w_X1_put (w_X0_save m 0) 10 0 a1 a2)) rfl ?_
        exact an_ret rfl rfl rfl rfl rfl
      · exact an_thr rfl rfl rfl rfl rfl
  · exact an_thr rfl rfl rfl rfl rfl
def o_X4_lock (m : PM) (a1 : Int32) (a2 : Int32) : OC := (if (v_X4_isHand m a1) = 0 then (.inr 40) else (if ¬ (v_X4_isRow m a2) = 0 then (.inl (some (vI (v_X1_at m 0 0 (v_X4_cell m a1 a2))))) else (.inr 40)))
set_option maxRecDepth 100000 in
theorem t_X4_lock (m : PM) (a1 : Int32) (a2 : Int32) : An MX4_lock 0 [some (vR 3 0 0), some (vI a1), some (vI a2)] [] m (o_X4_lock m a1 a2) m := by
  unfold o_X4_lock
  refine an_b 1 (pc2 := 1) (L2 := [some (vR 3 0 0), some (vI a1), some (vI a2)]) (st2 := [vI a1]) (m1 := m) rfl ?_
  refine an_call (r_X4_isHand m a1) rfl rfl rfl rfl ?_
  refine an_b 1 (pc2 := if (v_X4_isHand m a1) = 0 then 14 else 7) (L2 := [some (vR 3 0 0), some (vI a1), some (vI a2)]) (st2 := []) (m1 := m) rfl ?_
  refine an_ifp (c := (v_X4_isHand m a1) = 0) (fun h1 => ?_) (fun h1 => ?_)
  · exact an_thr rfl rfl rfl rfl rfl
  · refine an_b 1 (pc2 := 8) (L2 := [some (vR 3 0 0), some (vI a1), some (vI a2)]) (st2 := [vI a2]) (m1 := m) rfl ?_
    refine an_call (r_X4_isRow m a2) rfl rfl rfl rfl ?_
    refine an_b 1 (pc2 := if ¬ (v_X4_isRow m a2) = 0 then 24 else 14) (L2 := [some (vR 3 0 0), some (vI a1), some (vI a2)]) (st2 := []) (m1 := m) rfl ?_
    refine an_ifp (c := ¬ (v_X4_isRow m a2) = 0) (fun h2 => ?_) (fun h2 => ?_)
    · refine an_b 5 (pc2 := 33) (L2 := [some (vR 3 0 0), some (vI a1), some (vI a2)]) (st2 := [vI a2, vI a1, vR 1 0 0]) (m1 := m) rfl ?_
      refine an_call (r_X4_cell m a1 a2) rfl rfl rfl rfl ?_
      refine an_call (r_X1_at m 0 0 (v_X4_cell m a1 a2)) rfl rfl rfl rfl ?_
      exact an_ret rfl rfl rfl rfl rfl
    · exact an_thr rfl rfl rfl rfl rfl
def o_X4_hand (m : PM) (a1 : Int32) (a2 : Int32) : OC := (if ¬ (v_X4_isHand m a1) = 0 then (if a2 < 0 then (.inr 50) else (if a2 < (9 : Int32) then (.inl (some (vI (v_X2_handPart m 0 a1 a2)))) else (.inr 50))) else (.inr 40))
set_option maxRecDepth 100000 in
theorem t_X4_hand (m : PM) (a1 : Int32) (a2 : Int32) : An MX4_hand 0 [some (vR 3 0 0), some (vI a1), some (vI a2)] [] m (o_X4_hand m a1 a2) m := by
  unfold o_X4_hand
  refine an_b 1 (pc2 := 1) (L2 := [some (vR 3 0 0), some (vI a1), some (vI a2)]) (st2 := [vI a1]) (m1 := m) rfl ?_
  refine an_call (r_X4_isHand m a1) rfl rfl rfl rfl ?_
  refine an_b 1 (pc2 := if ¬ (v_X4_isHand m a1) = 0 then 17 else 7) (L2 := [some (vR 3 0 0), some (vI a1), some (vI a2)]) (st2 := []) (m1 := m) rfl ?_
  refine an_ifp (c := ¬ (v_X4_isHand m a1) = 0) (fun h1 => ?_) (fun h1 => ?_)
  · refine an_b 2 (pc2 := if a2 < 0 then 27 else 21) (L2 := [some (vR 3 0 0), some (vI a1), some (vI a2)]) (st2 := []) (m1 := m) rfl ?_
    refine an_ifp (c := a2 < 0) (fun h2 => ?_) (fun h2 => ?_)
    · exact an_thr rfl rfl rfl rfl rfl
    · refine an_b 3 (pc2 := if a2 < (9 : Int32) then 37 else 27) (L2 := [some (vR 3 0 0), some (vI a1), some (vI a2)]) (st2 := []) (m1 := m) rfl ?_
      refine an_ifp (c := a2 < (9 : Int32)) (fun h3 => ?_) (fun h3 => ?_)
      · refine an_b 4 (pc2 := 43) (L2 := [some (vR 3 0 0), some (vI a1), some (vI a2)]) (st2 := [vI a2, vI a1, vR 0 0 0]) (m1 := m) rfl ?_
        refine an_call (r_X2_handPart m 0 a1 a2) rfl rfl rfl rfl ?_
        exact an_ret rfl rfl rfl rfl rfl
      · exact an_thr rfl rfl rfl rfl rfl
  · exact an_thr rfl rfl rfl rfl rfl
def o_X4_row (m : PM) (a1 : Int32) (a2 : Int32) : OC := (if ¬ (v_X4_isRow m a1) = 0 then (if a2 < 0 then (.inr 50) else (if a2 < (6 : Int32) then (.inl (some (vI (v_X2_rowPart m 0 a1 a2)))) else (.inr 50))) else (.inr 40))
set_option maxRecDepth 100000 in
theorem t_X4_row (m : PM) (a1 : Int32) (a2 : Int32) : An MX4_row 0 [some (vR 3 0 0), some (vI a1), some (vI a2)] [] m (o_X4_row m a1 a2) m := by
  unfold o_X4_row
  refine an_b 1 (pc2 := 1) (L2 := [some (vR 3 0 0), some (vI a1), some (vI a2)]) (st2 := [vI a1]) (m1 := m) rfl ?_
  refine an_call (r_X4_isRow m a1) rfl rfl rfl rfl ?_
  refine an_b 1 (pc2 := if ¬ (v_X4_isRow m a1) = 0 then 17 else 7) (L2 := [some (vR 3 0 0), some (vI a1), some (vI a2)]) (st2 := []) (m1 := m) rfl ?_
  refine an_ifp (c := ¬ (v_X4_isRow m a1) = 0) (fun h1 => ?_) (fun h1 => ?_)
  · refine an_b 2 (pc2 := if a2 < 0 then 27 else 21) (L2 := [some (vR 3 0 0), some (vI a1), some (vI a2)]) (st2 := []) (m1 := m) rfl ?_
    refine an_ifp (c := a2 < 0) (fun h2 => ?_) (fun h2 => ?_)
    · exact an_thr rfl rfl rfl rfl rfl
    · refine an_b 3 (pc2 := if a2 < (6 : Int32) then 37 else 27) (L2 := [some (vR 3 0 0), some (vI a1), some (vI a2)]) (st2 := []) (m1 := m) rfl ?_
      refine an_ifp (c := a2 < (6 : Int32)) (fun h3 => ?_) (fun h3 => ?_)
      · refine an_b 4 (pc2 := 43) (L2 := [some (vR 3 0 0), some (vI a1), some (vI a2)]) (st2 := [vI a2, vI a1, vR 0 0 0]) (m1 := m) rfl ?_
        refine an_call (r_X2_rowPart m 0 a1 a2) rfl rfl rfl rfl ?_
        exact an_ret rfl rfl rfl rfl rfl
      · exact an_thr rfl rfl rfl rfl rfl
  · exact an_thr rfl rfl rfl rfl rfl
def o_X4_request (m : PM) (a1 : Int32) (a2 : Int32) (a3 : Int32) : OC := (if ¬ (v_X4_isRow m a1) = 0 then (if a2 < 0 then (.inr 50) else (if (8 : Int32) ≤ a2 then (.inr 50) else (if a3 < 0 then (.inr 50) else (if a3 < (2 : Int32) then (.inl (some (vI (v_X2_requestPart m 0 a1 a2 a3)))) else (.inr 50))))) else (.inr 40))
set_option maxRecDepth 100000 in
theorem t_X4_request (m : PM) (a1 : Int32) (a2 : Int32) (a3 : Int32) : An MX4_request 0 [some (vR 3 0 0), some (vI a1), some (vI a2), some (vI a3)] [] m (o_X4_request m a1 a2 a3) m := by
  unfold o_X4_request
  refine an_b 1 (pc2 := 1) (L2 := [some (vR 3 0 0), some (vI a1), some (vI a2), some (vI a3)]) (st2 := [vI a1]) (m1 := m) rfl ?_
  refine an_call (r_X4_isRow m a1) rfl rfl rfl rfl ?_
  refine an_b 1 (pc2 := if ¬ (v_X4_isRow m a1) = 0 then 17 else 7) (L2 := [some (vR 3 0 0), some (vI a1), some (vI a2), some (vI a3)]) (st2 := []) (m1 := m) rfl ?_
  refine an_ifp (c := ¬ (v_X4_isRow m a1) = 0) (fun h1 => ?_) (fun h1 => ?_)
  · refine an_b 2 (pc2 := if a2 < 0 then 36 else 21) (L2 := [some (vR 3 0 0), some (vI a1), some (vI a2), some (vI a3)]) (st2 := []) (m1 := m) rfl ?_
    refine an_ifp (c := a2 < 0) (fun h2 => ?_) (fun h2 => ?_)
    · exact an_thr rfl rfl rfl rfl rfl
    · refine an_b 3 (pc2 := if (8 : Int32) ≤ a2 then 36 else 27) (L2 := [some (vR 3 0 0), some (vI a1), some (vI a2), some (vI a3)]) (st2 := []) (m1 := m) rfl ?_
      refine an_ifp (c := (8 : Int32) ≤ a2) (fun h3 => ?_) (fun h3 => ?_)
      · exact an_thr rfl rfl rfl rfl rfl
      · refine an_b 2 (pc2 := if a3 < 0 then 36 else 31) (L2 := [some (vR 3 0 0), some (vI a1), some (vI a2), some (vI a3)]) (st2 := []) (m1 := m) rfl ?_
        refine an_ifp (c := a3 < 0) (fun h4 => ?_) (fun h4 => ?_)
        · exact an_thr rfl rfl rfl rfl rfl
        · refine an_b 3 (pc2 := if a3 < (2 : Int32) then 46 else 36) (L2 := [some (vR 3 0 0), some (vI a1), some (vI a2), some (vI a3)]) (st2 := []) (m1 := m) rfl ?_
          refine an_ifp (c := a3 < (2 : Int32)) (fun h5 => ?_) (fun h5 => ?_)
          · refine an_b 5 (pc2 := 53) (L2 := [some (vR 3 0 0), some (vI a1), some (vI a2), some (vI a3)]) (st2 := [vI a3, vI a2, vI a1, vR 0 0 0]) (m1 := m) rfl ?_
            refine an_call (r_X2_requestPart m 0 a1 a2 a3) rfl rfl rfl rfl ?_
            exact an_ret rfl rfl rfl rfl rfl
          · exact an_thr rfl rfl rfl rfl rfl
  · exact an_thr rfl rfl rfl rfl rfl
def o_X4_count (m : PM) (a1 : Int32) : OC := (if a1 < 0 then (.inr 50) else (if a1 < (10 : Int32) then (.inl (some (vI (v_X4_numberOf m a1)))) else (.inr 50)))
set_option maxRecDepth 100000 in
theorem t_X4_count (m : PM) (a1 : Int32) : An MX4_count 0 [some (vR 3 0 0), some (vI a1)] [] m (o_X4_count m a1) m := by
  unfold o_X4_count
  refine an_b 2 (pc2 := if a1 < 0 then 10 else 4) (L2 := [some (vR 3 0 0), some (vI a1)]) (st2 := []) (m1 := m) rfl ?_
  refine an_ifp (c := a1 < 0) (fun h1 => ?_) (fun h1 => ?_)
  · exact an_thr rfl rfl rfl rfl rfl
  · refine an_b 3 (pc2 := if a1 < (10 : Int32) then 20 else 10) (L2 := [some (vR 3 0 0), some (vI a1)]) (st2 := []) (m1 := m) rfl ?_
    refine an_ifp (c := a1 < (10 : Int32)) (fun h2 => ?_) (fun h2 => ?_)
    · refine an_b 2 (pc2 := 22) (L2 := [some (vR 3 0 0), some (vI a1)]) (st2 := [vI a1, vR 3 0 0]) (m1 := m) rfl ?_
      refine an_call (r_X4_numberOf m a1) rfl rfl rfl rfl ?_
      exact an_ret rfl rfl rfl rfl rfl
    · exact an_thr rfl rfl rfl rfl rfl
def o_X4_takers (m : PM) (a1 : Int32) (a2 : Int32) : OC := (if (v_X4_isHand m a1) = 0 then (.inr 40) else (if ¬ (v_X4_isRow m a2) = 0 then (.inl (some (vI (v_X2_takersOf m 0 a1 a2)))) else (.inr 40)))
set_option maxRecDepth 100000 in
theorem t_X4_takers (m : PM) (a1 : Int32) (a2 : Int32) : An MX4_takers 0 [some (vR 3 0 0), some (vI a1), some (vI a2)] [] m (o_X4_takers m a1 a2) m := by
  unfold o_X4_takers
  refine an_b 1 (pc2 := 1) (L2 := [some (vR 3 0 0), some (vI a1), some (vI a2)]) (st2 := [vI a1]) (m1 := m) rfl ?_
  refine an_call (r_X4_isHand m a1) rfl rfl rfl rfl ?_
  refine an_b 1 (pc2 := if (v_X4_isHand m a1) = 0 then 14 else 7) (L2 := [some (vR 3 0 0), some (vI a1), some (vI a2)]) (st2 := []) (m1 := m) rfl ?_
  refine an_ifp (c := (v_X4_isHand m a1) = 0) (fun h1 => ?_) (fun h1 => ?_)
  · exact an_thr rfl rfl rfl rfl rfl
  · refine an_b 1 (pc2 := 8) (L2 := [some (vR 3 0 0), some (vI a1), some (vI a2)]) (st2 := [vI a2]) (m1 := m) rfl ?_
    refine an_call (r_X4_isRow m a2) rfl rfl rfl rfl ?_
    refine an_b 1 (pc2 := if ¬ (v_X4_isRow m a2) = 0 then 24 else 14) (L2 := [some (vR 3 0 0), some (vI a1), some (vI a2)]) (st2 := []) (m1 := m) rfl ?_
    refine an_ifp (c := ¬ (v_X4_isRow m a2) = 0) (fun h2 => ?_) (fun h2 => ?_)
    · refine an_b 4 (pc2 := 30) (L2 := [some (vR 3 0 0), some (vI a1), some (vI a2)]) (st2 := [vI a2, vI a1, vR 0 0 0]) (m1 := m) rfl ?_
      refine an_call (r_X2_takersOf m 0 a1 a2) rfl rfl rfl rfl ?_
      exact an_ret rfl rfl rfl rfl rfl
    · exact an_thr rfl rfl rfl rfl rfl
def o_X4_waitsFor (m : PM) (a1 : Int32) : OC := (if ¬ (v_X4_isHand m a1) = 0 then (.inl (some (vI (v_X2_reach m 0 a1)))) else (.inr 40))
set_option maxRecDepth 100000 in
theorem t_X4_waitsFor (m : PM) (a1 : Int32) : An MX4_waitsFor 0 [some (vR 3 0 0), some (vI a1)] [] m (o_X4_waitsFor m a1) m := by
  unfold o_X4_waitsFor
  refine an_b 1 (pc2 := 1) (L2 := [some (vR 3 0 0), some (vI a1)]) (st2 := [vI a1]) (m1 := m) rfl ?_
  refine an_call (r_X4_isHand m a1) rfl rfl rfl rfl ?_
  refine an_b 1 (pc2 := if ¬ (v_X4_isHand m a1) = 0 then 17 else 7) (L2 := [some (vR 3 0 0), some (vI a1)]) (st2 := []) (m1 := m) rfl ?_
  refine an_ifp (c := ¬ (v_X4_isHand m a1) = 0) (fun h1 => ?_) (fun h1 => ?_)
  · refine an_b 3 (pc2 := 22) (L2 := [some (vR 3 0 0), some (vI a1)]) (st2 := [vI a1, vR 0 0 0]) (m1 := m) rfl ?_
    refine an_call (r_X2_reach m 0 a1) rfl rfl rfl rfl ?_
    exact an_ret rfl rfl rfl rfl rfl
  · exact an_thr rfl rfl rfl rfl rfl
end
section
/-! arrays read and written at known places -/
theorem ix_lit (n : Nat) : (OfNat.ofNat n : Int32) = nI n := rfl
theorem an_ald {M : MI} {pc : Nat} {L : List (Option PV)} {r : List PV} {m m2 : PM} {t k g : Nat} {j : Int32} {v : OC} (E N : Nat) (h : asc (mT M) pc = some (.iaload, 1)) (hN : ilen m t k = some N) (hj : j = nI E) (hE : E < N) (hb : N < 2 ^ 31) (kk : An M (pc + 1) L (vI (m.1 t k g E) :: r) m v m2) : An M pc L (vI j :: vR t k g :: r) m v m2 := by
  subst hj
  refine one_iald N h hN (nI_in hE hb) ?_
  rw [nI_clamp (by omega)]
  exact kk
theorem an_ast {M : MI} {pc : Nat} {L : List (Option PV)} {r : List PV} {m m2 : PM} {t k g : Nat} {j x : Int32} {v : OC} (E N : Nat) (h : asc (mT M) pc = some (.iastore, 1)) (hN : ilen m t k = some N) (ht : ¬ t = 10) (hj : j = nI E) (hE : E < N) (hb : N < 2 ^ 31) (kk : An M (pc + 1) L r (wI m t k g E x) v m2) : An M pc L (vI x :: vI j :: vR t k g :: r) m v m2 := by
  subst hj
  refine one_iast N h hN ht (nI_in hE hb) ?_
  rw [nI_clamp (by omega)]
  exact kk
/-- the model's queues are not longer than they may be -/
def QL (m : PM) : Prop := ∀ r, r < 12 → (m.1 8 0 0 (125 + r)).toNatClampNeg ≤ 8
/-- a boolean answer that is 0 or 1 -/
theorem an_retz {M : MI} {pc : Nat} {L : List (Option PV)} {m : PM} {x : Int32} (hz : x = 0 ∨ x = 1) (h : asc (mT M) pc = some (.ireturn, 1)) (hr : mRet M = some .boolean) : An M pc L [vI x] m (.inl (some (vI x))) m := by
  refine an_ret h rfl rfl rfl ?_
  unfold sm_out
  have e : sm_ret M pc [vI x] = some (some (vI x)) := by
    unfold sm_ret
    rw [h]
    dsimp only
    rw [hr, if_neg (by decide), if_pos rfl]
    rcases hz with rfl | rfl
    · rw [if_pos rfl]; rfl
    · rw [if_neg (by decide), if_pos rfl]; rfl
  rw [e]
end
section
def v_X5_within (m : PM) (a1 : Int32) (a2 : Int32) (a3 : Int32) : Int32 := (if a1 < a2 then (0 : Int32) else (if a3 < a1 then (0 : Int32) else (1 : Int32)))
def v_X5_isHand (m : PM) (a1 : Int32) : Int32 := (v_X5_within m a1 (0 : Int32) (7 : Int32))
def v_X5_isRow (m : PM) (a1 : Int32) : Int32 := (v_X5_within m a1 (0 : Int32) (11 : Int32))
def v_X5_areThere (m : PM) (a1 : Int32) (a2 : Int32) : Int32 := (if (v_X5_isHand m a1) = 0 then (0 : Int32) else (if (v_X5_isRow m a2) = 0 then (0 : Int32) else (1 : Int32)))
def v_X5_lockOf (m : PM) (a1 : Nat) (a2 : Nat) : Int32 := (m.1 8 0 0 ((5 + (12 * a1)) + a2))
def w_X5_setLock (m : PM) (a1 : Nat) (a2 : Nat) (a3 : Int32) : PM := (wI m 8 0 0 ((5 + (12 * a1)) + a2) a3)
def v_X5_whoAt (m : PM) (a1 : Nat) (a2 : Nat) : Int32 := (m.1 8 0 0 ((137 + (8 * a1)) + a2))
def v_X5_modeAt (m : PM) (a1 : Nat) (a2 : Nat) : Int32 := (m.1 8 0 0 ((233 + (8 * a1)) + a2))
def b_X5_placeIn_1 (m : PM) (a1 : Int32) (a2 : Nat)  (j1 : Nat) (s1 : Int32) : Int32 := (if ¬ (v_X5_whoAt m a2 j1) = a1 then s1 else (nI j1))
def v_X5_placeIn (m : PM) (a1 : Int32) (a2 : Nat) : Int32 := (lp (b_X5_placeIn_1 m a1 a2) ((m.1 8 0 0 (125 + a2))).toNatClampNeg 0 (-1 : Int32))
def b_X5_rowOf_1 (m : PM) (a1 : Int32)  (j1 : Nat) (s1 : Int32) : Int32 := (if ¬ (v_X5_placeIn m a1 j1) = (-1 : Int32) then (nI j1) else s1)
def v_X5_rowOf (m : PM) (a1 : Int32) : Int32 := (lp (b_X5_rowOf_1 m a1) 12 0 (-1 : Int32))
def v_X5_waits (m : PM) (a1 : Int32) : Int32 := (if (v_X5_rowOf m a1) = (-1 : Int32) then (0 : Int32) else (1 : Int32))
def b_X5_workOf_1 (m : PM) (a1 : Nat)  (j1 : Nat) (s1 : Int32) : Int32 := (s1 + (v_X5_lockOf m a1 j1))
def v_X5_workOf (m : PM) (a1 : Nat) : Int32 := (lp (b_X5_workOf_1 m a1) 12 0 (0 : Int32))
def b_X5_holders_1 (m : PM) (a1 : Nat)  (j1 : Nat) (s1 : Int32) : Int32 := (s1 ||| (if (v_X5_lockOf m j1 a1) ≤ 0 then (0 : Int32) else ((1 : Int32) <<< ((nI j1) &&& (31 : Int32)))))
def v_X5_holders (m : PM) (a1 : Nat) : Int32 := (lp (b_X5_holders_1 m a1) 8 0 (0 : Int32))
def b_X5_greatestOf_1 (m : PM) (a1 : Nat)  (j1 : Nat) (s1 : Int32) : Int32 := (if (v_X5_lockOf m j1 a1) ≤ s1 then s1 else (v_X5_lockOf m j1 a1))
def v_X5_greatestOf (m : PM) (a1 : Nat) : Int32 := (lp (b_X5_greatestOf_1 m a1) 8 0 (0 : Int32))
def b_X5_clashing_1 (m : PM) (a1 : Nat) (a2 : Int32) (a3 : Int32)  (j1 : Nat) (s1 : Int32) : Int32 := (s1 ||| (if (nI j1) = a3 then (0 : Int32) else (if (v_X5_lockOf m j1 a1) ≤ 0 then (0 : Int32) else (if ((v_X5_lockOf m j1 a1) + a2) ≤ (3 : Int32) then (0 : Int32) else ((1 : Int32) <<< ((nI j1) &&& (31 : Int32)))))))
def v_X5_clashing (m : PM) (a1 : Nat) (a2 : Int32) (a3 : Int32) : Int32 := (lp (b_X5_clashing_1 m a1 a2 a3) 8 0 (0 : Int32))
def v_X5_isMode (m : PM) (a1 : Int32) : Int32 := (v_X5_within m a1 (1 : Int32) (3 : Int32))
def b_X5_burn_1 (m : PM) (a1 : Nat)  (j1 : Nat) (s1 : Int32 × PM) : Int32 × PM := ((if (v_X5_lockOf s1.2 j1 a1) ≤ 0 then s1.1 else (s1.1 + (1 : Int32))), (if (v_X5_lockOf s1.2 j1 a1) ≤ 0 then s1.2 else (wI (w_X5_setLock s1.2 j1 a1 (0 : Int32)) 8 0 0 (329 + j1) (((w_X5_setLock s1.2 j1 a1 (0 : Int32)).1 8 0 0 (329 + j1)) + (1 : Int32)))))
def v_X5_burn (m : PM) (a1 : Nat) : Int32 := (lp (b_X5_burn_1 m a1) 8 0 ((0 : Int32), m)).1
def w_X5_burn (m : PM) (a1 : Nat) : PM := (wI (lp (b_X5_burn_1 m a1) 8 0 ((0 : Int32), m)).2 8 0 0 4 (((lp (b_X5_burn_1 m a1) 8 0 ((0 : Int32), m)).2.1 8 0 0 4) + ((lp (b_X5_burn_1 m a1) 8 0 ((0 : Int32), m)).1)))
def v_X5_isSetting (m : PM) (a1 : Int32) : Int32 := (v_X5_within m a1 (0 : Int32) (2 : Int32))
def v_X5_isValue (m : PM) (a1 : Int32) (a2 : Int32) : Int32 := (if ¬ a1 = 0 then (if ¬ a1 = (1 : Int32) then (v_X5_within m a2 (0 : Int32) (50 : Int32)) else (v_X5_within m a2 (0 : Int32) (20 : Int32))) else (v_X5_within m a2 (10 : Int32) (900 : Int32)))
def b_X5_locksOf_1 (m : PM) (a1 : Nat)  (j1 : Nat) (s1 : Int32) : Int32 := (s1 + (if (v_X5_lockOf m a1 j1) ≤ 0 then (0 : Int32) else (1 : Int32)))
def v_X5_locksOf (m : PM) (a1 : Nat) : Int32 := (lp (b_X5_locksOf_1 m a1) 12 0 (0 : Int32))
def v_X5_rowNow (m : PM) (a1 : Nat) (a2 : Int32) : Int32 := (if a2 = nI 0 then (m.1 8 0 0 (101 + a1)) else (if a2 = nI 1 then (v_X5_greatestOf m a1) else (if a2 = nI 2 then (v_X5_holders m a1) else (if a2 = nI 3 then (m.1 8 0 0 (125 + a1)) else (if a2 = nI 4 then (m.1 8 0 0 (113 + a1)) else (if ¬ (m.1 8 0 0 (125 + a1)) = 0 then (v_X5_whoAt m a1 0) else (-1 : Int32)))))))
def v_X5_requestNow (m : PM) (a1 : Nat) (a2 : Nat) (a3 : Int32) : Int32 := (if (nI a2) < (m.1 8 0 0 (125 + a1)) then (if ¬ a3 = 0 then (v_X5_modeAt m a1 a2) else (v_X5_whoAt m a1 a2)) else (-1 : Int32))
def b_X5_sumFrom_1 (m : PM) (a1 : Nat) (a2 : Nat)  (j1 : Nat) (s1 : Int32) : Int32 := (s1 + (m.1 8 0 0 (a1 + j1)))
def v_X5_sumFrom (m : PM) (a1 : Nat) (a2 : Nat) : Int32 := (lp (b_X5_sumFrom_1 m a1 a2) a2 0 (0 : Int32))
def b_X5_allLocks_1 (m : PM)   (j1 : Nat) (s1 : Int32) : Int32 := (s1 + (v_X5_locksOf m j1))
def v_X5_allLocks (m : PM)  : Int32 := (lp (b_X5_allLocks_1 m) 8 0 (0 : Int32))
def b_X5_heldRows_1 (m : PM)   (j1 : Nat) (s1 : Int32) : Int32 := (s1 + (if (v_X5_holders m j1) ≤ 0 then (0 : Int32) else (1 : Int32)))
def v_X5_heldRows (m : PM)  : Int32 := (lp (b_X5_heldRows_1 m) 12 0 (0 : Int32))
end
section
/-! the model's row of numbers, and its queues -/
def zz (m : PM) (i : Nat) : Int32 := m.1 8 0 0 i
def setz (m : PM) (f : Nat → Int32) : PM := (fun t k g i => if t = 8 ∧ k = 0 ∧ g = 0 then f i else m.1 t k g i, m.2)
theorem zz_setz (m : PM) (f : Nat → Int32) : zz (setz m f) = f := by
  funext i
  unfold zz setz
  dsimp only
  rw [if_pos ⟨rfl, rfl, rfl⟩]
theorem zs (m : PM) (f : Nat → Int32) (i : Nat) : (setz m f).1 8 0 0 i = f i := congrFun (zz_setz m f) i
theorem setz_setz (m : PM) (f f2 : Nat → Int32) : setz (setz m f) f2 = setz m f2 := by
  unfold setz
  congr 1
  funext t k g i
  dsimp only
  by_cases h : t = 8 ∧ k = 0 ∧ g = 0
  · rw [if_pos h, if_pos h]
  · rw [if_neg h, if_neg h, if_neg h]
theorem setz_zz (m : PM) : setz m (zz m) = m := by
  obtain ⟨a, b⟩ := m
  unfold setz zz
  congr 1
  funext t k g i
  dsimp only
  by_cases h : t = 8 ∧ k = 0 ∧ g = 0
  · rw [if_pos h]; obtain ⟨rfl, rfl, rfl⟩ := h; rfl
  · rw [if_neg h]
theorem wI_setz (m : PM) (i : Nat) (v : Int32) : wI m 8 0 0 i v = setz m (upd (zz m) i v) := by
  unfold wI setz zz upd
  congr 1
  funext t k g j
  by_cases h : t = 8 ∧ k = 0 ∧ g = 0
  · obtain ⟨rfl, rfl, rfl⟩ := h
    by_cases hj : j = i
    · rw [if_pos ⟨rfl, rfl, rfl, hj⟩, if_pos ⟨rfl, rfl, rfl⟩, if_pos hj]
    · rw [if_neg (fun q => hj q.2.2.2), if_pos ⟨rfl, rfl, rfl⟩, if_neg hj]
  · rw [if_neg (fun q => h ⟨q.1, q.2.1, q.2.2.1⟩), if_neg h]
theorem wI_setz2 (m : PM) (f : Nat → Int32) (i : Nat) (v : Int32) : wI (setz m f) 8 0 0 i v = setz m (upd f i v) := by
  rw [wI_setz, zz_setz, setz_setz]
/-- the queue of row r without its place p, as far as place k is moved; n were in it -/
def uqz (z : Nat → Int32) (r p n k : Nat) (i : Nat) : Int32 := if i = 125 + r then nI (n - 1) else if 137 + 8 * r + p ≤ i ∧ i < 137 + 8 * r + k then z (i + 1) else if 233 + 8 * r + p ≤ i ∧ i < 233 + 8 * r + k then z (i + 1) else z i
/-- a queue's entries are hands -/
def QV (z : Nat → Int32) (r n : Nat) : Prop := z (125 + r) = nI n ∧ n ≤ 8 ∧ ∀ p, p < n → ∃ h, h < 8 ∧ z (137 + 8 * r + p) = nI h
/-- behind a grant of the request at place p, of hand h -/
def grz (z : Nat → Int32) (r p n h : Nat) : Nat → Int32 := uqz (upd (upd z (5 + 12 * h + r) (z (233 + 8 * r + p))) (345 + h) (z (345 + h) + 1)) r p n (n - 1)
/-- a memory with this row of numbers -/
def zm (z : Nat → Int32) : PM := setz ((fun _ _ _ _ => 0), (fun _ _ _ _ => 0)) z
def clz (z : Nat → Int32) (r : Nat) (md but : Int32) : Int32 := v_X5_clashing (zm z) r md but
theorem clz_eq (m : PM) (r : Nat) (md but : Int32) : v_X5_clashing m r md but = clz (zz m) r md but := by
  unfold clz v_X5_clashing
  have e : b_X5_clashing_1 m r md but = b_X5_clashing_1 (zm (zz m)) r md but := by
    funext j s
    unfold b_X5_clashing_1 v_X5_lockOf zm
    simp only [zs]
    rfl
  rw [e]
/-- a row is settled: n stand in its queue, c were granted -/
def stz (r : Nat) : Nat → (Nat → Int32) → Int32 → Int32 × (Nat → Int32)
  | 0, z, c => (c, z)
  | n + 1, z, c => if clz z r (z (233 + 8 * r)) (z (137 + 8 * r)) = 0 then stz r n (grz z r 0 (n + 1) (z (137 + 8 * r)).toNatClampNeg) (c + 1) else (c, z)
end
section
/-! values of the model that hang on a row or place found -/
theorem lp_inv {σ : Type} (f : Nat → σ → σ) (N : Nat) (P : Nat → σ → Prop) (step : ∀ j s, j < N → P j s → P (j + 1) (f j s)) : ∀ n j s, n + j = N → P j s → P N (lp f n j s) := by
  intro n
  induction n with
  | zero =>
    intro j s h k
    obtain rfl : j = N := by omega
    rw [lp_0]; exact k
  | succ n ih =>
    intro j s h k
    rw [lp_s]
    exact ih (j + 1) _ (by omega) (step j s (by omega) k)
theorem placeIn_or (m : PM) (a : Int32) (r : Nat) : v_X5_placeIn m a r = -1 ∨ ∃ p, p < (zz m (125 + r)).toNatClampNeg ∧ v_X5_placeIn m a r = nI p ∧ zz m (137 + 8 * r + p) = a := by
  unfold v_X5_placeIn
  refine lp_inv (b_X5_placeIn_1 m a r) (zz m (125 + r)).toNatClampNeg (fun _ s => s = -1 ∨ ∃ p, p < (zz m (125 + r)).toNatClampNeg ∧ s = nI p ∧ zz m (137 + 8 * r + p) = a) ?_ _ 0 _ (Nat.add_zero _) (Or.inl rfl)
  intro j s hj hs
  unfold b_X5_placeIn_1
  by_cases hc : v_X5_whoAt m r j = a
  · rw [if_neg (fun q => q hc)]
    exact Or.inr ⟨j, hj, rfl, hc⟩
  · rw [if_pos hc]
    exact hs
theorem rowOf_or (m : PM) (a : Int32) : v_X5_rowOf m a = -1 ∨ ∃ r, r < 12 ∧ v_X5_rowOf m a = nI r ∧ ¬ v_X5_placeIn m a r = -1 := by
  unfold v_X5_rowOf
  refine lp_inv (b_X5_rowOf_1 m a) 12 (fun _ s => s = -1 ∨ ∃ r, r < 12 ∧ s = nI r ∧ ¬ v_X5_placeIn m a r = -1) ?_ 12 0 _ rfl (Or.inl rfl)
  intro j s hj hs
  unfold b_X5_rowOf_1
  by_cases hc : v_X5_placeIn m a j = -1
  · rw [if_neg (fun q => q hc)]
    exact hs
  · rw [if_pos hc]
    exact Or.inr ⟨j, hj, rfl, hc⟩
/-- the place found in the row found, as a number -/
def rowN (m : PM) (a : Int32) : Nat := (v_X5_rowOf m a).toNatClampNeg
def plcN (m : PM) (a : Int32) (r : Nat) : Nat := (v_X5_placeIn m a r).toNatClampNeg
theorem row_N {m : PM} {a : Int32} (h : ¬ v_X5_rowOf m a = -1) : v_X5_rowOf m a = nI (rowN m a) ∧ rowN m a < 12 ∧ ¬ v_X5_placeIn m a (rowN m a) = -1 := by
  rcases rowOf_or m a with h1 | ⟨r, h1, h2, h3⟩
  · exact absurd h1 h
  · have e : rowN m a = r := by unfold rowN; rw [h2]; exact nI_clamp (by omega)
    rw [e]; exact ⟨h2, h1, h3⟩
theorem plc_N {m : PM} {a : Int32} {r : Nat} (hQ : QL m) (hr : r < 12) (h : ¬ v_X5_placeIn m a r = -1) : v_X5_placeIn m a r = nI (plcN m a r) ∧ plcN m a r < 8 ∧ plcN m a r < (zz m (125 + r)).toNatClampNeg ∧ zz m (137 + 8 * r + plcN m a r) = a := by
  have q : (zz m (125 + r)).toNatClampNeg ≤ 8 := hQ r hr
  rcases placeIn_or m a r with h1 | ⟨p, h1, h2, h3⟩
  · exact absurd h1 h
  · have e : plcN m a r = p := by unfold plcN; rw [h2]; exact nI_clamp (by omega)
    rw [e]; exact ⟨h2, by omega, h1, h3⟩
def b_X5_waitsNow_1 (m : PM) (r : Nat) (j : Nat) (s : Int32) : Int32 := s ||| ((1 : Int32) <<< ((v_X5_whoAt m r j) &&& (31 : Int32)))
def v_X5_waitsNow (m : PM) (a : Int32) : Int32 := if v_X5_rowOf m a = -1 then 0 else lp (b_X5_waitsNow_1 m (rowN m a)) (plcN m a (rowN m a)) 0 (v_X5_clashing m (rowN m a) (v_X5_modeAt m (rowN m a) (plcN m a (rowN m a))) a)
end
section
def b_X5_waitsOver_2 (m : PM) (a1 : Int32) (j1 : Nat) (s1 : Int32) (j2 : Nat) (s2 : Int32) : Int32 := (s2 ||| (if ¬ ((s2 >>> ((nI j2) &&& (31 : Int32))) &&& (1 : Int32)) = (1 : Int32) then (0 : Int32) else (v_X5_waitsNow m (nI j2))))
def b_X5_waitsOver_1 (m : PM) (a1 : Int32)  (j1 : Nat) (s1 : Int32) : Int32 := (lp (b_X5_waitsOver_2 m a1 j1 s1) 8 0 s1)
def v_X5_waitsOver (m : PM) (a1 : Int32) : Int32 := (lp (b_X5_waitsOver_1 m a1) 8 0 (v_X5_waitsNow m a1))
def v_X5_isInRing (m : PM) (a1 : Int32) : Int32 := (if ¬ (((v_X5_waitsOver m a1) >>> (a1 &&& (31 : Int32))) &&& (1 : Int32)) = (1 : Int32) then (0 : Int32) else (1 : Int32))
def v_X5_canRelease (m : PM) (a1 : Nat) (a2 : Nat) : Int32 := (if (v_X5_lockOf m a1 a2) ≤ 0 then (0 : Int32) else (if (v_X5_rowOf m (nI a1)) = (nI a2) then (0 : Int32) else (1 : Int32)))
end
section
/-! canHandOn, loserFor -/
def v_X5_canHandOn (m : PM) (a1 a2 : Nat) (a3 : Int32) : Int32 := if v_X5_canRelease m a1 a2 = 0 then 0 else if nI a1 = a3 then 0 else if ¬ v_X5_placeIn m a3 a2 = (-1 : Int32) then (if ¬ (v_X5_clashing m a2 (v_X5_modeAt m a2 (plcN m a3 a2)) a3) &&& (((1 : Int32) <<< (nI a1 &&& (31 : Int32))) ^^^ (-1 : Int32)) = 0 then 0 else 1) else 0
/-- the ring's loser, hand by hand -/
def b_X5_loserFor_1 (m : PM) (a : Int32) (j : Nat) (s : Int32) : Int32 := if (v_X5_waitsOver m a >>> (nI j &&& (31 : Int32))) &&& (1 : Int32) = 1 then (if (v_X5_waitsOver m (nI j) >>> (a &&& (31 : Int32))) &&& (1 : Int32) = 1 then (if s = -1 then nI j else if v_X5_workOf m s.toNatClampNeg < v_X5_workOf m j then s else nI j) else s) else s
def v_X5_loserFor (m : PM) (a : Int32) : Int32 := lp (b_X5_loserFor_1 m a) 8 0 (-1)
theorem loserFor_i (m : PM) (a : Int32) (j : Nat) (s : Int32) (hj : j < 8) (hs : s = -1 ∨ ∃ h, h < 8 ∧ s = nI h) : b_X5_loserFor_1 m a j s = -1 ∨ ∃ h, h < 8 ∧ b_X5_loserFor_1 m a j s = nI h := by
  unfold b_X5_loserFor_1
  (repeat' split) <;> first | exact hs | exact Or.inr ⟨j, hj, rfl⟩
end
section
def b_X5_takersNow_1 (m : PM) (a1 : Nat) (a2 : Nat)  (j1 : Nat) (s1 : Int32) : Int32 := (s1 ||| (if (v_X5_canHandOn m a1 a2 (nI j1)) = 0 then (0 : Int32) else ((1 : Int32) <<< ((nI j1) &&& (31 : Int32)))))
def v_X5_takersNow (m : PM) (a1 : Nat) (a2 : Nat) : Int32 := (lp (b_X5_takersNow_1 m a1 a2) 8 0 (0 : Int32))
end
section
/-! enqueue -/
/-- the place behind the holders that stand first: d are left, p passed -/
def hpz (z : Nat → Int32) (r : Nat) : Nat → Nat → Nat
  | 0, p => p
  | d + 1, p => if z (5 + 12 * (z (137 + 8 * r + p)).toNatClampNeg + r) ≤ 0 then p else hpz z r d (p + 1)
theorem hpz_le (z : Nat → Int32) (r : Nat) : ∀ d p, p ≤ hpz z r d p ∧ hpz z r d p ≤ p + d := by
  intro d
  induction d with
  | zero => intro p; unfold hpz; omega
  | succ d ih =>
    intro p
    unfold hpz
    have := ih (p + 1)
    split <;> omega
/-- the places behind k moved up by one, n in the queue -/
def eqz (z : Nat → Int32) (r k n : Nat) (i : Nat) : Int32 := if 137 + 8 * r + k < i ∧ i ≤ 137 + 8 * r + n then z (i - 1) else if 233 + 8 * r + k < i ∧ i ≤ 233 + 8 * r + n then z (i - 1) else z i
/-- hand h stands at place pl of the row's queue, with its mode -/
def enz (z : Nat → Int32) (r h : Nat) (md : Int32) (pl n : Nat) (i : Nat) : Int32 := if i = 125 + r then nI (n + 1) else if i = 233 + 8 * r + pl then md else if i = 137 + 8 * r + pl then nI h else eqz z r pl n i
def plz (z : Nat → Int32) (r h n : Nat) : Nat := if z (5 + 12 * h + r) ≤ 0 then n else hpz z r n 0
theorem plz_le (z : Nat → Int32) (r h n : Nat) : plz z r h n ≤ n := by
  unfold plz
  have := hpz_le z r n 0
  split <;> omega
end
section
/-! every queue in order; settle, lose, asks -/
/-- every row's queue is made of hands -/
def QA (z : Nat → Int32) : Prop := ∀ r, r < 12 → QV z r (z (125 + r)).toNatClampNeg
def qn (m : PM) (r : Nat) : Nat := (zz m (125 + r)).toNatClampNeg
theorem ql_of {m : PM} (h : QA (zz m)) : QL m := fun r hr => (h r hr).2.1
theorem qv_n {z : Nat → Int32} {r n : Nat} (h : QV z r n) : (z (125 + r)).toNatClampNeg = n := by
  rw [h.1]; exact nI_clamp (by have := h.2.1; omega)
theorem qa_i {z : Nat → Int32} (h : ∀ r, r < 12 → ∃ n, QV z r n) : QA z := by
  intro r hr
  obtain ⟨n, hn⟩ := h r hr
  rw [qv_n hn]; exact hn
def v_X5_settle (m : PM) (r : Nat) : Int32 := (stz r (qn m r) (zz m) 0).1
def w_X5_settle (m : PM) (r : Nat) : PM := setz m (stz r (qn m r) (zz m) 0).2
def w_X5_unqueue (m : PM) (r p : Nat) : PM := setz m (uqz (zz m) r p (qn m r) (qn m r - 1))
theorem zz_wI (m : PM) (i : Nat) (v : Int32) : zz (wI m 8 0 0 i v) = upd (zz m) i v := by rw [wI_setz, zz_setz]
theorem zz_setLock (m : PM) (h r : Nat) (v : Int32) : zz (w_X5_setLock m h r v) = upd (zz m) (5 + 12 * h + r) v := zz_wI _ _ _
/-- one row of a losing hand -/
def b_X5_lose_1 (m : PM) (h : Nat) (j : Nat) (s : Int32 × PM) : Int32 × PM := ((if 0 < v_X5_lockOf s.2 h j then (1 : Int32) <<< (nI j &&& (31 : Int32)) else if v_X5_placeIn s.2 (nI h) j = (-1 : Int32) then 0 else (1 : Int32) <<< (nI j &&& (31 : Int32))) ||| s.1, if v_X5_placeIn s.2 (nI h) j = (-1 : Int32) then w_X5_setLock s.2 h j 0 else w_X5_unqueue (w_X5_setLock s.2 h j 0) j (plcN s.2 (nI h) j))
def b_X5_lose_2 (rows : Int32) (j : Nat) (s : PM) : PM := if ¬ (rows >>> (nI j &&& (31 : Int32))) &&& (1 : Int32) = 1 then s else w_X5_settle s j
def lose_1 (m : PM) (h : Nat) : Int32 × PM := lp (b_X5_lose_1 m h) 12 0 (0, m)
def lose_2 (m : PM) (h : Nat) : PM := wI (lose_1 m h).2 8 0 0 (337 + h) ((lose_1 m h).2.1 8 0 0 (337 + h) + 1)
def w_X5_lose (m : PM) (h : Nat) : PM := lp (b_X5_lose_2 (lose_1 m h).1) 12 0 (lose_2 m h)
end
section
/-! asks, releases -/
def w_X5_enqueue (m : PM) (r h : Nat) (md : Int32) : PM := setz m (enz (zz m) r h md (plz (zz m) r h (qn m r)) (qn m r))
theorem loser_in {m : PM} {h : Nat} (hh : h < 8) (hi : ¬ v_X5_isInRing m (nI h) = 0) : ∃ l, l < 8 ∧ v_X5_loserFor m (nI h) = nI l := by
  have hb : (v_X5_waitsOver m (nI h) >>> (nI h &&& (31 : Int32))) &&& (1 : Int32) = 1 := by
    by_cases c : (v_X5_waitsOver m (nI h) >>> (nI h &&& (31 : Int32))) &&& (1 : Int32) = 1
    · exact c
    · exact absurd (by unfold v_X5_isInRing; rw [if_pos c]) hi
  have k := lp_inv (b_X5_loserFor_1 m (nI h)) 8 (fun j s => (s = -1 ∨ ∃ l, l < 8 ∧ s = nI l) ∧ (h < j → ∃ l, l < 8 ∧ s = nI l)) (fun j s hj hs => ⟨loserFor_i m (nI h) j s hj hs.1, fun hlt => ?_⟩) 8 0 (-1) rfl ⟨Or.inl rfl, fun q => absurd q (by omega)⟩
  · exact k.2 hh
  · by_cases c : h = j
    · subst c
      unfold b_X5_loserFor_1
      rw [if_pos hb, if_pos hb]
      by_cases c3 : s = -1
      · rw [if_pos c3]; exact ⟨h, hj, rfl⟩
      · rw [if_neg c3]
        rcases hs.1 with e | e
        · exact absurd e c3
        · split
          · exact e
          · exact ⟨h, hj, rfl⟩
    · have e := hs.2 (by omega)
      unfold b_X5_loserFor_1
      (repeat' split) <;> first | exact e | exact ⟨j, hj, rfl⟩
/-- the turns of a ring, d at most -/
def ring (h : Nat) : Nat → PM → PM
  | 0, m => m
  | d + 1, m => if v_X5_isInRing m (nI h) = 0 then m else ring h d (w_X5_lose m (v_X5_loserFor m (nI h)).toNatClampNeg)
def askA (m : PM) (h : Nat) : PM := wI m 8 0 0 (353 + h) (m.1 8 0 0 (353 + h) + 1)
def askC (m : PM) (h r : Nat) (md : Int32) : PM := w_X5_settle (w_X5_enqueue (askA m h) r h md) r
def askR (m : PM) (h r : Nat) (md : Int32) : PM := ring h 8 (askC m h r md)
def v_X5_asks (m : PM) (h r : Nat) (md : Int32) : Int32 := if v_X5_lockOf (askA m h) h r < md then (if v_X5_lockOf (askR m h r md) h r < md then (if v_X5_waits (askR m h r md) (nI h) = 0 then 2 else 1) else 0) else 0
def w_X5_asks (m : PM) (h r : Nat) (md : Int32) : PM := if v_X5_lockOf (askA m h) h r < md then askR m h r md else wI (askA m h) 8 0 0 (345 + h) ((askA m h).1 8 0 0 (345 + h) + 1)
def w_X5_releases (m : PM) (h r : Nat) : PM := w_X5_settle (w_X5_setLock m h r 0) r
def v_X5_releases (m : PM) (h r : Nat) : Int32 := v_X5_settle (w_X5_setLock m h r 0) r
end
section
/-! tick -/
def heatN (m : PM) (j : Nat) : Int32 := m.1 8 0 0 (101 + j) + (if v_X5_greatestOf m j ≤ 0 then -(m.1 8 0 0 2) else v_X5_greatestOf m j * m.1 8 0 0 1)
def b_X5_tick_1 (j : Nat) (s : PM) : PM := wI s 8 0 0 (101 + j) (if 0 ≤ heatN s j then (if heatN s j ≤ (1000 : Int32) then heatN s j else 1000) else 0)
def tickV (m : PM) (j : Nat) : Int32 := if m.1 8 0 0 (101 + j) ≤ m.1 8 0 0 0 then 0 else v_X5_burn m j
def tickW (m : PM) (j : Nat) : PM := if m.1 8 0 0 (101 + j) ≤ m.1 8 0 0 0 then m else w_X5_burn m j
def b_X5_tick_2 (j : Nat) (s : Int32 × PM) : Int32 × PM := (s.1 ||| (if tickV s.2 j ≤ 0 then 0 else (1 : Int32) <<< (nI j &&& (31 : Int32))), if tickV s.2 j ≤ 0 then tickW s.2 j else w_X5_settle (tickW s.2 j) j)
def tick_1 (m : PM) : PM := lp b_X5_tick_1 12 0 (wI m 8 0 0 3 (m.1 8 0 0 3 + 1))
def tick_2 (m : PM) : Int32 × PM := lp b_X5_tick_2 12 0 (0, tick_1 m)
def w_X5_tick (m : PM) : PM := (tick_2 m).2
end
section
/-! save, undo -/
/-- the history's row and the number of states -/
def sets (m : PM) (f : Nat → Int32) (v : Int32) : PM := (fun t k g i => if t = 8 ∧ k = 1 ∧ g = 0 then f i else if t = 7 ∧ k = 0 ∧ g = 0 ∧ i = 1 then v else m.1 t k g i, m.2)
def hs (m : PM) (i : Nat) : Int32 := m.1 8 1 0 i
def sts (m : PM) : Int32 := m.1 7 0 0 1
theorem sets_h (m : PM) (f : Nat → Int32) (v : Int32) (i : Nat) : (sets m f v).1 8 1 0 i = f i := by
  unfold sets
  dsimp only
  rw [if_pos ⟨rfl, rfl, rfl⟩]
theorem sets_s (m : PM) (f : Nat → Int32) (v : Int32) : (sets m f v).1 7 0 0 1 = v := by
  unfold sets
  dsimp only
  rw [if_neg (by decide), if_pos ⟨rfl, rfl, rfl, rfl⟩]
theorem sets_z (m : PM) (f : Nat → Int32) (v : Int32) (i : Nat) : (sets m f v).1 8 0 0 i = m.1 8 0 0 i := by
  unfold sets
  dsimp only
  rw [if_neg (by omega), if_neg (by omega)]
def shz (h : Nat → Int32) (k : Nat) (i : Nat) : Int32 := if i + 361 < k then h (i + 361) else h i
/-- the history with the row z laid at state s, as far as k -/
def layz (h z : Nat → Int32) (s k : Nat) (i : Nat) : Int32 := if 361 * s ≤ i ∧ i < 361 * s + k then z (i - 361 * s) else h i
/-- behind a save over s states -/
def savH (h z : Nat → Int32) (s : Nat) : Nat → Int32 := if s = 6 then layz (shz h 2166) z 5 361 else layz h z s 361
def w_X5_save (m : PM) (s : Nat) : PM := sets m (savH (hs m) (zz m) s) (nI (if s = 6 then 6 else s + 1))
theorem hs_w7 (m : PM) (j : Nat) (v : Int32) : hs (wI m 7 0 0 j v) = hs m := by
  funext i
  unfold hs wI
  dsimp only
  rw [if_neg (by omega)]
theorem zz_w7 (m : PM) (j : Nat) (v : Int32) : zz (wI m 7 0 0 j v) = zz m := by
  funext i
  unfold zz wI
  dsimp only
  rw [if_neg (by omega)]
theorem w_at (m : PM) (t k g j : Nat) (v : Int32) : (wI m t k g j v).1 t k g j = v := by
  unfold wI
  dsimp only
  rw [if_pos ⟨rfl, rfl, rfl, rfl⟩]
end
section
/-! keep, layBack, askedThen, burnsNow -/
theorem nI_nm1 {n : Nat} (h : n < 2 ^ 31) : ¬ nI n = -1 := fun e => nI_pos h (by rw [e]; decide)
end
section
/-! rightUpTo -/
def tex (m : PM) (i : Nat) : Int32 := m.1 8 2 0 i
end
section
/-! what leaves all but the row z alone; carries, run -/
def OZ (m m2 : PM) : Prop := (∀ t k g i, ¬ (t = 8 ∧ k = 0 ∧ g = 0) → m2.1 t k g i = m.1 t k g i) ∧ m2.2 = m.2
theorem oz_refl (m : PM) : OZ m m := ⟨fun _ _ _ _ _ => rfl, rfl⟩
theorem oz_trans {m m2 m3 : PM} (h : OZ m m2) (h2 : OZ m2 m3) : OZ m m3 := ⟨fun t k g i c => by rw [h2.1 t k g i c, h.1 t k g i c], by rw [h2.2, h.2]⟩
theorem oz_setz (m : PM) (f : Nat → Int32) : OZ m (setz m f) := ⟨fun t k g i c => by unfold setz; dsimp only; rw [if_neg c], rfl⟩
theorem oz_wI (m : PM) (i : Nat) (v : Int32) : OZ m (wI m 8 0 0 i v) := by rw [wI_setz]; exact oz_setz _ _
theorem oz_setLock (m : PM) (h r : Nat) (v : Int32) : OZ m (w_X5_setLock m h r v) := oz_wI _ _ _
theorem oz_settle (m : PM) (r : Nat) : OZ m (w_X5_settle m r) := oz_setz _ _
theorem oz_unq (m : PM) (r p : Nat) : OZ m (w_X5_unqueue m r p) := oz_setz _ _
theorem oz_enq (m : PM) (r h : Nat) (md : Int32) : OZ m (w_X5_enqueue m r h md) := oz_setz _ _
theorem oz_lose (m : PM) (h : Nat) : OZ m (w_X5_lose m h) := by
  have a : OZ m (lose_1 m h).2 := by
    refine lp_inv (b_X5_lose_1 m h) 12 (fun _ s => OZ m s.2) (fun j s hj hs => oz_trans hs ?_) 12 0 (0, m) rfl (oz_refl m)
    unfold b_X5_lose_1
    dsimp only
    split
    · exact oz_setLock _ _ _ _
    · exact oz_trans (oz_setLock _ _ _ _) (oz_unq _ _ _)
  have b : OZ m (lose_2 m h) := oz_trans a (oz_wI _ _ _)
  refine lp_inv (b_X5_lose_2 (lose_1 m h).1) 12 (fun _ s => OZ m s) (fun j s hj hs => oz_trans hs ?_) 12 0 _ rfl b
  unfold b_X5_lose_2
  split
  · exact oz_refl _
  · exact oz_settle _ _
theorem oz_ring (h : Nat) : ∀ (d : Nat) (m : PM), OZ m (ring h d m) := by
  intro d
  induction d with
  | zero => intro m; exact oz_refl m
  | succ d ih =>
    intro m
    unfold ring
    split
    · exact oz_refl m
    · exact oz_trans (oz_lose _ _) (ih _)
theorem oz_asks (m : PM) (h r : Nat) (md : Int32) : OZ m (w_X5_asks m h r md) := by
  unfold w_X5_asks
  split
  · exact oz_trans (oz_trans (oz_trans (oz_wI _ _ _) (oz_enq _ _ _ _)) (oz_settle _ _)) (oz_ring _ _ _)
  · exact oz_trans (oz_wI _ _ _) (oz_wI _ _ _)
theorem oz_releases (m : PM) (h r : Nat) : OZ m (w_X5_releases m h r) := oz_trans (oz_setLock _ _ _ _) (oz_settle _ _)
theorem oz_burn (m : PM) (r : Nat) : OZ m (w_X5_burn m r) := by
  have a : OZ m (lp (b_X5_burn_1 m r) 8 0 ((0 : Int32), m)).2 := by
    refine lp_inv (b_X5_burn_1 m r) 8 (fun _ s => OZ m s.2) (fun j s hj hs => oz_trans hs ?_) 8 0 (0, m) rfl (oz_refl m)
    unfold b_X5_burn_1
    dsimp only
    split
    · exact oz_refl _
    · exact oz_trans (oz_setLock _ _ _ _) (oz_wI _ _ _)
  exact oz_trans a (oz_wI _ _ _)
theorem oz_tick (m : PM) : OZ m (w_X5_tick m) := by
  have a : OZ m (tick_1 m) := by
    refine lp_inv b_X5_tick_1 12 (fun _ s => OZ m s) (fun j s hj hs => oz_trans hs ?_) 12 0 _ rfl (oz_wI _ _ _)
    exact oz_wI _ _ _
  refine lp_inv b_X5_tick_2 12 (fun _ s => OZ m s.2) (fun j s hj hs => oz_trans hs ?_) 12 0 (0, tick_1 m) rfl a
  unfold b_X5_tick_2
  dsimp only
  have w : OZ s.2 (tickW s.2 j) := by
    unfold tickW
    split
    · exact oz_refl _
    · exact oz_burn _ _
  split
  · exact w
  · exact oz_trans w (oz_settle _ _)
end
section
/-! the parts read are requests; run -/
theorem nI_le2 {x : Int32} {a b : Nat} (ha : a < 2 ^ 31) (hb : b < 2 ^ 31) (h : ¬ x < nI a) (h2 : ¬ nI b < x) : ∃ j, a ≤ j ∧ j ≤ b ∧ x = nI j := by
  rw [Int32.lt_iff_toInt_lt, nI_toInt ha] at h
  rw [Int32.lt_iff_toInt_lt, nI_toInt hb] at h2
  refine ⟨x.toInt.toNat, by omega, by omega, ?_⟩
  apply Int32.toInt_inj.mp
  rw [nI_toInt (by omega)]
  omega
theorem nI_sub2 {j a : Nat} (h : a ≤ j) : nI j - nI a = nI (j - a) := by
  have e : nI j = nI (j - a) + nI a := by rw [nI_add]; congr 1; omega
  rw [e]
  exact Int32.add_sub_cancel _ _
theorem zz_save (m : PM) (s : Nat) : zz (w_X5_save m s) = zz m := by
  funext i
  exact sets_z _ _ _ _
end
section
/-! handNow, counted -/
def v_X5_handNow (m : PM) (h w : Nat) : Int32 := if nI w = nI 0 then v_X5_locksOf m h else if nI w = nI 1 then v_X5_workOf m h else if nI w = nI 2 then v_X5_rowOf m (nI h) else if nI w = nI 3 then (if ¬ v_X5_rowOf m (nI h) = (-1 : Int32) then v_X5_modeAt m (rowN m (nI h)) (plcN m (nI h) (rowN m (nI h))) else 0) else if nI w = nI 4 then v_X5_waitsNow m (nI h) else m.1 8 0 0 (329 + 8 * (w - 5) + h)
def v_X5_counted (m : PM) (w : Nat) : Int32 := if nI w = nI 0 then v_X5_allLocks m else if nI w = nI 1 then v_X5_sumFrom m 125 12 else if nI w = nI 2 then m.1 8 0 0 3 else if nI w = nI 3 then m.1 8 0 0 4 else if nI w = nI 4 then v_X5_sumFrom m 337 8 else if nI w = nI 5 then v_X5_sumFrom m 113 12 else if nI w = nI 6 then v_X5_sumFrom m 345 8 else if nI w = nI 7 then v_X5_sumFrom m 353 8 else if nI w = nI 8 then v_X5_heldRows m else sts m
end
section
/-! share, the digest's mixing -/
theorem placeIn_cong {m m2 : PM} (e : zz m2 = zz m) (a : Int32) (r : Nat) : v_X5_placeIn m2 a r = v_X5_placeIn m a r := by
  have e0 : ∀ i, m2.1 8 0 0 i = m.1 8 0 0 i := fun i => congrFun e i
  unfold v_X5_placeIn
  have b : b_X5_placeIn_1 m2 a r = b_X5_placeIn_1 m a r := by
    funext j s
    unfold b_X5_placeIn_1 v_X5_whoAt
    rw [e0]
  rw [b, e0]
theorem rowOf_cong {m m2 : PM} (e : zz m2 = zz m) (a : Int32) : v_X5_rowOf m2 a = v_X5_rowOf m a := by
  unfold v_X5_rowOf
  have b : b_X5_rowOf_1 m2 a = b_X5_rowOf_1 m a := by
    funext j s
    unfold b_X5_rowOf_1
    rw [placeIn_cong e]
  rw [b]
theorem waits_cong {m m2 : PM} (e : zz m2 = zz m) (a : Int32) : v_X5_waits m2 a = v_X5_waits m a := by
  unfold v_X5_waits
  rw [rowOf_cong e]
/-! a hand's part, a row's part of the digest -/
end
section
/-! the model's acts where they are not refused -/
def svM (m : PM) (s : Nat) : PM := w_X5_save (wI m 7 0 0 5 0) s
theorem zz_svM (m : PM) (s : Nat) : zz (svM m s) = zz m := by
  unfold svM
  rw [zz_save, zz_w7]
def giveW (m : PM) (h s : Nat) : PM := w_X5_settle (w_X5_unqueue (svM m s) (rowN (svM m s) (nI h)) (plcN (svM m s) (nI h) (rowN (svM m s) (nI h)))) (rowN (svM m s) (nI h))
def b_X5_pass_1 (_ : Nat) (s : PM) : PM := w_X5_tick s
def passW (m : PM) (k s : Nat) : PM := lp b_X5_pass_1 k 0 (svM m s)
end
section
/-! handOn, append -/
def hoA (m : PM) (h r : Nat) : PM := w_X5_setLock m h r 0
def hoB (m : PM) (h r o : Nat) : PM := setz (hoA m h r) (grz (zz (hoA m h r)) r (plcN (hoA m h r) (nI o) r) (qn (hoA m h r) r) o)
def hoC (m : PM) (h r o : Nat) : PM := wI (hoB m h r o) 8 0 0 (113 + r) ((hoB m h r o).1 8 0 0 (113 + r) + 1)
end
section
/-! bits of an int -/
def bit (x : Int32) (i : Nat) : Bool := x.toBitVec.getLsbD i
theorem bit_ext {x y : Int32} (h : ∀ i, i < 32 → bit x i = bit y i) : x = y := by
  apply Int32.toBitVec_inj.1
  exact BitVec.eq_of_getLsbD_eq (fun i hi => h i hi)
theorem bit_or (x y : Int32) (i : Nat) : bit (x ||| y) i = (bit x i || bit y i) := by
  unfold bit
  rw [Int32.toBitVec_or, BitVec.getLsbD_or]
theorem bit_and (x y : Int32) (i : Nat) : bit (x &&& y) i = (bit x i && bit y i) := by
  unfold bit
  rw [Int32.toBitVec_and, BitVec.getLsbD_and]
theorem bit_0 (i : Nat) : bit 0 i = false := by
  unfold bit
  exact BitVec.getLsbD_zero
theorem sh_n : ∀ j, j < 32 → ((nI j &&& (31 : Int32)).toBitVec.smod 32#32).toNat = j := by decide
theorem bit_o (i : Nat) : bit 1 i = decide (i = 0) := by
  have e : bit 1 i = (1#32).getLsbD i := rfl
  rw [e, BitVec.getLsbD_one]
  simp
/-- the bit of j -/
theorem bit_1 {i j : Nat} (hi : i < 32) (hj : j < 32) : bit ((1 : Int32) <<< (nI j &&& (31 : Int32))) i = decide (i = j) := by
  unfold bit
  rw [Int32.toBitVec_shiftLeft, BitVec.getLsbD_shiftLeft']
  rw [show ((nI j &&& (31 : Int32)).toBitVec.smod (32 : BitVec 32)).toNat = j from sh_n j hj]
  have e := bit_o (i - j)
  unfold bit at e
  rw [e]
  by_cases c : i = j
  · subst c; simp [hi]
  · by_cases c2 : i < j
    · simp [c2, c]
    · have : ¬ i - j = 0 := by omega
      simp [this, c]
/-- to ask for bit j -/
theorem bit_q {x : Int32} {j : Nat} (hj : j < 32) : (x >>> (nI j &&& (31 : Int32))) &&& (1 : Int32) = if bit x j then 1 else 0 := by
  apply bit_ext
  intro i hi
  rw [bit_and, bit_o]
  by_cases c : i = 0
  · subst c
    have e : bit (x >>> (nI j &&& (31 : Int32))) 0 = bit x j := by
      unfold bit
      rw [Int32.toBitVec_shiftRight, BitVec.getLsbD_sshiftRight']
      rw [show ((nI j &&& (31 : Int32)).toBitVec.smod (32 : BitVec 32)).toNat = j from sh_n j hj]
      simp [hj]
    rw [e]
    cases h : bit x j
    · simp [bit_0]
    · simp [bit_o]
  · cases h : bit x j
    · simp [bit_0, c]
    · simp [bit_o, c]
theorem bit_q1 {x : Int32} {j : Nat} (hj : j < 32) : (x >>> (nI j &&& (31 : Int32))) &&& (1 : Int32) = 1 ↔ bit x j = true := by
  rw [bit_q hj]
  cases bit x j <;> simp
theorem bit_q0 {x : Int32} {j : Nat} (hj : j < 32) : (x >>> (nI j &&& (31 : Int32))) &&& (1 : Int32) = 0 ↔ bit x j = false := by
  rw [bit_q hj]
  cases bit x j <;> simp
/-- a mask gathered hand by hand -/
theorem bit_lp (b : Nat → Int32 → Int32) (P : Nat → Bool) (N : Nat) (hN : N ≤ 32) (hb : ∀ j s i, j < N → i < 32 → bit (b j s) i = (bit s i || (decide (i = j) && P j))) : ∀ n j s, n + j = N → ∀ i, i < 32 → bit (lp b n j s) i = (bit s i || (decide (j ≤ i ∧ i < N) && P i)) := by
  intro n
  induction n with
  | zero =>
    intro j s h i hi
    rw [lp_0]
    have : ¬ (j ≤ i ∧ i < N) := by omega
    simp [this]
  | succ n ih =>
    intro j s h i hi
    rw [lp_s, ih (j + 1) (b j s) (by omega) i hi, hb j s i (by omega) hi]
    by_cases c : i = j
    · subst c
      have h1 : ¬ (i + 1 ≤ i ∧ i < N) := by omega
      have h2 : i ≤ i ∧ i < N := by omega
      rw [decide_eq_false h1, decide_eq_true h2, decide_eq_true (rfl : i = i)]
      simp
    · by_cases c2 : j ≤ i ∧ i < N
      · have h1 : j + 1 ≤ i ∧ i < N := by omega
        simp [c, c2, h1]
      · have h1 : ¬ (j + 1 ≤ i ∧ i < N) := by omega
        simp [c, c2, h1]
end
section
/-! the class's memory and the model's row z: locks and queues -/
/-- the numbers k of state g -/
def cl (M : PM) (g k : Nat) (i : Nat) : Int32 := M.1 2 k g i
theorem at_in {M : PM} {k g i : Nat} (hi : i < nlen k) : v_X1_at M k g (nI i) = cl M g k i := by
  have hl := nlen_lt k
  unfold v_X1_at
  rw [if_neg (nI_pos (by omega)), if_neg (nI_ge hi hl), nI_clamp (by omega)]
  rfl
theorem put_in {M : PM} {k g i : Nat} {x : Int32} (hi : i < nlen k) : w_X1_put M k g (nI i) x = wI M 2 k g i x := by
  have hl := nlen_lt k
  unfold w_X1_put
  rw [if_neg (nI_pos (by omega)), if_neg (nI_ge hi hl), nI_clamp (by omega)]
theorem cell_in (M : PM) (h r : Nat) : v_X4_cell M (nI h) (nI r) = nI (h * 12 + r) := by
  unfold v_X4_cell
  rw [← nI_add]
  congr 1
  have e : (12 : Int32) = nI 12 := rfl
  rw [e, Int32.mul_comm, Nat.mul_comm]
  exact pk_mul 12 h
theorem lk_in {M : PM} {g h r : Nat} (hh : h < 8) (hr : r < 12) : v_X1_at M 0 g (v_X4_cell M (nI h) (nI r)) = cl M g 0 (h * 12 + r) := by
  rw [cell_in]
  exact at_in (show h * 12 + r < 96 by omega)
/-- a mode -/
def MO (x : Int32) : Prop := x = 1 ∨ x = 2 ∨ x = 3
/-- locks lk, and each hand's row rr, mode rm and place rp in a queue, against z -/
def RK (lk z : Nat → Int32) : Prop := ∀ h r, h < 8 → r < 12 → lk (h * 12 + r) = z (5 + 12 * h + r) ∧ (z (5 + 12 * h + r) = 0 ∨ MO (z (5 + 12 * h + r)))
def RQ (rr rm rp z : Nat → Int32) : Prop := (∀ r, r < 12 → ∃ n, n ≤ 8 ∧ z (125 + r) = nI n ∧ ∀ p, p < n → ∃ h, h < 8 ∧ z (137 + 8 * r + p) = nI h ∧ rr h = nI r ∧ rp h = nI p ∧ rm h = z (233 + 8 * r + p) ∧ MO (rm h)) ∧ ∀ h, h < 8 → (rr h = -1 ∧ rm h = 0) ∨ ∃ r n p, r < 12 ∧ z (125 + r) = nI n ∧ n ≤ 8 ∧ p < n ∧ rr h = nI r ∧ rp h = nI p ∧ z (137 + 8 * r + p) = nI h
theorem rq_qa {rr rm rp z : Nat → Int32} (h : RQ rr rm rp z) : QA z := by
  refine qa_i fun r hr => ?_
  obtain ⟨n, hn, e, k⟩ := h.1 r hr
  refine ⟨n, e, hn, fun p hp => ?_⟩
  obtain ⟨h0, a, b, _⟩ := k p hp
  exact ⟨h0, a, b⟩
theorem placeIn_R {m : PM} {rr rm rp : Nat → Int32} (hR : RQ rr rm rp (zz m)) {h r : Nat} (hh : h < 8) (hr : r < 12) : v_X5_placeIn m (nI h) r = if rr h = nI r then rp h else -1 := by
  obtain ⟨n, hn, en, kn⟩ := hR.1 r hr
  have eN : (m.1 8 0 0 (125 + r)).toNatClampNeg = n := by
    rw [show m.1 8 0 0 (125 + r) = nI n from en]
    exact nI_clamp (by omega)
  unfold v_X5_placeIn
  rw [eN]
  by_cases c : rr h = nI r
  · rw [if_pos c]
    obtain ⟨p0, hp0, ep0, ew0⟩ : ∃ p0, p0 < n ∧ rp h = nI p0 ∧ zz m (137 + 8 * r + p0) = nI h := by
      rcases hR.2 h hh with ⟨a, _⟩ | ⟨r2, n2, p2, h1, h2, h3, h4, h5, h6, h7⟩
      · rw [c] at a; exact absurd a (nI_nm1 (by omega))
      · rw [c] at h5
        obtain rfl := (nI_eq (by omega) (by omega)).mp h5
        rw [en] at h2
        obtain rfl := (nI_eq (by omega) (by omega)).mp h2
        exact ⟨p2, h4, h6, h7⟩
    have k := lp_inv (b_X5_placeIn_1 m (nI h) r) n (fun j s => s = if p0 < j then nI p0 else -1) (fun j s hj hs => ?_) n 0 (-1) (Nat.add_zero _) (by rw [if_neg (by omega)])
    · rw [k, if_pos hp0, ep0]
    · unfold b_X5_placeIn_1 v_X5_whoAt
      by_cases cj : j = p0
      · subst cj
        rw [if_neg (fun q => q ew0), if_pos (by omega)]
      · have hw : ¬ m.1 8 0 0 (137 + 8 * r + j) = nI h := by
          intro e
          obtain ⟨h1, a1, a2, _, a4, _⟩ := kn j hj
          rw [show zz m (137 + 8 * r + j) = nI h from e] at a2
          obtain rfl := (nI_eq (by omega) (by omega)).mp a2
          rw [ep0] at a4
          exact cj ((nI_eq (by omega) (by omega)).mp a4).symm
        rw [if_pos hw, hs]
        by_cases cl : p0 < j
        · rw [if_pos cl, if_pos (by omega)]
        · rw [if_neg cl, if_neg (by omega)]
  · rw [if_neg c]
    refine lp_inv (b_X5_placeIn_1 m (nI h) r) n (fun j s => s = -1) (fun j s hj hs => ?_) n 0 (-1) (Nat.add_zero _) rfl
    unfold b_X5_placeIn_1 v_X5_whoAt
    have hw : ¬ m.1 8 0 0 (137 + 8 * r + j) = nI h := by
      intro e
      obtain ⟨h1, a1, a2, a3, _⟩ := kn j hj
      rw [show zz m (137 + 8 * r + j) = nI h from e] at a2
      obtain rfl := (nI_eq (by omega) (by omega)).mp a2
      exact c a3
    rw [if_pos hw, hs]
theorem rp_nn {rr rm rp z : Nat → Int32} (hR : RQ rr rm rp z) {h r : Nat} (hh : h < 8) (c : rr h = nI r) (hr : r < 12) : ¬ rp h = -1 := by
  rcases hR.2 h hh with ⟨a, _⟩ | ⟨r2, n2, p2, h1, h2, h3, h4, h5, h6, h7⟩
  · rw [c] at a; exact absurd a (nI_nm1 (by omega))
  · rw [h6]; exact nI_nm1 (by omega)
theorem rowOf_R {m : PM} {rr rm rp : Nat → Int32} (hR : RQ rr rm rp (zz m)) {h : Nat} (hh : h < 8) : v_X5_rowOf m (nI h) = rr h := by
  unfold v_X5_rowOf
  rcases hR.2 h hh with ⟨a, _⟩ | ⟨r0, n2, p2, h1, h2, h3, h4, h5, h6, h7⟩
  · rw [a]
    refine lp_inv (b_X5_rowOf_1 m (nI h)) 12 (fun j s => s = -1) (fun j s hj hs => ?_) 12 0 (-1) rfl rfl
    unfold b_X5_rowOf_1
    have e : v_X5_placeIn m (nI h) j = -1 := by
      rw [placeIn_R hR hh hj, if_neg]
      rw [a]
      exact fun q => nI_nm1 (show j < 2 ^ 31 by omega) q.symm
    rw [if_neg (fun q => q e), hs]
  · have k := lp_inv (b_X5_rowOf_1 m (nI h)) 12 (fun j s => s = if r0 < j then nI r0 else -1) (fun j s hj hs => ?_) 12 0 (-1) rfl (by rw [if_neg (by omega)])
    · rw [k, if_pos h1, h5]
    · unfold b_X5_rowOf_1
      rw [placeIn_R hR hh hj]
      by_cases cj : j = r0
      · subst cj
        rw [if_pos h5, if_pos (rp_nn hR hh h5 hj), if_pos (by omega)]
      · have hw : ¬ rr h = nI j := by
          rw [h5]
          intro e
          exact cj ((nI_eq (by omega) (by omega)).mp e).symm
        rw [if_neg hw, if_neg (fun q => q rfl), hs]
        by_cases cl : r0 < j
        · rw [if_pos cl, if_pos (by omega)]
        · rw [if_neg cl, if_neg (by omega)]
theorem waits_R {M m : PM} {g : Nat} {rm rp : Nat → Int32} (hR : RQ (cl M g 1) rm rp (zz m)) {h : Nat} (hh : h < 8) : v_X5_waits m (nI h) = v_X2_isWaiting M g (nI h) := by
  unfold v_X5_waits v_X2_isWaiting
  rw [rowOf_R hR hh, at_in (k := 1) (show h < 8 from hh)]
end
section
/-! values that agree -/
theorem lp_cong {σ : Type} {f f2 : Nat → σ → σ} (N : Nat) (h : ∀ j s, j < N → f j s = f2 j s) : ∀ n j s, n + j = N → lp f n j s = lp f2 n j s := by
  intro n
  induction n with
  | zero => intro j s _; rw [lp_0, lp_0]
  | succ n ih =>
    intro j s e
    rw [lp_s, lp_s, h j s (by omega)]
    exact ih (j + 1) _ (by omega)
/-- state g of the class and the model's row, in locks and queues -/
def RG (M m : PM) (g : Nat) : Prop := RK (cl M g 0) (zz m) ∧ RQ (cl M g 1) (cl M g 2) (cl M g 3) (zz m)
section
variable {M m : PM} {g : Nat}
theorem lock_R (hR : RG M m g) {h r : Nat} (hh : h < 8) (hr : r < 12) : v_X1_at M 0 g (v_X4_cell M (nI h) (nI r)) = v_X5_lockOf m h r := by
  rw [lk_in hh hr]
  exact (hR.1 h r hh hr).1
theorem holders_R (hR : RG M m g) {r : Nat} (hr : r < 12) : v_X2_holders M g (nI r) = v_X5_holders m r := by
  unfold v_X2_holders v_X5_holders
  refine lp_cong 8 (fun j s hj => ?_) 8 0 0 rfl
  unfold b_X2_holders_1 b_X5_holders_1
  rw [lock_R hR hj hr]
  split
  · exact Int32.or_zero.symm
  · rfl
theorem greatest_R (hR : RG M m g) {r : Nat} (hr : r < 12) : v_X2_greatestMode M g (nI r) = v_X5_greatestOf m r := by
  unfold v_X2_greatestMode v_X5_greatestOf
  refine lp_cong 8 (fun j s hj => ?_) 8 0 0 rfl
  unfold b_X2_greatestMode_1 b_X5_greatestOf_1
  rw [lock_R hR hj hr]
  by_cases c : s < v_X5_lockOf m j r
  · rw [if_pos c, if_neg (Int32.not_le.mpr c)]
  · rw [if_neg c, if_pos (Int32.not_lt.mp c)]
theorem work_R (hR : RG M m g) {h : Nat} (hh : h < 8) : v_X2_work M g (nI h) = v_X5_workOf m h := by
  unfold v_X2_work v_X5_workOf
  refine lp_cong 12 (fun j s hj => ?_) 12 0 0 rfl
  unfold b_X2_work_1 b_X5_workOf_1
  rw [lock_R hR hh hj]
theorem locksOf_R (hR : RG M m g) {h : Nat} (hh : h < 8) : v_X2_locksOf M g (nI h) = v_X5_locksOf m h := by
  unfold v_X2_locksOf v_X5_locksOf
  refine lp_cong 12 (fun j s hj => ?_) 12 0 0 rfl
  unfold b_X2_locksOf_1 b_X5_locksOf_1
  rw [lock_R hR hh hj]
  split
  · exact (Int32.add_zero s).symm
  · rfl
theorem lockCount_R (hR : RG M m g) : v_X2_lockCount M g = v_X5_allLocks m := by
  unfold v_X2_lockCount v_X5_allLocks
  refine lp_cong 8 (fun j s hj => ?_) 8 0 0 rfl
  unfold b_X2_lockCount_1 b_X5_allLocks_1
  rw [locksOf_R hR hj]
theorem canRelease_R (hR : RG M m g) {h r : Nat} (hh : h < 8) (hr : r < 12) : v_X2_canLetGo M g (nI h) (nI r) = v_X5_canRelease m h r := by
  unfold v_X2_canLetGo v_X5_canRelease
  rw [lock_R hR hh hr, rowOf_R hR.2 hh, at_in (k := 1) (show h < 8 from hh)]
/-- a lock of those that clash -/
def clB (m : PM) (r : Nat) (md but : Int32) (j : Nat) : Bool := if nI j = but then false else if v_X5_lockOf m j r ≤ 0 then false else if v_X5_lockOf m j r + md ≤ 3 then false else true
theorem bit_clash (m : PM) (r : Nat) (md but : Int32) (i : Nat) (hi : i < 32) : bit (v_X5_clashing m r md but) i = (decide (i < 8) && clB m r md but i) := by
  unfold v_X5_clashing
  rw [bit_lp (b_X5_clashing_1 m r md but) (clB m r md but) 8 (by omega) (fun j s i hj hi => ?_) 8 0 0 rfl i hi, bit_0]
  · simp
  · unfold b_X5_clashing_1 clB
    rw [bit_or]
    (repeat' split) <;> first | (rw [bit_0]; simp) | (rw [bit_1 hi (by omega)]; simp)
end
end
section
/-! direct and waitsNow agree -/
theorem bit_who (m : PM) (r N : Nat) (hN : ∀ q, q < N → ∃ h, h < 8 ∧ zz m (137 + 8 * r + q) = nI h) : ∀ n j s, n + j = N → ∀ i, i < 32 → (bit (lp (b_X5_waitsNow_1 m r) n j s) i = true ↔ bit s i = true ∨ ∃ q, j ≤ q ∧ q < N ∧ zz m (137 + 8 * r + q) = nI i) := by
  intro n
  induction n with
  | zero =>
    intro j s e i hi
    rw [lp_0]
    constructor
    · exact Or.inl
    · rintro (h | ⟨q, a, b, _⟩)
      · exact h
      · omega
  | succ n ih =>
    intro j s e i hi
    obtain ⟨h0, hh0, e0⟩ := hN j (by omega)
    rw [lp_s, ih (j + 1) _ (by omega) i hi]
    have eb : bit (b_X5_waitsNow_1 m r j s) i = (bit s i || decide (i = h0)) := by
      unfold b_X5_waitsNow_1 v_X5_whoAt
      rw [show m.1 8 0 0 (137 + 8 * r + j) = nI h0 from e0, bit_or, bit_1 hi (by omega)]
    rw [eb]
    constructor
    · rintro (h | ⟨q, a, b, c⟩)
      · rw [Bool.or_eq_true, decide_eq_true_eq] at h
        rcases h with h | h
        · exact Or.inl h
        · exact Or.inr ⟨j, Nat.le_refl _, by omega, by rw [e0, h]⟩
      · exact Or.inr ⟨q, by omega, b, c⟩
    · rintro (h | ⟨q, a, b, c⟩)
      · left; rw [h]; rfl
      · by_cases cq : q = j
        · subst cq
          left
          rw [e0] at c
          obtain rfl := (nI_eq (by omega) (by omega)).mp c
          simp
        · exact Or.inr ⟨q, by omega, b, c⟩
/-- lock and mode clash -/
theorem clash_0 {x md : Int32} (hx : x = 0 ∨ MO x) (hm : MO md) (h : ¬ x + md ≤ 3) : ¬ x ≤ 0 := by
  rcases hx with rfl | rfl | rfl | rfl
  · rcases hm with rfl | rfl | rfl <;> exact absurd (by decide) h
  all_goals decide
section
variable {M m : PM} {g : Nat}
theorem direct_R (hR : RG M m g) {h : Nat} (hh : h < 8) : v_X2_direct M g (nI h) = v_X5_waitsNow m (nI h) := by
  have hw := waits_R (M := M) (g := g) hR.2 hh
  have hro := rowOf_R hR.2 hh
  unfold v_X2_direct
  rw [← hw]
  unfold v_X5_waits v_X5_waitsNow
  rcases hR.2.2 h hh with ⟨a, _⟩ | ⟨r, n, p, hr, hn, hn8, hp, e1, e2, e3⟩
  · rw [hro, a, if_pos rfl, if_pos rfl, if_neg (fun q => q rfl)]
  · have hne : ¬ v_X5_rowOf m (nI h) = -1 := by rw [hro, e1]; exact nI_nm1 (by omega)
    rw [if_neg hne, if_neg hne, if_pos (by decide)]
    have eR : rowN m (nI h) = r := by unfold rowN; rw [hro, e1]; exact nI_clamp (by omega)
    have eP : plcN m (nI h) r = p := by unfold plcN; rw [placeIn_R hR.2 hh hr, if_pos e1, e2]; exact nI_clamp (by omega)
    rw [eR, eP]
    obtain ⟨n2, hn2, en2, kn⟩ := hR.2.1 r hr
    rw [hn] at en2
    obtain rfl := (nI_eq (by omega) (by omega)).mp en2
    obtain ⟨h1, hh1, f1, f2, f3, f4, f5⟩ := kn p hp
    rw [e3] at f1
    obtain rfl := (nI_eq (by omega) (by omega)).mp f1
    have em : v_X5_modeAt m r p = cl M g 2 h := f4.symm
    rw [em]
    have a1 : v_X1_at M 1 g (nI h) = nI r := by rw [at_in (k := 1) (show h < 8 from hh), e1]
    have a2 : v_X1_at M 2 g (nI h) = cl M g 2 h := at_in (k := 2) (show h < 8 from hh)
    have a3 : v_X1_at M 3 g (nI h) = nI p := by rw [at_in (k := 3) (show h < 8 from hh), e2]
    apply bit_ext
    intro i hi
    rw [Bool.eq_iff_iff, bit_who m r p (fun q hq => by obtain ⟨h2, b1, b2, _⟩ := kn q (by omega); exact ⟨h2, b1, b2⟩) p 0 _ (Nat.add_zero _) i hi, bit_clash m r _ _ i hi]
    rw [bit_lp (b_X2_direct_1 M g (nI h)) (fun j => if nI j = nI h then false else if ¬ v_X5_lockOf m j r + cl M g 2 h ≤ 3 then true else if ¬ cl M g 1 j = nI r then false else if nI p ≤ cl M g 3 j then false else true) 8 (by omega) (fun j s i hj hi => ?_) 8 0 0 rfl i hi, bit_0]
    · simp only [Bool.false_or, Nat.zero_le, true_and, Bool.and_eq_true, decide_eq_true_eq]
      constructor
      · rintro ⟨hi8, hb⟩
        by_cases c1 : nI i = nI h
        · rw [if_pos c1] at hb; exact absurd hb (by decide)
        rw [if_neg c1] at hb
        by_cases c2 : v_X5_lockOf m i r + cl M g 2 h ≤ 3
        · rw [if_neg (fun q => q c2)] at hb
          right
          by_cases c3 : cl M g 1 i = nI r
          · rw [if_neg (fun q => q c3)] at hb
            rcases hR.2.2 i hi8 with ⟨b, _⟩ | ⟨r2, n2, p2, g1, g2, g3, g4, g5, g6, g7⟩
            · rw [c3] at b; exact absurd b (nI_nm1 (by omega))
            · rw [c3] at g5
              obtain rfl := (nI_eq (by omega) (by omega)).mp g5
              by_cases c4 : nI p ≤ cl M g 3 i
              · rw [if_pos c4] at hb; exact absurd hb (by decide)
              · rw [g6] at c4
                rw [hn] at g2
                obtain rfl := (nI_eq (by omega) (by omega)).mp g2
                refine ⟨p2, ?_, g7⟩
                by_cases c5 : p2 < p
                · exact c5
                · exact absurd (nI_le (show p ≤ p2 by omega) (by omega)) c4
          · rw [if_pos c3] at hb; exact absurd hb (by decide)
        · left
          refine ⟨hi8, ?_⟩
          unfold clB
          rw [if_neg c1, if_neg (show ¬ v_X5_lockOf m i r ≤ 0 from clash_0 (hR.1 i r hi8 hr).2 f5 c2), if_neg c2]
      · rintro (⟨hi8, hb⟩ | ⟨q, hq, eq⟩)
        · refine ⟨hi8, ?_⟩
          unfold clB at hb
          by_cases c1 : nI i = nI h
          · rw [if_pos c1] at hb; exact absurd hb (by decide)
          rw [if_neg c1] at hb ⊢
          by_cases c0 : v_X5_lockOf m i r ≤ 0
          · rw [if_pos c0] at hb; exact absurd hb (by decide)
          rw [if_neg c0] at hb
          by_cases c2 : v_X5_lockOf m i r + cl M g 2 h ≤ 3
          · rw [if_pos c2] at hb; exact absurd hb (by decide)
          · rw [if_pos c2]
        · obtain ⟨h2, b1, b2, b3, b4, _⟩ := kn q (by omega)
          rw [eq] at b2
          obtain rfl := (nI_eq (by omega) (by omega)).mp b2
          refine ⟨b1, ?_⟩
          have c1 : ¬ nI i = nI h := by
            intro c
            obtain rfl := (nI_eq (by omega) (by omega)).mp c
            rw [e2] at b4
            have := (nI_eq (by omega) (by omega)).mp b4
            omega
          rw [if_neg c1, if_neg (show ¬ ¬ cl M g 1 i = nI r from fun q => q b3), b4, if_neg (nI_ge hq (by omega))]
          split <;> rfl
    · unfold b_X2_direct_1
      rw [a1, a2, a3, lock_R hR hj hr, at_in (k := 1) (show j < 8 from hj), at_in (k := 3) (show j < 8 from hj)]
      by_cases c1 : nI j = nI h
      · rw [if_pos c1, if_pos c1]; simp
      · rw [if_neg c1, if_neg c1]
        by_cases c2 : v_X5_lockOf m j r + cl M g 2 h ≤ 3
        · rw [if_pos c2, if_neg (show ¬ ¬ (0 : Int32) = 0 from fun q => q rfl), if_neg (show ¬ ¬ v_X5_lockOf m j r + cl M g 2 h ≤ 3 from fun q => q c2)]
          by_cases c3 : cl M g 1 j = nI r
          · rw [if_neg (show ¬ ¬ cl M g 1 j = nI r from fun q => q c3), if_neg (show ¬ ¬ cl M g 1 j = nI r from fun q => q c3)]
            by_cases c4 : nI p ≤ cl M g 3 j
            · rw [if_pos c4, if_pos c4, if_pos rfl]; simp
            · rw [if_neg c4, if_neg c4, if_neg (by decide), bit_or, bit_1 hi (by omega)]; simp
          · rw [if_pos c3, if_pos c3, if_pos rfl]; simp
        · rw [if_neg c2, if_pos (by decide), if_pos c2, bit_or, bit_1 hi (by omega)]; simp
end
end
section
/-! two ways to close a mask under the hands waited for -/
def sub (x y : Int32) : Prop := ∀ i, i < 32 → bit x i = true → bit y i = true
def low (x : Int32) : Prop := ∀ i, i < 32 → bit x i = true → i < 8
def clsd (D : Nat → Int32) (s : Int32) : Prop := ∀ o, o < 8 → bit s o = true → sub (D o) s
theorem sub_refl (x : Int32) : sub x x := fun _ _ h => h
theorem sub_trans {x y z : Int32} (h : sub x y) (h2 : sub y z) : sub x z := fun i hi q => h2 i hi (h i hi q)
theorem sub_or1 (x y : Int32) : sub x (x ||| y) := fun i _ h => by rw [bit_or, h]; rfl
theorem sub_or2 (x y : Int32) : sub y (x ||| y) := fun i _ h => by rw [bit_or, h, Bool.or_true]
theorem sub_or {x y z : Int32} (h : sub x z) (h2 : sub y z) : sub (x ||| y) z := fun i hi q => by
  rw [bit_or, Bool.or_eq_true] at q
  exact q.elim (h i hi) (h2 i hi)
theorem sub_anti {x y : Int32} (h : sub x y) (h2 : sub y x) : x = y := bit_ext (fun i hi => by
  rw [Bool.eq_iff_iff]
  exact ⟨h i hi, h2 i hi⟩)
def b1 (x : Int32) (i : Nat) : Nat := if bit x i = true then 1 else 0
def cnt (x : Int32) : Nat := b1 x 0 + b1 x 1 + b1 x 2 + b1 x 3 + b1 x 4 + b1 x 5 + b1 x 6 + b1 x 7
theorem b1_le (x : Int32) (i : Nat) : b1 x i ≤ 1 := by
  unfold b1; split <;> omega
theorem b1_mono {x y : Int32} (h : sub x y) (i : Nat) (hi : i < 32) : b1 x i ≤ b1 y i := by
  unfold b1
  by_cases c : bit x i = true
  · rw [if_pos c, if_pos (h i hi c)]; omega
  · rw [if_neg c]; omega
theorem cnt_le (x : Int32) : cnt x ≤ 8 := by
  unfold cnt
  have := b1_le x 0; have := b1_le x 1; have := b1_le x 2; have := b1_le x 3; have := b1_le x 4; have := b1_le x 5; have := b1_le x 6; have := b1_le x 7
  omega
theorem cnt_lt {x y : Int32} (h : sub x y) (hl : low y) (hne : ¬ y = x) : cnt x < cnt y := by
  have ex : ∃ i, i < 8 ∧ b1 x i = 0 ∧ b1 y i = 1 := by
    apply Classical.byContradiction
    intro no
    apply hne
    refine (sub_anti h (fun i hi q => ?_)).symm
    apply Classical.byContradiction
    intro c
    exact no ⟨i, hl i hi q, by unfold b1; rw [if_neg c], by unfold b1; rw [if_pos q]⟩
  obtain ⟨i, hi, e0, e1⟩ := ex
  unfold cnt
  have := b1_mono h 0 (by omega); have := b1_mono h 1 (by omega); have := b1_mono h 2 (by omega); have := b1_mono h 3 (by omega); have := b1_mono h 4 (by omega); have := b1_mono h 5 (by omega); have := b1_mono h 6 (by omega); have := b1_mono h 7 (by omega)
  rcases (show i = 0 ∨ i = 1 ∨ i = 2 ∨ i = 3 ∨ i = 4 ∨ i = 5 ∨ i = 6 ∨ i = 7 by omega) with rfl | rfl | rfl | rfl | rfl | rfl | rfl | rfl <;> omega
/-- a mask with no hand is closed, another counts -/
theorem clsd_or (D : Nat → Int32) (s : Int32) : clsd D s ∨ 0 < cnt s := by
  by_cases c : cnt s = 0
  · left
    intro o ho hb
    exfalso
    have e : b1 s o = 1 := by unfold b1; rw [if_pos hb]
    unfold cnt at c
    rcases (show o = 0 ∨ o = 1 ∨ o = 2 ∨ o = 3 ∨ o = 4 ∨ o = 5 ∨ o = 6 ∨ o = 7 by omega) with rfl | rfl | rfl | rfl | rfl | rfl | rfl | rfl <;> omega
  · right; omega
/-- a round that adds what is waited for by the hands of c: c may be a mask fixed, or the one that grows -/
def RD (D : Nat → Int32) (P : Int32 → Int32) : Prop := ∀ s, sub s (P s) ∧ (∀ o, o < 8 → bit s o = true → sub (D o) (P s)) ∧ (∀ S, clsd D S → sub s S → sub (P s) S) ∧ ((∀ o, o < 8 → low (D o)) → low s → low (P s))
theorem rd_fix {D : Nat → Int32} {P : Int32 → Int32} (h : RD D P) {s : Int32} (e : P s = s) : clsd D s := by
  intro o ho hb
  have := (h s).2.1 o ho hb
  rw [e] at this
  exact this
theorem rd_cl {D : Nat → Int32} {P : Int32 → Int32} (h : RD D P) {s : Int32} (c : clsd D s) : P s = s := sub_anti ((h s).2.2.1 s c (sub_refl s)) (h s).1
theorem rd_step {D : Nat → Int32} {P : Int32 → Int32} (h : RD D P) {s : Int32} {k : Nat} (hD : ∀ o, o < 8 → low (D o)) (hl : low s) (hk : clsd D s ∨ k < cnt s) : clsd D (P s) ∨ k + 1 < cnt (P s) := by
  rcases hk with c | c
  · left; rw [rd_cl h c]; exact c
  · by_cases e : P s = s
    · left; rw [e]; exact rd_fix h e
    · right
      have := cnt_lt (h s).1 ((h s).2.2.2 hD hl) e
      omega
/-- eight rounds close -/
theorem rd_lp {D : Nat → Int32} {P : Int32 → Int32} (h : RD D P) (hD : ∀ o, o < 8 → low (D o)) (s : Int32) (hl : low s) : clsd D (lp (fun _ t => P t) 8 0 s) ∧ sub s (lp (fun _ t => P t) 8 0 s) ∧ low (lp (fun _ t => P t) 8 0 s) ∧ ∀ S, clsd D S → sub s S → sub (lp (fun _ t => P t) 8 0 s) S := by
  have k := lp_inv (fun _ t => P t) 8 (fun j t => (clsd D t ∨ j < cnt t) ∧ sub s t ∧ low t ∧ ∀ S, clsd D S → sub s S → sub t S) (fun j t _ ht => ⟨rd_step h hD ht.2.2.1 ht.1, sub_trans ht.2.1 (h t).1, (h t).2.2.2 hD ht.2.2.1, fun S hS q => (h t).2.2.1 S hS (ht.2.2.2 S hS q)⟩) 8 0 s rfl ⟨clsd_or D s, sub_refl s, hl, fun _ _ q => q⟩
  refine ⟨?_, k.2⟩
  rcases k.1 with c | c
  · exact c
  · have := cnt_le (lp (fun _ t => P t) 8 0 s)
    omega
/-- rounds that stop when nothing is added -/
theorem rd_lq {D : Nat → Int32} {P : Int32 → Int32} (h : RD D P) (hD : ∀ o, o < 8 → low (D o)) (b : Nat → Int32 → Int32 ⊕ Int32) (hb : ∀ j t, b j t = if ¬ P t = t then .inl (P t) else .inr t) (s : Int32) : ∀ n j t, n + j = 8 → (clsd D t ∨ j < cnt t) → sub s t → low t → (∀ S, clsd D S → sub s S → sub t S) → clsd D (lqv (lq b n j t)) ∧ sub s (lqv (lq b n j t)) ∧ low (lqv (lq b n j t)) ∧ ∀ S, clsd D S → sub s S → sub (lqv (lq b n j t)) S := by
  intro n
  induction n with
  | zero =>
    intro j t e hk h1 h2 h3
    rw [lq_0]
    refine ⟨?_, h1, h2, h3⟩
    rcases hk with c | c
    · exact c
    · have := cnt_le t
      omega
  | succ n ih =>
    intro j t e hk h1 h2 h3
    by_cases c : P t = t
    · rw [lq_r (r := t) (by rw [hb, if_neg (fun q => q c)])]
      exact ⟨rd_fix h c, h1, h2, h3⟩
    · rw [lq_l (s2 := P t) (by rw [hb, if_pos c])]
      exact ih (j + 1) (P t) (by omega) (rd_step h hD h2 hk) (sub_trans h1 (h t).1) ((h t).2.2.2 hD h2) (fun S hS q => (h t).2.2.1 S hS (h3 S hS q))
end
section
/-! reach and waitsOver agree -/
theorem rd_of {D : Nat → Int32} (b : Int32 → Nat → Int32 → Int32) (H1 : ∀ s o t, o < 8 → sub t (b s o t)) (H2 : ∀ s o t, o < 8 → sub s t → bit s o = true → sub (D o) (b s o t)) (H3 : ∀ s o t S, o < 8 → clsd D S → sub s S → sub t S → sub (b s o t) S) (H4 : ∀ s o t, o < 8 → low (D o) → low t → low (b s o t)) : RD D (fun s => lp (b s) 8 0 s) := by
  intro s
  refine ⟨?_, fun o ho hb => ?_, fun S hS hs => ?_, fun hD hs => ?_⟩
  · exact lp_inv (b s) 8 (fun _ t => sub s t) (fun o t ho ht => sub_trans ht (H1 s o t ho)) 8 0 s rfl (sub_refl s)
  · have k := lp_inv (b s) 8 (fun j t => sub s t ∧ (o < j → sub (D o) t)) (fun j t hj ht => ⟨sub_trans ht.1 (H1 s j t hj), fun hlt => ?_⟩) 8 0 s rfl ⟨sub_refl s, fun q => absurd q (by omega)⟩
    · exact k.2 ho
    · by_cases c : o = j
      · subst c; exact H2 s o t hj ht.1 hb
      · exact sub_trans (ht.2 (by omega)) (H1 s j t hj)
  · exact lp_inv (b s) 8 (fun _ t => sub t S) (fun o t ho ht => H3 s o t S ho hS hs ht) 8 0 s rfl hs
  · exact lp_inv (b s) 8 (fun _ t => low t) (fun o t ho ht => H4 s o t ho (hD o ho) ht) 8 0 s rfl hs
theorem low_or {x y : Int32} (h : low x) (h2 : low y) : low (x ||| y) := fun i hi q => by
  rw [bit_or, Bool.or_eq_true] at q
  exact q.elim (h i hi) (h2 i hi)
/-- the model's round -/
def rdM (m : PM) (_ : Int32) (o : Nat) (t : Int32) : Int32 := t ||| (if ¬ ((t >>> ((nI o) &&& (31 : Int32))) &&& (1 : Int32)) = (1 : Int32) then (0 : Int32) else (v_X5_waitsNow m (nI o)))
theorem rdM_if (m : PM) (s : Int32) (o : Nat) (t : Int32) (ho : o < 8) : rdM m s o t = if bit t o = true then t ||| v_X5_waitsNow m (nI o) else t := by
  unfold rdM
  by_cases c : bit t o = true
  · rw [if_pos c, if_neg (show ¬ ¬ _ from fun q => q ((bit_q1 (by omega)).mpr c))]
  · rw [if_neg c, if_pos (show ¬ _ from fun q => c ((bit_q1 (by omega)).mp q)), Int32.or_zero]
theorem rd_M (m : PM) : RD (fun o => v_X5_waitsNow m (nI o)) (fun s => lp (rdM m s) 8 0 s) := by
  refine rd_of (rdM m) (fun s o t ho => ?_) (fun s o t ho hs hb => ?_) (fun s o t S ho hS _ ht => ?_) (fun s o t ho hD ht => ?_)
  · rw [rdM_if m s o t ho]
    split
    · exact sub_or1 _ _
    · exact sub_refl _
  · rw [rdM_if m s o t ho, if_pos (hs o (by omega) hb)]
    exact sub_or2 _ _
  · rw [rdM_if m s o t ho]
    by_cases c : bit t o = true
    · rw [if_pos c]
      exact sub_or ht (hS o ho (ht o (by omega) c))
    · rw [if_neg c]; exact ht
  · rw [rdM_if m s o t ho]
    split
    · exact low_or ht hD
    · exact ht
/-- the class's round -/
def rdC (M : PM) (g : Nat) (s : Int32) (o : Nat) (t : Int32) : Int32 := if (v_X4_has M s (nI o)) = 0 then t else (t ||| (v_X2_direct M g (nI o)))
theorem has_bit (M : PM) (s : Int32) {o : Nat} (ho : o < 32) : v_X4_has M s (nI o) = 0 ↔ ¬ bit s o = true := by
  unfold v_X4_has
  rw [bit_q ho]
  cases bit s o
  · simp
  · simp
theorem rd_C (M : PM) (g : Nat) : RD (fun o => v_X2_direct M g (nI o)) (fun s => lp (rdC M g s) 8 0 s) := by
  have e : ∀ s o t, o < 8 → rdC M g s o t = if bit s o = true then t ||| v_X2_direct M g (nI o) else t := by
    intro s o t ho
    unfold rdC
    by_cases c : bit s o = true
    · rw [if_pos c, if_neg (fun q => (has_bit M s (show o < 32 by omega)).mp q c)]
    · rw [if_neg c, if_pos ((has_bit M s (show o < 32 by omega)).mpr c)]
  refine rd_of (rdC M g) (fun s o t ho => ?_) (fun s o t ho hs hb => ?_) (fun s o t S ho hS hs ht => ?_) (fun s o t ho hD ht => ?_)
  · rw [e s o t ho]
    split
    · exact sub_or1 _ _
    · exact sub_refl _
  · rw [e s o t ho, if_pos hb]
    exact sub_or2 _ _
  · rw [e s o t ho]
    by_cases c : bit s o = true
    · rw [if_pos c]
      exact sub_or ht (hS o ho (hs o (by omega) c))
    · rw [if_neg c]; exact ht
  · rw [e s o t ho]
    split
    · exact low_or ht hD
    · exact ht
section
variable {M m : PM} {g : Nat}
theorem low_direct (hR : RG M m g) {h : Nat} (hh : h < 8) : low (v_X5_waitsNow m (nI h)) := by
  intro i hi q
  unfold v_X5_waitsNow at q
  by_cases c : v_X5_rowOf m (nI h) = -1
  · rw [if_pos c, bit_0] at q; exact absurd q (by decide)
  · rw [if_neg c] at q
    obtain ⟨e1, hr, hp0⟩ := row_N c
    have hQ := ql_of (rq_qa hR.2)
    obtain ⟨e2, hp, hp2, _⟩ := plc_N hQ hr hp0
    have qv := rq_qa hR.2 _ hr
    rw [bit_who m _ _ (fun p hp3 => qv.2.2 p (by omega)) _ 0 _ (Nat.add_zero _) i hi] at q
    rcases q with q | ⟨p, _, hp3, e⟩
    · rw [bit_clash m _ _ _ i hi, Bool.and_eq_true, decide_eq_true_eq] at q
      exact q.1
    · obtain ⟨h2, a, b⟩ := qv.2.2 p (by omega)
      rw [e] at b
      have := (nI_eq (by omega) (by omega)).mp b
      omega
theorem reach_R (hR : RG M m g) {h : Nat} (hh : h < 8) : v_X2_reach M g (nI h) = v_X5_waitsOver m (nI h) := by
  have eD : ∀ o, o < 8 → v_X2_direct M g (nI o) = v_X5_waitsNow m (nI o) := fun o ho => direct_R hR ho
  have hl := low_direct hR hh
  have eM : v_X5_waitsOver m (nI h) = lp (fun _ t => lp (rdM m t) 8 0 t) 8 0 (v_X5_waitsNow m (nI h)) := rfl
  have kM := rd_lp (rd_M m) (fun o ho => low_direct hR ho) (v_X5_waitsNow m (nI h)) hl
  have kC := rd_lq (rd_C M g) (fun o ho => by show low (v_X2_direct M g (nI o)); rw [eD o ho]; exact low_direct hR ho) (b_X2_reach_1 M g (nI h)) (fun j t => rfl) (v_X2_direct M g (nI h)) 8 0 (v_X2_direct M g (nI h)) rfl (clsd_or _ _) (sub_refl _) (by rw [eD h hh]; exact hl) (fun _ _ q => q)
  have cc : ∀ S, clsd (fun o => v_X5_waitsNow m (nI o)) S ↔ clsd (fun o => v_X2_direct M g (nI o)) S := by
    intro S
    constructor
    · intro q o ho hb
      show sub (v_X2_direct M g (nI o)) S
      rw [eD o ho]; exact q o ho hb
    · intro q o ho hb
      show sub (v_X5_waitsNow m (nI o)) S
      rw [← eD o ho]; exact q o ho hb
  rw [eM]
  unfold v_X2_reach
  refine sub_anti ?_ ?_
  · exact kC.2.2.2 _ ((cc _).mp kM.1) (by rw [eD h hh]; exact kM.2.1)
  · exact kM.2.2.2 _ ((cc _).mpr kC.1) (by rw [← eD h hh]; exact kC.2.1)
end
end
section
/-! the loser, the hands waited for, the takers -/
theorem lp_rel {σ τ : Type} (f : Nat → σ → σ) (f2 : Nat → τ → τ) (N : Nat) (C : Nat → σ → τ → Prop) (step : ∀ j s t, j < N → C j s t → C (j + 1) (f j s) (f2 j t)) : ∀ n j s t, n + j = N → C j s t → C N (lp f n j s) (lp f2 n j t) := by
  intro n
  induction n with
  | zero =>
    intro j s t e h
    obtain rfl : j = N := by omega
    rw [lp_0, lp_0]; exact h
  | succ n ih =>
    intro j s t e h
    rw [lp_s, lp_s]
    exact ih (j + 1) _ _ (by omega) (step j s t (by omega) h)
section
variable {M m : PM} {g : Nat}
theorem inRing_bit (m : PM) {h : Nat} (hh : h < 8) : v_X5_isInRing m (nI h) = 0 ↔ ¬ bit (v_X5_waitsOver m (nI h)) h = true := by
  unfold v_X5_isInRing
  by_cases c : bit (v_X5_waitsOver m (nI h)) h = true
  · rw [if_neg (show ¬ ¬ _ from fun q => q ((bit_q1 (by omega)).mpr c))]
    exact ⟨fun q => absurd q (by decide), fun q => absurd c q⟩
  · rw [if_pos (show ¬ _ from fun q => c ((bit_q1 (by omega)).mp q))]
    exact ⟨fun _ => c, fun _ => rfl⟩
theorem loser_R (hR : RG M m g) {h : Nat} (hh : h < 8) : v_X2_loserFor M g (nI h) = if v_X5_isInRing m (nI h) = 0 then -1 else v_X5_loserFor m (nI h) := by
  unfold v_X2_loserFor
  by_cases c : v_X5_isInRing m (nI h) = 0
  · rw [if_pos c, if_neg]
    rw [reach_R hR hh]
    exact fun q => q ((has_bit M _ (show h < 32 by omega)).mpr ((inRing_bit m hh).mp c))
  · rw [if_neg c, if_pos]
    · have k := lp_rel (b_X2_loserFor_1 M g (nI h)) (b_X5_loserFor_1 m (nI h)) 8 (fun _ s t => s.1 = t ∧ (t = -1 ∨ ∃ l, l < 8 ∧ t = nI l ∧ s.2 = v_X5_workOf m l)) (fun j s t hj hs => ?_) 8 0 ((-1 : Int32), (0 : Int32)) (-1) rfl ⟨rfl, Or.inl rfl⟩
      · exact k.1
      · obtain ⟨s1, s2⟩ := s
        obtain ⟨rfl, hs⟩ := hs
        unfold b_X2_loserFor_1 b_X5_loserFor_1
        dsimp only at hs ⊢
        rw [reach_R hR hh, reach_R hR hj, work_R hR hj]
        by_cases c1 : bit (v_X5_waitsOver m (nI h)) j = true
        · have d1 : ¬ v_X4_has M (v_X5_waitsOver m (nI h)) (nI j) = 0 := fun q => (has_bit M _ (show j < 32 by omega)).mp q c1
          rw [if_neg d1, if_neg d1, if_pos ((bit_q1 (show j < 32 by omega)).mpr c1)]
          by_cases c2 : bit (v_X5_waitsOver m (nI j)) h = true
          · have d2 : ¬ v_X4_has M (v_X5_waitsOver m (nI j)) (nI h) = 0 := fun q => (has_bit M _ (show h < 32 by omega)).mp q c2
            rw [if_neg d2, if_neg d2, if_pos ((bit_q1 (show h < 32 by omega)).mpr c2)]
            by_cases c3 : s1 = -1
            · rw [if_pos c3, if_pos c3, if_pos c3]
              exact ⟨rfl, Or.inr ⟨j, hj, rfl, rfl⟩⟩
            · rw [if_neg c3, if_neg c3, if_neg c3]
              rcases hs with e | ⟨l, hl, e, e2⟩
              · exact absurd e c3
              · rw [e, nI_clamp (show l < 2 ^ 31 by omega), e2]
                by_cases c4 : v_X5_workOf m l < v_X5_workOf m j
                · rw [if_pos c4, if_pos c4]
                  exact ⟨rfl, Or.inr ⟨l, hl, rfl, rfl⟩⟩
                · rw [if_neg c4, if_neg c4]
                  exact ⟨rfl, Or.inr ⟨j, hj, rfl, rfl⟩⟩
          · have d2 : v_X4_has M (v_X5_waitsOver m (nI j)) (nI h) = 0 := (has_bit M _ (show h < 32 by omega)).mpr c2
            rw [if_pos d2, if_pos d2, if_neg (show ¬ _ from fun q => c2 ((bit_q1 (show h < 32 by omega)).mp q))]
            exact ⟨rfl, hs⟩
        · have d1 : v_X4_has M (v_X5_waitsOver m (nI h)) (nI j) = 0 := (has_bit M _ (show j < 32 by omega)).mpr c1
          rw [if_pos d1, if_pos d1, if_neg (show ¬ _ from fun q => c1 ((bit_q1 (show j < 32 by omega)).mp q))]
          exact ⟨rfl, hs⟩
    · rw [reach_R hR hh]
      intro q
      exact c ((inRing_bit m hh).mpr ((has_bit M _ (show h < 32 by omega)).mp q))
end
end
section
/-! clashes -/
theorem bit_m1 : ∀ i, i < 32 → bit (-1) i = true := by decide
theorem bit_not (x : Int32) (i : Nat) (hi : i < 32) : bit (x ^^^ (-1 : Int32)) i = !bit x i := by
  have e := bit_m1 i hi
  unfold bit at e ⊢
  rw [Int32.toBitVec_xor, BitVec.getLsbD_xor, e]
  simp
theorem lq_any (b : Nat → Unit → Unit ⊕ Int32) (P : Nat → Prop) (N : Nat) (hb : ∀ j, j < N → (P j ∧ b j () = .inr 1) ∨ (¬ P j ∧ b j () = .inl ())) : ∀ n j, n + j = N → (lqr (fun _ : Unit => (0 : Int32)) (lq b n j ()) = 0 ↔ ∀ q, j ≤ q → q < N → ¬ P q) ∧ (lqr (fun _ : Unit => (0 : Int32)) (lq b n j ()) = 0 ∨ lqr (fun _ : Unit => (0 : Int32)) (lq b n j ()) = 1) := by
  intro n
  induction n with
  | zero =>
    intro j e
    rw [lq_0]
    exact ⟨⟨fun _ q h1 h2 => by omega, fun _ => rfl⟩, Or.inl rfl⟩
  | succ n ih =>
    intro j e
    rcases hb j (by omega) with ⟨hP, h⟩ | ⟨hP, h⟩
    · rw [lq_r h]
      refine ⟨⟨fun q => absurd q (by decide), fun q => absurd hP (q j (Nat.le_refl _) (by omega))⟩, Or.inr rfl⟩
    · rw [lq_l h]
      have k := ih (j + 1) (by omega)
      refine ⟨⟨fun q i h1 h2 => ?_, fun q => k.1.mpr (fun i h1 h2 => q i (by omega) h2)⟩, k.2⟩
      by_cases c : i = j
      · rw [c]; exact hP
      · exact k.1.mp q i (by omega) h2
theorem clash_0' {x md : Int32} (hx : x = 0 ∨ MO x) (hm : MO md) (h : x ≤ 0) : x + md ≤ 3 := Classical.byContradiction fun c => clash_0 hx hm c h
section
variable {M m : PM} {g : Nat}
theorem clashes_iff (hR : RG M m g) {r a b : Nat} {md : Int32} (hr : r < 12) (ha : a < 8) (hb : b < 8) : v_X2_clashes M g (nI r) md (nI a) (nI b) = 0 ↔ ∀ j, j < 8 → ¬ (¬ j = a ∧ ¬ j = b ∧ ¬ v_X5_lockOf m j r + md ≤ 3) := by
  unfold v_X2_clashes
  have k := (lq_any (b_X2_clashes_1 M g (nI r) md (nI a) (nI b)) (fun j => ¬ j = a ∧ ¬ j = b ∧ ¬ v_X5_lockOf m j r + md ≤ 3) 8 (fun j hj => ?_) 8 0 rfl).1
  · refine k.trans ⟨fun q j hj => q j (Nat.zero_le _) hj, fun q j _ hj => q j hj⟩
  · unfold b_X2_clashes_1
    rw [lock_R hR hj hr]
    by_cases c1 : j = a
    · right; subst c1; exact ⟨fun q => q.1 rfl, if_pos rfl⟩
    · rw [if_neg (show ¬ nI j = nI a from fun e => c1 ((nI_eq (by omega) (by omega)).mp e))]
      by_cases c2 : j = b
      · right; subst c2; exact ⟨fun q => q.2.1 rfl, if_pos rfl⟩
      · rw [if_neg (show ¬ nI j = nI b from fun e => c2 ((nI_eq (by omega) (by omega)).mp e))]
        by_cases c3 : v_X5_lockOf m j r + md ≤ 3
        · right; exact ⟨fun q => q.2.2 c3, if_pos c3⟩
        · left; exact ⟨⟨c1, c2, c3⟩, if_neg c3⟩
theorem clB_iff (hR : RG M m g) {r b : Nat} {md : Int32} (hr : r < 12) (hb : b < 8) (hm : MO md) {j : Nat} (hj : j < 8) : clB m r md (nI b) j = true ↔ ¬ j = b ∧ ¬ v_X5_lockOf m j r + md ≤ 3 := by
  unfold clB
  by_cases c1 : j = b
  · subst c1
    rw [if_pos rfl]
    exact ⟨fun q => absurd q (by decide), fun q => absurd rfl q.1⟩
  · rw [if_neg (show ¬ nI j = nI b from fun e => c1 ((nI_eq (by omega) (by omega)).mp e))]
    by_cases c2 : v_X5_lockOf m j r ≤ 0
    · rw [if_pos c2]
      exact ⟨fun q => absurd q (by decide), fun q => absurd (clash_0' (hR.1 j r hj hr).2 hm c2) q.2⟩
    · rw [if_neg c2]
      by_cases c3 : v_X5_lockOf m j r + md ≤ 3
      · rw [if_pos c3]
        exact ⟨fun q => absurd q (by decide), fun q => absurd c3 q.2⟩
      · rw [if_neg c3]
        exact ⟨fun _ => ⟨c1, c3⟩, fun _ => rfl⟩
theorem clash_R (hR : RG M m g) {r b : Nat} {md : Int32} (hr : r < 12) (hb : b < 8) (hm : MO md) : v_X2_clashes M g (nI r) md (nI b) (nI b) = 0 ↔ v_X5_clashing m r md (nI b) = 0 := by
  rw [clashes_iff hR hr hb hb]
  constructor
  · intro q
    apply bit_ext
    intro i hi
    rw [bit_clash m r md (nI b) i hi, bit_0]
    by_cases h8 : i < 8
    · cases hc : clB m r md (nI b) i
      · simp
      · have := (clB_iff hR hr hb hm h8).mp hc
        exact absurd ⟨this.1, this.1, this.2⟩ (q i h8)
    · simp [h8]
  · intro e j hj q
    have k := bit_clash m r md (nI b) j (by omega)
    rw [e, bit_0, (clB_iff hR hr hb hm hj).mpr ⟨q.1, q.2.2⟩, decide_eq_true hj] at k
    exact absurd k (by decide)
theorem clash_R2 (hR : RG M m g) {r a b : Nat} {md : Int32} (hr : r < 12) (ha : a < 8) (hb : b < 8) (hm : MO md) : v_X2_clashes M g (nI r) md (nI a) (nI b) = 0 ↔ (v_X5_clashing m r md (nI b)) &&& (((1 : Int32) <<< (nI a &&& (31 : Int32))) ^^^ (-1 : Int32)) = 0 := by
  rw [clashes_iff hR hr ha hb]
  constructor
  · intro q
    apply bit_ext
    intro i hi
    rw [bit_and, bit_not _ _ hi, bit_1 hi (by omega), bit_clash m r md (nI b) i hi, bit_0]
    by_cases h8 : i < 8
    · cases hc : clB m r md (nI b) i
      · simp
      · have k := (clB_iff hR hr hb hm h8).mp hc
        by_cases ca : i = a
        · simp [ca]
        · exact absurd ⟨ca, k.1, k.2⟩ (q i h8)
    · simp [h8]
  · intro e j hj q
    have k := bit_and (v_X5_clashing m r md (nI b)) (((1 : Int32) <<< (nI a &&& (31 : Int32))) ^^^ (-1 : Int32)) j
    rw [e, bit_0, bit_not _ _ (by omega), bit_1 (show j < 32 by omega) (by omega), bit_clash m r md (nI b) j (by omega), (clB_iff hR hr hb hm hj).mpr ⟨q.2.1, q.2.2⟩, decide_eq_true hj, decide_eq_false q.1] at k
    exact absurd k (by decide)
end
end
section
/-! takers -/
section
variable {M m : PM} {g : Nat}
theorem placeIn_0 (hR : RG M m g) {h r : Nat} (hh : h < 8) (hr : r < 12) : v_X5_placeIn m (nI h) r = -1 ↔ ¬ cl M g 1 h = nI r := by
  rw [placeIn_R hR.2 hh hr]
  by_cases c : cl M g 1 h = nI r
  · rw [if_pos c]
    exact ⟨fun q => absurd q (rp_nn hR.2 hh c hr), fun q => absurd c q⟩
  · rw [if_neg c]
    exact ⟨fun _ => c, fun _ => rfl⟩
/-- the mode of the request of a hand that waits for row r -/
theorem mode_R (hR : RG M m g) {h r : Nat} (hh : h < 8) (hr : r < 12) (c : cl M g 1 h = nI r) : v_X5_modeAt m r (plcN m (nI h) r) = cl M g 2 h ∧ MO (cl M g 2 h) := by
  rcases hR.2.2 h hh with ⟨a, _⟩ | ⟨r2, n, p, h1, h2, h3, h4, h5, h6, h7⟩
  · rw [c] at a; exact absurd a (nI_nm1 (by omega))
  · rw [c] at h5
    obtain rfl := (nI_eq (by omega) (by omega)).mp h5
    have eP : plcN m (nI h) r = p := by unfold plcN; rw [placeIn_R hR.2 hh hr, if_pos c, h6]; exact nI_clamp (by omega)
    rw [eP]
    obtain ⟨n2, hn2, en2, kn⟩ := hR.2.1 r hr
    rw [h2] at en2
    obtain rfl := (nI_eq (by omega) (by omega)).mp en2
    obtain ⟨h8, hh8, f1, f2, f3, f4, f5⟩ := kn p h4
    rw [h7] at f1
    obtain rfl := (nI_eq (by omega) (by omega)).mp f1
    exact ⟨f4.symm, f5⟩
theorem canHandOn_R (hR : RG M m g) {h r o : Nat} (hh : h < 8) (hr : r < 12) (ho : o < 8) : v_X2_canPassOver M g (nI h) (nI r) (nI o) = v_X5_canHandOn m h r (nI o) := by
  unfold v_X2_canPassOver v_X5_canHandOn
  rw [canRelease_R hR hh hr, at_in (k := 1) (show o < 8 from ho), at_in (k := 2) (show o < 8 from ho)]
  by_cases c1 : v_X5_canRelease m h r = 0
  · rw [if_pos c1, if_pos c1]
  · rw [if_neg c1, if_neg c1]
    by_cases c2 : nI h = nI o
    · rw [if_pos c2, if_pos c2]
    · rw [if_neg c2, if_neg c2]
      by_cases c3 : cl M g 1 o = nI r
      · rw [if_neg (show ¬ ¬ cl M g 1 o = nI r from fun q => q c3), if_pos (show ¬ v_X5_placeIn m (nI o) r = -1 from fun q => (placeIn_0 hR ho hr).mp q c3)]
        obtain ⟨e, hm⟩ := mode_R hR ho hr c3
        rw [e]
        by_cases c4 : v_X2_clashes M g (nI r) (cl M g 2 o) (nI h) (nI o) = 0
        · rw [if_neg (show ¬ ¬ _ from fun q => q c4), if_neg (show ¬ ¬ _ from fun q => q ((clash_R2 hR hr hh ho hm).mp c4))]
        · rw [if_pos c4, if_pos (show ¬ _ from fun q => c4 ((clash_R2 hR hr hh ho hm).mpr q))]
      · rw [if_pos c3, if_neg (show ¬ ¬ _ from fun q => q ((placeIn_0 hR ho hr).mpr c3))]
theorem takers_R (hR : RG M m g) {h r : Nat} (hh : h < 8) (hr : r < 12) : v_X2_takersOf M g (nI h) (nI r) = v_X5_takersNow m h r := by
  unfold v_X2_takersOf v_X5_takersNow
  refine lp_cong 8 (fun j s hj => ?_) 8 0 0 rfl
  unfold b_X2_takersOf_1 b_X5_takersNow_1
  rw [canHandOn_R hR hh hr hj]
  split
  · exact Int32.or_zero.symm
  · rfl
end
end
section
/-! the hand at a place -/
theorem lq_first (b : Nat → Unit → Unit ⊕ Int32) (P : Nat → Prop) (N : Nat) (hb : ∀ j, j < N → (P j ∧ b j () = .inr (nI j)) ∨ (¬ P j ∧ b j () = .inl ())) : ∀ n j, n + j = N → (lqr (fun _ : Unit => (-1 : Int32)) (lq b n j ()) = -1 ∧ ∀ q, j ≤ q → q < N → ¬ P q) ∨ ∃ q, q < N ∧ P q ∧ lqr (fun _ : Unit => (-1 : Int32)) (lq b n j ()) = nI q := by
  intro n
  induction n with
  | zero =>
    intro j e
    rw [lq_0]
    exact Or.inl ⟨rfl, fun q h1 h2 => by omega⟩
  | succ n ih =>
    intro j e
    rcases hb j (by omega) with ⟨hP, h⟩ | ⟨hP, h⟩
    · rw [lq_r h]
      exact Or.inr ⟨j, by omega, hP, rfl⟩
    · rw [lq_l h]
      rcases ih (j + 1) (by omega) with ⟨a, c⟩ | a
      · refine Or.inl ⟨a, fun q h1 h2 => ?_⟩
        by_cases cq : q = j
        · rw [cq]; exact hP
        · exact c q (by omega) h2
      · exact Or.inr a
section
variable {M m : PM} {g : Nat}
theorem handAt_or (M : PM) (g r p : Nat) : (v_X2_handAt M g (nI r) (nI p) = -1 ∧ ∀ h, h < 8 → ¬ (cl M g 1 h = nI r ∧ cl M g 3 h = nI p)) ∨ ∃ h, h < 8 ∧ (cl M g 1 h = nI r ∧ cl M g 3 h = nI p) ∧ v_X2_handAt M g (nI r) (nI p) = nI h := by
  have hb : ∀ j, j < 8 → ((cl M g 1 j = nI r ∧ cl M g 3 j = nI p) ∧ b_X2_handAt_1 M g (nI r) (nI p) j () = .inr (nI j)) ∨ (¬ (cl M g 1 j = nI r ∧ cl M g 3 j = nI p) ∧ b_X2_handAt_1 M g (nI r) (nI p) j () = .inl ()) := by
    intro j hj
    unfold b_X2_handAt_1
    rw [at_in (k := 1) (show j < 8 from hj), at_in (k := 3) (show j < 8 from hj)]
    by_cases c1 : cl M g 1 j = nI r
    · rw [if_neg (show ¬ ¬ cl M g 1 j = nI r from fun q => q c1)]
      by_cases c2 : cl M g 3 j = nI p
      · rw [if_neg (show ¬ ¬ cl M g 3 j = nI p from fun q => q c2)]
        exact Or.inl ⟨⟨c1, c2⟩, rfl⟩
      · rw [if_pos c2]
        exact Or.inr ⟨fun q => c2 q.2, rfl⟩
    · rw [if_pos c1]
      exact Or.inr ⟨fun q => c1 q.1, rfl⟩
  unfold v_X2_handAt
  rcases lq_first (b_X2_handAt_1 M g (nI r) (nI p)) (fun h => cl M g 1 h = nI r ∧ cl M g 3 h = nI p) 8 hb 8 0 rfl with ⟨a, b⟩ | a
  · exact Or.inl ⟨a, fun h hh => b h (Nat.zero_le _) hh⟩
  · exact Or.inr a
theorem handAt_R (hR : RG M m g) {r p : Nat} (hr : r < 12) (hp : p < 8) : v_X2_handAt M g (nI r) (nI p) = if p < qn m r then zz m (137 + 8 * r + p) else -1 := by
  obtain ⟨n, hn, en, kn⟩ := hR.2.1 r hr
  have eq : qn m r = n := by unfold qn; rw [en]; exact nI_clamp (by omega)
  rw [eq]
  rcases handAt_or M g r p with ⟨a, b⟩ | ⟨h, hh, ⟨c1, c2⟩, e⟩
  · rw [a]
    by_cases c : p < n
    · obtain ⟨h, hh, _, f2, f3, _⟩ := kn p c
      exact absurd ⟨f2, f3⟩ (b h hh)
    · rw [if_neg c]
  · rw [e]
    rcases hR.2.2 h hh with ⟨a, _⟩ | ⟨r2, n2, p2, h1, h2, h3, h4, h5, h6, h7⟩
    · rw [c1] at a; exact absurd a (nI_nm1 (by omega))
    · rw [c1] at h5
      obtain rfl := (nI_eq (by omega) (by omega)).mp h5
      rw [c2] at h6
      obtain rfl := (nI_eq (by omega) (by omega)).mp h6
      rw [en] at h2
      obtain rfl := (nI_eq (by omega) (by omega)).mp h2
      rw [if_pos h4, h7]
end
end
section
/-! requests, and how many hands stand in a row -/
section
variable {M m : PM} {g : Nat}
theorem request_R (hR : RG M m g) {r p : Nat} (hr : r < 12) (hp : p < 8) (w : Int32) : v_X2_requestPart M g (nI r) (nI p) w = v_X5_requestNow m r p w := by
  obtain ⟨n, hn, en, kn⟩ := hR.2.1 r hr
  have eq : qn m r = n := by unfold qn; rw [en]; exact nI_clamp (by omega)
  unfold v_X2_requestPart v_X5_requestNow
  rw [handAt_R hR hr hp, eq, show m.1 8 0 0 (125 + r) = nI n from en]
  by_cases c : p < n
  · obtain ⟨h, hh, f1, f2, f3, f4, f5⟩ := kn p c
    rw [if_pos c, if_pos (nI_lt c (by omega)), f1, if_neg (nI_nm1 (by omega)), at_in (k := 2) (show h < 8 from hh), f4]
    unfold v_X5_modeAt v_X5_whoAt
    rw [show m.1 8 0 0 (137 + 8 * r + p) = nI h from f1]
    rfl
  · rw [if_neg c, if_pos rfl, if_neg (nI_nlt (by omega) (by omega))]
end
/-- how many of the first N hands do -/
def cntP (P : Nat → Bool) : Nat → Nat
  | 0 => 0
  | N + 1 => cntP P N + (if P N then 1 else 0)
theorem cntP_0 (P : Nat → Bool) : ∀ N, (∀ h, h < N → P h = false) → cntP P N = 0 := by
  intro N
  induction N with
  | zero => intro _; rfl
  | succ N ih =>
    intro h
    unfold cntP
    rw [ih (fun q hq => h q (by omega)), h N (by omega)]
    rfl
theorem cntP_rm (P : Nat → Bool) (x : Nat) (hx : P x = true) : ∀ N, cntP P N = cntP (fun h => P h && !decide (h = x)) N + (if x < N then 1 else 0) := by
  intro N
  induction N with
  | zero => rfl
  | succ N ih =>
    unfold cntP
    rw [ih]
    by_cases c : N = x
    · subst c
      rw [if_neg (Nat.lt_irrefl _), if_pos (Nat.lt_succ_self _), hx]
      simp
    · by_cases c2 : x < N
      · rw [if_pos c2, if_pos (show x < N + 1 by omega)]
        simp [c]
        omega
      · rw [if_neg c2, if_neg (show ¬ x < N + 1 by omega)]
        simp [c]
/-- as many hands as places -/
theorem cntP_n (N : Nat) : ∀ (n : Nat) (P : Nat → Bool) (w : Nat → Nat), (∀ p, p < n → w p < N ∧ P (w p) = true) → (∀ p q, p < n → q < n → w p = w q → p = q) → (∀ h, h < N → P h = true → ∃ p, p < n ∧ w p = h) → cntP P N = n := by
  intro n
  induction n with
  | zero =>
    intro P w _ _ h3
    refine cntP_0 P N (fun h hh => ?_)
    cases c : P h
    · rfl
    · obtain ⟨p, hp, _⟩ := h3 h hh c
      omega
  | succ n ih =>
    intro P w h1 h2 h3
    have a := h1 n (by omega)
    rw [cntP_rm P (w n) a.2 N, if_pos a.1]
    have k := ih (fun h => P h && !decide (h = w n)) w (fun p hp => ⟨(h1 p (by omega)).1, by
      have : ¬ w p = w n := fun e => by have := h2 p n (by omega) (by omega) e; omega
      simp [(h1 p (by omega)).2, this]⟩) (fun p q hp hq e => h2 p q (by omega) (by omega) e) (fun h hh hP => by
      rw [Bool.and_eq_true] at hP
      obtain ⟨p, hp, e⟩ := h3 h hh hP.1
      refine ⟨p, ?_, e⟩
      by_cases c : p = n
      · subst c
        have := hP.2
        rw [e] at this
        simp at this
      · omega)
    rw [k]
end
section
/-! a queue's length -/
section
variable {M m : PM} {g : Nat}
theorem queueLength_R (hR : RG M m g) {r : Nat} (hr : r < 12) : v_X2_queueLength M g (nI r) = nI (qn m r) ∧ zz m (125 + r) = nI (qn m r) := by
  obtain ⟨n, hn, en, kn⟩ := hR.2.1 r hr
  have eq : qn m r = n := by unfold qn; rw [en]; exact nI_clamp (by omega)
  rw [eq]
  refine ⟨?_, en⟩
  have k := lp_inv (b_X2_queueLength_1 M g (nI r)) 8 (fun j s => s = nI (cntP (fun h => decide (cl M g 1 h = nI r)) j)) (fun j s hj hs => ?_) 8 0 0 rfl rfl
  · have c : cntP (fun h => decide (cl M g 1 h = nI r)) 8 = n := by
      refine cntP_n 8 n _ (fun p => (zz m (137 + 8 * r + p)).toNatClampNeg) (fun p hp => ?_) (fun p q hp hq e => ?_) (fun h hh hP => ?_)
      · obtain ⟨h, hh, f1, f2, _⟩ := kn p hp
        have e : (zz m (137 + 8 * r + p)).toNatClampNeg = h := by rw [f1]; exact nI_clamp (by omega)
        show (zz m (137 + 8 * r + p)).toNatClampNeg < 8 ∧ _
        rw [e]
        exact ⟨hh, decide_eq_true f2⟩
      · obtain ⟨h, hh, f1, f2, f3, _⟩ := kn p hp
        obtain ⟨h2, hh2, g1, g2, g3, _⟩ := kn q hq
        have e : (zz m (137 + 8 * r + p)).toNatClampNeg = (zz m (137 + 8 * r + q)).toNatClampNeg := e
        rw [f1, g1, nI_clamp (by omega), nI_clamp (by omega)] at e
        subst e
        rw [f3] at g3
        exact (nI_eq (by omega) (by omega)).mp g3
      · have hP : cl M g 1 h = nI r := of_decide_eq_true hP
        rcases hR.2.2 h hh with ⟨a, _⟩ | ⟨r2, n2, p2, h1, h2, h3, h4, h5, h6, h7⟩
        · rw [hP] at a; exact absurd a (nI_nm1 (by omega))
        · rw [hP] at h5
          obtain rfl := (nI_eq (by omega) (by omega)).mp h5
          rw [en] at h2
          obtain rfl := (nI_eq (by omega) (by omega)).mp h2
          refine ⟨p2, h4, ?_⟩
          show (zz m (137 + 8 * r + p2)).toNatClampNeg = h
          rw [h7]
          exact nI_clamp (by omega)
    unfold v_X2_queueLength
    rw [k, c]
  · unfold b_X2_queueLength_1 cntP
    rw [at_in (k := 1) (show j < 8 from hj), hs]
    by_cases c : cl M g 1 j = nI r
    · rw [if_neg (show ¬ ¬ cl M g 1 j = nI r from fun q => q c), nI_1, if_pos (decide_eq_true c)]
    · rw [if_pos c, if_neg (show ¬ decide (cl M g 1 j = nI r) = true from fun q => c (of_decide_eq_true q))]
      rfl
end
end
section
/-! held rows -/
theorem low_nn {x : Int32} (h : low x) : x ≤ 0 ↔ x = 0 := by
  constructor
  · intro q
    have hm : x.toBitVec.msb = false := by
      rw [BitVec.msb_eq_getLsbD_last]
      cases c : x.toBitVec.getLsbD (32 - 1)
      · rfl
      · have := h 31 (by omega) c
        omega
    rw [Int32.le_iff_toInt_le] at q
    have z : (0 : Int32).toInt = 0 := rfl
    rw [z] at q
    have n : 0 ≤ x.toBitVec.toInt := BitVec.toInt_nonneg_of_msb_false hm
    have e : x.toInt = x.toBitVec.toInt := rfl
    apply Int32.toInt_inj.mp
    rw [z]
    omega
  · intro q
    rw [q]
    decide
section
variable {M m : PM} {g : Nat}
theorem low_holders (m : PM) (r : Nat) : low (v_X5_holders m r) := by
  refine lp_inv (b_X5_holders_1 m r) 8 (fun _ s => low s) (fun j s hj hs => ?_) 8 0 0 rfl (fun i hi q => by rw [bit_0] at q; exact absurd q (by decide))
  unfold b_X5_holders_1
  refine low_or hs ?_
  split
  · intro i hi q
    rw [bit_0] at q; exact absurd q (by decide)
  · intro i hi q
    rw [bit_1 hi (by omega), decide_eq_true_eq] at q
    omega
theorem heldRows_R (hR : RG M m g) : v_X2_heldRows M g = v_X5_heldRows m := by
  unfold v_X2_heldRows v_X5_heldRows
  refine lp_cong 12 (fun j s hj => ?_) 12 0 0 rfl
  unfold b_X2_heldRows_1 b_X5_heldRows_1
  rw [holders_R hR hj]
  by_cases c : v_X5_holders m j = 0
  · rw [if_pos c, if_pos ((low_nn (low_holders m j)).mpr c), Int32.add_zero]
  · rw [if_neg c, if_neg (show ¬ _ from fun q => c ((low_nn (low_holders m j)).mp q))]
end
end
section
/-! a row's getters -/
section
variable {M m : PM} {g : Nat}
theorem cool_R (hR : RG M m g) {r : Nat} (hr : r < 12) : v_X2_holders M g (nI r) = 0 ↔ v_X5_holders m r = 0 := by rw [holders_R hR hr]
theorem first_R (hR : RG M m g) {r : Nat} (hr : r < 12) : v_X2_handAt M g (nI r) 0 = if ¬ zz m (125 + r) = 0 then v_X5_whoAt m r 0 else -1 := by
  have k := handAt_R hR hr (p := 0) (by omega)
  have q := (queueLength_R hR hr).2
  have hn : qn m r ≤ 8 := (rq_qa hR.2 r hr).2.1
  rw [show (0 : Int32) = nI 0 from rfl, k]
  by_cases c : qn m r = 0
  · rw [c] at q ⊢
    rw [if_neg (Nat.lt_irrefl 0), q, if_neg (fun e => e rfl)]
  · rw [if_pos (by omega), q, if_pos]
    · rfl
    · exact nI_ne0 (by omega) (by omega)
end
end
section
/-! the class's state g as numbers; what its deeds make of them -/
def setS (M : PM) (g : Nat) (c : Nat → Nat → Int32) : PM := (fun t k g2 i => if t = 2 ∧ g2 = g ∧ k < 11 then c k i else if t = 0 ∧ k = 0 ∧ g2 = g ∧ i = 11 then c 11 0 else M.1 t k g2 i, M.2)
/-- the numbers of state g, its ticks the eleventh -/
def clT (M : PM) (g : Nat) : Nat → Nat → Int32 := fun k i => if k < 11 then M.1 2 k g i else M.1 0 0 g 11
def up2 (c : Nat → Nat → Int32) (k i : Nat) (x : Int32) : Nat → Nat → Int32 := fun k2 i2 => if k2 = k ∧ i2 = i then x else c k2 i2
theorem cl_setS (M : PM) (g k : Nat) (c : Nat → Nat → Int32) (hk : k < 11) : cl (setS M g c) g k = c k := by
  funext i
  unfold cl setS
  dsimp only
  rw [if_pos ⟨rfl, rfl, hk⟩]
theorem setS_setS (M : PM) (g : Nat) (c c2 : Nat → Nat → Int32) : setS (setS M g c) g c2 = setS M g c2 := by
  unfold setS
  congr 1
  funext t k g2 i
  dsimp only
  by_cases h : t = 2 ∧ g2 = g ∧ k < 11
  · rw [if_pos h, if_pos h]
  · rw [if_neg h, if_neg h, if_neg h]
    by_cases h2 : t = 0 ∧ k = 0 ∧ g2 = g ∧ i = 11
    · rw [if_pos h2, if_pos h2]
    · rw [if_neg h2, if_neg h2, if_neg h2]
theorem setS_id (M : PM) (g : Nat) : setS M g (clT M g) = M := by
  obtain ⟨a, b⟩ := M
  unfold setS clT
  congr 1
  funext t k g2 i
  dsimp only
  by_cases h : t = 2 ∧ g2 = g ∧ k < 11
  · rw [if_pos h, if_pos h.2.2]; obtain ⟨rfl, rfl, _⟩ := h; rfl
  · rw [if_neg h]
    by_cases h2 : t = 0 ∧ k = 0 ∧ g2 = g ∧ i = 11
    · rw [if_pos h2, if_neg (by omega)]; obtain ⟨rfl, rfl, rfl, rfl⟩ := h2; rfl
    · rw [if_neg h2]
theorem wI_S (M : PM) (g k i : Nat) (c : Nat → Nat → Int32) (x : Int32) (hk : k < 11) : wI (setS M g c) 2 k g i x = setS M g (up2 c k i x) := by
  unfold wI setS up2
  congr 1
  funext t k2 g2 i2
  dsimp only
  by_cases h : t = 2 ∧ g2 = g ∧ k2 < 11
  · obtain ⟨rfl, rfl, h3⟩ := h
    by_cases h4 : k2 = k ∧ i2 = i
    · obtain ⟨rfl, rfl⟩ := h4
      rw [if_pos ⟨rfl, rfl, rfl, rfl⟩, if_pos ⟨rfl, rfl, hk⟩, if_pos ⟨rfl, rfl⟩]
    · rw [if_neg (fun q => h4 ⟨q.2.1, q.2.2.2⟩), if_pos ⟨rfl, rfl, h3⟩, if_pos ⟨rfl, rfl, h3⟩, if_neg h4]
  · rw [if_neg (fun q => h ⟨q.1, q.2.2.1, by omega⟩), if_neg h, if_neg h, if_neg (show ¬ (11 = k ∧ 0 = i) by omega)]
theorem wT_S (M : PM) (g : Nat) (c : Nat → Nat → Int32) (x : Int32) : wI (setS M g c) 0 0 g 11 x = setS M g (up2 c 11 0 x) := by
  unfold wI setS up2
  congr 1
  funext t k2 g2 i2
  dsimp only
  by_cases h : t = 0 ∧ k2 = 0 ∧ g2 = g ∧ i2 = 11
  · rw [if_pos h, if_neg (by omega), if_pos h, if_pos ⟨rfl, rfl⟩]
  · rw [if_neg h]
    by_cases h2 : t = 2 ∧ g2 = g ∧ k2 < 11
    · rw [if_pos h2, if_pos h2, if_neg (by omega)]
    · rw [if_neg h2, if_neg h2, if_neg h, if_neg h]
theorem tk_S (M : PM) (g : Nat) (c : Nat → Nat → Int32) : (setS M g c).1 0 0 g 11 = c 11 0 := by
  unfold setS
  dsimp only
  rw [if_neg (by omega), if_pos ⟨rfl, rfl, rfl, rfl⟩]
theorem put_S (M : PM) (g k i : Nat) (c : Nat → Nat → Int32) (x : Int32) (hk : k < 11) (hi : i < nlen k) : w_X1_put (setS M g c) k g (nI i) x = setS M g (up2 c k i x) := by rw [put_in hi, wI_S M g k i c x hk]
theorem at_S (M : PM) (g k i : Nat) (c : Nat → Nat → Int32) (hk : k < 11) (hi : i < nlen k) : v_X1_at (setS M g c) k g (nI i) = c k i := by rw [at_in hi, cl_setS M g k c hk]
theorem raise_S (M : PM) (g k i : Nat) (c : Nat → Nat → Int32) (hk : k < 11) (hi : i < nlen k) : w_X1_raise (setS M g c) k g (nI i) = setS M g (up2 c k i (c k i + 1)) := by
  unfold w_X1_raise
  rw [at_S M g k i c hk hi, put_S M g k i c _ hk hi]
/-- hand h is out of its queue, as far as hand j -/
def dqJ (c : Nat → Nat → Int32) (h j : Nat) : Nat → Nat → Int32 := fun k i => if k = 1 ∧ i = h then -1 else if k = 2 ∧ i = h then 0 else if k = 3 ∧ i < j ∧ ¬ i = h ∧ c 1 i = c 1 h ∧ ¬ c 3 i ≤ c 3 h then c 3 i - 1 else c k i
def dqC (c : Nat → Nat → Int32) (h : Nat) : Nat → Nat → Int32 := dqJ c h 8
theorem dqJ_0 (c : Nat → Nat → Int32) (h : Nat) : up2 (up2 c 1 h (-1)) 2 h 0 = dqJ c h 0 := by
  funext k i
  unfold up2 dqJ
  grind
theorem dequeue_S (M : PM) (g h : Nat) (c : Nat → Nat → Int32) (hh : h < 8) (hw : ¬ c 1 h = -1) : w_X2_dequeue (setS M g c) g (nI h) = setS M g (dqC c h) := by
  unfold w_X2_dequeue
  rw [put_S M g 1 h c (-1) (by omega) (show h < 8 from hh), put_S M g 2 h _ 0 (by omega) (show h < 8 from hh), dqJ_0]
  refine lp_inv (b_X2_dequeue_1 (setS M g c) g (nI h)) 8 (fun j s => s = setS M g (dqJ c h j)) (fun j s hj hs => ?_) 8 0 _ rfl rfl
  rw [hs]
  unfold b_X2_dequeue_1
  rw [at_S M g 1 j _ (by omega) (show j < 8 from hj), at_S M g 1 h c (by omega) (show h < 8 from hh), at_S M g 3 j _ (by omega) (show j < 8 from hj), at_S M g 3 h c (by omega) (show h < 8 from hh), put_S M g 3 j _ _ (by omega) (show j < 8 from hj)]
  have e1 : dqJ c h j 1 j = if j = h then -1 else c 1 j := by unfold dqJ; grind
  have e3 : dqJ c h j 3 j = c 3 j := by unfold dqJ; grind
  rw [e1, e3]
  by_cases c1 : j = h
  · subst c1
    rw [if_pos rfl, if_pos (fun q => hw q.symm)]
    congr 1; funext k i; unfold dqJ; grind
  · rw [if_neg c1]
    by_cases c2 : c 1 j = c 1 h
    · rw [if_neg (fun q => q c2)]
      by_cases c3 : c 3 j ≤ c 3 h
      · rw [if_pos c3]
        congr 1; funext k i; unfold dqJ; grind
      · rw [if_neg c3]
        congr 1; funext k i; unfold up2 dqJ; grind
    · rw [if_pos c2]
      congr 1; funext k i; unfold dqJ; grind
/-- the places from pl on of row r's queue are raised, as far as hand j -/
def enJ (c : Nat → Nat → Int32) (r pl j : Nat) : Nat → Nat → Int32 := fun k i => if k = 3 ∧ i < j ∧ c 1 i = nI r ∧ ¬ c 3 i < nI pl then c 3 i + 1 else c k i
def enC (c : Nat → Nat → Int32) (h r : Nat) (md : Int32) (pl : Nat) : Nat → Nat → Int32 := up2 (up2 (up2 (enJ c r pl 8) 1 h (nI r)) 2 h md) 3 h (nI pl)
def plS (M : PM) (g h r : Nat) : Int32 := if v_X1_at M 0 g (v_X4_cell M (nI h) (nI r)) ≤ 0 then v_X2_queueLength M g (nI r) else v_X2_placeForHolder M g (nI r)
theorem enqueue_S (M : PM) (g h r pl : Nat) (md : Int32) (c : Nat → Nat → Int32) (hh : h < 8) (hP : plS (setS M g c) g h r = nI pl) : w_X2_enqueue (setS M g c) g (nI h) (nI r) md = setS M g (enC c h r md pl) := by
  have e : lp (b_X2_enqueue_1 (setS M g c) g (nI h) (nI r) md) 8 0 (setS M g c) = setS M g (enJ c r pl 8) := by
    refine lp_inv (b_X2_enqueue_1 (setS M g c) g (nI h) (nI r) md) 8 (fun j s => s = setS M g (enJ c r pl j)) (fun j s hj hs => ?_) 8 0 _ rfl ?_
    · rw [hs]
      show (if ¬ v_X1_at (setS M g (enJ c r pl j)) 1 g (nI j) = nI r then setS M g (enJ c r pl j) else if v_X1_at (setS M g (enJ c r pl j)) 3 g (nI j) < plS (setS M g c) g h r then setS M g (enJ c r pl j) else w_X1_raise (setS M g (enJ c r pl j)) 3 g (nI j)) = _
      rw [hP, at_S M g 1 j _ (by omega) (show j < 8 from hj), at_S M g 3 j _ (by omega) (show j < 8 from hj), raise_S M g 3 j _ (by omega) (show j < 8 from hj)]
      have e1 : enJ c r pl j 1 j = c 1 j := by unfold enJ; grind
      have e3 : enJ c r pl j 3 j = c 3 j := by unfold enJ; grind
      rw [e1, e3]
      by_cases c2 : c 1 j = nI r
      · rw [if_neg (fun q => q c2)]
        by_cases c3 : c 3 j < nI pl
        · rw [if_pos c3]
          congr 1; funext k i; unfold enJ; grind
        · rw [if_neg c3]
          congr 1; funext k i; unfold up2 enJ; grind
      · rw [if_pos c2]
        congr 1; funext k i; unfold enJ; grind
    · congr 1; funext k i; unfold enJ; grind
  show w_X1_put (w_X1_put (w_X1_put (lp (b_X2_enqueue_1 (setS M g c) g (nI h) (nI r) md) 8 0 (setS M g c)) 1 g (nI h) (nI r)) 2 g (nI h) md) 3 g (nI h) (plS (setS M g c) g h r) = _
  rw [e, hP, put_S M g 1 h _ _ (by omega) (show h < 8 from hh), put_S M g 2 h _ _ (by omega) (show h < 8 from hh), put_S M g 3 h _ _ (by omega) (show h < 8 from hh)]
  rfl
end
section
/-! the relation of a state's numbers c and the model's row z -/
theorem up2_o (c : Nat → Nat → Int32) (k i : Nat) (x : Int32) {k2 : Nat} (h : ¬ k2 = k) : up2 c k i x k2 = c k2 := by
  funext j
  unfold up2
  rw [if_neg (fun q => h q.1)]
theorem upd_o (z : Nat → Int32) (i : Nat) (v : Int32) {j : Nat} (h : ¬ j = i) : upd z i v j = z j := by unfold upd; rw [if_neg h]
theorem upd_s (z : Nat → Int32) (i : Nat) (v : Int32) : upd z i v i = v := by unfold upd; rw [if_pos rfl]
def zof (k : Nat) : Nat := match k with
  | 4 => 101 | 5 => 113 | 6 => 329 | 7 => 337 | 8 => 345 | 9 => 353 | _ => 0
/-- heat, counts, settings -/
def bsum (f : Nat → Int32) : Int32 := lp (fun j s => s + f j) 8 0 0
def SC (c : Nat → Nat → Int32) (z : Nat → Int32) : Prop := (∀ k i, 4 ≤ k → k ≤ 10 → i < nlen k → c k i = z (zof k + i)) ∧ c 11 0 = z 3 ∧ z 4 = bsum (c 6)
theorem k_10 {k : Nat} (h4 : 4 ≤ k) (h10 : k ≤ 10) : k = 4 ∨ k = 5 ∨ k = 6 ∨ k = 7 ∨ k = 8 ∨ k = 9 ∨ k = 10 := by omega
theorem zof_in {k i : Nat} (h4 : 4 ≤ k) (h10 : k ≤ 10) (hi : i < nlen k) : zof k + i < 3 ∨ (101 ≤ zof k + i ∧ zof k + i < 125) ∨ (329 ≤ zof k + i ∧ zof k + i < 361) := by
  rcases k_10 h4 h10 with rfl | rfl | rfl | rfl | rfl | rfl | rfl <;> (simp only [zof, nlen] at hi ⊢; omega)
theorem zof_inj {k i k2 i2 : Nat} (h4 : 4 ≤ k) (h10 : k ≤ 10) (hi : i < nlen k) (g4 : 4 ≤ k2) (g10 : k2 ≤ 10) (hi2 : i2 < nlen k2) (e : zof k2 + i2 = zof k + i) : k2 = k ∧ i2 = i := by
  rcases k_10 h4 h10 with rfl | rfl | rfl | rfl | rfl | rfl | rfl <;> rcases k_10 g4 g10 with rfl | rfl | rfl | rfl | rfl | rfl | rfl <;> (simp only [zof, nlen] at hi hi2 e) <;> refine ⟨?_, ?_⟩ <;> omega
theorem sc_raise {c : Nat → Nat → Int32} {z : Nat → Int32} (H : SC c z) {k i : Nat} (h4 : 4 ≤ k) (h6 : ¬ k = 6) (h10 : k ≤ 10) (hi : i < nlen k) (x : Int32) : SC (up2 c k i x) (upd z (zof k + i) x) := by
  have hz := zof_in h4 h10 hi
  refine ⟨fun k2 i2 g4 g10 hi2 => ?_, ?_, ?_⟩
  · unfold up2 upd
    by_cases q : k2 = k ∧ i2 = i
    · obtain ⟨rfl, rfl⟩ := q
      rw [if_pos ⟨rfl, rfl⟩, if_pos rfl]
    · rw [if_neg q, if_neg (fun e => q (zof_inj h4 h10 hi g4 g10 hi2 e))]
      exact H.1 k2 i2 g4 g10 hi2
  · rw [upd_o _ _ _ (by omega), up2_o _ _ _ _ (by omega)]
    exact H.2.1
  · rw [upd_o _ _ _ (by omega), up2_o _ _ _ _ (by omega)]
    exact H.2.2
theorem sc_z {c : Nat → Nat → Int32} {z z2 : Nat → Int32} (H : SC c z) (e : ∀ i, i < 5 ∨ (101 ≤ i ∧ i < 125) ∨ (329 ≤ i ∧ i < 361) → z2 i = z i) : SC c z2 := by
  refine ⟨fun k i h4 h10 hi => ?_, ?_, ?_⟩
  · rw [e _ (by have := zof_in h4 h10 hi; omega)]
    exact H.1 k i h4 h10 hi
  · rw [e 3 (by omega)]; exact H.2.1
  · rw [e 4 (by omega)]; exact H.2.2
theorem sc_c {c c2 : Nat → Nat → Int32} {z : Nat → Int32} (H : SC c z) (e : ∀ k, 4 ≤ k → c2 k = c k) : SC c2 z := by
  refine ⟨fun k i h4 h10 hi => ?_, ?_, ?_⟩
  · rw [e k h4]
    exact H.1 k i h4 h10 hi
  · rw [e 11 (by omega)]; exact H.2.1
  · rw [e 6 (by omega)]; exact H.2.2
theorem rk_z {lk z z2 : Nat → Int32} (H : RK lk z) (e : ∀ i, 5 ≤ i → i < 101 → z2 i = z i) : RK lk z2 := by
  intro h r hh hr
  rw [e (5 + 12 * h + r) (by omega) (by omega)]
  exact H h r hh hr
theorem rk_up {c : Nat → Nat → Int32} {z : Nat → Int32} (H : RK (c 0) z) {h r : Nat} (hr : r < 12) {v : Int32} (hv : v = 0 ∨ MO v) : RK (up2 c 0 (h * 12 + r) v 0) (upd z (5 + 12 * h + r) v) := by
  intro h2 r2 hh2 hr2
  unfold up2 upd
  by_cases q : h2 * 12 + r2 = h * 12 + r
  · obtain rfl : h2 = h := by omega
    obtain rfl : r2 = r := by omega
    rw [if_pos ⟨rfl, rfl⟩, if_pos rfl]
    exact ⟨rfl, hv⟩
  · rw [if_neg (fun k => q k.2), if_neg (fun k => q (by omega))]
    exact H h2 r2 hh2 hr2
theorem rq_z {a b d z z2 : Nat → Int32} (H : RQ a b d z) (e : ∀ i, 125 ≤ i → i < 329 → z2 i = z i) : RQ a b d z2 := by
  refine ⟨fun r hr => ?_, fun h hh => ?_⟩
  · obtain ⟨n, hn, e1, k⟩ := H.1 r hr
    refine ⟨n, hn, by rw [e _ (by omega) (by omega)]; exact e1, fun p hp => ?_⟩
    obtain ⟨h0, a1, a2, a3, a4, a5, a6⟩ := k p hp
    exact ⟨h0, a1, by rw [e _ (by omega) (by omega)]; exact a2, a3, a4, by rw [e _ (by omega) (by omega)]; exact a5, a6⟩
  · rcases H.2 h hh with q | ⟨r, n, p, h1, h2, h3, h4, h5, h6, h7⟩
    · exact Or.inl q
    · exact Or.inr ⟨r, n, p, h1, by rw [e _ (by omega) (by omega)]; exact h2, h3, h4, h5, h6, by rw [e _ (by omega) (by omega)]; exact h7⟩
/-- no hand stands at two places -/
theorem who_ne {rr rm rp z : Nat → Int32} (H : RQ rr rm rp z) {h r p r2 n2 q : Nat} (hr : r < 12) (hp : p < 8) (e1 : rr h = nI r) (e2 : rp h = nI p) (hr2 : r2 < 12) (hn2 : z (125 + r2) = nI n2) (h8 : n2 ≤ 8) (hq : q < n2) (hne : ¬ (r2 = r ∧ q = p)) : ∃ h2, h2 < 8 ∧ z (137 + 8 * r2 + q) = nI h2 ∧ rr h2 = nI r2 ∧ rp h2 = nI q ∧ rm h2 = z (233 + 8 * r2 + q) ∧ MO (rm h2) ∧ ¬ h2 = h := by
  obtain ⟨n, hn, e, k⟩ := H.1 r2 hr2
  rw [hn2] at e
  obtain rfl := (nI_eq (by omega) (by omega)).mp e
  obtain ⟨h2, a1, a2, a3, a4, a5, a6⟩ := k q hq
  refine ⟨h2, a1, a2, a3, a4, a5, a6, fun c => hne ?_⟩
  subst c
  rw [e1] at a3
  rw [e2] at a4
  exact ⟨((nI_eq (by omega) (by omega)).mp a3).symm, ((nI_eq (by omega) (by omega)).mp a4).symm⟩
theorem dqC_o (c : Nat → Nat → Int32) (h k : Nat) (h1 : ¬ k = 1) (h2 : ¬ k = 2) (h3 : ¬ k = 3) : dqC c h k = c k := by
  funext i
  unfold dqC dqJ
  rw [if_neg (fun q => h1 q.1), if_neg (fun q => h2 q.1), if_neg (fun q => h3 q.1)]
theorem dqC_1 (c : Nat → Nat → Int32) (h i : Nat) : dqC c h 1 i = if i = h then -1 else c 1 i := by
  unfold dqC dqJ
  by_cases q : i = h
  · rw [if_pos ⟨rfl, q⟩, if_pos q]
  · rw [if_neg (fun k => q k.2), if_neg (by omega), if_neg (by omega), if_neg q]
theorem dqC_2 (c : Nat → Nat → Int32) (h i : Nat) : dqC c h 2 i = if i = h then 0 else c 2 i := by
  unfold dqC dqJ
  by_cases q : i = h
  · rw [if_neg (by omega), if_pos ⟨rfl, q⟩, if_pos q]
  · rw [if_neg (by omega), if_neg (fun k => q k.2), if_neg (by omega), if_neg q]
theorem dqC_3 (c : Nat → Nat → Int32) {h i : Nat} (hi : i < 8) (hne : ¬ i = h) : dqC c h 3 i = if c 1 i = c 1 h ∧ ¬ c 3 i ≤ c 3 h then c 3 i - 1 else c 3 i := by
  unfold dqC dqJ
  rw [if_neg (by omega), if_neg (by omega)]
  by_cases q : c 1 i = c 1 h ∧ ¬ c 3 i ≤ c 3 h
  · rw [if_pos ⟨rfl, hi, hne, q⟩, if_pos q]
  · rw [if_neg (fun k => q k.2.2.2), if_neg q]
theorem uqz_n (z : Nat → Int32) (r p n k : Nat) : uqz z r p n k (125 + r) = nI (n - 1) := by unfold uqz; rw [if_pos rfl]
theorem uqz_no (z : Nat → Int32) {r r2 p n k : Nat} (hr : r < 12) (hr2 : r2 < 12) (hne : ¬ r2 = r) (hk : k ≤ 8) : uqz z r p n k (125 + r2) = z (125 + r2) := by
  unfold uqz
  rw [if_neg (by omega), if_neg (by omega), if_neg (by omega)]
theorem uqz_q (z : Nat → Int32) {B r r2 p n k q : Nat} (hB : B = 137 ∨ B = 233) (hr : r < 12) (hr2 : r2 < 12) (hk : k < 8) (hq : q < 8) : uqz z r p n k (B + 8 * r2 + q) = if r2 = r ∧ p ≤ q ∧ q < k then z (B + 8 * r2 + (q + 1)) else z (B + 8 * r2 + q) := by
  unfold uqz
  rcases hB with rfl | rfl
  · rw [if_neg (by omega)]
    by_cases c : r2 = r ∧ p ≤ q ∧ q < k
    · rw [if_pos (by omega), if_pos c]; congr 1
    · rw [if_neg (by omega), if_neg (by omega), if_neg c]
  · rw [if_neg (by omega), if_neg (by omega)]
    by_cases c : r2 = r ∧ p ≤ q ∧ q < k
    · rw [if_pos (by omega), if_pos c]; congr 1
    · rw [if_neg (by omega), if_neg c]
theorem uqz_lo (z : Nat → Int32) {r p n k i : Nat} (hr : r < 12) (hk : k ≤ 8) (hi : i < 125 ∨ 329 ≤ i) : uqz z r p n k i = z i := by
  unfold uqz
  rw [if_neg (by omega), if_neg (by omega), if_neg (by omega)]
theorem rq_dq {c : Nat → Nat → Int32} {z : Nat → Int32} (H : RQ (c 1) (c 2) (c 3) z) {h r n p : Nat} (hh : h < 8) (hr : r < 12) (hn : z (125 + r) = nI n) (hn8 : n ≤ 8) (hp : p < n) (e1 : c 1 h = nI r) (e2 : c 3 h = nI p) : RQ (dqC c h 1) (dqC c h 2) (dqC c h 3) (uqz z r p n (n - 1)) := by
  refine ⟨fun r2 hr2 => ?_, fun h2 hh2 => ?_⟩
  · by_cases cr : r2 = r
    · subst cr
      refine ⟨n - 1, by omega, uqz_n _ _ _ _ _, fun q hq => ?_⟩
      rw [uqz_q z (Or.inl rfl) hr hr (by omega) (by omega), uqz_q z (Or.inr rfl) hr hr (by omega) (by omega)]
      by_cases cq : p ≤ q
      · rw [if_pos ⟨rfl, cq, hq⟩, if_pos ⟨rfl, cq, hq⟩]
        obtain ⟨h0, a1, a2, a3, a4, a5, a6, a7⟩ := who_ne H hr (by omega) e1 e2 hr hn hn8 (show q + 1 < n by omega) (by omega)
        refine ⟨h0, a1, a2, ?_, ?_, ?_, ?_⟩
        · rw [dqC_1, if_neg a7]; exact a3
        · rw [dqC_3 c a1 a7, if_pos ⟨by rw [a3, e1], by rw [a4, e2]; exact nI_ge (by omega) (by omega)⟩, a4]; exact nI_pred q
        · rw [dqC_2, if_neg a7]; exact a5
        · rw [dqC_2, if_neg a7]; exact a6
      · rw [if_neg (fun k => cq k.2.1), if_neg (fun k => cq k.2.1)]
        obtain ⟨h0, a1, a2, a3, a4, a5, a6, a7⟩ := who_ne H hr (by omega) e1 e2 hr hn hn8 (show q < n by omega) (by omega)
        refine ⟨h0, a1, a2, ?_, ?_, ?_, ?_⟩
        · rw [dqC_1, if_neg a7]; exact a3
        · rw [dqC_3 c a1 a7, if_neg (fun k => k.2 (by rw [a4, e2]; exact nI_le (by omega) (by omega)))]; exact a4
        · rw [dqC_2, if_neg a7]; exact a5
        · rw [dqC_2, if_neg a7]; exact a6
    · obtain ⟨n2, hn2, en2, kn⟩ := H.1 r2 hr2
      refine ⟨n2, hn2, by rw [uqz_no z hr hr2 cr (by omega)]; exact en2, fun q hq => ?_⟩
      rw [uqz_q z (Or.inl rfl) hr hr2 (by omega) (by omega), uqz_q z (Or.inr rfl) hr hr2 (by omega) (by omega), if_neg (fun k => cr k.1), if_neg (fun k => cr k.1)]
      obtain ⟨h0, a1, a2, a3, a4, a5, a6, a7⟩ := who_ne H hr (by omega) e1 e2 hr2 en2 hn2 hq (by omega)
      refine ⟨h0, a1, a2, ?_, ?_, ?_, ?_⟩
      · rw [dqC_1, if_neg a7]; exact a3
      · rw [dqC_3 c a1 a7, if_neg (fun k => cr ?_)]; exact a4
        have k1 := k.1
        rw [a3, e1] at k1
        exact (nI_eq (by omega) (by omega)).mp k1
      · rw [dqC_2, if_neg a7]; exact a5
      · rw [dqC_2, if_neg a7]; exact a6
  · by_cases ch : h2 = h
    · left; rw [dqC_1, dqC_2, if_pos ch, if_pos ch]; exact ⟨rfl, rfl⟩
    · rw [dqC_1, dqC_2, dqC_3 c hh2 ch, if_neg ch, if_neg ch]
      rcases H.2 h2 hh2 with q | ⟨r2, n2, p2, b1, b2, b3, b4, b5, b6, b7⟩
      · exact Or.inl q
      · right
        by_cases cr : r2 = r
        · subst cr
          rw [hn] at b2
          obtain rfl := (nI_eq (by omega) (by omega)).mp b2
          have hpp : ¬ p2 = p := by
            intro k
            subst k
            obtain ⟨n3, hn3, en3, kn⟩ := H.1 r2 hr
            rw [hn] at en3
            obtain rfl := (nI_eq (by omega) (by omega)).mp en3
            rcases H.2 h hh with q | ⟨r4, n4, p4, d1, d2, d3, d4, d5, d6, d7⟩
            · rw [e1] at q; exact nI_nm1 (by omega) q.1
            · rw [e1] at d5
              obtain rfl := (nI_eq (by omega) (by omega)).mp d5
              rw [e2] at d6
              obtain rfl := (nI_eq (by omega) (by omega)).mp d6
              rw [b7] at d7
              exact ch ((nI_eq (by omega) (by omega)).mp d7)
          by_cases cp : p2 ≤ p
          · refine ⟨r2, n - 1, p2, hr, uqz_n _ _ _ _ _, by omega, by omega, b5, ?_, ?_⟩
            · rw [if_neg (fun k => k.2 (by rw [b6, e2]; exact nI_le cp (by omega)))]; exact b6
            · rw [uqz_q z (Or.inl rfl) hr hr (by omega) (by omega), if_neg (by omega)]; exact b7
          · refine ⟨r2, n - 1, p2 - 1, hr, uqz_n _ _ _ _ _, by omega, by omega, b5, ?_, ?_⟩
            · rw [if_pos ⟨by rw [b5, e1], by rw [b6, e2]; exact nI_ge (by omega) (by omega)⟩, b6]
              have := nI_pred (p2 - 1)
              rw [show p2 - 1 + 1 = p2 by omega] at this
              exact this
            · rw [uqz_q z (Or.inl rfl) hr hr (by omega) (by omega), if_pos ⟨rfl, by omega, by omega⟩, show p2 - 1 + 1 = p2 by omega]; exact b7
        · refine ⟨r2, n2, p2, b1, by rw [uqz_no z hr b1 cr (by omega)]; exact b2, b3, b4, b5, ?_, ?_⟩
          · rw [if_neg (fun k => cr ?_)]; exact b6
            have k1 := k.1
            rw [b5, e1] at k1
            exact (nI_eq (by omega) (by omega)).mp k1
          · rw [uqz_q z (Or.inl rfl) hr b1 (by omega) (by omega), if_neg (fun k => cr k.1)]; exact b7
end
section
/-! enqueue; the order of holders in a queue -/
theorem enC_o (c : Nat → Nat → Int32) (h r : Nat) (md : Int32) (pl k : Nat) (h1 : ¬ k = 1) (h2 : ¬ k = 2) (h3 : ¬ k = 3) : enC c h r md pl k = c k := by
  unfold enC
  rw [up2_o _ _ _ _ h3, up2_o _ _ _ _ h2, up2_o _ _ _ _ h1]
  funext i
  unfold enJ
  rw [if_neg (fun q => h3 q.1)]
theorem enC_1 (c : Nat → Nat → Int32) (h r : Nat) (md : Int32) (pl i : Nat) : enC c h r md pl 1 i = if i = h then nI r else c 1 i := by
  unfold enC
  rw [up2_o _ _ _ _ (by decide), up2_o _ _ _ _ (by decide)]
  unfold up2 enJ
  by_cases q : i = h
  · rw [if_pos ⟨rfl, q⟩, if_pos q]
  · rw [if_neg (fun k => q k.2), if_neg (by omega), if_neg q]
theorem enC_2 (c : Nat → Nat → Int32) (h r : Nat) (md : Int32) (pl i : Nat) : enC c h r md pl 2 i = if i = h then md else c 2 i := by
  unfold enC
  rw [up2_o _ _ _ _ (by decide)]
  unfold up2 enJ
  by_cases q : i = h
  · rw [if_pos ⟨rfl, q⟩, if_pos q]
  · rw [if_neg (fun k => q k.2), if_neg (by omega), if_neg (by omega), if_neg q]
theorem enC_3 (c : Nat → Nat → Int32) (h r : Nat) (md : Int32) (pl : Nat) {i : Nat} (hi : i < 8) : enC c h r md pl 3 i = if i = h then nI pl else if c 1 i = nI r ∧ ¬ c 3 i < nI pl then c 3 i + 1 else c 3 i := by
  unfold enC up2 enJ
  by_cases q : i = h
  · rw [if_pos ⟨rfl, q⟩, if_pos q]
  · rw [if_neg (fun k => q k.2), if_neg (by omega), if_neg (by omega), if_neg q]
    by_cases k : c 1 i = nI r ∧ ¬ c 3 i < nI pl
    · rw [if_pos ⟨rfl, hi, k⟩, if_pos k]
    · rw [if_neg (fun u => k u.2.2), if_neg k]
section
variable (z : Nat → Int32) {r r2 h pl n q : Nat} {md : Int32}
theorem enz_n : enz z r h md pl n (125 + r) = nI (n + 1) := by unfold enz; rw [if_pos rfl]
theorem enz_no (hr : r < 12) (hr2 : r2 < 12) (hne : ¬ r2 = r) (hn : n < 8) (hpl : pl ≤ n) : enz z r h md pl n (125 + r2) = z (125 + r2) := by
  unfold enz eqz
  rw [if_neg (by omega), if_neg (by omega), if_neg (by omega), if_neg (by omega), if_neg (by omega)]
theorem enz_w (hr : r < 12) (hn : n < 8) (hpl : pl ≤ n) : enz z r h md pl n (137 + 8 * r + pl) = nI h := by
  unfold enz
  rw [if_neg (by omega), if_neg (by omega), if_pos rfl]
theorem enz_m (hr : r < 12) (hn : n < 8) (hpl : pl ≤ n) : enz z r h md pl n (233 + 8 * r + pl) = md := by
  unfold enz
  rw [if_neg (by omega), if_pos rfl]
theorem enz_q {B : Nat} (hB : B = 137 ∨ B = 233) (hr : r < 12) (hr2 : r2 < 12) (hn : n < 8) (hpl : pl ≤ n) (hq : q < 8) (hne : ¬ (r2 = r ∧ q = pl)) : enz z r h md pl n (B + 8 * r2 + q) = if r2 = r ∧ pl < q ∧ q ≤ n then z (B + 8 * r2 + (q - 1)) else z (B + 8 * r2 + q) := by
  unfold enz eqz
  rcases hB with rfl | rfl
  · rw [if_neg (by omega), if_neg (by omega), if_neg (by omega)]
    by_cases c : r2 = r ∧ pl < q ∧ q ≤ n
    · rw [if_pos (by omega), if_pos c]; congr 1; omega
    · rw [if_neg (by omega), if_neg (by omega), if_neg c]
  · rw [if_neg (by omega), if_neg (by omega), if_neg (by omega), if_neg (by omega)]
    by_cases c : r2 = r ∧ pl < q ∧ q ≤ n
    · rw [if_pos (by omega), if_pos c]; congr 1; omega
    · rw [if_neg (by omega), if_neg c]
theorem enz_lo {i : Nat} (hr : r < 12) (hn : n < 8) (hpl : pl ≤ n) (hi : i < 125 ∨ 329 ≤ i) : enz z r h md pl n i = z i := by
  unfold enz eqz
  rw [if_neg (by omega), if_neg (by omega), if_neg (by omega), if_neg (by omega), if_neg (by omega)]
end
theorem rq_en {c : Nat → Nat → Int32} {z : Nat → Int32} (H : RQ (c 1) (c 2) (c 3) z) {h r n pl : Nat} {md : Int32} (hh : h < 8) (hr : r < 12) (hn : z (125 + r) = nI n) (hn8 : n < 8) (hpl : pl ≤ n) (hm : MO md) (hw : c 1 h = -1) : RQ (enC c h r md pl 1) (enC c h r md pl 2) (enC c h r md pl 3) (enz z r h md pl n) := by
  have ne : ∀ h0 r0, r0 < 12 → c 1 h0 = nI r0 → ¬ h0 = h := by
    intro h0 r0 hr0 e k
    subst k
    rw [hw] at e
    exact nI_nm1 (by omega) e.symm
  refine ⟨fun r2 hr2 => ?_, fun h2 hh2 => ?_⟩
  · by_cases cr : r2 = r
    · subst cr
      obtain ⟨n2, hn2, en2, kn⟩ := H.1 r2 hr
      rw [hn] at en2
      obtain rfl := (nI_eq (by omega) (by omega)).mp en2
      refine ⟨n + 1, by omega, enz_n z, fun q hq => ?_⟩
      by_cases cq : q = pl
      · subst cq
        refine ⟨h, hh, enz_w z hr hn8 hpl, ?_, ?_, ?_, ?_⟩
        · rw [enC_1, if_pos rfl]
        · rw [enC_3 c h r2 md q hh, if_pos rfl]
        · rw [enC_2, if_pos rfl, enz_m z hr hn8 hpl]
        · rw [enC_2, if_pos rfl]; exact hm
      · rw [enz_q z (Or.inl rfl) hr hr hn8 hpl (by omega) (fun k => cq k.2), enz_q z (Or.inr rfl) hr hr hn8 hpl (by omega) (fun k => cq k.2)]
        by_cases cl : pl < q
        · rw [if_pos ⟨rfl, cl, by omega⟩, if_pos ⟨rfl, cl, by omega⟩]
          obtain ⟨h0, a1, a2, a3, a4, a5, a6⟩ := kn (q - 1) (by omega)
          have a7 := ne h0 r2 hr a3
          refine ⟨h0, a1, a2, ?_, ?_, ?_, ?_⟩
          · rw [enC_1, if_neg a7]; exact a3
          · rw [enC_3 c h r2 md pl a1, if_neg a7, if_pos ⟨a3, by rw [a4]; exact nI_nlt (by omega) (by omega)⟩, a4, nI_1]; congr 1; omega
          · rw [enC_2, if_neg a7]; exact a5
          · rw [enC_2, if_neg a7]; exact a6
        · rw [if_neg (fun k => cl k.2.1), if_neg (fun k => cl k.2.1)]
          obtain ⟨h0, a1, a2, a3, a4, a5, a6⟩ := kn q (by omega)
          have a7 := ne h0 r2 hr a3
          refine ⟨h0, a1, a2, ?_, ?_, ?_, ?_⟩
          · rw [enC_1, if_neg a7]; exact a3
          · rw [enC_3 c h r2 md pl a1, if_neg a7, if_neg (fun k => k.2 (by rw [a4]; exact nI_lt (by omega) (by omega)))]; exact a4
          · rw [enC_2, if_neg a7]; exact a5
          · rw [enC_2, if_neg a7]; exact a6
    · obtain ⟨n2, hn2, en2, kn⟩ := H.1 r2 hr2
      refine ⟨n2, hn2, by rw [enz_no z hr hr2 cr hn8 hpl]; exact en2, fun q hq => ?_⟩
      rw [enz_q z (Or.inl rfl) hr hr2 hn8 hpl (by omega) (fun k => cr k.1), enz_q z (Or.inr rfl) hr hr2 hn8 hpl (by omega) (fun k => cr k.1), if_neg (fun k => cr k.1), if_neg (fun k => cr k.1)]
      obtain ⟨h0, a1, a2, a3, a4, a5, a6⟩ := kn q hq
      have a7 := ne h0 r2 hr2 a3
      refine ⟨h0, a1, a2, ?_, ?_, ?_, ?_⟩
      · rw [enC_1, if_neg a7]; exact a3
      · rw [enC_3 c h r md pl a1, if_neg a7, if_neg (fun k => cr ?_)]; exact a4
        have k1 := k.1
        rw [a3] at k1
        exact (nI_eq (by omega) (by omega)).mp k1
      · rw [enC_2, if_neg a7]; exact a5
      · rw [enC_2, if_neg a7]; exact a6
  · by_cases ch : h2 = h
    · right
      subst ch
      refine ⟨r, n + 1, pl, hr, enz_n z, by omega, by omega, ?_, ?_, enz_w z hr hn8 hpl⟩
      · rw [enC_1, if_pos rfl]
      · rw [enC_3 c h2 r md pl hh, if_pos rfl]
    · rw [enC_1, enC_2, enC_3 c h r md pl hh2, if_neg ch, if_neg ch, if_neg ch]
      rcases H.2 h2 hh2 with q | ⟨r2, n2, p2, b1, b2, b3, b4, b5, b6, b7⟩
      · exact Or.inl q
      · right
        by_cases cr : r2 = r
        · subst cr
          rw [hn] at b2
          obtain rfl := (nI_eq (by omega) (by omega)).mp b2
          by_cases cp : p2 < pl
          · refine ⟨r2, n + 1, p2, hr, enz_n z, by omega, by omega, b5, ?_, ?_⟩
            · rw [if_neg (fun k => k.2 (by rw [b6]; exact nI_lt cp (by omega)))]; exact b6
            · rw [enz_q z (Or.inl rfl) hr hr hn8 hpl (by omega) (by omega), if_neg (by omega)]; exact b7
          · refine ⟨r2, n + 1, p2 + 1, hr, enz_n z, by omega, by omega, b5, ?_, ?_⟩
            · rw [if_pos ⟨b5, by rw [b6]; exact nI_nlt (by omega) (by omega)⟩, b6, nI_1]
            · rw [enz_q z (Or.inl rfl) hr hr hn8 hpl (by omega) (by omega), if_pos ⟨rfl, by omega, by omega⟩, show p2 + 1 - 1 = p2 by omega]; exact b7
        · refine ⟨r2, n2, p2, b1, by rw [enz_no z hr b1 cr hn8 hpl]; exact b2, b3, b4, b5, ?_, ?_⟩
          · rw [if_neg (fun k => cr ?_)]; exact b6
            have k1 := k.1
            rw [b5] at k1
            exact (nI_eq (by omega) (by omega)).mp k1
          · rw [enz_q z (Or.inl rfl) hr b1 hn8 hpl (by omega) (fun k => cr k.1), if_neg (fun k => cr k.1)]; exact b7
/-- the lock, on the row, of the hand at place p of its queue -/
def lkz (z : Nat → Int32) (r p : Nat) : Int32 := z (5 + 12 * (z (137 + 8 * r + p)).toNatClampNeg + r)
/-- requests of holders stand first -/
def HF (z : Nat → Int32) : Prop := ∀ r n p q, r < 12 → z (125 + r) = nI n → n ≤ 8 → p < q → q < n → ¬ lkz z r q ≤ 0 → ¬ lkz z r p ≤ 0
theorem lkz_h {z : Nat → Int32} {r p h : Nat} (hh : h < 8) (e : z (137 + 8 * r + p) = nI h) : lkz z r p = z (5 + 12 * h + r) := by
  unfold lkz
  rw [e, nI_clamp (by omega)]
theorem hf_same {z z2 : Nat → Int32} (H : HF z) (e1 : ∀ r, r < 12 → z2 (125 + r) = z (125 + r)) (e2 : ∀ r n p, r < 12 → z (125 + r) = nI n → n ≤ 8 → p < n → lkz z2 r p = lkz z r p) : HF z2 := by
  intro r n p q hr hn h8 hpq hq
  rw [e1 r hr] at hn
  rw [e2 r n q hr hn h8 hq, e2 r n p hr hn h8 (by omega)]
  exact H r n p q hr hn h8 hpq hq
/-- hand h leaves its queue; its own locks may change -/
theorem hf_dq {c : Nat → Nat → Int32} {z z2 : Nat → Int32} (H : HF z) (HQ : RQ (c 1) (c 2) (c 3) z) {h r n p : Nat} (hr : r < 12) (hn : z (125 + r) = nI n) (h8 : n ≤ 8) (hp : p < n) (e1 : c 1 h = nI r) (e2 : c 3 h = nI p) (hq2 : ∀ i, 125 ≤ i → i < 329 → z2 i = z i) (hl : ∀ h' r', h' < 8 → r' < 12 → ¬ h' = h → z2 (5 + 12 * h' + r') = z (5 + 12 * h' + r')) : HF (uqz z2 r p n (n - 1)) := by
  -- the lock at a place, behind and before
  have K : ∀ r2 n2 q, r2 < 12 → z (125 + r2) = nI n2 → n2 ≤ 8 → (q < n2 ∧ ¬ r2 = r ∨ q < n - 1 ∧ r2 = r) → lkz (uqz z2 r p n (n - 1)) r2 q = lkz z r2 (if r2 = r ∧ p ≤ q then q + 1 else q) := by
    intro r2 n2 q hr2 hn2 h28 hq
    have hle : n - 1 < n2 ∨ ¬ r2 = r := by
      by_cases k : r2 = r
      · subst k; rw [hn] at hn2; have := (nI_eq (by omega) (by omega)).mp hn2; omega
      · exact Or.inr k
    have hq3 : (if r2 = r ∧ p ≤ q then q + 1 else q) < n2 := by
      split <;> omega
    have hne : ¬ (r2 = r ∧ (if r2 = r ∧ p ≤ q then q + 1 else q) = p) := by
      split <;> omega
    obtain ⟨h0, a1, a2, a3, a4, a5, a6, a7⟩ := who_ne HQ hr (by omega) e1 e2 hr2 hn2 h28 hq3 hne
    rw [lkz_h a1 a2]
    have e3 : uqz z2 r p n (n - 1) (137 + 8 * r2 + q) = nI h0 := by
      rw [uqz_q z2 (Or.inl rfl) hr hr2 (by omega) (by omega)]
      by_cases k : r2 = r ∧ p ≤ q
      · rw [if_pos k] at a2
        rw [if_pos ⟨k.1, k.2, by omega⟩, hq2 _ (by omega) (by omega)]; exact a2
      · rw [if_neg k] at a2
        rw [if_neg (fun u => k ⟨u.1, u.2.1⟩), hq2 _ (by omega) (by omega)]; exact a2
    rw [lkz_h a1 e3, uqz_lo z2 hr (by omega) (by omega)]
    exact hl h0 r2 a1 hr2 a7
  intro r2 n2 a b hr2 hn2 h28 hab hb
  by_cases cr : r2 = r
  · subst cr
    rw [uqz_n] at hn2
    have hn3 := (nI_eq (by omega) (by omega)).mp hn2
    rw [K r2 n b hr hn h8 (by omega), K r2 n a hr hn h8 (by omega)]
    refine H r2 n _ _ hr hn h8 ?_ ?_ <;> (repeat' split) <;> omega
  · rw [uqz_no z2 hr hr2 cr (by omega), hq2 _ (by omega) (by omega)] at hn2
    rw [K r2 n2 b hr2 hn2 h28 (by omega), K r2 n2 a hr2 hn2 h28 (by omega), if_neg (fun k => cr k.1), if_neg (fun k => cr k.1)]
    exact H r2 n2 a b hr2 hn2 h28 hab hb
theorem hpz_s (z : Nat → Int32) (r : Nat) : ∀ d p, (∀ q, p ≤ q → q < hpz z r d p → ¬ lkz z r q ≤ 0) ∧ (hpz z r d p < p + d → lkz z r (hpz z r d p) ≤ 0) := by
  intro d
  induction d with
  | zero => intro p; unfold hpz; exact ⟨fun q h1 h2 => by omega, fun h => by omega⟩
  | succ d ih =>
    intro p
    unfold hpz
    by_cases c : z (5 + 12 * (z (137 + 8 * r + p)).toNatClampNeg + r) ≤ 0
    · rw [if_pos c]
      exact ⟨fun q h1 h2 => by omega, fun _ => c⟩
    · rw [if_neg c]
      refine ⟨fun q h1 h2 => ?_, fun h => (ih (p + 1)).2 (by omega)⟩
      by_cases k : q = p
      · subst k; exact c
      · exact (ih (p + 1)).1 q (by omega) h2
theorem hf_en {c : Nat → Nat → Int32} {z : Nat → Int32} (H : HF z) (HQ : RQ (c 1) (c 2) (c 3) z) {h r n : Nat} {md : Int32} (hh : h < 8) (hr : r < 12) (hn : z (125 + r) = nI n) (h8 : n < 8) (hw : c 1 h = -1) : HF (enz z r h md (plz z r h n) n) := by
  have hpl := plz_le z r h n
  have hs := hpz_s z r n 0
  have hle := hpz_le z r n 0
  have lo : ∀ i, i < 125 → enz z r h md (plz z r h n) n i = z i := fun i hi => enz_lo z hr h8 hpl (Or.inl hi)
  -- old hands
  have K : ∀ r2 n2 q, r2 < 12 → z (125 + r2) = nI n2 → n2 ≤ 8 → (q < n2 ∧ ¬ r2 = r ∨ q < n + 1 ∧ r2 = r ∧ ¬ q = plz z r h n) → lkz (enz z r h md (plz z r h n) n) r2 q = lkz z r2 (if r2 = r ∧ plz z r h n < q then q - 1 else q) := by
    intro r2 n2 q hr2 hn2 h28 hq
    have hnn : n2 = n ∨ ¬ r2 = r := by
      by_cases k : r2 = r
      · subst k; rw [hn] at hn2; have := (nI_eq (by omega) (by omega)).mp hn2; omega
      · exact Or.inr k
    have hq3 : (if r2 = r ∧ plz z r h n < q then q - 1 else q) < n2 := by split <;> omega
    obtain ⟨n3, hn3, en3, kn⟩ := HQ.1 r2 hr2
    rw [hn2] at en3
    obtain rfl := (nI_eq (by omega) (by omega)).mp en3
    obtain ⟨h0, a1, a2, _⟩ := kn _ hq3
    rw [lkz_h a1 a2]
    have e3 : enz z r h md (plz z r h n) n (137 + 8 * r2 + q) = nI h0 := by
      rw [enz_q z (Or.inl rfl) hr hr2 h8 hpl (by omega) (by omega)]
      by_cases k : r2 = r ∧ plz z r h n < q
      · rw [if_pos k] at a2
        rw [if_pos ⟨k.1, k.2, by omega⟩]; exact a2
      · rw [if_neg k] at a2
        rw [if_neg (fun u => k ⟨u.1, u.2.1⟩)]; exact a2
    rw [lkz_h a1 e3]
    exact lo _ (by omega)
  have L : lkz (enz z r h md (plz z r h n) n) r (plz z r h n) = z (5 + 12 * h + r) := by
    rw [lkz_h hh (enz_w z hr h8 hpl)]
    exact lo _ (by omega)
  intro r2 n2 a b hr2 hn2 h28 hab hb
  by_cases cr : r2 = r
  · subst cr
    rw [enz_n] at hn2
    have hn3 := (nI_eq (by omega) (by omega)).mp hn2
    subst hn3
    by_cases cl : z (5 + 12 * h + r2) ≤ 0
    · have ep : plz z r2 h n = n := by unfold plz; rw [if_pos cl]
      by_cases cb : b = n
      · subst cb
        intro u
        rw [ep] at L
        rw [ep, L] at u
        exact absurd cl u
      · rw [K r2 n b hr hn (by omega) (by omega), K r2 n a hr hn (by omega) (by omega), if_neg (by omega), if_neg (by omega)]
        exact H r2 n a b hr hn (by omega) hab (by omega)
    · have ep : plz z r2 h n = hpz z r2 n 0 := by unfold plz; rw [if_neg cl]
      by_cases ca : a < plz z r2 h n
      · intro _
        rw [K r2 n a hr hn (by omega) (by omega), if_neg (by omega)]
        exact hs.1 a (Nat.zero_le _) (by omega)
      · intro u
        exfalso
        rw [K r2 n b hr hn (by omega) (by omega), if_pos ⟨rfl, by omega⟩] at u
        have h0 : lkz z r2 (hpz z r2 n 0) ≤ 0 := hs.2 (by omega)
        by_cases ce : b - 1 = hpz z r2 n 0
        · rw [ce] at u; exact u h0
        · exact H r2 n (hpz z r2 n 0) (b - 1) hr hn (by omega) (by omega) (by omega) u h0
  · rw [enz_no z hr hr2 cr h8 hpl] at hn2
    rw [K r2 n2 b hr2 hn2 h28 (by omega), K r2 n2 a hr2 hn2 h28 (by omega), if_neg (fun k => cr k.1), if_neg (fun k => cr k.1)]
    exact H r2 n2 a b hr2 hn2 h28 hab hb
end
section
/-! the place of an asking holder; grant, settle -/
theorem zz_zm (z : Nat → Int32) : zz (zm z) = z := zz_setz _ z
theorem rg_S (M : PM) (g : Nat) {c : Nat → Nat → Int32} {z : Nat → Int32} (h1 : RK (c 0) z) (h2 : RQ (c 1) (c 2) (c 3) z) : RG (setS M g c) (zm z) g := by
  unfold RG
  rw [cl_setS M g 0 c (by omega), cl_setS M g 1 c (by omega), cl_setS M g 2 c (by omega), cl_setS M g 3 c (by omega), zz_zm]
  exact ⟨h1, h2⟩
theorem placeFor_R {M m : PM} {g r : Nat} (hR : RG M m g) (hF : HF (zz m)) (hr : r < 12) : v_X2_placeForHolder M g (nI r) = nI (hpz (zz m) r (qn m r) 0) := by
  obtain ⟨n, hn8, en, kn⟩ := hR.2.1 r hr
  have eq : qn m r = n := by unfold qn; rw [en]; exact nI_clamp (by omega)
  rw [eq]
  have hs := hpz_s (zz m) r n 0
  have hle := hpz_le (zz m) r n 0
  generalize hpz (zz m) r n 0 = K at hs hle ⊢
  have kk := lp_inv (b_X2_placeForHolder_1 M g (nI r)) 8 (fun j s => ∃ k, k ≤ K ∧ s = nI k ∧ ∀ i p, i < j → cl M g 1 i = nI r → ¬ zz m (5 + 12 * i + r) ≤ 0 → p < n → cl M g 3 i = nI p → p + 1 ≤ k) (fun j s hj hk => ?_) 8 0 0 rfl ⟨0, by omega, rfl, fun i p hi => by omega⟩
  · obtain ⟨k, hk, e, hall⟩ := kk
    have ek : k = K := by
      by_cases ck : k < K
      · obtain ⟨h0, a1, a2, a3, a4, _⟩ := kn (K - 1) (by omega)
        have l := hs.1 (K - 1) (by omega) (by omega)
        rw [lkz_h a1 a2] at l
        have := hall h0 (K - 1) a1 a3 l (by omega) a4
        omega
      · omega
    rw [← ek]
    exact e
  · obtain ⟨k, hk, e, hall⟩ := hk
    unfold b_X2_placeForHolder_1
    rw [at_in (k := 1) (show j < 8 from hj), lock_R hR hj hr, at_in (k := 3) (show j < 8 from hj)]
    have el : v_X5_lockOf m j r = zz m (5 + 12 * j + r) := rfl
    rw [el]
    by_cases c1 : cl M g 1 j = nI r
    · rw [if_neg (fun q => q c1)]
      by_cases c2 : zz m (5 + 12 * j + r) ≤ 0
      · rw [if_pos c2]
        refine ⟨k, hk, e, fun i p hi h1 h2 => ?_⟩
        by_cases ci : i = j
        · subst ci; exact absurd c2 h2
        · exact hall i p (by omega) h1 h2
      · rw [if_neg c2]
        obtain ⟨p, hp, ep, ew⟩ : ∃ p, p < n ∧ cl M g 3 j = nI p ∧ zz m (137 + 8 * r + p) = nI j := by
          rcases hR.2.2 j hj with ⟨a, _⟩ | ⟨r2, n2, p2, h1, h2, h3, h4, h5, h6, h7⟩
          · rw [c1] at a; exact absurd a (nI_nm1 (by omega))
          · rw [c1] at h5
            obtain rfl := (nI_eq (by omega) (by omega)).mp h5
            rw [en] at h2
            obtain rfl := (nI_eq (by omega) (by omega)).mp h2
            exact ⟨p2, h4, h6, h7⟩
        have pK : p < K := by
          by_cases c3 : p < K
          · exact c3
          · exfalso
            have l : ¬ lkz (zz m) r p ≤ 0 := by rw [lkz_h hj ew]; exact c2
            have h0 := hs.2 (by omega)
            by_cases ce : p = K
            · rw [ce] at l; exact l h0
            · exact hF r n K p hr en hn8 (by omega) hp l h0
        rw [ep, nI_1, e]
        by_cases c4 : k < p + 1
        · rw [if_pos (nI_lt c4 (by omega))]
          refine ⟨p + 1, by omega, rfl, fun i p' hi h1 h2 h3 h4 => ?_⟩
          by_cases ci : i = j
          · subst ci
            rw [ep] at h4
            have := (nI_eq (by omega) (by omega)).mp h4
            omega
          · have := hall i p' (by omega) h1 h2 h3 h4
            omega
        · rw [if_neg (nI_nlt (by omega) (by omega))]
          refine ⟨k, hk, rfl, fun i p' hi h1 h2 h3 h4 => ?_⟩
          by_cases ci : i = j
          · subst ci
            rw [ep] at h4
            have := (nI_eq (by omega) (by omega)).mp h4
            omega
          · exact hall i p' (by omega) h1 h2 h3 h4
    · rw [if_pos c1]
      refine ⟨k, hk, e, fun i p hi h1 h2 => ?_⟩
      by_cases ci : i = j
      · subst ci; exact absurd h1 c1
      · exact hall i p (by omega) h1 h2
/-- all of a state but its ticks and what is burnt in all -/
def SA (c : Nat → Nat → Int32) (z : Nat → Int32) : Prop := RK (c 0) z ∧ RQ (c 1) (c 2) (c 3) z ∧ SC c z ∧ HF z
theorem sa_rg (M : PM) (g : Nat) {c : Nat → Nat → Int32} {z : Nat → Int32} (H : SA c z) : RG (setS M g c) (zm z) g := rg_S M g H.1 H.2.1
theorem plS_A (M : PM) (g : Nat) {c : Nat → Nat → Int32} {z : Nat → Int32} (H : SA c z) {h r n : Nat} (hh : h < 8) (hr : r < 12) (hn : z (125 + r) = nI n) (h8 : n ≤ 8) : plS (setS M g c) g h r = nI (plz z r h n) := by
  have hR := sa_rg M g H
  have eq : qn (zm z) r = n := by unfold qn; rw [zz_zm, hn]; exact nI_clamp (by omega)
  unfold plS plz
  rw [lock_R hR hh hr, (queueLength_R hR hr).1, placeFor_R hR (by rw [zz_zm]; exact H.2.2.2) hr, eq, zz_zm]
  have el : v_X5_lockOf (zm z) h r = z (5 + 12 * h + r) := congrFun (zz_zm z) _
  rw [el]
  split <;> rfl
/-- counts of asking and granting -/
def CN (c : Nat → Nat → Int32) (K : Nat) : Prop := ∀ h, h < 8 → ∃ a q : Nat, c 9 h = nI a ∧ c 8 h = nI q ∧ (q + (if c 1 h = -1 then 0 else 1)) ≤ a ∧ a ≤ K
/-- no hand begins to wait -/
def MC (c c2 : Nat → Nat → Int32) : Prop := (∀ h, h < 8 → ¬ c2 1 h = -1 → ¬ c 1 h = -1) ∧ (∀ K, CN c K → CN c2 K) ∧ ∀ k, k = 4 ∨ k = 6 ∨ k = 10 ∨ k = 11 → c2 k = c k
theorem mc_refl (c : Nat → Nat → Int32) : MC c c := ⟨fun _ _ h => h, fun _ h => h, fun _ _ => rfl⟩
theorem mc_trans {c c2 c3 : Nat → Nat → Int32} (h : MC c c2) (h2 : MC c2 c3) : MC c c3 := ⟨fun h0 hh k => h.1 h0 hh (h2.1 h0 hh k), fun K k => h2.2.1 K (h.2.1 K k), fun k hk => by rw [h2.2.2 k hk, h.2.2 k hk]⟩
/-- what a hand that doesn't wait has, stays -/
def KL (c c2 : Nat → Nat → Int32) : Prop := ∀ h r, h < 8 → r < 12 → c 1 h = -1 → c2 0 (h * 12 + r) = c 0 (h * 12 + r)
theorem kl_refl (c : Nat → Nat → Int32) : KL c c := fun _ _ _ _ _ => rfl
theorem kl_trans {c c2 c3 : Nat → Nat → Int32} (h : KL c c2) (hm : MC c c2) (h2 : KL c2 c3) : KL c c3 := by
  intro h0 r hh hr e
  have e2 : c2 1 h0 = -1 := Classical.byContradiction fun k => hm.1 h0 hh k e
  rw [h2 h0 r hh hr e2, h h0 r hh hr e]
theorem rq_w {rr rm rp z : Nat → Int32} (H : RQ rr rm rp z) {h r : Nat} (hh : h < 8) (hr : r < 12) (e : rr h = nI r) : ∃ n p, z (125 + r) = nI n ∧ n ≤ 8 ∧ p < n ∧ rp h = nI p ∧ z (137 + 8 * r + p) = nI h ∧ rm h = z (233 + 8 * r + p) ∧ MO (rm h) := by
  rcases H.2 h hh with ⟨a, _⟩ | ⟨r2, n2, p2, h1, h2, h3, h4, h5, h6, h7⟩
  · rw [e] at a; exact absurd a (nI_nm1 (by omega))
  · rw [e] at h5
    obtain rfl := (nI_eq (by omega) (by omega)).mp h5
    obtain ⟨n, hn, en, kn⟩ := H.1 r hr
    rw [h2] at en
    obtain rfl := (nI_eq (by omega) (by omega)).mp en
    obtain ⟨h0, a1, a2, a3, a4, a5, a6⟩ := kn p2 h4
    rw [h7] at a2
    obtain rfl := (nI_eq (by omega) (by omega)).mp a2
    exact ⟨n2, p2, h2, h3, h4, h6, h7, a5, a6⟩
def grC (c : Nat → Nat → Int32) (h r : Nat) : Nat → Nat → Int32 := dqC (up2 (up2 c 0 (h * 12 + r) (c 2 h)) 8 h (c 8 h + 1)) h
theorem grant_S (M : PM) (g h r : Nat) (c : Nat → Nat → Int32) (hh : h < 8) (hr : r < 12) (hw : c 1 h = nI r) : w_X2_grant (setS M g c) g (nI h) = setS M g (grC c h r) := by
  unfold w_X2_grant
  have e8 : up2 c 0 (h * 12 + r) (c 2 h) 8 h = c 8 h := by rw [up2_o _ _ _ _ (by decide)]
  rw [at_S M g 1 h c (by omega) (show h < 8 from hh), hw, at_S M g 2 h c (by omega) (show h < 8 from hh), cell_in, put_S M g 0 (h * 12 + r) c _ (by omega) (show h * 12 + r < 96 by omega), raise_S M g 8 h _ (by omega) (show h < 8 from hh), e8]
  exact dequeue_S M g h _ hh (by rw [up2_o _ _ _ _ (by decide), up2_o _ _ _ _ (by decide), hw]; exact nI_nm1 (by omega))
theorem grC_1 (c : Nat → Nat → Int32) (h r i : Nat) : grC c h r 1 i = if i = h then -1 else c 1 i := by
  unfold grC
  rw [dqC_1, up2_o _ _ _ _ (by decide), up2_o _ _ _ _ (by decide)]
theorem grC_0 (c : Nat → Nat → Int32) (h r : Nat) : grC c h r 0 = up2 c 0 (h * 12 + r) (c 2 h) 0 := by
  unfold grC
  rw [dqC_o _ _ _ (by decide) (by decide) (by decide), up2_o _ _ _ _ (by decide)]
theorem grant_A {c : Nat → Nat → Int32} {z : Nat → Int32} (H : SA c z) {h r n p : Nat} (hh : h < 8) (hr : r < 12) (hn : z (125 + r) = nI n) (h8 : n ≤ 8) (hp : p < n) (e1 : c 1 h = nI r) (e2 : c 3 h = nI p) : SA (grC c h r) (grz z r p n h) := by
  obtain ⟨n2, p2, w1, w2, w3, w4, w5, w6, w7⟩ := rq_w H.2.1 hh hr e1
  rw [hn] at w1
  obtain rfl := (nI_eq (by omega) (by omega)).mp w1
  rw [e2] at w4
  obtain rfl := (nI_eq (by omega) (by omega)).mp w4
  have e8 : z (345 + h) = c 8 h := (H.2.2.1.1 8 h (by omega) (by omega) (show h < 8 from hh)).symm
  unfold grz grC
  rw [← w6, e8]
  have Z : ∀ i, 125 ≤ i → i < 329 → upd (upd z (5 + 12 * h + r) (c 2 h)) (345 + h) (c 8 h + 1) i = z i := by
    intro i a b
    rw [upd_o _ _ _ (by omega), upd_o _ _ _ (by omega)]
  have Q : RQ (up2 (up2 c 0 (h * 12 + r) (c 2 h)) 8 h (c 8 h + 1) 1) (up2 (up2 c 0 (h * 12 + r) (c 2 h)) 8 h (c 8 h + 1) 2) (up2 (up2 c 0 (h * 12 + r) (c 2 h)) 8 h (c 8 h + 1) 3) (upd (upd z (5 + 12 * h + r) (c 2 h)) (345 + h) (c 8 h + 1)) := by
    rw [up2_o _ _ _ _ (show ¬ 1 = 8 by decide), up2_o _ _ _ _ (show ¬ 1 = 0 by decide), up2_o _ _ _ _ (show ¬ 2 = 8 by decide), up2_o _ _ _ _ (show ¬ 2 = 0 by decide), up2_o _ _ _ _ (show ¬ 3 = 8 by decide), up2_o _ _ _ _ (show ¬ 3 = 0 by decide)]
    exact rq_z H.2.1 Z
  have E1 : up2 (up2 c 0 (h * 12 + r) (c 2 h)) 8 h (c 8 h + 1) 1 h = nI r := by rw [up2_o _ _ _ _ (by decide), up2_o _ _ _ _ (by decide)]; exact e1
  have E3 : up2 (up2 c 0 (h * 12 + r) (c 2 h)) 8 h (c 8 h + 1) 3 h = nI p := by rw [up2_o _ _ _ _ (by decide), up2_o _ _ _ _ (by decide)]; exact e2
  have N : upd (upd z (5 + 12 * h + r) (c 2 h)) (345 + h) (c 8 h + 1) (125 + r) = nI n := by rw [Z _ (by omega) (by omega)]; exact hn
  refine ⟨?_, rq_dq Q hh hr N h8 hp E1 E3, ?_, ?_⟩
  · rw [dqC_o _ _ _ (by decide) (by decide) (by decide), up2_o _ _ _ _ (show ¬ 0 = 8 by decide)]
    refine rk_z (rk_up H.1 hr (Or.inr w7)) (fun i a b => ?_)
    rw [uqz_lo _ hr (by omega) (by omega), upd_o _ _ _ (by omega)]
  · refine sc_z (z := upd (upd z (5 + 12 * h + r) (c 2 h)) (345 + h) (c 8 h + 1)) (sc_c (c := up2 (up2 c 0 (h * 12 + r) (c 2 h)) 8 h (c 8 h + 1)) ?_ (fun k a => dqC_o _ _ _ (by omega) (by omega) (by omega))) (fun i a => uqz_lo _ hr (by omega) (by omega))
    refine sc_raise (k := 8) (i := h) (sc_c (c := c) (sc_z H.2.2.1 (fun i a => upd_o _ _ _ (by omega))) (fun k a => up2_o _ _ _ _ (by omega))) (by omega) (by omega) (by omega) (show h < 8 from hh) _
  · refine hf_dq H.2.2.2 H.2.1 hr hn h8 hp e1 e2 Z (fun h' r' a1 a2 a3 => ?_)
    rw [upd_o _ _ _ (by omega), upd_o _ _ _ (by omega)]
theorem dq_M (c : Nat → Nat → Int32) (h : Nat) : MC c (dqC c h) := by
  refine ⟨fun h0 _ k => ?_, fun K H h0 hh0 => ?_, fun k hk => dqC_o _ _ _ (by omega) (by omega) (by omega)⟩
  · rw [dqC_1] at k
    by_cases q : h0 = h
    · rw [if_pos q] at k; exact absurd rfl k
    · rw [if_neg q] at k; exact k
  · obtain ⟨a, q, e1, e2, e3, e4⟩ := H h0 hh0
    refine ⟨a, q, by rw [dqC_o _ _ _ (by decide) (by decide) (by decide)]; exact e1, by rw [dqC_o _ _ _ (by decide) (by decide) (by decide)]; exact e2, ?_, e4⟩
    rw [dqC_1]
    split <;> split at e3 <;> first | omega | (split <;> first | omega | contradiction)
theorem gr_M (c : Nat → Nat → Int32) {h r : Nat} (hw : ¬ c 1 h = -1) : MC c (grC c h r) := by
  refine ⟨fun h0 _ k => ?_, fun K H h0 hh0 => ?_, fun k hk => by unfold grC; rw [dqC_o _ _ _ (by omega) (by omega) (by omega), up2_o _ _ _ _ (by omega), up2_o _ _ _ _ (by omega)]⟩
  · rw [grC_1] at k
    by_cases q : h0 = h
    · rw [if_pos q] at k; exact absurd rfl k
    · rw [if_neg q] at k; exact k
  · obtain ⟨a, q, e1, e2, e3, e4⟩ := H h0 hh0
    have f9 : grC c h r 9 h0 = c 9 h0 := by
      unfold grC
      rw [dqC_o _ _ _ (by decide) (by decide) (by decide), up2_o _ _ _ _ (by decide), up2_o _ _ _ _ (by decide)]
    have f8 : grC c h r 8 h0 = if h0 = h then c 8 h + 1 else c 8 h0 := by
      unfold grC
      rw [dqC_o _ _ _ (by decide) (by decide) (by decide)]
      unfold up2
      by_cases u : h0 = h
      · rw [if_pos ⟨rfl, u⟩, if_pos u]
      · rw [if_neg (fun v => u v.2), if_neg u, if_neg (by omega)]
    rw [f9, f8, grC_1]
    by_cases u : h0 = h
    · subst u
      rw [if_neg hw] at e3
      refine ⟨a, q + 1, e1, by rw [if_pos rfl, e2, nI_1], ?_, e4⟩
      rw [if_pos rfl, if_pos rfl]; omega
    · exact ⟨a, q, e1, by rw [if_neg u]; exact e2, by rw [if_neg u]; exact e3, e4⟩
theorem gr_K (c : Nat → Nat → Int32) {h r : Nat} (hr : r < 12) (hw : ¬ c 1 h = -1) : KL c (grC c h r) := by
  intro h0 r0 hh0 hr0 e
  rw [grC_0]
  unfold up2
  rw [if_neg]
  rintro ⟨_, k⟩
  obtain rfl : h0 = h := by omega
  exact hw e
/-- settle -/
theorem settle_A (M0 M : PM) (g : Nat) {r : Nat} (hr : r < 12) : ∀ (d n j : Nat) (c : Nat → Nat → Int32) (z : Nat → Int32) (x : Int32), n ≤ d → SA c z → z (125 + r) = nI n → n ≤ 8 → ∃ c2, lqv (lq (b_X2_settle_1 M0 g (nI r)) d j (x, setS M g c)) = ((stz r n z x).1, setS M g c2) ∧ SA c2 (stz r n z x).2 ∧ MC c c2 ∧ KL c c2 := by
  intro d
  induction d with
  | zero =>
    intro n j c z x hnd H hn h8
    obtain rfl : n = 0 := by omega
    rw [lq_0]
    exact ⟨c, rfl, H, mc_refl c, kl_refl c⟩
  | succ d ih =>
    intro n j c z x hnd H hn h8
    have hR := sa_rg M g H
    have eq : qn (zm z) r = n := by unfold qn; rw [zz_zm, hn]; exact nI_clamp (by omega)
    have hA := handAt_R hR (p := 0) hr (by omega)
    rw [eq, zz_zm] at hA
    cases n with
    | zero =>
      rw [if_neg (by omega)] at hA
      have hA : v_X2_handAt (setS M g c) g (nI r) 0 = -1 := hA
      have hb : b_X2_settle_1 M0 g (nI r) j (x, setS M g c) = .inr (x, setS M g c) := by
        unfold b_X2_settle_1
        dsimp only
        rw [if_pos hA]
      rw [lq_r hb]
      exact ⟨c, rfl, H, mc_refl c, kl_refl c⟩
    | succ n =>
      rw [if_pos (by omega)] at hA
      obtain ⟨n2, hn2, en2, kn⟩ := H.2.1.1 r hr
      rw [hn] at en2
      obtain rfl := (nI_eq (by omega) (by omega)).mp en2
      obtain ⟨h0, a1, a2, a3, a4, a5, a6⟩ := kn 0 (by omega)
      rw [a2] at hA
      have hA : v_X2_handAt (setS M g c) g (nI r) 0 = nI h0 := hA
      have a2 : z (137 + 8 * r) = nI h0 := a2
      have a5 : c 2 h0 = z (233 + 8 * r) := a5
      have hC := clash_R hR hr a1 a6
      rw [clz_eq, zz_zm] at hC
      unfold stz
      rw [a2, ← a5, nI_clamp (by omega)]
      by_cases cc : clz z r (c 2 h0) (nI h0) = 0
      · rw [if_pos cc]
        have hb : b_X2_settle_1 M0 g (nI r) j (x, setS M g c) = .inl (x + 1, setS M g (grC c h0 r)) := by
          unfold b_X2_settle_1
          dsimp only
          rw [hA, if_neg (nI_nm1 (by omega)), at_S M g 2 h0 c (by omega) (show h0 < 8 from a1), if_pos (hC.mpr cc), grant_S M g h0 r c a1 hr a3]
        rw [lq_l hb]
        have w : ¬ c 1 h0 = -1 := by rw [a3]; exact nI_nm1 (by omega)
        have H2 := grant_A H (p := 0) a1 hr hn h8 (by omega) a3 a4
        obtain ⟨c2, q1, q2, q3, q4⟩ := ih n (j + 1) (grC c h0 r) (grz z r 0 (n + 1) h0) (x + 1) (by omega) H2 (by unfold grz; exact uqz_n _ _ _ _ _) (by omega)
        exact ⟨c2, q1, q2, mc_trans (gr_M c w) q3, kl_trans (gr_K c hr w) (gr_M c w) q4⟩
      · rw [if_neg cc]
        have hb : b_X2_settle_1 M0 g (nI r) j (x, setS M g c) = .inr (x, setS M g c) := by
          unfold b_X2_settle_1
          dsimp only
          rw [hA, if_neg (nI_nm1 (by omega)), at_S M g 2 h0 c (by omega) (show h0 < 8 from a1), if_neg (fun k => cc (hC.mp k))]
        rw [lq_r hb]
        exact ⟨c, rfl, H, mc_refl c, kl_refl c⟩
/-- a row is settled, by class and model -/
theorem settle_R (M m : PM) (g : Nat) {r : Nat} (hr : r < 12) {c : Nat → Nat → Int32} (H : SA c (zz m)) : v_X2_settle (setS M g c) g (nI r) = v_X5_settle m r ∧ ∃ c2, w_X2_settle (setS M g c) g (nI r) = setS M g c2 ∧ SA c2 (zz (w_X5_settle m r)) ∧ MC c c2 ∧ KL c c2 := by
  obtain ⟨n, hn, en, _⟩ := H.2.1.1 r hr
  have eq : qn m r = n := by unfold qn; rw [en]; exact nI_clamp (by omega)
  obtain ⟨c2, q1, q2, q3, q4⟩ := settle_A (setS M g c) M g hr 8 n 0 c (zz m) 0 hn H en hn
  unfold v_X2_settle w_X2_settle v_X5_settle w_X5_settle
  rw [q1, eq, zz_setz]
  exact ⟨rfl, c2, rfl, q2, q3, q4⟩
end
section
/-! release, giveUp, handOn -/
theorem mc_up (c : Nat → Nat → Int32) {k i : Nat} {x : Int32} (hk : k = 0 ∨ k = 5 ∨ k = 7) : MC c (up2 c k i x) := by
  refine ⟨fun h _ q => ?_, fun K q h hh => ?_, fun k2 h2 => up2_o _ _ _ _ (by omega)⟩
  · rw [up2_o _ _ _ _ (by omega)] at q; exact q
  · rw [up2_o _ _ _ _ (by omega), up2_o _ _ _ _ (by omega), up2_o _ _ _ _ (by omega)]; exact q h hh
theorem hf_z {c : Nat → Nat → Int32} {z z2 : Nat → Int32} (H : HF z) (HQ : RQ (c 1) (c 2) (c 3) z) (e1 : ∀ i, 5 ≤ i → i < 101 → z2 i = z i) (e2 : ∀ i, 125 ≤ i → i < 329 → z2 i = z i) : HF z2 := by
  refine hf_same H (fun r hr => e2 _ (by omega) (by omega)) (fun r n p hr hn h8 hp => ?_)
  obtain ⟨n2, hn2, en2, kn⟩ := HQ.1 r hr
  rw [hn] at en2
  obtain rfl := (nI_eq (by omega) (by omega)).mp en2
  obtain ⟨h0, a1, a2, _⟩ := kn p hp
  rw [lkz_h a1 a2, lkz_h (z := z2) a1 (by rw [e2 _ (by omega) (by omega)]; exact a2), e1 _ (by omega) (by omega)]
theorem sa_raise {c : Nat → Nat → Int32} {z : Nat → Int32} (H : SA c z) {k i : Nat} (h4 : 4 ≤ k) (h6 : ¬ k = 6) (h10 : k ≤ 10) (hi : i < nlen k) (x : Int32) : SA (up2 c k i x) (upd z (zof k + i) x) := by
  have hz := zof_in h4 h10 hi
  refine ⟨?_, ?_, sc_raise H.2.2.1 h4 h6 h10 hi x, hf_z H.2.2.2 H.2.1 (fun j a b => upd_o _ _ _ (by omega)) (fun j a b => upd_o _ _ _ (by omega))⟩
  · rw [up2_o _ _ _ _ (by omega)]
    exact rk_z H.1 (fun j a b => upd_o _ _ _ (by omega))
  · rw [up2_o _ _ _ _ (by omega), up2_o _ _ _ _ (by omega), up2_o _ _ _ _ (by omega)]
    exact rq_z H.2.1 (fun j a b => upd_o _ _ _ (by omega))
theorem lock0_A {c : Nat → Nat → Int32} {z : Nat → Int32} (H : SA c z) {h r : Nat} (hh : h < 8) (hr : r < 12) (hw : ¬ c 1 h = nI r) : SA (up2 c 0 (h * 12 + r) 0) (upd z (5 + 12 * h + r) 0) := by
  refine ⟨rk_up H.1 hr (Or.inl rfl), ?_, ?_, ?_⟩
  · rw [up2_o _ _ _ _ (by omega), up2_o _ _ _ _ (by omega), up2_o _ _ _ _ (by omega)]
    exact rq_z H.2.1 (fun j a b => upd_o _ _ _ (by omega))
  · exact sc_c (c := c) (sc_z H.2.2.1 (fun i a => upd_o _ _ _ (by omega))) (fun k a => up2_o _ _ _ _ (by omega))
  · refine hf_same H.2.2.2 (fun r hr => upd_o _ _ _ (by omega)) (fun r2 n p hr2 hn h8 hp => ?_)
    obtain ⟨n2, hn2, en2, kn⟩ := H.2.1.1 r2 hr2
    rw [hn] at en2
    obtain rfl := (nI_eq (by omega) (by omega)).mp en2
    obtain ⟨h0, a1, a2, a3, _⟩ := kn p hp
    rw [lkz_h a1 a2, lkz_h (z := upd z (5 + 12 * h + r) 0) a1 (by rw [upd_o _ _ _ (by omega)]; exact a2)]
    refine upd_o _ _ _ (fun e => hw ?_)
    obtain rfl : h0 = h := by omega
    obtain rfl : r2 = r := by omega
    exact a3
theorem unq_A {c : Nat → Nat → Int32} {z : Nat → Int32} (H : SA c z) {h r n p : Nat} (hh : h < 8) (hr : r < 12) (hn : z (125 + r) = nI n) (h8 : n ≤ 8) (hp : p < n) (e1 : c 1 h = nI r) (e2 : c 3 h = nI p) : SA (dqC c h) (uqz z r p n (n - 1)) := by
  refine ⟨?_, rq_dq H.2.1 hh hr hn h8 hp e1 e2, ?_, hf_dq H.2.2.2 H.2.1 hr hn h8 hp e1 e2 (fun _ _ _ => rfl) (fun _ _ _ _ _ => rfl)⟩
  · rw [dqC_o _ _ _ (by decide) (by decide) (by decide)]
    exact rk_z H.1 (fun i a b => uqz_lo _ hr (by omega) (by omega))
  · exact sc_c (c := c) (sc_z H.2.2.1 (fun i a => uqz_lo _ hr (by omega) (by omega))) (fun k a => dqC_o _ _ _ (by omega) (by omega) (by omega))
theorem release_R (M m : PM) (g : Nat) {c : Nat → Nat → Int32} (H : SA c (zz m)) {h r : Nat} (hh : h < 8) (hr : r < 12) (hw : ¬ c 1 h = nI r) : v_X2_letGo (setS M g c) g (nI h) (nI r) = v_X5_releases m h r ∧ ∃ c2, w_X2_letGo (setS M g c) g (nI h) (nI r) = setS M g c2 ∧ SA c2 (zz (w_X5_releases m h r)) ∧ MC c c2 := by
  have A := lock0_A H hh hr hw
  obtain ⟨q1, c2, q2, q3, q4, _⟩ := settle_R M (w_X5_setLock m h r 0) g hr (c := up2 c 0 (h * 12 + r) 0) (by rw [zz_setLock]; exact A)
  unfold v_X2_letGo w_X2_letGo v_X5_releases w_X5_releases
  rw [cell_in, put_S M g 0 (h * 12 + r) c _ (by omega) (show h * 12 + r < 96 by omega)]
  exact ⟨q1, c2, q2, q3, mc_trans (mc_up c (Or.inl rfl)) q4⟩
theorem qn_of {m : PM} {r n : Nat} (hn : zz m (125 + r) = nI n) (h8 : n ≤ 8) : qn m r = n := by
  unfold qn
  rw [hn]
  exact nI_clamp (by omega)
theorem plc_of {m : PM} {rr rm rp : Nat → Int32} (HQ : RQ rr rm rp (zz m)) {h r p : Nat} (hh : h < 8) (hr : r < 12) (e1 : rr h = nI r) (e2 : rp h = nI p) (hp : p < 8) : plcN m (nI h) r = p := by
  unfold plcN
  rw [placeIn_R HQ hh hr, if_pos e1, e2]
  exact nI_clamp (by omega)
theorem rq_r {rr rm rp z : Nat → Int32} (H : RQ rr rm rp z) {h : Nat} (hh : h < 8) (hw : ¬ rr h = -1) : ∃ r, r < 12 ∧ rr h = nI r := by
  rcases H.2 h hh with ⟨a, _⟩ | ⟨r2, n2, p2, h1, h2, h3, h4, h5, h6, h7⟩
  · exact absurd a hw
  · exact ⟨r2, h1, h5⟩
theorem giveUp_R (M m : PM) (g : Nat) {c : Nat → Nat → Int32} (H : SA c (zz m)) {h : Nat} (hh : h < 8) (hw : ¬ c 1 h = -1) : v_X2_stopWaiting (setS M g c) g (nI h) = v_X5_rowOf m (nI h) ∧ ∃ c2, w_X2_stopWaiting (setS M g c) g (nI h) = setS M g c2 ∧ SA c2 (zz (w_X5_settle (w_X5_unqueue m (rowN m (nI h)) (plcN m (nI h) (rowN m (nI h)))) (rowN m (nI h)))) ∧ MC c c2 := by
  have hro := rowOf_R H.2.1 hh
  obtain ⟨r, hr, e1⟩ := rq_r H.2.1 hh hw
  obtain ⟨n, p, w1, w2, w3, w4, _⟩ := rq_w H.2.1 hh hr e1
  have eN : rowN m (nI h) = r := by unfold rowN; rw [hro, e1]; exact nI_clamp (by omega)
  have eP := plc_of H.2.1 hh hr e1 w4 (by omega)
  have eQ := qn_of w1 w2
  unfold v_X2_stopWaiting w_X2_stopWaiting
  rw [at_S M g 1 h c (by omega) (show h < 8 from hh), hro, eN, eP, dequeue_S M g h c hh hw, e1]
  refine ⟨rfl, ?_⟩
  have A := unq_A H hh hr w1 w2 w3 e1 w4
  obtain ⟨_, c2, q2, q3, q4, _⟩ := settle_R M (w_X5_unqueue m r p) g hr (c := dqC c h) (by unfold w_X5_unqueue; rw [zz_setz, eQ]; exact A)
  exact ⟨c2, q2, q3, mc_trans (dq_M c h) q4⟩
theorem handOn_R (M m : PM) (g : Nat) {c : Nat → Nat → Int32} (H : SA c (zz m)) {h r o : Nat} (hh : h < 8) (hr : r < 12) (ho : o < 8) (hw : ¬ c 1 h = nI r) (hw2 : c 1 o = nI r) : v_X2_passOver (setS M g c) g (nI h) (nI r) (nI o) = v_X5_lockOf (hoC m h r o) o r ∧ ∃ c2, w_X2_passOver (setS M g c) g (nI h) (nI r) (nI o) = setS M g c2 ∧ SA c2 (zz (w_X5_settle (hoC m h r o) r)) ∧ MC c c2 := by
  have A := lock0_A H hh hr hw
  have e1 : up2 c 0 (h * 12 + r) 0 1 o = nI r := by rw [up2_o _ _ _ _ (by decide)]; exact hw2
  have eZ : zz (hoA m h r) = upd (zz m) (5 + 12 * h + r) 0 := zz_setLock m h r 0
  rw [← eZ] at A
  obtain ⟨n, p, w1, w2, w3, w4, _⟩ := rq_w A.2.1 ho hr e1
  have eP := plc_of A.2.1 ho hr e1 w4 (by omega)
  have eQ := qn_of w1 w2
  have B := grant_A A ho hr w1 w2 w3 e1 w4
  have eB : zz (hoB m h r o) = grz (zz (hoA m h r)) r p n o := by unfold hoB; rw [zz_setz, eP, eQ]
  rw [← eB] at B
  have C := sa_raise B (k := 5) (i := r) (by omega) (by omega) (by omega) (show r < 12 from hr) (grC (up2 c 0 (h * 12 + r) 0) o r 5 r + 1)
  have eC : zz (hoC m h r o) = upd (zz (hoB m h r o)) (zof 5 + r) (grC (up2 c 0 (h * 12 + r) 0) o r 5 r + 1) := by
    unfold hoC
    rw [zz_wI, B.2.2.1.1 5 r (by omega) (by omega) (show r < 12 from hr)]
    rfl
  rw [← eC] at C
  obtain ⟨_, c2, q2, q3, q4, q5⟩ := settle_R M (hoC m h r o) g hr C
  unfold v_X2_passOver w_X2_passOver
  rw [cell_in, put_S M g 0 (h * 12 + r) c _ (by omega) (show h * 12 + r < 96 by omega), grant_S M g o r _ ho hr e1, raise_S M g 5 r _ (by omega) (show r < 12 from hr), q2]
  have w : ¬ up2 c 0 (h * 12 + r) 0 1 o = -1 := by rw [e1]; exact nI_nm1 (by omega)
  refine ⟨?_, c2, rfl, q3, mc_trans (mc_up c (Or.inl rfl)) (mc_trans (gr_M _ w) (mc_trans (mc_up _ (Or.inr (Or.inl rfl))) q4))⟩
  rw [cell_in, at_S M g 0 (o * 12 + r) c2 (by omega) (show o * 12 + r < 96 by omega), q5 o r ho hr (by rw [up2_o _ _ _ _ (by decide), grC_1, if_pos rfl]), (C.1 o r ho hr).1]
  rfl
end
section
/-! a losing hand: strip and lose agree -/
theorem mo_0 {x : Int32} (h : x = 0 ∨ MO x) (k : x ≤ 0) : x = 0 := by
  rcases h with h | rfl | rfl | rfl
  · exact h
  all_goals exact absurd k (by decide)
theorem mo_p {x : Int32} (h : x = 0 ∨ MO x) : 0 < x ↔ ¬ x ≤ 0 := by
  rcases h with rfl | rfl | rfl | rfl <;> decide
def szC (c : Nat → Nat → Int32) (h j : Nat) : Nat → Nat → Int32 := fun k i => if k = 0 ∧ 12 * h ≤ i ∧ i < 12 * h + j then 0 else c k i
theorem szC_o (c : Nat → Nat → Int32) (h j k : Nat) (hk : ¬ k = 0) : szC c h j k = c k := by
  funext i
  unfold szC
  rw [if_neg (fun q => hk q.1)]
def lkB (z : Nat → Int32) (h i : Nat) : Bool := !decide (z (5 + 12 * h + i) ≤ 0)
theorem strip_1 (M : PM) (g : Nat) {c : Nat → Nat → Int32} {z : Nat → Int32} (H : RK (c 0) z) {h : Nat} (hh : h < 8) : (lp (b_X2_strip_1 (setS M g c) g (nI h)) 12 0 ((0 : Int32), setS M g c)).2 = setS M g (szC c h 12) ∧ ∀ i, i < 32 → bit (lp (b_X2_strip_1 (setS M g c) g (nI h)) 12 0 ((0 : Int32), setS M g c)).1 i = (decide (i < 12) && lkB z h i) := by
  refine lp_inv (b_X2_strip_1 (setS M g c) g (nI h)) 12 (fun j s => s.2 = setS M g (szC c h j) ∧ ∀ i, i < 32 → bit s.1 i = (decide (i < j) && lkB z h i)) (fun j s hj hs => ?_) 12 0 _ rfl ⟨?_, fun i hi => ?_⟩
  · obtain ⟨b, s⟩ := s
    obtain ⟨e, hb⟩ := hs
    have e : s = setS M g (szC c h j) := e
    have hb : ∀ i, i < 32 → bit b i = (decide (i < j) && lkB z h i) := hb
    subst e
    unfold b_X2_strip_1
    dsimp only
    have e0 : szC c h j 0 (h * 12 + j) = c 0 (h * 12 + j) := by unfold szC; rw [if_neg (by omega)]
    obtain ⟨k1, k2⟩ := H h j hh hj
    have ez : z (5 + 12 * h + j) = c 0 (h * 12 + j) := k1.symm
    rw [cell_in, at_S M g 0 (h * 12 + j) _ (by omega) (show h * 12 + j < 96 by omega), put_S M g 0 (h * 12 + j) _ _ (by omega) (show h * 12 + j < 96 by omega), e0]
    by_cases cc : c 0 (h * 12 + j) ≤ 0
    · rw [if_pos cc, if_pos cc]
      refine ⟨?_, fun i hi => ?_⟩
      · have e1 : c 0 (h * 12 + j) = 0 := mo_0 (by rw [k1]; exact k2) cc
        congr 1
        funext k i
        unfold szC
        by_cases ci : k = 0 ∧ i = h * 12 + j
        · obtain ⟨rfl, rfl⟩ := ci
          rw [if_neg (by omega), if_pos (by omega), e1]
        · by_cases c2 : k = 0 ∧ 12 * h ≤ i ∧ i < 12 * h + j
          · rw [if_pos c2, if_pos (by omega)]
          · rw [if_neg c2, if_neg (by omega)]
      · rw [hb i hi]
        by_cases ci : i = j
        · subst ci
          have : lkB z h i = false := by unfold lkB; rw [ez, decide_eq_true cc]; rfl
          rw [this, Bool.and_false, Bool.and_false]
        · congr 1
          exact decide_eq_decide.mpr (by omega)
    · rw [if_neg cc, if_neg cc]
      refine ⟨?_, fun i hi => ?_⟩
      · congr 1
        funext k i
        unfold up2 szC
        by_cases ci : k = 0 ∧ i = h * 12 + j
        · rw [if_pos ci, if_pos (by omega)]
        · by_cases c2 : k = 0 ∧ 12 * h ≤ i ∧ i < 12 * h + j
          · rw [if_neg ci, if_pos c2, if_pos (by omega)]
          · rw [if_neg ci, if_neg c2, if_neg (by omega)]
      · rw [bit_or, hb i hi, bit_1 hi (by omega)]
        by_cases ci : i = j
        · subst ci
          have : lkB z h i = true := by unfold lkB; rw [ez, decide_eq_false cc]; rfl
          rw [this]
          simp
        · rw [decide_eq_false ci, Bool.or_false]
          congr 1
          exact decide_eq_decide.mpr (by omega)
  · show setS M g c = _
    congr 1
    funext k i
    unfold szC
    rw [if_neg (by omega)]
  · rw [bit_0]; simp
def lzz (z : Nat → Int32) (h j : Nat) : Nat → Int32 := fun i => if 5 + 12 * h ≤ i ∧ i < 5 + 12 * h + j then 0 else z i
theorem lzz_0 (z : Nat → Int32) (h : Nat) : lzz z h 0 = z := by
  funext i
  unfold lzz
  rw [if_neg (by omega)]
theorem lzz_o (z : Nat → Int32) {h j i : Nat} (hi : i < 5 + 12 * h ∨ 5 + 12 * h + j ≤ i) : lzz z h j i = z i := by
  unfold lzz
  rw [if_neg (by omega)]
theorem lzz_s (z : Nat → Int32) (h j : Nat) : upd (lzz z h j) (5 + 12 * h + j) 0 = lzz z h (j + 1) := by
  funext i
  unfold upd lzz
  by_cases ci : i = 5 + 12 * h + j
  · rw [if_pos ci, if_pos (by omega)]
  · rw [if_neg ci]
    by_cases c2 : 5 + 12 * h ≤ i ∧ i < 5 + 12 * h + j
    · rw [if_pos c2, if_pos (by omega)]
    · rw [if_neg c2, if_neg (by omega)]
theorem uqz_upd (z : Nat → Int32) {r p n k i : Nat} (v : Int32) (hr : r < 12) (hk : k ≤ 8) (hi : i < 125) : upd (uqz z r p n k) i v = uqz (upd z i v) r p n k := by
  funext j
  unfold upd uqz
  dsimp only
  by_cases c : j = i
  · rw [if_pos c, if_neg (by omega), if_neg (by omega), if_neg (by omega), if_pos c]
  · rw [if_neg c, if_neg c]
    by_cases c1 : j = 125 + r
    · rw [if_pos c1, if_pos c1]
    · rw [if_neg c1, if_neg c1]
      by_cases c2 : 137 + 8 * r + p ≤ j ∧ j < 137 + 8 * r + k
      · rw [if_pos c2, if_pos c2, if_neg (by omega)]
      · rw [if_neg c2, if_neg c2]
        by_cases c3 : 233 + 8 * r + p ≤ j ∧ j < 233 + 8 * r + k
        · rw [if_pos c3, if_pos c3, if_neg (by omega)]
        · rw [if_neg c3, if_neg c3]
/-- one row of the losing hand's, over the row of numbers z -/
theorem lose_s (m m0 : PM) (z : Nat → Int32) (h j : Nat) (b : Int32) : b_X5_lose_1 m0 h j (b, setz m z) = ((if 0 < z (5 + 12 * h + j) then (1 : Int32) <<< (nI j &&& (31 : Int32)) else if v_X5_placeIn (setz m z) (nI h) j = (-1 : Int32) then 0 else (1 : Int32) <<< (nI j &&& (31 : Int32))) ||| b, setz m (if v_X5_placeIn (setz m z) (nI h) j = (-1 : Int32) then upd z (5 + 12 * h + j) 0 else uqz (upd z (5 + 12 * h + j) 0) j (plcN (setz m z) (nI h) j) (qn (setz m (upd z (5 + 12 * h + j) 0)) j) (qn (setz m (upd z (5 + 12 * h + j) 0)) j - 1))) := by
  unfold b_X5_lose_1 w_X5_unqueue
  dsimp only
  have e1 : v_X5_lockOf (setz m z) h j = z (5 + 12 * h + j) := zs m z _
  have e2 : w_X5_setLock (setz m z) h j 0 = setz m (upd z (5 + 12 * h + j) 0) := wI_setz2 _ _ _ _
  rw [e1, e2, zz_setz, setz_setz]
  by_cases c : v_X5_placeIn (setz m z) (nI h) j = -1
  · simp only [if_pos c]
  · simp only [if_neg c]
theorem lose_1n {m : PM} {c : Nat → Nat → Int32} (H : SA c (zz m)) {h : Nat} (hh : h < 8) (hw : c 1 h = -1) : (lose_1 m h).2 = setz m (lzz (zz m) h 12) ∧ ∀ i, i < 32 → bit (lose_1 m h).1 i = (decide (i < 12) && lkB (zz m) h i) := by
  unfold lose_1
  refine lp_inv (b_X5_lose_1 m h) 12 (fun j s => s.2 = setz m (lzz (zz m) h j) ∧ ∀ i, i < 32 → bit s.1 i = (decide (i < j) && lkB (zz m) h i)) (fun j s hj hs => ?_) 12 0 _ rfl ⟨?_, fun i hi => ?_⟩
  · obtain ⟨b, s⟩ := s
    obtain ⟨e, hb⟩ := hs
    have e : s = setz m (lzz (zz m) h j) := e
    have hb : ∀ i, i < 32 → bit b i = (decide (i < j) && lkB (zz m) h i) := hb
    subst e
    rw [lose_s]
    have hp : v_X5_placeIn (setz m (lzz (zz m) h j)) (nI h) j = -1 := by
      rw [placeIn_R (rr := c 1) (rm := c 2) (rp := c 3) (by rw [zz_setz]; exact rq_z H.2.1 (fun i a b => lzz_o _ (by omega))) hh hj, if_neg]
      rw [hw]
      exact fun q => nI_nm1 (show j < 2 ^ 31 by omega) q.symm
    have el : lzz (zz m) h j (5 + 12 * h + j) = zz m (5 + 12 * h + j) := lzz_o _ (by omega)
    rw [hp, if_pos rfl, if_pos rfl, lzz_s, el]
    refine ⟨rfl, fun i hi => ?_⟩
    have kl := (H.1 h j hh hj).2
    rw [bit_or, hb i hi]
    by_cases ci : i = j
    · subst ci
      by_cases cl : zz m (5 + 12 * h + i) ≤ 0
      · have : lkB (zz m) h i = false := by unfold lkB; rw [decide_eq_true cl]; rfl
        rw [if_neg (fun q => (mo_p kl).mp q cl), bit_0, this]; simp
      · have : lkB (zz m) h i = true := by unfold lkB; rw [decide_eq_false cl]; rfl
        rw [if_pos ((mo_p kl).mpr cl), bit_1 hi hi, this]; simp
    · have e2 : decide (i < j + 1) = decide (i < j) := decide_eq_decide.mpr (by omega)
      rw [e2]
      have e3 : bit (if 0 < zz m (5 + 12 * h + j) then (1 : Int32) <<< (nI j &&& (31 : Int32)) else 0) i = false := by
        split
        · rw [bit_1 hi (by omega)]; simp [ci]
        · exact bit_0 i
      rw [e3, Bool.false_or]
  · show m = _
    rw [lzz_0, setz_zz]
  · rw [bit_0]; simp
theorem lose_1w {m : PM} {c : Nat → Nat → Int32} (H : SA c (zz m)) {h r n p : Nat} (hh : h < 8) (hr : r < 12) (hn : zz m (125 + r) = nI n) (h8 : n ≤ 8) (hp : p < n) (e1 : c 1 h = nI r) (e2 : c 3 h = nI p) : (lose_1 m h).2 = setz m (uqz (lzz (zz m) h 12) r p n (n - 1)) ∧ ∀ i, i < 32 → bit (lose_1 m h).1 i = (decide (i < 12) && (lkB (zz m) h i || decide (i = r))) := by
  have K : (lose_1 m h).2 = setz m (if r < 12 then uqz (lzz (zz m) h 12) r p n (n - 1) else lzz (zz m) h 12) ∧ ∀ i, i < 32 → bit (lose_1 m h).1 i = (decide (i < 12) && (lkB (zz m) h i || decide (i = r))) := by
    unfold lose_1
    refine lp_inv (b_X5_lose_1 m h) 12 (fun j s => s.2 = setz m (if r < j then uqz (lzz (zz m) h j) r p n (n - 1) else lzz (zz m) h j) ∧ ∀ i, i < 32 → bit s.1 i = (decide (i < j) && (lkB (zz m) h i || decide (i = r)))) (fun j s hj hs => ?_) 12 0 _ rfl ⟨?_, fun i hi => ?_⟩
    · obtain ⟨b, s⟩ := s
      obtain ⟨e, hb⟩ := hs
      have e : s = setz m (if r < j then uqz (lzz (zz m) h j) r p n (n - 1) else lzz (zz m) h j) := e
      have hb : ∀ i, i < 32 → bit b i = (decide (i < j) && (lkB (zz m) h i || decide (i = r))) := hb
      subst e
      rw [lose_s]
      have Q : RQ (c 1) (c 2) (c 3) (lzz (zz m) h j) := rq_z H.2.1 (fun i a b => lzz_o _ (by omega))
      have N : lzz (zz m) h j (125 + r) = nI n := by rw [lzz_o _ (by omega)]; exact hn
      have el : (if r < j then uqz (lzz (zz m) h j) r p n (n - 1) else lzz (zz m) h j) (5 + 12 * h + j) = zz m (5 + 12 * h + j) := by
        split
        · rw [uqz_lo _ hr (by omega) (by omega)]; exact lzz_o _ (by omega)
        · exact lzz_o _ (by omega)
      rw [el]
      have kl := (H.1 h j hh hj).2
      by_cases cj : j = r
      · subst cj
        rw [if_neg (show ¬ j < j by omega)]
        have hpl : v_X5_placeIn (setz m (lzz (zz m) h j)) (nI h) j = nI p := by
          rw [placeIn_R (rr := c 1) (rm := c 2) (rp := c 3) (by rw [zz_setz]; exact Q) hh hr, if_pos e1, e2]
        have hpn : plcN (setz m (lzz (zz m) h j)) (nI h) j = p := by unfold plcN; rw [hpl]; exact nI_clamp (by omega)
        have hq : qn (setz m (upd (lzz (zz m) h j) (5 + 12 * h + j) 0)) j = n := qn_of (by rw [zz_setz, upd_o _ _ _ (by omega)]; exact N) h8
        rw [hpn, hq, hpl, if_neg (nI_nm1 (by omega)), if_neg (nI_nm1 (by omega)), lzz_s, if_pos (show j < j + 1 by omega)]
        refine ⟨rfl, fun i hi => ?_⟩
        have e5 : (if 0 < zz m (5 + 12 * h + j) then (1 : Int32) <<< (nI j &&& (31 : Int32)) else (1 : Int32) <<< (nI j &&& (31 : Int32))) = (1 : Int32) <<< (nI j &&& (31 : Int32)) := by split <;> rfl
        rw [e5, bit_or, hb i hi, bit_1 hi (by omega)]
        by_cases ci : i = j
        · subst ci; simp
        · have e2 : decide (i < j + 1) = decide (i < j) := decide_eq_decide.mpr (by omega)
          rw [e2, decide_eq_false ci, Bool.false_or]
      · have hpl : v_X5_placeIn (setz m (if r < j then uqz (lzz (zz m) h j) r p n (n - 1) else lzz (zz m) h j)) (nI h) j = -1 := by
          by_cases cl : r < j
          · rw [if_pos cl, placeIn_R (rr := dqC c h 1) (rm := dqC c h 2) (rp := dqC c h 3) (by rw [zz_setz]; exact rq_dq Q hh hr N h8 hp e1 e2) hh hj, if_neg]
            rw [dqC_1, if_pos rfl]
            exact fun q => nI_nm1 (show j < 2 ^ 31 by omega) q.symm
          · rw [if_neg cl, placeIn_R (rr := c 1) (rm := c 2) (rp := c 3) (by rw [zz_setz]; exact Q) hh hj, if_neg]
            rw [e1]
            exact fun q => cj ((nI_eq (by omega) (by omega)).mp q).symm
        rw [hpl, if_pos rfl, if_pos rfl]
        refine ⟨?_, fun i hi => ?_⟩
        · dsimp only
          congr 1
          by_cases cl : r < j
          · rw [if_pos cl, if_pos (by omega), uqz_upd _ _ hr (by omega) (by omega), lzz_s]
          · rw [if_neg cl, if_neg (by omega), lzz_s]
        · rw [bit_or, hb i hi]
          by_cases ci : i = j
          · subst ci
            by_cases cl : zz m (5 + 12 * h + i) ≤ 0
            · have : lkB (zz m) h i = false := by unfold lkB; rw [decide_eq_true cl]; rfl
              rw [if_neg (fun q => (mo_p kl).mp q cl), bit_0, this, decide_eq_false cj]; simp
            · have : lkB (zz m) h i = true := by unfold lkB; rw [decide_eq_false cl]; rfl
              rw [if_pos ((mo_p kl).mpr cl), bit_1 hi hi, this]; simp
          · have e2 : decide (i < j + 1) = decide (i < j) := decide_eq_decide.mpr (by omega)
            rw [e2]
            have e3 : bit (if 0 < zz m (5 + 12 * h + j) then (1 : Int32) <<< (nI j &&& (31 : Int32)) else 0) i = false := by
              split
              · rw [bit_1 hi (by omega)]; simp [ci]
              · exact bit_0 i
            rw [e3, Bool.false_or]
    · show m = _
      rw [if_neg (by omega), lzz_0, setz_zz]
    · rw [bit_0]; simp
  rw [if_pos hr] at K
  exact K
end
section
/-! strip and lose agree, and the rows that are settled behind -/
def stD (c : Nat → Nat → Int32) (h : Nat) : Nat → Nat → Int32 := if c 1 h = -1 then szC c h 12 else dqC (szC c h 12) h
def stC (c : Nat → Nat → Int32) (h : Nat) : Nat → Nat → Int32 := up2 (stD c h) 7 h (c 7 h + 1)
theorem stD_o (c : Nat → Nat → Int32) (h k : Nat) (hk : 4 ≤ k) : stD c h k = c k := by
  unfold stD
  split
  · exact szC_o _ _ _ _ (by omega)
  · rw [dqC_o _ _ _ (by omega) (by omega) (by omega)]
    exact szC_o _ _ _ _ (by omega)
theorem strip_C (M : PM) (g : Nat) {c : Nat → Nat → Int32} {z : Nat → Int32} (H : SA c z) {h : Nat} (hh : h < 8) : w_X2_strip (setS M g c) g (nI h) = setS M g (stC c h) ∧ ∀ i, i < 32 → bit (v_X2_strip (setS M g c) g (nI h)) i = (decide (i < 12) && (lkB z h i || decide (c 1 h = nI i))) := by
  obtain ⟨e, hb⟩ := strip_1 M g H.1 hh
  have e1 : szC c h 12 1 = c 1 := szC_o _ _ _ _ (by decide)
  have e7 : szC c h 12 7 = c 7 := szC_o _ _ _ _ (by decide)
  unfold w_X2_strip v_X2_strip v_X2_isWaiting
  rw [e, at_S M g 1 h _ (by omega) (show h < 8 from hh), e1]
  by_cases cw : c 1 h = -1
  · rw [if_pos cw, if_pos rfl, if_pos rfl, raise_S M g 7 h _ (by omega) (show h < 8 from hh)]
    refine ⟨?_, fun i hi => ?_⟩
    · unfold stC stD
      rw [if_pos cw, e7]
    · rw [hb i hi]
      have : decide (c 1 h = nI i) = false := decide_eq_false (by rw [cw]; exact fun q => nI_nm1 (show i < 2 ^ 31 by omega) q.symm)
      rw [this, Bool.or_false]
  · rw [if_neg cw, if_neg (by decide), if_neg (by decide), dequeue_S M g h _ hh (by rw [e1]; exact cw), raise_S M g 7 h _ (by omega) (show h < 8 from hh)]
    refine ⟨?_, fun i hi => ?_⟩
    · unfold stC stD
      rw [if_neg cw, dqC_o _ _ _ (by decide) (by decide) (by decide), e7]
    · obtain ⟨r, hr, er⟩ := rq_r H.2.1 hh cw
      have ei : decide (c 1 h = nI i) = decide (i = r) := decide_eq_decide.mpr ⟨fun q => by rw [er] at q; exact ((nI_eq (by omega) (by omega)).mp q).symm, fun q => by rw [q]; exact er⟩
      rw [bit_or, hb i hi, ei, er, bit_1 hi (by omega)]
      by_cases ci : i = r
      · subst ci; simp [hr]
      · rw [decide_eq_false ci, Bool.or_false, Bool.or_false]
theorem szl_K {c : Nat → Nat → Int32} {z : Nat → Int32} (H : RK (c 0) z) (h : Nat) : RK (szC c h 12 0) (lzz z h 12) := by
  intro h2 r hh2 hr
  unfold szC lzz
  by_cases e : h2 = h
  · subst e
    rw [if_pos (by omega), if_pos (by omega)]
    exact ⟨rfl, Or.inl rfl⟩
  · rw [if_neg (by omega), if_neg (by omega)]
    exact H h2 r hh2 hr
theorem strip_A {m : PM} {c : Nat → Nat → Int32} (H : SA c (zz m)) {h : Nat} (hh : h < 8) : SA (stC c h) (zz (lose_2 m h)) ∧ MC c (stC c h) ∧ stC c h 1 h = -1 ∧ ∀ i, i < 32 → bit (lose_1 m h).1 i = (decide (i < 12) && (lkB (zz m) h i || decide (c 1 h = nI i))) := by
  have Q : RQ (szC c h 12 1) (szC c h 12 2) (szC c h 12 3) (lzz (zz m) h 12) := by
    rw [szC_o _ _ _ _ (by decide), szC_o _ _ _ _ (by decide), szC_o _ _ _ _ (by decide)]
    exact rq_z H.2.1 (fun i a b => lzz_o _ (by omega))
  have C : SC (szC c h 12) (lzz (zz m) h 12) := sc_c (c := c) (sc_z H.2.2.1 (fun i a => lzz_o _ (by omega))) (fun k a => szC_o _ _ _ _ (by omega))
  have K := szl_K H.1 h
  have fin : ∀ Z : Nat → Int32, SA (stD c h) Z → (lose_1 m h).2 = setz m Z → SA (stC c h) (zz (lose_2 m h)) := by
    intro Z HZ e
    have k := sa_raise HZ (k := 7) (i := h) (by omega) (by omega) (by omega) (show h < 8 from hh) (c 7 h + 1)
    have e2 : zz (lose_2 m h) = upd Z (zof 7 + h) (c 7 h + 1) := by
      unfold lose_2
      rw [zz_wI, e, zz_setz, zs]
      have e3 := HZ.2.2.1.1 7 h (by omega) (by omega) (show h < 8 from hh)
      rw [stD_o _ _ _ (by omega)] at e3
      rw [e3]
      rfl
    rw [e2]
    exact k
  by_cases cw : c 1 h = -1
  · obtain ⟨e, hb⟩ := lose_1n H hh cw
    have eD : stD c h = szC c h 12 := by unfold stD; rw [if_pos cw]
    refine ⟨fin _ ?_ e, ?_, ?_, fun i hi => ?_⟩
    · rw [eD]
      refine ⟨K, Q, C, hf_same H.2.2.2 (fun r hr => lzz_o _ (by omega)) (fun r n p hr hn h8 hp => ?_)⟩
      obtain ⟨n2, hn2, en2, kn⟩ := H.2.1.1 r hr
      rw [hn] at en2
      obtain rfl := (nI_eq (by omega) (by omega)).mp en2
      obtain ⟨h0, a1, a2, a3, _⟩ := kn p hp
      rw [lkz_h a1 a2, lkz_h (z := lzz (zz m) h 12) a1 (by rw [lzz_o _ (by omega)]; exact a2)]
      refine lzz_o _ ?_
      have : ¬ h0 = h := by
        intro q
        subst q
        rw [cw] at a3
        exact nI_nm1 (show r < 2 ^ 31 by omega) a3.symm
      omega
    · unfold stC
      rw [eD]
      refine mc_trans (c2 := szC c h 12) ⟨fun h0 _ q => ?_, fun K q h0 hh0 => ?_, fun k hk => szC_o _ _ _ _ (by omega)⟩ (mc_up _ (Or.inr (Or.inr rfl)))
      · rw [szC_o _ _ _ _ (by decide)] at q; exact q
      · rw [szC_o _ _ _ _ (by decide), szC_o _ _ _ _ (by decide), szC_o _ _ _ _ (by decide)]; exact q h0 hh0
    · unfold stC
      rw [up2_o _ _ _ _ (by decide), eD, szC_o _ _ _ _ (by decide)]
      exact cw
    · rw [hb i hi]
      have : decide (c 1 h = nI i) = false := decide_eq_false (by rw [cw]; exact fun q => nI_nm1 (show i < 2 ^ 31 by omega) q.symm)
      rw [this, Bool.or_false]
  · obtain ⟨r, hr, er⟩ := rq_r H.2.1 hh cw
    obtain ⟨n, p, w1, w2, w3, w4, _⟩ := rq_w H.2.1 hh hr er
    obtain ⟨e, hb⟩ := lose_1w H hh hr w1 w2 w3 er w4
    have eD : stD c h = dqC (szC c h 12) h := by unfold stD; rw [if_neg cw]
    have E1 : szC c h 12 1 h = nI r := by rw [szC_o _ _ _ _ (by decide)]; exact er
    have E3 : szC c h 12 3 h = nI p := by rw [szC_o _ _ _ _ (by decide)]; exact w4
    have N : lzz (zz m) h 12 (125 + r) = nI n := by rw [lzz_o _ (by omega)]; exact w1
    refine ⟨fin _ ?_ e, ?_, ?_, fun i hi => ?_⟩
    · rw [eD]
      refine ⟨?_, rq_dq Q hh hr N w2 w3 E1 E3, ?_, hf_dq H.2.2.2 H.2.1 hr w1 w2 w3 er w4 (fun i a b => lzz_o _ (by omega)) (fun h' r' a1 a2 a3 => lzz_o _ (by omega))⟩
      · rw [dqC_o _ _ _ (by decide) (by decide) (by decide)]
        exact rk_z K (fun i a b => uqz_lo _ hr (by omega) (by omega))
      · exact sc_c (c := szC c h 12) (sc_z C (fun i a => uqz_lo _ hr (by omega) (by omega))) (fun k a => dqC_o _ _ _ (by omega) (by omega) (by omega))
    · unfold stC
      rw [eD]
      refine mc_trans (c2 := szC c h 12) ⟨fun h0 _ q => ?_, fun K q h0 hh0 => ?_, fun k hk => szC_o _ _ _ _ (by omega)⟩ (mc_trans (dq_M _ h) (mc_up _ (Or.inr (Or.inr rfl))))
      · rw [szC_o _ _ _ _ (by decide)] at q; exact q
      · rw [szC_o _ _ _ _ (by decide), szC_o _ _ _ _ (by decide), szC_o _ _ _ _ (by decide)]; exact q h0 hh0
    · unfold stC
      rw [up2_o _ _ _ _ (by decide), eD, dqC_1, if_pos rfl]
    · have ei : decide (c 1 h = nI i) = decide (i = r) := decide_eq_decide.mpr ⟨fun q => by rw [er] at q; exact ((nI_eq (by omega) (by omega)).mp q).symm, fun q => by rw [q]; exact er⟩
      rw [hb i hi, ei]
theorem sa_rgm (M m : PM) (g : Nat) {c : Nat → Nat → Int32} (H : SA c (zz m)) : RG (setS M g c) m g := by
  unfold RG
  rw [cl_setS M g 0 c (by omega), cl_setS M g 1 c (by omega), cl_setS M g 2 c (by omega), cl_setS M g 3 c (by omega)]
  exact ⟨H.1, H.2.1⟩
/-- a hand loses, in class and model -/
theorem lose_R (M0 M m : PM) (g j1 : Nat) (a1 a2 a3 : Int32) {c : Nat → Nat → Int32} (H : SA c (zz m)) {h : Nat} (hh : h < 8) (hl : v_X2_loserFor (setS M g c) g a1 = nI h) : ∃ c2, lp (b_X2_takeAsking_2 M0 g a1 a2 a3 j1 (setS M g c)) 12 0 (w_X2_strip (setS M g c) g (nI h)) = setS M g c2 ∧ SA c2 (zz (w_X5_lose m h)) ∧ MC c c2 ∧ c2 1 h = -1 := by
  obtain ⟨e, hb⟩ := strip_C M g H hh
  obtain ⟨A, B, C, hb2⟩ := strip_A H hh
  obtain ⟨c2, q1, q2, q3⟩ := lp_rel (b_X2_takeAsking_2 M0 g a1 a2 a3 j1 (setS M g c)) (b_X5_lose_2 (lose_1 m h).1) 12 (fun _ s t => ∃ c2, s = setS M g c2 ∧ SA c2 (zz t) ∧ MC (stC c h) c2) (fun j s t hj hs => by
    obtain ⟨c2, q1, q2, q3⟩ := hs
    subst q1
    unfold b_X2_takeAsking_2 b_X5_lose_2
    rw [hl]
    have hbj := hb j (by omega)
    rw [← hb2 j (by omega)] at hbj
    by_cases cb : bit (lose_1 m h).1 j = true
    · rw [if_neg (show ¬ v_X4_has (setS M g c2) (v_X2_strip (setS M g c) g (nI h)) (nI j) = 0 from fun q => (has_bit (setS M g c2) _ (by omega)).mp q (by rw [hbj]; exact cb)), if_neg (show ¬ ¬ _ from fun q => q ((bit_q1 (by omega)).mpr cb))]
      obtain ⟨_, c3, w1, w2, w3, _⟩ := settle_R M t g hj q2
      exact ⟨c3, w1, w2, mc_trans q3 w3⟩
    · rw [if_pos ((has_bit (setS M g c2) _ (by omega)).mpr (by rw [hbj]; exact cb)), if_pos (show ¬ _ from fun q => cb ((bit_q1 (by omega)).mp q))]
      exact ⟨c2, rfl, q2, q3⟩) 12 0 (w_X2_strip (setS M g c) g (nI h)) (lose_2 m h) rfl ⟨stC c h, e, A, mc_refl _⟩
  exact ⟨c2, q1, q2, mc_trans B q3, Classical.byContradiction fun k => q3.1 h hh k C⟩
end
section
/-! the turns of a ring; asking -/
theorem ring_R (M0 M : PM) (g : Nat) (a2 a3 : Int32) {h : Nat} (hh : h < 8) : ∀ (d j : Nat) (c : Nat → Nat → Int32) (m : PM), SA c (zz m) → ∃ c2, lqv (lq (b_X2_takeAsking_1 M0 g (nI h) a2 a3) d j (setS M g c)) = setS M g c2 ∧ SA c2 (zz (ring h d m)) ∧ MC c c2 := by
  intro d
  induction d with
  | zero => intro j c m H; rw [lq_0]; exact ⟨c, rfl, H, mc_refl c⟩
  | succ d ih =>
    intro j c m H
    have hL := loser_R (sa_rgm M m g H) hh
    unfold ring
    by_cases cr : v_X5_isInRing m (nI h) = 0
    · rw [if_pos cr] at hL
      have hb : b_X2_takeAsking_1 M0 g (nI h) a2 a3 j (setS M g c) = .inr (setS M g c) := by
        unfold b_X2_takeAsking_1
        rw [hL, if_neg (fun q => q rfl)]
      rw [lq_r hb, if_pos cr]
      exact ⟨c, rfl, H, mc_refl c⟩
    · obtain ⟨l, hl, el⟩ := loser_in hh cr
      rw [if_neg cr, el] at hL
      obtain ⟨c2, q1, q2, q3, _⟩ := lose_R M0 M m g j (nI h) a2 a3 H hl hL
      have hb : b_X2_takeAsking_1 M0 g (nI h) a2 a3 j (setS M g c) = .inl (setS M g c2) := by
        unfold b_X2_takeAsking_1
        rw [hL, if_pos (nI_nm1 (by omega)), q1]
      rw [lq_l hb, if_neg cr, el, nI_clamp (by omega)]
      obtain ⟨c3, w1, w2, w3⟩ := ih (j + 1) c2 _ q2
      exact ⟨c3, w1, w2, mc_trans q3 w3⟩
/-- how many hands wait -/
def cntW (c : Nat → Nat → Int32) : Nat := cntP (fun h => !decide (c 1 h = -1)) 8
theorem cntP_le (P Q : Nat → Bool) : ∀ N, (∀ h, h < N → P h = true → Q h = true) → cntP P N ≤ cntP Q N := by
  intro N
  induction N with
  | zero => intro _; exact Nat.le_refl _
  | succ N ih =>
    intro h
    unfold cntP
    have k := ih (fun q hq => h q (by omega))
    by_cases c : P N = true
    · rw [if_pos c, if_pos (h N (by omega) c)]; omega
    · rw [if_neg c]; omega
theorem cntP_N (P : Nat → Bool) : ∀ N, cntP P N ≤ N := by
  intro N
  induction N with
  | zero => exact Nat.le_refl _
  | succ N ih => unfold cntP; split <;> omega
theorem cntP_lt (P : Nat → Bool) {h : Nat} (hp : P h = false) : ∀ N, h < N → cntP P N < N := by
  intro N
  induction N with
  | zero => intro q; omega
  | succ N ih =>
    intro hN
    unfold cntP
    by_cases c : h = N
    · subst c
      rw [hp]
      have := cntP_N P h
      simp
      omega
    · have := ih (by omega)
      split <;> omega
theorem cntW_lt {c c2 : Nat → Nat → Int32} (hm : MC c c2) {l : Nat} (hl : l < 8) (h1 : ¬ c 1 l = -1) (h2 : c2 1 l = -1) : cntW c2 < cntW c := by
  unfold cntW
  rw [cntP_rm (fun h => !decide (c 1 h = -1)) l (by simp [h1]) 8, if_pos hl]
  have k := cntP_le (fun h => !decide (c2 1 h = -1)) (fun h => (!decide (c 1 h = -1)) && !decide (h = l)) 8 (fun h hh q => by
    have q : ¬ c2 1 h = -1 := by simpa using q
    have q1 := hm.1 h hh q
    have q2 : ¬ h = l := fun e => by subst e; exact q h2
    simp [q1, q2])
  omega
theorem reach_0 (M : PM) (g : Nat) {c : Nat → Nat → Int32} {h : Nat} (hh : h < 8) (hw : c 1 h = -1) : v_X2_reach (setS M g c) g (nI h) = 0 := by
  have e : v_X2_direct (setS M g c) g (nI h) = 0 := by
    unfold v_X2_direct v_X2_isWaiting
    rw [at_S M g 1 h c (by omega) (show h < 8 from hh), if_pos hw, if_neg (fun q => q rfl)]
  have e2 : ∀ j, lp (b_X2_reach_2 (setS M g c) g (nI h) j 0) 8 0 0 = 0 := by
    intro j
    refine lp_inv (b_X2_reach_2 (setS M g c) g (nI h) j 0) 8 (fun _ s => s = 0) (fun i s hi hs => ?_) 8 0 0 rfl rfl
    unfold b_X2_reach_2
    rw [hs, if_pos ((has_bit (setS M g c) _ (by omega)).mpr (by rw [bit_0]; decide))]
  unfold v_X2_reach
  rw [e]
  have hb : b_X2_reach_1 (setS M g c) g (nI h) 0 0 = .inr 0 := by
    unfold b_X2_reach_1
    rw [e2 0, if_neg (fun q => q rfl)]
  rw [lq_r hb]
  rfl
theorem over_0 {c : Nat → Nat → Int32} {m : PM} (H : SA c (zz m)) {h : Nat} (hh : h < 8) (hw : c 1 h = -1) : v_X5_waitsOver m (nI h) = 0 := by
  rw [← reach_R (sa_rgm m m 0 H) hh]
  exact reach_0 m 0 hh hw
theorem loser_w {c : Nat → Nat → Int32} {m : PM} (H : SA c (zz m)) {h l : Nat} (hh : h < 8) (hl : l < 8) (e : v_X5_loserFor m (nI h) = nI l) : ¬ c 1 l = -1 := by
  have k := lp_inv (b_X5_loserFor_1 m (nI h)) 8 (fun _ s => s = -1 ∨ ∃ l, l < 8 ∧ s = nI l ∧ bit (v_X5_waitsOver m (nI l)) h = true) (fun j s hj hs => by
    unfold b_X5_loserFor_1
    by_cases c1 : (v_X5_waitsOver m (nI h) >>> (nI j &&& (31 : Int32))) &&& (1 : Int32) = 1
    · rw [if_pos c1]
      by_cases c2 : (v_X5_waitsOver m (nI j) >>> (nI h &&& (31 : Int32))) &&& (1 : Int32) = 1
      · rw [if_pos c2]
        have b2 := (bit_q1 (show h < 32 by omega)).mp c2
        split
        · exact Or.inr ⟨j, hj, rfl, b2⟩
        · split
          · exact hs
          · exact Or.inr ⟨j, hj, rfl, b2⟩
      · rw [if_neg c2]; exact hs
    · rw [if_neg c1]; exact hs) 8 0 (-1) rfl (Or.inl rfl)
  intro cw
  rcases k with k | ⟨l2, hl2, k1, k2⟩
  · have e2 : v_X5_loserFor m (nI h) = -1 := k
    rw [e] at e2
    exact nI_nm1 (by omega) e2
  · have e2 : v_X5_loserFor m (nI h) = nI l2 := k1
    rw [e] at e2
    obtain rfl := (nI_eq (by omega) (by omega)).mp e2
    rw [over_0 H hl cw, bit_0] at k2
    exact absurd k2 (by decide)
theorem ring_end {h : Nat} (hh : h < 8) : ∀ (d : Nat) (c : Nat → Nat → Int32) (m : PM), SA c (zz m) → cntW c ≤ d → v_X5_isInRing (ring h d m) (nI h) = 0 := by
  intro d
  induction d with
  | zero =>
    intro c m H hc
    unfold ring
    refine (inRing_bit m hh).mpr ?_
    have hw : c 1 h = -1 := by
      refine Classical.byContradiction fun q => ?_
      have := cntP_rm (fun h => !decide (c 1 h = -1)) h (by simp [q]) 8
      rw [if_pos hh] at this
      unfold cntW at hc
      omega
    rw [over_0 H hh hw, bit_0]
    decide
  | succ d ih =>
    intro c m H hc
    unfold ring
    by_cases cr : v_X5_isInRing m (nI h) = 0
    · rw [if_pos cr]; exact cr
    · obtain ⟨l, hl, el⟩ := loser_in hh cr
      rw [if_neg cr, el, nI_clamp (by omega)]
      have hL := loser_R (sa_rgm m m 0 H) hh
      rw [if_neg cr, el] at hL
      obtain ⟨c2, _, q2, q3, q4⟩ := lose_R m m m 0 0 (nI h) 0 0 H hl hL
      have := cntW_lt q3 hl (loser_w H hh hl el) q4
      exact ih c2 _ q2 (by omega)
theorem row_cnt {rr rm rp z : Nat → Int32} (H : RQ rr rm rp z) {r n : Nat} (hr : r < 12) (en : z (125 + r) = nI n) (hn : n ≤ 8) : cntP (fun h => decide (rr h = nI r)) 8 = n := by
  obtain ⟨n2, hn2, en2, kn⟩ := H.1 r hr
  rw [en] at en2
  obtain rfl := (nI_eq (by omega) (by omega)).mp en2
  refine cntP_n 8 n _ (fun p => (z (137 + 8 * r + p)).toNatClampNeg) (fun p hp => ?_) (fun p q hp hq e => ?_) (fun h hh hP => ?_)
  · obtain ⟨h, hh, f1, f2, _⟩ := kn p hp
    have e : (z (137 + 8 * r + p)).toNatClampNeg = h := by rw [f1]; exact nI_clamp (by omega)
    show (z (137 + 8 * r + p)).toNatClampNeg < 8 ∧ _
    rw [e]
    exact ⟨hh, decide_eq_true f2⟩
  · obtain ⟨h, hh, f1, f2, f3, _⟩ := kn p hp
    obtain ⟨h2, hh2, g1, g2, g3, _⟩ := kn q hq
    have e : (z (137 + 8 * r + p)).toNatClampNeg = (z (137 + 8 * r + q)).toNatClampNeg := e
    rw [f1, g1, nI_clamp (by omega), nI_clamp (by omega)] at e
    subst e
    rw [f3] at g3
    exact (nI_eq (by omega) (by omega)).mp g3
  · have hP : rr h = nI r := of_decide_eq_true hP
    rcases H.2 h hh with ⟨a, _⟩ | ⟨r2, n2, p2, h1, h2, h3, h4, h5, h6, h7⟩
    · rw [hP] at a; exact absurd a (nI_nm1 (by omega))
    · rw [hP] at h5
      obtain rfl := (nI_eq (by omega) (by omega)).mp h5
      rw [en] at h2
      obtain rfl := (nI_eq (by omega) (by omega)).mp h2
      refine ⟨p2, h4, ?_⟩
      show (z (137 + 8 * r + p2)).toNatClampNeg = h
      rw [h7]
      exact nI_clamp (by omega)
theorem row_lt {rr rm rp z : Nat → Int32} (H : RQ rr rm rp z) {h r n : Nat} (hh : h < 8) (hr : r < 12) (en : z (125 + r) = nI n) (hn : n ≤ 8) (hw : rr h = -1) : n < 8 := by
  have k := row_cnt H hr en hn
  have k2 := cntP_lt (fun h => decide (rr h = nI r)) (h := h) (decide_eq_false (by rw [hw]; exact fun q => nI_nm1 (show r < 2 ^ 31 by omega) q.symm)) 8 hh
  omega
/-- behind asking: counts of asking may be one more -/
def AK (c c2 : Nat → Nat → Int32) : Prop := (∀ K, CN c K → CN c2 (K + 1)) ∧ ∀ k, k = 4 ∨ k = 6 ∨ k = 10 ∨ k = 11 → c2 k = c k
theorem takeAsking_R (M m : PM) (g : Nat) {c : Nat → Nat → Int32} (H : SA c (zz m)) {h r : Nat} {md : Int32} (hh : h < 8) (hr : r < 12) (hm : MO md) (hw : c 1 h = -1) : v_X2_takeAsking (setS M g c) g (nI h) (nI r) md = v_X5_asks m h r md ∧ (∃ c2, w_X2_takeAsking (setS M g c) g (nI h) (nI r) md = setS M g c2 ∧ SA c2 (zz (w_X5_asks m h r md)) ∧ AK c c2) ∧ qn m r < 8 ∧ (v_X5_lockOf (askA m h) h r < md → v_X5_isInRing (askR m h r md) (nI h) = 0) := by
  -- the count of asking
  have A := sa_raise H (k := 9) (i := h) (by omega) (by omega) (by omega) (show h < 8 from hh) (c 9 h + 1)
  have eA : zz (askA m h) = upd (zz m) (zof 9 + h) (c 9 h + 1) := by
    unfold askA
    rw [zz_wI, H.2.2.1.1 9 h (by omega) (by omega) (show h < 8 from hh)]
    rfl
  rw [← eA] at A
  have w1 : up2 c 9 h (c 9 h + 1) 1 h = -1 := by rw [up2_o _ _ _ _ (by decide)]; exact hw
  have eR := raise_S M g 9 h c (by omega) (show h < 8 from hh)
  have aA : ∀ K, CN c K → CN (up2 c 9 h (c 9 h + 1)) (K + 1) ∧ ∃ a q : Nat, up2 c 9 h (c 9 h + 1) 9 h = nI a ∧ up2 c 9 h (c 9 h + 1) 8 h = nI q ∧ q + 1 ≤ a ∧ a ≤ K + 1 := by
    intro K hK
    have e9 : ∀ i, up2 c 9 h (c 9 h + 1) 9 i = if i = h then c 9 h + 1 else c 9 i := by
      intro i
      unfold up2
      by_cases q : i = h
      · rw [if_pos ⟨rfl, q⟩, if_pos q]
      · rw [if_neg (fun k => q k.2), if_neg q]
    have e8 : up2 c 9 h (c 9 h + 1) 8 = c 8 := up2_o _ _ _ _ (by decide)
    have e1 : up2 c 9 h (c 9 h + 1) 1 = c 1 := up2_o _ _ _ _ (by decide)
    refine ⟨fun i hi => ?_, ?_⟩
    · obtain ⟨a, q, b1, b2, b3, b4⟩ := hK i hi
      rw [e9, e8, e1]
      by_cases k : i = h
      · subst k
        exact ⟨a + 1, q, by rw [if_pos rfl, b1, nI_1], b2, by omega, by omega⟩
      · exact ⟨a, q, by rw [if_neg k]; exact b1, b2, b3, by omega⟩
    · obtain ⟨a, q, b1, b2, b3, b4⟩ := hK h hh
      rw [e9, e8, if_pos rfl]
      exact ⟨a + 1, q, by rw [b1, nI_1], b2, by omega, by omega⟩
  obtain ⟨n, hn, en, kn⟩ := A.2.1.1 r hr
  have n8 : n < 8 := row_lt A.2.1 hh hr en hn w1
  have en0 : zz m (125 + r) = nI n := by rw [eA, show zof 9 + h = 353 + h from rfl, upd_o _ _ _ (show ¬ 125 + r = 353 + h by omega)] at en; exact en
  have eq0 : qn m r = n := qn_of en0 hn
  have eq : qn (askA m h) r = n := qn_of en hn
  have eL : v_X5_lockOf (askA m h) h r = c 0 (h * 12 + r) := by
    have k := (A.1 h r hh hr).1
    rw [up2_o _ _ _ _ (by decide)] at k
    exact k.symm
  -- the request
  have pl := plz_le (zz (askA m h)) r h n
  have B : SA (enC (up2 c 9 h (c 9 h + 1)) h r md (plz (zz (askA m h)) r h n)) (zz (w_X5_enqueue (askA m h) r h md)) := by
    unfold w_X5_enqueue
    rw [zz_setz, eq]
    refine ⟨?_, rq_en A.2.1 hh hr en n8 pl hm w1, ?_, hf_en A.2.2.2 A.2.1 hh hr en n8 w1⟩
    · rw [enC_o _ _ _ _ _ _ (by decide) (by decide) (by decide)]
      exact rk_z A.1 (fun i a b => enz_lo _ hr n8 pl (by omega))
    · exact sc_c (c := up2 c 9 h (c 9 h + 1)) (sc_z A.2.2.1 (fun i a => enz_lo _ hr n8 pl (by omega))) (fun k a => enC_o _ _ _ _ _ _ (by omega) (by omega) (by omega))
  have eE := enqueue_S M g h r _ md (up2 c 9 h (c 9 h + 1)) hh (plS_A M g A hh hr en hn)
  obtain ⟨_, c3, s1, s2, s3, _⟩ := settle_R M (w_X5_enqueue (askA m h) r h md) g hr B
  have s2 : SA c3 (zz (askC m h r md)) := s2
  obtain ⟨c4, t1, t2, t3⟩ := ring_R (setS M g c) M g (nI r) md hh 8 0 c3 _ s2
  have t2 : SA c4 (zz (askR m h r md)) := t2
  have aB : ∀ K, CN c K → CN (enC (up2 c 9 h (c 9 h + 1)) h r md (plz (zz (askA m h)) r h n)) (K + 1) := by
    intro K hK i hi
    obtain ⟨k1, a, q, b1, b2, b3, b4⟩ := aA K hK
    rw [enC_o _ _ _ _ _ _ (by decide) (by decide) (by decide), enC_o _ _ _ _ _ _ (by decide) (by decide) (by decide), enC_1]
    by_cases k : i = h
    · subst k
      rw [if_pos rfl, if_neg (nI_nm1 (by omega))]
      exact ⟨a, q, b1, b2, b3, b4⟩
    · rw [if_neg k]; exact k1 i hi
  unfold v_X2_takeAsking w_X2_takeAsking v_X5_asks w_X5_asks
  rw [eR, cell_in, at_S M g 0 (h * 12 + r) _ (by omega) (show h * 12 + r < 96 by omega), up2_o _ _ _ _ (show ¬ 0 = 9 by decide), eL, eE, s1, t1, eq0]
  refine ⟨?_, ?_, n8, fun _ => ring_end hh 8 c3 _ s2 (cntP_N _ 8)⟩
  · by_cases c0 : c 0 (h * 12 + r) < md
    · rw [if_pos c0, if_pos c0, cell_in, at_S M g 0 (h * 12 + r) _ (by omega) (show h * 12 + r < 96 by omega), (t2.1 h r hh hr).1, ← waits_R (M := setS M g c4) (m := askR m h r md) (g := g) (rm := c4 2) (rp := c4 3) (by rw [cl_setS M g 1 c4 (by omega)]; exact t2.2.1) hh]
      rfl
    · rw [if_neg c0, if_neg c0]
  · by_cases c0 : c 0 (h * 12 + r) < md
    · rw [if_pos c0, if_pos c0]
      refine ⟨c4, rfl, t2, fun K hK => t3.2.1 _ (s3.2.1 _ (aB K hK)), fun k hk => ?_⟩
      rw [t3.2.2 k hk, s3.2.2 k hk, enC_o _ _ _ _ _ _ (by omega) (by omega) (by omega), up2_o _ _ _ _ (by omega)]
    · rw [if_neg c0, if_neg c0, raise_S M g 8 h _ (by omega) (show h < 8 from hh)]
      have D := sa_raise A (k := 8) (i := h) (by omega) (by omega) (by omega) (show h < 8 from hh) (up2 c 9 h (c 9 h + 1) 8 h + 1)
      refine ⟨_, rfl, ?_, fun K hK => ?_, fun k hk => ?_⟩
      · rw [zz_wI]
        have e8 := A.2.2.1.1 8 h (by omega) (by omega) (show h < 8 from hh)
        rw [show (askA m h).1 8 0 0 (345 + h) = up2 c 9 h (c 9 h + 1) 8 h from e8.symm]
        exact D
      · intro i hi
        obtain ⟨k1, a, q, b1, b2, b3, b4⟩ := aA K hK
        rw [up2_o _ _ _ _ (show ¬ 9 = 8 by decide), up2_o (up2 c 9 h (c 9 h + 1)) _ _ _ (show ¬ 1 = 8 by decide)]
        by_cases k : i = h
        · subst k
          refine ⟨a, q + 1, b1, ?_, ?_, b4⟩
          · unfold up2 at b2 ⊢
            rw [if_pos ⟨rfl, rfl⟩, b2, nI_1]
          · rw [w1, if_pos rfl]; omega
        · obtain ⟨a2, q2, d1, d2, d3, d4⟩ := k1 i hi
          refine ⟨a2, q2, d1, ?_, d3, d4⟩
          rw [← d2]
          show up2 _ 8 h _ 8 i = _
          unfold up2
          rw [if_neg (fun u => k u.2)]
      · rw [up2_o _ _ _ _ (by omega), up2_o _ _ _ _ (by omega)]
end
section
/-! heat: a tick agrees -/
/-- settings and heat within their bounds -/
def BC (c : Nat → Nat → Int32) : Prop := (∃ n, n ≤ 900 ∧ c 10 0 = nI n) ∧ (∃ n, n ≤ 20 ∧ c 10 1 = nI n) ∧ (∃ n, n ≤ 50 ∧ c 10 2 = nI n) ∧ ∀ r, r < 12 → ∃ n, n ≤ 1000 ∧ c 4 r = nI n
theorem bc_c {c c2 : Nat → Nat → Int32} (H : BC c) (h4 : c2 4 = c 4) (h10 : c2 10 = c 10) : BC c2 := by
  unfold BC
  rw [h4, h10]
  exact H
/-- a greatest mode -/
theorem great_or {m : PM} {lk : Nat → Int32} (H : RK lk (zz m)) {r : Nat} (hr : r < 12) : ∃ k, k ≤ 3 ∧ v_X5_greatestOf m r = nI k := by
  refine lp_inv (b_X5_greatestOf_1 m r) 8 (fun _ s => ∃ k, k ≤ 3 ∧ s = nI k) (fun j s hj hs => ?_) 8 0 0 rfl ⟨0, by omega, rfl⟩
  unfold b_X5_greatestOf_1
  split
  · exact hs
  · rcases (H j r hj hr).2 with e | e | e | e
    · exact ⟨0, by omega, e⟩
    · exact ⟨1, by omega, e⟩
    · exact ⟨2, by omega, e⟩
    · exact ⟨3, by omega, e⟩
/-- the heat behind a tick, as a number -/
def htN (n k a b : Nat) : Nat := if k = 0 then n - b else if n + k * a < 1000 then n + k * a else 1000
theorem htN_le {n k a b : Nat} (hn : n ≤ 1000) : htN n k a b ≤ 1000 := by unfold htN; (repeat' split) <;> omega
theorem h_lt {a : Nat} (h : a < 1000) : nI a < (1000 : Int32) := nI_lt (b := 1000) h (by omega)
theorem h_nlt {a : Nat} (h : 1000 ≤ a) (h2 : a < 2 ^ 31) : ¬ nI a < (1000 : Int32) := nI_nlt (b := 1000) (a := a) h h2
theorem h_le {a : Nat} (h : a ≤ 1000) : nI a ≤ (1000 : Int32) := nI_le (b := 1000) h (by omega)
theorem h_nle {a : Nat} (h : 1000 < a) (h2 : a < 2 ^ 31) : ¬ nI a ≤ (1000 : Int32) := nI_ge (a := 1000) h h2
theorem h_0 {a : Nat} (h : 0 < a) (h2 : a < 2 ^ 31) : (0 : Int32) < nI a := nI_lt (a := 0) h h2
theorem heat_C {n k a b : Nat} (hn : n ≤ 1000) (hk : k ≤ 3) (ha : a ≤ 20) (hb : b ≤ 50) : (if nI k ≤ 0 then (if (0 : Int32) < nI n - nI b then nI n - nI b else 0) else (if nI n + nI k * nI a < (1000 : Int32) then nI n + nI k * nI a else 1000)) = nI (htN n k a b) := by
  have hm : k * a ≤ 60 := by
    have := Nat.mul_le_mul hk ha
    omega
  unfold htN
  by_cases ck : k = 0
  · subst ck
    rw [if_pos (by decide), if_pos rfl]
    by_cases cb : b < n
    · rw [nI_sub2 (by omega), if_pos (h_0 (by omega) (by omega))]
    · by_cases ce : n = b
      · subst ce
        rw [nI_sub2 (by omega), Nat.sub_self, if_neg (by decide)]
        rfl
      · have : nI n - nI b < 0 := pk_sneg (by omega) (by omega)
        rw [if_neg (fun q => Int32.lt_irrefl (Int32.lt_trans q this)), show n - b = 0 by omega]
        rfl
  · rw [if_neg (nI_nle (by omega) (by omega)), if_neg ck, pk_mul, nI_add]
    by_cases c : n + k * a < 1000
    · rw [if_pos c, if_pos (h_lt c)]
    · rw [if_neg c, if_neg (h_nlt (by omega) (by omega))]
      rfl
theorem heat_M {n k a b : Nat} (hn : n ≤ 1000) (hk : k ≤ 3) (ha : a ≤ 20) (hb : b ≤ 50) {x : Int32} (hx : x = nI n + (if nI k ≤ 0 then -(nI b) else nI k * nI a)) : (if 0 ≤ x then (if x ≤ (1000 : Int32) then x else 1000) else 0) = nI (htN n k a b) := by
  have hm : k * a ≤ 60 := by
    have := Nat.mul_le_mul hk ha
    omega
  unfold htN
  by_cases ck : k = 0
  · subst ck
    rw [if_pos (by decide), ← Int32.sub_eq_add_neg] at hx
    rw [if_pos rfl]
    by_cases cb : b ≤ n
    · rw [nI_sub2 cb] at hx
      rw [hx, if_pos (nI_pos' (by omega)), if_pos (h_le (by omega))]
    · have : nI n - nI b < 0 := pk_sneg (by omega) (by omega)
      rw [hx, if_neg (Int32.not_le.mpr this), show n - b = 0 by omega]
      rfl
  · rw [if_neg (nI_nle (by omega) (by omega)), pk_mul, nI_add] at hx
    rw [if_neg ck, hx, if_pos (nI_pos' (by omega))]
    by_cases c : n + k * a < 1000
    · rw [if_pos c, if_pos (h_le (by omega))]
    · rw [if_neg c]
      by_cases c2 : n + k * a = 1000
      · rw [c2, if_pos (by decide)]
      · rw [if_neg (h_nle (by omega) (by omega))]
        rfl
theorem sa_tick {c : Nat → Nat → Int32} {z : Nat → Int32} (H : SA c z) (x : Int32) : SA (up2 c 11 0 x) (upd z 3 x) := by
  refine ⟨?_, ?_, ⟨fun k i h4 h10 hi => ?_, ?_, ?_⟩, hf_z H.2.2.2 H.2.1 (fun j a b => upd_o _ _ _ (by omega)) (fun j a b => upd_o _ _ _ (by omega))⟩
  · rw [up2_o _ _ _ _ (by omega)]
    exact rk_z H.1 (fun j a b => upd_o _ _ _ (by omega))
  · rw [up2_o _ _ _ _ (by omega), up2_o _ _ _ _ (by omega), up2_o _ _ _ _ (by omega)]
    exact rq_z H.2.1 (fun j a b => upd_o _ _ _ (by omega))
  · have hz := zof_in h4 h10 hi
    rw [up2_o _ _ _ _ (by omega), upd_o _ _ _ (by omega)]
    exact H.2.2.1.1 k i h4 h10 hi
  · rw [upd_s]; unfold up2; rw [if_pos ⟨rfl, rfl⟩]
  · rw [up2_o _ _ _ _ (by omega), upd_o _ _ _ (by omega)]
    exact H.2.2.1.2.2
/-- what counting needs, as it was -/
def EC (c c2 : Nat → Nat → Int32) : Prop := c2 1 = c 1 ∧ c2 8 = c 8 ∧ c2 9 = c 9
theorem ec_cn {c c2 : Nat → Nat → Int32} (h : EC c c2) {K : Nat} (k : CN c K) : CN c2 K := by
  unfold CN
  rw [h.1, h.2.1, h.2.2]
  exact k
theorem tick_1R (M0 M m : PM) (g : Nat) {c : Nat → Nat → Int32} (H : SA c (zz m)) (B : BC c) : ∃ c2, lp (b_X2_tick_1 M0 g) 12 0 (setS M g (up2 c 11 0 (c 11 0 + 1))) = setS M g c2 ∧ SA c2 (zz (tick_1 m)) ∧ BC c2 ∧ EC c c2 ∧ zz (tick_1 m) 4 = zz m 4 := by
  refine lp_rel (b_X2_tick_1 M0 g) b_X5_tick_1 12 (fun _ s t => ∃ c2, s = setS M g c2 ∧ SA c2 (zz t) ∧ BC c2 ∧ EC c c2 ∧ zz t 4 = zz m 4) (fun j s t hj hs => ?_) 12 0 _ (wI m 8 0 0 3 (m.1 8 0 0 3 + 1)) rfl ⟨_, rfl, ?_, bc_c B (up2_o _ _ _ _ (by decide)) (up2_o _ _ _ _ (by decide)), ⟨up2_o _ _ _ _ (by decide), up2_o _ _ _ _ (by decide), up2_o _ _ _ _ (by decide)⟩, ?_⟩
  · obtain ⟨c2, rfl, S, B2, E, e4⟩ := hs
    obtain ⟨⟨n0, _, _⟩, ⟨n1, hn1, en1⟩, ⟨n2, hn2, en2⟩, hh⟩ := id B2
    obtain ⟨n, hn, en⟩ := hh j hj
    obtain ⟨k, hk, ek⟩ := great_or S.1 hj
    have eg := greatest_R (sa_rgm M t g S) hj
    rw [ek] at eg
    have v : v_X2_heatAfter (setS M g c2) g (nI n) (nI k) = nI (htN n k n1 n2) := by
      unfold v_X2_heatAfter
      have a2 := at_S M g 10 2 c2 (by omega) (show 2 < 3 by omega)
      have a1 := at_S M g 10 1 c2 (by omega) (show 1 < 3 by omega)
      rw [show v_X1_at (setS M g c2) 10 g (2 : Int32) = nI n2 from a2.trans en2, show v_X1_at (setS M g c2) 10 g (1 : Int32) = nI n1 from a1.trans en1]
      exact heat_C hn hk hn1 hn2
    have w : (if 0 ≤ heatN t j then (if heatN t j ≤ (1000 : Int32) then heatN t j else 1000) else 0) = nI (htN n k n1 n2) := by
      refine heat_M hn hk hn1 hn2 ?_
      unfold heatN
      rw [ek]
      have b1 := S.2.2.1.1 10 1 (by omega) (by omega) (show 1 < 3 by omega)
      have b2 := S.2.2.1.1 10 2 (by omega) (by omega) (show 2 < 3 by omega)
      have b4 := S.2.2.1.1 4 j (by omega) (by omega) (show j < 12 from hj)
      rw [show t.1 8 0 0 (101 + j) = nI n from b4.symm.trans en, show t.1 8 0 0 2 = nI n2 from b2.symm.trans en2, show t.1 8 0 0 1 = nI n1 from b1.symm.trans en1]
    unfold b_X2_tick_1 b_X5_tick_1
    rw [at_S M g 4 j c2 (by omega) (show j < 12 from hj), en, eg, v, w, put_S M g 4 j c2 _ (by omega) (show j < 12 from hj)]
    refine ⟨_, rfl, ?_, ?_, ⟨?_, ?_, ?_⟩, ?_⟩
    · rw [zz_wI]
      exact sa_raise S (k := 4) (i := j) (by omega) (by omega) (by omega) (show j < 12 from hj) _
    · refine ⟨?_, ?_, ?_, fun r hr => ?_⟩
      · rw [up2_o _ _ _ _ (by decide)]; exact B2.1
      · rw [up2_o _ _ _ _ (by decide)]; exact B2.2.1
      · rw [up2_o _ _ _ _ (by decide)]; exact B2.2.2.1
      · unfold up2
        by_cases q : r = j
        · rw [if_pos ⟨rfl, q⟩]; exact ⟨_, htN_le hn, rfl⟩
        · rw [if_neg (fun u => q u.2)]; exact hh r hr
    · rw [up2_o _ _ _ _ (by decide)]; exact E.1
    · rw [up2_o _ _ _ _ (by decide)]; exact E.2.1
    · rw [up2_o _ _ _ _ (by decide)]; exact E.2.2
    · rw [zz_wI, upd_o _ _ _ (by omega)]; exact e4
  · rw [zz_wI, H.2.2.1.2.1]
    exact sa_tick H _
  · rw [zz_wI, upd_o _ _ _ (by omega)]
theorem bsum_up (f : Nat → Int32) {h : Nat} (hh : h < 8) (f2 : Nat → Int32) (e : ∀ i, f2 i = if i = h then f h + 1 else f i) : bsum f2 = bsum f + 1 := by
  have k := lp_rel (fun j s => s + f2 j) (fun j s => s + f j) 8 (fun j s t => s = t + (if h < j then 1 else 0)) (fun j s t hj hs => by
    show s + f2 j = t + f j + _
    rw [hs, e j]
    by_cases c : j = h
    · subst c
      rw [if_pos rfl, if_neg (by omega), if_pos (by omega)]
      grind
    · rw [if_neg c]
      by_cases c2 : h < j
      · rw [if_pos c2, if_pos (by omega)]; grind
      · rw [if_neg c2, if_neg (by omega)]; grind) 8 0 0 0 rfl (by rw [if_neg (by omega)]; rfl)
  rw [if_pos hh] at k
  exact k
end
section
/-! burnt hands, and the whole tick -/
theorem cntP_s (P : Nat → Bool) (N : Nat) : cntP P (N + 1) = cntP P N + (if P N then 1 else 0) := rfl
/-- as far as hand j, in class (x, s) and model (y, t) -/
def BR (M m : PM) (g r : Nat) (c : Nat → Nat → Int32) (j : Nat) (s t : Int32 × PM) : Prop := s.1 = t.1 ∧ s.1 = nI (cntP (fun h => !decide (zz m (5 + 12 * h + r) ≤ 0)) j) ∧ ∃ c2, s.2 = setS M g c2 ∧ RK (c2 0) (zz t.2) ∧ (∀ k i, 4 ≤ k → k ≤ 10 → i < nlen k → c2 k i = zz t.2 (zof k + i)) ∧ (∀ k, ¬ k = 0 → ¬ k = 6 → c2 k = c k) ∧ bsum (c2 6) = bsum (c 6) + s.1 ∧ (∀ i, i < 5 ∨ (125 ≤ i ∧ i < 329) → zz t.2 i = zz m i) ∧ ∀ h r', h < 8 → r' < 12 → zz t.2 (5 + 12 * h + r') = if r' = r ∧ h < j then 0 else zz m (5 + 12 * h + r')
theorem burn_R (M0 M m : PM) (g : Nat) {r : Nat} (hr : r < 12) {c : Nat → Nat → Int32} (H : SA c (zz m)) : BR M m g r c 8 (lp (b_X2_burn_1 M0 g (nI r)) 8 0 ((0 : Int32), setS M g c)) (lp (b_X5_burn_1 m r) 8 0 ((0 : Int32), m)) := by
  refine lp_rel (b_X2_burn_1 M0 g (nI r)) (b_X5_burn_1 m r) 8 (BR M m g r c) (fun j s t hj hs => ?_) 8 0 _ _ rfl ⟨rfl, rfl, c, rfl, H.1, H.2.2.1.1, fun _ _ _ => rfl, (Int32.add_zero _).symm, fun _ _ => rfl, fun h r' _ _ => by rw [if_neg (by omega)]⟩
  obtain ⟨x, s⟩ := s
  obtain ⟨y, t⟩ := t
  obtain ⟨e1, e2, c2, e3, K, C, E, S, Z, L⟩ := hs
  change x = y at e1
  change x = nI (cntP (fun h => !decide (zz m (5 + 12 * h + r) ≤ 0)) j) at e2
  change s = setS M g c2 at e3
  change RK (c2 0) (zz t) at K
  change ∀ k i, 4 ≤ k → k ≤ 10 → i < nlen k → c2 k i = zz t (zof k + i) at C
  change bsum (c2 6) = bsum (c 6) + x at S
  change ∀ i, i < 5 ∨ (125 ≤ i ∧ i < 329) → zz t i = zz m i at Z
  change ∀ h r', h < 8 → r' < 12 → zz t (5 + 12 * h + r') = if r' = r ∧ h < j then 0 else zz m (5 + 12 * h + r') at L
  subst e1
  subst e3
  have lj := L j r hj hr
  rw [if_neg (by omega)] at lj
  have kj := (K j r hj hr).1
  have eM : v_X5_lockOf t j r = zz t (5 + 12 * j + r) := rfl
  unfold BR b_X2_burn_1 b_X5_burn_1
  dsimp only
  rw [cell_in, at_S M g 0 (j * 12 + r) c2 (by omega) (show j * 12 + r < 96 by omega), kj, eM]
  by_cases cc : zz t (5 + 12 * j + r) ≤ 0
  · simp only [if_pos cc]
    refine ⟨trivial, ?_, c2, rfl, K, C, E, S, Z, fun h r' hh hr' => ?_⟩
    · rw [e2, cntP_s, ← lj, decide_eq_true cc]
      rfl
    · rw [L h r' hh hr']
      by_cases q : r' = r ∧ h = j
      · obtain ⟨rfl, rfl⟩ := q
        rw [if_neg (by omega), if_pos (by omega), ← lj]
        exact mo_0 (K h r' hh hr').2 cc
      · by_cases q2 : r' = r ∧ h < j
        · rw [if_pos q2, if_pos (by omega)]
        · rw [if_neg q2, if_neg (by omega)]
  · simp only [if_neg cc]
    have b6 : c2 6 j = zz t (329 + j) := C 6 j (by omega) (by omega) (show j < 8 from hj)
    have eS : w_X1_raise (w_X1_put (setS M g c2) 0 g (nI (j * 12 + r)) 0) 6 g (nI j) = setS M g (up2 (up2 c2 0 (j * 12 + r) 0) 6 j (c2 6 j + 1)) := by
      rw [put_S M g 0 (j * 12 + r) c2 _ (by omega) (show j * 12 + r < 96 by omega), raise_S M g 6 j _ (by omega) (show j < 8 from hj), up2_o _ _ _ _ (show ¬ 6 = 0 by decide)]
    have eZ : zz (wI (w_X5_setLock t j r 0) 8 0 0 (329 + j) ((w_X5_setLock t j r 0).1 8 0 0 (329 + j) + 1)) = upd (upd (zz t) (5 + 12 * j + r) 0) (329 + j) (c2 6 j + 1) := by
      have k : (w_X5_setLock t j r 0).1 8 0 0 (329 + j) = zz t (329 + j) := by
        have q := congrFun (zz_setLock t j r 0) (329 + j)
        rw [upd_o _ _ _ (by omega)] at q
        exact q
      rw [zz_wI, zz_setLock, k, b6]
    rw [eS, eZ]
    refine ⟨trivial, ?_, _, rfl, ?_, fun k i h4 h10 hi => ?_, fun k h0 h6 => ?_, ?_, fun i hi => ?_, fun h r' hh hr' => ?_⟩
    · rw [e2, nI_1, cntP_s, ← lj, decide_eq_false cc]
      rfl
    · rw [up2_o _ _ _ _ (show ¬ 0 = 6 by decide)]
      exact rk_z (rk_up K hr (Or.inl rfl)) (fun i a b => upd_o _ _ _ (by omega))
    · have hz := zof_in h4 h10 hi
      unfold up2 upd
      by_cases q : k = 6 ∧ i = j
      · obtain ⟨rfl, rfl⟩ := q
        rw [if_pos ⟨rfl, rfl⟩, if_pos (show zof 6 + i = 329 + i from rfl)]
      · rw [if_neg q, if_neg (by omega), if_neg (show ¬ zof k + i = 329 + j from fun u => q (zof_inj (k := 6) (i := j) (by omega) (by omega) (show j < 8 from hj) h4 h10 hi u)), if_neg (by omega)]
        exact C k i h4 h10 hi
    · rw [up2_o _ _ _ _ h6, up2_o _ _ _ _ h0]
      exact E k h0 h6
    · rw [bsum_up (c2 6) hj _ (fun i => by
        unfold up2
        by_cases q : i = j
        · rw [if_pos ⟨rfl, q⟩, if_pos q]
        · rw [if_neg (fun u => q u.2), if_neg q, if_neg (by omega)]), S]
      exact Int32.add_assoc _ _ _
    · rw [upd_o _ _ _ (by omega), upd_o _ _ _ (by omega)]
      exact Z i hi
    · rw [upd_o _ _ _ (by omega)]
      by_cases q : r' = r ∧ h = j
      · obtain ⟨rfl, rfl⟩ := q
        rw [upd_s, if_pos (by omega)]
      · rw [upd_o _ _ _ (by omega), L h r' hh hr']
        by_cases q2 : r' = r ∧ h < j
        · rw [if_pos q2, if_pos (by omega)]
        · rw [if_neg q2, if_neg (by omega)]
/-- a row's locks are burnt -/
theorem burn_A (M0 M m : PM) (g : Nat) {r : Nat} (hr : r < 12) {c : Nat → Nat → Int32} (H : SA c (zz m)) : (lp (b_X2_burn_1 M0 g (nI r)) 8 0 ((0 : Int32), setS M g c)).1 = v_X5_burn m r ∧ v_X5_burn m r = nI (cntP (fun h => !decide (zz m (5 + 12 * h + r) ≤ 0)) 8) ∧ ∃ c2, (lp (b_X2_burn_1 M0 g (nI r)) 8 0 ((0 : Int32), setS M g c)).2 = setS M g c2 ∧ SA c2 (zz (w_X5_burn m r)) ∧ (∀ k, ¬ k = 0 → ¬ k = 6 → c2 k = c k) ∧ zz (w_X5_burn m r) 4 = zz m 4 + v_X5_burn m r := by
  obtain ⟨e1, e2, c2, e3, K, C, E, S, Z, L⟩ := burn_R M0 M m g hr H
  have e4 : zz (w_X5_burn m r) = upd (zz (lp (b_X5_burn_1 m r) 8 0 ((0 : Int32), m)).2) 4 (zz m 4 + v_X5_burn m r) := by
    unfold w_X5_burn
    rw [zz_wI]
    rw [show (lp (b_X5_burn_1 m r) 8 0 ((0 : Int32), m)).2.1 8 0 0 4 = zz m 4 from Z 4 (by omega)]
    rfl
  have e2' : v_X5_burn m r = nI (cntP (fun h => !decide (zz m (5 + 12 * h + r) ≤ 0)) 8) := e1.symm.trans e2
  refine ⟨e1, e2', c2, e3, ?_, E, ?_⟩
  · rw [e4]
    refine ⟨rk_z K (fun i a b => upd_o _ _ _ (by omega)), ?_, ⟨fun k i h4 h10 hi => ?_, ?_, ?_⟩, ?_⟩
    · rw [E 1 (by omega) (by omega), E 2 (by omega) (by omega), E 3 (by omega) (by omega)]
      refine rq_z H.2.1 (fun i a b => ?_)
      rw [upd_o _ _ _ (by omega)]
      exact Z i (by omega)
    · have hz := zof_in h4 h10 hi
      rw [upd_o _ _ _ (by omega)]
      exact C k i h4 h10 hi
    · rw [upd_o _ _ _ (by omega), Z 3 (by omega), E 11 (by omega) (by omega)]
      exact H.2.2.1.2.1
    · rw [upd_s, S, H.2.2.1.2.2]
      rw [e1]
      rfl
    · intro r2 n p q hr2 hn h8 hpq hq
      have Z2 : ∀ i, 125 ≤ i → i < 329 → upd (zz (lp (b_X5_burn_1 m r) 8 0 ((0 : Int32), m)).2) 4 (zz m 4 + v_X5_burn m r) i = zz m i := fun i a b => by rw [upd_o _ _ _ (by omega)]; exact Z i (by omega)
      rw [Z2 _ (by omega) (by omega)] at hn
      obtain ⟨n2, hn2, en2, kn⟩ := H.2.1.1 r2 hr2
      rw [hn] at en2
      obtain rfl := (nI_eq (by omega) (by omega)).mp en2
      have V : ∀ a, a < n → lkz (upd (zz (lp (b_X5_burn_1 m r) 8 0 ((0 : Int32), m)).2) 4 (zz m 4 + v_X5_burn m r)) r2 a = if r2 = r then 0 else lkz (zz m) r2 a := by
        intro a ha
        obtain ⟨h0, a1, a2, _⟩ := kn a ha
        rw [lkz_h a1 a2, lkz_h a1 (by rw [Z2 _ (by omega) (by omega)]; exact a2), upd_o _ _ _ (by omega), L h0 r2 a1 hr2]
        by_cases k : r2 = r
        · rw [if_pos ⟨k, a1⟩, if_pos k]
        · rw [if_neg (fun u => k u.1), if_neg k]
      rw [V q hq, V p (by omega)]
      by_cases k : r2 = r
      · rw [if_pos k, if_pos k]; exact fun u => absurd (by decide) u
      · rw [if_neg k, if_neg k]; exact H.2.2.2 r2 n p q hr2 hn h8 hpq hq
  · rw [e4, upd_s]
theorem tick_2R (M0 M m : PM) (g : Nat) {c : Nat → Nat → Int32} (H : SA c (zz m)) (B : BC c) : ∃ c2, (lp (b_X2_tick_2 M0 g) 12 0 ((0 : Int32), setS M g c)).2 = setS M g c2 ∧ SA c2 (zz (lp b_X5_tick_2 12 0 ((0 : Int32), m)).2) ∧ BC c2 ∧ (∀ K, CN c K → CN c2 K) ∧ (lp (b_X2_tick_2 M0 g) 12 0 ((0 : Int32), setS M g c)).1 = zz (lp b_X5_tick_2 12 0 ((0 : Int32), m)).2 4 - zz m 4 := by
  refine lp_rel (b_X2_tick_2 M0 g) b_X5_tick_2 12 (fun _ s t => ∃ c2, s.2 = setS M g c2 ∧ SA c2 (zz t.2) ∧ BC c2 ∧ (∀ K, CN c K → CN c2 K) ∧ s.1 = zz t.2 4 - zz m 4) (fun j s t hj hs => ?_) 12 0 _ _ rfl ⟨c, rfl, H, B, fun _ k => k, (Int32.sub_self _).symm⟩
  obtain ⟨x, s⟩ := s
  obtain ⟨y, t⟩ := t
  obtain ⟨c2, e1, S, B2, N, e2⟩ := hs
  change s = setS M g c2 at e1
  change SA c2 (zz t) at S
  change x = zz t 4 - zz m 4 at e2
  subst e1
  have b4 := S.2.2.1.1 4 j (by omega) (by omega) (show j < 12 from hj)
  have b0 := S.2.2.1.1 10 0 (by omega) (by omega) (show 0 < 3 by omega)
  unfold b_X2_tick_2 b_X5_tick_2 tickV tickW
  dsimp only
  rw [at_S M g 4 j c2 (by omega) (show j < 12 from hj), show v_X1_at (setS M g c2) 10 g (0 : Int32) = c2 10 0 from at_S M g 10 0 c2 (by omega) (show 0 < 3 by omega), show t.1 8 0 0 (101 + j) = c2 4 j from b4.symm, show t.1 8 0 0 0 = c2 10 0 from b0.symm]
  by_cases cc : c2 4 j ≤ c2 10 0
  · simp only [if_pos cc, if_pos (show (0 : Int32) ≤ 0 by decide)]
    exact ⟨c2, rfl, S, B2, N, e2⟩
  · simp only [if_neg cc]
    obtain ⟨f1, f2, c3, f3, S3, E3, f4⟩ := burn_A (setS M g c2) M t g hj S
    have N3 : ∀ K, CN c2 K → CN c3 K := fun K k => ec_cn ⟨E3 1 (by omega) (by omega), E3 8 (by omega) (by omega), E3 9 (by omega) (by omega)⟩ k
    have B3 : BC c3 := bc_c B2 (E3 4 (by omega) (by omega)) (E3 10 (by omega) (by omega))
    unfold v_X2_burn w_X2_burn
    rw [f1, f3]
    have e5 : x + v_X5_burn t j = zz (w_X5_burn t j) 4 - zz m 4 := by
      rw [f4, e2]
      grind
    by_cases c0 : v_X5_burn t j ≤ 0
    · rw [if_pos c0, if_pos c0]
      exact ⟨c3, rfl, S3, B3, fun K k => N3 K (N K k), e5⟩
    · rw [if_neg c0, if_neg c0]
      obtain ⟨_, c4, q2, q3, q4, _⟩ := settle_R M (w_X5_burn t j) g hj S3
      refine ⟨c4, q2, q3, bc_c B3 (q4.2.2 4 (by omega)) (q4.2.2 10 (by omega)), fun K k => q4.2.1 K (N3 K (N K k)), ?_⟩
      rw [e5]
      have z4 := q3.2.2.1.2.2
      rw [q4.2.2 6 (by omega), ← S3.2.2.1.2.2] at z4
      rw [z4]
theorem tick_R (M m : PM) (g : Nat) {c : Nat → Nat → Int32} (H : SA c (zz m)) (B : BC c) : ∃ c2, w_X2_tick (setS M g c) g = setS M g c2 ∧ SA c2 (zz (w_X5_tick m)) ∧ BC c2 ∧ (∀ K, CN c K → CN c2 K) ∧ v_X2_tick (setS M g c) g = zz (w_X5_tick m) 4 - zz m 4 := by
  obtain ⟨c1, e1, S1, B1, E1, z1⟩ := tick_1R (setS M g c) M m g H B
  obtain ⟨c2, e2, S2, B2, N2, e3⟩ := tick_2R (setS M g c) M (tick_1 m) g S1 B1
  unfold w_X2_tick v_X2_tick
  rw [tk_S, wT_S, e1]
  refine ⟨c2, e2, S2, B2, fun K k => N2 K (ec_cn E1 k), ?_⟩
  rw [e3, z1]
  rfl
end
section
/-! what is kept true of the model's row -/
def JZ (z : Nat → Int32) : Prop := ∃ c, SA c z ∧ BC c
theorem sa_cong {c : Nat → Nat → Int32} {z z2 : Nat → Int32} (H : SA c z) (e : ∀ i, i < 361 → z2 i = z i) : SA c z2 := ⟨rk_z H.1 (fun i _ b => e i (by omega)), rq_z H.2.1 (fun i _ b => e i (by omega)), sc_z H.2.2.1 (fun i b => e i (by omega)), hf_z H.2.2.2 H.2.1 (fun i _ b => e i (by omega)) (fun i _ b => e i (by omega))⟩
theorem wait_c {m : PM} {c : Nat → Nat → Int32} (H : SA c (zz m)) {h : Nat} (hh : h < 8) : v_X5_waits m (nI h) = 0 ↔ c 1 h = -1 := by
  unfold v_X5_waits
  rw [rowOf_R H.2.1 hh]
  by_cases q : c 1 h = -1
  · rw [if_pos q]; exact ⟨fun _ => q, fun _ => rfl⟩
  · rw [if_neg q]; exact ⟨fun u => absurd u (by decide), fun u => absurd u q⟩
theorem can_c {m : PM} {c : Nat → Nat → Int32} (H : SA c (zz m)) {h r : Nat} (hh : h < 8) (k : ¬ v_X5_canRelease m h r = 0) : ¬ c 1 h = nI r := by
  unfold v_X5_canRelease at k
  rw [rowOf_R H.2.1 hh] at k
  intro q
  rw [if_pos q] at k
  split at k <;> exact k rfl
/-! the counts -/
def sumN (f : Nat → Nat) : Nat → Nat
  | 0 => 0
  | N + 1 => sumN f N + f N
theorem sumN_s (f : Nat → Nat) (N : Nat) : sumN f (N + 1) = sumN f N + f N := rfl
theorem sumN_cong {f f2 : Nat → Nat} : ∀ N, (∀ i, i < N → f i = f2 i) → sumN f N = sumN f2 N := by
  intro N
  induction N with
  | zero => intro _; rfl
  | succ N ih => intro h; rw [sumN_s, sumN_s, ih (fun i hi => h i (by omega)), h N (by omega)]
theorem sumN_add (f f2 : Nat → Nat) : ∀ N, sumN (fun i => f i + f2 i) N = sumN f N + sumN f2 N := by
  intro N
  induction N with
  | zero => rfl
  | succ N ih => rw [sumN_s, sumN_s, sumN_s, ih]; omega
theorem sumN_0 : ∀ N, sumN (fun _ => 0) N = 0 := by
  intro N
  induction N with
  | zero => rfl
  | succ N ih => rw [sumN_s, ih]
theorem cnt_sum (P : Nat → Bool) : ∀ N, cntP P N = sumN (fun h => if P h then 1 else 0) N := by
  intro N
  induction N with
  | zero => rfl
  | succ N ih => rw [cntP_s, sumN_s, ih]
theorem sum_swap (F : Nat → Nat → Nat) (R : Nat) : ∀ N, sumN (fun r => sumN (F r) N) R = sumN (fun h => sumN (fun r => F r h) R) N := by
  intro N
  induction N with
  | zero => exact sumN_0 R
  | succ N ih =>
    rw [sumN_s, ← ih, ← sumN_add]
    exact sumN_cong R (fun i _ => rfl)
theorem lp_sum (f : Nat → Int32) (n : Nat → Nat) (N : Nat) (h : ∀ i, i < N → f i = nI (n i)) : lp (fun j s => s + f j) N 0 0 = nI (sumN n N) := by
  refine lp_inv (fun j s => s + f j) N (fun j s => s = nI (sumN n j)) (fun j s hj hs => ?_) N 0 0 (Nat.add_zero _) rfl
  show s + f j = _
  rw [hs, h j hj, sumN_s, nI_add]
theorem all_wait {rr rm rp z : Nat → Int32} (H : RQ rr rm rp z) (n : Nat → Nat) (hn : ∀ r, r < 12 → z (125 + r) = nI (n r) ∧ n r ≤ 8) : sumN n 12 = cntP (fun h => !decide (rr h = -1)) 8 := by
  have e : sumN n 12 = sumN (fun r => sumN (fun h => if decide (rr h = nI r) then 1 else 0) 8) 12 := sumN_cong 12 (fun r hr => by rw [← cnt_sum, row_cnt H hr (hn r hr).1 (hn r hr).2])
  rw [e, sum_swap (fun r h => if decide (rr h = nI r) then 1 else 0) 12 8, cnt_sum]
  refine sumN_cong 8 (fun h hh => ?_)
  rw [← cnt_sum (fun r => decide (rr h = nI r)) 12]
  by_cases cw : rr h = -1
  · rw [if_neg (by simp [cw])]
    refine cntP_0 _ 12 (fun r hr => decide_eq_false ?_)
    rw [cw]
    exact fun q => nI_nm1 (show r < 2 ^ 31 by omega) q.symm
  · obtain ⟨r, hr, er⟩ := rq_r H hh cw
    rw [if_pos (by simp [cw]), cntP_rm (fun r => decide (rr h = nI r)) r (decide_eq_true er) 12, if_pos hr, cntP_0 _ 12 (fun i hi => ?_)]
    by_cases q : i = r
    · subst q; simp
    · have : ¬ rr h = nI i := fun u => q (by rw [er] at u; exact ((nI_eq (by omega) (by omega)).mp u).symm)
      simp [this]
theorem waiting_R (M m : PM) (g : Nat) {c : Nat → Nat → Int32} (H : SA c (zz m)) : v_X2_waitingCount (setS M g c) g = nI (cntW c) ∧ v_X5_sumFrom m 125 12 = nI (cntW c) := by
  constructor
  · refine lp_inv (b_X2_waitingCount_1 (setS M g c) g) 8 (fun j s => s = nI (cntP (fun h => !decide (c 1 h = -1)) j)) (fun j s hj hs => ?_) 8 0 0 rfl rfl
    unfold b_X2_waitingCount_1 v_X2_isWaiting
    rw [at_S M g 1 j c (by omega) (show j < 8 from hj), cntP_s]
    by_cases cw : c 1 j = -1
    · rw [if_pos cw, if_pos rfl, if_neg (by simp [cw]), hs]
      rfl
    · rw [if_neg cw, if_neg (by decide), if_pos (by simp [cw]), hs, nI_1]
  · have e : v_X5_sumFrom m 125 12 = lp (fun j s => s + zz m (125 + j)) 12 0 0 := rfl
    have hn : ∀ r, r < 12 → zz m (125 + r) = nI (qn m r) ∧ qn m r ≤ 8 := fun r hr => by
      obtain ⟨n, h1, h2, _⟩ := H.2.1.1 r hr
      rw [qn_of h2 h1]
      exact ⟨h2, h1⟩
    rw [e, lp_sum _ (qn m) 12 (fun r hr => (hn r hr).1), all_wait H.2.1 (qn m) hn]
    rfl
theorem sum_R (M m : PM) (g : Nat) {c : Nat → Nat → Int32} (H : SA c (zz m)) {k : Nat} (h4 : 4 ≤ k) (h10 : k ≤ 10) : v_X1_sum (setS M g c) k g = v_X5_sumFrom m (zof k) (nlen k) := by
  unfold v_X1_sum v_X5_sumFrom
  refine lp_cong (nlen k) (fun j s hj => ?_) (nlen k) 0 0 (Nat.add_zero _)
  unfold b_X5_sumFrom_1
  rw [show (setS M g c).1 2 k g j = c k j from congrFun (cl_setS M g k c (by omega)) j, H.2.2.1.1 k j h4 h10 hj]
  rfl
theorem total_R (M m : PM) (g : Nat) {c : Nat → Nat → Int32} (H : SA c (zz m)) {w : Nat} (hw : w < 9) : v_X2_total (setS M g c) g (nI w) = v_X5_counted m w := by
  have hR := sa_rgm M m g H
  unfold v_X2_total v_X5_counted
  rw [lockCount_R hR, (waiting_R M m g H).1, (waiting_R M m g H).2, tk_S, sum_R M m g H (k := 7) (by omega) (by omega), sum_R M m g H (k := 5) (by omega) (by omega), sum_R M m g H (k := 8) (by omega) (by omega), sum_R M m g H (k := 9) (by omega) (by omega), heldRows_R hR, H.2.2.1.2.1]
  have e6 : v_X1_sum (setS M g c) 6 g = m.1 8 0 0 4 := by
    have k : v_X1_sum (setS M g c) 6 g = bsum (c 6) := by
      unfold v_X1_sum bsum
      refine lp_cong 8 (fun j s hj => ?_) 8 0 0 rfl
      rw [show (setS M g c).1 2 6 g j = c 6 j from congrFun (cl_setS M g 6 c (by omega)) j]
    rw [k]
    exact H.2.2.1.2.2.symm
  rw [e6]
  have h9 : ¬ nI w = nI 9 := fun q => by have := (nI_eq (by omega) (by omega)).mp q; omega
  by_cases c8 : nI w = nI 8
  · rw [if_pos c8]; rfl
  · have : w = 0 ∨ w = 1 ∨ w = 2 ∨ w = 3 ∨ w = 4 ∨ w = 5 ∨ w = 6 ∨ w = 7 := by
      have : ¬ w = 8 := fun q => c8 (by rw [q])
      omega
    rcases this with rfl | rfl | rfl | rfl | rfl | rfl | rfl | rfl <;> rfl
theorem handPart_R (M m : PM) (g : Nat) {c : Nat → Nat → Int32} (H : SA c (zz m)) {h w : Nat} (hh : h < 8) (hw : w < 9) : v_X2_handPart (setS M g c) g (nI h) (nI w) = v_X5_handNow m h w := by
  have hR := sa_rgm M m g H
  unfold v_X2_handPart v_X5_handNow
  have e1 := at_S M g 1 h c (by omega) (show h < 8 from hh)
  have e2 := at_S M g 2 h c (by omega) (show h < 8 from hh)
  have hro := rowOf_R H.2.1 hh
  have e3 : (if ¬ v_X5_rowOf m (nI h) = (-1 : Int32) then v_X5_modeAt m (rowN m (nI h)) (plcN m (nI h) (rowN m (nI h))) else 0) = c 2 h := by
    rw [hro]
    by_cases cw : c 1 h = -1
    · rw [if_neg (fun q => q cw)]
      rcases H.2.1.2 h hh with q | ⟨r, n, p, h1, _, _, _, h5, _⟩
      · exact q.2.symm
      · rw [cw] at h5; exact absurd h5.symm (nI_nm1 (by omega))
    · obtain ⟨r, hr, er⟩ := rq_r H.2.1 hh cw
      have eN : rowN m (nI h) = r := by unfold rowN; rw [hro, er]; exact nI_clamp (by omega)
      rw [if_pos cw, eN]
      have k := (mode_R hR hh hr (by rw [cl_setS M g 1 c (by omega)]; exact er)).1
      rw [cl_setS M g 2 c (by omega)] at k
      exact k
  have a6 : v_X1_at (setS M g c) 6 g (nI h) = zz m (329 + h) := (at_S M g 6 h c (by omega) (show h < 8 from hh)).trans (H.2.2.1.1 6 h (by omega) (by omega) (show h < 8 from hh))
  have a7 : v_X1_at (setS M g c) 7 g (nI h) = zz m (337 + h) := (at_S M g 7 h c (by omega) (show h < 8 from hh)).trans (H.2.2.1.1 7 h (by omega) (by omega) (show h < 8 from hh))
  have a8 : v_X1_at (setS M g c) 8 g (nI h) = zz m (345 + h) := (at_S M g 8 h c (by omega) (show h < 8 from hh)).trans (H.2.2.1.1 8 h (by omega) (by omega) (show h < 8 from hh))
  have a9 : v_X1_at (setS M g c) 9 g (nI h) = zz m (353 + h) := (at_S M g 9 h c (by omega) (show h < 8 from hh)).trans (H.2.2.1.1 9 h (by omega) (by omega) (show h < 8 from hh))
  rw [locksOf_R hR hh, work_R hR hh, direct_R hR hh, e3, e1, e2, hro, a6, a7, a8, a9]
  have : w = 0 ∨ w = 1 ∨ w = 2 ∨ w = 3 ∨ w = 4 ∨ w = 5 ∨ w = 6 ∨ w = 7 ∨ w = 8 := by omega
  rcases this with rfl | rfl | rfl | rfl | rfl | rfl | rfl | rfl | rfl <;> rfl
theorem rowPart_R (M m : PM) (g : Nat) {c : Nat → Nat → Int32} (H : SA c (zz m)) {r : Nat} (hr : r < 12) (w : Int32) : v_X2_rowPart (setS M g c) g (nI r) w = v_X5_rowNow m r w := by
  have hR := sa_rgm M m g H
  unfold v_X2_rowPart v_X5_rowNow
  have a4 : v_X1_at (setS M g c) 4 g (nI r) = zz m (101 + r) := (at_S M g 4 r c (by omega) (show r < 12 from hr)).trans (H.2.2.1.1 4 r (by omega) (by omega) (show r < 12 from hr))
  have a5 : v_X1_at (setS M g c) 5 g (nI r) = zz m (113 + r) := (at_S M g 5 r c (by omega) (show r < 12 from hr)).trans (H.2.2.1.1 5 r (by omega) (by omega) (show r < 12 from hr))
  have q := queueLength_R hR hr
  rw [a4, a5, greatest_R hR hr, holders_R hR hr, q.1, ← q.2, first_R hR hr]
  rfl
end
section
/-! one state copied to another; class and model as wholes -/
/-- the numbers that count are the same -/
def EQC (c c2 : Nat → Nat → Int32) : Prop := (∀ k i, k ≤ 10 → i < nlen k → c2 k i = c k i) ∧ c2 11 0 = c 11 0
theorem sa_eqc {c c2 : Nat → Nat → Int32} {z : Nat → Int32} (H : SA c z) (e : EQC c c2) : SA c2 z := by
  obtain ⟨K, Q, C, F⟩ := H
  refine ⟨fun h r hh hr => ?_, ⟨fun r hr => ?_, fun h hh => ?_⟩, ⟨fun k i h4 h10 hi => ?_, ?_, ?_⟩, F⟩
  · rw [e.1 0 _ (by omega) (show h * 12 + r < 96 by omega)]
    exact K h r hh hr
  · obtain ⟨n, hn, en, kn⟩ := Q.1 r hr
    refine ⟨n, hn, en, fun p hp => ?_⟩
    obtain ⟨h0, a1, a2, a3, a4, a5, a6⟩ := kn p hp
    refine ⟨h0, a1, a2, ?_, ?_, ?_, ?_⟩
    · rw [e.1 1 h0 (by omega) (show h0 < 8 from a1)]; exact a3
    · rw [e.1 3 h0 (by omega) (show h0 < 8 from a1)]; exact a4
    · rw [e.1 2 h0 (by omega) (show h0 < 8 from a1)]; exact a5
    · rw [e.1 2 h0 (by omega) (show h0 < 8 from a1)]; exact a6
  · rw [e.1 1 h (by omega) (show h < 8 from hh), e.1 2 h (by omega) (show h < 8 from hh), e.1 3 h (by omega) (show h < 8 from hh)]
    exact Q.2 h hh
  · rw [e.1 k i h10 hi]
    exact C.1 k i h4 h10 hi
  · rw [e.2]; exact C.2.1
  · rw [C.2.2]
    unfold bsum
    refine lp_cong 8 (fun j s hj => ?_) 8 0 0 rfl
    rw [e.1 6 j (by omega) (show j < 8 from hj)]
theorem bc_eqc {c c2 : Nat → Nat → Int32} (H : BC c) (e : EQC c c2) : BC c2 := by
  obtain ⟨a, b, d, f⟩ := H
  refine ⟨?_, ?_, ?_, fun r hr => ?_⟩
  · rw [e.1 10 0 (by omega) (show 0 < 3 by omega)]; exact a
  · rw [e.1 10 1 (by omega) (show 1 < 3 by omega)]; exact b
  · rw [e.1 10 2 (by omega) (show 2 < 3 by omega)]; exact d
  · rw [e.1 4 r (by omega) (show r < 12 from hr)]; exact f r hr
theorem cn_eqc {c c2 : Nat → Nat → Int32} {K : Nat} (H : CN c K) (e : EQC c c2) : CN c2 K := by
  intro h hh
  rw [e.1 9 h (by omega) (show h < 8 from hh), e.1 8 h (by omega) (show h < 8 from hh), e.1 1 h (by omega) (show h < 8 from hh)]
  exact H h hh
theorem cn_le {c : Nat → Nat → Int32} {K K2 : Nat} (H : CN c K) (hk : K ≤ K2) : CN c K2 := by
  intro h hh
  obtain ⟨a, q, e1, e2, e3, e4⟩ := H h hh
  exact ⟨a, q, e1, e2, e3, by omega⟩
def SLR (c : Nat → Nat → Int32) (z : Nat → Int32) (K : Nat) : Prop := SA c z ∧ BC c ∧ CN c K
theorem slr_eqc {c c2 : Nat → Nat → Int32} {z : Nat → Int32} {K : Nat} (H : SLR c z K) (e : EQC c c2) : SLR c2 z K := ⟨sa_eqc H.1 e, bc_eqc H.2.1 e, cn_eqc H.2.2 e⟩
theorem slr_z {c : Nat → Nat → Int32} {z z2 : Nat → Int32} {K : Nat} (H : SLR c z K) (e : ∀ i, i < 361 → z2 i = z i) : SLR c z2 K := ⟨sa_cong H.1 e, H.2.1, H.2.2⟩
theorem slr_le {c : Nat → Nat → Int32} {z : Nat → Int32} {K K2 : Nat} (H : SLR c z K) (h : K ≤ K2) : SLR c z K2 := ⟨H.1, H.2.1, cn_le H.2.2 h⟩
theorem clT_S (M : PM) (g : Nat) (c : Nat → Nat → Int32) : EQC c (clT (setS M g c) g) := by
  refine ⟨fun k i hk _ => ?_, ?_⟩
  · unfold clT
    rw [if_pos (by omega)]
    exact congrFun (cl_setS M g k c (by omega)) i
  · unfold clT
    rw [if_neg (by omega)]
    exact tk_S M g c
theorem clT_o (M : PM) {g g2 : Nat} (c : Nat → Nat → Int32) (hg : ¬ g2 = g) : clT (setS M g c) g2 = clT M g2 := by
  funext k i
  unfold clT setS
  dsimp only
  by_cases hk : k < 11
  · rw [if_pos hk, if_pos hk, if_neg (fun q => hg q.2.1), if_neg (fun q => by omega)]
  · rw [if_neg hk, if_neg hk, if_neg (fun q => hg q.2.1), if_neg (fun q => hg q.2.2.1)]
def cpC (c cs : Nat → Nat → Int32) (k : Nat) : Nat → Nat → Int32 := fun k2 i => if k2 = k ∧ i < nlen k then cs k2 i else c k2 i
theorem wC_S (M : PM) {g g1 k : Nat} (c : Nat → Nat → Int32) (hk : k < 11) (hg : ¬ g1 = g) : w_X1_copyFrom (setS M g c) k g k g1 = setS M g (cpC c (clT M g1) k) := by
  unfold w_X1_copyFrom
  rw [if_neg (fun q => q rfl)]
  unfold wC setS cpC clT
  congr 1
  funext a b c2 d
  dsimp only
  by_cases h : a = 2 ∧ b = k ∧ c2 = g ∧ d < nlen k
  · obtain ⟨rfl, rfl, rfl, h4⟩ := h
    rw [if_pos ⟨rfl, rfl, rfl, h4⟩, if_neg (fun q => hg q.2.1), if_neg (by omega), if_pos ⟨rfl, rfl, hk⟩, if_pos ⟨rfl, h4⟩, if_pos hk]
  · rw [if_neg h]
    by_cases h2 : a = 2 ∧ c2 = g ∧ b < 11
    · rw [if_pos h2, if_pos h2, if_neg (fun q => h ⟨h2.1, q.1, h2.2.1, q.2⟩)]
    · rw [if_neg h2, if_neg h2]
      by_cases h3 : a = 0 ∧ b = 0 ∧ c2 = g ∧ d = 11
      · rw [if_pos h3, if_pos h3, if_neg (by omega)]
      · rw [if_neg h3, if_neg h3]
/-- state g1 copied to state g -/
theorem copy_R (M : PM) {g g1 : Nat} (hg : ¬ g1 = g) : ∃ c2, w_X2_copyFrom M g g1 = setS M g c2 ∧ EQC (clT M g1) c2 := by
  have h := setS_id M g
  have ht : ∀ c, (setS M g c).1 0 0 g1 11 = clT M g1 11 0 := fun c => by
    unfold setS clT
    dsimp only
    rw [if_neg (by omega), if_neg (fun q => hg q.2.2.1), if_neg (by omega)]
  unfold w_X2_copyFrom
  rw [← h, wC_S M _ (by omega) hg, wC_S M _ (by omega) hg, wC_S M _ (by omega) hg, wC_S M _ (by omega) hg, wC_S M _ (by omega) hg, wC_S M _ (by omega) hg, wC_S M _ (by omega) hg, wC_S M _ (by omega) hg, wC_S M _ (by omega) hg, wC_S M _ (by omega) hg, wC_S M _ (by omega) hg, ht, wT_S, h]
  refine ⟨_, rfl, fun k i hk hi => ?_, ?_⟩
  · rw [up2_o _ _ _ _ (by omega)]
    have : k = 0 ∨ k = 1 ∨ k = 2 ∨ k = 3 ∨ k = 4 ∨ k = 5 ∨ k = 6 ∨ k = 7 ∨ k = 8 ∨ k = 9 ∨ k = 10 := by omega
    unfold cpC
    rcases this with rfl | rfl | rfl | rfl | rfl | rfl | rfl | rfl | rfl | rfl | rfl <;> simp [hi]
  · unfold up2
    rw [if_pos ⟨rfl, rfl⟩]
/-- class M and model m: s states saved, len characters, K askings at most -/
def WR (M m : PM) (s len K : Nat) : Prop := SLR (clT M 0) (zz m) K ∧ s ≤ 6 ∧ sts m = nI s ∧ M.1 4 0 0 2 = nI s ∧ (∃ nx, nx < 6 ∧ M.1 4 0 0 1 = nI nx ∧ ∀ j, j < s → SLR (clT M (2 + (nx + 6 - s + j) % 6)) (fun i => hs m (361 * j + i)) K) ∧ len ≤ 60 ∧ M.1 6 0 0 1 = nI len ∧ m.1 7 0 0 3 = nI len ∧ ∀ i, i < len → ∃ k, 33 ≤ k ∧ k ≤ 126 ∧ tex m i = nI k ∧ M.1 2 11 0 i = nI k
theorem wr_m {M m m2 : PM} {s len K : Nat} (H : WR M m s len K) (e1 : ∀ i, i < 361 → zz m2 i = zz m i) (e2 : ∀ i, i < 2166 → hs m2 i = hs m i) (e3 : sts m2 = sts m) (e4 : ∀ i, i < 60 → tex m2 i = tex m i) (e5 : m2.1 7 0 0 3 = m.1 7 0 0 3) : WR M m2 s len K := by
  obtain ⟨a1, a2, a3, a4, ⟨nx, b1, b2, b3⟩, a5, a6, a7, a8⟩ := H
  refine ⟨slr_z a1 e1, a2, by rw [e3]; exact a3, a4, ⟨nx, b1, b2, fun j hj => slr_z (b3 j hj) (fun i hi => e2 _ (by omega))⟩, a5, a6, by rw [e5]; exact a7, fun i hi => ?_⟩
  rw [e4 i (by omega)]
  exact a8 i hi
/-- an act on state 0 and the row -/
theorem wr_act {M m m2 : PM} {s len K K2 : Nat} {c : Nat → Nat → Int32} (H : WR M m s len K) (hc : SLR c (zz m2) K2) (hK : K ≤ K2) (e2 : ∀ i, i < 2166 → hs m2 i = hs m i) (e3 : sts m2 = sts m) (e4 : ∀ i, i < 60 → tex m2 i = tex m i) (e5 : m2.1 7 0 0 3 = m.1 7 0 0 3) : WR (setS M 0 c) m2 s len K2 := by
  obtain ⟨a1, a2, a3, a4, ⟨nx, b1, b2, b3⟩, a5, a6, a7, a8⟩ := H
  have o : ∀ t k g i, ¬ t = 2 → ¬ t = 0 → (setS M 0 c).1 t k g i = M.1 t k g i := fun t k g i h h0 => by
    unfold setS
    dsimp only
    rw [if_neg (fun q => h q.1), if_neg (fun q => h0 q.1)]
  have ox : ∀ i, (setS M 0 c).1 2 11 0 i = M.1 2 11 0 i := fun i => by
    unfold setS
    dsimp only
    rw [if_neg (by omega), if_neg (by omega)]
  refine ⟨slr_eqc hc (clT_S M 0 c), a2, by rw [e3]; exact a3, by rw [o _ _ _ _ (by decide) (by decide)]; exact a4, ⟨nx, b1, by rw [o _ _ _ _ (by decide) (by decide)]; exact b2, fun j hj => ?_⟩, a5, by rw [o _ _ _ _ (by decide) (by decide)]; exact a6, by rw [e5]; exact a7, fun i hi => ?_⟩
  · rw [clT_o M c (by omega)]
    exact slr_le (slr_z (b3 j hj) (fun i hi => e2 _ (by omega))) hK
  · rw [e4 i (by omega), ox]
    exact a8 i hi
theorem wr_oz {M m m2 : PM} {s len K K2 : Nat} {c : Nat → Nat → Int32} (H : WR M m s len K) (hc : SLR c (zz m2) K2) (hK : K ≤ K2) (ho : OZ m m2) : WR (setS M 0 c) m2 s len K2 := wr_act H hc hK (fun i _ => ho.1 8 1 0 i (by omega)) (ho.1 7 0 0 1 (by omega)) (fun i _ => ho.1 8 2 0 i (by omega)) (ho.1 7 0 0 3 (by omega))
/-- the code of a refusal is no part of it -/
theorem wr_5 {M m : PM} {s len K : Nat} (H : WR M m s len K) (x : Int32) : WR M (wI m 7 0 0 5 x) s len K := by
  refine wr_m H (fun i _ => congrFun (zz_w7 m 5 x) i) (fun i _ => congrFun (hs_w7 m 5 x) i) ?_ (fun i _ => ?_) ?_
  · unfold sts wI; dsimp only; rw [if_neg (by omega)]
  · unfold tex wI; dsimp only; rw [if_neg (by omega)]
  · unfold wI; dsimp only; rw [if_neg (by omega)]
theorem wr_le {M m : PM} {s len K K2 : Nat} (H : WR M m s len K) (h : K ≤ K2) : WR M m s len K2 := by
  obtain ⟨a1, a2, a3, a4, ⟨nx, b1, b2, b3⟩, a5⟩ := H
  exact ⟨slr_le a1 h, a2, a3, a4, ⟨nx, b1, b2, fun j hj => slr_le (b3 j hj) h⟩, a5⟩
end
section
/-! save and undo agree; the text grows and is cleared -/
theorem L_le (x : Int32) {n a : Nat} (hx : x = nI n) (h : n ≤ a) (h2 : a < 2 ^ 31) : x ≤ nI a := by rw [hx]; exact nI_le h h2
theorem L_nle (x : Int32) {n a : Nat} (hx : x = nI n) (h : a < n) (h2 : n < 2 ^ 31) : ¬ x ≤ nI a := by rw [hx]; exact nI_ge h h2
theorem R_lt (x : Int32) {n a : Nat} (hx : x = nI n) (h : a < n) (h2 : n < 2 ^ 31) : nI a < x := by rw [hx]; exact nI_lt h h2
theorem R_nlt (x : Int32) {n a : Nat} (hx : x = nI n) (h : n ≤ a) (h2 : a < 2 ^ 31) : ¬ nI a < x := by rw [hx]; exact nI_nlt h h2
theorem clT_w4 (M : PM) (g i : Nat) (x : Int32) : clT (wI M 4 0 0 i x) g = clT M g := by
  funext k j
  unfold clT wI
  dsimp only
  by_cases hk : k < 11
  · rw [if_pos hk, if_pos hk, if_neg (by omega)]
  · rw [if_neg hk, if_neg hk, if_neg (by omega)]
def svN (s : Nat) : Nat := if s = 6 then 6 else s + 1
/-- a state is saved -/
theorem save_R {M m : PM} {s len K : Nat} (H : WR M m s len K) : WR (w_X0_save M 0) (w_X5_save m s) (svN s) len K ∧ clT (w_X0_save M 0) 0 = clT M 0 := by
  obtain ⟨a1, a2, a3, a4, ⟨nx, b1, b2, b3⟩, a5, a6, a7, a8⟩ := H
  have eC : (M.1 4 0 0 1).toNatClampNeg = nx := by rw [b2]; exact nI_clamp (by omega)
  obtain ⟨c2, q1, q2⟩ := copy_R M (g := 2 + nx) (g1 := 0) (by omega)
  have e1 : sv_1 M 0 = setS M (2 + nx) c2 := by unfold sv_1; rw [eC]; exact q1
  have o4 : ∀ i, (setS M (2 + nx) c2).1 4 0 0 i = M.1 4 0 0 i := fun i => by
    unfold setS
    dsimp only
    rw [if_neg (by omega), if_neg (by omega)]
  have e2 : sv_2 (setS M (2 + nx) c2) = wI (setS M (2 + nx) c2) 4 0 0 1 (nI ((nx + 1) % 6)) := by
    unfold sv_2
    rw [o4, b2, nI_1]
    congr 1
    by_cases c : 6 ≤ nx + 1
    · rw [if_pos (L_le 6 (n := 6) rfl c (by omega)), show (nx + 1) % 6 = 0 by omega]
      rfl
    · rw [if_neg (L_nle 6 (n := 6) (a := nx + 1) rfl (by omega) (by omega)), show (nx + 1) % 6 = nx + 1 by omega]
  have e3 : sv_3 (wI (setS M (2 + nx) c2) 4 0 0 1 (nI ((nx + 1) % 6))) = wI (wI (setS M (2 + nx) c2) 4 0 0 1 (nI ((nx + 1) % 6))) 4 0 0 2 (nI (svN s)) := by
    unfold sv_3
    have e4 : (wI (setS M (2 + nx) c2) 4 0 0 1 (nI ((nx + 1) % 6))).1 4 0 0 2 = nI s := by
      unfold wI
      dsimp only
      rw [if_neg (by decide), o4, a4]
    rw [e4, nI_1]
    congr 1
    unfold svN
    by_cases c : s + 1 < 6
    · rw [if_pos (R_lt 6 (n := 6) rfl c (by omega)), if_neg (by omega)]
    · rw [if_neg (R_nlt 6 (n := 6) (a := s + 1) rfl (by omega) (by omega))]
      by_cases c6 : s = 6
      · rw [if_pos c6]; rfl
      · rw [if_neg c6, show s + 1 = 6 by omega]; rfl
  have eW : w_X0_save M 0 = wI (wI (setS M (2 + nx) c2) 4 0 0 1 (nI ((nx + 1) % 6))) 4 0 0 2 (nI (svN s)) := by
    unfold w_X0_save
    rw [b2, if_neg (nI_pos (by omega)), if_neg (L_nle 6 (n := 6) (a := nx) rfl (by omega) (by omega)), e1, e2, e3]
  have eT : ∀ g, clT (w_X0_save M 0) g = clT (setS M (2 + nx) c2) g := fun g => by rw [eW, clT_w4, clT_w4]
  have eT0 : clT (w_X0_save M 0) 0 = clT M 0 := by rw [eT, clT_o M c2 (by omega)]
  have w4 : ∀ (X : PM) (t k g i j : Nat) (x : Int32), ¬ (t = 4 ∧ k = 0 ∧ g = 0 ∧ i = j) → (wI X 4 0 0 j x).1 t k g i = X.1 t k g i := fun X t k g i j x h => by
    unfold wI
    dsimp only
    rw [if_neg h]
  have hz : zz (w_X5_save m s) = zz m := zz_save m s
  have hh : ∀ i, hs (w_X5_save m s) i = savH (hs m) (zz m) s i := fun i => sets_h m _ _ i
  refine ⟨⟨by rw [eT0]; exact slr_z a1 (fun i _ => congrFun hz i), by unfold svN; split <;> omega, sets_s m _ _, ?_, ⟨(nx + 1) % 6, Nat.mod_lt _ (by omega), ?_, fun j hj => ?_⟩, a5, ?_, ?_, fun i hi => ?_⟩, eT0⟩
  · rw [eW]; exact w_at _ _ _ _ _ _
  · rw [eW, w4 _ _ _ _ _ _ _ (by omega)]; exact w_at _ _ _ _ _ _
  · rw [eT]
    by_cases c6 : s = 6
    · subst c6
      have hj : j < 6 := hj
      have eH : ∀ i, i < 361 → hs (w_X5_save m 6) (361 * j + i) = if j = 5 then zz m i else hs m (361 * (j + 1) + i) := fun i hi => by
        rw [hh]
        unfold savH
        rw [if_pos rfl]
        unfold layz shz
        by_cases cj : j = 5
        · subst cj
          rw [if_pos (by omega), if_pos rfl]
          exact congrArg (zz m) (by omega)
        · rw [if_neg (by omega), if_pos (by omega), if_neg cj]
          congr 1
          omega
      by_cases cj : j = 5
      · subst cj
        rw [show 2 + ((nx + 1) % 6 + 6 - svN 6 + 5) % 6 = 2 + nx by unfold svN; simp only [if_pos]; omega]
        refine slr_z (slr_eqc (slr_eqc a1 q2) (clT_S M (2 + nx) c2)) (fun i hi => ?_)
        rw [eH i hi, if_pos rfl]
      · have en : 2 + ((nx + 1) % 6 + 6 - svN 6 + j) % 6 = 2 + (nx + 6 - 6 + (j + 1)) % 6 := by unfold svN; simp only [if_pos]; omega
        rw [en, clT_o M c2 (by omega)]
        refine slr_z (b3 (j + 1) (by omega)) (fun i hi => ?_)
        rw [eH i hi, if_neg cj]
    · have hsv : svN s = s + 1 := by unfold svN; rw [if_neg c6]
      rw [hsv] at hj ⊢
      have eH : ∀ i, i < 361 → hs (w_X5_save m s) (361 * j + i) = if j = s then zz m i else hs m (361 * j + i) := fun i hi => by
        rw [hh]
        unfold savH
        rw [if_neg c6]
        unfold layz
        by_cases cj : j = s
        · subst cj
          rw [if_pos (by omega), if_pos rfl]
          exact congrArg (zz m) (by omega)
        · rw [if_neg (by omega), if_neg cj]
      by_cases cj : j = s
      · subst cj
        rw [show 2 + ((nx + 1) % 6 + 6 - (j + 1) + j) % 6 = 2 + nx by omega]
        refine slr_z (slr_eqc (slr_eqc a1 q2) (clT_S M (2 + nx) c2)) (fun i hi => ?_)
        rw [eH i hi, if_pos rfl]
      · have en : 2 + ((nx + 1) % 6 + 6 - (s + 1) + j) % 6 = 2 + (nx + 6 - s + j) % 6 := by omega
        rw [en, clT_o M c2 (by omega)]
        refine slr_z (b3 j (by omega)) (fun i hi => ?_)
        rw [eH i hi, if_neg cj]
  · rw [eW, w4 _ _ _ _ _ _ _ (by omega), w4 _ _ _ _ _ _ _ (by omega)]
    unfold setS
    dsimp only
    rw [if_neg (by omega), if_neg (by omega)]
    exact a6
  · show (sets m _ _).1 7 0 0 3 = _
    unfold sets
    dsimp only
    rw [if_neg (by omega), if_neg (by omega)]
    exact a7
  · have t1 : tex (w_X5_save m s) i = tex m i := by
      show (sets m _ _).1 8 2 0 i = _
      unfold sets
      dsimp only
      rw [if_neg (by omega), if_neg (by omega)]
      rfl
    have t2 : (w_X0_save M 0).1 2 11 0 i = M.1 2 11 0 i := by
      rw [eW, w4 _ _ _ _ _ _ _ (by omega), w4 _ _ _ _ _ _ _ (by omega)]
      unfold setS
      dsimp only
      rw [if_neg (by omega), if_neg (by omega)]
    rw [t1, t2]
    exact a8 i hi
end
section
/-! trials, and the digest -/
theorem st_val {M m : PM} {s len K : Nat} (H : WR M m s len K) : RG M m 0 := by
  have k := sa_rgm M m 0 H.1.1
  rw [setS_id] at k
  exact k
end
section
/-! run and digest, over class and model as wholes -/
theorem number_of_R {M m : PM} {s len K w : Nat} (H : WR M m s len K) (hw : w < 10) : v_X4_numberOf M (nI w) = v_X5_counted m w := by
  unfold v_X4_numberOf
  by_cases c : w = 9
  · subst c
    rw [if_neg (fun q => q rfl), H.2.2.2.1]
    show nI s = sts m
    exact H.2.2.1.symm
  · have hn : ¬ nI w = (9 : Int32) := fun q => c ((nI_eq (by omega) (by omega)).mp (show nI w = nI 9 from q))
    rw [if_pos hn]
    have k := total_R M m 0 H.1.1 (w := w) (by omega)
    rw [setS_id] at k
    exact k
theorem setting_R {M m : PM} {s len K i : Nat} (H : WR M m s len K) (hi : i < 3) : v_X1_at M 10 0 (nI i) = zz m (0 + i) := by
  have k := at_S M 0 10 i (clT M 0) (by omega) (show i < 3 from hi)
  rw [setS_id] at k
  rw [k]
  exact H.1.1.2.2.1.1 10 i (by omega) (by omega) (show i < 3 from hi)
end
section
/-! the face: each call of class and model -/
/-- outcome o of the class; the model's code t and answer b -/
def AG (e : Nat → Int32) (o : OC) (t b : Int32) : Prop := (o = .inl (some (vI b)) ∧ t = 0) ∨ ∃ x, o = .inr x ∧ t = e x ∧ (x = 40 ∨ x = 50 ∨ x = 58)
def e3 (a b c : Int32) (x : Nat) : Int32 := if x = 40 then a else if x = 50 then b else c
theorem rng_or (f : Int32 → Int32) (g : Int32 → Int32) (N : Nat) (hN : N < 2 ^ 31) (hf : ∀ a : Int32, (a < 0 ∨ nI N ≤ a) → f a = 0 ∧ g a = 0) (hg : ∀ j, j < N → f (nI j) = 1 ∧ g (nI j) = 1) (a : Int32) : (f a = 0 ∧ g a = 0) ∨ ∃ j, j < N ∧ a = nI j ∧ f a = 1 ∧ g a = 1 := by
  rcases pk_ix a hN with h | h | ⟨j, hj, rfl⟩
  · exact Or.inl (hf a (Or.inl h))
  · exact Or.inl (hf a (Or.inr h))
  · exact Or.inr ⟨j, hj, rfl, hg j hj⟩
theorem lt_le {a : Int32} {n : Nat} (h : nI (n + 1) ≤ a) (hn : n + 1 < 2 ^ 31) : nI n < a := Int32.lt_of_lt_of_le (nI_lt (by omega) hn) h
theorem hand_or (M m : PM) (a : Int32) : (v_X4_isHand M a = 0 ∧ v_X5_isHand m a = 0) ∨ ∃ j, j < 8 ∧ a = nI j ∧ v_X4_isHand M a = 1 ∧ v_X5_isHand m a = 1 := by
  refine rng_or (v_X4_isHand M) (v_X5_isHand m) 8 (by omega) (fun a h => ?_) (fun j hj => ?_) a
  · unfold v_X4_isHand v_X5_isHand v_X5_within
    by_cases c : a < 0
    · rw [if_pos c, if_pos c]; exact ⟨rfl, rfl⟩
    · have h8 : (8 : Int32) ≤ a := by rcases h with h | h; exact absurd h c; exact h
      rw [if_neg c, if_neg c, if_pos h8, if_pos (show (7 : Int32) < a from lt_le (n := 7) h8 (by omega))]; exact ⟨rfl, rfl⟩
  · unfold v_X4_isHand v_X5_isHand v_X5_within
    rw [if_neg (nI_pos (by omega)), if_neg (nI_pos (by omega)), if_neg (L_nle 8 (n := 8) rfl hj (by omega)), if_neg (show ¬ (7 : Int32) < nI j from nI_nlt (a := 7) (by omega) (by omega))]; exact ⟨rfl, rfl⟩
theorem row_or (M m : PM) (a : Int32) : (v_X4_isRow M a = 0 ∧ v_X5_isRow m a = 0) ∨ ∃ j, j < 12 ∧ a = nI j ∧ v_X4_isRow M a = 1 ∧ v_X5_isRow m a = 1 := by
  refine rng_or (v_X4_isRow M) (v_X5_isRow m) 12 (by omega) (fun a h => ?_) (fun j hj => ?_) a
  · unfold v_X4_isRow v_X5_isRow v_X5_within
    by_cases c : a < 0
    · rw [if_pos c, if_pos c]; exact ⟨rfl, rfl⟩
    · have h8 : (12 : Int32) ≤ a := by rcases h with h | h; exact absurd h c; exact h
      rw [if_neg c, if_neg c, if_pos h8, if_pos (show (11 : Int32) < a from lt_le (n := 11) h8 (by omega))]; exact ⟨rfl, rfl⟩
  · unfold v_X4_isRow v_X5_isRow v_X5_within
    rw [if_neg (nI_pos (by omega)), if_neg (nI_pos (by omega)), if_neg (L_nle 12 (n := 12) rfl hj (by omega)), if_neg (show ¬ (11 : Int32) < nI j from nI_nlt (a := 11) (by omega) (by omega))]; exact ⟨rfl, rfl⟩
theorem set_or (M m : PM) (a : Int32) : (v_X4_isSetting M a = 0 ∧ v_X5_isSetting m a = 0) ∨ ∃ j, j < 3 ∧ a = nI j ∧ v_X4_isSetting M a = 1 ∧ v_X5_isSetting m a = 1 := by
  refine rng_or (v_X4_isSetting M) (v_X5_isSetting m) 3 (by omega) (fun a h => ?_) (fun j hj => ?_) a
  · unfold v_X4_isSetting v_X5_isSetting v_X5_within
    by_cases c : a < 0
    · rw [if_pos c, if_pos c]; exact ⟨rfl, rfl⟩
    · have h8 : (3 : Int32) ≤ a := by rcases h with h | h; exact absurd h c; exact h
      rw [if_neg c, if_neg c, if_pos h8, if_pos (show (2 : Int32) < a from lt_le (n := 2) h8 (by omega))]; exact ⟨rfl, rfl⟩
  · unfold v_X4_isSetting v_X5_isSetting v_X5_within
    rw [if_neg (nI_pos (by omega)), if_neg (nI_pos (by omega)), if_neg (L_nle 3 (n := 3) rfl hj (by omega)), if_neg (show ¬ (2 : Int32) < nI j from nI_nlt (a := 2) (by omega) (by omega))]; exact ⟨rfl, rfl⟩
theorem mode_or (M m : PM) (a : Int32) : (v_X4_isMode M a = 0 ∧ v_X5_isMode m a = 0) ∨ (MO a ∧ v_X4_isMode M a = 1 ∧ v_X5_isMode m a = 1) := by
  unfold v_X4_isMode v_X5_isMode v_X5_within
  by_cases c : a < 1
  · rw [if_pos c]; exact Or.inl ⟨rfl, rfl⟩
  · rw [if_neg c]
    by_cases c2 : (3 : Int32) < a
    · rw [if_pos c2]; exact Or.inl ⟨rfl, rfl⟩
    · rw [if_neg c2]
      obtain ⟨j, h1, h2, rfl⟩ := nI_le2 (a := 1) (b := 3) (by omega) (by omega) c c2
      refine Or.inr ⟨?_, rfl, rfl⟩
      rcases (show j = 1 ∨ j = 2 ∨ j = 3 by omega) with rfl | rfl | rfl
      · exact Or.inl rfl
      · exact Or.inr (Or.inl rfl)
      · exact Or.inr (Or.inr rfl)
theorem there_1 {m : PM} {a b : Int32} (h1 : v_X5_isHand m a = 1) (h2 : v_X5_isRow m b = 1) : v_X5_areThere m a b = 1 := by
  unfold v_X5_areThere
  rw [h1, if_neg (by decide), h2, if_neg (by decide)]
theorem there_h {m : PM} {a b : Int32} (h1 : v_X5_isHand m a = 0) : v_X5_areThere m a b = 0 := by
  unfold v_X5_areThere
  rw [if_pos h1]
theorem there_r {m : PM} {a b : Int32} (h1 : v_X5_isRow m b = 0) : v_X5_areThere m a b = 0 := by
  unfold v_X5_areThere
  by_cases c : v_X5_isHand m a = 0
  · rw [if_pos c]
  · rw [if_neg c, if_pos h1]
theorem wr_ql {M m : PM} {s len K : Nat} (H : WR M m s len K) : QL m := ql_of (rq_qa H.1.1.2.1)
theorem wr_qa {M m : PM} {s len K : Nat} (H : WR M m s len K) : QA (zz m) := rq_qa H.1.1.2.1
theorem wr_J {M m : PM} {s len K : Nat} (H : WR M m s len K) : JZ (zz m) := ⟨_, H.1.1, H.1.2.1⟩
theorem wr_wait {M m : PM} {s len K h : Nat} (H : WR M m s len K) (hh : h < 8) : v_X2_isWaiting M 0 (nI h) = v_X5_waits m (nI h) := (waits_R (M := M) (m := m) (g := 0) (rm := clT M 0 2) (rp := clT M 0 3) (show RQ (clT M 0 1) _ _ _ from H.1.1.2.1) hh).symm
/-- behind saving -/
theorem sv_W {M m : PM} {s len K : Nat} (H : WR M m s len K) : WR (w_X0_save M 0) (svM m s) (svN s) len K ∧ (svM m s).1 7 0 0 5 = 0 := by
  refine ⟨(save_R (wr_5 H 0)).1, ?_⟩
  unfold svM w_X5_save sets wI
  dsimp only
  rw [if_neg (by omega), if_neg (by omega), if_pos ⟨rfl, rfl, rfl, rfl⟩]
section
variable {M m : PM} {s len K : Nat}
end
end
section
/-! the face: pass, cool, set, append, run, undo -/
theorem wh_or (m : PM) (a : Int32) (n : Nat) (hn : n + 1 < 2 ^ 31) : ((a < 0 ∨ (¬ a < 0 ∧ ¬ a < nI (n + 1))) ∧ v_X5_within m a 0 (nI n) = 0) ∨ ∃ j, j < n + 1 ∧ a = nI j ∧ ¬ a < 0 ∧ a < nI (n + 1) ∧ v_X5_within m a 0 (nI n) = 1 := by
  unfold v_X5_within
  rcases pk_ix a hn with h | h | ⟨j, hj, rfl⟩
  · rw [if_pos h]; exact Or.inl ⟨Or.inl h, rfl⟩
  · by_cases c : a < 0
    · rw [if_pos c]; exact Or.inl ⟨Or.inl c, rfl⟩
    · rw [if_neg c, if_pos (lt_le h hn)]
      exact Or.inl ⟨Or.inr ⟨c, Int32.not_lt.mpr h⟩, rfl⟩
  · rw [if_neg (nI_pos (by omega)), if_neg (nI_nlt (by omega) (by omega))]
    exact Or.inr ⟨j, hj, rfl, nI_pos (by omega), nI_lt hj hn, rfl⟩
section
variable {M m : PM} {s len K : Nat}
/-- a value of a setting -/
theorem val_or (M m : PM) {i : Nat} (hi : i < 3) (x : Int32) : ((x < v_X4_leastValue M (nI i) ∨ (¬ x < v_X4_leastValue M (nI i) ∧ ¬ x ≤ v_X4_greatestValue M (nI i))) ∧ v_X5_isValue m (nI i) x = 0) ∨ (¬ x < v_X4_leastValue M (nI i) ∧ x ≤ v_X4_greatestValue M (nI i) ∧ v_X5_isValue m (nI i) x = 1 ∧ ∃ n, x = nI n ∧ (i = 0 → n ≤ 900) ∧ (i = 1 → n ≤ 20) ∧ (i = 2 → n ≤ 50)) := by
  have gen : ∀ (lo hi : Nat), lo < 2 ^ 31 → hi < 2 ^ 31 → ((x < nI lo ∨ (¬ x < nI lo ∧ ¬ x ≤ nI hi)) ∧ v_X5_within m x (nI lo) (nI hi) = 0) ∨ (¬ x < nI lo ∧ x ≤ nI hi ∧ v_X5_within m x (nI lo) (nI hi) = 1 ∧ ∃ n, x = nI n ∧ n ≤ hi) := by
    intro lo hi h1 h2
    unfold v_X5_within
    by_cases c1 : x < nI lo
    · rw [if_pos c1]; exact Or.inl ⟨Or.inl c1, rfl⟩
    · rw [if_neg c1]
      by_cases c2 : nI hi < x
      · rw [if_pos c2]; exact Or.inl ⟨Or.inr ⟨c1, Int32.not_le.mpr c2⟩, rfl⟩
      · rw [if_neg c2]
        obtain ⟨n, _, k2, k3⟩ := nI_le2 h1 h2 c1 c2
        exact Or.inr ⟨c1, Int32.not_lt.mp c2, rfl, n, k3, k2⟩
  rcases (show i = 0 ∨ i = 1 ∨ i = 2 by omega) with rfl | rfl | rfl
  · rcases gen 10 900 (by omega) (by omega) with ⟨a, b⟩ | ⟨a, b, c, n, d, e⟩
    · exact Or.inl ⟨a, b⟩
    · exact Or.inr ⟨a, b, c, n, d, fun _ => e, fun q => absurd q (by decide), fun q => absurd q (by decide)⟩
  · rcases gen 0 20 (by omega) (by omega) with ⟨a, b⟩ | ⟨a, b, c, n, d, e⟩
    · exact Or.inl ⟨a, b⟩
    · exact Or.inr ⟨a, b, c, n, d, fun q => absurd q (by decide), fun _ => e, fun q => absurd q (by decide)⟩
  · rcases gen 0 50 (by omega) (by omega) with ⟨a, b⟩ | ⟨a, b, c, n, d, e⟩
    · exact Or.inl ⟨a, b⟩
    · exact Or.inr ⟨a, b, c, n, d, fun q => absurd q (by decide), fun q => absurd q (by decide), fun _ => e⟩
end
end
section
/-! the class's calls where they are carried out: the outcome, and WR behind them -/
section
variable {M m : PM} {s len K : Nat}
theorem hand_in (M m : PM) {h : Nat} (hh : h < 8) : v_X4_isHand M (nI h) = 1 ∧ v_X5_isHand m (nI h) = 1 := by
  rcases hand_or M m (nI h) with ⟨p1, p2⟩ | ⟨j, hj, e, p1, p2⟩
  · exfalso
    unfold v_X4_isHand at p1
    rw [if_neg (nI_pos (by omega)), if_neg (L_nle 8 (n := 8) rfl hh (by omega))] at p1
    exact absurd p1 (by decide)
  · exact ⟨p1, p2⟩
theorem row_in (M m : PM) {r : Nat} (hr : r < 12) : v_X4_isRow M (nI r) = 1 ∧ v_X5_isRow m (nI r) = 1 := by
  rcases row_or M m (nI r) with ⟨p1, p2⟩ | ⟨j, hj, e, p1, p2⟩
  · exfalso
    unfold v_X4_isRow at p1
    rw [if_neg (nI_pos (by omega)), if_neg (L_nle 12 (n := 12) rfl hr (by omega))] at p1
    exact absurd p1 (by decide)
  · exact ⟨p1, p2⟩
theorem ok_ask (H : WR M m s len K) {h r : Nat} {md : Int32} (hh : h < 8) (hr : r < 12) (hm : MO md) (cw : v_X5_waits m (nI h) = 0) : o_X4_ask M (nI h) (nI r) md = .inl (some (vI (v_X5_asks (svM m s) h r md))) ∧ WR (w_X4_ask M (nI h) (nI r) md) (w_X5_asks (svM m s) h r md) (svN s) len (K + 20) := by
  have d1 : ¬ (1 : Int32) = 0 := by decide
  obtain ⟨p1, p2⟩ := hand_in M m hh
  obtain ⟨q1, q2⟩ := row_in M m hr
  have r1 : v_X4_isMode M md = 1 := by
    rcases mode_or M m md with ⟨a, b⟩ | ⟨_, a, b⟩
    · exfalso
      unfold v_X4_isMode at a
      rcases hm with rfl | rfl | rfl <;> exact absurd a (by decide)
    · exact a
  have ew := wr_wait H hh
  obtain ⟨W, t0⟩ := sv_W H
  have wN : clT (w_X0_save M 0) 0 1 h = -1 := (wait_c (m := svM m s) W.1.1 hh).mp (by rw [waits_cong (zz_svM m s)]; exact cw)
  obtain ⟨v, ⟨c2, w1, w2, w3⟩, _⟩ := takeAsking_R (w_X0_save M 0) (svM m s) 0 W.1.1 hh hr hm wN
  rw [setS_id] at v w1
  have o := oz_asks (svM m s) h r md
  refine ⟨?_, ?_⟩
  · unfold o_X4_ask
    rw [p1, if_neg d1, q1, if_pos d1, r1, if_pos d1, ew, if_pos cw, v]
  · unfold w_X4_ask
    rw [p1, if_neg d1, q1, if_pos d1, r1, if_pos d1, ew, if_pos cw, w1]
    exact wr_oz W ⟨w2, bc_c W.1.2.1 (w3.2 4 (by omega)) (w3.2 10 (by omega)), cn_le (w3.1 K W.1.2.2) (by omega)⟩ (by omega) o
theorem ok_release (H : WR M m s len K) {h r : Nat} (hh : h < 8) (hr : r < 12) (z : ¬ v_X5_canRelease m h r = 0) : o_X4_release M (nI h) (nI r) = .inl (some (vI (v_X5_releases (svM m s) h r))) ∧ WR (w_X4_release M (nI h) (nI r)) (w_X5_releases (svM m s) h r) (svN s) len (K + 20) := by
  have d1 : ¬ (1 : Int32) = 0 := by decide
  obtain ⟨p1, p2⟩ := hand_in M m hh
  obtain ⟨q1, q2⟩ := row_in M m hr
  have ec := canRelease_R (st_val H) hh hr
  obtain ⟨W, t0⟩ := sv_W H
  have zN : ¬ v_X5_canRelease (svM m s) h r = 0 := by
    have e0 : v_X5_canRelease (svM m s) h r = v_X5_canRelease m h r := by
      unfold v_X5_canRelease
      rw [rowOf_cong (zz_svM m s), show v_X5_lockOf (svM m s) h r = v_X5_lockOf m h r from congrFun (zz_svM m s) _]
    rw [e0]; exact z
  obtain ⟨v, c2, w1, w2, w3⟩ := release_R (w_X0_save M 0) (svM m s) 0 W.1.1 hh hr (can_c W.1.1 hh zN)
  rw [setS_id] at v w1
  have o := oz_releases (svM m s) h r
  refine ⟨?_, ?_⟩
  · unfold o_X4_release
    rw [p1, if_neg d1, q1, if_pos d1, ec, if_pos z, v]
  · unfold w_X4_release
    rw [p1, if_neg d1, q1, if_pos d1, ec, if_pos z, w1]
    exact wr_oz W ⟨w2, bc_c W.1.2.1 (w3.2.2 4 (by omega)) (w3.2.2 10 (by omega)), cn_le (w3.2.1 K W.1.2.2) (by omega)⟩ (by omega) o
theorem ok_giveUp (H : WR M m s len K) {h : Nat} (hh : h < 8) (cw : ¬ v_X5_waits m (nI h) = 0) : o_X4_giveUp M (nI h) = .inl (some (vI (v_X5_rowOf (svM m s) (nI h)))) ∧ WR (w_X4_giveUp M (nI h)) (giveW m h s) (svN s) len (K + 20) := by
  have d1 : ¬ (1 : Int32) = 0 := by decide
  obtain ⟨p1, p2⟩ := hand_in M m hh
  have ew := wr_wait H hh
  obtain ⟨W, t0⟩ := sv_W H
  have wN : ¬ clT (w_X0_save M 0) 0 1 h = -1 := fun q => cw (by rw [← waits_cong (zz_svM m s)]; exact (wait_c (m := svM m s) W.1.1 hh).mpr q)
  obtain ⟨v, c2, w1, w2, w3⟩ := giveUp_R (w_X0_save M 0) (svM m s) 0 W.1.1 hh wN
  rw [setS_id] at v w1
  have o : OZ (svM m s) (giveW m h s) := oz_trans (oz_unq _ _ _) (oz_settle _ _)
  refine ⟨?_, ?_⟩
  · unfold o_X4_giveUp
    rw [p1, if_pos d1, ew, if_pos cw, v]
  · unfold w_X4_giveUp
    rw [p1, if_pos d1, ew, if_pos cw, w1]
    exact wr_oz W ⟨w2, bc_c W.1.2.1 (w3.2.2 4 (by omega)) (w3.2.2 10 (by omega)), cn_le (w3.2.1 K W.1.2.2) (by omega)⟩ (by omega) o
theorem ok_handOn (H : WR M m s len K) {h r o : Nat} (hh : h < 8) (hr : r < 12) (ho : o < 8) (z : ¬ v_X5_canHandOn m h r (nI o) = 0) : o_X4_handOn M (nI h) (nI r) (nI o) = .inl (some (vI (v_X5_lockOf (hoC (svM m s) h r o) o r))) ∧ WR (w_X4_handOn M (nI h) (nI r) (nI o)) (w_X5_settle (hoC (svM m s) h r o) r) (svN s) len (K + 20) := by
  have d1 : ¬ (1 : Int32) = 0 := by decide
  obtain ⟨p1, p2⟩ := hand_in M m hh
  obtain ⟨q1, q2⟩ := row_in M m hr
  obtain ⟨r1, r2⟩ := hand_in M m ho
  have ec := canHandOn_R (st_val H) hh hr ho
  obtain ⟨W, t0⟩ := sv_W H
  have z2 : ¬ v_X2_canPassOver M 0 (nI h) (nI r) (nI o) = 0 := by rw [ec]; exact z
  have hw1 : ¬ clT M 0 1 h = nI r := by
    intro q
    apply z2
    unfold v_X2_canPassOver v_X2_canLetGo
    rw [at_in (k := 1) (g := 0) (show h < 8 from hh), show cl M 0 1 h = nI r from q]
    by_cases c0 : v_X1_at M 0 0 (v_X4_cell M (nI h) (nI r)) ≤ 0
    · rw [if_pos c0, if_pos rfl]
    · rw [if_neg c0, if_pos rfl, if_pos rfl]
  have hw2 : clT M 0 1 o = nI r := by
    refine Classical.byContradiction fun q => z2 ?_
    unfold v_X2_canPassOver
    rw [at_in (k := 1) (g := 0) (show o < 8 from ho)]
    by_cases c0 : v_X2_canLetGo M 0 (nI h) (nI r) = 0
    · rw [if_pos c0]
    · rw [if_neg c0]
      by_cases c1 : nI h = nI o
      · rw [if_pos c1]
      · rw [if_neg c1, if_pos (show ¬ cl M 0 1 o = nI r from q)]
  have eN : clT (w_X0_save M 0) 0 = clT M 0 := (save_R (wr_5 H 0)).2
  obtain ⟨v, c2, w1, w2, w3⟩ := handOn_R (w_X0_save M 0) (svM m s) 0 W.1.1 hh hr ho (by rw [eN]; exact hw1) (by rw [eN]; exact hw2)
  rw [setS_id] at v w1
  have oo : OZ (svM m s) (w_X5_settle (hoC (svM m s) h r o) r) := oz_trans (oz_trans (oz_trans (oz_setLock _ _ _ _) (oz_setz _ _)) (oz_wI _ _ _)) (oz_settle _ _)
  refine ⟨?_, ?_⟩
  · unfold o_X4_handOn
    rw [p1, if_neg d1, q1, if_neg d1, r1, if_pos d1, ec, if_pos z, v]
  · unfold w_X4_handOn
    rw [p1, if_neg d1, q1, if_neg d1, r1, if_pos d1, ec, if_pos z, w1]
    exact wr_oz W ⟨w2, bc_c W.1.2.1 (w3.2.2 4 (by omega)) (w3.2.2 10 (by omega)), cn_le (w3.2.1 K W.1.2.2) (by omega)⟩ (by omega) oo
theorem ok_pass (H : WR M m s len K) {k : Nat} (h1 : 1 ≤ k) (h2 : k ≤ 100) : o_X4_pass M (nI k) = .inl (some (vI (zz (passW m k s) 4 - zz m 4))) ∧ WR (w_X4_pass M (nI k)) (passW m k s) (svN s) len (K + 20) := by
  have c1 : ¬ nI k < 1 := nI_nlt (a := k) (b := 1) h1 (by omega)
  have c2' : nI k ≤ 100 := nI_le (b := 100) h2 (by omega)
  obtain ⟨W, t0⟩ := sv_W H
  have a := lp_rel (b_X4_pass_1 M (nI k)) b_X5_pass_1 k (fun _ x t => WR x.2 t (svN s) len K ∧ x.1 = zz t 4 - zz m 4) (fun j x t hj hs => by
    obtain ⟨x1, x2⟩ := x
    obtain ⟨V, e⟩ := hs
    have V : WR x2 t (svN s) len K := V
    have e : x1 = zz t 4 - zz m 4 := e
    obtain ⟨c2, w1, w2, w3, w4, w5⟩ := tick_R x2 t 0 V.1.1 V.1.2.1
    rw [setS_id] at w1 w5
    have o := oz_tick t
    unfold b_X4_pass_1 b_X5_pass_1
    dsimp only
    refine ⟨?_, ?_⟩
    · rw [w1]
      exact wr_oz V ⟨w2, w3, w4 K V.1.2.2⟩ (Nat.le_refl _) o
    · rw [w5, e]; grind) k 0 ((0 : Int32), w_X0_save M 0) (svM m s) (Nat.add_zero _) ⟨W, by rw [zz_svM]; exact (Int32.sub_self _).symm⟩
  obtain ⟨b1, b2⟩ := a
  refine ⟨?_, ?_⟩
  · unfold o_X4_pass
    rw [if_neg c1, if_pos c2', nI_clamp (by omega), b2]
    rfl
  · unfold w_X4_pass
    rw [if_neg c1, if_pos c2', nI_clamp (by omega)]
    exact wr_le b1 (by omega)
theorem ok_set (H : WR M m s len K) {i : Nat} {x : Int32} (hi : i < 3) (q : v_X5_isValue m (nI i) x = 1) : o_X4_set M (nI i) x = .inl (some (vI (zz m (0 + i)))) ∧ WR (w_X4_set M (nI i) x) (wI (svM m s) 8 0 0 (0 + i) x) (svN s) len (K + 20) := by
  have d1 : ¬ (1 : Int32) = 0 := by decide
  have p1 : v_X4_isSetting M (nI i) = 1 := by
    rcases set_or M m (nI i) with ⟨p1, p2⟩ | ⟨j, hj, e, p1, p2⟩
    · exfalso
      unfold v_X4_isSetting at p1
      rw [if_neg (nI_pos (by omega)), if_neg (L_nle 3 (n := 3) rfl hi (by omega))] at p1
      exact absurd p1 (by decide)
    · exact p1
  rcases val_or M m hi x with ⟨_, q0⟩ | ⟨c, c3, _, n, en, b0, b1, b2⟩
  · rw [q0] at q; exact absurd q (by decide)
  · obtain ⟨W, t0⟩ := sv_W H
    have e4 : v_X1_at (w_X0_save M 0) 10 0 (nI i) = zz m (0 + i) := by rw [setting_R W hi, zz_svM]
    have eP : w_X1_put (w_X0_save M 0) 10 0 (nI i) x = setS (w_X0_save M 0) 0 (up2 (clT (w_X0_save M 0) 0) 10 i x) := by
      have k1 := put_S (w_X0_save M 0) 0 10 i (clT (w_X0_save M 0) 0) x (by omega) (show i < 3 from hi)
      rw [setS_id] at k1
      exact k1
    refine ⟨?_, ?_⟩
    · unfold o_X4_set
      rw [p1, if_pos d1, if_neg c, if_pos c3, e4]
    · unfold w_X4_set
      rw [p1, if_pos d1, if_neg c, if_pos c3, eP]
      refine wr_oz W ⟨?_, ?_, ?_⟩ (show K ≤ K + 20 by omega) (oz_wI (svM m s) (0 + i) x)
      · rw [zz_wI]
        exact sa_raise W.1.1 (k := 10) (i := i) (by omega) (by omega) (by omega) (show i < 3 from hi) x
      · obtain ⟨x1, x2, x3, x4⟩ := W.1.2.1
        have ev : ∀ j, up2 (clT (w_X0_save M 0) 0) 10 i x 10 j = if j = i then x else clT (w_X0_save M 0) 0 10 j := fun j => by
          unfold up2
          by_cases u : j = i
          · rw [if_pos ⟨rfl, u⟩, if_pos u]
          · rw [if_neg (fun v => u v.2), if_neg u]
        refine ⟨?_, ?_, ?_, fun r2 hr2 => ?_⟩
        · rw [ev]
          by_cases u : 0 = i
          · rw [if_pos u]; exact ⟨n, b0 u.symm, en⟩
          · rw [if_neg u]; exact x1
        · rw [ev]
          by_cases u : 1 = i
          · rw [if_pos u]; exact ⟨n, b1 u.symm, en⟩
          · rw [if_neg u]; exact x2
        · rw [ev]
          by_cases u : 2 = i
          · rw [if_pos u]; exact ⟨n, b2 u.symm, en⟩
          · rw [if_neg u]; exact x3
        · rw [up2_o _ _ _ _ (by decide)]; exact x4 r2 hr2
      · exact cn_le (ec_cn (c := clT (w_X0_save M 0) 0) ⟨up2_o _ _ _ _ (by decide), up2_o _ _ _ _ (by decide), up2_o _ _ _ _ (by decide)⟩ W.1.2.2) (by omega)
theorem ok_lock (H : WR M m s len K) {h r : Nat} (hh : h < 8) (hr : r < 12) : o_X4_lock M (nI h) (nI r) = .inl (some (vI (zz m (5 + 12 * h + r)))) := by
  have d1 : ¬ (1 : Int32) = 0 := by decide
  obtain ⟨p1, p2⟩ := hand_in M m hh
  obtain ⟨q1, q2⟩ := row_in M m hr
  unfold o_X4_lock
  rw [p1, if_neg d1, q1, if_pos d1, lock_R (st_val H) hh hr]
  rfl
theorem ok_takers (H : WR M m s len K) {h r : Nat} (hh : h < 8) (hr : r < 12) : o_X4_takers M (nI h) (nI r) = .inl (some (vI (v_X5_takersNow m h r))) := by
  have d1 : ¬ (1 : Int32) = 0 := by decide
  obtain ⟨p1, p2⟩ := hand_in M m hh
  obtain ⟨q1, q2⟩ := row_in M m hr
  unfold o_X4_takers
  rw [p1, if_neg d1, q1, if_pos d1, takers_R (st_val H) hh hr]
theorem ok_hand (H : WR M m s len K) {h w : Nat} (hh : h < 8) (hw : w < 9) : o_X4_hand M (nI h) (nI w) = .inl (some (vI (v_X5_handNow m h w))) := by
  have d1 : ¬ (1 : Int32) = 0 := by decide
  obtain ⟨p1, p2⟩ := hand_in M m hh
  have kk := handPart_R M m 0 H.1.1 hh hw
  rw [setS_id] at kk
  unfold o_X4_hand
  rw [p1, if_pos d1, if_neg (nI_pos (by omega)), if_pos (show nI w < (9 : Int32) from nI_lt (b := 9) hw (by omega)), kk]
theorem ok_row (H : WR M m s len K) {r w : Nat} (hr : r < 12) (hw : w < 6) : o_X4_row M (nI r) (nI w) = .inl (some (vI (v_X5_rowNow m r (nI w)))) := by
  have d1 : ¬ (1 : Int32) = 0 := by decide
  obtain ⟨p1, p2⟩ := row_in M m hr
  have kk := rowPart_R M m 0 H.1.1 hr (nI w)
  rw [setS_id] at kk
  unfold o_X4_row
  rw [p1, if_pos d1, if_neg (nI_pos (by omega)), if_pos (show nI w < (6 : Int32) from nI_lt (b := 6) hw (by omega)), kk]
theorem ok_request (H : WR M m s len K) {r p x : Nat} (hr : r < 12) (hp : p < 8) (hx : x < 2) : o_X4_request M (nI r) (nI p) (nI x) = .inl (some (vI (v_X5_requestNow m r p (nI x)))) := by
  have d1 : ¬ (1 : Int32) = 0 := by decide
  obtain ⟨p1, p2⟩ := row_in M m hr
  unfold o_X4_request
  rw [p1, if_pos d1, if_neg (nI_pos (by omega)), if_neg (L_nle 8 (n := 8) rfl hp (by omega)), if_neg (nI_pos (by omega)), if_pos (show nI x < (2 : Int32) from nI_lt (b := 2) hx (by omega)), request_R (st_val H) hr hp]
theorem ok_count (H : WR M m s len K) {w : Nat} (hw : w < 10) : o_X4_count M (nI w) = .inl (some (vI (v_X5_counted m w))) := by
  unfold o_X4_count
  rw [if_neg (nI_pos (by omega)), if_pos (show nI w < (10 : Int32) from nI_lt (b := 10) hw (by omega)), number_of_R H hw]
theorem ok_waitsFor (H : WR M m s len K) {h : Nat} (hh : h < 8) : o_X4_waitsFor M (nI h) = .inl (some (vI (v_X5_waitsOver m (nI h)))) := by
  have d1 : ¬ (1 : Int32) = 0 := by decide
  obtain ⟨p1, p2⟩ := hand_in M m hh
  unfold o_X4_waitsFor
  rw [p1, if_pos d1, reach_R (st_val H) hh]
end
end
section
/-! p28's law: its arrays (kind 8: n, lk, qu, qm, he, bu, lo, gr, as), and the rows that read and write them -/
def setA (M : PM) (a : Nat → Nat → Int32) : PM := (fun t k g i => if t = 8 ∧ k < 9 ∧ g = 0 then a k i else M.1 t k g i, M.2)
def arA (M : PM) : Nat → Nat → Int32 := fun k i => M.1 8 k 0 i
theorem sA_at (M : PM) (a : Nat → Nat → Int32) {k : Nat} (i : Nat) (hk : k < 9) : (setA M a).1 8 k 0 i = a k i := by
  unfold setA
  dsimp only
  rw [if_pos ⟨rfl, hk, rfl⟩]
theorem sA_o (M : PM) (a : Nat → Nat → Int32) {t k g i : Nat} (h : ¬ t = 8) : (setA M a).1 t k g i = M.1 t k g i := by
  unfold setA
  dsimp only
  rw [if_neg (fun q => h q.1)]
theorem sA_w (M : PM) (a : Nat → Nat → Int32) {k : Nat} (i : Nat) (v : Int32) (hk : k < 9) : wI (setA M a) 8 k 0 i v = setA M (up2 a k i v) := by
  unfold wI setA up2
  congr 1
  funext t k2 g i2
  dsimp only
  by_cases h : t = 8 ∧ k2 < 9 ∧ g = 0
  · rw [if_pos h, if_pos h]
    by_cases q : k2 = k ∧ i2 = i
    · rw [if_pos ⟨h.1, q.1, h.2.2, q.2⟩, if_pos q]
    · rw [if_neg (fun u => q ⟨u.2.1, u.2.2.2⟩), if_neg q]
  · rw [if_neg h, if_neg h, if_neg]
    rintro ⟨u1, u2, u3, u4⟩
    exact h ⟨u1, by rw [u2]; exact hk, u3⟩
theorem sA_id (M : PM) : setA M (arA M) = M := by
  obtain ⟨x, y⟩ := M
  unfold setA arA
  congr 1
  funext t k g i
  dsimp only
  by_cases h : t = 8 ∧ k < 9 ∧ g = 0
  · rw [if_pos h]; obtain ⟨rfl, -, rfl⟩ := h; rfl
  · rw [if_neg h]
theorem sA_sA (M : PM) (a b : Nat → Nat → Int32) : setA (setA M a) b = setA M b := by
  unfold setA
  congr 1
  funext t k g i
  dsimp only
  by_cases h : t = 8 ∧ k < 9 ∧ g = 0
  · rw [if_pos h, if_pos h]
  · rw [if_neg h, if_neg h, if_neg h]
theorem zlen_lt (k : Nat) : zlen k < 2 ^ 31 := by unfold zlen; split <;> decide
theorem an_la {MM : MI} {pc : Nat} {L : List (Option PV)} {r : List PV} {M m2 : PM} {a : Nat → Nat → Int32} {j : Int32} {v : OC} (k E : Nat) (hk : k < 9) (hE : E < zlen k) (hj : j = nI E) (h : asc (mT MM) pc = some (.iaload, 1)) (kk : An MM (pc + 1) L (vI (a k E) :: r) (setA M a) v m2) : An MM pc L (vI j :: vR 8 k 0 :: r) (setA M a) v m2 := by
  refine an_ald E (zlen k) h rfl hj hE (zlen_lt k) ?_
  rw [sA_at M a E hk]
  exact kk
theorem an_sa {MM : MI} {pc : Nat} {L : List (Option PV)} {r : List PV} {M m2 : PM} {a : Nat → Nat → Int32} {j x : Int32} {v : OC} (k E : Nat) (hk : k < 9) (hE : E < zlen k) (hj : j = nI E) (h : asc (mT MM) pc = some (.iastore, 1)) (kk : An MM (pc + 1) L r (setA M (up2 a k E x)) v m2) : An MM pc L (vI x :: vI j :: vR 8 k 0 :: r) (setA M a) v m2 := by
  refine an_ast E (zlen k) h rfl (by decide) hj hE (zlen_lt k) ?_
  rw [sA_w M a E x hk]
  exact kk
/-- quotients and remainders -/
theorem nI_div {q n : Nat} (hq : q < 2 ^ 31) (hn : n < 2 ^ 31) : nI q / nI n = nI (q / n) := by
  have h1 : q / n ≤ q := Nat.div_le_self q n
  apply Int32.toInt_inj.mp
  rw [Int32.toInt_div, nI_toInt hq, nI_toInt hn, nI_toInt (by omega)]
  have h2 : ((q : Int).tdiv (n : Int)) = ((q / n : Nat) : Int) := Int.ofNat_tdiv q n
  rw [h2]
  clear h2
  generalize q / n = e at h1 ⊢
  unfold Int.bmod
  rw [show ((2 ^ 32 : Nat) : Int) = 4294967296 from rfl]
  dsimp only
  split <;> omega
theorem nI_rem {q n : Nat} (hq : q < 2 ^ 31) (h0 : 0 < n) (hn : n < 2 ^ 31) : nI q - nI q / nI n * nI n = nI (q % n) := by
  rw [nI_div hq hn, pk_mul, nI_sub2 (Nat.div_mul_le_self q n)]
  congr 1
  have := Nat.mod_add_div q n
  rw [Nat.mul_comm n] at this
  omega
theorem ush_1 (x : Int32) : ∃ q, q < 2 ^ 31 ∧ (x.toUInt32 >>> ((1 : Int32).toUInt32 &&& Int32.toUInt32 31)).toInt32 = nI q := by
  have e1 : (1 : Int32).toUInt32 &&& Int32.toUInt32 31 = 1 := by decide
  rw [e1]
  have h2 : (x.toUInt32 >>> (1 : UInt32)).toNat < 2 ^ 31 := by
    rw [UInt32.toNat_shiftRight]
    have := x.toUInt32.toNat_lt
    rw [show (1 : UInt32).toNat % 32 = 1 from rfl, Nat.shiftRight_eq_div_pow]
    omega
  refine ⟨(x.toUInt32 >>> (1 : UInt32)).toNat, h2, ?_⟩
  show _ = Int32.ofNat _
  rw [← UInt32.toInt32_ofNat', UInt32.ofNat_toNat]
theorem rem8 : ∀ w, w < 5 → ∀ md, md < 4 → nI (w + 8 * md) - nI (w + 8 * md) / 8 * 8 = nI w := by decide
theorem div8 : ∀ w, w < 5 → ∀ md, md < 4 → nI (w + 8 * md) / 8 = nI md := by decide
end
section
/-! the law's small methods: at, cell, work, clashes, rowOf -/
theorem one_irem {M : MI} {pc : Nat} {L : List (Option PV)} {r : List PV} {m m2 : PM} {x y : Int32} {v : OC} (h : asc (mT M) pc = some (.irem, 1)) (hn : ¬ y = 0) (kk : An M (pc + 1) L (vI (x - x / y * y) :: r) m v m2) : An M pc L (vI y :: vI x :: r) m v m2 := by
  refine an_b 1 (pc2 := pc + 1) (L2 := L) (st2 := vI (x - x / y * y) :: r) (m1 := m) ?_ kk
  have e : sm_one M pc L (vI y :: vI x :: r) m = some (pc + 1, L, vI (x - x / y * y) :: r, m) := by
    unfold sm_one
    rw [h]
    have e2 : sm_c .irem 1 pc L (vI y :: vI x :: r) m = some (pc + 1, L, vI (x - x / y * y) :: r, m) := by
      unfold sm_c
      simp only [if_neg hn]
    show sm_ins _ _ _ _ _ _ _ = _
    unfold sm_ins
    rw [show sm_a .irem 1 pc L (vI y :: vI x :: r) m = none from rfl, show sm_b .irem 1 pc L (vI y :: vI x :: r) m = none from rfl, e2]
  show (match sm_one M pc L (vI y :: vI x :: r) m with | some s2 => sm_many 0 M s2 | none => none) = _
  rw [e]
  rfl
theorem r_at (m : PM) (x : Int32) {n : Nat} (h0 : 0 < n) (hn : n < 2 ^ 31) : ∃ q, q < n ∧ Rn ML_at [vI x, vI (nI n)] m (some (vI (nI q))) m := by
  obtain ⟨q, hq, e⟩ := ush_1 x
  refine ⟨q % n, Nat.mod_lt _ h0, ?_⟩
  refine rn_of [some (vI x), some (vI (nI n))] rfl ?_
  refine an_b 4 (pc2 := 4) (L2 := [some (vI x), some (vI (nI n))]) (st2 := [vI (nI n), vI (((x).toUInt32 >>> (((1 : Int32)).toUInt32 &&& Int32.toUInt32 31)).toInt32)]) (m1 := m) rfl ?_
  rw [e]
  refine one_irem rfl (nI_ne0 h0 hn) ?_
  rw [nI_rem hq h0 hn]
  exact an_ret rfl rfl rfl rfl rfl
theorem r_cell (m : PM) {L9 j : Nat} (hj : j < 2 ^ 31) (hL : m.1 10 0 1 0 = nI L9) (h9 : L9 < 2 ^ 31) : ∃ v, Rn ML_cell [vR 10 0 0, vI (nI j)] m (some (vI v)) m := by
  by_cases c : L9 ≤ j
  · refine ⟨(1284865837 : Int32) * (nI j + (191 : Int32)), ?_⟩
    refine rn_of [some (vR 10 0 0), some (vI (nI j))] rfl ?_
    refine an_b 4 (pc2 := if (nI L9) ≤ (nI j) then 12 else 6) (L2 := [some (vR 10 0 0), some (vI (nI j))]) (st2 := []) (m1 := m) (by rw [← hL]; rfl) ?_
    refine an_t (nI_le c hj) ?_
    refine an_b 5 (pc2 := 20) (L2 := [some (vR 10 0 0), some (vI (nI j))]) (st2 := [vI ((1284865837 : Int32) * ((nI j) + (191 : Int32)))]) (m1 := m) rfl ?_
    exact an_ret rfl rfl rfl rfl rfl
  · refine ⟨m.1 10 0 0 (nI j).toNatClampNeg, ?_⟩
    refine rn_of [some (vR 10 0 0), some (vI (nI j))] rfl ?_
    refine an_b 4 (pc2 := if (nI L9) ≤ (nI j) then 12 else 6) (L2 := [some (vR 10 0 0), some (vI (nI j))]) (st2 := []) (m1 := m) (by rw [← hL]; rfl) ?_
    refine an_f (nI_ge (a := j) (b := L9) (by omega) h9) ?_
    refine an_b 2 (pc2 := 8) (L2 := [some (vR 10 0 0), some (vI (nI j))]) (st2 := [vI (nI j), vR 10 0 0]) (m1 := m) rfl ?_
    refine one_iald L9 rfl (show some (m.1 10 0 1 0).toNatClampNeg = some L9 by rw [hL, nI_clamp h9]) (nI_in (by omega) h9) ?_
    refine an_b 1 (pc2 := 20) (L2 := [some (vR 10 0 0), some (vI (nI j))]) (st2 := [vI (m.1 10 0 0 (nI j).toNatClampNeg)]) (m1 := m) rfl ?_
    exact an_ret rfl rfl rfl rfl rfl
def LK (a : Nat → Nat → Int32) (z : Nat → Int32) : Prop := (∀ h r, h < 5 → r < 6 → a 1 (6 * h + r) = z (5 + 12 * h + r)) ∧ ∀ h r, h < 8 → r < 12 → (5 ≤ h ∨ 6 ≤ r) → z (5 + 12 * h + r) = 0
def LQ (a : Nat → Nat → Int32) (z : Nat → Int32) : Prop := (∀ r, r < 6 → ∃ n, n ≤ 5 ∧ z (125 + r) = nI n ∧ a 3 r = nI n ∧ ∀ p, p < n → ∃ w md, w < 5 ∧ 1 ≤ md ∧ md < 4 ∧ z (137 + 8 * r + p) = nI w ∧ z (233 + 8 * r + p) = nI md ∧ a 2 (5 * r + p) = nI (w + 8 * md)) ∧ ∀ r, 6 ≤ r → r < 12 → z (125 + r) = 0
def LC (a : Nat → Nat → Int32) (z : Nat → Int32) : Prop := ∀ k, k < 4 → (∀ h, h < 5 → a (5 + k) h = z (329 + 8 * k + h)) ∧ ∀ h, 5 ≤ h → h < 8 → z (329 + 8 * k + h) = 0
def hsum (z : Nat → Int32) : Int32 := lp (fun j s => s + z (113 + j)) 12 0 0
def LT (a : Nat → Nat → Int32) (z : Nat → Int32) (s : Nat) : Prop := (∀ r, r < 6 → a 4 r = z (101 + r)) ∧ a 0 0 = z 3 ∧ a 0 1 = z 4 ∧ a 0 2 = nI s ∧ a 0 3 = z 0 ∧ a 0 4 = z 1 ∧ a 0 5 = z 2 ∧ a 0 6 = hsum z
/-- the law's arrays are the row of numbers; s states are saved -/
def LA (a : Nat → Nat → Int32) (z : Nat → Int32) (s : Nat) : Prop := LK a z ∧ LQ a z ∧ LC a z ∧ LT a z s
theorem lp_add {σ : Type} (f : Nat → σ → σ) : ∀ n k j s, lp f (n + k) j s = lp f k (j + n) (lp f n j s) := by
  intro n
  induction n with
  | zero => intro k j s; rw [lp_0, Nat.zero_add, Nat.add_zero]
  | succ n ih => intro k j s; rw [show n + 1 + k = (n + k) + 1 by omega, lp_s, lp_s, ih, show j + 1 + n = j + (n + 1) by omega]
theorem lp_id {σ : Type} (f : Nat → σ → σ) (N : Nat) (s : σ) : ∀ n j, n + j = N → (∀ i, j ≤ i → i < N → f i s = s) → lp f n j s = s := by
  intro n
  induction n with
  | zero => intro j _ _; rw [lp_0]
  | succ n ih => intro j h k; rw [lp_s, k j (Nat.le_refl _) (by omega)]; exact ih (j + 1) (by omega) (fun i a b => k i (by omega) b)
section
variable {M m : PM} {a : Nat → Nat → Int32} {s : Nat}
theorem work_6 (H : LK a (zz m)) {h : Nat} (hh : h < 5) : v_X5_workOf m h = lp (fun j x => x + a 1 (6 * h + j)) 6 0 0 := by
  unfold v_X5_workOf
  rw [show (12 : Nat) = 6 + 6 from rfl, lp_add, lp_id _ 12 _ 6 (0 + 6) rfl (fun i h1 h2 => by
    show _ + zz m (5 + 12 * h + i) = _
    rw [H.2 h i (by omega) h2 (Or.inr (by omega)), Int32.add_zero])]
  refine lp_cong 6 (fun j x hj => ?_) 6 0 0 rfl
  show x + zz m (5 + 12 * h + j) = x + a 1 (6 * h + j)
  rw [H.1 h j hh hj]
theorem r_work (H : LK a (zz m)) {h : Nat} (hh : h < 5) : Rn ML_work [vR 8 1 0, vI (nI h)] (setA M a) (some (vI (v_X5_workOf m h))) (setA M a) := by
  rw [work_6 H hh]
  refine rn_of [some (vR 8 1 0), some (vI (nI h)), none, none] rfl ?_
  refine an_b 4 (pc2 := 4) (L2 := [some (vR 8 1 0), some (vI (nI h)), some (vI (0 : Int32)), some (vI (0 : Int32))]) (st2 := []) (m1 := (setA M a)) rfl ?_
  refine re_lp (fun j x => x + a 1 (6 * h + j)) (fun j x => (4, [some (vR 8 1 0), some (vI (nI h)), some (vI x), some (vI (nI j))], [], setA M a)) 6 (fun x => (4, [some (vR 8 1 0), some (vI (nI h)), some (vI x), some (vI (nI 6))], [], setA M a)) (fun j x hj v9 m9 K => ?_) (fun x v9 m9 K => K) 6 0 0 rfl _ _ ?_
  · show An ML_work 4 [some (vR 8 1 0), some (vI (nI h)), some (vI x), some (vI (nI j))] [] (setA M a) v9 m9
    refine an_b 3 (pc2 := if (6 : Int32) ≤ (nI j) then 27 else 10) (L2 := [some (vR 8 1 0), some (vI (nI h)), some (vI x), some (vI (nI j))]) (st2 := []) (m1 := (setA M a)) rfl ?_
    refine an_f (nI_ge (b := 6) hj (by omega)) ?_
    refine an_b 7 (pc2 := 18) (L2 := [some (vR 8 1 0), some (vI (nI h)), some (vI x), some (vI (nI j))]) (st2 := [vI (((6 : Int32) * (nI h)) + (nI j)), vR 8 1 0, vI x]) (m1 := (setA M a)) rfl ?_
    refine an_la 1 ((6 * h) + j) (by decide) (by show _ < 30; omega) (by simp only [ix_lit, pk_mul, nI_add]) rfl ?_
    refine an_b 4 (pc2 := 4) (L2 := [some (vR 8 1 0), some (vI (nI h)), some (vI (x + (a 1 ((6 * h) + j)))), some (vI ((nI j) + (1 : Int32)))]) (st2 := []) (m1 := (setA M a)) rfl ?_
    rw [← nI_1] at K
    exact K
  show An ML_work 4 [some (vR 8 1 0), some (vI (nI h)), some (vI (lp (fun j x => x + a 1 (6 * h + j)) 6 0 0)), some (vI (nI 6))] [] (setA M a) _ _
  refine an_b 3 (pc2 := if (6 : Int32) ≤ (nI 6) then 27 else 10) (L2 := [some (vR 8 1 0), some (vI (nI h)), some (vI (lp (fun j x => x + a 1 (6 * h + j)) 6 0 0)), some (vI (nI 6))]) (st2 := []) (m1 := (setA M a)) rfl ?_
  refine an_t (nI_le (Nat.le_refl 6) (by omega)) ?_
  refine an_b 1 (pc2 := 28) (L2 := [some (vR 8 1 0), some (vI (nI h)), some (vI (lp (fun j x => x + a 1 (6 * h + j)) 6 0 0)), some (vI (nI 6))]) (st2 := [vI (lp (fun j x => x + a 1 (6 * h + j)) 6 0 0)]) (m1 := (setA M a)) rfl ?_
  exact an_ret rfl rfl rfl rfl rfl
/-- a lock in the way -/
def clP (a : Nat → Nat → Int32) (r : Nat) (md but third : Int32) (h : Nat) : Prop := ¬ nI h = but ∧ ¬ nI h = third ∧ ¬ a 1 (6 * h + r) ≤ 0 ∧ ¬ a 1 (6 * h + r) + md ≤ 3
theorem all_s {P : Nat → Prop} {N h : Nat} (hp : ¬ P h) : (∀ j, h + 1 ≤ j → j < N → ¬ P j) ↔ ∀ j, h ≤ j → j < N → ¬ P j :=
  ⟨fun k j a b => by
    by_cases e : j = h
    · rw [e]; exact hp
    · exact k j (by omega) b, fun k j a b => k j (by omega) b⟩
theorem r_clashes {r : Nat} (hr : r < 6) (md but third : Int32) : ∃ b : Int32, Rn ML_clashes [vR 8 1 0, vI (nI r), vI md, vI but, vI third] (setA M a) (some (vI b)) (setA M a) ∧ (b = 0 ∨ b = 1) ∧ (b = 0 ↔ ∀ j, j < 5 → ¬ clP a r md but third j) := by
  suffices K : ∀ d h, h + d = 5 → ∃ b : Int32, An ML_clashes 3 [some (vR 8 1 0), some (vI (nI r)), some (vI md), some (vI but), some (vI third), some (vI (nI h))] [] (setA M a) (.inl (some (vI b))) (setA M a) ∧ (b = 0 ∨ b = 1) ∧ (b = 0 ↔ ∀ j, h ≤ j → j < 5 → ¬ clP a r md but third j) by
    obtain ⟨b, k1, k2, k3⟩ := K 5 0 rfl
    refine ⟨b, rn_of [some (vR 8 1 0), some (vI (nI r)), some (vI md), some (vI but), some (vI third), none] rfl ?_, k2, k3.trans ⟨fun k j h => k j (Nat.zero_le _) h, fun k j _ h => k j h⟩⟩
    refine an_b 2 (pc2 := 3) (L2 := [some (vR 8 1 0), some (vI (nI r)), some (vI md), some (vI but), some (vI third), some (vI (0 : Int32))]) (st2 := []) (m1 := (setA M a)) rfl ?_
    exact k1
  intro d
  induction d with
  | zero =>
    intro h hd
    obtain rfl : h = 5 := by omega
    refine ⟨0, ?_, Or.inl rfl, fun _ j h1 h2 => by omega, fun _ => rfl⟩
    refine an_b 3 (pc2 := if (5 : Int32) ≤ (nI 5) then 57 else 9) (L2 := [some (vR 8 1 0), some (vI (nI r)), some (vI md), some (vI but), some (vI third), some (vI (nI 5))]) (st2 := []) (m1 := (setA M a)) rfl ?_
    refine an_t (nI_le (Nat.le_refl 5) (by omega)) ?_
    refine an_b 1 (pc2 := 58) (L2 := [some (vR 8 1 0), some (vI (nI r)), some (vI md), some (vI but), some (vI third), some (vI (nI 5))]) (st2 := [vI (0 : Int32)]) (m1 := (setA M a)) rfl ?_
    exact an_ret rfl rfl rfl rfl rfl
  | succ d ih =>
    intro h hd
    obtain ⟨b, k1, k2, k3⟩ := ih (h + 1) (by omega)
    have nx : An ML_clashes 51 [some (vR 8 1 0), some (vI (nI r)), some (vI md), some (vI but), some (vI third), some (vI (nI h))] [] (setA M a) (.inl (some (vI b))) (setA M a) := by
      refine an_b 2 (pc2 := 3) (L2 := [some (vR 8 1 0), some (vI (nI r)), some (vI md), some (vI but), some (vI third), some (vI ((nI h) + (1 : Int32)))]) (st2 := []) (m1 := (setA M a)) rfl ?_
      rw [← nI_1] at k1
      exact k1
    by_cases c1 : nI h = but
    · refine ⟨b, ?_, k2, k3.trans (all_s (fun q => q.1 c1))⟩
      refine an_b 3 (pc2 := if (5 : Int32) ≤ (nI h) then 57 else 9) (L2 := [some (vR 8 1 0), some (vI (nI r)), some (vI md), some (vI but), some (vI third), some (vI (nI h))]) (st2 := []) (m1 := (setA M a)) rfl ?_
      refine an_f (nI_ge (b := 5) (by omega) (by omega)) ?_
      refine an_b 3 (pc2 := if (nI h) = but then 51 else 15) (L2 := [some (vR 8 1 0), some (vI (nI r)), some (vI md), some (vI but), some (vI third), some (vI (nI h))]) (st2 := []) (m1 := (setA M a)) rfl ?_
      refine an_t c1 ?_
      exact nx
    by_cases c2 : nI h = third
    · refine ⟨b, ?_, k2, k3.trans (all_s (fun q => q.2.1 c2))⟩
      refine an_b 3 (pc2 := if (5 : Int32) ≤ (nI h) then 57 else 9) (L2 := [some (vR 8 1 0), some (vI (nI r)), some (vI md), some (vI but), some (vI third), some (vI (nI h))]) (st2 := []) (m1 := (setA M a)) rfl ?_
      refine an_f (nI_ge (b := 5) (by omega) (by omega)) ?_
      refine an_b 3 (pc2 := if (nI h) = but then 51 else 15) (L2 := [some (vR 8 1 0), some (vI (nI r)), some (vI md), some (vI but), some (vI third), some (vI (nI h))]) (st2 := []) (m1 := (setA M a)) rfl ?_
      refine an_f c1 ?_
      refine an_b 3 (pc2 := if (nI h) = third then 51 else 22) (L2 := [some (vR 8 1 0), some (vI (nI r)), some (vI md), some (vI but), some (vI third), some (vI (nI h))]) (st2 := []) (m1 := (setA M a)) rfl ?_
      refine an_t c2 ?_
      exact nx
    by_cases c3 : a 1 (6 * h + r) ≤ 0
    · refine ⟨b, ?_, k2, k3.trans (all_s (fun q => q.2.2.1 c3))⟩
      refine an_b 3 (pc2 := if (5 : Int32) ≤ (nI h) then 57 else 9) (L2 := [some (vR 8 1 0), some (vI (nI r)), some (vI md), some (vI but), some (vI third), some (vI (nI h))]) (st2 := []) (m1 := (setA M a)) rfl ?_
      refine an_f (nI_ge (b := 5) (by omega) (by omega)) ?_
      refine an_b 3 (pc2 := if (nI h) = but then 51 else 15) (L2 := [some (vR 8 1 0), some (vI (nI r)), some (vI md), some (vI but), some (vI third), some (vI (nI h))]) (st2 := []) (m1 := (setA M a)) rfl ?_
      refine an_f c1 ?_
      refine an_b 3 (pc2 := if (nI h) = third then 51 else 22) (L2 := [some (vR 8 1 0), some (vI (nI r)), some (vI md), some (vI but), some (vI third), some (vI (nI h))]) (st2 := []) (m1 := (setA M a)) rfl ?_
      refine an_f c2 ?_
      refine an_b 6 (pc2 := 30) (L2 := [some (vR 8 1 0), some (vI (nI r)), some (vI md), some (vI but), some (vI third), some (vI (nI h))]) (st2 := [vI (((6 : Int32) * (nI h)) + (nI r)), vR 8 1 0]) (m1 := (setA M a)) rfl ?_
      refine an_la 1 ((6 * h) + r) (by decide) (by show _ < 30; omega) (by simp only [ix_lit, pk_mul, nI_add]) rfl ?_
      refine an_b 1 (pc2 := if (a 1 ((6 * h) + r)) ≤ 0 then 51 else 34) (L2 := [some (vR 8 1 0), some (vI (nI r)), some (vI md), some (vI but), some (vI third), some (vI (nI h))]) (st2 := []) (m1 := (setA M a)) rfl ?_
      refine an_t c3 ?_
      exact nx
    by_cases c4 : a 1 (6 * h + r) + md ≤ 3
    · refine ⟨b, ?_, k2, k3.trans (all_s (fun q => q.2.2.2 c4))⟩
      refine an_b 3 (pc2 := if (5 : Int32) ≤ (nI h) then 57 else 9) (L2 := [some (vR 8 1 0), some (vI (nI r)), some (vI md), some (vI but), some (vI third), some (vI (nI h))]) (st2 := []) (m1 := (setA M a)) rfl ?_
      refine an_f (nI_ge (b := 5) (by omega) (by omega)) ?_
      refine an_b 3 (pc2 := if (nI h) = but then 51 else 15) (L2 := [some (vR 8 1 0), some (vI (nI r)), some (vI md), some (vI but), some (vI third), some (vI (nI h))]) (st2 := []) (m1 := (setA M a)) rfl ?_
      refine an_f c1 ?_
      refine an_b 3 (pc2 := if (nI h) = third then 51 else 22) (L2 := [some (vR 8 1 0), some (vI (nI r)), some (vI md), some (vI but), some (vI third), some (vI (nI h))]) (st2 := []) (m1 := (setA M a)) rfl ?_
      refine an_f c2 ?_
      refine an_b 6 (pc2 := 30) (L2 := [some (vR 8 1 0), some (vI (nI r)), some (vI md), some (vI but), some (vI third), some (vI (nI h))]) (st2 := [vI (((6 : Int32) * (nI h)) + (nI r)), vR 8 1 0]) (m1 := (setA M a)) rfl ?_
      refine an_la 1 ((6 * h) + r) (by decide) (by show _ < 30; omega) (by simp only [ix_lit, pk_mul, nI_add]) rfl ?_
      refine an_b 1 (pc2 := if (a 1 ((6 * h) + r)) ≤ 0 then 51 else 34) (L2 := [some (vR 8 1 0), some (vI (nI r)), some (vI md), some (vI but), some (vI third), some (vI (nI h))]) (st2 := []) (m1 := (setA M a)) rfl ?_
      refine an_f c3 ?_
      refine an_b 6 (pc2 := 42) (L2 := [some (vR 8 1 0), some (vI (nI r)), some (vI md), some (vI but), some (vI third), some (vI (nI h))]) (st2 := [vI (((6 : Int32) * (nI h)) + (nI r)), vR 8 1 0]) (m1 := (setA M a)) rfl ?_
      refine an_la 1 ((6 * h) + r) (by decide) (by show _ < 30; omega) (by simp only [ix_lit, pk_mul, nI_add]) rfl ?_
      refine an_b 4 (pc2 := if ((a 1 ((6 * h) + r)) + md) ≤ (3 : Int32) then 51 else 49) (L2 := [some (vR 8 1 0), some (vI (nI r)), some (vI md), some (vI but), some (vI third), some (vI (nI h))]) (st2 := []) (m1 := (setA M a)) rfl ?_
      refine an_t c4 ?_
      exact nx
    refine ⟨1, ?_, Or.inr rfl, fun q => absurd q (by decide), fun q => absurd ⟨c1, c2, c3, c4⟩ (q h (Nat.le_refl _) (by omega))⟩
    refine an_b 3 (pc2 := if (5 : Int32) ≤ (nI h) then 57 else 9) (L2 := [some (vR 8 1 0), some (vI (nI r)), some (vI md), some (vI but), some (vI third), some (vI (nI h))]) (st2 := []) (m1 := (setA M a)) rfl ?_
    refine an_f (nI_ge (b := 5) (by omega) (by omega)) ?_
    refine an_b 3 (pc2 := if (nI h) = but then 51 else 15) (L2 := [some (vR 8 1 0), some (vI (nI r)), some (vI md), some (vI but), some (vI third), some (vI (nI h))]) (st2 := []) (m1 := (setA M a)) rfl ?_
    refine an_f c1 ?_
    refine an_b 3 (pc2 := if (nI h) = third then 51 else 22) (L2 := [some (vR 8 1 0), some (vI (nI r)), some (vI md), some (vI but), some (vI third), some (vI (nI h))]) (st2 := []) (m1 := (setA M a)) rfl ?_
    refine an_f c2 ?_
    refine an_b 6 (pc2 := 30) (L2 := [some (vR 8 1 0), some (vI (nI r)), some (vI md), some (vI but), some (vI third), some (vI (nI h))]) (st2 := [vI (((6 : Int32) * (nI h)) + (nI r)), vR 8 1 0]) (m1 := (setA M a)) rfl ?_
    refine an_la 1 ((6 * h) + r) (by decide) (by show _ < 30; omega) (by simp only [ix_lit, pk_mul, nI_add]) rfl ?_
    refine an_b 1 (pc2 := if (a 1 ((6 * h) + r)) ≤ 0 then 51 else 34) (L2 := [some (vR 8 1 0), some (vI (nI r)), some (vI md), some (vI but), some (vI third), some (vI (nI h))]) (st2 := []) (m1 := (setA M a)) rfl ?_
    refine an_f c3 ?_
    refine an_b 6 (pc2 := 42) (L2 := [some (vR 8 1 0), some (vI (nI r)), some (vI md), some (vI but), some (vI third), some (vI (nI h))]) (st2 := [vI (((6 : Int32) * (nI h)) + (nI r)), vR 8 1 0]) (m1 := (setA M a)) rfl ?_
    refine an_la 1 ((6 * h) + r) (by decide) (by show _ < 30; omega) (by simp only [ix_lit, pk_mul, nI_add]) rfl ?_
    refine an_b 4 (pc2 := if ((a 1 ((6 * h) + r)) + md) ≤ (3 : Int32) then 51 else 49) (L2 := [some (vR 8 1 0), some (vI (nI r)), some (vI md), some (vI but), some (vI third), some (vI (nI h))]) (st2 := []) (m1 := (setA M a)) rfl ?_
    refine an_f c4 ?_
    refine an_b 1 (pc2 := 50) (L2 := [some (vR 8 1 0), some (vI (nI r)), some (vI md), some (vI but), some (vI third), some (vI (nI h))]) (st2 := [vI (1 : Int32)]) (m1 := (setA M a)) rfl ?_
    exact an_ret rfl rfl rfl rfl rfl
theorem rq_n {rr rm rp z : Nat → Int32} (HQ : RQ rr rm rp z) (H : LQ a z) {h : Nat} (hh : h < 8) : rr h = -1 ∨ ∃ r n p, r < 6 ∧ n ≤ 5 ∧ z (125 + r) = nI n ∧ a 3 r = nI n ∧ p < n ∧ rr h = nI r ∧ rp h = nI p ∧ z (137 + 8 * r + p) = nI h := by
  rcases HQ.2 h hh with ⟨e, _⟩ | ⟨r, n, p, h1, h2, h3, h4, h5, h6, h7⟩
  · exact Or.inl e
  · by_cases c : r < 6
    · obtain ⟨n2, g1, g2, g3, _⟩ := H.1 r c
      have e : n = n2 := (nI_eq (by omega) (by omega)).mp (h2.symm.trans g2)
      exact Or.inr ⟨r, n, p, c, by omega, h2, by rw [e]; exact g3, h4, h5, h6, h7⟩
    · have e := H.2 r (by omega) h1
      rw [h2] at e
      exact absurd e (nI_ne0 (by omega) (by omega))
theorem r_rowOf {rr rm rp : Nat → Int32} (HQ : RQ rr rm rp (zz m)) (H : LQ a (zz m)) {h : Nat} (hh : h < 5) : Rn ML_rowOf [vR 8 2 0, vR 8 3 0, vI (nI h)] (setA M a) (some (vI (rr h))) (setA M a) := by
  have ho := rq_n HQ H (h := h) (by omega)
  suffices K : ∀ d r, r + d = 6 → (∀ r2, r2 < r → ¬ rr h = nI r2) → An ML_rowOf 2 [some (vR 8 2 0), some (vR 8 3 0), some (vI (nI h)), some (vI (nI r)), none] [] (setA M a) (.inl (some (vI (rr h)))) (setA M a) by
    refine rn_of [some (vR 8 2 0), some (vR 8 3 0), some (vI (nI h)), none, none] rfl ?_
    refine an_b 2 (pc2 := 2) (L2 := [some (vR 8 2 0), some (vR 8 3 0), some (vI (nI h)), some (vI (0 : Int32)), none]) (st2 := []) (m1 := (setA M a)) rfl ?_
    exact K 6 0 rfl (fun _ q => by omega)
  intro d
  induction d with
  | zero =>
    intro r hd hn
    obtain rfl : r = 6 := by omega
    have e1 : rr h = -1 := by
      rcases ho with e | ⟨r, n, p, h1, _, _, _, _, h5, _⟩
      · exact e
      · exact absurd h5 (hn r h1)
    rw [e1]
    refine an_b 3 (pc2 := if (6 : Int32) ≤ (nI 6) then 48 else 8) (L2 := [some (vR 8 2 0), some (vR 8 3 0), some (vI (nI h)), some (vI (nI 6)), none]) (st2 := []) (m1 := (setA M a)) rfl ?_
    refine an_t (nI_le (Nat.le_refl 6) (by omega)) ?_
    refine an_b 1 (pc2 := 49) (L2 := [some (vR 8 2 0), some (vR 8 3 0), some (vI (nI h)), some (vI (nI 6)), none]) (st2 := [vI (-1 : Int32)]) (m1 := (setA M a)) rfl ?_
    exact an_ret rfl rfl rfl rfl rfl
  | succ d ih =>
    intro r hd hn
    have hr : r < 6 := by omega
    obtain ⟨n, hn5, n1, n2, n3⟩ := H.1 r hr
    refine an_b 3 (pc2 := if (6 : Int32) ≤ (nI r) then 48 else 8) (L2 := [some (vR 8 2 0), some (vR 8 3 0), some (vI (nI h)), some (vI (nI r)), none]) (st2 := []) (m1 := (setA M a)) rfl ?_
    refine an_f (nI_ge (b := 6) (by omega) (by omega)) ?_
    refine an_b 2 (pc2 := 11) (L2 := [some (vR 8 2 0), some (vR 8 3 0), some (vI (nI h)), some (vI (nI r)), some (vI (0 : Int32))]) (st2 := []) (m1 := (setA M a)) rfl ?_
    suffices K2 : ∀ e k, k + e = n → (∀ k2, k2 < k → ¬ zz m (137 + 8 * r + k2) = nI h) → An ML_rowOf 11 [some (vR 8 2 0), some (vR 8 3 0), some (vI (nI h)), some (vI (nI r)), some (vI (nI k))] [] (setA M a) (.inl (some (vI (rr h)))) (setA M a) from K2 n 0 (Nat.zero_add n) (fun _ q => by omega)
    intro e
    induction e with
    | zero =>
      intro k hk hq
      obtain rfl : k = n := by omega
      refine an_b 3 (pc2 := 15) (L2 := [some (vR 8 2 0), some (vR 8 3 0), some (vI (nI h)), some (vI (nI r)), some (vI (nI k))]) (st2 := [vI (nI r), vR 8 3 0, vI (nI k)]) (m1 := (setA M a)) rfl ?_
      refine an_la 3 r (by decide) (by show _ < 6; omega) rfl rfl ?_
      refine an_b 1 (pc2 := if (nI k) ≤ (nI k) then 42 else 19) (L2 := [some (vR 8 2 0), some (vR 8 3 0), some (vI (nI h)), some (vI (nI r)), some (vI (nI k))]) (st2 := []) (m1 := (setA M a)) (by rw [n2]; rfl) ?_
      refine an_t (nI_le (Nat.le_refl k) (by omega)) ?_
      refine an_b 2 (pc2 := 2) (L2 := [some (vR 8 2 0), some (vR 8 3 0), some (vI (nI h)), some (vI ((nI r) + (1 : Int32))), some (vI (nI k))]) (st2 := []) (m1 := (setA M a)) rfl ?_
      refine an_weak (L := [some (vR 8 2 0), some (vR 8 3 0), some (vI (nI h)), some (vI (nI (r + 1))), none]) ⟨rfl, rfl, rfl, by rw [nI_1], trivial⟩ ?_
      refine ih (r + 1) (by omega) (fun r2 h2 => ?_)
      by_cases q : r2 = r
      · subst q
        intro hr2
        rcases ho with e | ⟨r3, n3, p, h1, h2, h3, h4, h5, h6, h7, h8⟩
        · exact nI_nm1 (show r2 < 2 ^ 31 by omega) (hr2.symm.trans e)
        · obtain rfl : r2 = r3 := (nI_eq (by omega) (by omega)).mp (hr2.symm.trans h6)
          obtain rfl : k = n3 := (nI_eq (by omega) (by omega)).mp (n1.symm.trans h3)
          exact hq p h5 h8
      · exact hn r2 (by omega)
    | succ e ih2 =>
      intro k hk hq
      obtain ⟨w, md, w1, w2, w3, w4, w5, w6⟩ := n3 k (by omega)
      refine an_b 3 (pc2 := 15) (L2 := [some (vR 8 2 0), some (vR 8 3 0), some (vI (nI h)), some (vI (nI r)), some (vI (nI k))]) (st2 := [vI (nI r), vR 8 3 0, vI (nI k)]) (m1 := (setA M a)) rfl ?_
      refine an_la 3 r (by decide) (by show _ < 6; omega) rfl rfl ?_
      refine an_b 1 (pc2 := if (nI n) ≤ (nI k) then 42 else 19) (L2 := [some (vR 8 2 0), some (vR 8 3 0), some (vI (nI h)), some (vI (nI r)), some (vI (nI k))]) (st2 := []) (m1 := (setA M a)) (by rw [n2]; rfl) ?_
      refine an_f (nI_ge (by omega) (by omega)) ?_
      refine an_b 6 (pc2 := 26) (L2 := [some (vR 8 2 0), some (vR 8 3 0), some (vI (nI h)), some (vI (nI r)), some (vI (nI k))]) (st2 := [vI (((5 : Int32) * (nI r)) + (nI k)), vR 8 2 0]) (m1 := (setA M a)) rfl ?_
      refine an_la 2 ((5 * r) + k) (by decide) (by show _ < 36; omega) (by simp only [ix_lit, pk_mul, nI_add]) rfl ?_
      refine an_b 4 (pc2 := if ¬ (nI w) = (nI h) then 36 else 34) (L2 := [some (vR 8 2 0), some (vR 8 3 0), some (vI (nI h)), some (vI (nI r)), some (vI (nI k))]) (st2 := []) (m1 := (setA M a)) (by rw [show a 2 (5 * r + k) = nI (w + 8 * md) from w6, ← rem8 w w1 md w3]; rfl) ?_
      by_cases c : nI w = nI h
      · refine an_f (fun q => q c) ?_
        have e1 : rr h = nI r := by
          obtain ⟨n4, _, g2, g3⟩ := HQ.1 r (by omega)
          obtain rfl : n = n4 := (nI_eq (by omega) (by omega)).mp (n1.symm.trans g2)
          obtain ⟨h2, x1, x2, x3, _⟩ := g3 k (by omega)
          obtain rfl : h2 = h := (nI_eq (by omega) (by omega)).mp (x2.symm.trans (w4.trans c))
          exact x3
        rw [e1]
        refine an_b 1 (pc2 := 35) (L2 := [some (vR 8 2 0), some (vR 8 3 0), some (vI (nI h)), some (vI (nI r)), some (vI (nI k))]) (st2 := [vI (nI r)]) (m1 := (setA M a)) rfl ?_
        exact an_ret rfl rfl rfl rfl rfl
      · refine an_t c ?_
        refine an_b 2 (pc2 := 11) (L2 := [some (vR 8 2 0), some (vR 8 3 0), some (vI (nI h)), some (vI (nI r)), some (vI ((nI k) + (1 : Int32)))]) (st2 := []) (m1 := (setA M a)) rfl ?_
        rw [nI_1]
        exact ih2 (k + 1) (by omega) (fun k2 h2 => by
          by_cases q : k2 = k
          · rw [q, w4]; exact c
          · exact hq k2 (by omega))
end
end
section
/-! the law's waits and over -/
def low5 (x : Int32) : Prop := ∀ i, i < 32 → bit x i = true → i < 5
theorem bit_wn {m : PM} {rr rm rp : Nat → Int32} (HQ : RQ rr rm rp (zz m)) {h r n p : Nat} (hh : h < 8) (hr : r < 12) (hn : zz m (125 + r) = nI n) (hn8 : n ≤ 8) (hp : p < n) (e1 : rr h = nI r) (e2 : rp h = nI p) : ∀ i, i < 32 → (bit (v_X5_waitsNow m (nI h)) i = true ↔ (i < 8 ∧ clB m r (zz m (233 + 8 * r + p)) (nI h) i = true) ∨ ∃ q, q < p ∧ zz m (137 + 8 * r + q) = nI i) := by
  intro i hi
  have hro := rowOf_R HQ hh
  have eP := plc_of HQ hh hr e1 e2 (show p < 8 by omega)
  unfold v_X5_waitsNow
  rw [if_neg (show ¬ v_X5_rowOf m (nI h) = -1 by rw [hro, e1]; exact nI_nm1 (by omega))]
  have eR : rowN m (nI h) = r := by unfold rowN; rw [hro, e1]; exact nI_clamp (by omega)
  rw [eR, eP]
  obtain ⟨n2, hn2, en2, kn⟩ := HQ.1 r hr
  rw [hn] at en2
  obtain rfl := (nI_eq (by omega) (by omega)).mp en2
  rw [bit_who m r p (fun q hq => by obtain ⟨h2, b1, b2, _⟩ := kn q (by omega); exact ⟨h2, b1, b2⟩) p 0 _ (Nat.add_zero _) i hi, bit_clash m r _ _ i hi, Bool.and_eq_true, decide_eq_true_eq]
  constructor
  · rintro (q | ⟨q, _, h2, h3⟩)
    · exact Or.inl q
    · exact Or.inr ⟨q, h2, h3⟩
  · rintro (q | ⟨q, h2, h3⟩)
    · exact Or.inl q
    · exact Or.inr ⟨q, Nat.zero_le _, h2, h3⟩
section
variable {M m : PM} {a : Nat → Nat → Int32} {s : Nat} {rr rm rp : Nat → Int32}
theorem clB_P (H : LK a (zz m)) {r i : Nat} (hr : r < 6) (hi : i < 8) (md but : Int32) : clB m r md but i = true ↔ i < 5 ∧ clP a r md but (-1) i := by
  unfold clB clP
  by_cases c5 : i < 5
  · have e : v_X5_lockOf m i r = a 1 (6 * i + r) := (H.1 i r c5 hr).symm
    rw [e]
    by_cases c1 : nI i = but
    · rw [if_pos c1]; exact ⟨fun q => absurd q (by decide), fun q => absurd c1 q.2.1⟩
    rw [if_neg c1]
    by_cases c2 : a 1 (6 * i + r) ≤ 0
    · rw [if_pos c2]; exact ⟨fun q => absurd q (by decide), fun q => absurd c2 q.2.2.2.1⟩
    rw [if_neg c2]
    by_cases c3 : a 1 (6 * i + r) + md ≤ 3
    · rw [if_pos c3]; exact ⟨fun q => absurd q (by decide), fun q => absurd c3 q.2.2.2.2⟩
    · rw [if_neg c3]; exact ⟨fun _ => ⟨c5, c1, nI_nm1 (by omega), c2, c3⟩, fun _ => rfl⟩
  · have e : v_X5_lockOf m i r = 0 := H.2 i r hi (by omega) (Or.inl (by omega))
    rw [e, if_pos (show (0 : Int32) ≤ 0 by decide)]
    constructor
    · intro q
      split at q <;> exact absurd q (by decide)
    · exact fun q => absurd q.1 c5
theorem low5_wn (HQ : RQ rr rm rp (zz m)) (H : LQ a (zz m)) (HK : LK a (zz m)) {h : Nat} (hh : h < 8) : low5 (v_X5_waitsNow m (nI h)) := by
  intro i hi q
  rcases rq_n HQ H hh with e | ⟨r, n, p, h1, h2, h3, h4, h5, h6, h7, h8⟩
  · have hro := rowOf_R HQ hh
    unfold v_X5_waitsNow at q
    rw [if_pos (by rw [hro]; exact e), bit_0] at q
    exact absurd q (by decide)
  · rw [bit_wn HQ hh (by omega) h3 (by omega) h5 h6 h7 i hi] at q
    rcases q with ⟨g1, g2⟩ | ⟨q, g1, g2⟩
    · exact ((clB_P HK h1 g1 _ _).mp g2).1
    · obtain ⟨n2, _, g3, _, g4⟩ := H.1 r h1
      obtain rfl : n = n2 := (nI_eq (by omega) (by omega)).mp (h3.symm.trans g3)
      obtain ⟨w, md, w1, _, _, w4, _⟩ := g4 q (by omega)
      obtain rfl : w = i := (nI_eq (by omega) (by omega)).mp (w4.symm.trans g2)
      exact w1
theorem r_waits (HQ : RQ rr rm rp (zz m)) (H : LQ a (zz m)) (HK : LK a (zz m)) {h : Nat} (hh : h < 5) : Rn ML_waits [vR 8 1 0, vR 8 2 0, vR 8 3 0, vI (nI h)] (setA M a) (some (vI (v_X5_waitsNow m (nI h)))) (setA M a) := by
  refine rn_of [some (vR 8 1 0), some (vR 8 2 0), some (vR 8 3 0), some (vI (nI h)), none, none, none, none] rfl ?_
  refine an_b 3 (pc2 := 3) (L2 := [some (vR 8 1 0), some (vR 8 2 0), some (vR 8 3 0), some (vI (nI h)), none, none, none, none]) (st2 := [vI (nI h), vR 8 3 0, vR 8 2 0]) (m1 := (setA M a)) rfl ?_
  refine an_call (r_rowOf HQ H hh) rfl rfl rfl rfl ?_
  refine an_b 3 (pc2 := if 0 ≤ (rr h) then 15 else 13) (L2 := [some (vR 8 1 0), some (vR 8 2 0), some (vR 8 3 0), some (vI (nI h)), some (vI (rr h)), none, none, none]) (st2 := []) (m1 := (setA M a)) rfl ?_
  rcases rq_n HQ H (h := h) (by omega) with e | ⟨r, n, p, hr, hn5, hn, hqm, hp, e1, e2, e3⟩
  · have hro := rowOf_R HQ (h := h) (by omega)
    have ev : v_X5_waitsNow m (nI h) = 0 := by
      unfold v_X5_waitsNow
      rw [if_pos (by rw [hro]; exact e)]
    rw [ev, e]
    refine an_f (by decide) ?_
    refine an_b 1 (pc2 := 14) (L2 := [some (vR 8 1 0), some (vR 8 2 0), some (vR 8 3 0), some (vI (nI h)), some (vI (-1 : Int32)), none, none, none]) (st2 := [vI (0 : Int32)]) (m1 := (setA M a)) rfl ?_
    exact an_ret rfl rfl rfl rfl rfl
  have hB := bit_wn HQ (h := h) (by omega) (show r < 12 by omega) hn (by omega) hp e1 e2
  obtain ⟨n2, _, g1, g2, g3⟩ := H.1 r hr
  obtain rfl : n = n2 := (nI_eq (by omega) (by omega)).mp (hn.symm.trans g1)
  obtain ⟨w0, md, w1, w2, w3, w4, w5, w6⟩ := g3 p hp
  obtain rfl : w0 = h := (nI_eq (by omega) (by omega)).mp (w4.symm.trans e3)
  rw [w5] at hB
  rw [e1]
  refine an_t (nI_pos' (by omega)) ?_
  refine an_b 6 (pc2 := 24) (L2 := [some (vR 8 1 0), some (vR 8 2 0), some (vR 8 3 0), some (vI (nI w0)), some (vI (nI r)), some (vI (0 : Int32)), some (vI (0 : Int32)), some (vI (0 : Int32))]) (st2 := []) (m1 := (setA M a)) rfl ?_
  -- the places ahead
  suffices K1 : ∀ e k x, k + e = p → (∀ i, i < 32 → (bit x i = true ↔ ∃ q, q < k ∧ zz m (137 + 8 * r + q) = nI i)) → An ML_waits 24 [some (vR 8 1 0), some (vR 8 2 0), some (vR 8 3 0), some (vI (nI w0)), some (vI (nI r)), some (vI x), some (vI 0), some (vI (nI k))] [] (setA M a) (.inl (some (vI (v_X5_waitsNow m (nI w0))))) (setA M a) from K1 p 0 0 (Nat.zero_add p) (fun i hi => by
    rw [bit_0]
    exact ⟨fun q => absurd q (by decide), fun ⟨q, h1, _⟩ => by omega⟩)
  -- the locks in the way
  have K3 : ∀ d o y, o + d = 5 → (∀ i, i < 32 → (bit y i = true ↔ (i < o ∧ clP a r (nI md) (nI w0) (-1) i) ∨ ∃ q, q < p ∧ zz m (137 + 8 * r + q) = nI i)) → An ML_waits 90 [some (vR 8 1 0), some (vR 8 2 0), some (vR 8 3 0), some (vI (nI w0)), some (vI (nI r)), some (vI y), some (vI (nI md)), some (vI (nI o))] [] (setA M a) (.inl (some (vI (v_X5_waitsNow m (nI w0))))) (setA M a) := by
    intro d
    induction d with
    | zero =>
      intro o y hd hy
      obtain rfl : o = 5 := by omega
      have ey : v_X5_waitsNow m (nI w0) = y := bit_ext (fun i hi => by
        rw [Bool.eq_iff_iff, hB i hi, hy i hi]
        constructor
        · rintro (⟨b1, b2⟩ | b)
          · exact Or.inl ((clB_P HK hr b1 _ _).mp b2)
          · exact Or.inr b
        · rintro (b | b)
          · exact Or.inl ⟨by omega, (clB_P HK hr (by omega) _ _).mpr b⟩
          · exact Or.inr b)
      rw [ey]
      refine an_b 3 (pc2 := if (5 : Int32) ≤ (nI 5) then 147 else 96) (L2 := [some (vR 8 1 0), some (vR 8 2 0), some (vR 8 3 0), some (vI (nI w0)), some (vI (nI r)), some (vI y), some (vI (nI md)), some (vI (nI 5))]) (st2 := []) (m1 := (setA M a)) rfl ?_
      refine an_t (nI_le (Nat.le_refl 5) (by omega)) ?_
      refine an_b 1 (pc2 := 149) (L2 := [some (vR 8 1 0), some (vR 8 2 0), some (vR 8 3 0), some (vI (nI w0)), some (vI (nI r)), some (vI y), some (vI (nI md)), some (vI (nI 5))]) (st2 := [vI y]) (m1 := (setA M a)) rfl ?_
      exact an_ret rfl rfl rfl rfl rfl
    | succ d ih =>
      intro o y hd hy
      have nx : ∀ y2, (∀ i, i < 32 → (bit y2 i = true ↔ (i < o + 1 ∧ clP a r (nI md) (nI w0) (-1) i) ∨ ∃ q, q < p ∧ zz m (137 + 8 * r + q) = nI i)) → An ML_waits 141 [some (vR 8 1 0), some (vR 8 2 0), some (vR 8 3 0), some (vI (nI w0)), some (vI (nI r)), some (vI y2), some (vI (nI md)), some (vI (nI o))] [] (setA M a) (.inl (some (vI (v_X5_waitsNow m (nI w0))))) (setA M a) := by
        intro y2 h2
        have k1 := ih (o + 1) y2 (by omega) h2
        refine an_b 2 (pc2 := 90) (L2 := [some (vR 8 1 0), some (vR 8 2 0), some (vR 8 3 0), some (vI (nI w0)), some (vI (nI r)), some (vI y2), some (vI (nI md)), some (vI ((nI o) + (1 : Int32)))]) (st2 := []) (m1 := (setA M a)) rfl ?_
        rw [← nI_1] at k1
        exact k1
      have no : ¬ clP a r (nI md) (nI w0) (-1) o → ∀ i, i < 32 → (bit y i = true ↔ (i < o + 1 ∧ clP a r (nI md) (nI w0) (-1) i) ∨ ∃ q, q < p ∧ zz m (137 + 8 * r + q) = nI i) := by
        intro c i hi
        rw [hy i hi]
        constructor
        · rintro (⟨b1, b2⟩ | b)
          · exact Or.inl ⟨by omega, b2⟩
          · exact Or.inr b
        · rintro (⟨b1, b2⟩ | b)
          · by_cases q : i = o
            · rw [q] at b2; exact absurd b2 c
            · exact Or.inl ⟨by omega, b2⟩
          · exact Or.inr b
      by_cases c1 : nI o = nI w0
      · refine an_b 3 (pc2 := if (5 : Int32) ≤ (nI o) then 147 else 96) (L2 := [some (vR 8 1 0), some (vR 8 2 0), some (vR 8 3 0), some (vI (nI w0)), some (vI (nI r)), some (vI y), some (vI (nI md)), some (vI (nI o))]) (st2 := []) (m1 := (setA M a)) rfl ?_
        refine an_f (nI_ge (b := 5) (by omega) (by omega)) ?_
        refine an_b 3 (pc2 := if (nI o) = (nI w0) then 141 else 102) (L2 := [some (vR 8 1 0), some (vR 8 2 0), some (vR 8 3 0), some (vI (nI w0)), some (vI (nI r)), some (vI y), some (vI (nI md)), some (vI (nI o))]) (st2 := []) (m1 := (setA M a)) rfl ?_
        refine an_t c1 ?_
        exact nx y (no (fun q => q.1 c1))
      by_cases c2 : a 1 (6 * o + r) ≤ 0
      · refine an_b 3 (pc2 := if (5 : Int32) ≤ (nI o) then 147 else 96) (L2 := [some (vR 8 1 0), some (vR 8 2 0), some (vR 8 3 0), some (vI (nI w0)), some (vI (nI r)), some (vI y), some (vI (nI md)), some (vI (nI o))]) (st2 := []) (m1 := (setA M a)) rfl ?_
        refine an_f (nI_ge (b := 5) (by omega) (by omega)) ?_
        refine an_b 3 (pc2 := if (nI o) = (nI w0) then 141 else 102) (L2 := [some (vR 8 1 0), some (vR 8 2 0), some (vR 8 3 0), some (vI (nI w0)), some (vI (nI r)), some (vI y), some (vI (nI md)), some (vI (nI o))]) (st2 := []) (m1 := (setA M a)) rfl ?_
        refine an_f c1 ?_
        refine an_b 6 (pc2 := 111) (L2 := [some (vR 8 1 0), some (vR 8 2 0), some (vR 8 3 0), some (vI (nI w0)), some (vI (nI r)), some (vI y), some (vI (nI md)), some (vI (nI o))]) (st2 := [vI (((6 : Int32) * (nI o)) + (nI r)), vR 8 1 0]) (m1 := (setA M a)) rfl ?_
        refine an_la 1 ((6 * o) + r) (by decide) (by show _ < 30; omega) (by simp only [ix_lit, pk_mul, nI_add]) rfl ?_
        refine an_b 1 (pc2 := if (a 1 ((6 * o) + r)) ≤ 0 then 141 else 115) (L2 := [some (vR 8 1 0), some (vR 8 2 0), some (vR 8 3 0), some (vI (nI w0)), some (vI (nI r)), some (vI y), some (vI (nI md)), some (vI (nI o))]) (st2 := []) (m1 := (setA M a)) rfl ?_
        refine an_t c2 ?_
        exact nx y (no (fun q => q.2.2.1 c2))
      by_cases c3 : a 1 (6 * o + r) + nI md ≤ 3
      · refine an_b 3 (pc2 := if (5 : Int32) ≤ (nI o) then 147 else 96) (L2 := [some (vR 8 1 0), some (vR 8 2 0), some (vR 8 3 0), some (vI (nI w0)), some (vI (nI r)), some (vI y), some (vI (nI md)), some (vI (nI o))]) (st2 := []) (m1 := (setA M a)) rfl ?_
        refine an_f (nI_ge (b := 5) (by omega) (by omega)) ?_
        refine an_b 3 (pc2 := if (nI o) = (nI w0) then 141 else 102) (L2 := [some (vR 8 1 0), some (vR 8 2 0), some (vR 8 3 0), some (vI (nI w0)), some (vI (nI r)), some (vI y), some (vI (nI md)), some (vI (nI o))]) (st2 := []) (m1 := (setA M a)) rfl ?_
        refine an_f c1 ?_
        refine an_b 6 (pc2 := 111) (L2 := [some (vR 8 1 0), some (vR 8 2 0), some (vR 8 3 0), some (vI (nI w0)), some (vI (nI r)), some (vI y), some (vI (nI md)), some (vI (nI o))]) (st2 := [vI (((6 : Int32) * (nI o)) + (nI r)), vR 8 1 0]) (m1 := (setA M a)) rfl ?_
        refine an_la 1 ((6 * o) + r) (by decide) (by show _ < 30; omega) (by simp only [ix_lit, pk_mul, nI_add]) rfl ?_
        refine an_b 1 (pc2 := if (a 1 ((6 * o) + r)) ≤ 0 then 141 else 115) (L2 := [some (vR 8 1 0), some (vR 8 2 0), some (vR 8 3 0), some (vI (nI w0)), some (vI (nI r)), some (vI y), some (vI (nI md)), some (vI (nI o))]) (st2 := []) (m1 := (setA M a)) rfl ?_
        refine an_f c2 ?_
        refine an_b 6 (pc2 := 124) (L2 := [some (vR 8 1 0), some (vR 8 2 0), some (vR 8 3 0), some (vI (nI w0)), some (vI (nI r)), some (vI y), some (vI (nI md)), some (vI (nI o))]) (st2 := [vI (((6 : Int32) * (nI o)) + (nI r)), vR 8 1 0]) (m1 := (setA M a)) rfl ?_
        refine an_la 1 ((6 * o) + r) (by decide) (by show _ < 30; omega) (by simp only [ix_lit, pk_mul, nI_add]) rfl ?_
        refine an_b 4 (pc2 := if ((a 1 ((6 * o) + r)) + (nI md)) ≤ (3 : Int32) then 141 else 132) (L2 := [some (vR 8 1 0), some (vR 8 2 0), some (vR 8 3 0), some (vI (nI w0)), some (vI (nI r)), some (vI y), some (vI (nI md)), some (vI (nI o))]) (st2 := []) (m1 := (setA M a)) rfl ?_
        refine an_t c3 ?_
        exact nx y (no (fun q => q.2.2.2 c3))
      refine an_b 3 (pc2 := if (5 : Int32) ≤ (nI o) then 147 else 96) (L2 := [some (vR 8 1 0), some (vR 8 2 0), some (vR 8 3 0), some (vI (nI w0)), some (vI (nI r)), some (vI y), some (vI (nI md)), some (vI (nI o))]) (st2 := []) (m1 := (setA M a)) rfl ?_
      refine an_f (nI_ge (b := 5) (by omega) (by omega)) ?_
      refine an_b 3 (pc2 := if (nI o) = (nI w0) then 141 else 102) (L2 := [some (vR 8 1 0), some (vR 8 2 0), some (vR 8 3 0), some (vI (nI w0)), some (vI (nI r)), some (vI y), some (vI (nI md)), some (vI (nI o))]) (st2 := []) (m1 := (setA M a)) rfl ?_
      refine an_f c1 ?_
      refine an_b 6 (pc2 := 111) (L2 := [some (vR 8 1 0), some (vR 8 2 0), some (vR 8 3 0), some (vI (nI w0)), some (vI (nI r)), some (vI y), some (vI (nI md)), some (vI (nI o))]) (st2 := [vI (((6 : Int32) * (nI o)) + (nI r)), vR 8 1 0]) (m1 := (setA M a)) rfl ?_
      refine an_la 1 ((6 * o) + r) (by decide) (by show _ < 30; omega) (by simp only [ix_lit, pk_mul, nI_add]) rfl ?_
      refine an_b 1 (pc2 := if (a 1 ((6 * o) + r)) ≤ 0 then 141 else 115) (L2 := [some (vR 8 1 0), some (vR 8 2 0), some (vR 8 3 0), some (vI (nI w0)), some (vI (nI r)), some (vI y), some (vI (nI md)), some (vI (nI o))]) (st2 := []) (m1 := (setA M a)) rfl ?_
      refine an_f c2 ?_
      refine an_b 6 (pc2 := 124) (L2 := [some (vR 8 1 0), some (vR 8 2 0), some (vR 8 3 0), some (vI (nI w0)), some (vI (nI r)), some (vI y), some (vI (nI md)), some (vI (nI o))]) (st2 := [vI (((6 : Int32) * (nI o)) + (nI r)), vR 8 1 0]) (m1 := (setA M a)) rfl ?_
      refine an_la 1 ((6 * o) + r) (by decide) (by show _ < 30; omega) (by simp only [ix_lit, pk_mul, nI_add]) rfl ?_
      refine an_b 4 (pc2 := if ((a 1 ((6 * o) + r)) + (nI md)) ≤ (3 : Int32) then 141 else 132) (L2 := [some (vR 8 1 0), some (vR 8 2 0), some (vR 8 3 0), some (vI (nI w0)), some (vI (nI r)), some (vI y), some (vI (nI md)), some (vI (nI o))]) (st2 := []) (m1 := (setA M a)) rfl ?_
      refine an_f c3 ?_
      refine an_b 6 (pc2 := 141) (L2 := [some (vR 8 1 0), some (vR 8 2 0), some (vR 8 3 0), some (vI (nI w0)), some (vI (nI r)), some (vI (y ||| ((1 : Int32) <<< ((nI o) &&& (31 : Int32))))), some (vI (nI md)), some (vI (nI o))]) (st2 := []) (m1 := (setA M a)) rfl ?_
      refine nx _ (fun i hi => ?_)
      rw [bit_or, bit_1 hi (by omega), Bool.or_eq_true, decide_eq_true_eq, hy i hi]
      constructor
      · rintro ((⟨b1, b2⟩ | b) | b)
        · exact Or.inl ⟨by omega, b2⟩
        · exact Or.inr b
        · subst b; exact Or.inl ⟨by omega, c1, nI_nm1 (by omega), c2, c3⟩
      · rintro (⟨b1, b2⟩ | b)
        · by_cases q : i = o
          · exact Or.inr q
          · exact Or.inl (Or.inl ⟨by omega, b2⟩)
        · exact Or.inl (Or.inr b)
  intro e
  induction e with
  | zero =>
    intro k x hk hx
    obtain rfl : k = p := by omega
    refine an_b 2 (pc2 := if ¬ (0 : Int32) = 0 then 87 else 29) (L2 := [some (vR 8 1 0), some (vR 8 2 0), some (vR 8 3 0), some (vI (nI w0)), some (vI (nI r)), some (vI x), some (vI (0 : Int32)), some (vI (nI k))]) (st2 := []) (m1 := (setA M a)) rfl ?_
    refine an_f (fun q => q rfl) ?_
    refine an_b 6 (pc2 := 37) (L2 := [some (vR 8 1 0), some (vR 8 2 0), some (vR 8 3 0), some (vI (nI w0)), some (vI (nI r)), some (vI x), some (vI (0 : Int32)), some (vI (nI k))]) (st2 := [vI (((5 : Int32) * (nI r)) + (nI k)), vR 8 2 0]) (m1 := (setA M a)) rfl ?_
    refine an_la 2 ((5 * r) + k) (by decide) (by show _ < 36; omega) (by simp only [ix_lit, pk_mul, nI_add]) rfl ?_
    refine an_b 4 (pc2 := if ¬ (nI w0) = (nI w0) then 62 else 45) (L2 := [some (vR 8 1 0), some (vR 8 2 0), some (vR 8 3 0), some (vI (nI w0)), some (vI (nI r)), some (vI x), some (vI (0 : Int32)), some (vI (nI k))]) (st2 := []) (m1 := (setA M a)) (by rw [show a 2 (5 * r + k) = nI (w0 + 8 * md) from w6, ← rem8 w0 w1 md w3]; rfl) ?_
    refine an_f (fun q => q rfl) ?_
    refine an_b 6 (pc2 := 53) (L2 := [some (vR 8 1 0), some (vR 8 2 0), some (vR 8 3 0), some (vI (nI w0)), some (vI (nI r)), some (vI x), some (vI (0 : Int32)), some (vI (nI k))]) (st2 := [vI (((5 : Int32) * (nI r)) + (nI k)), vR 8 2 0]) (m1 := (setA M a)) rfl ?_
    refine an_la 2 ((5 * r) + k) (by decide) (by show _ < 36; omega) (by simp only [ix_lit, pk_mul, nI_add]) rfl ?_
    refine an_b 3 (pc2 := 59) (L2 := [some (vR 8 1 0), some (vR 8 2 0), some (vR 8 3 0), some (vI (nI w0)), some (vI (nI r)), some (vI x), some (vI (nI md)), some (vI (nI k))]) (st2 := []) (m1 := (setA M a)) (by rw [show a 2 (5 * r + k) = nI (w0 + 8 * md) from w6, ← div8 w0 w1 md w3]; rfl) ?_
    refine an_b 3 (pc2 := 24) (L2 := [some (vR 8 1 0), some (vR 8 2 0), some (vR 8 3 0), some (vI (nI w0)), some (vI (nI r)), some (vI x), some (vI (nI md)), some (vI ((nI k) + (1 : Int32)))]) (st2 := []) (m1 := (setA M a)) rfl ?_
    refine an_b 2 (pc2 := if ¬ (nI md) = 0 then 87 else 29) (L2 := [some (vR 8 1 0), some (vR 8 2 0), some (vR 8 3 0), some (vI (nI w0)), some (vI (nI r)), some (vI x), some (vI (nI md)), some (vI ((nI k) + (1 : Int32)))]) (st2 := []) (m1 := (setA M a)) rfl ?_
    refine an_t (nI_ne0 (by omega) (by omega)) ?_
    refine an_b 2 (pc2 := 90) (L2 := [some (vR 8 1 0), some (vR 8 2 0), some (vR 8 3 0), some (vI (nI w0)), some (vI (nI r)), some (vI x), some (vI (nI md)), some (vI (0 : Int32))]) (st2 := []) (m1 := (setA M a)) rfl ?_
    refine K3 5 0 x rfl (fun i hi => ?_)
    rw [hx i hi]
    exact ⟨Or.inr, fun q => q.resolve_left (fun u => by omega)⟩
  | succ e ih =>
    intro k x hk hx
    obtain ⟨w, md2, u1, u2, u3, u4, u5, u6⟩ := g3 k (by omega)
    have hne : ¬ nI w = nI w0 := by
      intro q
      obtain rfl : w = w0 := (nI_eq (by omega) (by omega)).mp q
      obtain ⟨n4, _, y1, y2⟩ := HQ.1 r (by omega)
      obtain rfl : n = n4 := (nI_eq (by omega) (by omega)).mp (hn.symm.trans y1)
      obtain ⟨h2, x1, x2, _, x4, _⟩ := y2 k (by omega)
      obtain rfl : w = h2 := (nI_eq (by omega) (by omega)).mp (u4.symm.trans x2)
      have : p = k := (nI_eq (by omega) (by omega)).mp (e2.symm.trans x4)
      omega
    refine an_b 2 (pc2 := if ¬ (0 : Int32) = 0 then 87 else 29) (L2 := [some (vR 8 1 0), some (vR 8 2 0), some (vR 8 3 0), some (vI (nI w0)), some (vI (nI r)), some (vI x), some (vI (0 : Int32)), some (vI (nI k))]) (st2 := []) (m1 := (setA M a)) rfl ?_
    refine an_f (fun q => q rfl) ?_
    refine an_b 6 (pc2 := 37) (L2 := [some (vR 8 1 0), some (vR 8 2 0), some (vR 8 3 0), some (vI (nI w0)), some (vI (nI r)), some (vI x), some (vI (0 : Int32)), some (vI (nI k))]) (st2 := [vI (((5 : Int32) * (nI r)) + (nI k)), vR 8 2 0]) (m1 := (setA M a)) rfl ?_
    refine an_la 2 ((5 * r) + k) (by decide) (by show _ < 36; omega) (by simp only [ix_lit, pk_mul, nI_add]) rfl ?_
    refine an_b 4 (pc2 := if ¬ (nI w) = (nI w0) then 62 else 45) (L2 := [some (vR 8 1 0), some (vR 8 2 0), some (vR 8 3 0), some (vI (nI w0)), some (vI (nI r)), some (vI x), some (vI (0 : Int32)), some (vI (nI k))]) (st2 := []) (m1 := (setA M a)) (by rw [show a 2 (5 * r + k) = nI (w + 8 * md2) from u6, ← rem8 w u1 md2 u3]; rfl) ?_
    refine an_t hne ?_
    refine an_b 8 (pc2 := 73) (L2 := [some (vR 8 1 0), some (vR 8 2 0), some (vR 8 3 0), some (vI (nI w0)), some (vI (nI r)), some (vI x), some (vI (0 : Int32)), some (vI (nI k))]) (st2 := [vI (((5 : Int32) * (nI r)) + (nI k)), vR 8 2 0, vI (1 : Int32), vI x]) (m1 := (setA M a)) rfl ?_
    refine an_la 2 ((5 * r) + k) (by decide) (by show _ < 36; omega) (by simp only [ix_lit, pk_mul, nI_add]) rfl ?_
    refine an_b 5 (pc2 := 81) (L2 := [some (vR 8 1 0), some (vR 8 2 0), some (vR 8 3 0), some (vI (nI w0)), some (vI (nI r)), some (vI (x ||| ((1 : Int32) <<< ((nI w) &&& (31 : Int32))))), some (vI (0 : Int32)), some (vI (nI k))]) (st2 := []) (m1 := (setA M a)) (by rw [show a 2 (5 * r + k) = nI (w + 8 * md2) from u6, ← rem8 w u1 md2 u3]; rfl) ?_
    refine an_b 2 (pc2 := 24) (L2 := [some (vR 8 1 0), some (vR 8 2 0), some (vR 8 3 0), some (vI (nI w0)), some (vI (nI r)), some (vI (x ||| ((1 : Int32) <<< ((nI w) &&& (31 : Int32))))), some (vI (0 : Int32)), some (vI ((nI k) + (1 : Int32)))]) (st2 := []) (m1 := (setA M a)) rfl ?_
    rw [nI_1]
    refine ih (k + 1) _ (by omega) (fun i hi => ?_)
    rw [bit_or, bit_1 hi (by omega), Bool.or_eq_true, decide_eq_true_eq, hx i hi]
    constructor
    · rintro (⟨q, b1, b2⟩ | b)
      · exact ⟨q, by omega, b2⟩
      · subst b; exact ⟨k, by omega, u4⟩
    · rintro ⟨q, b1, b2⟩
      by_cases c : q = k
      · subst c
        exact Or.inr ((nI_eq (by omega) (by omega)).mp (b2.symm.trans u4))
      · exact Or.inl ⟨q, by omega, b2⟩
theorem low5_cnt {x : Int32} (h : low5 x) : cnt x ≤ 5 := by
  have z : ∀ i, 5 ≤ i → i < 8 → b1 x i = 0 := fun i h1 h2 => by
    unfold b1
    rw [if_neg (fun q => by have := h i (by omega) q; omega)]
  have := b1_le x 0
  have := b1_le x 1
  have := b1_le x 2
  have := b1_le x 3
  have := b1_le x 4
  unfold cnt
  rw [z 5 (by omega) (by omega), z 6 (by omega) (by omega), z 7 (by omega) (by omega)]
  omega
theorem low5_low {x : Int32} (h : low5 x) : low x := fun i hi q => by have := h i hi q; omega
theorem low5_or {x y : Int32} (h : low5 x) (h2 : low5 y) : low5 (x ||| y) := fun i hi q => by
  rw [bit_or, Bool.or_eq_true] at q
  exact q.elim (h i hi) (h2 i hi)
theorem rdM_5 (hD : ∀ o, o < 8 → low5 (v_X5_waitsNow m (nI o))) {x t : Int32} {o : Nat} (ho : o < 8) (h : low5 t) : low5 (rdM m x o t) := by
  rw [rdM_if m x o t ho]
  split
  · exact low5_or h (hD o ho)
  · exact h
theorem in_5 (hD : ∀ o, o < 8 → low5 (v_X5_waitsNow m (nI o))) (x : Int32) {t : Int32} (h : low5 t) : lp (rdM m x) 8 0 t = lp (rdM m x) 5 0 t ∧ low5 (lp (rdM m x) 5 0 t) := by
  have k : low5 (lp (rdM m x) 5 0 t) := lp_inv (rdM m x) 5 (fun _ t => low5 t) (fun j s hj hs => rdM_5 hD (by omega) hs) 5 0 t rfl h
  refine ⟨?_, k⟩
  rw [show (8 : Nat) = 5 + 3 from rfl, lp_add, lp_id _ 8 _ 3 (0 + 5) rfl (fun i h1 h2 => ?_)]
  rw [rdM_if m x i _ h2, if_neg (fun q => by have := k i (by omega) q; omega)]
theorem over_5 (hD : ∀ o, o < 8 → low5 (v_X5_waitsNow m (nI o))) {h : Nat} (hh : h < 8) : v_X5_waitsOver m (nI h) = lp (fun _ t => lp (rdM m t) 5 0 t) 5 0 (v_X5_waitsNow m (nI h)) := by
  have eM : v_X5_waitsOver m (nI h) = lp (fun _ t => lp (rdM m t) 8 0 t) 8 0 (v_X5_waitsNow m (nI h)) := rfl
  have hl : ∀ o, o < 8 → low (v_X5_waitsNow m (nI o)) := fun o ho => low5_low (hD o ho)
  have e5 : lp (fun _ t => lp (rdM m t) 8 0 t) 5 0 (v_X5_waitsNow m (nI h)) = lp (fun _ t => lp (rdM m t) 5 0 t) 5 0 (v_X5_waitsNow m (nI h)) ∧ low5 (lp (fun _ t => lp (rdM m t) 5 0 t) 5 0 (v_X5_waitsNow m (nI h))) := lp_rel _ _ 5 (fun _ x y => x = y ∧ low5 y) (fun j x y hj e => by
    obtain ⟨rfl, e⟩ := e
    exact in_5 hD x e) 5 0 _ _ rfl ⟨rfl, hD h hh⟩
  have k := lp_inv (fun _ t => lp (rdM m t) 8 0 t) 5 (fun j t => (clsd (fun o => v_X5_waitsNow m (nI o)) t ∨ j < cnt t) ∧ low5 t) (fun j t _ ht => ⟨rd_step (rd_M m) hl (low5_low ht.2) ht.1, by
    show low5 (lp (rdM m t) 8 0 t)
    rw [(in_5 hD t ht.2).1]; exact (in_5 hD t ht.2).2⟩) 5 0 (v_X5_waitsNow m (nI h)) rfl ⟨clsd_or _ _, hD h hh⟩
  have c : clsd (fun o => v_X5_waitsNow m (nI o)) (lp (fun _ t => lp (rdM m t) 8 0 t) 5 0 (v_X5_waitsNow m (nI h))) := by
    rcases k.1 with c | c
    · exact c
    · have := low5_cnt k.2
      omega
  rw [eM, show lp (fun _ t => lp (rdM m t) 8 0 t) 8 0 (v_X5_waitsNow m (nI h)) = lp (fun _ t => lp (rdM m t) 8 0 t) 3 (0 + 5) (lp (fun _ t => lp (rdM m t) 8 0 t) 5 0 (v_X5_waitsNow m (nI h))) from lp_add _ 5 3 0 _]
  rw [lp_id (fun _ t => lp (rdM m t) 8 0 t) 8 _ 3 (0 + 5) rfl (fun i _ _ => rd_cl (rd_M m) c)]
  exact e5.1
theorem r_over (HQ : RQ rr rm rp (zz m)) (H : LQ a (zz m)) (HK : LK a (zz m)) {h : Nat} (hh : h < 5) : Rn ML_over [vR 8 1 0, vR 8 2 0, vR 8 3 0, vI (nI h)] (setA M a) (some (vI (v_X5_waitsOver m (nI h)))) (setA M a) := by
  rw [over_5 (fun o ho => low5_wn HQ H HK ho) (h := h) (by omega)]
  refine rn_of [some (vR 8 1 0), some (vR 8 2 0), some (vR 8 3 0), some (vI (nI h)), none, none, none] rfl ?_
  refine an_b 4 (pc2 := 4) (L2 := [some (vR 8 1 0), some (vR 8 2 0), some (vR 8 3 0), some (vI (nI h)), none, none, none]) (st2 := [vI (nI h), vR 8 3 0, vR 8 2 0, vR 8 1 0]) (m1 := (setA M a)) rfl ?_
  refine an_call (r_waits HQ H HK hh) rfl rfl rfl rfl ?_
  refine an_b 3 (pc2 := 12) (L2 := [some (vR 8 1 0), some (vR 8 2 0), some (vR 8 3 0), some (vI (nI h)), some (vI (v_X5_waitsNow m (nI h))), some (vI (0 : Int32)), none]) (st2 := []) (m1 := (setA M a)) rfl ?_
  refine re_lp (fun _ t => lp (rdM m t) 5 0 t) (fun j x => (12, [some (vR 8 1 0), some (vR 8 2 0), some (vR 8 3 0), some (vI (nI h)), some (vI x), some (vI (nI j)), none], [], setA M a)) 5 (fun x => (12, [some (vR 8 1 0), some (vR 8 2 0), some (vR 8 3 0), some (vI (nI h)), some (vI x), some (vI (nI 5)), none], [], setA M a)) (fun j x hj v9 m9 K => ?_) (fun x v9 m9 K => K) 5 0 _ rfl _ _ ?_
  · show An ML_over 12 [some (vR 8 1 0), some (vR 8 2 0), some (vR 8 3 0), some (vI (nI h)), some (vI x), some (vI (nI j)), none] [] (setA M a) v9 m9
    refine an_b 3 (pc2 := if (5 : Int32) ≤ (nI j) then 63 else 18) (L2 := [some (vR 8 1 0), some (vR 8 2 0), some (vR 8 3 0), some (vI (nI h)), some (vI x), some (vI (nI j)), none]) (st2 := []) (m1 := (setA M a)) rfl ?_
    refine an_f (nI_ge (b := 5) hj (by omega)) ?_
    refine an_b 2 (pc2 := 21) (L2 := [some (vR 8 1 0), some (vR 8 2 0), some (vR 8 3 0), some (vI (nI h)), some (vI x), some (vI (nI j)), some (vI (0 : Int32))]) (st2 := []) (m1 := (setA M a)) rfl ?_
    refine re_lp (rdM m x) (fun o t => (21, [some (vR 8 1 0), some (vR 8 2 0), some (vR 8 3 0), some (vI (nI h)), some (vI t), some (vI (nI j)), some (vI (nI o))], [], setA M a)) 5 (fun t => (21, [some (vR 8 1 0), some (vR 8 2 0), some (vR 8 3 0), some (vI (nI h)), some (vI t), some (vI (nI j)), some (vI (nI 5))], [], setA M a)) (fun o t ho v8 m8 K8 => ?_) (fun t v8 m8 K8 => K8) 5 0 _ rfl _ _ ?_
    · show An ML_over 21 [some (vR 8 1 0), some (vR 8 2 0), some (vR 8 3 0), some (vI (nI h)), some (vI t), some (vI (nI j)), some (vI (nI o))] [] (setA M a) v8 m8
      have K9 : An ML_over 21 [some (vR 8 1 0), some (vR 8 2 0), some (vR 8 3 0), some (vI (nI h)), some (vI (rdM m x o t)), some (vI (nI j)), some (vI (nI (o + 1)))] [] (setA M a) v8 m8 := K8
      rw [← nI_1] at K9
      refine an_b 3 (pc2 := if (5 : Int32) ≤ (nI o) then 57 else 27) (L2 := [some (vR 8 1 0), some (vR 8 2 0), some (vR 8 3 0), some (vI (nI h)), some (vI t), some (vI (nI j)), some (vI (nI o))]) (st2 := []) (m1 := (setA M a)) rfl ?_
      refine an_f (nI_ge (b := 5) ho (by omega)) ?_
      refine an_b 7 (pc2 := if ¬ ((t >>> ((nI o) &&& (31 : Int32))) &&& (1 : Int32)) = (1 : Int32) then 51 else 38) (L2 := [some (vR 8 1 0), some (vR 8 2 0), some (vR 8 3 0), some (vI (nI h)), some (vI t), some (vI (nI j)), some (vI (nI o))]) (st2 := []) (m1 := (setA M a)) rfl ?_
      by_cases c : ((t >>> (nI o &&& (31 : Int32))) &&& (1 : Int32)) = (1 : Int32)
      · refine an_f (fun q => q c) ?_
        rw [rdM_if m x o t (by omega), if_pos ((bit_q1 (by omega)).mp c)] at K9
        refine an_b 5 (pc2 := 45) (L2 := [some (vR 8 1 0), some (vR 8 2 0), some (vR 8 3 0), some (vI (nI h)), some (vI t), some (vI (nI j)), some (vI (nI o))]) (st2 := [vI (nI o), vR 8 3 0, vR 8 2 0, vR 8 1 0, vI t]) (m1 := (setA M a)) rfl ?_
        refine an_call (r_waits HQ H HK ho) rfl rfl rfl rfl ?_
        refine an_b 4 (pc2 := 21) (L2 := [some (vR 8 1 0), some (vR 8 2 0), some (vR 8 3 0), some (vI (nI h)), some (vI (t ||| (v_X5_waitsNow m (nI o)))), some (vI (nI j)), some (vI ((nI o) + (1 : Int32)))]) (st2 := []) (m1 := (setA M a)) rfl ?_
        exact K9
      · refine an_t c ?_
        rw [rdM_if m x o t (by omega), if_neg (fun q => c ((bit_q1 (by omega)).mpr q))] at K9
        refine an_b 2 (pc2 := 21) (L2 := [some (vR 8 1 0), some (vR 8 2 0), some (vR 8 3 0), some (vI (nI h)), some (vI t), some (vI (nI j)), some (vI ((nI o) + (1 : Int32)))]) (st2 := []) (m1 := (setA M a)) rfl ?_
        exact K9
    · show An ML_over 21 [some (vR 8 1 0), some (vR 8 2 0), some (vR 8 3 0), some (vI (nI h)), some (vI (lp (rdM m x) 5 0 x)), some (vI (nI j)), some (vI (nI 5))] [] (setA M a) v9 m9
      refine an_b 3 (pc2 := if (5 : Int32) ≤ (nI 5) then 57 else 27) (L2 := [some (vR 8 1 0), some (vR 8 2 0), some (vR 8 3 0), some (vI (nI h)), some (vI (lp (rdM m x) 5 0 x)), some (vI (nI j)), some (vI (nI 5))]) (st2 := []) (m1 := (setA M a)) rfl ?_
      refine an_t (nI_le (Nat.le_refl 5) (by omega)) ?_
      refine an_b 2 (pc2 := 12) (L2 := [some (vR 8 1 0), some (vR 8 2 0), some (vR 8 3 0), some (vI (nI h)), some (vI (lp (rdM m x) 5 0 x)), some (vI ((nI j) + (1 : Int32))), some (vI (nI 5))]) (st2 := []) (m1 := (setA M a)) rfl ?_
      refine an_weak (L := [some (vR 8 1 0), some (vR 8 2 0), some (vR 8 3 0), some (vI (nI h)), some (vI (lp (rdM m x) 5 0 x)), some (vI (nI (j + 1))), none]) ⟨rfl, rfl, rfl, rfl, rfl, by rw [nI_1], trivial⟩ ?_
      exact K
  show An ML_over 12 [some (vR 8 1 0), some (vR 8 2 0), some (vR 8 3 0), some (vI (nI h)), some (vI (lp (fun _ t => lp (rdM m t) 5 0 t) 5 0 (v_X5_waitsNow m (nI h)))), some (vI (nI 5)), none] [] (setA M a) _ _
  refine an_b 3 (pc2 := if (5 : Int32) ≤ (nI 5) then 63 else 18) (L2 := [some (vR 8 1 0), some (vR 8 2 0), some (vR 8 3 0), some (vI (nI h)), some (vI (lp (fun _ t => lp (rdM m t) 5 0 t) 5 0 (v_X5_waitsNow m (nI h)))), some (vI (nI 5)), none]) (st2 := []) (m1 := (setA M a)) rfl ?_
  refine an_t (nI_le (Nat.le_refl 5) (by omega)) ?_
  refine an_b 1 (pc2 := 65) (L2 := [some (vR 8 1 0), some (vR 8 2 0), some (vR 8 3 0), some (vI (nI h)), some (vI (lp (fun _ t => lp (rdM m t) 5 0 t) 5 0 (v_X5_waitsNow m (nI h)))), some (vI (nI 5)), none]) (st2 := [vI (lp (fun _ t => lp (rdM m t) 5 0 t) 5 0 (v_X5_waitsNow m (nI h)))]) (m1 := (setA M a)) rfl ?_
  exact an_ret rfl rfl rfl rfl rfl
end
end
section
/-! the law's leave and settle -/
theorem up2_s (a : Nat → Nat → Int32) (k i : Nat) (x : Int32) : up2 a k i x k i = x := by unfold up2; rw [if_pos ⟨rfl, rfl⟩]
theorem up2_i (a : Nat → Nat → Int32) (k : Nat) {i j : Nat} (x : Int32) (h : ¬ j = i) : up2 a k i x k j = a k j := by unfold up2; rw [if_neg (fun q => h q.2)]
def lvK (a : Nat → Nat → Int32) (r p n k : Nat) : Nat → Nat → Int32 := fun j i => if j = 3 ∧ i = r then nI (n - 1) else if j = 2 ∧ 5 * r + p ≤ i ∧ i < 5 * r + k then a 2 (i + 1) else a j i
theorem lvK_0 (a : Nat → Nat → Int32) (r p n : Nat) : up2 a 3 r (nI (n - 1)) = lvK a r p n p := by
  funext j i
  unfold up2 lvK
  by_cases h : j = 3 ∧ i = r
  · rw [if_pos h, if_pos h]
  · rw [if_neg h, if_neg h, if_neg (by omega)]
theorem lvK_n (a : Nat → Nat → Int32) (r p n k : Nat) : lvK a r p n k 3 r = nI (n - 1) := by unfold lvK; rw [if_pos ⟨rfl, rfl⟩]
theorem lvK_x (a : Nat → Nat → Int32) {r p n k i : Nat} (h : 5 * r + k ≤ i) : lvK a r p n k 2 i = a 2 i := by unfold lvK; rw [if_neg (by omega), if_neg (by omega)]
theorem lvK_s (a : Nat → Nat → Int32) {r p n k : Nat} (hp : p ≤ k) : up2 (lvK a r p n k) 2 (5 * r + k) (a 2 (5 * r + (k + 1))) = lvK a r p n (k + 1) := by
  funext j i
  unfold up2 lvK
  by_cases h : j = 2 ∧ i = 5 * r + k
  · obtain ⟨rfl, rfl⟩ := h
    rw [if_pos ⟨rfl, rfl⟩, if_neg (by omega), if_pos ⟨rfl, by omega, by omega⟩]
    rfl
  · rw [if_neg h]
    by_cases h3 : j = 3 ∧ i = r
    · rw [if_pos h3, if_pos h3]
    · rw [if_neg h3, if_neg h3]
      by_cases c : j = 2 ∧ 5 * r + p ≤ i ∧ i < 5 * r + k
      · rw [if_pos c, if_pos (by omega)]
      · rw [if_neg c, if_neg (by omega)]
theorem lvK_o (a : Nat → Nat → Int32) (r p n k : Nat) {j : Nat} (h2 : ¬ j = 2) (h3 : ¬ j = 3) : lvK a r p n k j = a j := by
  funext i
  unfold lvK
  rw [if_neg (fun q => h3 q.1), if_neg (fun q => h2 q.1)]
theorem r_leave {M : PM} {a : Nat → Nat → Int32} {r p n : Nat} (hr : r < 6) (hn : a 3 r = nI n) (h5 : n ≤ 5) (hp : p < n) : Rn ML_leave [vR 8 2 0, vR 8 3 0, vI (nI r), vI (nI p)] (setA M a) none (setA M (lvK a r p n (n - 1))) := by
  refine rn_of [some (vR 8 2 0), some (vR 8 3 0), some (vI (nI r)), some (vI (nI p)), none] rfl ?_
  refine an_b 3 (pc2 := 3) (L2 := [some (vR 8 2 0), some (vR 8 3 0), some (vI (nI r)), some (vI (nI p)), none]) (st2 := [vI (nI r), vR 8 3 0, vI (nI r), vR 8 3 0]) (m1 := (setA M a)) rfl ?_
  refine an_la 3 r (by decide) (by show _ < 6; omega) rfl rfl ?_
  refine an_b 2 (pc2 := 6) (L2 := [some (vR 8 2 0), some (vR 8 3 0), some (vI (nI r)), some (vI (nI p)), none]) (st2 := [vI ((a 3 r) - (1 : Int32)), vI (nI r), vR 8 3 0]) (m1 := (setA M a)) rfl ?_
  refine an_sa 3 r (by decide) (by show _ < 6; omega) rfl rfl ?_
  have e1 : a 3 r - (1 : Int32) = nI (n - 1) := by
    rw [hn, show n = n - 1 + 1 by omega, nI_pred]
    congr 1
  rw [e1, lvK_0 a r p n]
  refine an_b 2 (pc2 := 10) (L2 := [some (vR 8 2 0), some (vR 8 3 0), some (vI (nI r)), some (vI (nI p)), some (vI (nI p))]) (st2 := []) (m1 := (setA M (lvK a r p n p))) rfl ?_
  suffices K : ∀ d k, p ≤ k → k + d = n - 1 → An ML_leave 10 [some (vR 8 2 0), some (vR 8 3 0), some (vI (nI r)), some (vI (nI p)), some (vI (nI k))] [] (setA M (lvK a r p n k)) (.inl none) (setA M (lvK a r p n (n - 1))) from K (n - 1 - p) p (Nat.le_refl _) (by omega)
  intro d
  induction d with
  | zero =>
    intro k hk hd
    obtain rfl : k = n - 1 := by omega
    refine an_b 3 (pc2 := 14) (L2 := [some (vR 8 2 0), some (vR 8 3 0), some (vI (nI r)), some (vI (nI p)), some (vI (nI (n - 1)))]) (st2 := [vI (nI r), vR 8 3 0, vI (nI (n - 1))]) (m1 := (setA M (lvK a r p n (n - 1)))) rfl ?_
    refine an_la 3 r (by decide) (by show _ < 6; omega) rfl rfl ?_
    refine an_b 1 (pc2 := if (nI (n - 1)) ≤ (nI (n - 1)) then 42 else 18) (L2 := [some (vR 8 2 0), some (vR 8 3 0), some (vI (nI r)), some (vI (nI p)), some (vI (nI (n - 1)))]) (st2 := []) (m1 := (setA M (lvK a r p n (n - 1)))) (by rw [lvK_n]; rfl) ?_
    refine an_t (nI_le (Nat.le_refl _) (by omega)) ?_
    exact an_ret rfl rfl rfl rfl rfl
  | succ d ih =>
    intro k hk hd
    refine an_b 3 (pc2 := 14) (L2 := [some (vR 8 2 0), some (vR 8 3 0), some (vI (nI r)), some (vI (nI p)), some (vI (nI k))]) (st2 := [vI (nI r), vR 8 3 0, vI (nI k)]) (m1 := (setA M (lvK a r p n k))) rfl ?_
    refine an_la 3 r (by decide) (by show _ < 6; omega) rfl rfl ?_
    refine an_b 1 (pc2 := if (nI (n - 1)) ≤ (nI k) then 42 else 18) (L2 := [some (vR 8 2 0), some (vR 8 3 0), some (vI (nI r)), some (vI (nI p)), some (vI (nI k))]) (st2 := []) (m1 := (setA M (lvK a r p n k))) (by rw [lvK_n]; rfl) ?_
    refine an_f (nI_ge (by omega) (by omega)) ?_
    refine an_b 14 (pc2 := 34) (L2 := [some (vR 8 2 0), some (vR 8 3 0), some (vI (nI r)), some (vI (nI p)), some (vI (nI k))]) (st2 := [vI ((((5 : Int32) * (nI r)) + (nI k)) + (1 : Int32)), vR 8 2 0, vI (((5 : Int32) * (nI r)) + (nI k)), vR 8 2 0]) (m1 := (setA M (lvK a r p n k))) rfl ?_
    refine an_la 2 (5 * r + (k + 1)) (by decide) (by show _ < 36; omega) (by simp only [ix_lit, pk_mul, nI_add]; rfl) rfl ?_
    rw [lvK_x a (show 5 * r + k ≤ 5 * r + (k + 1) by omega)]
    refine an_sa 2 ((5 * r) + k) (by decide) (by show _ < 36; omega) (by simp only [ix_lit, pk_mul, nI_add]) rfl ?_
    rw [lvK_s a hk]
    refine an_b 2 (pc2 := 10) (L2 := [some (vR 8 2 0), some (vR 8 3 0), some (vI (nI r)), some (vI (nI p)), some (vI ((nI k) + (1 : Int32)))]) (st2 := []) (m1 := (setA M (lvK a r p n (k + 1)))) rfl ?_
    rw [nI_1]
    exact ih (k + 1) (by omega) (by omega)
theorem la_q {a a2 : Nat → Nat → Int32} {z z2 : Nat → Int32} {s : Nat} (H : LA a z s) (hq : LQ a2 z2) (ha : ∀ k, ¬ k = 2 → ¬ k = 3 → a2 k = a k) (hz : ∀ i, i < 125 ∨ 329 ≤ i → z2 i = z i) : LA a2 z2 s := by
  obtain ⟨h1, h2, h3, h4⟩ := H
  refine ⟨⟨fun h r hh hr => ?_, fun h r hh hr c => ?_⟩, hq, fun k hk => ⟨fun h hh => ?_, fun h g1 g2 => ?_⟩, ?_⟩
  · rw [ha 1 (by decide) (by decide), hz _ (by omega)]; exact h1.1 h r hh hr
  · rw [hz _ (by omega)]; exact h1.2 h r hh hr c
  · rw [ha (5 + k) (by omega) (by omega), hz _ (by omega)]; exact (h3 k hk).1 h hh
  · rw [hz _ (by omega)]; exact (h3 k hk).2 h g1 g2
  · obtain ⟨t1, t2, t3, t4, t5, t6, t7, t8⟩ := h4
    refine ⟨fun r hr => ?_, ?_⟩
    · rw [ha 4 (by decide) (by decide), hz _ (by omega)]; exact t1 r hr
    · rw [ha 0 (by decide) (by decide), hz 3 (by omega), hz 4 (by omega), hz 0 (by omega), hz 1 (by omega), hz 2 (by omega)]
      refine ⟨t2, t3, t4, t5, t6, t7, t8.trans ?_⟩
      unfold hsum
      refine lp_cong 12 (fun j x hj => ?_) 12 0 0 rfl
      rw [hz _ (by omega)]
theorem la_lk {a a2 : Nat → Nat → Int32} {z z2 : Nat → Int32} {s : Nat} (H : LA a z s) (hq : LK a2 z2) (ha : ∀ k, ¬ k = 1 → a2 k = a k) (hz : ∀ i, i < 5 ∨ 101 ≤ i → z2 i = z i) : LA a2 z2 s := by
  obtain ⟨h1, h2, h3, h4⟩ := H
  refine ⟨hq, ⟨fun r hr => ?_, fun r g1 g2 => ?_⟩, fun k hk => ⟨fun h hh => ?_, fun h g1 g2 => ?_⟩, ?_⟩
  · obtain ⟨n, n1, n2, n3, n4⟩ := h2.1 r hr
    refine ⟨n, n1, by rw [hz _ (by omega)]; exact n2, by rw [ha 3 (by decide)]; exact n3, fun p hp => ?_⟩
    obtain ⟨w, md, w1, w2, w3, w4, w5, w6⟩ := n4 p hp
    exact ⟨w, md, w1, w2, w3, by rw [hz _ (by omega)]; exact w4, by rw [hz _ (by omega)]; exact w5, by rw [ha 2 (by decide)]; exact w6⟩
  · rw [hz _ (by omega)]; exact h2.2 r g1 g2
  · rw [ha (5 + k) (by omega), hz _ (by omega)]; exact (h3 k hk).1 h hh
  · rw [hz _ (by omega)]; exact (h3 k hk).2 h g1 g2
  · obtain ⟨t1, t2, t3, t4, t5, t6, t7, t8⟩ := h4
    refine ⟨fun r hr => ?_, ?_⟩
    · rw [ha 4 (by decide), hz _ (by omega)]; exact t1 r hr
    · rw [ha 0 (by decide), hz 3 (by omega), hz 4 (by omega), hz 0 (by omega), hz 1 (by omega), hz 2 (by omega)]
      refine ⟨t2, t3, t4, t5, t6, t7, t8.trans ?_⟩
      unfold hsum
      refine lp_cong 12 (fun j x hj => ?_) 12 0 0 rfl
      rw [hz _ (by omega)]
/-- a lock is set -/
theorem la_set {a : Nat → Nat → Int32} {z : Nat → Int32} {s : Nat} (H : LA a z s) {h r : Nat} (hh : h < 5) (hr : r < 6) (x : Int32) : LA (up2 a 1 (6 * h + r) x) (upd z (5 + 12 * h + r) x) s := by
  refine la_lk H ⟨fun h2 r2 g1 g2 => ?_, fun h2 r2 g1 g2 c => ?_⟩ (fun k hk => up2_o _ _ _ _ hk) (fun i hi => upd_o _ _ _ (by omega))
  · by_cases e : h2 = h ∧ r2 = r
    · obtain ⟨rfl, rfl⟩ := e
      rw [up2_s, upd_s]
    · rw [up2_i _ _ _ (by omega), upd_o _ _ _ (by omega)]; exact H.1.1 h2 r2 g1 g2
  · rw [upd_o _ _ _ (by omega)]; exact H.1.2 h2 r2 g1 g2 c
/-- a counter is set -/
theorem la_cnt {a : Nat → Nat → Int32} {z : Nat → Int32} {s : Nat} (H : LA a z s) {k h : Nat} (hk : k < 4) (hh : h < 5) (x : Int32) : LA (up2 a (5 + k) h x) (upd z (329 + 8 * k + h) x) s := by
  obtain ⟨h1, h2, h3, h4⟩ := H
  refine ⟨⟨fun h2 r2 g1 g2 => ?_, fun h2 r2 g1 g2 c => ?_⟩, ⟨fun r hr => ?_, fun r g1 g2 => ?_⟩, fun k2 hk2 => ⟨fun h2 g1 => ?_, fun h2 g1 g2 => ?_⟩, ?_⟩
  · rw [up2_o _ _ _ _ (by omega), upd_o _ _ _ (by omega)]; exact h1.1 h2 r2 g1 g2
  · rw [upd_o _ _ _ (by omega)]; exact h1.2 h2 r2 g1 g2 c
  · obtain ⟨n, n1, n2, n3, n4⟩ := h2.1 r hr
    refine ⟨n, n1, by rw [upd_o _ _ _ (by omega)]; exact n2, by rw [up2_o _ _ _ _ (by omega)]; exact n3, fun p hp => ?_⟩
    obtain ⟨w, md, w1, w2, w3, w4, w5, w6⟩ := n4 p hp
    exact ⟨w, md, w1, w2, w3, by rw [upd_o _ _ _ (by omega)]; exact w4, by rw [upd_o _ _ _ (by omega)]; exact w5, by rw [up2_o _ _ _ _ (by omega)]; exact w6⟩
  · rw [upd_o _ _ _ (by omega)]; exact h2.2 r g1 g2
  · by_cases e : k2 = k ∧ h2 = h
    · obtain ⟨rfl, rfl⟩ := e
      rw [up2_s, upd_s]
    · rw [upd_o _ _ _ (by omega), ← (h3 k2 hk2).1 h2 g1]
      by_cases e2 : k2 = k
      · rw [e2, up2_i _ _ _ (by omega)]
      · rw [up2_o _ _ _ _ (by omega)]
  · rw [upd_o _ _ _ (by omega)]; exact (h3 k2 hk2).2 h2 g1 g2
  · obtain ⟨t1, t2, t3, t4, t5, t6, t7, t8⟩ := h4
    refine ⟨fun r hr => ?_, ?_⟩
    · rw [up2_o _ _ _ _ (by omega), upd_o _ _ _ (by omega)]; exact t1 r hr
    · rw [up2_o _ _ _ _ (by omega), upd_o _ _ _ (by omega), upd_o _ _ _ (by omega), upd_o _ _ _ (by omega), upd_o _ _ _ (by omega), upd_o _ _ _ (by omega)]
      refine ⟨t2, t3, t4, t5, t6, t7, t8.trans ?_⟩
      unfold hsum
      refine lp_cong 12 (fun j x hj => ?_) 12 0 0 rfl
      rw [upd_o _ _ _ (by omega)]
/-- a place is left -/
theorem la_leave {a : Nat → Nat → Int32} {z : Nat → Int32} {s : Nat} (H : LA a z s) {r p n : Nat} (hr : r < 6) (hn : z (125 + r) = nI n) (h5 : n ≤ 5) (hp : p < n) : LA (lvK a r p n (n - 1)) (uqz z r p n (n - 1)) s := by
  refine la_q H ⟨fun r2 hr2 => ?_, fun r2 g1 g2 => ?_⟩ (fun k k2 k3 => lvK_o _ _ _ _ _ k2 k3) (fun i hi => uqz_lo z (by omega) (by omega) hi)
  · obtain ⟨n2, n1, n3, n4, n5⟩ := H.2.1.1 r2 hr2
    by_cases e : r2 = r
    · subst e
      obtain rfl : n = n2 := (nI_eq (by omega) (by omega)).mp (hn.symm.trans n3)
      refine ⟨n - 1, by omega, uqz_n _ _ _ _ _, lvK_n _ _ _ _ _, fun q hq => ?_⟩
      by_cases c : p ≤ q
      · obtain ⟨w, md, w1, w2, w3, w4, w5, w6⟩ := n5 (q + 1) (by omega)
        refine ⟨w, md, w1, w2, w3, ?_, ?_, ?_⟩
        · rw [uqz_q z (Or.inl rfl) (by omega) (by omega) (by omega) (by omega), if_pos ⟨rfl, c, hq⟩]; exact w4
        · rw [uqz_q z (Or.inr rfl) (by omega) (by omega) (by omega) (by omega), if_pos ⟨rfl, c, hq⟩]; exact w5
        · unfold lvK
          rw [if_neg (by omega), if_pos ⟨rfl, by omega, by omega⟩]; exact w6
      · obtain ⟨w, md, w1, w2, w3, w4, w5, w6⟩ := n5 q (by omega)
        refine ⟨w, md, w1, w2, w3, ?_, ?_, ?_⟩
        · rw [uqz_q z (Or.inl rfl) (by omega) (by omega) (by omega) (by omega), if_neg (fun k => c k.2.1)]; exact w4
        · rw [uqz_q z (Or.inr rfl) (by omega) (by omega) (by omega) (by omega), if_neg (fun k => c k.2.1)]; exact w5
        · unfold lvK
          rw [if_neg (by omega), if_neg (by omega)]; exact w6
    · refine ⟨n2, n1, ?_, ?_, fun q hq => ?_⟩
      · rw [uqz_no z (by omega) (by omega) e (by omega)]; exact n3
      · unfold lvK
        rw [if_neg (fun k => e k.2), if_neg (fun k => absurd k.1 (by decide))]; exact n4
      · obtain ⟨w, md, w1, w2, w3, w4, w5, w6⟩ := n5 q hq
        refine ⟨w, md, w1, w2, w3, ?_, ?_, ?_⟩
        · rw [uqz_q z (Or.inl rfl) (by omega) (by omega) (by omega) (by omega), if_neg (fun k => e k.1)]; exact w4
        · rw [uqz_q z (Or.inr rfl) (by omega) (by omega) (by omega) (by omega), if_neg (fun k => e k.1)]; exact w5
        · unfold lvK
          rw [if_neg (by omega), if_neg (by omega)]; exact w6
  · rw [uqz_no z (by omega) (by omega) (by omega) (by omega)]; exact H.2.1.2 r2 g1 g2
theorem cl_0 {a : Nat → Nat → Int32} {z : Nat → Int32} (H : LK a z) {r : Nat} (hr : r < 6) (md but : Int32) : clz z r md but = 0 ↔ ∀ j, j < 5 → ¬ clP a r md but (-1) j := by
  have H' : LK a (zz (zm z)) := by rw [zz_zm]; exact H
  unfold clz
  constructor
  · intro e j hj c
    have k := bit_clash (zm z) r md but j (by omega)
    rw [e, bit_0, (clB_P H' hr (show j < 8 by omega) md but).mpr ⟨hj, c⟩, Bool.and_true] at k
    exact absurd k.symm (by rw [decide_eq_false_iff_not]; omega)
  · intro h
    refine bit_ext (fun i hi => ?_)
    rw [bit_clash (zm z) r md but i hi, bit_0, Bool.and_eq_false_iff]
    by_cases c : i < 8
    · right
      cases hb : clB (zm z) r md but i with
      | false => rfl
      | true => exact absurd ((clB_P H' hr c md but).mp hb).2 (h i ((clB_P H' hr c md but).mp hb).1)
    · left; exact decide_eq_false c
theorem rn_settle {M : PM} {s r : Nat} (hr : r < 6) : ∀ (n : Nat) (a : Nat → Nat → Int32) (z : Nat → Int32) (c : Int32), LA a z s → z (125 + r) = nI n → n ≤ 5 → ∃ a2, An ML_settle 3 [some (vR 8 1 0), some (vR 8 2 0), some (vR 8 3 0), some (vR 8 7 0), some (vI (nI r)), some (vI c), none] [] (setA M a) (.inl (some (vI (stz r n z c).1))) (setA M a2) ∧ LA a2 (stz r n z c).2 s := by
  have last : ∀ (a : Nat → Nat → Int32) (c : Int32), An ML_settle 90 [some (vR 8 1 0), some (vR 8 2 0), some (vR 8 3 0), some (vR 8 7 0), some (vI (nI r)), some (vI c), none] [] (setA M a) (.inl (some (vI c))) (setA M a) := by
    intro a c
    refine an_b 1 (pc2 := 92) (L2 := [some (vR 8 1 0), some (vR 8 2 0), some (vR 8 3 0), some (vR 8 7 0), some (vI (nI r)), some (vI c), none]) (st2 := [vI c]) (m1 := (setA M a)) rfl ?_
    exact an_ret rfl rfl rfl rfl rfl
  intro n
  induction n with
  | zero =>
    intro a z c H hn _
    obtain ⟨n2, n1, n3, n4, n5⟩ := H.2.1.1 r hr
    refine ⟨a, ?_, H⟩
    have e0 : a 3 r = 0 := by rw [n4, ← n3, hn]; rfl
    refine an_b 2 (pc2 := 6) (L2 := [some (vR 8 1 0), some (vR 8 2 0), some (vR 8 3 0), some (vR 8 7 0), some (vI (nI r)), some (vI c), none]) (st2 := [vI (nI r), vR 8 3 0]) (m1 := (setA M a)) rfl ?_
    refine an_la 3 r (by decide) (by show _ < 6; omega) rfl rfl ?_
    refine an_b 1 (pc2 := if (0 : Int32) ≤ 0 then 90 else 10) (L2 := [some (vR 8 1 0), some (vR 8 2 0), some (vR 8 3 0), some (vR 8 7 0), some (vI (nI r)), some (vI c), none]) (st2 := []) (m1 := (setA M a)) (by rw [e0]; rfl) ?_
    exact an_t (by decide) (last a c)
  | succ n ih =>
    intro a z c H hn h5
    obtain ⟨n2, n1, n3, n4, n5⟩ := H.2.1.1 r hr
    obtain rfl : n + 1 = n2 := (nI_eq (by omega) (by omega)).mp (hn.symm.trans n3)
    obtain ⟨w, md, w1, w2, w3, w4, w5, w6⟩ := n5 0 (by omega)
    have w4 : z (137 + 8 * r) = nI w := w4
    have w5 : z (233 + 8 * r) = nI md := w5
    have w6 : a 2 (5 * r) = nI (w + 8 * md) := w6
    have er : a 2 (5 * r) - a 2 (5 * r) / 8 * 8 = nI w := by rw [w6]; exact rem8 w w1 md w3
    have ed : a 2 (5 * r) / 8 = nI md := by rw [w6]; exact div8 w w1 md w3
    have k0 := cl_0 H.1 hr (nI md) (nI w)
    obtain ⟨b, b1, b2, b3⟩ := r_clashes (M := M) (a := a) hr (nI md) (nI w) (-1)
    unfold stz
    rw [w4, w5]
    by_cases hc : clz z r (nI md) (nI w) = 0
    · have hb : b = 0 := b3.mpr (k0.mp hc)
      rw [if_pos hc]
      rw [nI_clamp (show w < 2 ^ 31 by omega)]
      have hA : LA (lvK (up2 (up2 a 1 (6 * w + r) (nI md)) 7 w (a 7 w + 1)) r 0 (n + 1) n) (grz z r 0 (n + 1) w) s := by
        have e7 : a 7 w = z (345 + w) := (H.2.2.1 2 (by omega)).1 w w1
        unfold grz
        rw [show z (233 + 8 * r + 0) = nI md from w5, ← e7]
        exact la_leave (la_cnt (la_set H w1 hr (nI md)) (k := 2) (by omega) w1 (a 7 w + 1)) hr (by rw [upd_o _ _ _ (by omega), upd_o _ _ _ (by omega)]; exact hn) h5 (by omega)
      have hN : grz z r 0 (n + 1) w (125 + r) = nI n := by
        unfold grz
        exact uqz_n _ _ _ _ _
      obtain ⟨a2, q1, q2⟩ := ih _ _ (c + 1) hA hN (by omega)
      refine ⟨a2, ?_, q2⟩
      refine an_b 2 (pc2 := 6) (L2 := [some (vR 8 1 0), some (vR 8 2 0), some (vR 8 3 0), some (vR 8 7 0), some (vI (nI r)), some (vI c), none]) (st2 := [vI (nI r), vR 8 3 0]) (m1 := (setA M a)) rfl ?_
      refine an_la 3 r (by decide) (by show _ < 6; omega) rfl rfl ?_
      refine an_b 1 (pc2 := if (nI (n + 1)) ≤ 0 then 90 else 10) (L2 := [some (vR 8 1 0), some (vR 8 2 0), some (vR 8 3 0), some (vR 8 7 0), some (vI (nI r)), some (vI c), none]) (st2 := []) (m1 := (setA M a)) (by rw [n4]; rfl) ?_
      refine an_f (nI_nle (by omega) (by omega)) ?_
      refine an_b 6 (pc2 := 18) (L2 := [some (vR 8 1 0), some (vR 8 2 0), some (vR 8 3 0), some (vR 8 7 0), some (vI (nI r)), some (vI c), none]) (st2 := [vI ((5 : Int32) * (nI r)), vR 8 2 0, vI (nI r), vR 8 1 0]) (m1 := (setA M a)) rfl ?_
      refine an_la 2 (5 * r) (by decide) (by show _ < 36; omega) (by simp only [ix_lit, pk_mul, nI_add]) rfl ?_
      refine an_b 6 (pc2 := 27) (L2 := [some (vR 8 1 0), some (vR 8 2 0), some (vR 8 3 0), some (vR 8 7 0), some (vI (nI r)), some (vI c), none]) (st2 := [vI ((5 : Int32) * (nI r)), vR 8 2 0, vI ((a 2 (5 * r)) / (8 : Int32)), vI (nI r), vR 8 1 0]) (m1 := (setA M a)) rfl ?_
      refine an_la 2 (5 * r) (by decide) (by show _ < 36; omega) (by simp only [ix_lit, pk_mul, nI_add]) rfl ?_
      refine an_b 3 (pc2 := 32) (L2 := [some (vR 8 1 0), some (vR 8 2 0), some (vR 8 3 0), some (vR 8 7 0), some (vI (nI r)), some (vI c), none]) (st2 := [vI (-1 : Int32), vI ((a 2 (5 * r)) - (a 2 (5 * r)) / (8 : Int32) * (8 : Int32)), vI ((a 2 (5 * r)) / (8 : Int32)), vI (nI r), vR 8 1 0]) (m1 := (setA M a)) rfl ?_
      rw [er, ed]
      refine an_call b1 rfl rfl rfl rfl ?_
      refine an_b 1 (pc2 := if ¬ b = 0 then 90 else 38) (L2 := [some (vR 8 1 0), some (vR 8 2 0), some (vR 8 3 0), some (vR 8 7 0), some (vI (nI r)), some (vI c), none]) (st2 := []) (m1 := (setA M a)) rfl ?_
      refine an_f (fun q => q hb) ?_
      refine an_b 4 (pc2 := 43) (L2 := [some (vR 8 1 0), some (vR 8 2 0), some (vR 8 3 0), some (vR 8 7 0), some (vI (nI r)), some (vI c), none]) (st2 := [vI ((5 : Int32) * (nI r)), vR 8 2 0]) (m1 := (setA M a)) rfl ?_
      refine an_la 2 (5 * r) (by decide) (by show _ < 36; omega) (by simp only [ix_lit, pk_mul, nI_add]) rfl ?_
      refine an_b 3 (pc2 := 49) (L2 := [some (vR 8 1 0), some (vR 8 2 0), some (vR 8 3 0), some (vR 8 7 0), some (vI (nI r)), some (vI c), some (vI ((a 2 (5 * r)) - (a 2 (5 * r)) / (8 : Int32) * (8 : Int32)))]) (st2 := []) (m1 := (setA M a)) rfl ?_
      rw [er]
      refine an_b 10 (pc2 := 63) (L2 := [some (vR 8 1 0), some (vR 8 2 0), some (vR 8 3 0), some (vR 8 7 0), some (vI (nI r)), some (vI c), some (vI (nI w))]) (st2 := [vI ((5 : Int32) * (nI r)), vR 8 2 0, vI (((6 : Int32) * (nI w)) + (nI r)), vR 8 1 0]) (m1 := (setA M a)) rfl ?_
      refine an_la 2 (5 * r) (by decide) (by show _ < 36; omega) (by simp only [ix_lit, pk_mul]) rfl ?_
      refine an_b 2 (pc2 := 67) (L2 := [some (vR 8 1 0), some (vR 8 2 0), some (vR 8 3 0), some (vR 8 7 0), some (vI (nI r)), some (vI c), some (vI (nI w))]) (st2 := [vI ((a 2 (5 * r)) / (8 : Int32)), vI (((6 : Int32) * (nI w)) + (nI r)), vR 8 1 0]) (m1 := (setA M a)) rfl ?_
      rw [ed]
      refine an_sa 1 (6 * w + r) (by decide) (by show _ < 30; omega) (by simp only [ix_lit, pk_mul, nI_add]) rfl ?_
      refine an_b 3 (pc2 := 72) (L2 := [some (vR 8 1 0), some (vR 8 2 0), some (vR 8 3 0), some (vR 8 7 0), some (vI (nI r)), some (vI c), some (vI (nI w))]) (st2 := [vI (nI w), vR 8 7 0, vI (nI w), vR 8 7 0]) (m1 := (setA M (up2 a 1 (6 * w + r) (nI md)))) rfl ?_
      refine an_la 7 w (by decide) (by show _ < 5; omega) rfl rfl ?_
      refine an_b 2 (pc2 := 75) (L2 := [some (vR 8 1 0), some (vR 8 2 0), some (vR 8 3 0), some (vR 8 7 0), some (vI (nI r)), some (vI c), some (vI (nI w))]) (st2 := [vI (((up2 a 1 (6 * w + r) (nI md)) 7 w) + (1 : Int32)), vI (nI w), vR 8 7 0]) (m1 := (setA M (up2 a 1 (6 * w + r) (nI md)))) rfl ?_
      refine an_sa 7 w (by decide) (by show _ < 5; omega) rfl rfl ?_
      refine an_b 4 (pc2 := 81) (L2 := [some (vR 8 1 0), some (vR 8 2 0), some (vR 8 3 0), some (vR 8 7 0), some (vI (nI r)), some (vI c), some (vI (nI w))]) (st2 := [vI (0 : Int32), vI (nI r), vR 8 3 0, vR 8 2 0]) (m1 := (setA M (up2 (up2 a 1 (6 * w + r) (nI md)) 7 w (((up2 a 1 (6 * w + r) (nI md)) 7 w) + (1 : Int32))))) rfl ?_
      rw [up2_o a 1 (6 * w + r) (nI md) (show ¬ 7 = 1 by decide)]
      refine an_call (r_leave (p := 0) (n := n + 1) hr (show up2 (up2 a 1 (6 * w + r) (nI md)) 7 w (a 7 w + 1) 3 r = nI (n + 1) by rw [up2_o _ _ _ _ (by decide), up2_o _ _ _ _ (by decide)]; exact n4) h5 (by omega)) rfl rfl rfl rfl ?_
      refine an_b 2 (pc2 := 3) (L2 := [some (vR 8 1 0), some (vR 8 2 0), some (vR 8 3 0), some (vR 8 7 0), some (vI (nI r)), some (vI (c + (1 : Int32))), some (vI (nI w))]) (st2 := []) (m1 := (setA M (lvK (up2 (up2 a 1 (6 * w + r) (nI md)) 7 w (a 7 w + 1)) r 0 (n + 1) n))) rfl ?_
      refine an_weak (L := [some (vR 8 1 0), some (vR 8 2 0), some (vR 8 3 0), some (vR 8 7 0), some (vI (nI r)), some (vI (c + 1)), none]) ⟨rfl, rfl, rfl, rfl, rfl, rfl, trivial⟩ ?_
      exact q1
    · have hb : ¬ b = 0 := fun q => hc (k0.mpr (b3.mp q))
      rw [if_neg hc]
      refine ⟨a, ?_, H⟩
      refine an_b 2 (pc2 := 6) (L2 := [some (vR 8 1 0), some (vR 8 2 0), some (vR 8 3 0), some (vR 8 7 0), some (vI (nI r)), some (vI c), none]) (st2 := [vI (nI r), vR 8 3 0]) (m1 := (setA M a)) rfl ?_
      refine an_la 3 r (by decide) (by show _ < 6; omega) rfl rfl ?_
      refine an_b 1 (pc2 := if (nI (n + 1)) ≤ 0 then 90 else 10) (L2 := [some (vR 8 1 0), some (vR 8 2 0), some (vR 8 3 0), some (vR 8 7 0), some (vI (nI r)), some (vI c), none]) (st2 := []) (m1 := (setA M a)) (by rw [n4]; rfl) ?_
      refine an_f (nI_nle (by omega) (by omega)) ?_
      refine an_b 6 (pc2 := 18) (L2 := [some (vR 8 1 0), some (vR 8 2 0), some (vR 8 3 0), some (vR 8 7 0), some (vI (nI r)), some (vI c), none]) (st2 := [vI ((5 : Int32) * (nI r)), vR 8 2 0, vI (nI r), vR 8 1 0]) (m1 := (setA M a)) rfl ?_
      refine an_la 2 (5 * r) (by decide) (by show _ < 36; omega) (by simp only [ix_lit, pk_mul, nI_add]) rfl ?_
      refine an_b 6 (pc2 := 27) (L2 := [some (vR 8 1 0), some (vR 8 2 0), some (vR 8 3 0), some (vR 8 7 0), some (vI (nI r)), some (vI c), none]) (st2 := [vI ((5 : Int32) * (nI r)), vR 8 2 0, vI ((a 2 (5 * r)) / (8 : Int32)), vI (nI r), vR 8 1 0]) (m1 := (setA M a)) rfl ?_
      refine an_la 2 (5 * r) (by decide) (by show _ < 36; omega) (by simp only [ix_lit, pk_mul, nI_add]) rfl ?_
      refine an_b 3 (pc2 := 32) (L2 := [some (vR 8 1 0), some (vR 8 2 0), some (vR 8 3 0), some (vR 8 7 0), some (vI (nI r)), some (vI c), none]) (st2 := [vI (-1 : Int32), vI ((a 2 (5 * r)) - (a 2 (5 * r)) / (8 : Int32) * (8 : Int32)), vI ((a 2 (5 * r)) / (8 : Int32)), vI (nI r), vR 8 1 0]) (m1 := (setA M a)) rfl ?_
      rw [er, ed]
      refine an_call b1 rfl rfl rfl rfl ?_
      refine an_b 1 (pc2 := if ¬ b = 0 then 90 else 38) (L2 := [some (vR 8 1 0), some (vR 8 2 0), some (vR 8 3 0), some (vR 8 7 0), some (vI (nI r)), some (vI c), none]) (st2 := []) (m1 := (setA M a)) rfl ?_
      refine an_t hb ?_
      exact last a c
section
variable {M m : PM} {a : Nat → Nat → Int32} {s : Nat}
theorem r_settle (H : LA a (zz m) s) {r : Nat} (hr : r < 6) : ∃ a2, Rn ML_settle [vR 8 1 0, vR 8 2 0, vR 8 3 0, vR 8 7 0, vI (nI r)] (setA M a) (some (vI (v_X5_settle m r))) (setA M a2) ∧ LA a2 (zz (w_X5_settle m r)) s := by
  obtain ⟨n, n1, n2, n3, n4⟩ := H.2.1.1 r hr
  have eq : qn m r = n := by
    unfold qn
    rw [n2]; exact nI_clamp (by omega)
  obtain ⟨a2, k1, k2⟩ := rn_settle (M := M) hr n a (zz m) 0 H n2 n1
  refine ⟨a2, ?_, ?_⟩
  · unfold v_X5_settle
    rw [eq]
    refine rn_of [some (vR 8 1 0), some (vR 8 2 0), some (vR 8 3 0), some (vR 8 7 0), some (vI (nI r)), none, none] rfl ?_
    refine an_b 2 (pc2 := 3) (L2 := [some (vR 8 1 0), some (vR 8 2 0), some (vR 8 3 0), some (vR 8 7 0), some (vI (nI r)), some (vI (0 : Int32)), none]) (st2 := []) (m1 := (setA M a)) rfl ?_
    exact k1
  · unfold w_X5_settle
    rw [zz_setz, eq]
    exact k2
end
end
section
/-! the ring's loser as the law finds it; places taken and left; what losing takes -/
def inR (m : PM) (h j : Nat) : Prop := bit (v_X5_waitsOver m (nI h)) j = true ∧ bit (v_X5_waitsOver m (nI j)) h = true
def wkZ (m : PM) (j : Nat) : Int := (v_X5_workOf m j).toInt
/-- of the hands from j to below N: none is in the ring, or s is the one with the least work, the highest of them -/
def LSr (m : PM) (h j N : Nat) (s : Int32) : Prop := (s = -1 ∧ ∀ i, j ≤ i → i < N → ¬ inR m h i) ∨ ∃ l, j ≤ l ∧ l < N ∧ s = nI l ∧ inR m h l ∧ ∀ i, j ≤ i → i < N → inR m h i → wkZ m l ≤ wkZ m i ∧ (l < i → wkZ m l < wkZ m i)
theorem loser_c (m : PM) {h : Nat} (hh : h < 8) : LSr m h 0 8 (v_X5_loserFor m (nI h)) := by
  refine lp_inv (b_X5_loserFor_1 m (nI h)) 8 (fun j s => LSr m h 0 j s) (fun j s hj hs => ?_) 8 0 (-1) rfl (Or.inl ⟨rfl, fun i _ q => by omega⟩)
  have no : ¬ inR m h j → LSr m h 0 (j + 1) s := by
    intro c
    rcases hs with ⟨e, k⟩ | ⟨l, l0, l1, l2, l3, l4⟩
    · refine Or.inl ⟨e, fun i a b => ?_⟩
      by_cases q : i = j
      · rw [q]; exact c
      · exact k i a (by omega)
    · refine Or.inr ⟨l, l0, by omega, l2, l3, fun i a b d => ?_⟩
      by_cases q : i = j
      · rw [q] at d; exact absurd d c
      · exact l4 i a (by omega) d
  unfold b_X5_loserFor_1
  by_cases c1 : (v_X5_waitsOver m (nI h) >>> (nI j &&& (31 : Int32))) &&& (1 : Int32) = 1
  · rw [if_pos c1]
    by_cases c2 : (v_X5_waitsOver m (nI j) >>> (nI h &&& (31 : Int32))) &&& (1 : Int32) = 1
    · rw [if_pos c2]
      have hin : inR m h j := ⟨(bit_q1 (by omega)).mp c1, (bit_q1 (by omega)).mp c2⟩
      rcases hs with ⟨e, k⟩ | ⟨l, l0, l1, l2, l3, l4⟩
      · rw [if_pos e]
        refine Or.inr ⟨j, by omega, by omega, rfl, hin, fun i a b d => ?_⟩
        by_cases q : i = j
        · rw [q]; exact ⟨Int.le_refl _, fun u => by omega⟩
        · exact absurd d (k i a (by omega))
      · rw [if_neg (by rw [l2]; exact nI_nm1 (by omega)), l2, nI_clamp (by omega)]
        by_cases c3 : v_X5_workOf m l < v_X5_workOf m j
        · rw [if_pos c3]
          have c3' : wkZ m l < wkZ m j := Int32.lt_iff_toInt_lt.mp c3
          refine Or.inr ⟨l, l0, by omega, rfl, l3, fun i a b d => ?_⟩
          by_cases q : i = j
          · rw [q]; exact ⟨by omega, fun _ => c3'⟩
          · exact l4 i a (by omega) d
        · rw [if_neg c3]
          have c3' : ¬ wkZ m l < wkZ m j := fun q => c3 (Int32.lt_iff_toInt_lt.mpr q)
          refine Or.inr ⟨j, by omega, by omega, rfl, hin, fun i a b d => ?_⟩
          by_cases q : i = j
          · rw [q]; exact ⟨Int.le_refl _, fun u => by omega⟩
          · have := l4 i a (by omega) d
            exact ⟨by omega, fun u => by omega⟩
    · rw [if_neg c2]
      exact no (fun q => c2 ((bit_q1 (by omega)).mpr q.2))
  · rw [if_neg c1]
    exact no (fun q => c1 ((bit_q1 (by omega)).mpr q.1))
/-- the two agree -/
theorem loser_u {m : PM} {h : Nat} {s : Int32} (hh : h < 8) (h5 : ∀ i, i < 8 → inR m h i → i < 5) (H : LSr m h 0 5 s) : s = v_X5_loserFor m (nI h) := by
  rcases loser_c m hh with ⟨e, k⟩ | ⟨l, l0, l1, l2, l3, l4⟩
  · rcases H with ⟨e2, _⟩ | ⟨l, _, l1, _, l3, _⟩
    · rw [e, e2]
    · exact absurd l3 (k l (by omega) (by omega))
  · rcases H with ⟨_, k⟩ | ⟨q, q0, q1, q2, q3, q4⟩
    · exact absurd l3 (k l (by omega) (h5 l l1 l3))
    · rw [l2, q2]
      have a := l4 q (by omega) (by omega) q3
      have b := q4 l (by omega) (h5 l l1 l3) l3
      by_cases c : l < q
      · have := a.2 c; omega
      · by_cases c2 : q < l
        · have := b.2 c2; omega
        · rw [show q = l by omega]
/-- the places behind k moved up, n stood there -/
def enK (a : Nat → Nat → Int32) (r n k : Nat) : Nat → Nat → Int32 := fun j i => if j = 2 ∧ 5 * r + k < i ∧ i ≤ 5 * r + n then a 2 (i - 1) else a j i
theorem enK_n (a : Nat → Nat → Int32) (r n : Nat) : enK a r n n = a := by
  funext j i
  unfold enK
  rw [if_neg (by omega)]
theorem enK_x (a : Nat → Nat → Int32) {r n k i : Nat} (h : i ≤ 5 * r + k) : enK a r n k 2 i = a 2 i := by unfold enK; rw [if_neg (by omega)]
theorem enK_o (a : Nat → Nat → Int32) (r n k : Nat) {j : Nat} (h : ¬ j = 2) : enK a r n k j = a j := by
  funext i
  unfold enK
  rw [if_neg (fun q => h q.1)]
theorem enK_s (a : Nat → Nat → Int32) {r n k : Nat} (hk : k < n) : up2 (enK a r n (k + 1)) 2 (5 * r + (k + 1)) (a 2 (5 * r + k)) = enK a r n k := by
  funext j i
  unfold up2 enK
  by_cases h : j = 2 ∧ i = 5 * r + (k + 1)
  · obtain ⟨rfl, rfl⟩ := h
    rw [if_pos ⟨rfl, rfl⟩, if_pos ⟨rfl, by omega, by omega⟩]
    rfl
  · rw [if_neg h]
    by_cases c : j = 2 ∧ 5 * r + (k + 1) < i ∧ i ≤ 5 * r + n
    · rw [if_pos c, if_pos (by omega)]
    · rw [if_neg c, if_neg (by omega)]
def enA (a : Nat → Nat → Int32) (r pl n : Nat) (x : Int32) : Nat → Nat → Int32 := up2 (up2 (enK a r n pl) 2 (5 * r + pl) x) 3 r (nI (n + 1))
theorem la_enq {a : Nat → Nat → Int32} {z : Nat → Int32} {s : Nat} (H : LA a z s) {h r n pl md : Nat} (hh : h < 5) (hr : r < 6) (hn : z (125 + r) = nI n) (h5 : n < 5) (hpl : pl ≤ n) (m1 : 1 ≤ md) (m2 : md < 4) : LA (enA a r pl n (nI (h + 8 * md))) (enz z r h (nI md) pl n) s := by
  refine la_q H ⟨fun r2 hr2 => ?_, fun r2 g1 g2 => ?_⟩ (fun k k2 k3 => ?_) (fun i hi => enz_lo _ (by omega) (by omega) hpl hi)
  · obtain ⟨n2, n1, n3, n4, n5⟩ := H.2.1.1 r2 hr2
    by_cases e : r2 = r
    · subst e
      obtain rfl : n = n2 := (nI_eq (by omega) (by omega)).mp (hn.symm.trans n3)
      refine ⟨n + 1, by omega, enz_n _, ?_, fun q hq => ?_⟩
      · unfold enA
        rw [up2_s]
      · by_cases c : q = pl
        · subst c
          refine ⟨h, md, hh, m1, m2, enz_w _ (by omega) (by omega) hpl, enz_m _ (by omega) (by omega) hpl, ?_⟩
          unfold enA
          rw [up2_o _ _ _ _ (by decide), up2_s]
        · by_cases c2 : pl < q
          · obtain ⟨w, md2, w1, w2, w3, w4, w5, w6⟩ := n5 (q - 1) (by omega)
            refine ⟨w, md2, w1, w2, w3, ?_, ?_, ?_⟩
            · rw [enz_q _ (Or.inl rfl) (by omega) (by omega) (by omega) hpl (by omega) (fun k => c k.2), if_pos ⟨rfl, c2, by omega⟩]; exact w4
            · rw [enz_q _ (Or.inr rfl) (by omega) (by omega) (by omega) hpl (by omega) (fun k => c k.2), if_pos ⟨rfl, c2, by omega⟩]; exact w5
            · unfold enA
              rw [up2_o _ _ _ _ (by decide), up2_i _ _ _ (by omega)]
              unfold enK
              rw [if_pos ⟨rfl, by omega, by omega⟩, show 5 * r2 + q - 1 = 5 * r2 + (q - 1) by omega]; exact w6
          · obtain ⟨w, md2, w1, w2, w3, w4, w5, w6⟩ := n5 q (by omega)
            refine ⟨w, md2, w1, w2, w3, ?_, ?_, ?_⟩
            · rw [enz_q _ (Or.inl rfl) (by omega) (by omega) (by omega) hpl (by omega) (fun k => c k.2), if_neg (fun k => c2 k.2.1)]; exact w4
            · rw [enz_q _ (Or.inr rfl) (by omega) (by omega) (by omega) hpl (by omega) (fun k => c k.2), if_neg (fun k => c2 k.2.1)]; exact w5
            · unfold enA
              rw [up2_o _ _ _ _ (by decide), up2_i _ _ _ (by omega), enK_x _ (by omega)]; exact w6
    · refine ⟨n2, n1, ?_, ?_, fun q hq => ?_⟩
      · rw [enz_no _ (by omega) (by omega) e (by omega) hpl]; exact n3
      · unfold enA
        rw [up2_i _ _ _ e, up2_o _ _ _ _ (by decide), enK_o _ _ _ _ (by decide)]; exact n4
      · obtain ⟨w, md2, w1, w2, w3, w4, w5, w6⟩ := n5 q hq
        refine ⟨w, md2, w1, w2, w3, ?_, ?_, ?_⟩
        · rw [enz_q _ (Or.inl rfl) (by omega) (by omega) (by omega) hpl (by omega) (fun k => e k.1), if_neg (fun k => e k.1)]; exact w4
        · rw [enz_q _ (Or.inr rfl) (by omega) (by omega) (by omega) hpl (by omega) (fun k => e k.1), if_neg (fun k => e k.1)]; exact w5
        · unfold enA
          rw [up2_o _ _ _ _ (by decide), up2_i _ _ _ (by omega)]
          unfold enK
          rw [if_neg (by omega)]; exact w6
  · rw [enz_no _ (by omega) (by omega) (by omega) (by omega) hpl]; exact H.2.1.2 r2 g1 g2
  · unfold enA
    rw [up2_o _ _ _ _ k3, up2_o _ _ _ _ k2, enK_o _ _ _ _ k2]
/-- the locks of a hand are gone, as far as row j -/
def zK (a : Nat → Nat → Int32) (h j : Nat) : Nat → Nat → Int32 := fun k i => if k = 1 ∧ 6 * h ≤ i ∧ i < 6 * h + j then 0 else a k i
theorem zK_0 (a : Nat → Nat → Int32) (h : Nat) : zK a h 0 = a := by
  funext k i
  unfold zK
  rw [if_neg (by omega)]
theorem zK_s (a : Nat → Nat → Int32) (h j : Nat) : up2 (zK a h j) 1 (6 * h + j) 0 = zK a h (j + 1) := by
  funext k i
  unfold up2 zK
  by_cases c : k = 1 ∧ i = 6 * h + j
  · rw [if_pos c, if_pos (by omega)]
  · rw [if_neg c]
    by_cases c2 : k = 1 ∧ 6 * h ≤ i ∧ i < 6 * h + j
    · rw [if_pos c2, if_pos (by omega)]
    · rw [if_neg c2, if_neg (by omega)]
theorem zK_x (a : Nat → Nat → Int32) {h j i : Nat} (c : 6 * h + j ≤ i) : zK a h j 1 i = a 1 i := by unfold zK; rw [if_neg (by omega)]
theorem zK_o (a : Nat → Nat → Int32) (h j : Nat) {k : Nat} (c : ¬ k = 1) : zK a h j k = a k := by
  funext i
  unfold zK
  rw [if_neg (fun q => c q.1)]
theorem la_zK {a : Nat → Nat → Int32} {z : Nat → Int32} {s : Nat} (H : LA a z s) {h : Nat} (hh : h < 5) : LA (zK a h 6) (lzz z h 12) s := by
  refine la_lk H ⟨fun h2 r2 g1 g2 => ?_, fun h2 r2 g1 g2 c => ?_⟩ (fun k hk => zK_o _ _ _ hk) (fun i hi => lzz_o z (by omega))
  · by_cases e : h2 = h
    · subst e
      unfold zK lzz
      rw [if_pos (by omega), if_pos (by omega)]
    · rw [lzz_o z (by omega)]
      unfold zK
      rw [if_neg (by omega)]; exact H.1.1 h2 r2 g1 g2
  · by_cases e : h2 = h
    · subst e
      unfold lzz
      rw [if_pos (by omega)]
    · rw [lzz_o z (by omega)]; exact H.1.2 h2 r2 g1 g2 c
theorem la_cong {a : Nat → Nat → Int32} {z z2 : Nat → Int32} {s : Nat} (H : LA a z s) (e : ∀ i, i < 361 → z2 i = z i) : LA a z2 s := by
  obtain ⟨h1, h2, h3, h4⟩ := H
  refine ⟨⟨fun h r hh hr => ?_, fun h r hh hr c => ?_⟩, ⟨fun r hr => ?_, fun r g1 g2 => ?_⟩, fun k hk => ⟨fun h hh => ?_, fun h g1 g2 => ?_⟩, ?_⟩
  · rw [e _ (by omega)]; exact h1.1 h r hh hr
  · rw [e _ (by omega)]; exact h1.2 h r hh hr c
  · obtain ⟨n, n1, n2, n3, n4⟩ := h2.1 r hr
    refine ⟨n, n1, by rw [e _ (by omega)]; exact n2, n3, fun p hp => ?_⟩
    obtain ⟨w, md, w1, w2, w3, w4, w5, w6⟩ := n4 p hp
    exact ⟨w, md, w1, w2, w3, by rw [e _ (by omega)]; exact w4, by rw [e _ (by omega)]; exact w5, w6⟩
  · rw [e _ (by omega)]; exact h2.2 r g1 g2
  · rw [e _ (by omega)]; exact (h3 k hk).1 h hh
  · rw [e _ (by omega)]; exact (h3 k hk).2 h g1 g2
  · obtain ⟨t1, t2, t3, t4, t5, t6, t7, t8⟩ := h4
    refine ⟨fun r hr => ?_, ?_⟩
    · rw [e _ (by omega)]; exact t1 r hr
    · rw [e 3 (by omega), e 4 (by omega), e 0 (by omega), e 1 (by omega), e 2 (by omega)]
      refine ⟨t2, t3, t4, t5, t6, t7, t8.trans ?_⟩
      unfold hsum
      refine lp_cong 12 (fun j x hj => ?_) 12 0 0 rfl
      rw [e _ (by omega)]
theorem lq_a {a a2 : Nat → Nat → Int32} {z : Nat → Int32} (H : LQ a z) (e2 : a2 2 = a 2) (e3 : a2 3 = a 3) : LQ a2 z := by
  refine ⟨fun r hr => ?_, H.2⟩
  obtain ⟨n, n1, n2, n3, n4⟩ := H.1 r hr
  refine ⟨n, n1, n2, by rw [e3]; exact n3, fun p hp => ?_⟩
  rw [e2]
  exact n4 p hp
theorem lk_a {a a2 : Nat → Nat → Int32} {z : Nat → Int32} (H : LK a z) (e : a2 1 = a 1) : LK a2 z := ⟨fun h r g1 g2 => by rw [e]; exact H.1 h r g1 g2, H.2⟩
/-- asking keeps the class's own numbers together with the row -/
theorem ask_sa {m : PM} {c : Nat → Nat → Int32} (H : SA c (zz m)) {h r : Nat} {md : Int32} (hh : h < 8) (hr : r < 12) (hm : MO md) (hw : c 1 h = -1) : (∃ c1, SA c1 (zz (askA m h)) ∧ c1 1 h = -1) ∧ (∃ c3, SA c3 (zz (askC m h r md))) ∧ v_X5_isInRing (askR m h r md) (nI h) = 0 := by
  have A := sa_raise H (k := 9) (i := h) (by omega) (by omega) (by omega) (show h < 8 from hh) (c 9 h + 1)
  have eA : zz (askA m h) = upd (zz m) (zof 9 + h) (c 9 h + 1) := by
    unfold askA
    rw [zz_wI, H.2.2.1.1 9 h (by omega) (by omega) (show h < 8 from hh)]
    rfl
  rw [← eA] at A
  have w1 : up2 c 9 h (c 9 h + 1) 1 h = -1 := by rw [up2_o _ _ _ _ (by decide)]; exact hw
  obtain ⟨n, hn, en, kn⟩ := A.2.1.1 r hr
  have n8 : n < 8 := row_lt A.2.1 hh hr en hn w1
  have eq : qn (askA m h) r = n := qn_of en hn
  have pl := plz_le (zz (askA m h)) r h n
  have B : SA (enC (up2 c 9 h (c 9 h + 1)) h r md (plz (zz (askA m h)) r h n)) (zz (w_X5_enqueue (askA m h) r h md)) := by
    unfold w_X5_enqueue
    rw [zz_setz, eq]
    refine ⟨?_, rq_en A.2.1 hh hr en n8 pl hm w1, ?_, hf_en A.2.2.2 A.2.1 hh hr en n8 w1⟩
    · rw [enC_o _ _ _ _ _ _ (by decide) (by decide) (by decide)]
      exact rk_z A.1 (fun i a b => enz_lo _ hr n8 pl (by omega))
    · exact sc_c (c := up2 c 9 h (c 9 h + 1)) (sc_z A.2.2.1 (fun i a => enz_lo _ hr n8 pl (by omega))) (fun k a => enC_o _ _ _ _ _ _ (by omega) (by omega) (by omega))
  obtain ⟨_, c3, s1, s2, s3, _⟩ := settle_R m (w_X5_enqueue (askA m h) r h md) 0 hr B
  have s2 : SA c3 (zz (askC m h r md)) := s2
  exact ⟨⟨_, A, w1⟩, ⟨c3, s2⟩, ring_end hh 8 c3 _ s2 (cntP_N _ 8)⟩
theorem lose_sa {m : PM} {c : Nat → Nat → Int32} (H : SA c (zz m)) {h l : Nat} (hh : h < 8) (hi : ¬ v_X5_isInRing m (nI h) = 0) (hl : l < 8) (e : v_X5_loserFor m (nI h) = nI l) : ∃ c2, SA c2 (zz (w_X5_lose m l)) := by
  have hL := loser_R (sa_rgm m m 0 H) hh
  rw [if_neg hi, e] at hL
  obtain ⟨c2, _, q2, _, _⟩ := lose_R m m m 0 0 (nI h) 0 0 H hl hL
  exact ⟨c2, q2⟩
/-- few enough wait for a row, if one hand waits for none -/
theorem row_5 {a : Nat → Nat → Int32} {rr rm rp z : Nat → Int32} (HQ : RQ rr rm rp z) (H : LQ a z) {h r n : Nat} (hh : h < 5) (hr : r < 6) (hn : z (125 + r) = nI n) (h5 : n ≤ 5) (hw : rr h = -1) : n < 5 := by
  have k := row_cnt HQ (show r < 12 by omega) hn (by omega)
  have no : ∀ i, 5 ≤ i → i < 8 → ¬ rr i = nI r := by
    intro i h1 h2 e
    obtain ⟨n2, p, g1, g2, g3, _, g5, _⟩ := rq_w HQ h2 (by omega) e
    obtain ⟨n3, _, x1, _, x2⟩ := H.1 r hr
    obtain rfl : n2 = n3 := (nI_eq (by omega) (by omega)).mp (g1.symm.trans x1)
    obtain ⟨w, _, w1, _, _, w4, _⟩ := x2 p g3
    have : w = i := (nI_eq (by omega) (by omega)).mp (w4.symm.trans g5)
    omega
  have e8 : cntP (fun h => decide (rr h = nI r)) 8 = cntP (fun h => decide (rr h = nI r)) 5 := by
    rw [cntP_s _ 7, cntP_s _ 6, cntP_s _ 5, if_neg (c := decide (rr 7 = nI r) = true) (by rw [decide_eq_true_eq]; exact no 7 (by omega) (by omega)), if_neg (c := decide (rr 6 = nI r) = true) (by rw [decide_eq_true_eq]; exact no 6 (by omega) (by omega)), if_neg (c := decide (rr 5 = nI r) = true) (by rw [decide_eq_true_eq]; exact no 5 (by omega) (by omega))]
    rfl
  rw [e8] at k
  have := cntP_lt (fun h => decide (rr h = nI r)) (h := h) (decide_eq_false (by rw [hw]; exact fun q => nI_nm1 (show r < 2 ^ 31 by omega) q.symm)) 5 hh
  omega
end
section
/-! a turn of the law's ring: who loses -/
section
variable {M m : PM} {a : Nat → Nat → Int32} {s h r : Nat} {md : Int32} {c : Nat → Nat → Int32}
theorem it1 (H : LA a (zz m) s) (HS : SA c (zz m)) (hh : h < 5) (hi : ¬ v_X5_isInRing m (nI h) = 0) : ∃ l, l < 5 ∧ v_X5_loserFor m (nI h) = nI l ∧ ∀ (x : Int32) (v : OC) (m2 : PM), An ML_asks 263 [some (vR 8 1 0), some (vR 8 2 0), some (vR 8 3 0), some (vR 8 6 0), some (vR 8 7 0), some (vR 8 8 0), some (vI (nI h)), some (vI (nI r)), some (vI md), none, some (vI x), some (vI (nI l)), none, none, none] [] (setA M a) v m2 → An ML_asks 171 [some (vR 8 1 0), some (vR 8 2 0), some (vR 8 3 0), some (vR 8 6 0), some (vR 8 7 0), some (vR 8 8 0), some (vI (nI h)), some (vI (nI r)), some (vI md), none, some (vI x), none, none, none, none] [] (setA M a) v m2 := by
  have D5 : ∀ o, o < 8 → low5 (v_X5_waitsNow m (nI o)) := fun o ho => low5_wn HS.2.1 H.2.1 H.1 ho
  have O5 : low5 (v_X5_waitsOver m (nI h)) := by
    rw [over_5 D5 (show h < 8 by omega)]
    exact lp_inv (fun _ t => lp (rdM m t) 5 0 t) 5 (fun _ t => low5 t) (fun j t _ ht => (in_5 D5 t ht).2) 5 0 _ rfl (D5 h (by omega))
  have R5 : ∀ i, i < 8 → inR m h i → i < 5 := fun i h1 h2 => O5 i (by omega) h2.1
  have hb : bit (v_X5_waitsOver m (nI h)) h = true := Classical.byContradiction fun q => hi ((inRing_bit m (show h < 8 by omega)).mpr q)
  obtain ⟨l, l5, el⟩ : ∃ l, l < 5 ∧ v_X5_loserFor m (nI h) = nI l := by
    rcases loser_c m (show h < 8 by omega) with ⟨e, k⟩ | ⟨l, _, l1, l2, l3, _⟩
    · exact absurd ⟨hb, hb⟩ (k h (Nat.zero_le _) (by omega))
    · exact ⟨l, R5 l l1 l3, l2⟩
  refine ⟨l, l5, el, fun x v m2 hk => ?_⟩
  refine an_b 4 (pc2 := 176) (L2 := [some (vR 8 1 0), some (vR 8 2 0), some (vR 8 3 0), some (vR 8 6 0), some (vR 8 7 0), some (vR 8 8 0), some (vI (nI h)), some (vI (nI r)), some (vI md), none, some (vI x), none, none, none, none]) (st2 := [vI (nI h), vR 8 3 0, vR 8 2 0, vR 8 1 0]) (m1 := (setA M a)) rfl ?_
  refine an_call (r_over HS.2.1 H.2.1 H.1 hh) rfl rfl rfl rfl ?_
  refine an_b 6 (pc2 := if ¬ (((v_X5_waitsOver m (nI h)) >>> ((nI h) &&& (31 : Int32))) &&& (1 : Int32)) = (1 : Int32) then 429 else 188) (L2 := [some (vR 8 1 0), some (vR 8 2 0), some (vR 8 3 0), some (vR 8 6 0), some (vR 8 7 0), some (vR 8 8 0), some (vI (nI h)), some (vI (nI r)), some (vI md), none, some (vI x), none, none, none, none]) (st2 := []) (m1 := (setA M a)) rfl ?_
  refine an_f (fun q => q ((bit_q1 (show h < 32 by omega)).mpr hb)) ?_
  refine an_b 4 (pc2 := 194) (L2 := [some (vR 8 1 0), some (vR 8 2 0), some (vR 8 3 0), some (vR 8 6 0), some (vR 8 7 0), some (vR 8 8 0), some (vI (nI h)), some (vI (nI r)), some (vI md), none, some (vI x), some (vI (-1 : Int32)), some (vI (4 : Int32)), none, none]) (st2 := []) (m1 := (setA M a)) rfl ?_
  suffices K : ∀ j y, j ≤ 5 → LSr m h j 5 y → An ML_asks 194 [some (vR 8 1 0), some (vR 8 2 0), some (vR 8 3 0), some (vR 8 6 0), some (vR 8 7 0), some (vR 8 8 0), some (vI (nI h)), some (vI (nI r)), some (vI md), none, some (vI x), some (vI y), some (vI (nI j + (-1 : Int32))), none, none] [] (setA M a) v m2 from K 5 (-1) (Nat.le_refl 5) (Or.inl ⟨rfl, fun i _ _ => by omega⟩)
  intro j
  induction j with
  | zero =>
    intro y _ hy
    obtain rfl : y = nI l := (loser_u (by omega) R5 hy).trans el
    refine an_b 2 (pc2 := if (nI 0 + (-1 : Int32)) < 0 then 263 else 199) (L2 := [some (vR 8 1 0), some (vR 8 2 0), some (vR 8 3 0), some (vR 8 6 0), some (vR 8 7 0), some (vR 8 8 0), some (vI (nI h)), some (vI (nI r)), some (vI md), none, some (vI x), some (vI (nI l)), some (vI (nI 0 + (-1 : Int32))), none, none]) (st2 := []) (m1 := (setA M a)) rfl ?_
    refine an_t (by decide) ?_
    exact an_weak (L := [some (vR 8 1 0), some (vR 8 2 0), some (vR 8 3 0), some (vR 8 6 0), some (vR 8 7 0), some (vR 8 8 0), some (vI (nI h)), some (vI (nI r)), some (vI md), none, some (vI x), some (vI (nI l)), none, none, none]) ⟨rfl, rfl, rfl, rfl, rfl, rfl, rfl, rfl, rfl, rfl, rfl, trivial⟩ hk
  | succ j ih =>
    intro y hj hy
    have e1 : nI (j + 1) + (-1 : Int32) = nI j := by
      rw [← Int32.sub_eq_add_neg]; exact nI_pred j
    rw [e1]
    have nx : ∀ y2, LSr m h j 5 y2 → An ML_asks 257 [some (vR 8 1 0), some (vR 8 2 0), some (vR 8 3 0), some (vR 8 6 0), some (vR 8 7 0), some (vR 8 8 0), some (vI (nI h)), some (vI (nI r)), some (vI md), none, some (vI x), some (vI y2), some (vI (nI j)), none, none] [] (setA M a) v m2 := by
      intro y2 h2
      have k1 := ih y2 (by omega) h2
      refine an_b 2 (pc2 := 194) (L2 := [some (vR 8 1 0), some (vR 8 2 0), some (vR 8 3 0), some (vR 8 6 0), some (vR 8 7 0), some (vR 8 8 0), some (vI (nI h)), some (vI (nI r)), some (vI md), none, some (vI x), some (vI y2), some (vI ((nI j) + (-1 : Int32))), none, none]) (st2 := []) (m1 := (setA M a)) rfl ?_
      exact k1
    have no : ¬ inR m h j → LSr m h j 5 y := by
      intro c
      rcases hy with ⟨e, k⟩ | ⟨q, q0, q1, q2, q3, q4⟩
      · exact Or.inl ⟨e, fun i g1 g2 g3 => by
          by_cases u : i = j
          · rw [u] at g3; exact c g3
          · exact k i (by omega) g2 g3⟩
      · exact Or.inr ⟨q, by omega, q1, q2, q3, fun i g1 g2 g3 => by
          by_cases u : i = j
          · rw [u] at g3; exact absurd g3 c
          · exact q4 i (by omega) g2 g3⟩
    refine an_b 2 (pc2 := if (nI j) < 0 then 263 else 199) (L2 := [some (vR 8 1 0), some (vR 8 2 0), some (vR 8 3 0), some (vR 8 6 0), some (vR 8 7 0), some (vR 8 8 0), some (vI (nI h)), some (vI (nI r)), some (vI md), none, some (vI x), some (vI y), some (vI (nI j)), none, none]) (st2 := []) (m1 := (setA M a)) rfl ?_
    refine an_f (nI_pos (by omega)) ?_
    refine an_b 4 (pc2 := 204) (L2 := [some (vR 8 1 0), some (vR 8 2 0), some (vR 8 3 0), some (vR 8 6 0), some (vR 8 7 0), some (vR 8 8 0), some (vI (nI h)), some (vI (nI r)), some (vI md), none, some (vI x), some (vI y), some (vI (nI j)), none, none]) (st2 := [vI (nI h), vR 8 3 0, vR 8 2 0, vR 8 1 0]) (m1 := (setA M a)) rfl ?_
    refine an_call (r_over HS.2.1 H.2.1 H.1 hh) rfl rfl rfl rfl ?_
    refine an_b 6 (pc2 := if ¬ (((v_X5_waitsOver m (nI h)) >>> ((nI j) &&& (31 : Int32))) &&& (1 : Int32)) = (1 : Int32) then 257 else 216) (L2 := [some (vR 8 1 0), some (vR 8 2 0), some (vR 8 3 0), some (vR 8 6 0), some (vR 8 7 0), some (vR 8 8 0), some (vI (nI h)), some (vI (nI r)), some (vI md), none, some (vI x), some (vI y), some (vI (nI j)), none, none]) (st2 := []) (m1 := (setA M a)) rfl ?_
    by_cases c1 : (((v_X5_waitsOver m (nI h)) >>> ((nI j) &&& (31 : Int32))) &&& (1 : Int32)) = (1 : Int32)
    · have b1 := (bit_q1 (show j < 32 by omega)).mp c1
      refine an_f (fun q => q c1) ?_
      refine an_b 4 (pc2 := 221) (L2 := [some (vR 8 1 0), some (vR 8 2 0), some (vR 8 3 0), some (vR 8 6 0), some (vR 8 7 0), some (vR 8 8 0), some (vI (nI h)), some (vI (nI r)), some (vI md), none, some (vI x), some (vI y), some (vI (nI j)), none, none]) (st2 := [vI (nI j), vR 8 3 0, vR 8 2 0, vR 8 1 0]) (m1 := (setA M a)) rfl ?_
      refine an_call (r_over HS.2.1 H.2.1 H.1 (show j < 5 by omega)) rfl rfl rfl rfl ?_
      refine an_b 6 (pc2 := if ¬ (((v_X5_waitsOver m (nI j)) >>> ((nI h) &&& (31 : Int32))) &&& (1 : Int32)) = (1 : Int32) then 257 else 233) (L2 := [some (vR 8 1 0), some (vR 8 2 0), some (vR 8 3 0), some (vR 8 6 0), some (vR 8 7 0), some (vR 8 8 0), some (vI (nI h)), some (vI (nI r)), some (vI md), none, some (vI x), some (vI y), some (vI (nI j)), none, none]) (st2 := []) (m1 := (setA M a)) rfl ?_
      by_cases c2 : (((v_X5_waitsOver m (nI j)) >>> ((nI h) &&& (31 : Int32))) &&& (1 : Int32)) = (1 : Int32)
      · have b2 := (bit_q1 (show h < 32 by omega)).mp c2
        refine an_f (fun q => q c2) ?_
        refine an_b 2 (pc2 := if y < 0 then 253 else 238) (L2 := [some (vR 8 1 0), some (vR 8 2 0), some (vR 8 3 0), some (vR 8 6 0), some (vR 8 7 0), some (vR 8 8 0), some (vI (nI h)), some (vI (nI r)), some (vI md), none, some (vI x), some (vI y), some (vI (nI j)), none, none]) (st2 := []) (m1 := (setA M a)) rfl ?_
        rcases hy with ⟨rfl, k⟩ | ⟨q, q0, q1, rfl, q3, q4⟩
        · refine an_t (by decide) ?_
          refine an_b 2 (pc2 := 257) (L2 := [some (vR 8 1 0), some (vR 8 2 0), some (vR 8 3 0), some (vR 8 6 0), some (vR 8 7 0), some (vR 8 8 0), some (vI (nI h)), some (vI (nI r)), some (vI md), none, some (vI x), some (vI (nI j)), some (vI (nI j)), none, none]) (st2 := []) (m1 := (setA M a)) rfl ?_
          refine nx (nI j) (Or.inr ⟨j, Nat.le_refl _, by omega, rfl, ⟨b1, b2⟩, fun i g1 g2 g3 => ?_⟩)
          by_cases u : i = j
          · rw [u]; exact ⟨Int.le_refl _, fun u => by omega⟩
          · exact absurd g3 (k i (by omega) g2)
        · refine an_f (nI_pos (by omega)) ?_
          refine an_b 2 (pc2 := 241) (L2 := [some (vR 8 1 0), some (vR 8 2 0), some (vR 8 3 0), some (vR 8 6 0), some (vR 8 7 0), some (vR 8 8 0), some (vI (nI h)), some (vI (nI r)), some (vI md), none, some (vI x), some (vI (nI q)), some (vI (nI j)), none, none]) (st2 := [vI (nI j), vR 8 1 0]) (m1 := (setA M a)) rfl ?_
          refine an_call (r_work H.1 (show j < 5 by omega)) rfl rfl rfl rfl ?_
          refine an_b 2 (pc2 := 247) (L2 := [some (vR 8 1 0), some (vR 8 2 0), some (vR 8 3 0), some (vR 8 6 0), some (vR 8 7 0), some (vR 8 8 0), some (vI (nI h)), some (vI (nI r)), some (vI md), none, some (vI x), some (vI (nI q)), some (vI (nI j)), none, none]) (st2 := [vI (nI q), vR 8 1 0, vI (v_X5_workOf m j)]) (m1 := (setA M a)) rfl ?_
          refine an_call (r_work H.1 q1) rfl rfl rfl rfl ?_
          refine an_b 1 (pc2 := if (v_X5_workOf m q) ≤ (v_X5_workOf m j) then 257 else 253) (L2 := [some (vR 8 1 0), some (vR 8 2 0), some (vR 8 3 0), some (vR 8 6 0), some (vR 8 7 0), some (vR 8 8 0), some (vI (nI h)), some (vI (nI r)), some (vI md), none, some (vI x), some (vI (nI q)), some (vI (nI j)), none, none]) (st2 := []) (m1 := (setA M a)) rfl ?_
          by_cases c3 : v_X5_workOf m j < v_X5_workOf m q
          · have c3 : wkZ m j < wkZ m q := Int32.lt_iff_toInt_lt.mp c3
            refine an_f (fun u => by have := Int32.le_iff_toInt_le.mp u; unfold wkZ at c3; omega) ?_
            refine an_b 2 (pc2 := 257) (L2 := [some (vR 8 1 0), some (vR 8 2 0), some (vR 8 3 0), some (vR 8 6 0), some (vR 8 7 0), some (vR 8 8 0), some (vI (nI h)), some (vI (nI r)), some (vI md), none, some (vI x), some (vI (nI j)), some (vI (nI j)), none, none]) (st2 := []) (m1 := (setA M a)) rfl ?_
            refine nx (nI j) (Or.inr ⟨j, Nat.le_refl _, by omega, rfl, ⟨b1, b2⟩, fun i g1 g2 g3 => ?_⟩)
            by_cases u : i = j
            · rw [u]; exact ⟨Int.le_refl _, fun u => by omega⟩
            · have := q4 i (by omega) g2 g3
              by_cases u2 : q < i
              · have := this.2 u2; exact ⟨by omega, fun _ => by omega⟩
              · exact ⟨by omega, fun _ => by omega⟩
          · have c3' : ¬ wkZ m j < wkZ m q := fun u => c3 (Int32.lt_iff_toInt_lt.mpr u)
            refine an_t (Int32.not_lt.mp c3) ?_
            refine nx (nI q) (Or.inr ⟨q, by omega, q1, rfl, q3, fun i g1 g2 g3 => ?_⟩)
            by_cases u : i = j
            · rw [u]; exact ⟨by omega, fun u2 => by omega⟩
            · exact q4 i (by omega) g2 g3
      · refine an_t c2 ?_
        exact nx y (no (fun u => c2 ((bit_q1 (show h < 32 by omega)).mpr u.2)))
    · refine an_t c1 ?_
      exact nx y (no (fun u => c1 ((bit_q1 (show j < 32 by omega)).mpr u.1)))
end
end
section
/-! a turn of the law's ring: what is taken from the one who loses; the rows settled; the turns -/
section
variable {M m : PM} {a : Nat → Nat → Int32} {s h r : Nat} {md : Int32} {c : Nat → Nat → Int32}
def itA (a : Nat → Nat → Int32) (l : Nat) : Nat → Nat → Int32 := up2 a 6 l (a 6 l + 1)
set_option maxRecDepth 100000 in
theorem it2 (H : LA a (zz m) s) (HS : SA c (zz m)) {l : Nat} (hl : l < 5) (hw : ¬ c 1 l = -1) : ∃ (own n p : Nat) (rows : Int32), own < 6 ∧ n ≤ 5 ∧ p < n ∧ zz m (125 + own) = nI n ∧ c 1 l = nI own ∧ c 3 l = nI p ∧ (∀ i, i < 6 → (bit rows i = true ↔ (lkB (zz m) l i || decide (i = own)) = true)) ∧ ∀ (x : Int32) (v : OC) (m2 : PM), An ML_asks 384 [some (vR 8 1 0), some (vR 8 2 0), some (vR 8 3 0), some (vR 8 6 0), some (vR 8 7 0), some (vR 8 8 0), some (vI (nI h)), some (vI (nI r)), some (vI md), none, some (vI x), some (vI (nI l)), some (vI rows), some (vI (nI own)), none] [] (setA M (lvK (zK (itA a l) l 6) own p n (n - 1))) v m2 → An ML_asks 263 [some (vR 8 1 0), some (vR 8 2 0), some (vR 8 3 0), some (vR 8 6 0), some (vR 8 7 0), some (vR 8 8 0), some (vI (nI h)), some (vI (nI r)), some (vI md), none, some (vI x), some (vI (nI l)), none, none, none] [] (setA M a) v m2 := by
  rcases rq_n HS.2.1 H.2.1 (h := l) (by omega) with e | ⟨own, n, p, ho, hn5, hn, hqm, hp, e1, e2, e3⟩
  · exact absurd e hw
  -- the rows, as bits
  have R : ∀ d j (y : Int32), j + d = 6 → (∀ i, i < 32 → (bit y i = true ↔ i < j ∧ (lkB (zz m) l i || decide (i = own)) = true)) → ∃ rows, (∀ i, i < 6 → (bit rows i = true ↔ (lkB (zz m) l i || decide (i = own)) = true)) ∧ ∀ (x : Int32) (v : OC) (m2 : PM), An ML_asks 339 [some (vR 8 1 0), some (vR 8 2 0), some (vR 8 3 0), some (vR 8 6 0), some (vR 8 7 0), some (vR 8 8 0), some (vI (nI h)), some (vI (nI r)), some (vI md), none, some (vI x), some (vI (nI l)), some (vI rows), some (vI (nI own)), none] [] (setA M (zK (itA a l) l 6)) v m2 → An ML_asks 286 [some (vR 8 1 0), some (vR 8 2 0), some (vR 8 3 0), some (vR 8 6 0), some (vR 8 7 0), some (vR 8 8 0), some (vI (nI h)), some (vI (nI r)), some (vI md), none, some (vI x), some (vI (nI l)), some (vI y), some (vI (nI own)), some (vI (nI j))] [] (setA M (zK (itA a l) l j)) v m2 := by
    intro d
    induction d with
    | zero =>
      intro j y hd hy
      obtain rfl : j = 6 := by omega
      refine ⟨y, fun i hi => (hy i (by omega)).trans ⟨fun q => q.2, fun q => ⟨hi, q⟩⟩, fun x v m2 hk => ?_⟩
      refine an_b 3 (pc2 := if (6 : Int32) ≤ (nI 6) then 339 else 293) (L2 := [some (vR 8 1 0), some (vR 8 2 0), some (vR 8 3 0), some (vR 8 6 0), some (vR 8 7 0), some (vR 8 8 0), some (vI (nI h)), some (vI (nI r)), some (vI md), none, some (vI x), some (vI (nI l)), some (vI y), some (vI (nI own)), some (vI (nI 6))]) (st2 := []) (m1 := (setA M (zK (itA a l) l 6))) rfl ?_
      refine an_t (nI_le (Nat.le_refl 6) (by omega)) ?_
      exact an_weak (L := [some (vR 8 1 0), some (vR 8 2 0), some (vR 8 3 0), some (vR 8 6 0), some (vR 8 7 0), some (vR 8 8 0), some (vI (nI h)), some (vI (nI r)), some (vI md), none, some (vI x), some (vI (nI l)), some (vI y), some (vI (nI own)), none]) ⟨rfl, rfl, rfl, rfl, rfl, rfl, rfl, rfl, rfl, rfl, rfl, rfl, rfl, trivial⟩ hk
    | succ d ih =>
      intro j y hd hy
      have el : (zK (itA a l) l j) 1 (6 * l + j) = zz m (5 + 12 * l + j) := by
        rw [zK_x _ (by omega)]
        unfold itA
        rw [up2_o _ _ _ _ (by decide)]
        exact H.1.1 l j hl (by omega)
      -- behind the bit
      have nx : ∀ y2, (∀ i, i < 32 → (bit y2 i = true ↔ i < j + 1 ∧ (lkB (zz m) l i || decide (i = own)) = true)) → ∃ rows, (∀ i, i < 6 → (bit rows i = true ↔ (lkB (zz m) l i || decide (i = own)) = true)) ∧ ∀ (x : Int32) (v : OC) (m2 : PM), An ML_asks 339 [some (vR 8 1 0), some (vR 8 2 0), some (vR 8 3 0), some (vR 8 6 0), some (vR 8 7 0), some (vR 8 8 0), some (vI (nI h)), some (vI (nI r)), some (vI md), none, some (vI x), some (vI (nI l)), some (vI rows), some (vI (nI own)), none] [] (setA M (zK (itA a l) l 6)) v m2 → An ML_asks 322 [some (vR 8 1 0), some (vR 8 2 0), some (vR 8 3 0), some (vR 8 6 0), some (vR 8 7 0), some (vR 8 8 0), some (vI (nI h)), some (vI (nI r)), some (vI md), none, some (vI x), some (vI (nI l)), some (vI y2), some (vI (nI own)), some (vI (nI j))] [] (setA M (zK (itA a l) l j)) v m2 := by
        intro y2 h2
        obtain ⟨rows, k1, k2⟩ := ih (j + 1) y2 (by omega) h2
        refine ⟨rows, k1, fun x v m2 hk => ?_⟩
        have k3 := k2 x v m2 hk
        rw [← zK_s] at k3
        refine an_b 7 (pc2 := 332) (L2 := [some (vR 8 1 0), some (vR 8 2 0), some (vR 8 3 0), some (vR 8 6 0), some (vR 8 7 0), some (vR 8 8 0), some (vI (nI h)), some (vI (nI r)), some (vI md), none, some (vI x), some (vI (nI l)), some (vI y2), some (vI (nI own)), some (vI (nI j))]) (st2 := [vI (0 : Int32), vI (((6 : Int32) * (nI l)) + (nI j)), vR 8 1 0]) (m1 := (setA M (zK (itA a l) l j))) rfl ?_
        refine an_sa 1 ((6 * l) + j) (by decide) (by show _ < 30; omega) (by simp only [ix_lit, pk_mul, nI_add]) rfl ?_
        refine an_b 2 (pc2 := 286) (L2 := [some (vR 8 1 0), some (vR 8 2 0), some (vR 8 3 0), some (vR 8 6 0), some (vR 8 7 0), some (vR 8 8 0), some (vI (nI h)), some (vI (nI r)), some (vI md), none, some (vI x), some (vI (nI l)), some (vI y2), some (vI (nI own)), some (vI ((nI j) + (1 : Int32)))]) (st2 := []) (m1 := (setA M (up2 (zK (itA a l) l j) 1 ((6 * l) + j) (0 : Int32)))) rfl ?_
        rw [← nI_1] at k3
        exact k3
      have yes : (lkB (zz m) l j || decide (j = own)) = true → ∀ i, i < 32 → (bit (y ||| ((1 : Int32) <<< (nI j &&& (31 : Int32)))) i = true ↔ i < j + 1 ∧ (lkB (zz m) l i || decide (i = own)) = true) := by
        intro q i hi
        rw [bit_or, bit_1 hi (by omega), Bool.or_eq_true, decide_eq_true_eq, hy i hi]
        constructor
        · rintro (⟨b1, b2⟩ | rfl)
          · exact ⟨by omega, b2⟩
          · exact ⟨by omega, q⟩
        · rintro ⟨b1, b2⟩
          by_cases u : i = j
          · exact Or.inr u
          · exact Or.inl ⟨by omega, b2⟩
      have no : ¬ (lkB (zz m) l j || decide (j = own)) = true → ∀ i, i < 32 → (bit y i = true ↔ i < j + 1 ∧ (lkB (zz m) l i || decide (i = own)) = true) := by
        intro q i hi
        rw [hy i hi]
        constructor
        · rintro ⟨b1, b2⟩; exact ⟨by omega, b2⟩
        · rintro ⟨b1, b2⟩
          by_cases u : i = j
          · rw [u] at b2; exact absurd b2 q
          · exact ⟨by omega, b2⟩
      by_cases c1 : (0 : Int32) < zz m (5 + 12 * l + j)
      · have b1 : (lkB (zz m) l j || decide (j = own)) = true := by
          unfold lkB
          rw [decide_eq_false (Int32.not_le.mpr c1)]
          rfl
        obtain ⟨rows, k1, k2⟩ := nx _ (yes b1)
        refine ⟨rows, k1, fun x v m2 hk => ?_⟩
        refine an_b 3 (pc2 := if (6 : Int32) ≤ (nI j) then 339 else 293) (L2 := [some (vR 8 1 0), some (vR 8 2 0), some (vR 8 3 0), some (vR 8 6 0), some (vR 8 7 0), some (vR 8 8 0), some (vI (nI h)), some (vI (nI r)), some (vI md), none, some (vI x), some (vI (nI l)), some (vI y), some (vI (nI own)), some (vI (nI j))]) (st2 := []) (m1 := (setA M (zK (itA a l) l j))) rfl ?_
        refine an_f (nI_ge (b := 6) (by omega) (by omega)) ?_
        refine an_b 6 (pc2 := 302) (L2 := [some (vR 8 1 0), some (vR 8 2 0), some (vR 8 3 0), some (vR 8 6 0), some (vR 8 7 0), some (vR 8 8 0), some (vI (nI h)), some (vI (nI r)), some (vI md), none, some (vI x), some (vI (nI l)), some (vI y), some (vI (nI own)), some (vI (nI j))]) (st2 := [vI (((6 : Int32) * (nI l)) + (nI j)), vR 8 1 0]) (m1 := (setA M (zK (itA a l) l j))) rfl ?_
        refine an_la 1 ((6 * l) + j) (by decide) (by show _ < 30; omega) (by simp only [ix_lit, pk_mul, nI_add]) rfl ?_
        refine an_b 1 (pc2 := if 0 < (zz m (5 + 12 * l + j)) then 313 else 306) (L2 := [some (vR 8 1 0), some (vR 8 2 0), some (vR 8 3 0), some (vR 8 6 0), some (vR 8 7 0), some (vR 8 8 0), some (vI (nI h)), some (vI (nI r)), some (vI md), none, some (vI x), some (vI (nI l)), some (vI y), some (vI (nI own)), some (vI (nI j))]) (st2 := []) (m1 := (setA M (zK (itA a l) l j))) (by rw [← el]; rfl) ?_
        refine an_t c1 ?_
        refine an_b 6 (pc2 := 322) (L2 := [some (vR 8 1 0), some (vR 8 2 0), some (vR 8 3 0), some (vR 8 6 0), some (vR 8 7 0), some (vR 8 8 0), some (vI (nI h)), some (vI (nI r)), some (vI md), none, some (vI x), some (vI (nI l)), some (vI (y ||| ((1 : Int32) <<< ((nI j) &&& (31 : Int32))))), some (vI (nI own)), some (vI (nI j))]) (st2 := []) (m1 := (setA M (zK (itA a l) l j))) rfl ?_
        exact k2 x v m2 hk
      · have b0 : lkB (zz m) l j = false := by
          unfold lkB
          rw [decide_eq_true (Int32.not_lt.mp c1)]
          rfl
        by_cases c2 : nI j = nI own
        · have b1 : (lkB (zz m) l j || decide (j = own)) = true := by
            rw [b0, decide_eq_true ((nI_eq (by omega) (by omega)).mp c2)]
            rfl
          obtain ⟨rows, k1, k2⟩ := nx _ (yes b1)
          refine ⟨rows, k1, fun x v m2 hk => ?_⟩
          refine an_b 3 (pc2 := if (6 : Int32) ≤ (nI j) then 339 else 293) (L2 := [some (vR 8 1 0), some (vR 8 2 0), some (vR 8 3 0), some (vR 8 6 0), some (vR 8 7 0), some (vR 8 8 0), some (vI (nI h)), some (vI (nI r)), some (vI md), none, some (vI x), some (vI (nI l)), some (vI y), some (vI (nI own)), some (vI (nI j))]) (st2 := []) (m1 := (setA M (zK (itA a l) l j))) rfl ?_
          refine an_f (nI_ge (b := 6) (by omega) (by omega)) ?_
          refine an_b 6 (pc2 := 302) (L2 := [some (vR 8 1 0), some (vR 8 2 0), some (vR 8 3 0), some (vR 8 6 0), some (vR 8 7 0), some (vR 8 8 0), some (vI (nI h)), some (vI (nI r)), some (vI md), none, some (vI x), some (vI (nI l)), some (vI y), some (vI (nI own)), some (vI (nI j))]) (st2 := [vI (((6 : Int32) * (nI l)) + (nI j)), vR 8 1 0]) (m1 := (setA M (zK (itA a l) l j))) rfl ?_
          refine an_la 1 ((6 * l) + j) (by decide) (by show _ < 30; omega) (by simp only [ix_lit, pk_mul, nI_add]) rfl ?_
          refine an_b 1 (pc2 := if 0 < (zz m (5 + 12 * l + j)) then 313 else 306) (L2 := [some (vR 8 1 0), some (vR 8 2 0), some (vR 8 3 0), some (vR 8 6 0), some (vR 8 7 0), some (vR 8 8 0), some (vI (nI h)), some (vI (nI r)), some (vI md), none, some (vI x), some (vI (nI l)), some (vI y), some (vI (nI own)), some (vI (nI j))]) (st2 := []) (m1 := (setA M (zK (itA a l) l j))) (by rw [← el]; rfl) ?_
          refine an_f c1 ?_
          refine an_b 3 (pc2 := if ¬ (nI j) = (nI own) then 322 else 313) (L2 := [some (vR 8 1 0), some (vR 8 2 0), some (vR 8 3 0), some (vR 8 6 0), some (vR 8 7 0), some (vR 8 8 0), some (vI (nI h)), some (vI (nI r)), some (vI md), none, some (vI x), some (vI (nI l)), some (vI y), some (vI (nI own)), some (vI (nI j))]) (st2 := []) (m1 := (setA M (zK (itA a l) l j))) rfl ?_
          refine an_f (fun u => u c2) ?_
          refine an_b 6 (pc2 := 322) (L2 := [some (vR 8 1 0), some (vR 8 2 0), some (vR 8 3 0), some (vR 8 6 0), some (vR 8 7 0), some (vR 8 8 0), some (vI (nI h)), some (vI (nI r)), some (vI md), none, some (vI x), some (vI (nI l)), some (vI (y ||| ((1 : Int32) <<< ((nI j) &&& (31 : Int32))))), some (vI (nI own)), some (vI (nI j))]) (st2 := []) (m1 := (setA M (zK (itA a l) l j))) rfl ?_
          exact k2 x v m2 hk
        · have b1 : ¬ (lkB (zz m) l j || decide (j = own)) = true := by
            rw [b0, decide_eq_false (fun u => c2 (by rw [u]))]
            decide
          obtain ⟨rows, k1, k2⟩ := nx y (no b1)
          refine ⟨rows, k1, fun x v m2 hk => ?_⟩
          refine an_b 3 (pc2 := if (6 : Int32) ≤ (nI j) then 339 else 293) (L2 := [some (vR 8 1 0), some (vR 8 2 0), some (vR 8 3 0), some (vR 8 6 0), some (vR 8 7 0), some (vR 8 8 0), some (vI (nI h)), some (vI (nI r)), some (vI md), none, some (vI x), some (vI (nI l)), some (vI y), some (vI (nI own)), some (vI (nI j))]) (st2 := []) (m1 := (setA M (zK (itA a l) l j))) rfl ?_
          refine an_f (nI_ge (b := 6) (by omega) (by omega)) ?_
          refine an_b 6 (pc2 := 302) (L2 := [some (vR 8 1 0), some (vR 8 2 0), some (vR 8 3 0), some (vR 8 6 0), some (vR 8 7 0), some (vR 8 8 0), some (vI (nI h)), some (vI (nI r)), some (vI md), none, some (vI x), some (vI (nI l)), some (vI y), some (vI (nI own)), some (vI (nI j))]) (st2 := [vI (((6 : Int32) * (nI l)) + (nI j)), vR 8 1 0]) (m1 := (setA M (zK (itA a l) l j))) rfl ?_
          refine an_la 1 ((6 * l) + j) (by decide) (by show _ < 30; omega) (by simp only [ix_lit, pk_mul, nI_add]) rfl ?_
          refine an_b 1 (pc2 := if 0 < (zz m (5 + 12 * l + j)) then 313 else 306) (L2 := [some (vR 8 1 0), some (vR 8 2 0), some (vR 8 3 0), some (vR 8 6 0), some (vR 8 7 0), some (vR 8 8 0), some (vI (nI h)), some (vI (nI r)), some (vI md), none, some (vI x), some (vI (nI l)), some (vI y), some (vI (nI own)), some (vI (nI j))]) (st2 := []) (m1 := (setA M (zK (itA a l) l j))) (by rw [← el]; rfl) ?_
          refine an_f c1 ?_
          refine an_b 3 (pc2 := if ¬ (nI j) = (nI own) then 322 else 313) (L2 := [some (vR 8 1 0), some (vR 8 2 0), some (vR 8 3 0), some (vR 8 6 0), some (vR 8 7 0), some (vR 8 8 0), some (vI (nI h)), some (vI (nI r)), some (vI md), none, some (vI x), some (vI (nI l)), some (vI y), some (vI (nI own)), some (vI (nI j))]) (st2 := []) (m1 := (setA M (zK (itA a l) l j))) rfl ?_
          refine an_t c2 ?_
          exact k2 x v m2 hk
  have HQ3 : LQ (zK (itA a l) l 6) (zz m) := lq_a H.2.1 (by rw [zK_o _ _ _ (by decide)]; unfold itA; rw [up2_o _ _ _ _ (by decide)]) (by rw [zK_o _ _ _ (by decide)]; unfold itA; rw [up2_o _ _ _ _ (by decide)])
  obtain ⟨n2, _, g1, g2, g3⟩ := HQ3.1 own ho
  obtain rfl : n = n2 := (nI_eq (by omega) (by omega)).mp (hn.symm.trans g1)
  have uq : ∀ k, k < n → ¬ k = p → ∀ w, zz m (137 + 8 * own + k) = nI w → w < 5 → ¬ nI w = nI l := by
    intro k hk hne w hw2 w5 e
    obtain rfl : w = l := (nI_eq (by omega) (by omega)).mp e
    obtain ⟨n4, _, y1, y2⟩ := HS.2.1.1 own (by omega)
    obtain rfl : n = n4 := (nI_eq (by omega) (by omega)).mp (hn.symm.trans y1)
    obtain ⟨h2, x1, x2, _, x4, _⟩ := y2 k hk
    obtain rfl : w = h2 := (nI_eq (by omega) (by omega)).mp (hw2.symm.trans x2)
    exact hne ((nI_eq (by omega) (by omega)).mp (x4.symm.trans e2))
  generalize zK (itA a l) l 6 = b at R HQ3 g2 g3 ⊢
  -- behind the place: none is the hand's
  have T2 : ∀ (rows x : Int32) (v : OC) (m2 : PM), An ML_asks 384 [some (vR 8 1 0), some (vR 8 2 0), some (vR 8 3 0), some (vR 8 6 0), some (vR 8 7 0), some (vR 8 8 0), some (vI (nI h)), some (vI (nI r)), some (vI md), none, some (vI x), some (vI (nI l)), some (vI rows), some (vI (nI own)), none] [] (setA M (lvK b own p n (n - 1))) v m2 → ∀ k, k ≤ p → An ML_asks 347 [some (vR 8 1 0), some (vR 8 2 0), some (vR 8 3 0), some (vR 8 6 0), some (vR 8 7 0), some (vR 8 8 0), some (vI (nI h)), some (vI (nI r)), some (vI md), none, some (vI x), some (vI (nI l)), some (vI rows), some (vI (nI own)), some (vI (nI k + (-1 : Int32)))] [] (setA M (lvK b own p n (n - 1))) v m2 := by
    intro rows x v m2 hk k
    induction k with
    | zero =>
      intro _
      refine an_b 2 (pc2 := if (nI 0 + (-1 : Int32)) < 0 then 384 else 352) (L2 := [some (vR 8 1 0), some (vR 8 2 0), some (vR 8 3 0), some (vR 8 6 0), some (vR 8 7 0), some (vR 8 8 0), some (vI (nI h)), some (vI (nI r)), some (vI md), none, some (vI x), some (vI (nI l)), some (vI rows), some (vI (nI own)), some (vI (nI 0 + (-1 : Int32)))]) (st2 := []) (m1 := (setA M (lvK b own p n (n - 1)))) rfl ?_
      refine an_t (by decide) ?_
      exact an_weak (L := [some (vR 8 1 0), some (vR 8 2 0), some (vR 8 3 0), some (vR 8 6 0), some (vR 8 7 0), some (vR 8 8 0), some (vI (nI h)), some (vI (nI r)), some (vI md), none, some (vI x), some (vI (nI l)), some (vI rows), some (vI (nI own)), none]) ⟨rfl, rfl, rfl, rfl, rfl, rfl, rfl, rfl, rfl, rfl, rfl, rfl, rfl, trivial⟩ hk
    | succ k ih =>
      intro hkp
      have e4 : nI (k + 1) + (-1 : Int32) = nI k := by
        rw [← Int32.sub_eq_add_neg]; exact nI_pred k
      rw [e4]
      obtain ⟨w, md2, u1, u2, u3, u4, u5, u6⟩ := g3 k (by omega)
      have hne := uq k (by omega) (by omega) w u4 u1
      have u7 : lvK b own p n (n - 1) 2 (5 * own + k) = nI (w + 8 * md2) := by
        unfold lvK
        rw [if_neg (by omega), if_neg (by omega)]; exact u6
      refine an_b 2 (pc2 := if (nI k) < 0 then 384 else 352) (L2 := [some (vR 8 1 0), some (vR 8 2 0), some (vR 8 3 0), some (vR 8 6 0), some (vR 8 7 0), some (vR 8 8 0), some (vI (nI h)), some (vI (nI r)), some (vI md), none, some (vI x), some (vI (nI l)), some (vI rows), some (vI (nI own)), some (vI (nI k))]) (st2 := []) (m1 := (setA M (lvK b own p n (n - 1)))) rfl ?_
      refine an_f (nI_pos (by omega)) ?_
      refine an_b 6 (pc2 := 360) (L2 := [some (vR 8 1 0), some (vR 8 2 0), some (vR 8 3 0), some (vR 8 6 0), some (vR 8 7 0), some (vR 8 8 0), some (vI (nI h)), some (vI (nI r)), some (vI md), none, some (vI x), some (vI (nI l)), some (vI rows), some (vI (nI own)), some (vI (nI k))]) (st2 := [vI (((5 : Int32) * (nI own)) + (nI k)), vR 8 2 0]) (m1 := (setA M (lvK b own p n (n - 1)))) rfl ?_
      refine an_la 2 ((5 * own) + k) (by decide) (by show _ < 36; omega) (by simp only [ix_lit, pk_mul, nI_add]) rfl ?_
      refine an_b 4 (pc2 := if ¬ (nI w) = (nI l) then 378 else 369) (L2 := [some (vR 8 1 0), some (vR 8 2 0), some (vR 8 3 0), some (vR 8 6 0), some (vR 8 7 0), some (vR 8 8 0), some (vI (nI h)), some (vI (nI r)), some (vI md), none, some (vI x), some (vI (nI l)), some (vI rows), some (vI (nI own)), some (vI (nI k))]) (st2 := []) (m1 := (setA M (lvK b own p n (n - 1)))) (by rw [u7, ← rem8 w u1 md2 u3]; rfl) ?_
      refine an_t hne ?_
      refine an_b 2 (pc2 := 347) (L2 := [some (vR 8 1 0), some (vR 8 2 0), some (vR 8 3 0), some (vR 8 6 0), some (vR 8 7 0), some (vR 8 8 0), some (vI (nI h)), some (vI (nI r)), some (vI md), none, some (vI x), some (vI (nI l)), some (vI rows), some (vI (nI own)), some (vI ((nI k) + (-1 : Int32)))]) (st2 := []) (m1 := (setA M (lvK b own p n (n - 1)))) rfl ?_
      exact ih (by omega)
  have T1 : ∀ (rows x : Int32) (v : OC) (m2 : PM), An ML_asks 384 [some (vR 8 1 0), some (vR 8 2 0), some (vR 8 3 0), some (vR 8 6 0), some (vR 8 7 0), some (vR 8 8 0), some (vI (nI h)), some (vI (nI r)), some (vI md), none, some (vI x), some (vI (nI l)), some (vI rows), some (vI (nI own)), none] [] (setA M (lvK b own p n (n - 1))) v m2 → ∀ k, p < k → k ≤ n → An ML_asks 347 [some (vR 8 1 0), some (vR 8 2 0), some (vR 8 3 0), some (vR 8 6 0), some (vR 8 7 0), some (vR 8 8 0), some (vI (nI h)), some (vI (nI r)), some (vI md), none, some (vI x), some (vI (nI l)), some (vI rows), some (vI (nI own)), some (vI (nI k + (-1 : Int32)))] [] (setA M b) v m2 := by
    intro rows x v m2 hk k
    induction k with
    | zero => intro q; omega
    | succ k ih =>
      intro hpk hkn
      have e4 : nI (k + 1) + (-1 : Int32) = nI k := by
        rw [← Int32.sub_eq_add_neg]; exact nI_pred k
      rw [e4]
      obtain ⟨w, md2, u1, u2, u3, u4, u5, u6⟩ := g3 k (by omega)
      refine an_b 2 (pc2 := if (nI k) < 0 then 384 else 352) (L2 := [some (vR 8 1 0), some (vR 8 2 0), some (vR 8 3 0), some (vR 8 6 0), some (vR 8 7 0), some (vR 8 8 0), some (vI (nI h)), some (vI (nI r)), some (vI md), none, some (vI x), some (vI (nI l)), some (vI rows), some (vI (nI own)), some (vI (nI k))]) (st2 := []) (m1 := (setA M b)) rfl ?_
      refine an_f (nI_pos (by omega)) ?_
      refine an_b 6 (pc2 := 360) (L2 := [some (vR 8 1 0), some (vR 8 2 0), some (vR 8 3 0), some (vR 8 6 0), some (vR 8 7 0), some (vR 8 8 0), some (vI (nI h)), some (vI (nI r)), some (vI md), none, some (vI x), some (vI (nI l)), some (vI rows), some (vI (nI own)), some (vI (nI k))]) (st2 := [vI (((5 : Int32) * (nI own)) + (nI k)), vR 8 2 0]) (m1 := (setA M b)) rfl ?_
      refine an_la 2 ((5 * own) + k) (by decide) (by show _ < 36; omega) (by simp only [ix_lit, pk_mul, nI_add]) rfl ?_
      refine an_b 4 (pc2 := if ¬ (nI w) = (nI l) then 378 else 369) (L2 := [some (vR 8 1 0), some (vR 8 2 0), some (vR 8 3 0), some (vR 8 6 0), some (vR 8 7 0), some (vR 8 8 0), some (vI (nI h)), some (vI (nI r)), some (vI md), none, some (vI x), some (vI (nI l)), some (vI rows), some (vI (nI own)), some (vI (nI k))]) (st2 := []) (m1 := (setA M b)) (by rw [show b 2 (5 * own + k) = nI (w + 8 * md2) from u6, ← rem8 w u1 md2 u3]; rfl) ?_
      by_cases ck : k = p
      · subst ck
        have ew : nI w = nI l := u4.symm.trans e3
        refine an_f (fun u => u ew) ?_
        refine an_b 4 (pc2 := 375) (L2 := [some (vR 8 1 0), some (vR 8 2 0), some (vR 8 3 0), some (vR 8 6 0), some (vR 8 7 0), some (vR 8 8 0), some (vI (nI h)), some (vI (nI r)), some (vI md), none, some (vI x), some (vI (nI l)), some (vI rows), some (vI (nI own)), some (vI (nI k))]) (st2 := [vI (nI k), vI (nI own), vR 8 3 0, vR 8 2 0]) (m1 := (setA M b)) rfl ?_
        refine an_call (r_leave (p := k) (n := n) ho g2 (by omega) hp) rfl rfl rfl rfl ?_
        refine an_b 2 (pc2 := 347) (L2 := [some (vR 8 1 0), some (vR 8 2 0), some (vR 8 3 0), some (vR 8 6 0), some (vR 8 7 0), some (vR 8 8 0), some (vI (nI h)), some (vI (nI r)), some (vI md), none, some (vI x), some (vI (nI l)), some (vI rows), some (vI (nI own)), some (vI ((nI k) + (-1 : Int32)))]) (st2 := []) (m1 := (setA M (lvK b own k n (n - 1)))) rfl ?_
        exact T2 rows x v m2 hk k (Nat.le_refl k)
      · have hne := uq k (by omega) ck w u4 u1
        refine an_t hne ?_
        refine an_b 2 (pc2 := 347) (L2 := [some (vR 8 1 0), some (vR 8 2 0), some (vR 8 3 0), some (vR 8 6 0), some (vR 8 7 0), some (vR 8 8 0), some (vI (nI h)), some (vI (nI r)), some (vI md), none, some (vI x), some (vI (nI l)), some (vI rows), some (vI (nI own)), some (vI ((nI k) + (-1 : Int32)))]) (st2 := []) (m1 := (setA M b)) rfl ?_
        exact ih (by omega) (by omega)
  obtain ⟨rows, k1, k2⟩ := R 6 0 0 rfl (fun i hi => by
    rw [bit_0]
    exact ⟨fun q => absurd q (by decide), fun q => by omega⟩)
  refine ⟨own, n, p, rows, ho, hn5, hp, hn, e1, e2, k1, fun x v m2 hk => ?_⟩
  have k3 := k2 x v m2 ?_
  · rw [zK_0] at k3
    refine an_b 3 (pc2 := 267) (L2 := [some (vR 8 1 0), some (vR 8 2 0), some (vR 8 3 0), some (vR 8 6 0), some (vR 8 7 0), some (vR 8 8 0), some (vI (nI h)), some (vI (nI r)), some (vI md), none, some (vI x), some (vI (nI l)), none, none, none]) (st2 := [vI (nI l), vR 8 6 0, vI (nI l), vR 8 6 0]) (m1 := (setA M a)) rfl ?_
    refine an_la 6 l (by decide) (by show _ < 5; omega) rfl rfl ?_
    refine an_b 2 (pc2 := 270) (L2 := [some (vR 8 1 0), some (vR 8 2 0), some (vR 8 3 0), some (vR 8 6 0), some (vR 8 7 0), some (vR 8 8 0), some (vI (nI h)), some (vI (nI r)), some (vI md), none, some (vI x), some (vI (nI l)), none, none, none]) (st2 := [vI ((a 6 l) + (1 : Int32)), vI (nI l), vR 8 6 0]) (m1 := (setA M a)) rfl ?_
    refine an_sa 6 l (by decide) (by show _ < 5; omega) rfl rfl ?_
    refine an_b 5 (pc2 := 278) (L2 := [some (vR 8 1 0), some (vR 8 2 0), some (vR 8 3 0), some (vR 8 6 0), some (vR 8 7 0), some (vR 8 8 0), some (vI (nI h)), some (vI (nI r)), some (vI md), none, some (vI x), some (vI (nI l)), some (vI (0 : Int32)), none, none]) (st2 := [vI (nI l), vR 8 3 0, vR 8 2 0]) (m1 := (setA M (up2 a 6 l ((a 6 l) + (1 : Int32))))) rfl ?_
    refine an_call (r_rowOf HS.2.1 (lq_a H.2.1 (up2_o a 6 l _ (by decide)) (up2_o a 6 l _ (by decide))) hl) rfl rfl rfl rfl ?_
    rw [e1]
    refine an_b 3 (pc2 := 286) (L2 := [some (vR 8 1 0), some (vR 8 2 0), some (vR 8 3 0), some (vR 8 6 0), some (vR 8 7 0), some (vR 8 8 0), some (vI (nI h)), some (vI (nI r)), some (vI md), none, some (vI x), some (vI (nI l)), some (vI (0 : Int32)), some (vI (nI own)), some (vI (0 : Int32))]) (st2 := []) (m1 := (setA M (up2 a 6 l ((a 6 l) + (1 : Int32))))) rfl ?_
    exact k3
  · refine an_b 2 (pc2 := 342) (L2 := [some (vR 8 1 0), some (vR 8 2 0), some (vR 8 3 0), some (vR 8 6 0), some (vR 8 7 0), some (vR 8 8 0), some (vI (nI h)), some (vI (nI r)), some (vI md), none, some (vI x), some (vI (nI l)), some (vI rows), some (vI (nI own)), none]) (st2 := [vI (nI own), vR 8 3 0]) (m1 := (setA M b)) rfl ?_
    refine an_la 3 own (by decide) (by show _ < 6; omega) rfl rfl ?_
    refine an_b 3 (pc2 := 347) (L2 := [some (vR 8 1 0), some (vR 8 2 0), some (vR 8 3 0), some (vR 8 6 0), some (vR 8 7 0), some (vR 8 8 0), some (vI (nI h)), some (vI (nI r)), some (vI md), none, some (vI x), some (vI (nI l)), some (vI rows), some (vI (nI own)), some (vI ((b 3 own) - (1 : Int32)))]) (st2 := []) (m1 := (setA M b)) rfl ?_
    have k4 := T1 rows x v m2 hk n hp (Nat.le_refl n)
    rw [← Int32.sub_eq_add_neg, ← g2] at k4
    exact k4
set_option maxRecDepth 100000 in
theorem it3 {rows R : Int32} {l own : Nat} (hb : ∀ i, i < 6 → (bit rows i = true ↔ bit R i = true)) : ∀ d j (a : Nat → Nat → Int32) (mm : PM), j + d = 6 → LA a (zz mm) s → ∃ a2, (∀ x : Int32, ∃ x2 : Int32, ∀ (v : OC) (m2 : PM), An ML_asks 171 [some (vR 8 1 0), some (vR 8 2 0), some (vR 8 3 0), some (vR 8 6 0), some (vR 8 7 0), some (vR 8 8 0), some (vI (nI h)), some (vI (nI r)), some (vI md), none, some (vI x2), none, none, none, none] [] (setA M a2) v m2 → An ML_asks 387 [some (vR 8 1 0), some (vR 8 2 0), some (vR 8 3 0), some (vR 8 6 0), some (vR 8 7 0), some (vR 8 8 0), some (vI (nI h)), some (vI (nI r)), some (vI md), none, some (vI x), some (vI (nI l)), some (vI rows), some (vI (nI own)), some (vI (nI j))] [] (setA M a) v m2) ∧ LA a2 (zz (lp (b_X5_lose_2 R) d j mm)) s := by
  intro d
  induction d with
  | zero =>
    intro j a mm hd H
    obtain rfl : j = 6 := by omega
    refine ⟨a, fun x => ⟨x, fun v m2 hk => ?_⟩, by rw [lp_0]; exact H⟩
    refine an_b 3 (pc2 := if (6 : Int32) ≤ (nI 6) then 426 else 394) (L2 := [some (vR 8 1 0), some (vR 8 2 0), some (vR 8 3 0), some (vR 8 6 0), some (vR 8 7 0), some (vR 8 8 0), some (vI (nI h)), some (vI (nI r)), some (vI md), none, some (vI x), some (vI (nI l)), some (vI rows), some (vI (nI own)), some (vI (nI 6))]) (st2 := []) (m1 := (setA M a)) rfl ?_
    refine an_t (nI_le (Nat.le_refl 6) (by omega)) ?_
    refine an_b 1 (pc2 := 171) (L2 := [some (vR 8 1 0), some (vR 8 2 0), some (vR 8 3 0), some (vR 8 6 0), some (vR 8 7 0), some (vR 8 8 0), some (vI (nI h)), some (vI (nI r)), some (vI md), none, some (vI x), some (vI (nI l)), some (vI rows), some (vI (nI own)), some (vI (nI 6))]) (st2 := []) (m1 := (setA M a)) rfl ?_
    exact an_weak (L := [some (vR 8 1 0), some (vR 8 2 0), some (vR 8 3 0), some (vR 8 6 0), some (vR 8 7 0), some (vR 8 8 0), some (vI (nI h)), some (vI (nI r)), some (vI md), none, some (vI x), none, none, none, none]) ⟨rfl, rfl, rfl, rfl, rfl, rfl, rfl, rfl, rfl, rfl, trivial⟩ hk
  | succ d ih =>
    intro j a mm hd H
    have hj : j < 6 := by omega
    rw [lp_s]
    by_cases cb : bit rows j = true
    · have e : b_X5_lose_2 R j mm = w_X5_settle mm j := by
        unfold b_X5_lose_2
        rw [if_neg (fun q => q ((bit_q1 (by omega)).mpr ((hb j hj).mp cb)))]
      rw [e]
      obtain ⟨a1, q1, q2⟩ := r_settle (M := M) H hj
      obtain ⟨a2, k1, k2⟩ := ih (j + 1) a1 _ (by omega) q2
      refine ⟨a2, fun x => ?_, k2⟩
      obtain ⟨x2, k3⟩ := k1 (x + v_X5_settle mm j)
      refine ⟨x2, fun v m2 hk => ?_⟩
      have k4 := k3 v m2 hk
      refine an_b 3 (pc2 := if (6 : Int32) ≤ (nI j) then 426 else 394) (L2 := [some (vR 8 1 0), some (vR 8 2 0), some (vR 8 3 0), some (vR 8 6 0), some (vR 8 7 0), some (vR 8 8 0), some (vI (nI h)), some (vI (nI r)), some (vI md), none, some (vI x), some (vI (nI l)), some (vI rows), some (vI (nI own)), some (vI (nI j))]) (st2 := []) (m1 := (setA M a)) rfl ?_
      refine an_f (nI_ge (b := 6) hj (by omega)) ?_
      refine an_b 7 (pc2 := if ¬ ((rows >>> ((nI j) &&& (31 : Int32))) &&& (1 : Int32)) = (1 : Int32) then 420 else 405) (L2 := [some (vR 8 1 0), some (vR 8 2 0), some (vR 8 3 0), some (vR 8 6 0), some (vR 8 7 0), some (vR 8 8 0), some (vI (nI h)), some (vI (nI r)), some (vI md), none, some (vI x), some (vI (nI l)), some (vI rows), some (vI (nI own)), some (vI (nI j))]) (st2 := []) (m1 := (setA M a)) rfl ?_
      refine an_f (fun q => q ((bit_q1 (show j < 32 by omega)).mpr cb)) ?_
      refine an_b 6 (pc2 := 414) (L2 := [some (vR 8 1 0), some (vR 8 2 0), some (vR 8 3 0), some (vR 8 6 0), some (vR 8 7 0), some (vR 8 8 0), some (vI (nI h)), some (vI (nI r)), some (vI md), none, some (vI x), some (vI (nI l)), some (vI rows), some (vI (nI own)), some (vI (nI j))]) (st2 := [vI (nI j), vR 8 7 0, vR 8 3 0, vR 8 2 0, vR 8 1 0, vI x]) (m1 := (setA M a)) rfl ?_
      refine an_call q1 rfl rfl rfl rfl ?_
      refine an_b 4 (pc2 := 387) (L2 := [some (vR 8 1 0), some (vR 8 2 0), some (vR 8 3 0), some (vR 8 6 0), some (vR 8 7 0), some (vR 8 8 0), some (vI (nI h)), some (vI (nI r)), some (vI md), none, some (vI (x + (v_X5_settle mm j))), some (vI (nI l)), some (vI rows), some (vI (nI own)), some (vI ((nI j) + (1 : Int32)))]) (st2 := []) (m1 := (setA M a1)) rfl ?_
      rw [nI_1]
      exact k4
    · have e : b_X5_lose_2 R j mm = mm := by
        unfold b_X5_lose_2
        rw [if_pos (fun q => cb ((hb j hj).mpr ((bit_q1 (by omega)).mp q)))]
      rw [e]
      obtain ⟨a2, k1, k2⟩ := ih (j + 1) a mm (by omega) H
      refine ⟨a2, fun x => ?_, k2⟩
      obtain ⟨x2, k3⟩ := k1 x
      refine ⟨x2, fun v m2 hk => ?_⟩
      have k4 := k3 v m2 hk
      refine an_b 3 (pc2 := if (6 : Int32) ≤ (nI j) then 426 else 394) (L2 := [some (vR 8 1 0), some (vR 8 2 0), some (vR 8 3 0), some (vR 8 6 0), some (vR 8 7 0), some (vR 8 8 0), some (vI (nI h)), some (vI (nI r)), some (vI md), none, some (vI x), some (vI (nI l)), some (vI rows), some (vI (nI own)), some (vI (nI j))]) (st2 := []) (m1 := (setA M a)) rfl ?_
      refine an_f (nI_ge (b := 6) hj (by omega)) ?_
      refine an_b 7 (pc2 := if ¬ ((rows >>> ((nI j) &&& (31 : Int32))) &&& (1 : Int32)) = (1 : Int32) then 420 else 405) (L2 := [some (vR 8 1 0), some (vR 8 2 0), some (vR 8 3 0), some (vR 8 6 0), some (vR 8 7 0), some (vR 8 8 0), some (vI (nI h)), some (vI (nI r)), some (vI md), none, some (vI x), some (vI (nI l)), some (vI rows), some (vI (nI own)), some (vI (nI j))]) (st2 := []) (m1 := (setA M a)) rfl ?_
      refine an_t (fun q => cb ((bit_q1 (show j < 32 by omega)).mp q)) ?_
      refine an_b 2 (pc2 := 387) (L2 := [some (vR 8 1 0), some (vR 8 2 0), some (vR 8 3 0), some (vR 8 6 0), some (vR 8 7 0), some (vR 8 8 0), some (vI (nI h)), some (vI (nI r)), some (vI md), none, some (vI x), some (vI (nI l)), some (vI rows), some (vI (nI own)), some (vI ((nI j) + (1 : Int32)))]) (st2 := []) (m1 := (setA M a)) rfl ?_
      rw [nI_1]
      exact k4
set_option maxRecDepth 100000 in
theorem ring_it (H : LA a (zz m) s) (HS : SA c (zz m)) (hh : h < 5) (hi : ¬ v_X5_isInRing m (nI h) = 0) : ∃ l, l < 5 ∧ v_X5_loserFor m (nI h) = nI l ∧ ∃ a2, (∀ x : Int32, ∃ x2 : Int32, ∀ (v : OC) (m2 : PM), An ML_asks 171 [some (vR 8 1 0), some (vR 8 2 0), some (vR 8 3 0), some (vR 8 6 0), some (vR 8 7 0), some (vR 8 8 0), some (vI (nI h)), some (vI (nI r)), some (vI md), none, some (vI x2), none, none, none, none] [] (setA M a2) v m2 → An ML_asks 171 [some (vR 8 1 0), some (vR 8 2 0), some (vR 8 3 0), some (vR 8 6 0), some (vR 8 7 0), some (vR 8 8 0), some (vI (nI h)), some (vI (nI r)), some (vI md), none, some (vI x), none, none, none, none] [] (setA M a) v m2) ∧ LA a2 (zz (w_X5_lose m l)) s ∧ ∃ c2, SA c2 (zz (w_X5_lose m l)) := by
  obtain ⟨l, hl, el, k1⟩ := it1 (M := M) (r := r) (md := md) H HS hh hi
  have hw := loser_w HS (show h < 8 by omega) (show l < 8 by omega) el
  obtain ⟨own, n, p, rows, ho, hn5, hp, hn, e1, e2, hr, k2⟩ := it2 (M := M) (h := h) (r := r) (md := md) H HS hl hw
  obtain ⟨z1, z2⟩ := lose_1w HS (show l < 8 by omega) (show own < 12 by omega) hn (by omega) hp e1 e2
  have e7 : a 6 l = zz m (337 + l) := (H.2.2.1 1 (by omega)).1 l hl
  have L3 : LA (lvK (zK (itA a l) l 6) own p n (n - 1)) (zz (lose_2 m l)) s := by
    have A1 := la_cnt H (k := 1) (by omega) hl (a 6 l + 1)
    have A2 := la_zK A1 hl
    have A3 := la_leave A2 ho (by rw [lzz_o _ (by omega), upd_o _ _ _ (by omega)]; exact hn) hn5 hp
    refine la_cong A3 (fun i hi => ?_)
    unfold lose_2
    rw [zz_wI, z1, zz_setz]
    show upd (uqz (lzz (zz m) l 12) own p n (n - 1)) (337 + l) (uqz (lzz (zz m) l 12) own p n (n - 1) (337 + l) + 1) i = _
    rw [uqz_lo _ (show own < 12 by omega) (by omega) (by omega), lzz_o _ (by omega), e7]
    by_cases q : i = 337 + l
    · rw [q, upd_s, uqz_lo _ (show own < 12 by omega) (by omega) (by omega), lzz_o _ (by omega)]
      exact (upd_s _ _ _).symm
    · rw [upd_o _ _ _ q]
      unfold uqz lzz upd
      (repeat' split) <;> first | rfl | (exfalso; omega)
  have hR : ∀ i, i < 6 → (bit rows i = true ↔ bit (lose_1 m l).1 i = true) := fun i hi => by
    rw [hr i hi, z2 i (by omega), decide_eq_true (show i < 12 by omega), Bool.true_and]
  obtain ⟨a2, k3, k4⟩ := it3 (M := M) (h := h) (r := r) (md := md) (l := l) (own := own) hR 6 0 _ _ rfl L3
  have e6 : w_X5_lose m l = lp (b_X5_lose_2 (lose_1 m l).1) 6 0 (lose_2 m l) := by
    unfold w_X5_lose
    rw [show (12 : Nat) = 6 + 6 from rfl, lp_add, lp_id _ 12 _ 6 (0 + 6) rfl (fun i g1 g2 => ?_)]
    unfold b_X5_lose_2
    rw [if_pos (fun q => ?_)]
    have := (bit_q1 (show i < 32 by omega)).mp q
    rw [z2 i (by omega), decide_eq_false (show ¬ i = own by omega), Bool.or_false] at this
    have hz : zz m (5 + 12 * l + i) = 0 := H.1.2 l i (by omega) g2 (Or.inr (by omega))
    unfold lkB at this
    rw [hz] at this
    revert this
    cases decide (i < 12) <;> decide
  rw [← e6] at k4
  refine ⟨l, hl, el, a2, fun x => ?_, k4, lose_sa HS (show h < 8 by omega) hi (show l < 8 by omega) el⟩
  obtain ⟨x2, k5⟩ := k3 x
  refine ⟨x2, fun v m2 hk => k1 x v m2 (k2 x v m2 ?_)⟩
  have k6 := k5 v m2 hk
  refine an_b 2 (pc2 := 387) (L2 := [some (vR 8 1 0), some (vR 8 2 0), some (vR 8 3 0), some (vR 8 6 0), some (vR 8 7 0), some (vR 8 8 0), some (vI (nI h)), some (vI (nI r)), some (vI md), none, some (vI x), some (vI (nI l)), some (vI rows), some (vI (nI own)), some (vI (0 : Int32))]) (st2 := []) (m1 := (setA M (lvK (zK (itA a l) l 6) own p n (n - 1)))) rfl ?_
  exact k6
set_option maxRecDepth 100000 in
theorem rn_ring (hh : h < 5) : ∀ (d : Nat) (a : Nat → Nat → Int32) (c : Nat → Nat → Int32) (m : PM), LA a (zz m) s → SA c (zz m) → v_X5_isInRing (ring h d m) (nI h) = 0 → ∃ a2, (∀ x : Int32, ∃ x2 : Int32, ∀ (v : OC) (m2 : PM), An ML_asks 429 [some (vR 8 1 0), some (vR 8 2 0), some (vR 8 3 0), some (vR 8 6 0), some (vR 8 7 0), some (vR 8 8 0), some (vI (nI h)), some (vI (nI r)), some (vI md), none, some (vI x2), none, none, none, none] [] (setA M a2) v m2 → An ML_asks 171 [some (vR 8 1 0), some (vR 8 2 0), some (vR 8 3 0), some (vR 8 6 0), some (vR 8 7 0), some (vR 8 8 0), some (vI (nI h)), some (vI (nI r)), some (vI md), none, some (vI x), none, none, none, none] [] (setA M a) v m2) ∧ LA a2 (zz (ring h d m)) s ∧ ∃ c2, SA c2 (zz (ring h d m)) := by
  intro d
  have fin : ∀ (a c : Nat → Nat → Int32) (m : PM), LA a (zz m) s → SA c (zz m) → v_X5_isInRing m (nI h) = 0 → ∀ (x : Int32) (v : OC) (m2 : PM), An ML_asks 429 [some (vR 8 1 0), some (vR 8 2 0), some (vR 8 3 0), some (vR 8 6 0), some (vR 8 7 0), some (vR 8 8 0), some (vI (nI h)), some (vI (nI r)), some (vI md), none, some (vI x), none, none, none, none] [] (setA M a) v m2 → An ML_asks 171 [some (vR 8 1 0), some (vR 8 2 0), some (vR 8 3 0), some (vR 8 6 0), some (vR 8 7 0), some (vR 8 8 0), some (vI (nI h)), some (vI (nI r)), some (vI md), none, some (vI x), none, none, none, none] [] (setA M a) v m2 := by
    intro a c m H HS hi x v m2 hk
    have hb := (inRing_bit m (show h < 8 by omega)).mp hi
    refine an_b 4 (pc2 := 176) (L2 := [some (vR 8 1 0), some (vR 8 2 0), some (vR 8 3 0), some (vR 8 6 0), some (vR 8 7 0), some (vR 8 8 0), some (vI (nI h)), some (vI (nI r)), some (vI md), none, some (vI x), none, none, none, none]) (st2 := [vI (nI h), vR 8 3 0, vR 8 2 0, vR 8 1 0]) (m1 := (setA M a)) rfl ?_
    refine an_call (r_over HS.2.1 H.2.1 H.1 hh) rfl rfl rfl rfl ?_
    refine an_b 6 (pc2 := if ¬ (((v_X5_waitsOver m (nI h)) >>> ((nI h) &&& (31 : Int32))) &&& (1 : Int32)) = (1 : Int32) then 429 else 188) (L2 := [some (vR 8 1 0), some (vR 8 2 0), some (vR 8 3 0), some (vR 8 6 0), some (vR 8 7 0), some (vR 8 8 0), some (vI (nI h)), some (vI (nI r)), some (vI md), none, some (vI x), none, none, none, none]) (st2 := []) (m1 := (setA M a)) rfl ?_
    refine an_t (fun q => hb ((bit_q1 (show h < 32 by omega)).mp q)) ?_
    exact hk
  induction d with
  | zero =>
    intro a c m H HS hi
    exact ⟨a, fun x => ⟨x, fin a c m H HS hi x⟩, H, c, HS⟩
  | succ d ih =>
    intro a c m H HS hi
    unfold ring at hi ⊢
    by_cases cr : v_X5_isInRing m (nI h) = 0
    · rw [if_pos cr] at hi ⊢
      exact ⟨a, fun x => ⟨x, fin a c m H HS cr x⟩, H, c, HS⟩
    · rw [if_neg cr] at hi ⊢
      obtain ⟨l, hl, el, a1, k1, k2, c1, k3⟩ := ring_it (M := M) (r := r) (md := md) H HS hh cr
      rw [el, nI_clamp (show l < 2 ^ 31 by omega)] at hi ⊢
      obtain ⟨a2, q1, q2, q3⟩ := ih a1 c1 _ k2 k3 hi
      refine ⟨a2, fun x => ?_, q2, q3⟩
      obtain ⟨x1, k4⟩ := k1 x
      obtain ⟨x2, k5⟩ := q1 x1
      exact ⟨x2, fun v m2 hk => k4 v m2 (k5 v m2 hk)⟩
end
end
section
/-! the law's asks -/
section
variable {M m : PM} {a : Nat → Nat → Int32} {s h r md : Nat} {c : Nat → Nat → Int32}
set_option maxRecDepth 100000 in
theorem mo_of {md : Nat} (h1 : 1 ≤ md) (h2 : md < 4) : MO (nI md) := by
  rcases (show md = 1 ∨ md = 2 ∨ md = 3 by omega) with rfl | rfl | rfl
  · exact Or.inl rfl
  · exact Or.inr (Or.inl rfl)
  · exact Or.inr (Or.inr rfl)
set_option maxRecDepth 100000 in
theorem ask_en (H : LA a (zz m) s) (hh : h < 5) (hr : r < 6) {n : Nat} (hn : zz m (125 + r) = nI n) (h5 : n < 5) (v : OC) (m2 : PM) (hk : ∀ pl y, pl = plz (zz m) r h n → An ML_asks 159 [some (vR 8 1 0), some (vR 8 2 0), some (vR 8 3 0), some (vR 8 6 0), some (vR 8 7 0), some (vR 8 8 0), some (vI (nI h)), some (vI (nI r)), some (vI (nI md)), some (vI (nI pl)), some (vI (nI y)), none, none, none, none] [] (setA M (enA a r pl n (nI (h + 8 * md)))) v m2) : An ML_asks 35 [some (vR 8 1 0), some (vR 8 2 0), some (vR 8 3 0), some (vR 8 6 0), some (vR 8 7 0), some (vR 8 8 0), some (vI (nI h)), some (vI (nI r)), some (vI (nI md)), none, none, none, none, none, none] [] (setA M a) v m2 := by
  obtain ⟨n2, n1, n3, n4, n5⟩ := H.2.1.1 r hr
  obtain rfl : n = n2 := (nI_eq (by omega) (by omega)).mp (hn.symm.trans n3)
  have hpl := plz_le (zz m) r h n
  have eL : a 1 (6 * h + r) = zz m (5 + 12 * h + r) := H.1.1 h r hh hr
  generalize epl : plz (zz m) r h n = pl at hpl hk
  -- the shift
  have K2 : ∀ d, pl + d ≤ n → An ML_asks 101 [some (vR 8 1 0), some (vR 8 2 0), some (vR 8 3 0), some (vR 8 6 0), some (vR 8 7 0), some (vR 8 8 0), some (vI (nI h)), some (vI (nI r)), some (vI (nI md)), some (vI (nI pl)), some (vI (nI (pl + d))), none, none, none, none] [] (setA M (enK a r n (pl + d))) v m2 := by
    intro d
    induction d with
    | zero =>
      intro _
      refine an_b 3 (pc2 := if (nI (pl + 0)) ≤ (nI pl) then 134 else 108) (L2 := [some (vR 8 1 0), some (vR 8 2 0), some (vR 8 3 0), some (vR 8 6 0), some (vR 8 7 0), some (vR 8 8 0), some (vI (nI h)), some (vI (nI r)), some (vI (nI md)), some (vI (nI pl)), some (vI (nI (pl + 0))), none, none, none, none]) (st2 := []) (m1 := (setA M (enK a r n pl))) rfl ?_
      refine an_t (nI_le (Nat.le_refl pl) (by omega)) ?_
      refine an_b 11 (pc2 := 150) (L2 := [some (vR 8 1 0), some (vR 8 2 0), some (vR 8 3 0), some (vR 8 6 0), some (vR 8 7 0), some (vR 8 8 0), some (vI (nI h)), some (vI (nI r)), some (vI (nI md)), some (vI (nI pl)), some (vI (nI (pl + 0))), none, none, none, none]) (st2 := [vI ((nI h) + ((8 : Int32) * (nI md))), vI (((5 : Int32) * (nI r)) + (nI pl)), vR 8 2 0]) (m1 := (setA M (enK a r n pl))) rfl ?_
      rw [show (nI h) + ((8 : Int32) * (nI md)) = nI (h + 8 * md) by simp only [ix_lit, pk_mul, nI_add]]
      refine an_sa 2 ((5 * r) + pl) (by decide) (by show _ < 36; omega) (by simp only [ix_lit, pk_mul, nI_add]) rfl ?_
      refine an_b 3 (pc2 := 155) (L2 := [some (vR 8 1 0), some (vR 8 2 0), some (vR 8 3 0), some (vR 8 6 0), some (vR 8 7 0), some (vR 8 8 0), some (vI (nI h)), some (vI (nI r)), some (vI (nI md)), some (vI (nI pl)), some (vI (nI (pl + 0))), none, none, none, none]) (st2 := [vI (nI r), vR 8 3 0, vI (nI r), vR 8 3 0]) (m1 := (setA M (up2 (enK a r n pl) 2 ((5 * r) + pl) (nI (h + 8 * md))))) rfl ?_
      refine an_la 3 r (by decide) (by show _ < 6; omega) rfl rfl ?_
      refine an_b 2 (pc2 := 158) (L2 := [some (vR 8 1 0), some (vR 8 2 0), some (vR 8 3 0), some (vR 8 6 0), some (vR 8 7 0), some (vR 8 8 0), some (vI (nI h)), some (vI (nI r)), some (vI (nI md)), some (vI (nI pl)), some (vI (nI (pl + 0))), none, none, none, none]) (st2 := [vI (((up2 (enK a r n pl) 2 ((5 * r) + pl) (nI (h + 8 * md))) 3 r) + (1 : Int32)), vI (nI r), vR 8 3 0]) (m1 := (setA M (up2 (enK a r n pl) 2 ((5 * r) + pl) (nI (h + 8 * md))))) rfl ?_
      rw [show up2 (enK a r n pl) 2 ((5 * r) + pl) (nI (h + 8 * md)) 3 r = nI n by rw [up2_o _ _ _ _ (by decide), enK_o _ _ _ _ (by decide)]; exact n4, nI_1]
      refine an_sa 3 r (by decide) (by show _ < 6; omega) rfl rfl ?_
      exact hk pl pl rfl
    | succ d ih =>
      intro hd
      refine an_b 3 (pc2 := if (nI (pl + d + 1)) ≤ (nI pl) then 134 else 108) (L2 := [some (vR 8 1 0), some (vR 8 2 0), some (vR 8 3 0), some (vR 8 6 0), some (vR 8 7 0), some (vR 8 8 0), some (vI (nI h)), some (vI (nI r)), some (vI (nI md)), some (vI (nI pl)), some (vI (nI (pl + d + 1))), none, none, none, none]) (st2 := []) (m1 := (setA M (enK a r n (pl + d + 1)))) rfl ?_
      refine an_f (nI_ge (a := pl) (b := pl + d + 1) (by omega) (by omega)) ?_
      refine an_b 14 (pc2 := 126) (L2 := [some (vR 8 1 0), some (vR 8 2 0), some (vR 8 3 0), some (vR 8 6 0), some (vR 8 7 0), some (vR 8 8 0), some (vI (nI h)), some (vI (nI r)), some (vI (nI md)), some (vI (nI pl)), some (vI (nI (pl + d + 1))), none, none, none, none]) (st2 := [vI ((((5 : Int32) * (nI r)) + (nI (pl + d + 1))) - (1 : Int32)), vR 8 2 0, vI (((5 : Int32) * (nI r)) + (nI (pl + d + 1))), vR 8 2 0]) (m1 := (setA M (enK a r n (pl + d + 1)))) rfl ?_
      refine an_la 2 (5 * r + (pl + d)) (by decide) (by show _ < 36; omega) (by simp only [ix_lit, pk_mul, nI_add]; exact nI_pred (5 * r + (pl + d))) rfl ?_
      rw [enK_x a (show 5 * r + (pl + d) ≤ 5 * r + (pl + d + 1) by omega)]
      refine an_sa 2 ((5 * r) + (pl + d + 1)) (by decide) (by show _ < 36; omega) (by simp only [ix_lit, pk_mul, nI_add]) rfl ?_
      rw [enK_s a (show pl + d < n by omega)]
      refine an_b 2 (pc2 := 101) (L2 := [some (vR 8 1 0), some (vR 8 2 0), some (vR 8 3 0), some (vR 8 6 0), some (vR 8 7 0), some (vR 8 8 0), some (vI (nI h)), some (vI (nI r)), some (vI (nI md)), some (vI (nI pl)), some (vI ((nI (pl + d + 1)) + (-1 : Int32))), none, none, none, none]) (st2 := []) (m1 := (setA M (enK a r n (pl + d)))) rfl ?_
      rw [show nI (pl + d + 1) + (-1 : Int32) = nI (pl + d) by rw [← Int32.sub_eq_add_neg]; exact nI_pred (pl + d)]
      exact ih (by omega)
  have K1 : An ML_asks 95 [some (vR 8 1 0), some (vR 8 2 0), some (vR 8 3 0), some (vR 8 6 0), some (vR 8 7 0), some (vR 8 8 0), some (vI (nI h)), some (vI (nI r)), some (vI (nI md)), some (vI (nI pl)), none, none, none, none, none] [] (setA M a) v m2 := by
    refine an_b 2 (pc2 := 98) (L2 := [some (vR 8 1 0), some (vR 8 2 0), some (vR 8 3 0), some (vR 8 6 0), some (vR 8 7 0), some (vR 8 8 0), some (vI (nI h)), some (vI (nI r)), some (vI (nI md)), some (vI (nI pl)), none, none, none, none, none]) (st2 := [vI (nI r), vR 8 3 0]) (m1 := (setA M a)) rfl ?_
    refine an_la 3 r (by decide) (by show _ < 6; omega) rfl rfl ?_
    rw [n4]
    refine an_b 1 (pc2 := 101) (L2 := [some (vR 8 1 0), some (vR 8 2 0), some (vR 8 3 0), some (vR 8 6 0), some (vR 8 7 0), some (vR 8 8 0), some (vI (nI h)), some (vI (nI r)), some (vI (nI md)), some (vI (nI pl)), some (vI (nI n)), none, none, none, none]) (st2 := []) (m1 := (setA M a)) rfl ?_
    have k := K2 (n - pl) (by omega)
    rw [show pl + (n - pl) = n by omega, enK_n] at k
    exact k
  refine an_b 2 (pc2 := 38) (L2 := [some (vR 8 1 0), some (vR 8 2 0), some (vR 8 3 0), some (vR 8 6 0), some (vR 8 7 0), some (vR 8 8 0), some (vI (nI h)), some (vI (nI r)), some (vI (nI md)), none, none, none, none, none, none]) (st2 := [vI (nI r), vR 8 3 0]) (m1 := (setA M a)) rfl ?_
  refine an_la 3 r (by decide) (by show _ < 6; omega) rfl rfl ?_
  rw [n4]
  refine an_b 7 (pc2 := 50) (L2 := [some (vR 8 1 0), some (vR 8 2 0), some (vR 8 3 0), some (vR 8 6 0), some (vR 8 7 0), some (vR 8 8 0), some (vI (nI h)), some (vI (nI r)), some (vI (nI md)), some (vI (nI n)), none, none, none, none, none]) (st2 := [vI (((6 : Int32) * (nI h)) + (nI r)), vR 8 1 0]) (m1 := (setA M a)) rfl ?_
  refine an_la 1 ((6 * h) + r) (by decide) (by show _ < 30; omega) (by simp only [ix_lit, pk_mul, nI_add]) rfl ?_
  refine an_b 1 (pc2 := if (zz m (5 + 12 * h + r)) ≤ 0 then 95 else 54) (L2 := [some (vR 8 1 0), some (vR 8 2 0), some (vR 8 3 0), some (vR 8 6 0), some (vR 8 7 0), some (vR 8 8 0), some (vI (nI h)), some (vI (nI r)), some (vI (nI md)), some (vI (nI n)), none, none, none, none, none]) (st2 := []) (m1 := (setA M a)) (by rw [← eL]; rfl) ?_
  unfold plz at epl
  by_cases c0 : zz m (5 + 12 * h + r) ≤ 0
  · rw [if_pos c0] at epl
    subst epl
    refine an_t c0 ?_
    exact K1
  · rw [if_neg c0] at epl
    refine an_f c0 ?_
    refine an_b 2 (pc2 := 57) (L2 := [some (vR 8 1 0), some (vR 8 2 0), some (vR 8 3 0), some (vR 8 6 0), some (vR 8 7 0), some (vR 8 8 0), some (vI (nI h)), some (vI (nI r)), some (vI (nI md)), some (vI (0 : Int32)), none, none, none, none, none]) (st2 := []) (m1 := (setA M a)) rfl ?_
    suffices K : ∀ d p, p + d = n → hpz (zz m) r d p = pl → An ML_asks 57 [some (vR 8 1 0), some (vR 8 2 0), some (vR 8 3 0), some (vR 8 6 0), some (vR 8 7 0), some (vR 8 8 0), some (vI (nI h)), some (vI (nI r)), some (vI (nI md)), some (vI (nI p)), none, none, none, none, none] [] (setA M a) v m2 from K n 0 (Nat.zero_add n) epl
    intro d
    induction d with
    | zero =>
      intro p hp e
      unfold hpz at e
      obtain rfl : p = n := by omega
      subst e
      refine an_b 3 (pc2 := 62) (L2 := [some (vR 8 1 0), some (vR 8 2 0), some (vR 8 3 0), some (vR 8 6 0), some (vR 8 7 0), some (vR 8 8 0), some (vI (nI h)), some (vI (nI r)), some (vI (nI md)), some (vI (nI p)), none, none, none, none, none]) (st2 := [vI (nI r), vR 8 3 0, vI (nI p)]) (m1 := (setA M a)) rfl ?_
      refine an_la 3 r (by decide) (by show _ < 6; omega) rfl rfl ?_
      refine an_b 1 (pc2 := if (nI p) ≤ (nI p) then 95 else 66) (L2 := [some (vR 8 1 0), some (vR 8 2 0), some (vR 8 3 0), some (vR 8 6 0), some (vR 8 7 0), some (vR 8 8 0), some (vI (nI h)), some (vI (nI r)), some (vI (nI md)), some (vI (nI p)), none, none, none, none, none]) (st2 := []) (m1 := (setA M a)) (by rw [n4]; rfl) ?_
      refine an_t (nI_le (Nat.le_refl p) (by omega)) ?_
      exact K1
    | succ d ih =>
      intro p hp e
      obtain ⟨w, md2, u1, u2, u3, u4, u5, u6⟩ := n5 p (by omega)
      have er : a 2 (5 * r + p) - a 2 (5 * r + p) / 8 * 8 = nI w := by rw [u6]; exact rem8 w u1 md2 u3
      have el : a 1 (6 * w + r) = zz m (5 + 12 * w + r) := H.1.1 w r u1 hr
      unfold hpz at e
      rw [u4, nI_clamp (show w < 2 ^ 31 by omega)] at e
      refine an_b 3 (pc2 := 62) (L2 := [some (vR 8 1 0), some (vR 8 2 0), some (vR 8 3 0), some (vR 8 6 0), some (vR 8 7 0), some (vR 8 8 0), some (vI (nI h)), some (vI (nI r)), some (vI (nI md)), some (vI (nI p)), none, none, none, none, none]) (st2 := [vI (nI r), vR 8 3 0, vI (nI p)]) (m1 := (setA M a)) rfl ?_
      refine an_la 3 r (by decide) (by show _ < 6; omega) rfl rfl ?_
      refine an_b 1 (pc2 := if (nI n) ≤ (nI p) then 95 else 66) (L2 := [some (vR 8 1 0), some (vR 8 2 0), some (vR 8 3 0), some (vR 8 6 0), some (vR 8 7 0), some (vR 8 8 0), some (vI (nI h)), some (vI (nI r)), some (vI (nI md)), some (vI (nI p)), none, none, none, none, none]) (st2 := []) (m1 := (setA M a)) (by rw [n4]; rfl) ?_
      refine an_f (nI_ge (by omega) (by omega)) ?_
      refine an_b 8 (pc2 := 77) (L2 := [some (vR 8 1 0), some (vR 8 2 0), some (vR 8 3 0), some (vR 8 6 0), some (vR 8 7 0), some (vR 8 8 0), some (vI (nI h)), some (vI (nI r)), some (vI (nI md)), some (vI (nI p)), none, none, none, none, none]) (st2 := [vI (((5 : Int32) * (nI r)) + (nI p)), vR 8 2 0, vI (6 : Int32), vR 8 1 0]) (m1 := (setA M a)) rfl ?_
      refine an_la 2 ((5 * r) + p) (by decide) (by show _ < 36; omega) (by simp only [ix_lit, pk_mul, nI_add]) rfl ?_
      refine an_b 2 (pc2 := 81) (L2 := [some (vR 8 1 0), some (vR 8 2 0), some (vR 8 3 0), some (vR 8 6 0), some (vR 8 7 0), some (vR 8 8 0), some (vI (nI h)), some (vI (nI r)), some (vI (nI md)), some (vI (nI p)), none, none, none, none, none]) (st2 := [vI ((a 2 ((5 * r) + p)) - (a 2 ((5 * r) + p)) / (8 : Int32) * (8 : Int32)), vI (6 : Int32), vR 8 1 0]) (m1 := (setA M a)) rfl ?_
      rw [er]
      refine an_b 3 (pc2 := 85) (L2 := [some (vR 8 1 0), some (vR 8 2 0), some (vR 8 3 0), some (vR 8 6 0), some (vR 8 7 0), some (vR 8 8 0), some (vI (nI h)), some (vI (nI r)), some (vI (nI md)), some (vI (nI p)), none, none, none, none, none]) (st2 := [vI (((6 : Int32) * (nI w)) + (nI r)), vR 8 1 0]) (m1 := (setA M a)) rfl ?_
      refine an_la 1 ((6 * w) + r) (by decide) (by show _ < 30; omega) (by simp only [ix_lit, pk_mul, nI_add]) rfl ?_
      refine an_b 1 (pc2 := if (zz m (5 + 12 * w + r)) ≤ 0 then 95 else 89) (L2 := [some (vR 8 1 0), some (vR 8 2 0), some (vR 8 3 0), some (vR 8 6 0), some (vR 8 7 0), some (vR 8 8 0), some (vI (nI h)), some (vI (nI r)), some (vI (nI md)), some (vI (nI p)), none, none, none, none, none]) (st2 := []) (m1 := (setA M a)) (by rw [← el]; rfl) ?_
      by_cases c1 : zz m (5 + 12 * w + r) ≤ 0
      · rw [if_pos c1] at e
        subst e
        refine an_t c1 ?_
        exact K1
      · rw [if_neg c1] at e
        refine an_f c1 ?_
        refine an_b 2 (pc2 := 57) (L2 := [some (vR 8 1 0), some (vR 8 2 0), some (vR 8 3 0), some (vR 8 6 0), some (vR 8 7 0), some (vR 8 8 0), some (vI (nI h)), some (vI (nI r)), some (vI (nI md)), some (vI ((nI p) + (1 : Int32))), none, none, none, none, none]) (st2 := []) (m1 := (setA M a)) rfl ?_
        rw [nI_1]
        exact ih (p + 1) (by omega) e
set_option maxRecDepth 100000 in
theorem r_asks (H : LA a (zz m) s) (HS : SA c (zz m)) (hh : h < 5) (hr : r < 6) (g1 : 1 ≤ md) (g2 : md < 4) (hw : c 1 h = -1) : ∃ a2, Rn ML_asks [vR 8 1 0, vR 8 2 0, vR 8 3 0, vR 8 6 0, vR 8 7 0, vR 8 8 0, vI (nI h), vI (nI r), vI (nI md)] (setA M a) (some (vI (v_X5_asks m h r (nI md)))) (setA M a2) ∧ LA a2 (zz (w_X5_asks m h r (nI md))) s := by
  obtain ⟨⟨c1, S1, hw1⟩, ⟨c3, S3⟩, he⟩ := ask_sa HS (show h < 8 by omega) (show r < 12 by omega) (mo_of g1 g2) hw
  have e8 : a 8 h = zz m (353 + h) := (H.2.2.1 3 (by omega)).1 h hh
  have A1 : LA (up2 a 8 h (a 8 h + 1)) (zz (askA m h)) s := by
    have k := la_cnt H (k := 3) (by omega) hh (a 8 h + 1)
    unfold askA
    rw [zz_wI]
    rw [show m.1 8 0 0 (353 + h) = a 8 h from e8.symm]
    exact k
  have eL : (up2 a 8 h (a 8 h + 1)) 1 (6 * h + r) = v_X5_lockOf (askA m h) h r := A1.1.1 h r hh hr
  unfold v_X5_asks w_X5_asks
  by_cases c0 : v_X5_lockOf (askA m h) h r < nI md
  · rw [if_pos c0, if_pos c0]
    obtain ⟨n, n1, n2, _⟩ := A1.2.1.1 r hr
    have n5 := row_5 S1.2.1 A1.2.1 hh hr n2 n1 hw1
    have eq : qn (askA m h) r = n := by
      unfold qn
      rw [n2]; exact nI_clamp (by omega)
    have A2 : LA (enA (up2 a 8 h (a 8 h + 1)) r (plz (zz (askA m h)) r h n) n (nI (h + 8 * md))) (zz (w_X5_enqueue (askA m h) r h (nI md))) s := by
      unfold w_X5_enqueue
      rw [zz_setz, eq]
      exact la_enq A1 hh hr n2 n5 (plz_le _ _ _ _) g1 g2
    obtain ⟨a3, k1, A3⟩ := r_settle (M := M) A2 hr
    have A3 : LA a3 (zz (askC m h r (nI md))) s := A3
    obtain ⟨a4, k2, A4, c4, S4⟩ := rn_ring (M := M) (s := s) (h := h) (r := r) (md := nI md) hh 8 a3 c3 _ A3 S3 he
    have A4 : LA a4 (zz (askR m h r (nI md))) s := A4
    have S4 : SA c4 (zz (askR m h r (nI md))) := S4
    refine ⟨a4, ?_, A4⟩
    refine rn_of [some (vR 8 1 0), some (vR 8 2 0), some (vR 8 3 0), some (vR 8 6 0), some (vR 8 7 0), some (vR 8 8 0), some (vI (nI h)), some (vI (nI r)), some (vI (nI md)), none, none, none, none, none, none] rfl ?_
    refine an_b 3 (pc2 := 5) (L2 := [some (vR 8 1 0), some (vR 8 2 0), some (vR 8 3 0), some (vR 8 6 0), some (vR 8 7 0), some (vR 8 8 0), some (vI (nI h)), some (vI (nI r)), some (vI (nI md)), none, none, none, none, none, none]) (st2 := [vI (nI h), vR 8 8 0, vI (nI h), vR 8 8 0]) (m1 := (setA M a)) rfl ?_
    refine an_la 8 h (by decide) (by show _ < 5; omega) rfl rfl ?_
    refine an_b 2 (pc2 := 8) (L2 := [some (vR 8 1 0), some (vR 8 2 0), some (vR 8 3 0), some (vR 8 6 0), some (vR 8 7 0), some (vR 8 8 0), some (vI (nI h)), some (vI (nI r)), some (vI (nI md)), none, none, none, none, none, none]) (st2 := [vI ((a 8 h) + (1 : Int32)), vI (nI h), vR 8 8 0]) (m1 := (setA M a)) rfl ?_
    refine an_sa 8 h (by decide) (by show _ < 5; omega) rfl rfl ?_
    refine an_b 6 (pc2 := 18) (L2 := [some (vR 8 1 0), some (vR 8 2 0), some (vR 8 3 0), some (vR 8 6 0), some (vR 8 7 0), some (vR 8 8 0), some (vI (nI h)), some (vI (nI r)), some (vI (nI md)), none, none, none, none, none, none]) (st2 := [vI (((6 : Int32) * (nI h)) + (nI r)), vR 8 1 0]) (m1 := (setA M (up2 a 8 h ((a 8 h) + (1 : Int32))))) rfl ?_
    refine an_la 1 ((6 * h) + r) (by decide) (by show _ < 30; omega) (by simp only [ix_lit, pk_mul, nI_add]) rfl ?_
    refine an_b 2 (pc2 := if (v_X5_lockOf (askA m h) h r) < (nI md) then 35 else 24) (L2 := [some (vR 8 1 0), some (vR 8 2 0), some (vR 8 3 0), some (vR 8 6 0), some (vR 8 7 0), some (vR 8 8 0), some (vI (nI h)), some (vI (nI r)), some (vI (nI md)), none, none, none, none, none, none]) (st2 := []) (m1 := (setA M (up2 a 8 h ((a 8 h) + (1 : Int32))))) (by rw [← eL]; rfl) ?_
    refine an_t c0 ?_
    refine ask_en A1 hh hr n2 n5 _ _ (fun pl y ep => ?_)
    subst ep
    refine an_b 5 (pc2 := 166) (L2 := [some (vR 8 1 0), some (vR 8 2 0), some (vR 8 3 0), some (vR 8 6 0), some (vR 8 7 0), some (vR 8 8 0), some (vI (nI h)), some (vI (nI r)), some (vI (nI md)), some (vI (nI (plz (zz (askA m h)) r h n))), some (vI (nI y)), none, none, none, none]) (st2 := [vI (nI r), vR 8 7 0, vR 8 3 0, vR 8 2 0, vR 8 1 0]) (m1 := (setA M (enA (up2 a 8 h (a 8 h + 1)) r (plz (zz (askA m h)) r h n) n (nI (h + 8 * md))))) rfl ?_
    refine an_call k1 rfl rfl rfl rfl ?_
    refine an_b 1 (pc2 := 171) (L2 := [some (vR 8 1 0), some (vR 8 2 0), some (vR 8 3 0), some (vR 8 6 0), some (vR 8 7 0), some (vR 8 8 0), some (vI (nI h)), some (vI (nI r)), some (vI (nI md)), some (vI (nI (plz (zz (askA m h)) r h n))), some (vI (v_X5_settle (w_X5_enqueue (askA m h) r h (nI md)) r)), none, none, none, none]) (st2 := []) (m1 := (setA M a3)) rfl ?_
    obtain ⟨x2, k3⟩ := k2 (v_X5_settle (w_X5_enqueue (askA m h) r h (nI md)) r)
    refine an_weak (L := [some (vR 8 1 0), some (vR 8 2 0), some (vR 8 3 0), some (vR 8 6 0), some (vR 8 7 0), some (vR 8 8 0), some (vI (nI h)), some (vI (nI r)), some (vI (nI md)), none, some (vI (v_X5_settle (w_X5_enqueue (askA m h) r h (nI md)) r)), none, none, none, none]) ⟨rfl, rfl, rfl, rfl, rfl, rfl, rfl, rfl, rfl, rfl, trivial⟩ (k3 _ _ ?_)
    have e4 : a4 1 (6 * h + r) = v_X5_lockOf (askR m h r (nI md)) h r := A4.1.1 h r hh hr
    have eW := wait_c S4 (show h < 8 by omega)
    refine an_b 6 (pc2 := 438) (L2 := [some (vR 8 1 0), some (vR 8 2 0), some (vR 8 3 0), some (vR 8 6 0), some (vR 8 7 0), some (vR 8 8 0), some (vI (nI h)), some (vI (nI r)), some (vI (nI md)), none, some (vI x2), none, none, none, none]) (st2 := [vI (((6 : Int32) * (nI h)) + (nI r)), vR 8 1 0]) (m1 := (setA M a4)) rfl ?_
    refine an_la 1 ((6 * h) + r) (by decide) (by show _ < 30; omega) (by simp only [ix_lit, pk_mul, nI_add]) rfl ?_
    refine an_b 2 (pc2 := if (v_X5_lockOf (askR m h r (nI md)) h r) < (nI md) then 448 else 444) (L2 := [some (vR 8 1 0), some (vR 8 2 0), some (vR 8 3 0), some (vR 8 6 0), some (vR 8 7 0), some (vR 8 8 0), some (vI (nI h)), some (vI (nI r)), some (vI (nI md)), none, some (vI x2), none, none, none, none]) (st2 := []) (m1 := (setA M a4)) (by rw [← e4]; rfl) ?_
    by_cases c5 : v_X5_lockOf (askR m h r (nI md)) h r < nI md
    · refine an_t c5 ?_
      rw [if_pos c5]
      refine an_b 3 (pc2 := 452) (L2 := [some (vR 8 1 0), some (vR 8 2 0), some (vR 8 3 0), some (vR 8 6 0), some (vR 8 7 0), some (vR 8 8 0), some (vI (nI h)), some (vI (nI r)), some (vI (nI md)), none, some (vI x2), none, none, none, none]) (st2 := [vI (nI h), vR 8 3 0, vR 8 2 0]) (m1 := (setA M a4)) rfl ?_
      refine an_call (r_rowOf S4.2.1 A4.2.1 hh) rfl rfl rfl rfl ?_
      refine an_b 1 (pc2 := if (c4 1 h) < 0 then 462 else 458) (L2 := [some (vR 8 1 0), some (vR 8 2 0), some (vR 8 3 0), some (vR 8 6 0), some (vR 8 7 0), some (vR 8 8 0), some (vI (nI h)), some (vI (nI r)), some (vI (nI md)), none, some (vI x2), none, none, none, none]) (st2 := []) (m1 := (setA M a4)) rfl ?_
      by_cases c6 : v_X5_waits (askR m h r (nI md)) (nI h) = 0
      · rw [if_pos c6]
        rw [eW.mp c6]
        refine an_t (by decide) ?_
        refine an_b 1 (pc2 := 463) (L2 := [some (vR 8 1 0), some (vR 8 2 0), some (vR 8 3 0), some (vR 8 6 0), some (vR 8 7 0), some (vR 8 8 0), some (vI (nI h)), some (vI (nI r)), some (vI (nI md)), none, some (vI x2), none, none, none, none]) (st2 := [vI (2 : Int32)]) (m1 := (setA M a4)) rfl ?_
        exact an_ret rfl rfl rfl rfl rfl
      · rw [if_neg c6]
        have hn4 : ¬ c4 1 h < 0 := by
          rcases rq_n S4.2.1 A4.2.1 (h := h) (by omega) with e | ⟨r2, _, _, x1, _, _, _, _, x6, _⟩
          · exact absurd (eW.mpr e) c6
          · rw [x6]; exact nI_pos (by omega)
        refine an_f hn4 ?_
        refine an_b 2 (pc2 := 463) (L2 := [some (vR 8 1 0), some (vR 8 2 0), some (vR 8 3 0), some (vR 8 6 0), some (vR 8 7 0), some (vR 8 8 0), some (vI (nI h)), some (vI (nI r)), some (vI (nI md)), none, some (vI x2), none, none, none, none]) (st2 := [vI (1 : Int32)]) (m1 := (setA M a4)) rfl ?_
        exact an_ret rfl rfl rfl rfl rfl
    · refine an_f c5 ?_
      rw [if_neg c5]
      refine an_b 2 (pc2 := 463) (L2 := [some (vR 8 1 0), some (vR 8 2 0), some (vR 8 3 0), some (vR 8 6 0), some (vR 8 7 0), some (vR 8 8 0), some (vI (nI h)), some (vI (nI r)), some (vI (nI md)), none, some (vI x2), none, none, none, none]) (st2 := [vI (0 : Int32)]) (m1 := (setA M a4)) rfl ?_
      exact an_ret rfl rfl rfl rfl rfl
  · rw [if_neg c0, if_neg c0]
    have A2 : LA (up2 (up2 a 8 h (a 8 h + 1)) 7 h (a 7 h + 1)) (zz (wI (askA m h) 8 0 0 (345 + h) ((askA m h).1 8 0 0 (345 + h) + 1))) s := by
      have e7 : (up2 a 8 h (a 8 h + 1)) 7 h = zz (askA m h) (345 + h) := (A1.2.2.1 2 (by omega)).1 h hh
      rw [up2_o _ _ _ _ (by decide)] at e7
      rw [zz_wI, show (askA m h).1 8 0 0 (345 + h) = a 7 h from e7.symm]
      exact la_cnt A1 (k := 2) (by omega) hh (a 7 h + 1)
    refine ⟨_, ?_, A2⟩
    refine rn_of [some (vR 8 1 0), some (vR 8 2 0), some (vR 8 3 0), some (vR 8 6 0), some (vR 8 7 0), some (vR 8 8 0), some (vI (nI h)), some (vI (nI r)), some (vI (nI md)), none, none, none, none, none, none] rfl ?_
    refine an_b 3 (pc2 := 5) (L2 := [some (vR 8 1 0), some (vR 8 2 0), some (vR 8 3 0), some (vR 8 6 0), some (vR 8 7 0), some (vR 8 8 0), some (vI (nI h)), some (vI (nI r)), some (vI (nI md)), none, none, none, none, none, none]) (st2 := [vI (nI h), vR 8 8 0, vI (nI h), vR 8 8 0]) (m1 := (setA M a)) rfl ?_
    refine an_la 8 h (by decide) (by show _ < 5; omega) rfl rfl ?_
    refine an_b 2 (pc2 := 8) (L2 := [some (vR 8 1 0), some (vR 8 2 0), some (vR 8 3 0), some (vR 8 6 0), some (vR 8 7 0), some (vR 8 8 0), some (vI (nI h)), some (vI (nI r)), some (vI (nI md)), none, none, none, none, none, none]) (st2 := [vI ((a 8 h) + (1 : Int32)), vI (nI h), vR 8 8 0]) (m1 := (setA M a)) rfl ?_
    refine an_sa 8 h (by decide) (by show _ < 5; omega) rfl rfl ?_
    refine an_b 6 (pc2 := 18) (L2 := [some (vR 8 1 0), some (vR 8 2 0), some (vR 8 3 0), some (vR 8 6 0), some (vR 8 7 0), some (vR 8 8 0), some (vI (nI h)), some (vI (nI r)), some (vI (nI md)), none, none, none, none, none, none]) (st2 := [vI (((6 : Int32) * (nI h)) + (nI r)), vR 8 1 0]) (m1 := (setA M (up2 a 8 h ((a 8 h) + (1 : Int32))))) rfl ?_
    refine an_la 1 ((6 * h) + r) (by decide) (by show _ < 30; omega) (by simp only [ix_lit, pk_mul, nI_add]) rfl ?_
    refine an_b 2 (pc2 := if (v_X5_lockOf (askA m h) h r) < (nI md) then 35 else 24) (L2 := [some (vR 8 1 0), some (vR 8 2 0), some (vR 8 3 0), some (vR 8 6 0), some (vR 8 7 0), some (vR 8 8 0), some (vI (nI h)), some (vI (nI r)), some (vI (nI md)), none, none, none, none, none, none]) (st2 := []) (m1 := (setA M (up2 a 8 h ((a 8 h) + (1 : Int32))))) (by rw [← eL]; rfl) ?_
    refine an_f c0 ?_
    refine an_b 3 (pc2 := 29) (L2 := [some (vR 8 1 0), some (vR 8 2 0), some (vR 8 3 0), some (vR 8 6 0), some (vR 8 7 0), some (vR 8 8 0), some (vI (nI h)), some (vI (nI r)), some (vI (nI md)), none, none, none, none, none, none]) (st2 := [vI (nI h), vR 8 7 0, vI (nI h), vR 8 7 0]) (m1 := (setA M (up2 a 8 h ((a 8 h) + (1 : Int32))))) rfl ?_
    refine an_la 7 h (by decide) (by show _ < 5; omega) rfl rfl ?_
    refine an_b 2 (pc2 := 32) (L2 := [some (vR 8 1 0), some (vR 8 2 0), some (vR 8 3 0), some (vR 8 6 0), some (vR 8 7 0), some (vR 8 8 0), some (vI (nI h)), some (vI (nI r)), some (vI (nI md)), none, none, none, none, none, none]) (st2 := [vI (((up2 a 8 h ((a 8 h) + (1 : Int32))) 7 h) + (1 : Int32)), vI (nI h), vR 8 7 0]) (m1 := (setA M (up2 a 8 h ((a 8 h) + (1 : Int32))))) rfl ?_
    rw [up2_o a 8 h _ (show ¬ 7 = 8 by decide)]
    refine an_sa 7 h (by decide) (by show _ < 5; omega) rfl rfl ?_
    refine an_b 1 (pc2 := 34) (L2 := [some (vR 8 1 0), some (vR 8 2 0), some (vR 8 3 0), some (vR 8 6 0), some (vR 8 7 0), some (vR 8 8 0), some (vI (nI h)), some (vI (nI r)), some (vI (nI md)), none, none, none, none, none, none]) (st2 := [vI (0 : Int32)]) (m1 := (setA M (up2 (up2 a 8 h ((a 8 h) + (1 : Int32))) 7 h ((a 7 h) + (1 : Int32))))) rfl ?_
    exact an_ret rfl rfl rfl rfl rfl
end
end
