section
/-! ===== BEGIN words of one list among another's, by their places ===== -/
theorem goodIn_r {big : List Cond} (ws : List Cond) (ps : List Nat) (hp : ws = ps.filterMap (fun i => big[i]?)) (h : ws.all goodWord = true) : GoodIn big ws := by
  intro w hw
  have h1 := List.all_eq_true.mp h w hw
  rw [hp] at hw
  obtain ⟨i, -, hi⟩ := List.mem_filterMap.mp hw
  have hm : w ∈ big := by first | exact List.mem_of_getElem? hi | exact List.getElem?_mem hi
  exact ⟨hm, good_of_word h1⟩
theorem goodIn_app {big a b : List Cond} (ha : GoodIn big a) (hb : GoodIn big b) : GoodIn big (a ++ b) := fun w h => (List.mem_append.mp h).elim (ha w) (hb w)
theorem goodIn_ca {big a b : List Cond} {c : Cond} (ha : GoodIn big (c :: a)) (hb : GoodIn big b) : GoodIn big (c :: (a ++ b)) := fun w h => (List.mem_cons.mp h).elim (fun e => ha w (List.mem_cons.mpr (Or.inl e))) (fun h => (List.mem_append.mp h).elim (fun h => ha w (List.mem_cons.mpr (Or.inr h))) (hb w))
theorem goodIn_sub {big ws : List Cond} (hm : ∀ w ∈ ws, w ∈ big) (h : ws.all goodWord = true) : GoodIn big ws := fun w hw => ⟨hm w hw, good_of_word (List.all_eq_true.mp h w hw)⟩
/-! ===== END ===== -/

/-! ===== BEGIN exceptions that leave a method, and their catching by the caller (launches without stack traces) ===== -/
section VXA
/-! The laws vx_back, vx_callV, vx_callS, vx_callSW, vx_throw0, vx_throwS follow proofs of the library, with one case more: JvmDerived/Free/Laws.lean (Back.of_free), Shelf42/LK1.lean (callV, callS), Shelf/KitTraced.lean (throwNew0V, throwNewS). -/
/-- where a method has thrown q: the class by its name, the cell, what was written, the world -/
def vx_T (XC : String → State → State → Prop) (st : State) (q : Addr) (t : State) (mc ms : Nat) (free : Addr → Prop) : Prop :=
  ∃ (E : String) (ce : Cell) (L : List Loc), XC E st t ∧ t.heap[q]? = some ce ∧ ce.vm = .none ∧ st.vm.findClass E = some ce.cls ∧ st.WarmedH t.vm ∧ st.sameButNew ({ t with vm := st.vm } : State) L mc ms ∧ ∀ z ∈ L, free z.base
def vx_Q (Qc : Array Value → State → Outcome → State → Prop) (XC : String → State → State → Prop) (mc ms : Nat) (free : Addr → Prop) : Array Value → State → Outcome → State → Prop := fun a st o t =>
  (Qc a st o t ∧ ∃ L, FrameEnd st o t L mc ms ∧ ∀ q ∈ L, free q.base) ∨ ∃ q, o = .threw q ∧ vx_T XC st q t mc ms free
/-- a callee that returns or throws -/
def vx_Met (l : Launch) (y : MethodName) (ws : List Cond) (rm : Room) (Pc : Array Value → State → Prop) (Qc : Array Value → State → Outcome → State → Prop) (XC : String → State → State → Prop) (mc ms : Nat) (free : Addr → Prop) : Prop :=
  MetFree l y (headSpec ws rm) Pc (fun _ _ _ _ _ => True) (vx_Q Qc XC mc ms free)
def vx_Post (XC : String → State → State → Prop) (mc ms : Nat) (free : Addr → Prop) : Pt → Array Value → Addr → Pt → Prop := fun A a q B =>
  ∃ (g : JFrame) (mk : MethodId) (t : State) (L : List Loc) (E : String) (ce : Cell), B.U.heap = t.heap ∧ B.U.vm = t.vm ∧ XC E (A.U.calling g mk a) t ∧ t.heap[q]? = some ce ∧ ce.vm = .none ∧ A.U.vm.findClass E = some ce.cls ∧ B.locs = A.locs ++ L ∧ (∀ z ∈ L, free z.base) ∧ B.cells = A.cells + mc ∧ B.slots = A.slots + ms
def vx_Back (l : Launch) (R : Room) (p : Program) (e : Env) (below : List Frame) (s : State) (sargs : Array Value) (y : MethodName) (len W9 : Nat)
    (Pre : Pt → Array Value → Prop) (Post : Pt → Array Value → Option Value → Pt → Prop) (PostX : Pt → Array Value → Addr → Pt → Prop) : Prop :=
  ∀ (m : MethodId) (meth : Method) (c : Code) (A : Pt) (g : JFrame) (ig : Instr) (mk : MethodId) (a : Array Value),
    Stand p l e R s m sargs below meth c A.U A.locs A.cells A.slots → g.method = m → g.locals.size = c.maxLocals → decode c.code g.pc = .ok (ig, len) →
    2 * g.monitorRoom + (g.stack.map fun v => v.category).sum ≤ W9 → A.U.methodNamed? y = some mk → Pre A a →
    (∃ (v : Option Value) (B : Pt), Stand p l e R s m sargs below meth c B.U B.locs B.cells B.slots ∧ Post A a v B ∧
      Steps p.tables e below (doInvoke e (A.U.setTop g) [] mk a).1 (B.U.setTop { g with pc := g.pc + len, stack := v.toList ++ g.stack })) ∨
    (∃ (q : Addr) (B : Pt), Stand p l e R s m sargs below meth c B.U B.locs B.cells B.slots ∧ PostX A a q B ∧
      Steps p.tables e below (doInvoke e (A.U.setTop g) [] mk a).1 ((B.U.setTop g).pushFrame (.throwing q)))
section Payer
variable {l : Launch} {R : Room} {p : Program} {e : Env} {below : List Frame} {s : State} {sargs : Array Value} {y : MethodName} {len W9 : Nat}
theorem vx_back {ws : List Cond} {rm : Room} {Pc : Array Value → State → Prop} {Qc : Array Value → State → Outcome → State → Prop} {XC : String → State → State → Prop} {mc ms : Nat} {free : Addr → Prop} {bytes : ByteArray} {maxL : Nat} {ret : Option FieldType}
    (hM : vx_Met l y ws rm Pc Qc XC mc ms free) (hblind : FrameBlind Pc) (hrc : rm.cells = mc) (hrs : rm.slots = ms)
    (hframes : rm.frames + 1 ≤ R.frames) (hlocals : W9 + (maxL + 11) + rm.locals ≤ R.locals)
    (hws : ∀ w ∈ ws, ∀ a' U, s.WarmedH U.vm → w.before a' U = true) (hcode : Cond.code y bytes maxL ret ∈ ws) (hinit : ∀ a' U, s.WarmedH U.vm → (Cond.initialized y.cls).before a' U = true) :
    vx_Back l R p e below s sargs y len W9 (PreOf R mc ms Pc) (PostOf Qc mc ms free) (vx_Post XC mc ms free) := by
  intro m meth c A g ig mk a X hg hsize hdg hW hn hp
  have h1 : (headSpec ws rm).pre.before a A.U = true := atoms_intro fun w hw => hws w hw _ _ X.warmed
  have h2 : (Cond.code y bytes maxL ret).before a A.U = true := hws _ hcode _ _ X.warmed
  have h3 : (Cond.initialized y.cls).before a A.U = true := hinit _ _ X.warmed
  have h4 : A.cells + (headSpec ws rm).room.cells ≤ R.cells := by rw [show (headSpec ws rm).room.cells = mc from hrc]; exact hp.1
  have h5 : A.slots + (headSpec ws rm).room.slots ≤ R.slots := by rw [show (headSpec ws rm).room.slots = ms from hrs]; exact hp.2.1
  have hPc : Pc a (A.U.calling g mk a) := hblind _ _ _ _ hp.2.2
  obtain ⟨U, Ls, c0, s0⟩ := A
  dsimp only [Pt.U, Pt.locs, Pt.cells, Pt.slots] at h1 h2 h3 h4 h5 X hn hPc ⊢
  obtain ⟨methY, cY, hmY, hcY, -, hlY, -, -, -, -⟩ := Cond.code_spec hn h2
  obtain ⟨kY, hkY, -⟩ := className_of_methodNamed hn
  have hinitY : kY.init = .initialized := Cond.initialized_spec (findClass_of_methodNamed hn) hkY h3
  have h : At U g.method c below := by rw [hg]; exact X.here
  have hlocals9 : W9 + (maxL + 11) + (headSpec ws rm).room.locals ≤ R.locals := hlocals
  have happ : (headSpec ws rm).appliesLoose y e.platform (U.calling g mk a) = true :=
    Spec.appliesLoose_calling (g := g) h hdg hn hkY hinitY
      (X.room_calling (g := g) (R' := (headSpec ws rm).room) hsize hmY hcY hframes (by rw [hlY]; omega) h4 h5) h1
  obtain ⟨mid, hmid⟩ := h.above
  have hfr : (U.setTop g).frames = (.java g :: mid) ++ below := by rw [State.frames_setTop' g h.top, hmid]; rfl
  obtain ⟨o, s₂, hsteps, -, hend, hq⟩ := Steps.callFree hM p X.admits X.cas X.clock (acts := []) hfr happ hPc trivial
  have hq' : vx_Q Qc XC mc ms free a (U.calling g mk a) o s₂ := hq
  rw [State.frames_setTop' g h.top] at hend
  obtain ⟨g₀, hg0⟩ := Option.isSome_iff_exists.mp h.top
  obtain ⟨r, hr⟩ := State.topJava?_eq_some.mp hg0
  have hr' : (({ U with heap := s₂.heap, slotsUsed := s₂.slotsUsed } : State).setVm s₂.vm).frames = .java g₀ :: r := hr
  rcases hq' with ⟨hqc, L, hfe, hL⟩ | ⟨q, rfl, E, ce, L, hx, hce, hcv, hcl, hW₂, hsm, hL⟩
  · obtain ⟨⟨v, rfl⟩, hW₂, e2, q2, q3, q4, q5, q6⟩ := id hfe
    have e3 : s₂ = ({ (U.calling g mk a).setFrames s₂.frames with heap := s₂.heap, slotsUsed := s₂.slotsUsed } : State).setVm s₂.vm := by
      have : s₂ = ({ s₂ with vm := (U.calling g mk a).vm } : State).setVm s₂.vm := rfl
      rw [e2] at this
      exact this
    obtain ⟨c₂, i₂, len₂, hc₂, hd₂, hf₂⟩ := hend
    have hW' : U.WarmedH s₂.vm := hW₂
    have hcc : c₂ = c := by
      have h1 : s₂.code? g.method = U.code? g.method := by
        rw [State.code?_eq, State.code?_eq, hW'.alike.method?]
      exact Option.some.inj (hc₂.symm.trans (h1.trans h.code))
    subst hcc
    have hlen : len₂ = len := by rw [hdg] at hd₂; cases hd₂; rfl
    subst hlen
    have hs₂ : s₂ = (({ U with heap := s₂.heap, slotsUsed := s₂.slotsUsed } : State).setVm s₂.vm).setTop { g with pc := g.pc + len₂, stack := v.toList ++ g.stack } := by
      refine e3.trans ?_
      rw [hf₂, State.calling_eq h.top, State.setFrames_setFrames, State.setTop_of_frames _ hr', hr]
      rfl
    have hsame : U.sameButNew ({ U with heap := s₂.heap, slotsUsed := s₂.slotsUsed } : State) L mc ms := by
      refine ⟨?_, q2, q3, q4, q5, q6⟩
      obtain ⟨t, ht, -⟩ := State.frames_cons hr
      show ({ U with heap := s₂.heap, slotsUsed := s₂.slotsUsed } : State) = { U.setFrames U.frames with heap := s₂.heap, slotsUsed := s₂.slotsUsed }
      rw [State.setFrames_self ht]
    subst hg
    refine Or.inl ⟨v, ⟨(({ U with heap := s₂.heap, slotsUsed := s₂.slotsUsed } : State).setVm s₂.vm), Ls ++ L, c0 + mc, s0 + ms⟩,
      ⟨X.admits, X.cas, X.clock, X.frames, X.room, X.hears, X.method, X.code, (X.here.setHeapUsed s₂.heap s₂.slotsUsed).setVm hW'.alike, X.tail, State.WarmedH.trans X.warmed hW', X.limits, X.bytes, X.same.trans (hsame.setVm s.vm)⟩,
      ⟨g, mk, s₂, L, rfl, rfl, hqc, rfl, hL, rfl, rfl⟩, ?_⟩
    show Steps p.tables e below _ ((({ U with heap := s₂.heap, slotsUsed := s₂.slotsUsed } : State).setVm s₂.vm).setTop { g with pc := g.pc + len₂, stack := v.toList ++ g.stack })
    rw [← hs₂]
    exact hsteps
  · obtain ⟨e2, q2, q3, q4, q5, q6⟩ := id hsm
    have e3 : s₂ = ({ (U.calling g mk a).setFrames s₂.frames with heap := s₂.heap, slotsUsed := s₂.slotsUsed } : State).setVm s₂.vm := by
      have : s₂ = ({ s₂ with vm := (U.calling g mk a).vm } : State).setVm s₂.vm := rfl
      rw [e2] at this
      exact this
    have hf₂ : s₂.frames = .throwing q :: .java g :: U.frames.tail := hend
    have hW' : U.WarmedH s₂.vm := hW₂
    have hs₂ : s₂ = ((({ U with heap := s₂.heap, slotsUsed := s₂.slotsUsed } : State).setVm s₂.vm).setTop g).pushFrame (.throwing q) := by
      refine e3.trans ?_
      rw [hf₂, State.calling_eq h.top, State.setFrames_setFrames, State.pushFrame, State.frames_setTop _ hr', State.setTop_of_frames _ hr', State.setFrames_setFrames, hr]
      rfl
    have hsame : U.sameButNew ({ U with heap := s₂.heap, slotsUsed := s₂.slotsUsed } : State) L mc ms := by
      refine ⟨?_, q2, q3, q4, q5, q6⟩
      obtain ⟨t, ht, -⟩ := State.frames_cons hr
      show ({ U with heap := s₂.heap, slotsUsed := s₂.slotsUsed } : State) = { U.setFrames U.frames with heap := s₂.heap, slotsUsed := s₂.slotsUsed }
      rw [State.setFrames_self ht]
    subst hg
    refine Or.inr ⟨q, ⟨(({ U with heap := s₂.heap, slotsUsed := s₂.slotsUsed } : State).setVm s₂.vm), Ls ++ L, c0 + mc, s0 + ms⟩,
      ⟨X.admits, X.cas, X.clock, X.frames, X.room, X.hears, X.method, X.code, (X.here.setHeapUsed s₂.heap s₂.slotsUsed).setVm hW'.alike, X.tail, State.WarmedH.trans X.warmed hW', X.limits, X.bytes, X.same.trans (hsame.setVm s.vm)⟩,
      ⟨g, mk, s₂, L, E, ce, rfl, rfl, hx, hce, hcv, hcl, rfl, hL, rfl, rfl⟩, ?_⟩
    show Steps p.tables e below _ (((({ U with heap := s₂.heap, slotsUsed := s₂.slotsUsed } : State).setVm s₂.vm).setTop g).pushFrame (.throwing q))
    rw [← hs₂]
    exact hsteps
end Payer
section Calls
variable {p : Program} {l : Launch} {e : Env} {R : Room} {s : State} {m : MethodId} {args : Array Value} {below : List Frame} {meth : Method} {c : Code} {T : State} {locs : List Loc} {cells slots : Nat}
theorem vx_callV (X : Stand p l e R s m args below meth c T locs cells slots) (hexec : p.tables.exec = Jvm.exec) {own C : String} {index : Nat} {y : MethodName} {bytes : ByteArray} {maxL : Nat} {ret : Option FieldType}
    (hown : s.vm.findClass own = some m.cls) (hlink : (Cond.methodLink own index y).before args s = true) (hinst : (Cond.instanceMethod y).before args s = true) (hsel : (Cond.selects C y y).before args s = true)
    (hcode : (Cond.code y bytes maxL ret).before args s = true) (hy : y.cls ≠ "java/lang/invoke/MethodHandle" ∧ y.cls ≠ "java/lang/invoke/VarHandle")
    {W9 : Nat} {Pre : Pt → Array Value → Prop} {Post : Pt → Array Value → Option Value → Pt → Prop} {PostX : Pt → Array Value → Addr → Pt → Prop} (hK : vx_Back l R p e below s args y 3 W9 Pre Post PostX)
    {b : Addr} {cellB : Cell} (hcell : T.heap[b]? = some cellB) (hobj : cellB.vm.isStatics = false) (hcls : s.vm.findClass C = some cellB.cls)
    {g : JFrame} (hg : g.method = m) (hsize : g.locals.size = c.maxLocals) {argsL rest : List Value} (hlen : ∀ sig, parseMethodDescriptor y.desc = some sig → argsL.length = sig.parameters.length)
    (hstack : g.stack = argsL.reverse ++ .ref b :: rest) (hW : 2 * g.monitorRoom + (rest.map fun v => v.category).sum ≤ W9) (hdg : decode c.code g.pc = .ok (.invokevirtual index, 3))
    (hpre : ∀ vm₁, s.WarmedH vm₁ → Pre ⟨T.setVm vm₁, locs, cells, slots⟩ (Value.ref b :: argsL).toArray) :
    (∃ (v : Option Value) (vm₁ : Vm) (B : Pt), s.WarmedH vm₁ ∧ Stand p l e R s m args below meth c B.U B.locs B.cells B.slots ∧ Post ⟨T.setVm vm₁, locs, cells, slots⟩ (Value.ref b :: argsL).toArray v B ∧
      ∀ target, Steps p.tables e below (B.U.setTop { g with pc := g.pc + 3, stack := v.toList ++ rest }) target → Steps p.tables e below (T.setTop g) target) ∨
    (∃ (q : Addr) (vm₁ : Vm) (B : Pt), s.WarmedH vm₁ ∧ Stand p l e R s m args below meth c B.U B.locs B.cells B.slots ∧ PostX ⟨T.setVm vm₁, locs, cells, slots⟩ (Value.ref b :: argsL).toArray q B ∧
      Steps p.tables e below (T.setTop g) ((B.U.setTop { g with stack := rest }).pushFrame (.throwing q))) := by
  obtain ⟨mk, methM, hnamed, hmethM, hstM, habM⟩ := Cond.instanceMethod_spec hinst
  obtain ⟨methM', cM, hmethM', -, -, -, -, -, -, hsigM⟩ := Cond.code_spec hnamed hcode
  cases hmethM.symm.trans hmethM'
  obtain ⟨c2, r2, m2, q1, q2, q3, q4, kP, hkP, hkPi⟩ := Cond.selects_spec hsel
  cases hcls.symm.trans q1
  cases (State.methodFound?_of_named hnamed hy).symm.trans q2
  cases hnamed.symm.trans q3
  have hselP : selectMethod e.platform s.vm cellB.cls mk = .method mk := by rw [Launch.admits_selectMethod X.admits]; exact q4
  obtain ⟨vm₁, X₁, hstep₁⟩ := X.invokevirtual hexec hown hlink hnamed hmethM hstM hkP hkPi hy (a := b) (cell := cellB) hcell
    (fun z h => by rw [h] at hobj; cases hobj) hselP hmethM habM hkP hkPi (g := g) hg (argsL := argsL) (rest := rest) (hlen _ hsigM) hstack hdg
  rcases hK m meth c ⟨T.setVm vm₁, locs, cells, slots⟩ { g with stack := rest } (.invokevirtual index) mk (Value.ref b :: argsL).toArray X₁ hg hsize hdg hW (X₁.named hnamed) (hpre vm₁ X₁.warmed) with ⟨v, B, X', hpost, hsteps⟩ | ⟨q, B, X', hpost, hsteps⟩
  · exact Or.inl ⟨v, vm₁, B, X₁.warmed, X', hpost, fun target h => hstep₁ _ fun acts => by rw [doInvoke_state]; exact hsteps.trans h⟩
  · exact Or.inr ⟨q, vm₁, B, X₁.warmed, X', hpost, hstep₁ _ fun acts => by rw [doInvoke_state]; exact hsteps⟩
theorem vx_callS (X : Stand p l e R s m args below meth c T locs cells slots) (hexec : p.tables.exec = Jvm.exec) {own : String} {index : Nat} {y : MethodName} {bytes : ByteArray} {maxL : Nat} {ret : Option FieldType}
    (hown : s.vm.findClass own = some m.cls) (hlink : (Cond.methodLink own index y).before args s = true) (hstat : (Cond.static y).before args s = true) (hinit : (Cond.initialized y.cls).before args s = true)
    (hcode : (Cond.code y bytes maxL ret).before args s = true) (hy : y.cls ≠ "java/lang/invoke/MethodHandle" ∧ y.cls ≠ "java/lang/invoke/VarHandle")
    {W9 : Nat} {Pre : Pt → Array Value → Prop} {Post : Pt → Array Value → Option Value → Pt → Prop} {PostX : Pt → Array Value → Addr → Pt → Prop} (hK : vx_Back l R p e below s args y 3 W9 Pre Post PostX)
    {g : JFrame} (hg : g.method = m) (hsize : g.locals.size = c.maxLocals) {argsL rest : List Value} (hlen : ∀ sig, parseMethodDescriptor y.desc = some sig → argsL.length = sig.parameters.length)
    (hstack : g.stack = argsL.reverse ++ rest) (hW : 2 * g.monitorRoom + (rest.map fun v => v.category).sum ≤ W9) (hdg : decode c.code g.pc = .ok (.invokestatic index, 3))
    (hpre : ∀ vm₁, s.WarmedH vm₁ → Pre ⟨T.setVm vm₁, locs, cells, slots⟩ argsL.toArray) :
    (∃ (v : Option Value) (vm₁ : Vm) (B : Pt), s.WarmedH vm₁ ∧ Stand p l e R s m args below meth c B.U B.locs B.cells B.slots ∧ Post ⟨T.setVm vm₁, locs, cells, slots⟩ argsL.toArray v B ∧
      ∀ target, Steps p.tables e below (B.U.setTop { g with pc := g.pc + 3, stack := v.toList ++ rest }) target → Steps p.tables e below (T.setTop g) target) ∨
    (∃ (q : Addr) (vm₁ : Vm) (B : Pt), s.WarmedH vm₁ ∧ Stand p l e R s m args below meth c B.U B.locs B.cells B.slots ∧ PostX ⟨T.setVm vm₁, locs, cells, slots⟩ argsL.toArray q B ∧
      Steps p.tables e below (T.setTop g) ((B.U.setTop { g with stack := rest }).pushFrame (.throwing q))) := by
  obtain ⟨mk, hnamed⟩ := Cond.code_named hcode
  obtain ⟨methM, cM, hmethM, -, -, -, -, -, -, hsigM⟩ := Cond.code_spec hnamed hcode
  have hstatic : methM.isStatic = true := Cond.static_spec hnamed hmethM hstat
  obtain ⟨kP, hkP, -⟩ := className_of_methodNamed hnamed
  have hinitP : kP.init = .initialized := Cond.initialized_spec (findClass_of_methodNamed hnamed) hkP hinit
  obtain ⟨vm₁, X₁, hstep₁⟩ := X.invokestatic hexec hown hlink hnamed hmethM hstatic hkP hinitP hy (g := g) hg (argsL := argsL) (rest := rest) (hlen _ hsigM) hstack hdg
  rcases hK m meth c ⟨T.setVm vm₁, locs, cells, slots⟩ { g with stack := rest } (.invokestatic index) mk argsL.toArray X₁ hg hsize hdg hW (X₁.named hnamed) (hpre vm₁ X₁.warmed) with ⟨v, B, X', hpost, hsteps⟩ | ⟨q, B, X', hpost, hsteps⟩
  · exact Or.inl ⟨v, vm₁, B, X₁.warmed, X', hpost, fun target h => hstep₁ _ fun acts => by rw [doInvoke_state]; exact hsteps.trans h⟩
  · exact Or.inr ⟨q, vm₁, B, X₁.warmed, X', hpost, hstep₁ _ fun acts => by rw [doInvoke_state]; exact hsteps⟩
end Calls
theorem vx_cls {s : State} {T : State} {vm₁ : Vm} {E : String} {k : ClassId} (hW : s.WarmedH vm₁) (h : (T.setVm vm₁).vm.findClass E = some k) : s.vm.findClass E = some k := by
  have h1 : vm₁.findClass E = some k := h
  rw [hW.alike.findClass] at h1
  exact h1
/-- the method's frame g, with q thrown over it -/
def vx_W (p : Program) (l : Launch) (e : Env) (R : Room) (s : State) (m : MethodId) (args : Array Value) (below : List Frame) (meth : Method) (c : Code) (H : Heap) (locs : List Loc) (cells slots : Nat) (Q : State → Prop) (g : JFrame) (q : Addr) : Prop :=
  ∀ T : State, T.heap = H → Stand p l e R s m args below meth c T locs cells slots → ∃ t, Steps p.tables e below ((T.setTop g).pushFrame (.throwing q)) t ∧ Q t
def vx_Run (p : Program) (l : Launch) (e : Env) (R : Room) (s : State) (m : MethodId) (args : Array Value) (below : List Frame) (meth : Method) (c : Code) (H : Heap) (locs : List Loc) (cells slots mc ms : Nat) (g : JFrame) (rest : List Value) (Qa : State → Outcome → State → Prop) (XC : String → State → State → Prop) (free : Addr → Prop) : Prop :=
  ∀ T : State, T.heap = H → Stand p l e R s m args below meth c T locs cells slots →
    (∃ (v : Option Value) (st₀ t T' : State) (L : List Loc), st₀.heap = H ∧ Stand p l e R s m args below meth c T' (locs ++ L) (cells + mc) (slots + ms) ∧ (∀ q ∈ L, free q.base) ∧ T'.heap = t.heap ∧ T'.vm = t.vm ∧ Qa st₀ (.returned v) t ∧
      Goes p e below T g T' { g with pc := g.pc + 3, stack := v.toList ++ rest }) ∨
    (∃ (q : Addr) (st₀ t T' : State) (L : List Loc) (E : String) (ce : Cell), st₀.heap = H ∧ Stand p l e R s m args below meth c T' (locs ++ L) (cells + mc) (slots + ms) ∧ (∀ z ∈ L, free z.base) ∧ T'.heap = t.heap ∧ T'.vm = t.vm ∧ XC E st₀ t ∧ t.heap[q]? = some ce ∧ ce.vm = .none ∧ s.vm.findClass E = some ce.cls ∧
      Steps p.tables e below (T.setTop g) ((T'.setTop { g with stack := rest }).pushFrame (.throwing q)))
def vx_X {S : Type} (px : S → Prop) (B : String → S → State → Prop) (A : Nat → Prop) : String → State → State → Prop := fun E st t => ∃ u : S, px u ∧ B E u t ∧ va_F A st t
section Runs
variable {p : Program} {l : Launch} {e : Env} {R : Room} {s : State} {m : MethodId} {args : Array Value} {below : List Frame} {meth : Method} {c : Code} {H : Heap} {locs : List Loc} {cells slots : Nat}
variable {y : MethodName} {bytes cc : ByteArray} {maxL nL mc ms n index : Nat} {ret : Option FieldType} {ws : List Cond} {rm : Room} {Pc : Array Value → State → Prop} {Qc : Array Value → State → Outcome → State → Prop} {XC : String → State → State → Prop} {free : Addr → Prop} {Ts : List Cond} {own C : String} {b : Addr} {As rest : List Value} {g : JFrame}
theorem vx_callBack (cb : CallB R s args own index y bytes maxL ret ws rm mc ms n) (hM : vx_Met l y ws rm Pc Qc XC mc ms free) (hbl : FrameBlind Pc) : vx_Back l R p e below s args y 3 8 (PreOf R mc ms Pc) (PostOf Qc mc ms free) (vx_Post XC mc ms free) := by
  obtain ⟨hrc, hrs, hfr, hlo, hws, hcw, -, hini, -⟩ := cb
  exact vx_back (bytes := bytes) (maxL := maxL) (ret := ret) hM hbl hrc hrs hfr hlo hws hcw (fun a' U hW => word_at hW (Or.inl (by first | rfl | simp [Cond.onTables, Cond.keeps, Cond.steady])) hini)
theorem vx_runV (S : CallFix p m c cc nL s args Ts own) (hM : vx_Met l y ws rm Pc Qc XC mc ms free) (cw : CallW R s args own C index y bytes maxL ret ws rm mc ms n) (hp : PreV s H C b Pc As)
    (hg : g.method = m) (hn : As.length = n) (hsize : g.locals.size = nL) (hstack : g.stack = As.reverse ++ .ref b :: rest) (hW : 2 * g.monitorRoom + (rest.map fun v => v.category).sum ≤ 8) (hdg : decode cc g.pc = .ok (.invokevirtual index, 3)) (hf : cells + mc ≤ R.cells ∧ slots + ms ≤ R.slots) :
    vx_Run p l e R s m args below meth c H locs cells slots mc ms g rest (Qc (Value.ref b :: As).toArray) XC free := by
  have hK : vx_Back l R p e below s args y 3 8 (PreOf R mc ms Pc) (PostOf Qc mc ms free) (vx_Post XC mc ms free) := vx_callBack cw.1 hM hp.1
  obtain ⟨⟨-, -, -, -, -, -, hcode, -, hy, hlen, hl⟩, hin, hse⟩ := cw
  obtain ⟨hx, hb, hml, ho, -⟩ := S
  obtain ⟨-, ⟨cellB, hcB, hoB, hclB⟩, hPc⟩ := hp
  intro T hT X
  rcases vx_callV X hx (C := C) (bytes := bytes) (maxL := maxL) (ret := ret) ho hl hin hse hcode hy hK (by rw [hT]; exact hcB) hoB hclB hg (hsize.trans hml.symm) (argsL := As) (rest := rest) (fun sig h => hn.trans (hlen sig h)) hstack hW (by rw [hb]; exact hdg)
    (fun vm₁ hW₁ => ⟨hf.1, hf.2, hPc (T.setVm vm₁) hT hW₁⟩) with ⟨v, vm₁, ⟨U', l2, c2, s2⟩, hW₁, X', ⟨g', mk, t, L, e1, e2, hq, h1, hL, h2, h3⟩, st⟩ | ⟨q, vm₁, ⟨U', l2, c2, s2⟩, hW₁, X', ⟨g', mk, t, L, E, ce, e1, e2, hq, hce, hcv, hcl, h1, hL, h2, h3⟩, st⟩
  · dsimp only [Pt.U, Pt.locs, Pt.cells, Pt.slots] at X' e1 e2 h1 h2 h3 st
    subst h1; subst h2; subst h3
    exact Or.inl ⟨v, (T.setVm vm₁).calling g' mk (Value.ref b :: As).toArray, t, U', L, hT, X', hL, e1, e2, hq, st⟩
  · dsimp only [Pt.U, Pt.locs, Pt.cells, Pt.slots] at X' e1 e2 h1 h2 h3 st hcl
    subst h1; subst h2; subst h3
    exact Or.inr ⟨q, (T.setVm vm₁).calling g' mk (Value.ref b :: As).toArray, t, U', L, E, ce, hT, X', hL, e1, e2, hq, hce, hcv, vx_cls hW₁ hcl, st⟩
theorem vx_runS (S : CallFix p m c cc nL s args Ts own) (hM : vx_Met l y ws rm Pc Qc XC mc ms free) (cw : CallB R s args own index y bytes maxL ret ws rm mc ms n ∧ (Cond.static y).before args s = true) (hp : PreS s H Pc As)
    (hg : g.method = m) (hn : As.length = n) (hsize : g.locals.size = nL) (hstack : g.stack = As.reverse ++ rest) (hW : 2 * g.monitorRoom + (rest.map fun v => v.category).sum ≤ 8) (hdg : decode cc g.pc = .ok (.invokestatic index, 3)) (hf : cells + mc ≤ R.cells ∧ slots + ms ≤ R.slots) :
    vx_Run p l e R s m args below meth c H locs cells slots mc ms g rest (Qc As.toArray) XC free := by
  have hK : vx_Back l R p e below s args y 3 8 (PreOf R mc ms Pc) (PostOf Qc mc ms free) (vx_Post XC mc ms free) := vx_callBack cw.1 hM hp.1
  obtain ⟨⟨-, -, -, -, -, -, hcode, hini, hy, hlen, hl⟩, hstt⟩ := cw
  obtain ⟨hx, hb, hml, ho, -⟩ := S
  intro T hT X
  rcases vx_callS X hx (bytes := bytes) (maxL := maxL) (ret := ret) ho hl hstt hini hcode hy hK hg (hsize.trans hml.symm) (argsL := As) (rest := rest) (fun sig h => hn.trans (hlen sig h)) hstack hW (by rw [hb]; exact hdg)
    (fun vm₁ hW₁ => ⟨hf.1, hf.2, hp.2 (T.setVm vm₁) hT hW₁⟩) with ⟨v, vm₁, ⟨U', l2, c2, s2⟩, hW₁, X', ⟨g', mk, t, L, e1, e2, hq, h1, hL, h2, h3⟩, st⟩ | ⟨q, vm₁, ⟨U', l2, c2, s2⟩, hW₁, X', ⟨g', mk, t, L, E, ce, e1, e2, hq, hce, hcv, hcl, h1, hL, h2, h3⟩, st⟩
  · dsimp only [Pt.U, Pt.locs, Pt.cells, Pt.slots] at X' e1 e2 h1 h2 h3 st
    subst h1; subst h2; subst h3
    exact Or.inl ⟨v, (T.setVm vm₁).calling g' mk As.toArray, t, U', L, hT, X', hL, e1, e2, hq, st⟩
  · dsimp only [Pt.U, Pt.locs, Pt.cells, Pt.slots] at X' e1 e2 h1 h2 h3 st hcl
    subst h1; subst h2; subst h3
    exact Or.inr ⟨q, (T.setVm vm₁).calling g' mk As.toArray, t, U', L, E, ce, hT, X', hL, e1, e2, hq, hce, hcv, vx_cls hW₁ hcl, st⟩
end Runs
section Rows
variable {p : Program} {l : Launch} {e : Env} {R : Room} {s : State} {m : MethodId} {args : Array Value} {below : List Frame} {meth : Method} {c : Code} {H : Heap} {locs : List Loc} {cells slots : Nat} {Q : State → Prop}
variable {mc ms : Nat} {free : Addr → Prop} {A0 A1 : Nat → Prop} {H0 : Heap} {a : Array Value} {pc : Nat} {ls : Array Slot} {st0 rest : List Value}
theorem vx_keep {st₀ t T' : State} {L : List Loc} (h0 : st₀.heap = H) (e1 : T'.heap = t.heap) (hS : va_S A0 H0 H locs) (hA : ∀ q, q < H.size → A1 q → A0 q) (hf : ∀ q, free q → A0 q) (hL : ∀ q ∈ L, free q.base) (hF : va_F A1 st₀ t) :
    H.size ≤ T'.heap.size ∧ (∀ q : Nat, q < H.size → ¬ A1 q → T'.heap[q]? = H[q]?) ∧ va_S A0 H0 T'.heap (locs ++ L) := by
  obtain ⟨hz, hk⟩ := hF
  rw [h0] at hz hk
  exact ⟨by rw [e1]; exact hz, fun q h1 h2 => by rw [e1]; exact hk q h1 h2,
    ⟨Nat.le_trans hS.1 (by rw [e1]; exact hz), fun q h1 h2 => by rw [e1, hk q (Nat.lt_of_lt_of_le h1 hS.1) (fun z => h2 (hA q (Nat.lt_of_lt_of_le h1 hS.1) z))]; exact hS.2.1 q h1 h2, fun q hq => by
      rcases List.mem_append.mp hq with h | h
      · exact hS.2.2 q h
      · exact hf _ (hL q h)⟩⟩
theorem vx_calli {S SX : Type} {post : Int32 → S → Prop} {px : SX → Prop} {B : S → State → Prop} {BX : String → SX → State → Prop} {AX : Nat → Prop} (hr : vx_Run p l e R s m args below meth c H locs cells slots mc ms (F0 m pc ls st0) rest (va_Qi post B A1 a) (vx_X px BX AX) free) (hS : va_S A0 H0 H locs) (hA : ∀ q, q < H.size → A1 q → A0 q) (hf : ∀ q, free q → A0 q) (hAX : ∀ q, q < H.size → AX q → A0 q)
    (kx : ∀ (E : String) (ce : Cell) (q9 : Addr) (u : SX) (t : State) (H1 : Heap) (locs1 : List Loc), t.heap = H1 → s.vm.Alike t.vm → px u → BX E u t → H.size ≤ H1.size → (∀ q : Nat, q < H.size → ¬ AX q → H1[q]? = H[q]?) → va_S A0 H0 H1 locs1 → H1[q9]? = some ce → ce.vm = .none → s.vm.findClass E = some ce.cls → vx_W p l e R s m args below meth c H1 locs1 (cells + mc) (slots + ms) Q (F0 m pc ls rest) q9)
    (kk : ∀ (r : Int32) (u : S) (t : State) (H1 : Heap) (locs1 : List Loc), t.heap = H1 → s.vm.Alike t.vm → post r u → B u t → H.size ≤ H1.size → (∀ q : Nat, q < H.size → ¬ A1 q → H1[q]? = H[q]?) → va_S A0 H0 H1 locs1 → W p l e R s m args below meth c H1 locs1 (cells + mc) (slots + ms) Q (F0 m (pc + 3) ls (.int r :: rest))) : W p l e R s m args below meth c H locs cells slots Q (F0 m pc ls st0) := by
  intro T hT X
  rcases hr T hT X with ⟨v, st₀, t, T', L, h0, X', hL, e1, e2, ⟨⟨r, u, hv, hp, hb⟩, hF⟩, st⟩ | ⟨q, st₀, t, T', L, E, ce, h0, X', hL, e1, e2, ⟨u, hp, hb, hF⟩, hce, hcv, hcl, st⟩
  · cases hv
    obtain ⟨k1, k2, k3⟩ := vx_keep h0 e1 hS hA hf hL hF
    obtain ⟨t2, a1, b1⟩ := kk r u t T'.heap (locs ++ L) e1.symm (by rw [← e2]; exact X'.warmed.alike) hp hb k1 k2 k3 T' rfl X'
    exact ⟨t2, st t2 a1, b1⟩
  · obtain ⟨k1, k2, k3⟩ := vx_keep h0 e1 hS hAX hf hL hF
    obtain ⟨t2, a1, b1⟩ := kx E ce q u t T'.heap (locs ++ L) e1.symm (by rw [← e2]; exact X'.warmed.alike) hp hb k1 k2 k3 (by rw [e1]; exact hce) hcv hcl T' rfl X'
    exact ⟨t2, st.trans a1, b1⟩
theorem vx_calll {S SX : Type} {post : Int64 → S → Prop} {px : SX → Prop} {B : S → State → Prop} {BX : String → SX → State → Prop} {AX : Nat → Prop} (hr : vx_Run p l e R s m args below meth c H locs cells slots mc ms (F0 m pc ls st0) rest (va_Ql post B A1 a) (vx_X px BX AX) free) (hS : va_S A0 H0 H locs) (hA : ∀ q, q < H.size → A1 q → A0 q) (hf : ∀ q, free q → A0 q) (hAX : ∀ q, q < H.size → AX q → A0 q)
    (kx : ∀ (E : String) (ce : Cell) (q9 : Addr) (u : SX) (t : State) (H1 : Heap) (locs1 : List Loc), t.heap = H1 → s.vm.Alike t.vm → px u → BX E u t → H.size ≤ H1.size → (∀ q : Nat, q < H.size → ¬ AX q → H1[q]? = H[q]?) → va_S A0 H0 H1 locs1 → H1[q9]? = some ce → ce.vm = .none → s.vm.findClass E = some ce.cls → vx_W p l e R s m args below meth c H1 locs1 (cells + mc) (slots + ms) Q (F0 m pc ls rest) q9)
    (kk : ∀ (r : Int64) (u : S) (t : State) (H1 : Heap) (locs1 : List Loc), t.heap = H1 → s.vm.Alike t.vm → post r u → B u t → H.size ≤ H1.size → (∀ q : Nat, q < H.size → ¬ A1 q → H1[q]? = H[q]?) → va_S A0 H0 H1 locs1 → W p l e R s m args below meth c H1 locs1 (cells + mc) (slots + ms) Q (F0 m (pc + 3) ls (.long r :: rest))) : W p l e R s m args below meth c H locs cells slots Q (F0 m pc ls st0) := by
  intro T hT X
  rcases hr T hT X with ⟨v, st₀, t, T', L, h0, X', hL, e1, e2, ⟨⟨r, u, hv, hp, hb⟩, hF⟩, st⟩ | ⟨q, st₀, t, T', L, E, ce, h0, X', hL, e1, e2, ⟨u, hp, hb, hF⟩, hce, hcv, hcl, st⟩
  · cases hv
    obtain ⟨k1, k2, k3⟩ := vx_keep h0 e1 hS hA hf hL hF
    obtain ⟨t2, a1, b1⟩ := kk r u t T'.heap (locs ++ L) e1.symm (by rw [← e2]; exact X'.warmed.alike) hp hb k1 k2 k3 T' rfl X'
    exact ⟨t2, st t2 a1, b1⟩
  · obtain ⟨k1, k2, k3⟩ := vx_keep h0 e1 hS hAX hf hL hF
    obtain ⟨t2, a1, b1⟩ := kx E ce q u t T'.heap (locs ++ L) e1.symm (by rw [← e2]; exact X'.warmed.alike) hp hb k1 k2 k3 (by rw [e1]; exact hce) hcv hcl T' rfl X'
    exact ⟨t2, st.trans a1, b1⟩
theorem vx_callf {S SX : Type} {post : UInt32 → S → Prop} {px : SX → Prop} {B : S → State → Prop} {BX : String → SX → State → Prop} {AX : Nat → Prop} (hr : vx_Run p l e R s m args below meth c H locs cells slots mc ms (F0 m pc ls st0) rest (va_Qf post B A1 a) (vx_X px BX AX) free) (hS : va_S A0 H0 H locs) (hA : ∀ q, q < H.size → A1 q → A0 q) (hf : ∀ q, free q → A0 q) (hAX : ∀ q, q < H.size → AX q → A0 q)
    (kx : ∀ (E : String) (ce : Cell) (q9 : Addr) (u : SX) (t : State) (H1 : Heap) (locs1 : List Loc), t.heap = H1 → s.vm.Alike t.vm → px u → BX E u t → H.size ≤ H1.size → (∀ q : Nat, q < H.size → ¬ AX q → H1[q]? = H[q]?) → va_S A0 H0 H1 locs1 → H1[q9]? = some ce → ce.vm = .none → s.vm.findClass E = some ce.cls → vx_W p l e R s m args below meth c H1 locs1 (cells + mc) (slots + ms) Q (F0 m pc ls rest) q9)
    (kk : ∀ (r : UInt32) (u : S) (t : State) (H1 : Heap) (locs1 : List Loc), t.heap = H1 → s.vm.Alike t.vm → post r u → B u t → H.size ≤ H1.size → (∀ q : Nat, q < H.size → ¬ A1 q → H1[q]? = H[q]?) → va_S A0 H0 H1 locs1 → W p l e R s m args below meth c H1 locs1 (cells + mc) (slots + ms) Q (F0 m (pc + 3) ls (.float r :: rest))) : W p l e R s m args below meth c H locs cells slots Q (F0 m pc ls st0) := by
  intro T hT X
  rcases hr T hT X with ⟨v, st₀, t, T', L, h0, X', hL, e1, e2, ⟨⟨r, u, hv, hp, hb⟩, hF⟩, st⟩ | ⟨q, st₀, t, T', L, E, ce, h0, X', hL, e1, e2, ⟨u, hp, hb, hF⟩, hce, hcv, hcl, st⟩
  · cases hv
    obtain ⟨k1, k2, k3⟩ := vx_keep h0 e1 hS hA hf hL hF
    obtain ⟨t2, a1, b1⟩ := kk r u t T'.heap (locs ++ L) e1.symm (by rw [← e2]; exact X'.warmed.alike) hp hb k1 k2 k3 T' rfl X'
    exact ⟨t2, st t2 a1, b1⟩
  · obtain ⟨k1, k2, k3⟩ := vx_keep h0 e1 hS hAX hf hL hF
    obtain ⟨t2, a1, b1⟩ := kx E ce q u t T'.heap (locs ++ L) e1.symm (by rw [← e2]; exact X'.warmed.alike) hp hb k1 k2 k3 (by rw [e1]; exact hce) hcv hcl T' rfl X'
    exact ⟨t2, st.trans a1, b1⟩
theorem vx_calld {S SX : Type} {post : UInt64 → S → Prop} {px : SX → Prop} {B : S → State → Prop} {BX : String → SX → State → Prop} {AX : Nat → Prop} (hr : vx_Run p l e R s m args below meth c H locs cells slots mc ms (F0 m pc ls st0) rest (va_Qd post B A1 a) (vx_X px BX AX) free) (hS : va_S A0 H0 H locs) (hA : ∀ q, q < H.size → A1 q → A0 q) (hf : ∀ q, free q → A0 q) (hAX : ∀ q, q < H.size → AX q → A0 q)
    (kx : ∀ (E : String) (ce : Cell) (q9 : Addr) (u : SX) (t : State) (H1 : Heap) (locs1 : List Loc), t.heap = H1 → s.vm.Alike t.vm → px u → BX E u t → H.size ≤ H1.size → (∀ q : Nat, q < H.size → ¬ AX q → H1[q]? = H[q]?) → va_S A0 H0 H1 locs1 → H1[q9]? = some ce → ce.vm = .none → s.vm.findClass E = some ce.cls → vx_W p l e R s m args below meth c H1 locs1 (cells + mc) (slots + ms) Q (F0 m pc ls rest) q9)
    (kk : ∀ (r : UInt64) (u : S) (t : State) (H1 : Heap) (locs1 : List Loc), t.heap = H1 → s.vm.Alike t.vm → post r u → B u t → H.size ≤ H1.size → (∀ q : Nat, q < H.size → ¬ A1 q → H1[q]? = H[q]?) → va_S A0 H0 H1 locs1 → W p l e R s m args below meth c H1 locs1 (cells + mc) (slots + ms) Q (F0 m (pc + 3) ls (.double r :: rest))) : W p l e R s m args below meth c H locs cells slots Q (F0 m pc ls st0) := by
  intro T hT X
  rcases hr T hT X with ⟨v, st₀, t, T', L, h0, X', hL, e1, e2, ⟨⟨r, u, hv, hp, hb⟩, hF⟩, st⟩ | ⟨q, st₀, t, T', L, E, ce, h0, X', hL, e1, e2, ⟨u, hp, hb, hF⟩, hce, hcv, hcl, st⟩
  · cases hv
    obtain ⟨k1, k2, k3⟩ := vx_keep h0 e1 hS hA hf hL hF
    obtain ⟨t2, a1, b1⟩ := kk r u t T'.heap (locs ++ L) e1.symm (by rw [← e2]; exact X'.warmed.alike) hp hb k1 k2 k3 T' rfl X'
    exact ⟨t2, st t2 a1, b1⟩
  · obtain ⟨k1, k2, k3⟩ := vx_keep h0 e1 hS hAX hf hL hF
    obtain ⟨t2, a1, b1⟩ := kx E ce q u t T'.heap (locs ++ L) e1.symm (by rw [← e2]; exact X'.warmed.alike) hp hb k1 k2 k3 (by rw [e1]; exact hce) hcv hcl T' rfl X'
    exact ⟨t2, st.trans a1, b1⟩
theorem vx_callv {S SX : Type} {post : S → Prop} {px : SX → Prop} {B : S → State → Prop} {BX : String → SX → State → Prop} {AX : Nat → Prop} (hr : vx_Run p l e R s m args below meth c H locs cells slots mc ms (F0 m pc ls st0) rest (va_Qv post B A1 a) (vx_X px BX AX) free) (hS : va_S A0 H0 H locs) (hA : ∀ q, q < H.size → A1 q → A0 q) (hf : ∀ q, free q → A0 q) (hAX : ∀ q, q < H.size → AX q → A0 q)
    (kx : ∀ (E : String) (ce : Cell) (q9 : Addr) (u : SX) (t : State) (H1 : Heap) (locs1 : List Loc), t.heap = H1 → s.vm.Alike t.vm → px u → BX E u t → H.size ≤ H1.size → (∀ q : Nat, q < H.size → ¬ AX q → H1[q]? = H[q]?) → va_S A0 H0 H1 locs1 → H1[q9]? = some ce → ce.vm = .none → s.vm.findClass E = some ce.cls → vx_W p l e R s m args below meth c H1 locs1 (cells + mc) (slots + ms) Q (F0 m pc ls rest) q9)
    (kk : ∀ (u : S) (t : State) (H1 : Heap) (locs1 : List Loc), t.heap = H1 → s.vm.Alike t.vm → post u → B u t → H.size ≤ H1.size → (∀ q : Nat, q < H.size → ¬ A1 q → H1[q]? = H[q]?) → va_S A0 H0 H1 locs1 → W p l e R s m args below meth c H1 locs1 (cells + mc) (slots + ms) Q (F0 m (pc + 3) ls (rest))) : W p l e R s m args below meth c H locs cells slots Q (F0 m pc ls st0) := by
  intro T hT X
  rcases hr T hT X with ⟨v, st₀, t, T', L, h0, X', hL, e1, e2, ⟨⟨u, hv, hp, hb⟩, hF⟩, st⟩ | ⟨q, st₀, t, T', L, E, ce, h0, X', hL, e1, e2, ⟨u, hp, hb, hF⟩, hce, hcv, hcl, st⟩
  · cases hv
    obtain ⟨k1, k2, k3⟩ := vx_keep h0 e1 hS hA hf hL hF
    obtain ⟨t2, a1, b1⟩ := kk u t T'.heap (locs ++ L) e1.symm (by rw [← e2]; exact X'.warmed.alike) hp hb k1 k2 k3 T' rfl X'
    exact ⟨t2, st t2 a1, b1⟩
  · obtain ⟨k1, k2, k3⟩ := vx_keep h0 e1 hS hAX hf hL hF
    obtain ⟨t2, a1, b1⟩ := kx E ce q u t T'.heap (locs ++ L) e1.symm (by rw [← e2]; exact X'.warmed.alike) hp hb k1 k2 k3 (by rw [e1]; exact hce) hcv hcl T' rfl X'
    exact ⟨t2, st.trans a1, b1⟩
/-- caught by the row x of this method's table; the rows ahead don't take it -/
theorem vx_catch {own name : String} {E : String} {ce : Cell} {q : Addr} (hown : s.vm.findClass own = some m.cls) (pre : List ExceptionTableEntry) (x : ExceptionTableEntry) (suf : List ExceptionTableEntry) (hsplit : c.exceptionTable.toList = pre ++ x :: suf)
    (hpass : ∀ z ∈ pre, covers z pc = false ∨ (z.catchType ≠ 0 ∧ ∃ nm : String, (Cond.classLink own z.catchType nm).before args s = true ∧ va_Nc E nm s)) (hx : covers x pc = true) (h0 : x.catchType ≠ 0)
    (hlink : (Cond.classLink own x.catchType name).before args s = true) (hcast : (Cond.castable E name).before args s = true) (hcell : H[q]? = some ce) (hv : ce.vm = .none) (hcl : s.vm.findClass E = some ce.cls)
    (kk : W p l e R s m args below meth c H locs cells slots Q (F0 m x.handlerPc ls [.ref q])) : vx_W p l e R s m args below meth c H locs cells slots Q (F0 m pc ls rest) q := by
  intro T hT X
  have hpl : e.platform.magicAccessors = ({} : Platform).magicAccessors := by rw [X.admits.platform]
  obtain ⟨c3, c4, hc3, hc4, hasg⟩ := Cond.castable_spec hcast
  cases Option.some.inj (hc3.symm.trans hcl)
  obtain ⟨c5, hc5, hcl5⟩ := Cond.classLink_spec hown hlink e.platform hpl
  cases Option.some.inj (hc4.symm.trans hc5)
  obtain ⟨vm', X', st⟩ := X.thenCaughtThrough q (g := F0 m pc ls rest) rfl (Steps.refl _) (by rw [hT]; exact hcell) (by rw [hv]; rfl) (by obtain ⟨k9, h9, -⟩ := Vm.findClass_spec hcl; exact ⟨k9, h9⟩) pre x suf hsplit
    (fun z hz => by
      rcases hpass z hz with h | ⟨hz0, nm, hl1, hn1⟩
      · exact Or.inl h
      · obtain ⟨c6, hc6, hcl6⟩ := Cond.classLink_spec hown hl1 e.platform hpl
        obtain ⟨a8, b8, h1, h2, h3⟩ := hn1
        cases Option.some.inj (h1.symm.trans hcl)
        cases Option.some.inj (h2.symm.trans hc6)
        exact Or.inr ⟨hz0, _, hcl6, h3⟩) hx (Or.inr ⟨h0, c4, hcl5, hasg⟩)
  obtain ⟨t, a1, b1⟩ := kk (T.setVm vm') hT X'
  exact ⟨t, st.trans a1, b1⟩
end Rows
section Ends
variable {p : Program} {l : Launch} {e : Env} {R : Room} {s : State} {m : MethodId} {args : Array Value} {below : List Frame} {meth : Method} {c : Code} {H : Heap} {locs : List Loc} {cells slots : Nat} {Q : State → Prop}
variable {mc ms : Nat} {free : Addr → Prop} {A0 A1 : Nat → Prop} {H0 : Heap} {a : Array Value} {ls : Array Slot} {st0 rest : List Value}
variable {Qc : Array Value → State → Outcome → State → Prop} {XC : String → State → State → Prop}
/-- what a body that may throw owes at its end -/
def vx_MQ (below : List Frame) (Qc : Array Value → State → Outcome → State → Prop) (XC : String → State → State → Prop) (a : Array Value) (s : State) (mc ms : Nat) (free : Addr → Prop) : State → Prop := fun t =>
  ∃ o, t.status = .running ∧ Ended t below o ∧ vx_Q Qc XC mc ms free a s o t
theorem vx_ret {g : JFrame} {mc ms : Nat} (k : W p l e R s m args below meth c H locs cells slots (MQ below Qc args s mc ms free) g) : W p l e R s m args below meth c H locs cells slots (vx_MQ below Qc XC args s mc ms free) g := by
  intro T hT X
  obtain ⟨t, a1, o, b1, b2, b3, b4⟩ := k T hT X
  exact ⟨t, a1, o, b1, b2, Or.inl ⟨b3, b4⟩⟩
/-- not caught here: it goes on to the caller -/
theorem vx_widen {g : JFrame} {q : Addr} {k n : Nat} (h1 : cells ≤ k) (h2 : slots ≤ n) (kk : vx_W p l e R s m args below meth c H locs k n Q g q) : vx_W p l e R s m args below meth c H locs cells slots Q g q := fun T hT X => kk T hT (stand_widen X h1 h2)
theorem vx_out {pc : Nat} {E : String} {ce : Cell} {q : Addr} {mc ms : Nat} (hout : ∀ x ∈ c.exceptionTable.toList, covers x pc = false) (hlocks : meth.locks = false) (hcell : H[q]? = some ce) (hv : ce.vm = .none) (hcl : s.vm.findClass E = some ce.cls)
    (hx : ∀ t : State, t.heap = H → s.vm.Alike t.vm → XC E s t) (hf : ∀ z ∈ locs, free z.base) (hc : cells ≤ mc) (hs : slots ≤ ms) :
    vx_W p l e R s m args below meth c H locs cells slots (vx_MQ below Qc XC args s mc ms free) (F0 m pc ls rest) q := by
  intro T hT X
  obtain ⟨st1, hrun, hend, hW, hsm⟩ := X.leaveThrown q (g := F0 m pc ls rest) rfl rfl rfl hout hlocks
  have hcell9 : (T.setFrames (.throwing q :: below)).heap[q]? = some ce := by
    show T.heap[q]? = some ce
    rw [hT]; exact hcell
  exact ⟨_, st1, .threw q, hrun, hend, Or.inr ⟨q, rfl, E, ce, locs, hx _ hT hW.alike, hcell9, hv, hcl, hW, hsm.mono hc hs, hf⟩⟩
theorem vx_frame {U : State} {k n : Nat} (h : s.sameButNew ({ U with vm := s.vm } : State) locs k n) : s.heap.size ≤ U.heap.size ∧ ∀ q : Nat, q < s.heap.size → (∀ z ∈ locs, z.base ≠ q) → U.heap[q]? = s.heap[q]? := by
  obtain ⟨-, h2, -, -, -, h6⟩ := h
  refine ⟨h2, fun q hq hz => ?_⟩
  obtain ⟨c9, e1, e2, e3, e4⟩ := h6 q _ (Array.getElem?_eq_getElem hq)
  have hs : c9.slots = (s.heap[q]).slots := Array.ext_getElem? fun i => e4 i fun hm => hz _ hm rfl
  have h9 : c9 = s.heap[q] := by
    rw [hs] at e2
    exact e2
  have e5 : U.heap[q]? = some c9 := e1
  rw [e5, h9, Array.getElem?_eq_getElem hq]
/-- the words of a throw but the four that speak of the heap -/
def vx_no (w : Cond) : Bool := decide (w ≠ .isRef (.static Bundle.tN "UNASSIGNED_STACK" Bundle.steD)) && decide (w ≠ .isRef (.static Bundle.tN "SUPPRESSED_SENTINEL" Bundle.listD)) && decide (w ≠ .laysStatic Bundle.tN "UNASSIGNED_STACK" Bundle.steD) && decide (w ≠ .laysStatic Bundle.tN "SUPPRESSED_SENTINEL" Bundle.listD)
def vx_at0 (own : String) (ic : Nat) (X : String) (names : List String) : List Cond := (Bundle.ownAtoms0 own ic X names).filter vx_no
def vx_atS (own : String) (ic : Nat) (X : String) (names : List String) : List Cond := (Bundle.ownAtoms own ic X names).filter vx_no
/-- a word that the tables alone decide, or a good one -/
def vx_ot (w : Cond) : Bool := w.onTables || goodWord w
theorem vx_ot_at {args a' : Array Value} {s U : State} {w : Cond} (hW : s.WarmedH U.vm) (hvm : s.vm = U.vm) (hg : vx_ot w = true) (h : w.before args s = true) : w.before a' U = true := by
  simp only [vx_ot, Bool.or_eq_true] at hg
  rcases hg with hg | hg
  · exact va_tabs hg hvm h
  · exact word_at hW (good_of_word hg) h
/-- a list's words: the good ones out of the method's own list, the others by premises of their own -/
theorem vx_hat {args : Array Value} {s : State} {L B : List Cond} (h1 : ∀ w ∈ L.filter goodWord, w.before args s = true) (h2 : ∀ w ∈ L.filter (fun w => !goodWord w), w ∈ B) (h3 : ∀ w ∈ B, w.before args s = true) : ∀ w ∈ L, w.before args s = true := by
  intro w hw
  by_cases g : goodWord w = true
  · exact h1 w (List.mem_filter.mpr ⟨hw, g⟩)
  · refine h3 w (h2 w (List.mem_filter.mpr ⟨hw, ?_⟩))
    show (!goodWord w) = true
    cases hgw : goodWord w
    · rfl
    · exact absurd hgw g
theorem vx_c {args : Array Value} {s : State} {w : Cond} {B : List Cond} (h : w.before args s = true) (t : ∀ w ∈ B, w.before args s = true) : ∀ w' ∈ w :: B, w'.before args s = true := fun w' h' => (List.mem_cons.mp h').elim (fun e => by rw [e]; exact h) (t w')
theorem vx_n {args : Array Value} {s : State} : ∀ w ∈ ([] : List Cond), w.before args s = true := fun _ h => nomatch h
theorem vx_own {args : Array Value} {s : State} {L : List Cond} (h1 : ∀ w ∈ L.filter vx_no, w.before args s = true)
    (hU : (Cond.isRef (.static Bundle.tN "UNASSIGNED_STACK" Bundle.steD)).before args s = true) (hN : (Cond.isRef (.static Bundle.tN "SUPPRESSED_SENTINEL" Bundle.listD)).before args s = true)
    (lU : (Cond.laysStatic Bundle.tN "UNASSIGNED_STACK" Bundle.steD).before args s = true) (lN : (Cond.laysStatic Bundle.tN "SUPPRESSED_SENTINEL" Bundle.listD).before args s = true) : ∀ w ∈ L, w.before args s = true := by
  intro w hw
  by_cases e1 : w = .isRef (.static Bundle.tN "UNASSIGNED_STACK" Bundle.steD)
  · rw [e1]; exact hU
  · by_cases e2 : w = .isRef (.static Bundle.tN "SUPPRESSED_SENTINEL" Bundle.listD)
    · rw [e2]; exact hN
    · by_cases e3 : w = .laysStatic Bundle.tN "UNASSIGNED_STACK" Bundle.steD
      · rw [e3]; exact lU
      · by_cases e4 : w = .laysStatic Bundle.tN "SUPPRESSED_SENTINEL" Bundle.listD
        · rw [e4]; exact lN
        · exact h1 w (List.mem_filter.mpr ⟨hw, by unfold vx_no; rw [decide_eq_true e1, decide_eq_true e2, decide_eq_true e3, decide_eq_true e4]; rfl⟩)
/-- where a static field lies, its class's statics cell in H -/
def vx_L (C n d : String) (A : Nat → Prop) (U : State) (H : Heap) : Prop := ∃ (c : ClassId) (k : Class) (i : Nat) (f : Field) (a : Nat) (cell : Cell), U.vm.findClass C = some c ∧ U.fieldFound? C n d = some (c, k, i, f) ∧ f.isStatic = true ∧ k.statics = some a ∧ H[a]? = some cell ∧ cell.vm.isStatics = true ∧ cell.cls = c ∧ f.slot < cell.slots.size ∧ k.staticTypes[f.slot]? = some f.type ∧ ¬ A a
theorem vx_L.moved {C n d : String} {A : Nat → Prop} {u U : State} {H : Heap} (hvm : u.vm.Alike U.vm) (h : vx_L C n d A u H) : vx_L C n d A U H := by
  obtain ⟨c, k, i, f, a, cell, h1, h2, h3, h4, h5, h6, h7, h8, h9, h10⟩ := h
  obtain ⟨k', hi', he⟩ := State.fieldFound?_setVm hvm h2
  exact ⟨c, k', i, f, a, cell, by rw [hvm.findClass]; exact h1, hi', h3, by rw [he]; exact h4, h5, h6, h7, h8, by rw [he]; exact h9, h10⟩
theorem vx_L.kept {C n d : String} {A : Nat → Prop} {U : State} {H H1 : Heap} (h : vx_L C n d A U H) (hq : ∀ a : Nat, a < H.size → ¬ A a → H1[a]? = H[a]?) : vx_L C n d A U H1 := by
  obtain ⟨c, k, i, f, a, cell, h1, h2, h3, h4, h5, h6, h7, h8, h9, h10⟩ := h
  exact ⟨c, k, i, f, a, cell, h1, h2, h3, h4, by rw [hq a (Array.getElem?_eq_some_iff.mp h5).1 h10]; exact h5, h6, h7, h8, h9, h10⟩
theorem vx_L.narrow {C n d : String} {A B : Nat → Prop} {U : State} {H : Heap} (h : vx_L C n d A U H) (hAB : ∀ q, B q → A q) : vx_L C n d B U H := by
  obtain ⟨c, k, i, f, a, cell, h1, h2, h3, h4, h5, h6, h7, h8, h9, h10⟩ := h
  exact ⟨c, k, i, f, a, cell, h1, h2, h3, h4, h5, h6, h7, h8, h9, fun z => h10 (hAB _ z)⟩
theorem vx_L.word {C n d : String} {A : Nat → Prop} {s : State} {args : Array Value} (h : vx_L C n d A s s.heap) : (Cond.laysStatic C n d).before args s = true := by
  obtain ⟨c, k, i, f, a, cell, h1, h2, h3, h4, h5, h6, h7, h8, h9, -⟩ := h
  show (Cond.laysStatic C n d).holds args s none s [] = true
  exact Cond.laysStatic_of h1 h2 h3 h4 h5 h6 h7 h8 h9
/-- .. and what it holds: null or some reference -/
def vx_Zq (C n d : String) (A : Nat → Prop) (U : State) (H : Heap) : Prop := va_Zq C n d A U H ∧ vx_L C n d A U H
theorem vx_Zq.moved {C n d : String} {A : Nat → Prop} {u U : State} {H : Heap} (hvm : u.vm.Alike U.vm) (h : vx_Zq C n d A u H) : vx_Zq C n d A U H := ⟨va_Zq.moved hvm h.1, vx_L.moved hvm h.2⟩
theorem vx_Zq.kept {C n d : String} {A : Nat → Prop} {U : State} {H H1 : Heap} (h : vx_Zq C n d A U H) (hq : ∀ a : Nat, a < H.size → ¬ A a → H1[a]? = H[a]?) : vx_Zq C n d A U H1 := ⟨va_Zq.kept h.1 hq, vx_L.kept h.2 hq⟩
theorem vx_Zq.narrow {C n d : String} {A B : Nat → Prop} {U : State} {H : Heap} (h : vx_Zq C n d A U H) (hAB : ∀ q, B q → A q) : vx_Zq C n d B U H := ⟨va_Zq.narrow h.1 hAB, vx_L.narrow h.2 hAB⟩
theorem vx_Zqof {args : Array Value} {s : State} {C n d : String} {A : Nat → Prop} (hl : (Cond.laysStatic C n d).before args s = true) (hini : (Cond.initialized C).before args s = true) (h : (Cond.isRef (.static C n d)).before args s = true) (hA : ∀ a : Nat, a < s.heap.size → ¬ A a) : vx_Zq C n d A s s.heap := by
  refine ⟨va_Zqof hl hini h hA, ?_⟩
  obtain ⟨c, k, i, f, a, cell, h1, h2, h3, h4, h5, h6, h7, h8, h9⟩ := Cond.laysStatic_spec hl
  exact ⟨c, k, i, f, a, cell, h1, h2, h3, h4, h5, h6, h7, h8, h9, hA a (Array.getElem?_eq_some_iff.mp h5).1⟩
theorem vx_isRef {C n d : String} {v : Value} {A : Nat → Prop} {s : State} {args : Array Value} (h : va_Z C n d v A s s.heap) (hv : v.isRef = true) : (Cond.isRef (.static C n d)).before args s = true := by
  obtain ⟨cf, kf, fi, f, a, cell, h1, h2, h3, h4, h5, h6, h7, -⟩ := h
  have he : (Term.static C n d).eval args s none [] s = some v := by
    simp [Term.eval, State.fieldNamed?, h1, h2, h4, h5, h6, h7]
  simp only [Cond.before, Cond.holds, Cond.value, he]
  cases v <;> simp_all [Value.isRef]
theorem vx_isRefq {C n d : String} {A : Nat → Prop} {s : State} {args : Array Value} (h : va_Zq C n d A s s.heap) : (Cond.isRef (.static C n d)).before args s = true := by
  rcases h with h | ⟨t, h⟩
  · exact vx_isRef h rfl
  · exact vx_isRef h rfl
/-- the same frame, seen from here: as if the method were called anew in this heap -/
theorem vx_rebase {T : State} (X : Stand p l e R s m args below meth c T locs cells slots) {R' : Room} (hf : R'.frames ≤ R.frames) (hl : R'.locals ≤ R.locals) (hc : cells + R'.cells ≤ R.cells) (hs : slots + R'.slots ≤ R.slots) :
    Stand p l e R' ((T.setVm s.vm).setFrames (.invoking m args :: below)) m args below meth c T [] 0 0 := by
  have htop : (T.setVm s.vm).topJava?.isSome := X.here.top
  have hF : ((T.setVm s.vm).setFrames (.invoking m args :: below)).frames = .invoking m args :: below := State.frames_setFrames _ (State.cur_lt_of_top htop)
  obtain ⟨g₀, hg0⟩ := Option.isSome_iff_exists.mp htop
  obtain ⟨r, hr⟩ := State.topJava?_eq_some.mp hg0
  have hl9 : e.platform.stackLimits (T.setVm s.vm).me = e.platform.stackLimits s.me := X.limits
  have hb9 : (T.setVm s.vm).me.stackBytes = s.me.stackBytes := X.bytes
  refine ⟨X.admits, X.cas, X.clock, hF, ?_, X.hears, X.method, X.code, X.here, X.tail, X.warmed, ?_, ?_, ?_⟩
  · have h := X.room
    have hU : ((T.setVm s.vm).setFrames (.invoking m args :: below)).localsInUse = s.localsInUse := by
      rw [State.localsInUse_invoking hF (meth := meth) (c := c) X.method X.code, State.localsInUse_invoking X.frames X.method X.code]
    simp only [State.hasRoom, Bool.and_eq_true, decide_eq_true_eq] at h ⊢
    obtain ⟨⟨⟨⟨h1, h2, h3, h4, h5, h6⟩, h7⟩, h8⟩, h9⟩ := h
    rw [X.frames, List.length_cons] at h2 h3
    have q1 := X.heapSize
    have q2 := X.used
    simp only [hF, hU, List.length_cons, State.stackLimits_setFrames, State.stackBytes_setFrames, hl9, hb9]
    refine ⟨⟨⟨⟨by omega, by omega, by omega, by omega, by omega, h6⟩, ?_⟩, ?_⟩, X.book⟩
    · show T.heap.size + R'.cells ≤ e.platform.maxCells
      omega
    · show T.slotsUsed + R'.slots ≤ e.platform.maxSlots
      omega
  · rw [State.stackLimits_setFrames]; rfl
  · rw [State.stackBytes_setFrames]; rfl
  · refine ⟨?_, Nat.le_refl _, Nat.le_refl _, ?_, ?_, fun a c9 h9 => ⟨c9, h9, rfl, rfl, fun _ _ => rfl⟩⟩
    · obtain ⟨t, ht, -⟩ := State.frames_cons hr
      show T.setVm s.vm = { ((T.setVm s.vm).setFrames (.invoking m args :: below)).setFrames (T.setVm s.vm).frames with heap := T.heap, slotsUsed := T.slotsUsed }
      rw [State.setFrames_setFrames, State.setFrames_self ht]
      rfl
    · show T.slotsUsed = T.slotsUsed + ((T.heap.toList.drop T.heap.size).map (·.slots.size)).sum
      rw [List.drop_eq_nil_of_le (Nat.le_of_eq Array.length_toList)]
      rfl
    · show ((T.heap.toList.drop T.heap.size).map (·.slots.size)).sum ≤ 0
      rw [List.drop_eq_nil_of_le (Nat.le_of_eq Array.length_toList)]
      exact Nat.le_refl _
/-- 'throw new E()': new; dup; invokespecial; athrow -/
theorem vx_throw0 {cc : ByteArray} {pc : Nat} (hexec : p.tables.exec = Jvm.exec) (hb : c.code = cc) (hl : l.stackTraces = false) {own cls : String} {names : List String} {ik ic mc ms : Nat} {A : Nat → Prop}
    (hown : s.vm.findClass own = some m.cls) (hcls : Bundle.fit cls = true) (hnames : ∀ n ∈ names, Bundle.fit n = true)
    (hk : (Cond.classLink own ik cls).before args s = true) (hini : (Cond.initialized cls).before args s = true) (hat : ∀ w ∈ vx_at0 own ic cls names, w.before args s = true)
    (hgood : ∀ w ∈ Cond.classLink own ik cls :: Cond.initialized cls :: vx_at0 own ic cls names, vx_ot w = true)
    (hU : vx_Zq Bundle.tN "UNASSIGNED_STACK" Bundle.steD A s s.heap) (hN : vx_Zq Bundle.tN "SUPPRESSED_SENTINEL" Bundle.listD A s s.heap) (hS : va_S A s.heap H locs) (hsize : ls.size = c.maxLocals)
    (d0 : decode cc pc = .ok (.new ik, 3)) (d3 : decode cc (pc + 3) = .ok (.dup, 1)) (d4 : decode cc (pc + 4) = .ok (.invokespecial ic, 3)) (d7 : decode cc (pc + 7) = .ok (.athrow, 1))
    (hout : ∀ x ∈ c.exceptionTable.toList, covers x (pc + 7) = false)
    (hRframes : names.length + 3 < R.frames) (hRlocals : (rest.map fun v => v.category).sum + (13 * (names.length + 1) + 42) ≤ R.locals) (hRcells : cells + 1 ≤ R.cells) (hRslots : slots + 6 ≤ R.slots) (hlocks : meth.locks = false)
    (hx : ∀ t : State, s.vm.Alike t.vm → H.size ≤ t.heap.size → (∀ q : Nat, q < H.size → t.heap[q]? = H[q]?) → XC cls s t)
    (hf : ∀ z ∈ locs, free z.base) (hc : cells + 1 ≤ mc) (hs : slots + 6 ≤ ms) :
    W p l e R s m args below meth c H locs cells slots (vx_MQ below Qc XC args s mc ms free) (F0 m pc ls rest) := by
  intro T hT X
  have htr : e.platform.stackTraces = false := (show e.platform.stackTraces = l.stackTraces by rw [X.admits.platform]).trans hl
  have Y := vx_rebase X (R' := { frames := R.frames, locals := R.locals, cells := 1, slots := 6 }) (Nat.le_refl _) (Nat.le_refl _) hRcells hRslots
  obtain ⟨s', hA⟩ : ∃ z, z = (T.setVm s.vm).setFrames (.invoking m args :: below) := ⟨_, rfl⟩
  rw [← hA] at Y
  have hvm : s'.vm = s.vm := by rw [hA]; rfl
  have hhp : s'.heap = H := by rw [hA]; exact hT
  have hW0 : s.WarmedH s'.vm := by rw [hvm]; exact State.WarmedH.refl s
  have hat' : ∀ w ∈ vx_at0 own ic cls names, w.before args s' = true := fun w hw => vx_ot_at hW0 hvm.symm (hgood w (List.mem_cons_of_mem _ (List.mem_cons_of_mem _ hw))) (hat w hw)
  have hk' : (Cond.classLink own ik cls).before args s' = true := vx_ot_at hW0 hvm.symm (hgood _ List.mem_cons_self) hk
  have hini' : (Cond.initialized cls).before args s' = true := vx_ot_at hW0 hvm.symm (hgood _ (List.mem_cons_of_mem _ List.mem_cons_self)) hini
  have hU' : vx_Zq Bundle.tN "UNASSIGNED_STACK" Bundle.steD A s' s'.heap := by rw [hhp]; exact vx_Zq.moved hW0.alike (hU.kept hS.2.1)
  have hN' : vx_Zq Bundle.tN "SUPPRESSED_SENTINEL" Bundle.listD A s' s'.heap := by rw [hhp]; exact vx_Zq.moved hW0.alike (hN.kept hS.2.1)
  have h : ∀ w ∈ Bundle.ownAtoms0 own ic cls names, w.before args s' = true := vx_own hat' (vx_isRefq hU'.1) (vx_isRefq hN'.1) hU'.2.word hN'.2.word
  have hown' : s'.vm.findClass own = some m.cls := by rw [hvm]; exact hown
  have hins : (Cond.instantiable cls 6).before args s' = true := h _ (by simp [Bundle.ownAtoms0])
  obtain ⟨vm₁, cX, kX, hfX, hkX, -, -, X₁, st1⟩ := Y.newCold hexec (own := own) (C := cls) (index := ik) (n := 6) hown' hk' hins hini'
    (g := F0 m pc ls rest) rfl (by rw [hb]; exact d0) (Nat.le_refl _) (Nat.le_refl _)
  generalize hT1 : (T.setVm vm₁).pushCell { cls := cX, slots := kX.instanceTypes.map defaultValue, vm := .none } = T1 at X₁ st1
  have hcat : (Value.ref T.heap.size).category = 1 := rfl
  have hcellA : T1.heap[T.heap.size]? = some (freshCell cX kX) := by rw [← hT1]; exact State.heap_pushCell_size _ _
  have d3' : decode c.code (pc + 3) = .ok (.dup, 1) := by rw [hb]; exact d3
  obtain ⟨U, hsteps, hrun, hend, hW, hsame, ce, hce, hO⟩ := X₁.ctorThrow0 hexec htr (own := own) (cls := cls) (names := names) (ic := ic) hown' hcls hnames h (fun x hx => nomatch hx) hfX hkX hcellA (by rw [hhp, hT]; exact Nat.le_refl _)
    (g := { method := m, pc := pc + 4, locals := ls, stack := .ref T.heap.size :: .ref T.heap.size :: rest, locked := none }) rfl hsize rfl rfl (rest := rest) rfl
    (by rw [hb]; exact d4) (by rw [hb]; exact d7) hout hRframes (by simp only [List.map_cons, List.sum_cons, hcat]; omega) hlocks
  obtain ⟨f1, f2⟩ := vx_frame hsame
  rw [hhp] at f1 f2
  have hWs : s.WarmedH U.vm := State.WarmedH.trans hW0 hW
  have hcl : s.vm.findClass cls = some ce.cls := by
    have h9 := hO.cls
    rw [hvm] at h9
    exact h9
  have hall : s.sameButNew ({ U with vm := s.vm } : State) locs mc ms := by
    subst hA
    obtain ⟨e1, e2⟩ := hsame
    rw [State.setFrames_setFrames] at e1
    have h2 : (T.setVm s.vm).sameButNew ({ U with vm := s.vm } : State) [] (0 + 1) (0 + 6) := ⟨e1, e2⟩
    have h3 := X.same.trans h2
    rw [List.append_nil] at h3
    exact h3.mono hc hs
  refine ⟨U, ?_, .threw T.heap.size, hrun, hend, Or.inr ⟨T.heap.size, rfl, cls, ce, locs, hx U hWs.alike f1 (fun q hq => f2 q hq (fun z hz => nomatch hz)), hce, hO.vm, hcl, hWs, hall, hf⟩⟩
  refine st1 _ ?_
  show Steps p.tables e below (T1.setTop { method := m, pc := pc + 3, locals := ls, stack := .ref T.heap.size :: rest, locked := none }) _
  jvm_step X₁.here [X₁.here.top, hexec, d3', Value.category]
  exact hsteps
/-- 'throw new E("text")': new; dup; ldc; invokespecial; athrow -/
theorem vx_throwS {cc : ByteArray} {pc : Nat} (hexec : p.tables.exec = Jvm.exec) (hb : c.code = cc) (hl : l.stackTraces = false) {own cls text : String} {names : List String} {ik is ic mc ms sa : Nat} {A : Nat → Prop}
    (hown : s.vm.findClass own = some m.cls) (hcls : Bundle.fit cls = true) (hnames : ∀ n ∈ names, Bundle.fit n = true)
    (hk : (Cond.classLink own ik cls).before args s = true) (hini : (Cond.initialized cls).before args s = true) (hstr : vk_R own is text sa s) (hat : ∀ w ∈ vx_atS own ic cls names, w.before args s = true)
    (hgood : ∀ w ∈ Cond.classLink own ik cls :: Cond.initialized cls :: vx_atS own ic cls names, vx_ot w = true)
    (hU : vx_Zq Bundle.tN "UNASSIGNED_STACK" Bundle.steD A s s.heap) (hN : vx_Zq Bundle.tN "SUPPRESSED_SENTINEL" Bundle.listD A s s.heap) (hS : va_S A s.heap H locs) (hsize : ls.size = c.maxLocals)
    (d0 : decode cc pc = .ok (.new ik, 3)) (d3 : decode cc (pc + 3) = .ok (.dup, 1)) (d4 : decode cc (pc + 4) = .ok (.ldc is, 2)) (d6 : decode cc (pc + 6) = .ok (.invokespecial ic, 3)) (d9 : decode cc (pc + 9) = .ok (.athrow, 1))
    (hout : ∀ x ∈ c.exceptionTable.toList, covers x (pc + 9) = false)
    (hRframes : names.length + 3 < R.frames) (hRlocals : (rest.map fun v => v.category).sum + (13 * (names.length + 1) + 43) ≤ R.locals) (hRcells : cells + 1 ≤ R.cells) (hRslots : slots + 6 ≤ R.slots) (hlocks : meth.locks = false)
    (hx : ∀ t : State, s.vm.Alike t.vm → H.size ≤ t.heap.size → (∀ q : Nat, q < H.size → t.heap[q]? = H[q]?) → XC cls s t)
    (hf : ∀ z ∈ locs, free z.base) (hc : cells + 1 ≤ mc) (hs : slots + 6 ≤ ms) :
    W p l e R s m args below meth c H locs cells slots (vx_MQ below Qc XC args s mc ms free) (F0 m pc ls rest) := by
  intro T hT X
  have htr : e.platform.stackTraces = false := (show e.platform.stackTraces = l.stackTraces by rw [X.admits.platform]).trans hl
  have Y := vx_rebase X (R' := { frames := R.frames, locals := R.locals, cells := 1, slots := 6 }) (Nat.le_refl _) (Nat.le_refl _) hRcells hRslots
  obtain ⟨s', hA⟩ : ∃ z, z = (T.setVm s.vm).setFrames (.invoking m args :: below) := ⟨_, rfl⟩
  rw [← hA] at Y
  have hvm : s'.vm = s.vm := by rw [hA]; rfl
  have hhp : s'.heap = H := by rw [hA]; exact hT
  have hW0 : s.WarmedH s'.vm := by rw [hvm]; exact State.WarmedH.refl s
  have hat' : ∀ w ∈ vx_atS own ic cls names, w.before args s' = true := fun w hw => vx_ot_at hW0 hvm.symm (hgood w (List.mem_cons_of_mem _ (List.mem_cons_of_mem _ hw))) (hat w hw)
  have hk' : (Cond.classLink own ik cls).before args s' = true := vx_ot_at hW0 hvm.symm (hgood _ List.mem_cons_self) hk
  have hini' : (Cond.initialized cls).before args s' = true := vx_ot_at hW0 hvm.symm (hgood _ (List.mem_cons_of_mem _ List.mem_cons_self)) hini
  have hU' : vx_Zq Bundle.tN "UNASSIGNED_STACK" Bundle.steD A s' s'.heap := by rw [hhp]; exact vx_Zq.moved hW0.alike (hU.kept hS.2.1)
  have hN' : vx_Zq Bundle.tN "SUPPRESSED_SENTINEL" Bundle.listD A s' s'.heap := by rw [hhp]; exact vx_Zq.moved hW0.alike (hN.kept hS.2.1)
  have h : ∀ w ∈ Bundle.ownAtoms own ic cls names, w.before args s' = true := vx_own hat' (vx_isRefq hU'.1) (vx_isRefq hN'.1) hU'.2.word hN'.2.word
  have hown' : s'.vm.findClass own = some m.cls := by rw [hvm]; exact hown
  have hins : (Cond.instantiable cls 6).before args s' = true := h _ (by simp [Bundle.ownAtoms])
  obtain ⟨vm₁, cX, kX, hfX, hkX, -, -, X₁, st1⟩ := Y.newCold hexec (own := own) (C := cls) (index := ik) (n := 6) hown' hk' hins hini'
    (g := F0 m pc ls rest) rfl (by rw [hb]; exact d0) (Nat.le_refl _) (Nat.le_refl _)
  generalize hT1 : (T.setVm vm₁).pushCell { cls := cX, slots := kX.instanceTypes.map defaultValue, vm := .none } = T1 at X₁ st1
  have hcat : (Value.ref T.heap.size).category = 1 := rfl
  have hcellA : T1.heap[T.heap.size]? = some (freshCell cX kX) := by rw [← hT1]; exact State.heap_pushCell_size _ _
  have d3' : decode c.code (pc + 3) = .ok (.dup, 1) := by rw [hb]; exact d3
  have d4' : decode c.code (pc + 4) = .ok (.ldc is, 2) := by rw [hb]; exact d4
  have hstr' : vk_R own is text sa s' := vk_R.warm hW0 hstr
  obtain ⟨U, hsteps, hrun, hend, hW, hsame, ce, hce, hO⟩ := X₁.ctorThrowS hexec htr (own := own) (cls := cls) (names := names) (ic := ic) hown' hcls hnames h (fun x hx => nomatch hx) hfX hkX hcellA (by rw [hhp, hT]; exact Nat.le_refl _) (msg := .ref sa) rfl
    (g := { method := m, pc := pc + 6, locals := ls, stack := .ref sa :: .ref T.heap.size :: .ref T.heap.size :: rest, locked := none }) rfl hsize rfl rfl (rest := rest) rfl
    (by rw [hb]; exact d6) (by rw [hb]; exact d9) hout hRframes (by simp only [List.map_cons, List.sum_cons, hcat]; omega) hlocks
  obtain ⟨f1, f2⟩ := vx_frame hsame
  rw [hhp] at f1 f2
  have hWs : s.WarmedH U.vm := State.WarmedH.trans hW0 hW
  have hcl : s.vm.findClass cls = some ce.cls := by
    have h9 := hO.cls
    rw [hvm] at h9
    exact h9
  have hall : s.sameButNew ({ U with vm := s.vm } : State) locs mc ms := by
    subst hA
    obtain ⟨e1, e2⟩ := hsame
    rw [State.setFrames_setFrames] at e1
    have h2 : (T.setVm s.vm).sameButNew ({ U with vm := s.vm } : State) [] (0 + 1) (0 + 6) := ⟨e1, e2⟩
    have h3 := X.same.trans h2
    rw [List.append_nil] at h3
    exact h3.mono hc hs
  refine ⟨U, ?_, .threw T.heap.size, hrun, hend, Or.inr ⟨T.heap.size, rfl, cls, ce, locs, hx U hWs.alike f1 (fun q hq => f2 q hq (fun z hz => nomatch hz)), hce, hO.vm, hcl, hWs, hall, hf⟩⟩
  refine st1 _ ?_
  show Steps p.tables e below (T1.setTop { method := m, pc := pc + 3, locals := ls, stack := .ref T.heap.size :: rest, locked := none }) _
  jvm_step X₁.here [X₁.here.top, hexec, d3', Value.category]
  exact X₁.ldcString hexec (own := own) (text := text) (index := is) (a := sa) hown' hstr'.1 hstr'.2
    (g := { method := m, pc := pc + 4, locals := ls, stack := .ref T.heap.size :: .ref T.heap.size :: rest, locked := none }) rfl d4' _ hsteps
/-- 'throw new E("text")', the text by a wide index -/
theorem vx_throwSW {cc : ByteArray} {pc : Nat} (hexec : p.tables.exec = Jvm.exec) (hb : c.code = cc) (hl : l.stackTraces = false) {own cls text : String} {names : List String} {ik is ic mc ms sa : Nat} {A : Nat → Prop}
    (hown : s.vm.findClass own = some m.cls) (hcls : Bundle.fit cls = true) (hnames : ∀ n ∈ names, Bundle.fit n = true)
    (hk : (Cond.classLink own ik cls).before args s = true) (hini : (Cond.initialized cls).before args s = true) (hstr : vk_R own is text sa s) (hat : ∀ w ∈ vx_atS own ic cls names, w.before args s = true)
    (hgood : ∀ w ∈ Cond.classLink own ik cls :: Cond.initialized cls :: vx_atS own ic cls names, vx_ot w = true)
    (hU : vx_Zq Bundle.tN "UNASSIGNED_STACK" Bundle.steD A s s.heap) (hN : vx_Zq Bundle.tN "SUPPRESSED_SENTINEL" Bundle.listD A s s.heap) (hS : va_S A s.heap H locs) (hsize : ls.size = c.maxLocals)
    (d0 : decode cc pc = .ok (.new ik, 3)) (d3 : decode cc (pc + 3) = .ok (.dup, 1)) (d4 : decode cc (pc + 4) = .ok (.ldc_w is, 3)) (d7 : decode cc (pc + 7) = .ok (.invokespecial ic, 3)) (d10 : decode cc (pc + 10) = .ok (.athrow, 1))
    (hout : ∀ x ∈ c.exceptionTable.toList, covers x (pc + 10) = false)
    (hRframes : names.length + 3 < R.frames) (hRlocals : (rest.map fun v => v.category).sum + (13 * (names.length + 1) + 43) ≤ R.locals) (hRcells : cells + 1 ≤ R.cells) (hRslots : slots + 6 ≤ R.slots) (hlocks : meth.locks = false)
    (hx : ∀ t : State, s.vm.Alike t.vm → H.size ≤ t.heap.size → (∀ q : Nat, q < H.size → t.heap[q]? = H[q]?) → XC cls s t)
    (hf : ∀ z ∈ locs, free z.base) (hc : cells + 1 ≤ mc) (hs : slots + 6 ≤ ms) :
    W p l e R s m args below meth c H locs cells slots (vx_MQ below Qc XC args s mc ms free) (F0 m pc ls rest) := by
  intro T hT X
  have htr : e.platform.stackTraces = false := (show e.platform.stackTraces = l.stackTraces by rw [X.admits.platform]).trans hl
  have Y := vx_rebase X (R' := { frames := R.frames, locals := R.locals, cells := 1, slots := 6 }) (Nat.le_refl _) (Nat.le_refl _) hRcells hRslots
  obtain ⟨s', hA⟩ : ∃ z, z = (T.setVm s.vm).setFrames (.invoking m args :: below) := ⟨_, rfl⟩
  rw [← hA] at Y
  have hvm : s'.vm = s.vm := by rw [hA]; rfl
  have hhp : s'.heap = H := by rw [hA]; exact hT
  have hW0 : s.WarmedH s'.vm := by rw [hvm]; exact State.WarmedH.refl s
  have hat' : ∀ w ∈ vx_atS own ic cls names, w.before args s' = true := fun w hw => vx_ot_at hW0 hvm.symm (hgood w (List.mem_cons_of_mem _ (List.mem_cons_of_mem _ hw))) (hat w hw)
  have hk' : (Cond.classLink own ik cls).before args s' = true := vx_ot_at hW0 hvm.symm (hgood _ List.mem_cons_self) hk
  have hini' : (Cond.initialized cls).before args s' = true := vx_ot_at hW0 hvm.symm (hgood _ (List.mem_cons_of_mem _ List.mem_cons_self)) hini
  have hU' : vx_Zq Bundle.tN "UNASSIGNED_STACK" Bundle.steD A s' s'.heap := by rw [hhp]; exact vx_Zq.moved hW0.alike (hU.kept hS.2.1)
  have hN' : vx_Zq Bundle.tN "SUPPRESSED_SENTINEL" Bundle.listD A s' s'.heap := by rw [hhp]; exact vx_Zq.moved hW0.alike (hN.kept hS.2.1)
  have h : ∀ w ∈ Bundle.ownAtoms own ic cls names, w.before args s' = true := vx_own hat' (vx_isRefq hU'.1) (vx_isRefq hN'.1) hU'.2.word hN'.2.word
  have hown' : s'.vm.findClass own = some m.cls := by rw [hvm]; exact hown
  have hins : (Cond.instantiable cls 6).before args s' = true := h _ (by simp [Bundle.ownAtoms])
  obtain ⟨vm₁, cX, kX, hfX, hkX, -, -, X₁, st1⟩ := Y.newCold hexec (own := own) (C := cls) (index := ik) (n := 6) hown' hk' hins hini'
    (g := F0 m pc ls rest) rfl (by rw [hb]; exact d0) (Nat.le_refl _) (Nat.le_refl _)
  generalize hT1 : (T.setVm vm₁).pushCell { cls := cX, slots := kX.instanceTypes.map defaultValue, vm := .none } = T1 at X₁ st1
  have hcat : (Value.ref T.heap.size).category = 1 := rfl
  have hcellA : T1.heap[T.heap.size]? = some (freshCell cX kX) := by rw [← hT1]; exact State.heap_pushCell_size _ _
  have d3' : decode c.code (pc + 3) = .ok (.dup, 1) := by rw [hb]; exact d3
  have d4' : decode c.code (pc + 4) = .ok (.ldc_w is, 3) := by rw [hb]; exact d4
  have hstr' : vk_R own is text sa s' := vk_R.warm hW0 hstr
  obtain ⟨U, hsteps, hrun, hend, hW, hsame, ce, hce, hO⟩ := X₁.ctorThrowS hexec htr (own := own) (cls := cls) (names := names) (ic := ic) hown' hcls hnames h (fun x hx => nomatch hx) hfX hkX hcellA (by rw [hhp, hT]; exact Nat.le_refl _) (msg := .ref sa) rfl
    (g := { method := m, pc := pc + 7, locals := ls, stack := .ref sa :: .ref T.heap.size :: .ref T.heap.size :: rest, locked := none }) rfl hsize rfl rfl (rest := rest) rfl
    (by rw [hb]; exact d7) (by rw [hb]; exact d10) hout hRframes (by simp only [List.map_cons, List.sum_cons, hcat]; omega) hlocks
  obtain ⟨f1, f2⟩ := vx_frame hsame
  rw [hhp] at f1 f2
  have hWs : s.WarmedH U.vm := State.WarmedH.trans hW0 hW
  have hcl : s.vm.findClass cls = some ce.cls := by
    have h9 := hO.cls
    rw [hvm] at h9
    exact h9
  have hall : s.sameButNew ({ U with vm := s.vm } : State) locs mc ms := by
    subst hA
    obtain ⟨e1, e2⟩ := hsame
    rw [State.setFrames_setFrames] at e1
    have h2 : (T.setVm s.vm).sameButNew ({ U with vm := s.vm } : State) [] (0 + 1) (0 + 6) := ⟨e1, e2⟩
    have h3 := X.same.trans h2
    rw [List.append_nil] at h3
    exact h3.mono hc hs
  refine ⟨U, ?_, .threw T.heap.size, hrun, hend, Or.inr ⟨T.heap.size, rfl, cls, ce, locs, hx U hWs.alike f1 (fun q hq => f2 q hq (fun z hz => nomatch hz)), hce, hO.vm, hcl, hWs, hall, hf⟩⟩
  refine st1 _ ?_
  show Steps p.tables e below (T1.setTop { method := m, pc := pc + 3, locals := ls, stack := .ref T.heap.size :: rest, locked := none }) _
  jvm_step X₁.here [X₁.here.top, hexec, d3', Value.category]
  exact X₁.ldcStringW hexec (own := own) (text := text) (index := is) (a := sa) hown' hstr'.1 hstr'.2
    (g := { method := m, pc := pc + 4, locals := ls, stack := .ref T.heap.size :: .ref T.heap.size :: rest, locked := none }) rfl d4' _ hsteps
end Ends
section Bodies
variable {l : Launch}
theorem vx_ofW {y : MethodName} {ws ws' : List Cond} {rm : Room} {Pc : Array Value → State → Prop} {Qc : Array Value → State → Outcome → State → Prop} {XC : String → State → State → Prop} {mc ms : Nat} {free : Addr → Prop} {cc : ByteArray} {maxL : Nat} {ret : Option FieldType}
    (hy : plainName y.cls = true) (hw : ws = Cond.code y cc maxL ret :: ws')
    (body : ∀ p e s m args below meth c s₁, BodyLoose p l y (headSpec ws rm) cc maxL ret e s m args below meth c s₁ → c.maxLocals = maxL → (∀ x ∈ c.exceptionTable.toList, False) → Pc args s →
      W p l e (headSpec ws rm).room s m args below meth c s.heap [] 0 0 (vx_MQ below Qc XC args s mc ms free) (entryFrame m args maxL)) : vx_Met l y ws rm Pc Qc XC mc ms free := by
  refine MetFree.of_bodyS (code := cc) (maxLocals := maxL) (ret := ret) hy ?_ ?_
  · intro args s m h hn
    obtain ⟨meth, c, h1, h2, h3, h4, h5, h6, -, -⟩ := Cond.code_spec hn (atoms_spec (ws := ws) h _ (by rw [hw]; exact List.mem_cons_self))
    exact ⟨meth, c, h1, h2, h3, h4, h5, h6⟩
  · intro p e s m args below meth c s₁ B hml hP _
    have hh0 : s₁.heap = s.heap := by rw [B.state]; rfl
    have ht : ∀ x ∈ c.exceptionTable.toList, False := by
      obtain ⟨meth9, c9, h1, h2, -, -, -, -, h7, -⟩ := Cond.code_spec B.named (atoms_spec (ws := ws) B.pre _ (by rw [hw]; exact List.mem_cons_self))
      cases Option.some.inj (h1.symm.trans B.method)
      cases Option.some.inj (h2.symm.trans (Stand.of_body B).code)
      intro x hx
      rw [Array.isEmpty_iff.mp h7] at hx
      cases hx
    obtain ⟨t, a1, o, b1, b2, b3⟩ := body p e s m args below meth c s₁ B hml ht hP s₁ hh0 (Stand.of_body B)
    exact ⟨t, o, a1, b1, b2, b3⟩
/-- the table of a body with handlers -/
theorem vx_table {p : Program} {x y : MethodName} {S : Spec} {cc bytes : ByteArray} {maxL maxL' : Nat} {ret ret' : Option FieldType} {e : Env} {s s₁ : State} {m : MethodId} {args : Array Value} {below : List Frame} {meth : Method} {c : Code} {hh : List (Nat × Nat × Nat × Nat)}
    (B : BodyLoose p l y S cc maxL ret e s m args below meth c s₁) (h : (Cond.codeWith y bytes maxL' ret' hh).before args s = true) : c.exceptionTable.toList = tableOf hh := by
  obtain ⟨m9, meth9, c9, hn9, h1, h2, -, -, h6, -⟩ := Cond.codeWith_spec h
  cases Option.some.inj (hn9.symm.trans B.named)
  cases Option.some.inj (h1.symm.trans B.method)
  cases Option.some.inj (h2.symm.trans (Stand.of_body B).code)
  rw [← h6, table_eq]
end Bodies
end VXA
/-! ===== END ===== -/
/-! ===== BEGIN a static call of a method with an exception table ===== -/
section VXS
variable {p : Program} {l : Launch} {e : Env} {R : Room} {s : State} {m : MethodId} {args : Array Value} {below : List Frame} {meth : Method} {c : Code} {T : State} {H : Heap} {locs : List Loc} {cells slots : Nat}
abbrev vx_CSW (R : Room) (s : State) (args : Array Value) (own : String) (index : Nat) (y : MethodName) (bytes : ByteArray) (maxL : Nat) (ret : Option FieldType) (hh : List (Nat × Nat × Nat × Nat)) (ws : List Cond) (rm : Room) (mc ms n : Nat) : Prop :=
  (rm.cells = mc ∧ rm.slots = ms ∧ rm.frames + 1 ≤ R.frames ∧ 8 + (maxL + 11) + rm.locals ≤ R.locals ∧ (∀ w ∈ ws, ∀ (a' : Array Value) (U : State), s.WarmedH U.vm → w.before a' U = true) ∧ Cond.codeWith y bytes maxL ret hh ∈ ws) ∧
  (Cond.codeWith y bytes maxL ret hh).before args s = true ∧ (Cond.initialized y.cls).before args s = true ∧ (y.cls ≠ "java/lang/invoke/MethodHandle" ∧ y.cls ≠ "java/lang/invoke/VarHandle") ∧
  (∀ sig, parseMethodDescriptor y.desc = some sig → n = sig.parameters.length) ∧ (Cond.methodLink own index y).before args s = true ∧ (Cond.static y).before args s = true
theorem vx_cwSW {own : String} {index maxL mc ms : Nat} {y : MethodName} {bytes : ByteArray} {ret : Option FieldType} {hh : List (Nat × Nat × Nat × Nat)} {Ts ws ws' : List Cond} {rm : Room} (n : Nat) (ht : ∀ w ∈ Ts, w.before args s = true) (hT : GoodIn Ts (va_wsS own index y ws)) (hw : ws = Cond.codeWith y bytes maxL ret hh :: ws') (hrc : rm.cells = mc) (hrs : rm.slots = ms)
    (hd : y.cls ≠ "java/lang/invoke/MethodHandle" ∧ y.cls ≠ "java/lang/invoke/VarHandle" ∧ (parseMethodDescriptor y.desc).map (fun d => d.parameters.length) = some n) (hR : rm.frames + 1 ≤ R.frames ∧ 8 + (maxL + 11) + rm.locals ≤ R.locals) :
    vx_CSW R s args own index y bytes maxL ret hh ws rm mc ms n := by
  have ok : ∀ w ∈ va_wsS own index y ws, w.before args s = true := fun w h => ht w (hT w h).1
  have hG : GoodIn Ts ws := fun w h => hT w (by unfold va_wsS; exact List.mem_append_right _ h)
  have hc : Cond.codeWith y bytes maxL ret hh ∈ ws := by rw [hw]; exact List.mem_cons_self
  refine ⟨⟨hrc, hrs, hR.1, hR.2, pay_in ht hG, hc⟩, ht _ (hG _ hc).1, ok _ (by simp [va_wsS]), ⟨hd.1, hd.2.1⟩, fun sig h => ?_, ok _ (by simp [va_wsS]), ok _ (by simp [va_wsS])⟩
  have h2 := hd.2.2
  rw [h] at h2
  exact (Option.some.inj h2).symm
theorem vx_callSW (X : Stand p l e R s m args below meth c T locs cells slots) (hexec : p.tables.exec = Jvm.exec) {own : String} {index : Nat} {y : MethodName} {bytes : ByteArray} {maxL : Nat} {ret : Option FieldType} {hh : List (Nat × Nat × Nat × Nat)}
    (hown : s.vm.findClass own = some m.cls) (hlink : (Cond.methodLink own index y).before args s = true) (hstat : (Cond.static y).before args s = true) (hinit : (Cond.initialized y.cls).before args s = true)
    (hcode : (Cond.codeWith y bytes maxL ret hh).before args s = true) (hy : y.cls ≠ "java/lang/invoke/MethodHandle" ∧ y.cls ≠ "java/lang/invoke/VarHandle")
    {W9 : Nat} {Pre : Pt → Array Value → Prop} {Post : Pt → Array Value → Option Value → Pt → Prop} (hK : Back l R p e below s args y 3 W9 Pre Post)
    {g : JFrame} (hg : g.method = m) (hsize : g.locals.size = c.maxLocals) {argsL rest : List Value} (hlen : ∀ sig, parseMethodDescriptor y.desc = some sig → argsL.length = sig.parameters.length)
    (hstack : g.stack = argsL.reverse ++ rest) (hW : 2 * g.monitorRoom + (rest.map fun v => v.category).sum ≤ W9) (hdg : decode c.code g.pc = .ok (.invokestatic index, 3))
    (hpre : ∀ vm₁, s.WarmedH vm₁ → Pre ⟨T.setVm vm₁, locs, cells, slots⟩ argsL.toArray) :
    ∃ (v : Option Value) (vm₁ : Vm) (B : Pt), s.WarmedH vm₁ ∧ Stand p l e R s m args below meth c B.U B.locs B.cells B.slots ∧ Post ⟨T.setVm vm₁, locs, cells, slots⟩ argsL.toArray v B ∧
      ∀ target, Steps p.tables e below (B.U.setTop { g with pc := g.pc + 3, stack := v.toList ++ rest }) target → Steps p.tables e below (T.setTop g) target := by
  obtain ⟨mk, methM, cM, hnamed, hmethM, -, -, -, -, -, -, hsigM⟩ := Cond.codeWith_spec hcode
  have hstatic : methM.isStatic = true := Cond.static_spec hnamed hmethM hstat
  obtain ⟨kP, hkP, -⟩ := className_of_methodNamed hnamed
  have hinitP : kP.init = .initialized := Cond.initialized_spec (findClass_of_methodNamed hnamed) hkP hinit
  obtain ⟨vm₁, X₁, hstep₁⟩ := X.invokestatic hexec hown hlink hnamed hmethM hstatic hkP hinitP hy (g := g) hg (argsL := argsL) (rest := rest) (hlen _ hsigM) hstack hdg
  obtain ⟨v, B, X', hpost, hsteps⟩ := hK m meth c ⟨T.setVm vm₁, locs, cells, slots⟩ { g with stack := rest } (.invokestatic index) mk argsL.toArray X₁ hg hsize hdg hW (X₁.named hnamed) (hpre vm₁ X₁.warmed)
  exact ⟨v, vm₁, B, X₁.warmed, X', hpost, fun target h => hstep₁ _ fun acts => by rw [doInvoke_state]; exact hsteps.trans h⟩
theorem vx_runSW {y : MethodName} {bytes cc : ByteArray} {maxL nL mc ms n index : Nat} {ret : Option FieldType} {hh : List (Nat × Nat × Nat × Nat)} {ws : List Cond} {rm : Room} {Pc : Array Value → State → Prop} {Qc : Array Value → State → Outcome → State → Prop} {free : Addr → Prop} {Ts : List Cond} {own : String} {As rest : List Value} {g : JFrame}
    (S : CallFix p m c cc nL s args Ts own) (hM : Met l y ws rm Pc Qc mc ms free) (cw : vx_CSW R s args own index y bytes maxL ret hh ws rm mc ms n) (hp : PreS s H Pc As)
    (hg : g.method = m) (hn : As.length = n) (hsize : g.locals.size = nL) (hstack : g.stack = As.reverse ++ rest) (hW : 2 * g.monitorRoom + (rest.map fun v => v.category).sum ≤ 8) (hdg : decode cc g.pc = .ok (.invokestatic index, 3)) (hf : cells + mc ≤ R.cells ∧ slots + ms ≤ R.slots) :
    va_Run p l e R s m args below meth c H locs cells slots mc ms g rest (Qc As.toArray) (free) := by
  obtain ⟨⟨hrc, hrs, hfr, hlo, hws, hcw⟩, hcode, hini, hy, hlen, hl, hstt⟩ := cw
  have hK : Back l R p e below s args y 3 8 (PreOf R mc ms Pc) (PostOf Qc mc ms free) := va_backW (hh := hh) (bytes := bytes) (maxL := maxL) (ret := ret) hM hp.1 hrc hrs hfr hlo hws hcw (fun a' U hW => word_at hW (Or.inl (by first | rfl | simp [Cond.onTables, Cond.keeps, Cond.steady])) hini)
  obtain ⟨hx, hb, hml, ho, -⟩ := S
  intro T hT X
  obtain ⟨v, vm₁, ⟨U', l2, c2, s2⟩, hW₁, X', ⟨g', mk, t, L, e1, e2, hq, h1, hL, h2, h3⟩, st⟩ := vx_callSW X hx (hh := hh) (bytes := bytes) (maxL := maxL) (ret := ret) ho hl hstt hini hcode hy hK hg (hsize.trans hml.symm) (argsL := As) (rest := rest) (fun sig h => hn.trans (hlen sig h)) hstack hW (by rw [hb]; exact hdg)
    (fun vm₁ hW₁ => ⟨hf.1, hf.2, hp.2 (T.setVm vm₁) hT hW₁⟩)
  dsimp only [Pt.U, Pt.locs, Pt.cells, Pt.slots] at X' e1 e2 h1 h2 h3 st
  subst h1; subst h2; subst h3
  exact ⟨v, (T.setVm vm₁).calling g' mk As.toArray, t, U', L, hT, X', hL, e1, e2, hq, st⟩
/-- not caught here, past rows that name other classes: it goes on to the caller -/
theorem vx_outP {p : Program} {l : Launch} {e : Env} {R : Room} {s : State} {m : MethodId} {args : Array Value} {below : List Frame} {meth : Method} {c : Code} {H : Heap} {locs : List Loc} {cells slots : Nat} {free : Addr → Prop} {ls : Array Slot} {rest : List Value} {Qc : Array Value → State → Outcome → State → Prop} {XC : String → State → State → Prop}
    {pc : Nat} {own E : String} {ce : Cell} {q : Addr} {mc ms : Nat} (hown : s.vm.findClass own = some m.cls) (hlocks : meth.locks = false)
    (hpass : ∀ z ∈ c.exceptionTable.toList, covers z pc = false ∨ (z.catchType ≠ 0 ∧ ∃ nm : String, (Cond.classLink own z.catchType nm).before args s = true ∧ va_Nc E nm s)) (hcell : H[q]? = some ce) (hv : ce.vm = .none) (hcl : s.vm.findClass E = some ce.cls)
    (hx : ∀ t : State, t.heap = H → s.vm.Alike t.vm → XC E s t) (hf : ∀ z ∈ locs, free z.base) (hc : cells ≤ mc) (hs : slots ≤ ms) :
    vx_W p l e R s m args below meth c H locs cells slots (vx_MQ below Qc XC args s mc ms free) (F0 m pc ls rest) q := by
  intro T hT X
  have hpl : e.platform.magicAccessors = ({} : Platform).magicAccessors := by rw [X.admits.platform]
  obtain ⟨vm', hW', X', st⟩ := X.outThrough hlocks q (g := F0 m pc ls rest) rfl rfl rfl (cell := ce) (by rw [hT]; exact hcell) (by rw [hv]; rfl)
    (by obtain ⟨k9, h9, -⟩ := Vm.findClass_spec hcl; exact ⟨k9, h9⟩) (fun z hz => by
      rcases hpass z hz with h | ⟨hz0, nm, hl1, hn1⟩
      · exact Or.inl h
      · obtain ⟨c6, hc6, hcl6⟩ := Cond.classLink_spec hown hl1 e.platform hpl
        obtain ⟨a8, b8, h1, h2, h3⟩ := hn1
        cases Option.some.inj (h1.symm.trans hcl)
        cases Option.some.inj (h2.symm.trans hc6)
        exact Or.inr ⟨hz0, _, hcl6, h3⟩)
  obtain ⟨g₀, hfr⟩ := X'.frames_eq
  have hcell9 : ((T.setVm vm').setFrames (.throwing q :: below)).heap[q]? = some ce := by
    show T.heap[q]? = some ce
    rw [hT]; exact hcell
  have hend : Ended ((T.setVm vm').setFrames (.throwing q :: below)) below (.threw q) := State.frames_setFrames _ (State.cur_lt_of_frames hfr)
  refine ⟨(T.setVm vm').setFrames (.throwing q :: below), ?_, .threw q, X'.here.running, hend, Or.inr ⟨q, rfl, E, ce, locs, hx _ hT (X'.ends _).1.alike, hcell9, hv, hcl, (X'.ends _).1, (X'.ends _).2.mono hc hs, hf⟩⟩
  rw [X.pushThrowing_eq]
  exact st
/-- a thing of a world lies in the heap -/
theorem vx_lt {D : va_G} {cl : List vw_C} {ws : va_W} {H1 : Heap} (h : va_P D cl ws H1) {k : Nat} {q : Nat × va_E} (hk : ws[k]? = some q) : q.1 < H1.size := (h k q hk).lt
end VXS
/-! ===== END ===== -/
/-! ===== BEGIN methods with a table of their own: called by a name, returning or throwing ===== -/
section VXH
/-! vx_backW, vx_callVX, vx_callSX, vx_callVW, vx_runVW, vx_runVX, vx_runSX, vx_ofWH follow the same proofs as their sisters above (Free/Laws.lean, Shelf42/LK1.lean); vx_outP calls Shelf42/NT130.lean (outThrough). -/
section
variable {l : Launch} {R : Room} {p : Program} {e : Env} {below : List Frame} {s : State} {sargs : Array Value} {y : MethodName} {len W9 : Nat}
theorem vx_backW {ws : List Cond} {rm : Room} {Pc : Array Value → State → Prop} {Qc : Array Value → State → Outcome → State → Prop} {XC : String → State → State → Prop} {mc ms : Nat} {free : Addr → Prop} {bytes : ByteArray} {maxL : Nat} {ret : Option FieldType} {hh : List (Nat × Nat × Nat × Nat)}
    (hM : vx_Met l y ws rm Pc Qc XC mc ms free) (hblind : FrameBlind Pc) (hrc : rm.cells = mc) (hrs : rm.slots = ms)
    (hframes : rm.frames + 1 ≤ R.frames) (hlocals : W9 + (maxL + 11) + rm.locals ≤ R.locals)
    (hws : ∀ w ∈ ws, ∀ a' U, s.WarmedH U.vm → w.before a' U = true) (hcode : Cond.codeWith y bytes maxL ret hh ∈ ws) (hinit : ∀ a' U, s.WarmedH U.vm → (Cond.initialized y.cls).before a' U = true) :
    vx_Back l R p e below s sargs y len W9 (PreOf R mc ms Pc) (PostOf Qc mc ms free) (vx_Post XC mc ms free) := by
  intro m meth c A g ig mk a X hg hsize hdg hW hn hp
  have h1 : (headSpec ws rm).pre.before a A.U = true := atoms_intro fun w hw => hws w hw _ _ X.warmed
  have h2 : (Cond.codeWith y bytes maxL ret hh).before a A.U = true := hws _ hcode _ _ X.warmed
  have h3 : (Cond.initialized y.cls).before a A.U = true := hinit _ _ X.warmed
  have h4 : A.cells + (headSpec ws rm).room.cells ≤ R.cells := by rw [show (headSpec ws rm).room.cells = mc from hrc]; exact hp.1
  have h5 : A.slots + (headSpec ws rm).room.slots ≤ R.slots := by rw [show (headSpec ws rm).room.slots = ms from hrs]; exact hp.2.1
  have hPc : Pc a (A.U.calling g mk a) := hblind _ _ _ _ hp.2.2
  obtain ⟨U, Ls, c0, s0⟩ := A
  dsimp only [Pt.U, Pt.locs, Pt.cells, Pt.slots] at h1 h2 h3 h4 h5 X hn hPc ⊢
  obtain ⟨m9, methY, cY, hn9, hmY, hcY, -, hlY, -⟩ := Cond.codeWith_spec h2
  cases Option.some.inj (hn9.symm.trans hn)
  obtain ⟨kY, hkY, -⟩ := className_of_methodNamed hn
  have hinitY : kY.init = .initialized := Cond.initialized_spec (findClass_of_methodNamed hn) hkY h3
  have h : At U g.method c below := by rw [hg]; exact X.here
  have hlocals9 : W9 + (maxL + 11) + (headSpec ws rm).room.locals ≤ R.locals := hlocals
  have happ : (headSpec ws rm).appliesLoose y e.platform (U.calling g mk a) = true :=
    Spec.appliesLoose_calling (g := g) h hdg hn hkY hinitY
      (X.room_calling (g := g) (R' := (headSpec ws rm).room) hsize hmY hcY hframes (by rw [hlY]; omega) h4 h5) h1
  obtain ⟨mid, hmid⟩ := h.above
  have hfr : (U.setTop g).frames = (.java g :: mid) ++ below := by rw [State.frames_setTop' g h.top, hmid]; rfl
  obtain ⟨o, s₂, hsteps, -, hend, hq⟩ := Steps.callFree hM p X.admits X.cas X.clock (acts := []) hfr happ hPc trivial
  have hq' : vx_Q Qc XC mc ms free a (U.calling g mk a) o s₂ := hq
  rw [State.frames_setTop' g h.top] at hend
  obtain ⟨g₀, hg0⟩ := Option.isSome_iff_exists.mp h.top
  obtain ⟨r, hr⟩ := State.topJava?_eq_some.mp hg0
  have hr' : (({ U with heap := s₂.heap, slotsUsed := s₂.slotsUsed } : State).setVm s₂.vm).frames = .java g₀ :: r := hr
  rcases hq' with ⟨hqc, L, hfe, hL⟩ | ⟨q, rfl, E, ce, L, hx, hce, hcv, hcl, hW₂, hsm, hL⟩
  · obtain ⟨⟨v, rfl⟩, hW₂, e2, q2, q3, q4, q5, q6⟩ := id hfe
    have e3 : s₂ = ({ (U.calling g mk a).setFrames s₂.frames with heap := s₂.heap, slotsUsed := s₂.slotsUsed } : State).setVm s₂.vm := by
      have : s₂ = ({ s₂ with vm := (U.calling g mk a).vm } : State).setVm s₂.vm := rfl
      rw [e2] at this
      exact this
    obtain ⟨c₂, i₂, len₂, hc₂, hd₂, hf₂⟩ := hend
    have hW' : U.WarmedH s₂.vm := hW₂
    have hcc : c₂ = c := by
      have h1 : s₂.code? g.method = U.code? g.method := by
        rw [State.code?_eq, State.code?_eq, hW'.alike.method?]
      exact Option.some.inj (hc₂.symm.trans (h1.trans h.code))
    subst hcc
    have hlen : len₂ = len := by rw [hdg] at hd₂; cases hd₂; rfl
    subst hlen
    have hs₂ : s₂ = (({ U with heap := s₂.heap, slotsUsed := s₂.slotsUsed } : State).setVm s₂.vm).setTop { g with pc := g.pc + len₂, stack := v.toList ++ g.stack } := by
      refine e3.trans ?_
      rw [hf₂, State.calling_eq h.top, State.setFrames_setFrames, State.setTop_of_frames _ hr', hr]
      rfl
    have hsame : U.sameButNew ({ U with heap := s₂.heap, slotsUsed := s₂.slotsUsed } : State) L mc ms := by
      refine ⟨?_, q2, q3, q4, q5, q6⟩
      obtain ⟨t, ht, -⟩ := State.frames_cons hr
      show ({ U with heap := s₂.heap, slotsUsed := s₂.slotsUsed } : State) = { U.setFrames U.frames with heap := s₂.heap, slotsUsed := s₂.slotsUsed }
      rw [State.setFrames_self ht]
    subst hg
    refine Or.inl ⟨v, ⟨(({ U with heap := s₂.heap, slotsUsed := s₂.slotsUsed } : State).setVm s₂.vm), Ls ++ L, c0 + mc, s0 + ms⟩,
      ⟨X.admits, X.cas, X.clock, X.frames, X.room, X.hears, X.method, X.code, (X.here.setHeapUsed s₂.heap s₂.slotsUsed).setVm hW'.alike, X.tail, State.WarmedH.trans X.warmed hW', X.limits, X.bytes, X.same.trans (hsame.setVm s.vm)⟩,
      ⟨g, mk, s₂, L, rfl, rfl, hqc, rfl, hL, rfl, rfl⟩, ?_⟩
    show Steps p.tables e below _ ((({ U with heap := s₂.heap, slotsUsed := s₂.slotsUsed } : State).setVm s₂.vm).setTop { g with pc := g.pc + len₂, stack := v.toList ++ g.stack })
    rw [← hs₂]
    exact hsteps
  · obtain ⟨e2, q2, q3, q4, q5, q6⟩ := id hsm
    have e3 : s₂ = ({ (U.calling g mk a).setFrames s₂.frames with heap := s₂.heap, slotsUsed := s₂.slotsUsed } : State).setVm s₂.vm := by
      have : s₂ = ({ s₂ with vm := (U.calling g mk a).vm } : State).setVm s₂.vm := rfl
      rw [e2] at this
      exact this
    have hf₂ : s₂.frames = .throwing q :: .java g :: U.frames.tail := hend
    have hW' : U.WarmedH s₂.vm := hW₂
    have hs₂ : s₂ = ((({ U with heap := s₂.heap, slotsUsed := s₂.slotsUsed } : State).setVm s₂.vm).setTop g).pushFrame (.throwing q) := by
      refine e3.trans ?_
      rw [hf₂, State.calling_eq h.top, State.setFrames_setFrames, State.pushFrame, State.frames_setTop _ hr', State.setTop_of_frames _ hr', State.setFrames_setFrames, hr]
      rfl
    have hsame : U.sameButNew ({ U with heap := s₂.heap, slotsUsed := s₂.slotsUsed } : State) L mc ms := by
      refine ⟨?_, q2, q3, q4, q5, q6⟩
      obtain ⟨t, ht, -⟩ := State.frames_cons hr
      show ({ U with heap := s₂.heap, slotsUsed := s₂.slotsUsed } : State) = { U.setFrames U.frames with heap := s₂.heap, slotsUsed := s₂.slotsUsed }
      rw [State.setFrames_self ht]
    subst hg
    refine Or.inr ⟨q, ⟨(({ U with heap := s₂.heap, slotsUsed := s₂.slotsUsed } : State).setVm s₂.vm), Ls ++ L, c0 + mc, s0 + ms⟩,
      ⟨X.admits, X.cas, X.clock, X.frames, X.room, X.hears, X.method, X.code, (X.here.setHeapUsed s₂.heap s₂.slotsUsed).setVm hW'.alike, X.tail, State.WarmedH.trans X.warmed hW', X.limits, X.bytes, X.same.trans (hsame.setVm s.vm)⟩,
      ⟨g, mk, s₂, L, E, ce, rfl, rfl, hx, hce, hcv, hcl, rfl, hL, rfl, rfl⟩, ?_⟩
    show Steps p.tables e below _ (((({ U with heap := s₂.heap, slotsUsed := s₂.slotsUsed } : State).setVm s₂.vm).setTop g).pushFrame (.throwing q))
    rw [← hs₂]
    exact hsteps
end
variable {p : Program} {l : Launch} {e : Env} {R : Room} {s : State} {m : MethodId} {args : Array Value} {below : List Frame} {meth : Method} {c : Code} {T : State} {H : Heap} {locs : List Loc} {cells slots : Nat}
theorem vx_callVX (X : Stand p l e R s m args below meth c T locs cells slots) (hexec : p.tables.exec = Jvm.exec) {own C : String} {index : Nat} {y : MethodName} {bytes : ByteArray} {maxL : Nat} {ret : Option FieldType} {hh : List (Nat × Nat × Nat × Nat)}
    (hown : s.vm.findClass own = some m.cls) (hlink : (Cond.methodLink own index y).before args s = true) (hinst : (Cond.instanceMethod y).before args s = true) (hsel : (Cond.selects C y y).before args s = true)
    (hcode : (Cond.codeWith y bytes maxL ret hh).before args s = true) (hy : y.cls ≠ "java/lang/invoke/MethodHandle" ∧ y.cls ≠ "java/lang/invoke/VarHandle")
    {W9 : Nat} {Pre : Pt → Array Value → Prop} {Post : Pt → Array Value → Option Value → Pt → Prop} {PostX : Pt → Array Value → Addr → Pt → Prop} (hK : vx_Back l R p e below s args y 3 W9 Pre Post PostX)
    {b : Addr} {cellB : Cell} (hcell : T.heap[b]? = some cellB) (hobj : cellB.vm.isStatics = false) (hcls : s.vm.findClass C = some cellB.cls)
    {g : JFrame} (hg : g.method = m) (hsize : g.locals.size = c.maxLocals) {argsL rest : List Value} (hlen : ∀ sig, parseMethodDescriptor y.desc = some sig → argsL.length = sig.parameters.length)
    (hstack : g.stack = argsL.reverse ++ .ref b :: rest) (hW : 2 * g.monitorRoom + (rest.map fun v => v.category).sum ≤ W9) (hdg : decode c.code g.pc = .ok (.invokevirtual index, 3))
    (hpre : ∀ vm₁, s.WarmedH vm₁ → Pre ⟨T.setVm vm₁, locs, cells, slots⟩ (Value.ref b :: argsL).toArray) :
    (∃ (v : Option Value) (vm₁ : Vm) (B : Pt), s.WarmedH vm₁ ∧ Stand p l e R s m args below meth c B.U B.locs B.cells B.slots ∧ Post ⟨T.setVm vm₁, locs, cells, slots⟩ (Value.ref b :: argsL).toArray v B ∧
      ∀ target, Steps p.tables e below (B.U.setTop { g with pc := g.pc + 3, stack := v.toList ++ rest }) target → Steps p.tables e below (T.setTop g) target) ∨
    (∃ (q : Addr) (vm₁ : Vm) (B : Pt), s.WarmedH vm₁ ∧ Stand p l e R s m args below meth c B.U B.locs B.cells B.slots ∧ PostX ⟨T.setVm vm₁, locs, cells, slots⟩ (Value.ref b :: argsL).toArray q B ∧
      Steps p.tables e below (T.setTop g) ((B.U.setTop { g with stack := rest }).pushFrame (.throwing q))) := by
  obtain ⟨mk, methM, hnamed, hmethM, hstM, habM⟩ := Cond.instanceMethod_spec hinst
  obtain ⟨m8, methM', cM, hn8, hmethM', -, -, -, -, -, -, hsigM⟩ := Cond.codeWith_spec hcode
  cases Option.some.inj (hn8.symm.trans hnamed)
  cases hmethM.symm.trans hmethM'
  obtain ⟨c2, r2, m2, q1, q2, q3, q4, kP, hkP, hkPi⟩ := Cond.selects_spec hsel
  cases hcls.symm.trans q1
  cases (State.methodFound?_of_named hnamed hy).symm.trans q2
  cases hnamed.symm.trans q3
  have hselP : selectMethod e.platform s.vm cellB.cls mk = .method mk := by rw [Launch.admits_selectMethod X.admits]; exact q4
  obtain ⟨vm₁, X₁, hstep₁⟩ := X.invokevirtual hexec hown hlink hnamed hmethM hstM hkP hkPi hy (a := b) (cell := cellB) hcell
    (fun z h => by rw [h] at hobj; cases hobj) hselP hmethM habM hkP hkPi (g := g) hg (argsL := argsL) (rest := rest) (hlen _ hsigM) hstack hdg
  rcases hK m meth c ⟨T.setVm vm₁, locs, cells, slots⟩ { g with stack := rest } (.invokevirtual index) mk (Value.ref b :: argsL).toArray X₁ hg hsize hdg hW (X₁.named hnamed) (hpre vm₁ X₁.warmed) with ⟨v, B, X', hpost, hsteps⟩ | ⟨q, B, X', hpost, hsteps⟩
  · exact Or.inl ⟨v, vm₁, B, X₁.warmed, X', hpost, fun target h => hstep₁ _ fun acts => by rw [doInvoke_state]; exact hsteps.trans h⟩
  · exact Or.inr ⟨q, vm₁, B, X₁.warmed, X', hpost, hstep₁ _ fun acts => by rw [doInvoke_state]; exact hsteps⟩
theorem vx_callSX (X : Stand p l e R s m args below meth c T locs cells slots) (hexec : p.tables.exec = Jvm.exec) {own : String} {index : Nat} {y : MethodName} {bytes : ByteArray} {maxL : Nat} {ret : Option FieldType} {hh : List (Nat × Nat × Nat × Nat)}
    (hown : s.vm.findClass own = some m.cls) (hlink : (Cond.methodLink own index y).before args s = true) (hstat : (Cond.static y).before args s = true) (hinit : (Cond.initialized y.cls).before args s = true)
    (hcode : (Cond.codeWith y bytes maxL ret hh).before args s = true) (hy : y.cls ≠ "java/lang/invoke/MethodHandle" ∧ y.cls ≠ "java/lang/invoke/VarHandle")
    {W9 : Nat} {Pre : Pt → Array Value → Prop} {Post : Pt → Array Value → Option Value → Pt → Prop} {PostX : Pt → Array Value → Addr → Pt → Prop} (hK : vx_Back l R p e below s args y 3 W9 Pre Post PostX)
    {g : JFrame} (hg : g.method = m) (hsize : g.locals.size = c.maxLocals) {argsL rest : List Value} (hlen : ∀ sig, parseMethodDescriptor y.desc = some sig → argsL.length = sig.parameters.length)
    (hstack : g.stack = argsL.reverse ++ rest) (hW : 2 * g.monitorRoom + (rest.map fun v => v.category).sum ≤ W9) (hdg : decode c.code g.pc = .ok (.invokestatic index, 3))
    (hpre : ∀ vm₁, s.WarmedH vm₁ → Pre ⟨T.setVm vm₁, locs, cells, slots⟩ argsL.toArray) :
    (∃ (v : Option Value) (vm₁ : Vm) (B : Pt), s.WarmedH vm₁ ∧ Stand p l e R s m args below meth c B.U B.locs B.cells B.slots ∧ Post ⟨T.setVm vm₁, locs, cells, slots⟩ argsL.toArray v B ∧
      ∀ target, Steps p.tables e below (B.U.setTop { g with pc := g.pc + 3, stack := v.toList ++ rest }) target → Steps p.tables e below (T.setTop g) target) ∨
    (∃ (q : Addr) (vm₁ : Vm) (B : Pt), s.WarmedH vm₁ ∧ Stand p l e R s m args below meth c B.U B.locs B.cells B.slots ∧ PostX ⟨T.setVm vm₁, locs, cells, slots⟩ argsL.toArray q B ∧
      Steps p.tables e below (T.setTop g) ((B.U.setTop { g with stack := rest }).pushFrame (.throwing q))) := by
  obtain ⟨mk, methM, cM, hnamed, hmethM, -, -, -, -, -, -, hsigM⟩ := Cond.codeWith_spec hcode
  have hstatic : methM.isStatic = true := Cond.static_spec hnamed hmethM hstat
  obtain ⟨kP, hkP, -⟩ := className_of_methodNamed hnamed
  have hinitP : kP.init = .initialized := Cond.initialized_spec (findClass_of_methodNamed hnamed) hkP hinit
  obtain ⟨vm₁, X₁, hstep₁⟩ := X.invokestatic hexec hown hlink hnamed hmethM hstatic hkP hinitP hy (g := g) hg (argsL := argsL) (rest := rest) (hlen _ hsigM) hstack hdg
  rcases hK m meth c ⟨T.setVm vm₁, locs, cells, slots⟩ { g with stack := rest } (.invokestatic index) mk argsL.toArray X₁ hg hsize hdg hW (X₁.named hnamed) (hpre vm₁ X₁.warmed) with ⟨v, B, X', hpost, hsteps⟩ | ⟨q, B, X', hpost, hsteps⟩
  · exact Or.inl ⟨v, vm₁, B, X₁.warmed, X', hpost, fun target h => hstep₁ _ fun acts => by rw [doInvoke_state]; exact hsteps.trans h⟩
  · exact Or.inr ⟨q, vm₁, B, X₁.warmed, X', hpost, hstep₁ _ fun acts => by rw [doInvoke_state]; exact hsteps⟩
theorem vx_callVW (X : Stand p l e R s m args below meth c T locs cells slots) (hexec : p.tables.exec = Jvm.exec) {own C : String} {index : Nat} {y : MethodName} {bytes : ByteArray} {maxL : Nat} {ret : Option FieldType} {hh : List (Nat × Nat × Nat × Nat)}
    (hown : s.vm.findClass own = some m.cls) (hlink : (Cond.methodLink own index y).before args s = true) (hinst : (Cond.instanceMethod y).before args s = true) (hsel : (Cond.selects C y y).before args s = true)
    (hcode : (Cond.codeWith y bytes maxL ret hh).before args s = true) (hy : y.cls ≠ "java/lang/invoke/MethodHandle" ∧ y.cls ≠ "java/lang/invoke/VarHandle")
    {W9 : Nat} {Pre : Pt → Array Value → Prop} {Post : Pt → Array Value → Option Value → Pt → Prop} (hK : Back l R p e below s args y 3 W9 Pre Post)
    {b : Addr} {cellB : Cell} (hcell : T.heap[b]? = some cellB) (hobj : cellB.vm.isStatics = false) (hcls : s.vm.findClass C = some cellB.cls)
    {g : JFrame} (hg : g.method = m) (hsize : g.locals.size = c.maxLocals) {argsL rest : List Value} (hlen : ∀ sig, parseMethodDescriptor y.desc = some sig → argsL.length = sig.parameters.length)
    (hstack : g.stack = argsL.reverse ++ .ref b :: rest) (hW : 2 * g.monitorRoom + (rest.map fun v => v.category).sum ≤ W9) (hdg : decode c.code g.pc = .ok (.invokevirtual index, 3))
    (hpre : ∀ vm₁, s.WarmedH vm₁ → Pre ⟨T.setVm vm₁, locs, cells, slots⟩ (Value.ref b :: argsL).toArray) :
    ∃ (v : Option Value) (vm₁ : Vm) (B : Pt), s.WarmedH vm₁ ∧ Stand p l e R s m args below meth c B.U B.locs B.cells B.slots ∧ Post ⟨T.setVm vm₁, locs, cells, slots⟩ (Value.ref b :: argsL).toArray v B ∧
      ∀ target, Steps p.tables e below (B.U.setTop { g with pc := g.pc + 3, stack := v.toList ++ rest }) target → Steps p.tables e below (T.setTop g) target := by
  obtain ⟨mk, methM, hnamed, hmethM, hstM, habM⟩ := Cond.instanceMethod_spec hinst
  obtain ⟨m8, methM', cM, hn8, hmethM', -, -, -, -, -, -, hsigM⟩ := Cond.codeWith_spec hcode
  cases Option.some.inj (hn8.symm.trans hnamed)
  cases hmethM.symm.trans hmethM'
  obtain ⟨c2, r2, m2, q1, q2, q3, q4, kP, hkP, hkPi⟩ := Cond.selects_spec hsel
  cases hcls.symm.trans q1
  cases (State.methodFound?_of_named hnamed hy).symm.trans q2
  cases hnamed.symm.trans q3
  have hselP : selectMethod e.platform s.vm cellB.cls mk = .method mk := by rw [Launch.admits_selectMethod X.admits]; exact q4
  obtain ⟨vm₁, X₁, hstep₁⟩ := X.invokevirtual hexec hown hlink hnamed hmethM hstM hkP hkPi hy (a := b) (cell := cellB) hcell
    (fun z h => by rw [h] at hobj; cases hobj) hselP hmethM habM hkP hkPi (g := g) hg (argsL := argsL) (rest := rest) (hlen _ hsigM) hstack hdg
  obtain ⟨v, B, X', hpost, hsteps⟩ := hK m meth c ⟨T.setVm vm₁, locs, cells, slots⟩ { g with stack := rest } (.invokevirtual index) mk (Value.ref b :: argsL).toArray X₁ hg hsize hdg hW (X₁.named hnamed) (hpre vm₁ X₁.warmed)
  exact ⟨v, vm₁, B, X₁.warmed, X', hpost, fun target h => hstep₁ _ fun acts => by rw [doInvoke_state]; exact hsteps.trans h⟩
abbrev vx_CVW (R : Room) (s : State) (args : Array Value) (own C : String) (index : Nat) (y : MethodName) (bytes : ByteArray) (maxL : Nat) (ret : Option FieldType) (hh : List (Nat × Nat × Nat × Nat)) (ws : List Cond) (rm : Room) (mc ms n : Nat) : Prop :=
  (rm.cells = mc ∧ rm.slots = ms ∧ rm.frames + 1 ≤ R.frames ∧ 8 + (maxL + 11) + rm.locals ≤ R.locals ∧ (∀ w ∈ ws, ∀ (a' : Array Value) (U : State), s.WarmedH U.vm → w.before a' U = true) ∧ Cond.codeWith y bytes maxL ret hh ∈ ws) ∧
  (Cond.codeWith y bytes maxL ret hh).before args s = true ∧ (Cond.initialized y.cls).before args s = true ∧ (y.cls ≠ "java/lang/invoke/MethodHandle" ∧ y.cls ≠ "java/lang/invoke/VarHandle") ∧
  (∀ sig, parseMethodDescriptor y.desc = some sig → n = sig.parameters.length) ∧ (Cond.methodLink own index y).before args s = true ∧ (Cond.instanceMethod y).before args s = true ∧ (Cond.selects C y y).before args s = true
theorem vx_cwVW {own C : String} {index maxL mc ms : Nat} {y : MethodName} {bytes : ByteArray} {ret : Option FieldType} {hh : List (Nat × Nat × Nat × Nat)} {Ts ws ws' : List Cond} {rm : Room} (n : Nat) (ht : ∀ w ∈ Ts, w.before args s = true) (hT : GoodIn Ts (wsV own index C y ws)) (hw : ws = Cond.codeWith y bytes maxL ret hh :: ws') (hrc : rm.cells = mc) (hrs : rm.slots = ms)
    (hd : y.cls = C ∧ y.cls ≠ "java/lang/invoke/MethodHandle" ∧ y.cls ≠ "java/lang/invoke/VarHandle" ∧ (parseMethodDescriptor y.desc).map (fun d => d.parameters.length) = some n) (hR : rm.frames + 1 ≤ R.frames ∧ 8 + (maxL + 11) + rm.locals ≤ R.locals) :
    vx_CVW R s args own C index y bytes maxL ret hh ws rm mc ms n := by
  obtain ⟨hC, hd⟩ := hd
  subst hC
  have ok : ∀ w ∈ wsV own index y.cls y ws, w.before args s = true := fun w h => ht w (hT w h).1
  have hG : GoodIn Ts ws := fun w h => hT w (by unfold wsV; exact List.mem_append_right _ h)
  have hc : Cond.codeWith y bytes maxL ret hh ∈ ws := by rw [hw]; exact List.mem_cons_self
  refine ⟨⟨hrc, hrs, hR.1, hR.2, pay_in ht hG, hc⟩, ht _ (hG _ hc).1, ok _ (by simp [wsV]), ⟨hd.1, hd.2.1⟩, fun sig h => ?_, ok _ (by simp [wsV]), ok _ (by simp [wsV]), ok _ (by simp [wsV])⟩
  have h2 := hd.2.2
  rw [h] at h2
  exact (Option.some.inj h2).symm
theorem vx_runVW {y : MethodName} {bytes cc : ByteArray} {maxL nL mc ms n index : Nat} {ret : Option FieldType} {hh : List (Nat × Nat × Nat × Nat)} {ws : List Cond} {rm : Room} {Pc : Array Value → State → Prop} {Qc : Array Value → State → Outcome → State → Prop} {free : Addr → Prop} {Ts : List Cond} {own C : String} {b : Addr} {As rest : List Value} {g : JFrame}
    (S : CallFix p m c cc nL s args Ts own) (hM : Met l y ws rm Pc Qc mc ms free) (cw : vx_CVW R s args own C index y bytes maxL ret hh ws rm mc ms n) (hp : PreV s H C b Pc As)
    (hg : g.method = m) (hn : As.length = n) (hsize : g.locals.size = nL) (hstack : g.stack = As.reverse ++ .ref b :: rest) (hW : 2 * g.monitorRoom + (rest.map fun v => v.category).sum ≤ 8) (hdg : decode cc g.pc = .ok (.invokevirtual index, 3)) (hf : cells + mc ≤ R.cells ∧ slots + ms ≤ R.slots) :
    va_Run p l e R s m args below meth c H locs cells slots mc ms g rest (Qc (Value.ref b :: As).toArray) free := by
  obtain ⟨⟨hrc, hrs, hfr, hlo, hws, hcw⟩, hcode, hini, hy, hlen, hl, hin, hse⟩ := cw
  have hK : Back l R p e below s args y 3 8 (PreOf R mc ms Pc) (PostOf Qc mc ms free) := va_backW (hh := hh) (bytes := bytes) (maxL := maxL) (ret := ret) hM hp.1 hrc hrs hfr hlo hws hcw (fun a' U hW => word_at hW (Or.inl (by first | rfl | simp [Cond.onTables, Cond.keeps, Cond.steady])) hini)
  obtain ⟨hx, hb, hml, ho, -⟩ := S
  obtain ⟨-, ⟨cellB, hcB, hoB, hclB⟩, hPc⟩ := hp
  intro T hT X
  obtain ⟨v, vm₁, ⟨U', l2, c2, s2⟩, hW₁, X', ⟨g', mk, t, L, e1, e2, hq, h1, hL, h2, h3⟩, st⟩ := vx_callVW X hx (C := C) (hh := hh) (bytes := bytes) (maxL := maxL) (ret := ret) ho hl hin hse hcode hy hK (by rw [hT]; exact hcB) hoB hclB hg (hsize.trans hml.symm) (argsL := As) (rest := rest) (fun sig h => hn.trans (hlen sig h)) hstack hW (by rw [hb]; exact hdg)
    (fun vm₁ hW₁ => ⟨hf.1, hf.2, hPc (T.setVm vm₁) hT hW₁⟩)
  dsimp only [Pt.U, Pt.locs, Pt.cells, Pt.slots] at X' e1 e2 h1 h2 h3 st
  subst h1; subst h2; subst h3
  exact ⟨v, (T.setVm vm₁).calling g' mk (Value.ref b :: As).toArray, t, U', L, hT, X', hL, e1, e2, hq, st⟩
section
variable {y : MethodName} {bytes cc : ByteArray} {maxL nL mc ms n index : Nat} {ret : Option FieldType} {ws : List Cond} {rm : Room} {Pc : Array Value → State → Prop} {Qc : Array Value → State → Outcome → State → Prop} {XC : String → State → State → Prop} {free : Addr → Prop} {Ts : List Cond} {own C : String} {b : Addr} {As rest : List Value} {g : JFrame}
theorem vx_runVX {hh : List (Nat × Nat × Nat × Nat)} (S : CallFix p m c cc nL s args Ts own) (hM : vx_Met l y ws rm Pc Qc XC mc ms free) (cw : vx_CVW R s args own C index y bytes maxL ret hh ws rm mc ms n) (hp : PreV s H C b Pc As)
    (hg : g.method = m) (hn : As.length = n) (hsize : g.locals.size = nL) (hstack : g.stack = As.reverse ++ .ref b :: rest) (hW : 2 * g.monitorRoom + (rest.map fun v => v.category).sum ≤ 8) (hdg : decode cc g.pc = .ok (.invokevirtual index, 3)) (hf : cells + mc ≤ R.cells ∧ slots + ms ≤ R.slots) :
    vx_Run p l e R s m args below meth c H locs cells slots mc ms g rest (Qc (Value.ref b :: As).toArray) XC free := by
  obtain ⟨⟨hrc, hrs, hfr, hlo, hws, hcw⟩, hcode, hini, hy, hlen, hl, hin, hse⟩ := cw
  have hK : vx_Back l R p e below s args y 3 8 (PreOf R mc ms Pc) (PostOf Qc mc ms free) (vx_Post XC mc ms free) := vx_backW (hh := hh) (bytes := bytes) (maxL := maxL) (ret := ret) hM hp.1 hrc hrs hfr hlo hws hcw (fun a' U hW => word_at hW (Or.inl (by first | rfl | simp [Cond.onTables, Cond.keeps, Cond.steady])) hini)
  obtain ⟨hx, hb, hml, ho, -⟩ := S
  obtain ⟨-, ⟨cellB, hcB, hoB, hclB⟩, hPc⟩ := hp
  intro T hT X
  rcases vx_callVX X hx (C := C) (hh := hh) (bytes := bytes) (maxL := maxL) (ret := ret) ho hl hin hse hcode hy hK (by rw [hT]; exact hcB) hoB hclB hg (hsize.trans hml.symm) (argsL := As) (rest := rest) (fun sig h => hn.trans (hlen sig h)) hstack hW (by rw [hb]; exact hdg)
    (fun vm₁ hW₁ => ⟨hf.1, hf.2, hPc (T.setVm vm₁) hT hW₁⟩) with ⟨v, vm₁, ⟨U', l2, c2, s2⟩, hW₁, X', ⟨g', mk, t, L, e1, e2, hq, h1, hL, h2, h3⟩, st⟩ | ⟨q, vm₁, ⟨U', l2, c2, s2⟩, hW₁, X', ⟨g', mk, t, L, E, ce, e1, e2, hq, hce, hcv, hcl, h1, hL, h2, h3⟩, st⟩
  · dsimp only [Pt.U, Pt.locs, Pt.cells, Pt.slots] at X' e1 e2 h1 h2 h3 st
    subst h1; subst h2; subst h3
    exact Or.inl ⟨v, (T.setVm vm₁).calling g' mk (Value.ref b :: As).toArray, t, U', L, hT, X', hL, e1, e2, hq, st⟩
  · dsimp only [Pt.U, Pt.locs, Pt.cells, Pt.slots] at X' e1 e2 h1 h2 h3 st hcl
    subst h1; subst h2; subst h3
    exact Or.inr ⟨q, (T.setVm vm₁).calling g' mk (Value.ref b :: As).toArray, t, U', L, E, ce, hT, X', hL, e1, e2, hq, hce, hcv, vx_cls hW₁ hcl, st⟩
theorem vx_runSX {hh : List (Nat × Nat × Nat × Nat)} (S : CallFix p m c cc nL s args Ts own) (hM : vx_Met l y ws rm Pc Qc XC mc ms free) (cw : vx_CSW R s args own index y bytes maxL ret hh ws rm mc ms n) (hp : PreS s H Pc As)
    (hg : g.method = m) (hn : As.length = n) (hsize : g.locals.size = nL) (hstack : g.stack = As.reverse ++ rest) (hW : 2 * g.monitorRoom + (rest.map fun v => v.category).sum ≤ 8) (hdg : decode cc g.pc = .ok (.invokestatic index, 3)) (hf : cells + mc ≤ R.cells ∧ slots + ms ≤ R.slots) :
    vx_Run p l e R s m args below meth c H locs cells slots mc ms g rest (Qc As.toArray) XC free := by
  obtain ⟨⟨hrc, hrs, hfr, hlo, hws, hcw⟩, hcode, hini, hy, hlen, hl, hstt⟩ := cw
  have hK : vx_Back l R p e below s args y 3 8 (PreOf R mc ms Pc) (PostOf Qc mc ms free) (vx_Post XC mc ms free) := vx_backW (hh := hh) (bytes := bytes) (maxL := maxL) (ret := ret) hM hp.1 hrc hrs hfr hlo hws hcw (fun a' U hW => word_at hW (Or.inl (by first | rfl | simp [Cond.onTables, Cond.keeps, Cond.steady])) hini)
  obtain ⟨hx, hb, hml, ho, -⟩ := S
  intro T hT X
  rcases vx_callSX X hx (hh := hh) (bytes := bytes) (maxL := maxL) (ret := ret) ho hl hstt hini hcode hy hK hg (hsize.trans hml.symm) (argsL := As) (rest := rest) (fun sig h => hn.trans (hlen sig h)) hstack hW (by rw [hb]; exact hdg)
    (fun vm₁ hW₁ => ⟨hf.1, hf.2, hp.2 (T.setVm vm₁) hT hW₁⟩) with ⟨v, vm₁, ⟨U', l2, c2, s2⟩, hW₁, X', ⟨g', mk, t, L, e1, e2, hq, h1, hL, h2, h3⟩, st⟩ | ⟨q, vm₁, ⟨U', l2, c2, s2⟩, hW₁, X', ⟨g', mk, t, L, E, ce, e1, e2, hq, hce, hcv, hcl, h1, hL, h2, h3⟩, st⟩
  · dsimp only [Pt.U, Pt.locs, Pt.cells, Pt.slots] at X' e1 e2 h1 h2 h3 st
    subst h1; subst h2; subst h3
    exact Or.inl ⟨v, (T.setVm vm₁).calling g' mk As.toArray, t, U', L, hT, X', hL, e1, e2, hq, st⟩
  · dsimp only [Pt.U, Pt.locs, Pt.cells, Pt.slots] at X' e1 e2 h1 h2 h3 st hcl
    subst h1; subst h2; subst h3
    exact Or.inr ⟨q, (T.setVm vm₁).calling g' mk As.toArray, t, U', L, E, ce, hT, X', hL, e1, e2, hq, hce, hcv, vx_cls hW₁ hcl, st⟩
end
end VXH
theorem vx_ofWH {l : Launch} {y : MethodName} {ws ws' : List Cond} {rm : Room} {Pc : Array Value → State → Prop} {Qc : Array Value → State → Outcome → State → Prop} {XC : String → State → State → Prop} {mc ms : Nat} {free : Addr → Prop} {cc : ByteArray} {maxL : Nat} {ret : Option FieldType} {hh : List (Nat × Nat × Nat × Nat)}
    (hy : plainName y.cls = true) (hw : ws = Cond.codeWith y cc maxL ret hh :: ws')
    (body : ∀ p e s m args below meth c s₁, BodyLoose p l y (headSpec ws rm) cc maxL ret e s m args below meth c s₁ → c.maxLocals = maxL → Pc args s →
      W p l e (headSpec ws rm).room s m args below meth c s.heap [] 0 0 (vx_MQ below Qc XC args s mc ms free) (entryFrame m args maxL)) : vx_Met l y ws rm Pc Qc XC mc ms free := by
  refine MetFree.of_bodyS (code := cc) (maxLocals := maxL) (ret := ret) hy ?_ ?_
  · intro args s m h hn
    obtain ⟨m9, meth, c, hn9, h1, h2, h3, h4, -, h5, h6, -⟩ := Cond.codeWith_spec (atoms_spec (ws := ws) h _ (by rw [hw]; exact List.mem_cons_self))
    cases hn.symm.trans hn9
    exact ⟨meth, c, h1, h2, h3, h4, h5, h6⟩
  · intro p e s m args below meth c s₁ B hml hP _
    have hh0 : s₁.heap = s.heap := by rw [B.state]; rfl
    obtain ⟨t, a1, o, b1, b2, b3⟩ := body p e s m args below meth c s₁ B hml hP s₁ hh0 (Stand.of_body B)
    exact ⟨t, o, a1, b1, b2, b3⟩
/-! ===== END ===== -/
end
section
-- ===== PART A: goes FIRST, ahead of the names: the tables' words, and 'selects' of the private methods out of them =====
/-- a private method of a class that the tables say can be made, by its rows of tables_1 -/
def lw_okq (q : MethodName × Nat) : Prop := (q.1.cls ≠ "java/lang/invoke/MethodHandle" ∧ q.1.cls ≠ "java/lang/invoke/VarHandle") ∧ Cond.instantiable q.1.cls q.2 ∈ tables_1 ∧ Cond.privateMethod q.1 ∈ tables_1 ∧ Cond.instanceMethod q.1 ∈ tables_1
theorem lw_p0 : lw_okq (⟨"PromiseFlows$Orders", "numberIn", "(I)I"⟩, 7) := ⟨⟨by decide +kernel, by decide +kernel⟩, List.mem_of_getElem? (i := 81) (by decide +kernel), List.mem_of_getElem? (i := 171) (by decide +kernel), List.mem_of_getElem? (i := 172) (by decide +kernel)⟩
theorem lw_p1 : lw_okq (⟨"PromiseFlows$Arrivals", "allFree", "()I"⟩, 5) := ⟨⟨by decide +kernel, by decide +kernel⟩, List.mem_of_getElem? (i := 53) (by decide +kernel), List.mem_of_getElem? (i := 175) (by decide +kernel), List.mem_of_getElem? (i := 176) (by decide +kernel)⟩
theorem lw_p2 : lw_okq (⟨"PromiseFlows$Arrivals", "free", "(I)I"⟩, 5) := ⟨⟨by decide +kernel, by decide +kernel⟩, List.mem_of_getElem? (i := 53) (by decide +kernel), List.mem_of_getElem? (i := 179) (by decide +kernel), List.mem_of_getElem? (i := 180) (by decide +kernel)⟩
theorem lw_p3 : lw_okq (⟨"PromiseFlows", "allCoveredDemands", "()I"⟩, 4) := ⟨⟨by decide +kernel, by decide +kernel⟩, List.mem_of_getElem? (i := 19) (by decide +kernel), List.mem_of_getElem? (i := 183) (by decide +kernel), List.mem_of_getElem? (i := 184) (by decide +kernel)⟩
theorem lw_p4 : lw_okq (⟨"PromiseFlows", "demandsOf", "(I)I"⟩, 4) := ⟨⟨by decide +kernel, by decide +kernel⟩, List.mem_of_getElem? (i := 19) (by decide +kernel), List.mem_of_getElem? (i := 187) (by decide +kernel), List.mem_of_getElem? (i := 188) (by decide +kernel)⟩
theorem lw_p5 : lw_okq (⟨"PromiseFlows$Goods", "demandsOf", "(I)I"⟩, 5) := ⟨⟨by decide +kernel, by decide +kernel⟩, List.mem_of_getElem? (i := 27) (by decide +kernel), List.mem_of_getElem? (i := 191) (by decide +kernel), List.mem_of_getElem? (i := 192) (by decide +kernel)⟩
theorem lw_p6 : lw_okq (⟨"PromiseFlows$Goods", "isKit", "(I)Z"⟩, 5) := ⟨⟨by decide +kernel, by decide +kernel⟩, List.mem_of_getElem? (i := 27) (by decide +kernel), List.mem_of_getElem? (i := 195) (by decide +kernel), List.mem_of_getElem? (i := 196) (by decide +kernel)⟩
theorem lw_p7 : lw_okq (⟨"PromiseFlows", "wantedBy", "(II)I"⟩, 4) := ⟨⟨by decide +kernel, by decide +kernel⟩, List.mem_of_getElem? (i := 19) (by decide +kernel), List.mem_of_getElem? (i := 199) (by decide +kernel), List.mem_of_getElem? (i := 200) (by decide +kernel)⟩
theorem lw_p8 : lw_okq (⟨"PromiseFlows$Goods", "numberForOne", "(II)I"⟩, 5) := ⟨⟨by decide +kernel, by decide +kernel⟩, List.mem_of_getElem? (i := 27) (by decide +kernel), List.mem_of_getElem? (i := 203) (by decide +kernel), List.mem_of_getElem? (i := 204) (by decide +kernel)⟩
theorem lw_p9 : lw_okq (⟨"java/lang/Throwable", "fillInStackTrace", "(I)Ljava/lang/Throwable;"⟩, 6) := ⟨⟨by decide +kernel, by decide +kernel⟩, List.mem_of_getElem? (i := 263) (by decide +kernel), List.mem_of_getElem? (i := 261) (by decide +kernel), List.mem_of_getElem? (i := 262) (by decide +kernel)⟩
theorem lw_p10 : lw_okq (⟨"PromiseFlows", "needNoKit", "(I)V"⟩, 4) := ⟨⟨by decide +kernel, by decide +kernel⟩, List.mem_of_getElem? (i := 19) (by decide +kernel), List.mem_of_getElem? (i := 297) (by decide +kernel), List.mem_of_getElem? (i := 298) (by decide +kernel)⟩
theorem lw_p11 : lw_okq (⟨"PromiseFlows$Arrivals", "add", "(III)I"⟩, 5) := ⟨⟨by decide +kernel, by decide +kernel⟩, List.mem_of_getElem? (i := 53) (by decide +kernel), List.mem_of_getElem? (i := 334) (by decide +kernel), List.mem_of_getElem? (i := 335) (by decide +kernel)⟩
theorem lw_p12 : lw_okq (⟨"PromiseFlows", "settle", "()I"⟩, 4) := ⟨⟨by decide +kernel, by decide +kernel⟩, List.mem_of_getElem? (i := 19) (by decide +kernel), List.mem_of_getElem? (i := 338) (by decide +kernel), List.mem_of_getElem? (i := 339) (by decide +kernel)⟩
theorem lw_p13 : lw_okq (⟨"PromiseFlows$Takings", "clear", "(LPromiseFlows$Arrivals;)V"⟩, 10) := ⟨⟨by decide +kernel, by decide +kernel⟩, List.mem_of_getElem? (i := 115) (by decide +kernel), List.mem_of_getElem? (i := 342) (by decide +kernel), List.mem_of_getElem? (i := 343) (by decide +kernel)⟩
theorem lw_p14 : lw_okq (⟨"PromiseFlows$Arrivals", "sortByTime", "([I)V"⟩, 5) := ⟨⟨by decide +kernel, by decide +kernel⟩, List.mem_of_getElem? (i := 53) (by decide +kernel), List.mem_of_getElem? (i := 346) (by decide +kernel), List.mem_of_getElem? (i := 347) (by decide +kernel)⟩
theorem lw_p15 : lw_okq (⟨"PromiseFlows", "joinsCovered", "(I)Z"⟩, 4) := ⟨⟨by decide +kernel, by decide +kernel⟩, List.mem_of_getElem? (i := 19) (by decide +kernel), List.mem_of_getElem? (i := 351) (by decide +kernel), List.mem_of_getElem? (i := 352) (by decide +kernel)⟩
def lw_privs_1 : List (MethodName × Nat) := [(⟨"PromiseFlows$Orders", "numberIn", "(I)I"⟩, 7), (⟨"PromiseFlows$Arrivals", "allFree", "()I"⟩, 5), (⟨"PromiseFlows$Arrivals", "free", "(I)I"⟩, 5), (⟨"PromiseFlows", "allCoveredDemands", "()I"⟩, 4), (⟨"PromiseFlows", "demandsOf", "(I)I"⟩, 4), (⟨"PromiseFlows$Goods", "demandsOf", "(I)I"⟩, 5), (⟨"PromiseFlows$Goods", "isKit", "(I)Z"⟩, 5), (⟨"PromiseFlows", "wantedBy", "(II)I"⟩, 4), (⟨"PromiseFlows$Goods", "numberForOne", "(II)I"⟩, 5), (⟨"java/lang/Throwable", "fillInStackTrace", "(I)Ljava/lang/Throwable;"⟩, 6), (⟨"PromiseFlows", "needNoKit", "(I)V"⟩, 4), (⟨"PromiseFlows$Arrivals", "add", "(III)I"⟩, 5), (⟨"PromiseFlows", "settle", "()I"⟩, 4), (⟨"PromiseFlows$Takings", "clear", "(LPromiseFlows$Arrivals;)V"⟩, 10), (⟨"PromiseFlows$Arrivals", "sortByTime", "([I)V"⟩, 5), (⟨"PromiseFlows", "joinsCovered", "(I)Z"⟩, 4)]
theorem lw_r1 : ∀ q ∈ lw_privs_1, lw_okq q := List.forall_mem_cons.mpr ⟨lw_p0, List.forall_mem_cons.mpr ⟨lw_p1, List.forall_mem_cons.mpr ⟨lw_p2, List.forall_mem_cons.mpr ⟨lw_p3, List.forall_mem_cons.mpr ⟨lw_p4, List.forall_mem_cons.mpr ⟨lw_p5, List.forall_mem_cons.mpr ⟨lw_p6, List.forall_mem_cons.mpr ⟨lw_p7, List.forall_mem_cons.mpr ⟨lw_p8, List.forall_mem_cons.mpr ⟨lw_p9, List.forall_mem_cons.mpr ⟨lw_p10, List.forall_mem_cons.mpr ⟨lw_p11, List.forall_mem_cons.mpr ⟨lw_p12, List.forall_mem_cons.mpr ⟨lw_p13, List.forall_mem_cons.mpr ⟨lw_p14, List.forall_mem_cons.mpr ⟨lw_p15, fun _ h => absurd h List.not_mem_nil⟩⟩⟩⟩⟩⟩⟩⟩⟩⟩⟩⟩⟩⟩⟩⟩
theorem lw_p16 : lw_okq (⟨"PromiseFlows$Takings", "save", "()V"⟩, 10) := ⟨⟨by decide +kernel, by decide +kernel⟩, List.mem_of_getElem? (i := 115) (by decide +kernel), List.mem_of_getElem? (i := 355) (by decide +kernel), List.mem_of_getElem? (i := 356) (by decide +kernel)⟩
theorem lw_p17 : lw_okq (⟨"PromiseFlows$Goods", "demandGood", "(II)I"⟩, 5) := ⟨⟨by decide +kernel, by decide +kernel⟩, List.mem_of_getElem? (i := 27) (by decide +kernel), List.mem_of_getElem? (i := 365) (by decide +kernel), List.mem_of_getElem? (i := 366) (by decide +kernel)⟩
theorem lw_p18 : lw_okq (⟨"PromiseFlows", "usableFor", "(II)I"⟩, 4) := ⟨⟨by decide +kernel, by decide +kernel⟩, List.mem_of_getElem? (i := 19) (by decide +kernel), List.mem_of_getElem? (i := 369) (by decide +kernel), List.mem_of_getElem? (i := 370) (by decide +kernel)⟩
theorem lw_p19 : lw_okq (⟨"PromiseFlows$Goods", "meets", "(II)Z"⟩, 5) := ⟨⟨by decide +kernel, by decide +kernel⟩, List.mem_of_getElem? (i := 27) (by decide +kernel), List.mem_of_getElem? (i := 373) (by decide +kernel), List.mem_of_getElem? (i := 374) (by decide +kernel)⟩
theorem lw_p20 : lw_okq (⟨"PromiseFlows$Goods", "standsInFor", "(II)Z"⟩, 5) := ⟨⟨by decide +kernel, by decide +kernel⟩, List.mem_of_getElem? (i := 27) (by decide +kernel), List.mem_of_getElem? (i := 377) (by decide +kernel), List.mem_of_getElem? (i := 378) (by decide +kernel)⟩
theorem lw_p21 : lw_okq (⟨"PromiseFlows$Takings", "take", "(III)I"⟩, 10) := ⟨⟨by decide +kernel, by decide +kernel⟩, List.mem_of_getElem? (i := 115) (by decide +kernel), List.mem_of_getElem? (i := 381) (by decide +kernel), List.mem_of_getElem? (i := 382) (by decide +kernel)⟩
theorem lw_p22 : lw_okq (⟨"PromiseFlows$Takings", "takeFrom", "(IIII)I"⟩, 10) := ⟨⟨by decide +kernel, by decide +kernel⟩, List.mem_of_getElem? (i := 115) (by decide +kernel), List.mem_of_getElem? (i := 388) (by decide +kernel), List.mem_of_getElem? (i := 389) (by decide +kernel)⟩
theorem lw_p23 : lw_okq (⟨"PromiseFlows$Takings", "spread", "(II)I"⟩, 10) := ⟨⟨by decide +kernel, by decide +kernel⟩, List.mem_of_getElem? (i := 115) (by decide +kernel), List.mem_of_getElem? (i := 393) (by decide +kernel), List.mem_of_getElem? (i := 394) (by decide +kernel)⟩
theorem lw_p24 : lw_okq (⟨"PromiseFlows$Takings", "reach", "(IIII)I"⟩, 10) := ⟨⟨by decide +kernel, by decide +kernel⟩, List.mem_of_getElem? (i := 115) (by decide +kernel), List.mem_of_getElem? (i := 397) (by decide +kernel), List.mem_of_getElem? (i := 398) (by decide +kernel)⟩
theorem lw_p25 : lw_okq (⟨"PromiseFlows$Takings", "nearestRoom", "(I)I"⟩, 10) := ⟨⟨by decide +kernel, by decide +kernel⟩, List.mem_of_getElem? (i := 115) (by decide +kernel), List.mem_of_getElem? (i := 401) (by decide +kernel), List.mem_of_getElem? (i := 402) (by decide +kernel)⟩
theorem lw_p26 : lw_okq (⟨"PromiseFlows$Takings", "shift", "(III)I"⟩, 10) := ⟨⟨by decide +kernel, by decide +kernel⟩, List.mem_of_getElem? (i := 115) (by decide +kernel), List.mem_of_getElem? (i := 411) (by decide +kernel), List.mem_of_getElem? (i := 412) (by decide +kernel)⟩
theorem lw_p27 : lw_okq (⟨"PromiseFlows$Takings", "restore", "()V"⟩, 10) := ⟨⟨by decide +kernel, by decide +kernel⟩, List.mem_of_getElem? (i := 115) (by decide +kernel), List.mem_of_getElem? (i := 418) (by decide +kernel), List.mem_of_getElem? (i := 419) (by decide +kernel)⟩
theorem lw_p28 : lw_okq (⟨"PromiseFlows", "makePlan", "()V"⟩, 4) := ⟨⟨by decide +kernel, by decide +kernel⟩, List.mem_of_getElem? (i := 19) (by decide +kernel), List.mem_of_getElem? (i := 422) (by decide +kernel), List.mem_of_getElem? (i := 423) (by decide +kernel)⟩
theorem lw_p29 : lw_okq (⟨"PromiseFlows$Takings", "giveBack", "(I)V"⟩, 10) := ⟨⟨by decide +kernel, by decide +kernel⟩, List.mem_of_getElem? (i := 115) (by decide +kernel), List.mem_of_getElem? (i := 426) (by decide +kernel), List.mem_of_getElem? (i := 427) (by decide +kernel)⟩
theorem lw_p30 : lw_okq (⟨"PromiseFlows", "needArrival", "(I)V"⟩, 4) := ⟨⟨by decide +kernel, by decide +kernel⟩, List.mem_of_getElem? (i := 19) (by decide +kernel), List.mem_of_getElem? (i := 438) (by decide +kernel), List.mem_of_getElem? (i := 439) (by decide +kernel)⟩
theorem lw_p31 : lw_okq (⟨"PromiseFlows$Goods", "letStandIn", "(IIZ)V"⟩, 5) := ⟨⟨by decide +kernel, by decide +kernel⟩, List.mem_of_getElem? (i := 27) (by decide +kernel), List.mem_of_getElem? (i := 483) (by decide +kernel), List.mem_of_getElem? (i := 484) (by decide +kernel)⟩
def lw_privs_2 : List (MethodName × Nat) := [(⟨"PromiseFlows$Takings", "save", "()V"⟩, 10), (⟨"PromiseFlows$Goods", "demandGood", "(II)I"⟩, 5), (⟨"PromiseFlows", "usableFor", "(II)I"⟩, 4), (⟨"PromiseFlows$Goods", "meets", "(II)Z"⟩, 5), (⟨"PromiseFlows$Goods", "standsInFor", "(II)Z"⟩, 5), (⟨"PromiseFlows$Takings", "take", "(III)I"⟩, 10), (⟨"PromiseFlows$Takings", "takeFrom", "(IIII)I"⟩, 10), (⟨"PromiseFlows$Takings", "spread", "(II)I"⟩, 10), (⟨"PromiseFlows$Takings", "reach", "(IIII)I"⟩, 10), (⟨"PromiseFlows$Takings", "nearestRoom", "(I)I"⟩, 10), (⟨"PromiseFlows$Takings", "shift", "(III)I"⟩, 10), (⟨"PromiseFlows$Takings", "restore", "()V"⟩, 10), (⟨"PromiseFlows", "makePlan", "()V"⟩, 4), (⟨"PromiseFlows$Takings", "giveBack", "(I)V"⟩, 10), (⟨"PromiseFlows", "needArrival", "(I)V"⟩, 4), (⟨"PromiseFlows$Goods", "letStandIn", "(IIZ)V"⟩, 5)]
theorem lw_r2 : ∀ q ∈ lw_privs_2, lw_okq q := List.forall_mem_cons.mpr ⟨lw_p16, List.forall_mem_cons.mpr ⟨lw_p17, List.forall_mem_cons.mpr ⟨lw_p18, List.forall_mem_cons.mpr ⟨lw_p19, List.forall_mem_cons.mpr ⟨lw_p20, List.forall_mem_cons.mpr ⟨lw_p21, List.forall_mem_cons.mpr ⟨lw_p22, List.forall_mem_cons.mpr ⟨lw_p23, List.forall_mem_cons.mpr ⟨lw_p24, List.forall_mem_cons.mpr ⟨lw_p25, List.forall_mem_cons.mpr ⟨lw_p26, List.forall_mem_cons.mpr ⟨lw_p27, List.forall_mem_cons.mpr ⟨lw_p28, List.forall_mem_cons.mpr ⟨lw_p29, List.forall_mem_cons.mpr ⟨lw_p30, List.forall_mem_cons.mpr ⟨lw_p31, fun _ h => absurd h List.not_mem_nil⟩⟩⟩⟩⟩⟩⟩⟩⟩⟩⟩⟩⟩⟩⟩⟩
theorem lw_p32 : lw_okq (⟨"PromiseFlows$Goods", "hasPart", "(II)Z"⟩, 5) := ⟨⟨by decide +kernel, by decide +kernel⟩, List.mem_of_getElem? (i := 27) (by decide +kernel), List.mem_of_getElem? (i := 494) (by decide +kernel), List.mem_of_getElem? (i := 495) (by decide +kernel)⟩
theorem lw_p33 : lw_okq (⟨"PromiseFlows$Goods", "isPart", "(I)Z"⟩, 5) := ⟨⟨by decide +kernel, by decide +kernel⟩, List.mem_of_getElem? (i := 27) (by decide +kernel), List.mem_of_getElem? (i := 499) (by decide +kernel), List.mem_of_getElem? (i := 500) (by decide +kernel)⟩
theorem lw_p34 : lw_okq (⟨"PromiseFlows$Goods", "isInStandIn", "(I)Z"⟩, 5) := ⟨⟨by decide +kernel, by decide +kernel⟩, List.mem_of_getElem? (i := 27) (by decide +kernel), List.mem_of_getElem? (i := 504) (by decide +kernel), List.mem_of_getElem? (i := 505) (by decide +kernel)⟩
theorem lw_p35 : lw_okq (⟨"PromiseFlows$Arrivals", "has", "(I)Z"⟩, 5) := ⟨⟨by decide +kernel, by decide +kernel⟩, List.mem_of_getElem? (i := 53) (by decide +kernel), List.mem_of_getElem? (i := 508) (by decide +kernel), List.mem_of_getElem? (i := 509) (by decide +kernel)⟩
theorem lw_p36 : lw_okq (⟨"PromiseFlows$Orders", "has", "(I)Z"⟩, 7) := ⟨⟨by decide +kernel, by decide +kernel⟩, List.mem_of_getElem? (i := 81) (by decide +kernel), List.mem_of_getElem? (i := 512) (by decide +kernel), List.mem_of_getElem? (i := 513) (by decide +kernel)⟩
theorem lw_p37 : lw_okq (⟨"PromiseFlows$Goods", "addPart", "(III)I"⟩, 5) := ⟨⟨by decide +kernel, by decide +kernel⟩, List.mem_of_getElem? (i := 27) (by decide +kernel), List.mem_of_getElem? (i := 518) (by decide +kernel), List.mem_of_getElem? (i := 519) (by decide +kernel)⟩
theorem lw_p38 : lw_okq (⟨"PromiseFlows$Orders", "write", "(IIII)I"⟩, 7) := ⟨⟨by decide +kernel, by decide +kernel⟩, List.mem_of_getElem? (i := 81) (by decide +kernel), List.mem_of_getElem? (i := 530) (by decide +kernel), List.mem_of_getElem? (i := 531) (by decide +kernel)⟩
theorem lw_p39 : lw_okq (⟨"PromiseFlows$Orders", "admit", "()V"⟩, 7) := ⟨⟨by decide +kernel, by decide +kernel⟩, List.mem_of_getElem? (i := 81) (by decide +kernel), List.mem_of_getElem? (i := 534) (by decide +kernel), List.mem_of_getElem? (i := 535) (by decide +kernel)⟩
theorem lw_p40 : lw_okq (⟨"PromiseFlows", "needOrder", "(I)V"⟩, 4) := ⟨⟨by decide +kernel, by decide +kernel⟩, List.mem_of_getElem? (i := 19) (by decide +kernel), List.mem_of_getElem? (i := 545) (by decide +kernel), List.mem_of_getElem? (i := 546) (by decide +kernel)⟩
theorem lw_p41 : lw_okq (⟨"PromiseFlows", "greatestFurther", "(II)I"⟩, 4) := ⟨⟨by decide +kernel, by decide +kernel⟩, List.mem_of_getElem? (i := 19) (by decide +kernel), List.mem_of_getElem? (i := 558) (by decide +kernel), List.mem_of_getElem? (i := 559) (by decide +kernel)⟩
theorem lw_p42 : lw_okq (⟨"PromiseFlows$Takings", "mostFrom", "(I)I"⟩, 10) := ⟨⟨by decide +kernel, by decide +kernel⟩, List.mem_of_getElem? (i := 115) (by decide +kernel), List.mem_of_getElem? (i := 564) (by decide +kernel), List.mem_of_getElem? (i := 565) (by decide +kernel)⟩
theorem lw_p43 : lw_okq (⟨"PromiseFlows$Arrivals", "broughtBy", "(I)I"⟩, 5) := ⟨⟨by decide +kernel, by decide +kernel⟩, List.mem_of_getElem? (i := 53) (by decide +kernel), List.mem_of_getElem? (i := 581) (by decide +kernel), List.mem_of_getElem? (i := 582) (by decide +kernel)⟩
theorem lw_p44 : lw_okq (⟨"PromiseFlows", "takesFrom", "(II)Z"⟩, 4) := ⟨⟨by decide +kernel, by decide +kernel⟩, List.mem_of_getElem? (i := 19) (by decide +kernel), List.mem_of_getElem? (i := 615) (by decide +kernel), List.mem_of_getElem? (i := 616) (by decide +kernel)⟩
theorem lw_p45 : lw_okq (⟨"PromiseFlows$Takings", "takesFrom", "(II)Z"⟩, 10) := ⟨⟨by decide +kernel, by decide +kernel⟩, List.mem_of_getElem? (i := 115) (by decide +kernel), List.mem_of_getElem? (i := 619) (by decide +kernel), List.mem_of_getElem? (i := 620) (by decide +kernel)⟩
theorem lw_p46 : lw_okq (⟨"PromiseFlows$Takings", "partsOf", "(I)I"⟩, 10) := ⟨⟨by decide +kernel, by decide +kernel⟩, List.mem_of_getElem? (i := 115) (by decide +kernel), List.mem_of_getElem? (i := 631) (by decide +kernel), List.mem_of_getElem? (i := 632) (by decide +kernel)⟩
theorem lw_p47 : lw_okq (⟨"PromiseFlows$Takings", "partOf", "(IIZ)I"⟩, 10) := ⟨⟨by decide +kernel, by decide +kernel⟩, List.mem_of_getElem? (i := 115) (by decide +kernel), List.mem_of_getElem? (i := 635) (by decide +kernel), List.mem_of_getElem? (i := 636) (by decide +kernel)⟩
def lw_privs_3 : List (MethodName × Nat) := [(⟨"PromiseFlows$Goods", "hasPart", "(II)Z"⟩, 5), (⟨"PromiseFlows$Goods", "isPart", "(I)Z"⟩, 5), (⟨"PromiseFlows$Goods", "isInStandIn", "(I)Z"⟩, 5), (⟨"PromiseFlows$Arrivals", "has", "(I)Z"⟩, 5), (⟨"PromiseFlows$Orders", "has", "(I)Z"⟩, 7), (⟨"PromiseFlows$Goods", "addPart", "(III)I"⟩, 5), (⟨"PromiseFlows$Orders", "write", "(IIII)I"⟩, 7), (⟨"PromiseFlows$Orders", "admit", "()V"⟩, 7), (⟨"PromiseFlows", "needOrder", "(I)V"⟩, 4), (⟨"PromiseFlows", "greatestFurther", "(II)I"⟩, 4), (⟨"PromiseFlows$Takings", "mostFrom", "(I)I"⟩, 10), (⟨"PromiseFlows$Arrivals", "broughtBy", "(I)I"⟩, 5), (⟨"PromiseFlows", "takesFrom", "(II)Z"⟩, 4), (⟨"PromiseFlows$Takings", "takesFrom", "(II)Z"⟩, 10), (⟨"PromiseFlows$Takings", "partsOf", "(I)I"⟩, 10), (⟨"PromiseFlows$Takings", "partOf", "(IIZ)I"⟩, 10)]
theorem lw_r3 : ∀ q ∈ lw_privs_3, lw_okq q := List.forall_mem_cons.mpr ⟨lw_p32, List.forall_mem_cons.mpr ⟨lw_p33, List.forall_mem_cons.mpr ⟨lw_p34, List.forall_mem_cons.mpr ⟨lw_p35, List.forall_mem_cons.mpr ⟨lw_p36, List.forall_mem_cons.mpr ⟨lw_p37, List.forall_mem_cons.mpr ⟨lw_p38, List.forall_mem_cons.mpr ⟨lw_p39, List.forall_mem_cons.mpr ⟨lw_p40, List.forall_mem_cons.mpr ⟨lw_p41, List.forall_mem_cons.mpr ⟨lw_p42, List.forall_mem_cons.mpr ⟨lw_p43, List.forall_mem_cons.mpr ⟨lw_p44, List.forall_mem_cons.mpr ⟨lw_p45, List.forall_mem_cons.mpr ⟨lw_p46, List.forall_mem_cons.mpr ⟨lw_p47, fun _ h => absurd h List.not_mem_nil⟩⟩⟩⟩⟩⟩⟩⟩⟩⟩⟩⟩⟩⟩⟩⟩
theorem lw_p48 : lw_okq (⟨"PromiseFlowsModel", "isKit", "(I)Z"⟩, 29) := ⟨⟨by decide +kernel, by decide +kernel⟩, List.mem_of_getElem? (i := 653) (by decide +kernel), List.mem_of_getElem? (i := 763) (by decide +kernel), List.mem_of_getElem? (i := 764) (by decide +kernel)⟩
theorem lw_p49 : lw_okq (⟨"PromiseFlowsModel", "cover", "()I"⟩, 29) := ⟨⟨by decide +kernel, by decide +kernel⟩, List.mem_of_getElem? (i := 653) (by decide +kernel), List.mem_of_getElem? (i := 767) (by decide +kernel), List.mem_of_getElem? (i := 768) (by decide +kernel)⟩
theorem lw_p50 : lw_okq (⟨"PromiseFlowsModel", "next", "(IZ)I"⟩, 29) := ⟨⟨by decide +kernel, by decide +kernel⟩, List.mem_of_getElem? (i := 653) (by decide +kernel), List.mem_of_getElem? (i := 771) (by decide +kernel), List.mem_of_getElem? (i := 772) (by decide +kernel)⟩
theorem lw_p51 : lw_okq (⟨"PromiseFlowsModel", "addOrder", "(IIII)V"⟩, 29) := ⟨⟨by decide +kernel, by decide +kernel⟩, List.mem_of_getElem? (i := 653) (by decide +kernel), List.mem_of_getElem? (i := 775) (by decide +kernel), List.mem_of_getElem? (i := 776) (by decide +kernel)⟩
theorem lw_p52 : lw_okq (⟨"PromiseFlowsModel", "addDemand", "(IIJI)V"⟩, 29) := ⟨⟨by decide +kernel, by decide +kernel⟩, List.mem_of_getElem? (i := 653) (by decide +kernel), List.mem_of_getElem? (i := 779) (by decide +kernel), List.mem_of_getElem? (i := 780) (by decide +kernel)⟩
theorem lw_p53 : lw_okq (⟨"PromiseFlowsModel", "usable", "(II)I"⟩, 29) := ⟨⟨by decide +kernel, by decide +kernel⟩, List.mem_of_getElem? (i := 653) (by decide +kernel), List.mem_of_getElem? (i := 783) (by decide +kernel), List.mem_of_getElem? (i := 784) (by decide +kernel)⟩
theorem lw_p54 : lw_okq (⟨"PromiseFlowsModel", "canBeMet", "()Z"⟩, 29) := ⟨⟨by decide +kernel, by decide +kernel⟩, List.mem_of_getElem? (i := 653) (by decide +kernel), List.mem_of_getElem? (i := 787) (by decide +kernel), List.mem_of_getElem? (i := 788) (by decide +kernel)⟩
theorem lw_p55 : lw_okq (⟨"PromiseFlowsModel", "slack", "(I)J"⟩, 29) := ⟨⟨by decide +kernel, by decide +kernel⟩, List.mem_of_getElem? (i := 653) (by decide +kernel), List.mem_of_getElem? (i := 791) (by decide +kernel), List.mem_of_getElem? (i := 792) (by decide +kernel)⟩
theorem lw_p56 : lw_okq (⟨"PromiseFlowsModel", "isArrival", "(I)Z"⟩, 29) := ⟨⟨by decide +kernel, by decide +kernel⟩, List.mem_of_getElem? (i := 653) (by decide +kernel), List.mem_of_getElem? (i := 799) (by decide +kernel), List.mem_of_getElem? (i := 800) (by decide +kernel)⟩
theorem lw_p57 : lw_okq (⟨"PromiseFlowsModel", "isPart", "(I)Z"⟩, 29) := ⟨⟨by decide +kernel, by decide +kernel⟩, List.mem_of_getElem? (i := 653) (by decide +kernel), List.mem_of_getElem? (i := 819) (by decide +kernel), List.mem_of_getElem? (i := 820) (by decide +kernel)⟩
theorem lw_p58 : lw_okq (⟨"PromiseFlowsModel", "isUsed", "(I)Z"⟩, 29) := ⟨⟨by decide +kernel, by decide +kernel⟩, List.mem_of_getElem? (i := 653) (by decide +kernel), List.mem_of_getElem? (i := 823) (by decide +kernel), List.mem_of_getElem? (i := 824) (by decide +kernel)⟩
theorem lw_p59 : lw_okq (⟨"PromiseFlowsModel", "collect", "()V"⟩, 29) := ⟨⟨by decide +kernel, by decide +kernel⟩, List.mem_of_getElem? (i := 653) (by decide +kernel), List.mem_of_getElem? (i := 831) (by decide +kernel), List.mem_of_getElem? (i := 832) (by decide +kernel)⟩
theorem lw_p60 : lw_okq (⟨"PromiseFlowsModel", "isOrder", "(I)Z"⟩, 29) := ⟨⟨by decide +kernel, by decide +kernel⟩, List.mem_of_getElem? (i := 653) (by decide +kernel), List.mem_of_getElem? (i := 839) (by decide +kernel), List.mem_of_getElem? (i := 840) (by decide +kernel)⟩
theorem lw_p61 : lw_okq (⟨"PromiseFlowsModel", "greatest", "(II)I"⟩, 29) := ⟨⟨by decide +kernel, by decide +kernel⟩, List.mem_of_getElem? (i := 653) (by decide +kernel), List.mem_of_getElem? (i := 847) (by decide +kernel), List.mem_of_getElem? (i := 848) (by decide +kernel)⟩
theorem lw_p62 : lw_okq (⟨"PromiseFlowsModel", "plan", "()V"⟩, 29) := ⟨⟨by decide +kernel, by decide +kernel⟩, List.mem_of_getElem? (i := 653) (by decide +kernel), List.mem_of_getElem? (i := 861) (by decide +kernel), List.mem_of_getElem? (i := 862) (by decide +kernel)⟩
theorem lw_p63 : lw_okq (⟨"PromiseFlowsModel", "nextArrival", "(II)I"⟩, 29) := ⟨⟨by decide +kernel, by decide +kernel⟩, List.mem_of_getElem? (i := 653) (by decide +kernel), List.mem_of_getElem? (i := 865) (by decide +kernel), List.mem_of_getElem? (i := 866) (by decide +kernel)⟩
def lw_privs_4 : List (MethodName × Nat) := [(⟨"PromiseFlowsModel", "isKit", "(I)Z"⟩, 29), (⟨"PromiseFlowsModel", "cover", "()I"⟩, 29), (⟨"PromiseFlowsModel", "next", "(IZ)I"⟩, 29), (⟨"PromiseFlowsModel", "addOrder", "(IIII)V"⟩, 29), (⟨"PromiseFlowsModel", "addDemand", "(IIJI)V"⟩, 29), (⟨"PromiseFlowsModel", "usable", "(II)I"⟩, 29), (⟨"PromiseFlowsModel", "canBeMet", "()Z"⟩, 29), (⟨"PromiseFlowsModel", "slack", "(I)J"⟩, 29), (⟨"PromiseFlowsModel", "isArrival", "(I)Z"⟩, 29), (⟨"PromiseFlowsModel", "isPart", "(I)Z"⟩, 29), (⟨"PromiseFlowsModel", "isUsed", "(I)Z"⟩, 29), (⟨"PromiseFlowsModel", "collect", "()V"⟩, 29), (⟨"PromiseFlowsModel", "isOrder", "(I)Z"⟩, 29), (⟨"PromiseFlowsModel", "greatest", "(II)I"⟩, 29), (⟨"PromiseFlowsModel", "plan", "()V"⟩, 29), (⟨"PromiseFlowsModel", "nextArrival", "(II)I"⟩, 29)]
theorem lw_r4 : ∀ q ∈ lw_privs_4, lw_okq q := List.forall_mem_cons.mpr ⟨lw_p48, List.forall_mem_cons.mpr ⟨lw_p49, List.forall_mem_cons.mpr ⟨lw_p50, List.forall_mem_cons.mpr ⟨lw_p51, List.forall_mem_cons.mpr ⟨lw_p52, List.forall_mem_cons.mpr ⟨lw_p53, List.forall_mem_cons.mpr ⟨lw_p54, List.forall_mem_cons.mpr ⟨lw_p55, List.forall_mem_cons.mpr ⟨lw_p56, List.forall_mem_cons.mpr ⟨lw_p57, List.forall_mem_cons.mpr ⟨lw_p58, List.forall_mem_cons.mpr ⟨lw_p59, List.forall_mem_cons.mpr ⟨lw_p60, List.forall_mem_cons.mpr ⟨lw_p61, List.forall_mem_cons.mpr ⟨lw_p62, List.forall_mem_cons.mpr ⟨lw_p63, fun _ h => absurd h List.not_mem_nil⟩⟩⟩⟩⟩⟩⟩⟩⟩⟩⟩⟩⟩⟩⟩⟩
theorem lw_p64 : lw_okq (⟨"PromiseFlowsModel", "atMost", "(II)J"⟩, 29) := ⟨⟨by decide +kernel, by decide +kernel⟩, List.mem_of_getElem? (i := 653) (by decide +kernel), List.mem_of_getElem? (i := 869) (by decide +kernel), List.mem_of_getElem? (i := 870) (by decide +kernel)⟩
def lw_privs_5 : List (MethodName × Nat) := [(⟨"PromiseFlowsModel", "atMost", "(II)J"⟩, 29)]
theorem lw_r5 : ∀ q ∈ lw_privs_5, lw_okq q := List.forall_mem_cons.mpr ⟨lw_p64, fun _ h => absurd h List.not_mem_nil⟩
def lw_privs : List (MethodName × Nat) := lw_privs_1 ++ (lw_privs_2 ++ (lw_privs_3 ++ (lw_privs_4 ++ (lw_privs_5))))
def lw_tbl : List Cond := k2_sels lw_privs ++ tables_1
theorem lw_privs_ok : ∀ q ∈ lw_privs, lw_okq q := by
  show ∀ q ∈ lw_privs_1 ++ (lw_privs_2 ++ (lw_privs_3 ++ (lw_privs_4 ++ (lw_privs_5)))), lw_okq q
  exact List.forall_mem_append.mpr ⟨lw_r1, List.forall_mem_append.mpr ⟨lw_r2, List.forall_mem_append.mpr ⟨lw_r3, List.forall_mem_append.mpr ⟨lw_r4, lw_r5⟩⟩⟩⟩
end
section
def RX0 : String := "PromiseFlows$Arrivals"
def TX0 : u_T := fun k => match k with
  | 0 => ("PromiseFlows$Arrivals", "number", "I", false)
  | 1 => ("PromiseFlows$Arrivals", "times", "[I", true)
  | 2 => ("PromiseFlows$Arrivals", "goods", "[I", true)
  | 3 => ("PromiseFlows$Arrivals", "brought", "[I", true)
  | _ => ("PromiseFlows$Arrivals", "setAside", "[I", true)
def tyX0 : Nat → FieldType := fun k => match k with
  | 0 => .int
  | 1 => .array .int
  | 2 => .array .int
  | 3 => .array .int
  | _ => .array .int
theorem nmX0 : ∀ a, a < 5 → ∀ b, b < 5 → a ≠ b → (TX0 a).2.1 ≠ (TX0 b).2.1 := by decide +kernel
theorem tyX0_ok : ∀ k, k < 5 → parseFieldDescriptor (TX0 k).2.2.1 = some (tyX0 k) := by decide +kernel
def RX1 : String := "PromiseFlows$Goods"
def TX1 : u_T := fun k => match k with
  | 0 => ("PromiseFlows$Goods", "lives", "[I", true)
  | 1 => ("PromiseFlows$Goods", "standing", "[Z", true)
  | 2 => ("PromiseFlows$Goods", "recipeLengths", "[I", true)
  | 3 => ("PromiseFlows$Goods", "partGoods", "[I", true)
  | _ => ("PromiseFlows$Goods", "partNumbers", "[I", true)
def tyX1 : Nat → FieldType := fun k => match k with
  | 0 => .array .int
  | 1 => .array .boolean
  | 2 => .array .int
  | 3 => .array .int
  | _ => .array .int
theorem nmX1 : ∀ a, a < 5 → ∀ b, b < 5 → a ≠ b → (TX1 a).2.1 ≠ (TX1 b).2.1 := by decide +kernel
theorem tyX1_ok : ∀ k, k < 5 → parseFieldDescriptor (TX1 k).2.2.1 = some (tyX1 k) := by decide +kernel
def RX2 : String := "PromiseFlows$Orders"
def TX2 : u_T := fun k => match k with
  | 0 => ("PromiseFlows$Orders", "number", "I", false)
  | 1 => ("PromiseFlows$Orders", "dues", "[I", true)
  | 2 => ("PromiseFlows$Orders", "goods", "[I", true)
  | 3 => ("PromiseFlows$Orders", "wanted", "[I", true)
  | 4 => ("PromiseFlows$Orders", "ranks", "[I", true)
  | 5 => ("PromiseFlows$Orders", "states", "[I", true)
  | _ => ("PromiseFlows$Orders", "byRank", "[I", true)
def tyX2 : Nat → FieldType := fun k => match k with
  | 0 => .int
  | 1 => .array .int
  | 2 => .array .int
  | 3 => .array .int
  | 4 => .array .int
  | 5 => .array .int
  | _ => .array .int
theorem nmX2 : ∀ a, a < 7 → ∀ b, b < 7 → a ≠ b → (TX2 a).2.1 ≠ (TX2 b).2.1 := by decide +kernel
theorem tyX2_ok : ∀ k, k < 7 → parseFieldDescriptor (TX2 k).2.2.1 = some (tyX2 k) := by decide +kernel
def RX3 : String := "PromiseFlows$Takings"
def TX3 : u_T := fun k => match k with
  | 0 => ("PromiseFlows$Takings", "arrivals", "I", false)
  | 1 => ("PromiseFlows$Takings", "byTime", "[I", true)
  | 2 => ("PromiseFlows$Takings", "room", "[I", true)
  | 3 => ("PromiseFlows$Takings", "taken", "[I", true)
  | 4 => ("PromiseFlows$Takings", "usable", "[I", true)
  | 5 => ("PromiseFlows$Takings", "savedRoom", "[I", true)
  | 6 => ("PromiseFlows$Takings", "savedTaken", "[I", true)
  | 7 => ("PromiseFlows$Takings", "reachedInTurn", "[I", true)
  | 8 => ("PromiseFlows$Takings", "reachedFrom", "[I", true)
  | _ => ("PromiseFlows$Takings", "reachedBy", "[I", true)
def tyX3 : Nat → FieldType := fun k => match k with
  | 0 => .int
  | 1 => .array .int
  | 2 => .array .int
  | 3 => .array .int
  | 4 => .array .int
  | 5 => .array .int
  | 6 => .array .int
  | 7 => .array .int
  | 8 => .array .int
  | _ => .array .int
theorem nmX3 : ∀ a, a < 10 → ∀ b, b < 10 → a ≠ b → (TX3 a).2.1 ≠ (TX3 b).2.1 := by decide +kernel
theorem tyX3_ok : ∀ k, k < 10 → parseFieldDescriptor (TX3 k).2.2.1 = some (tyX3 k) := by decide +kernel
def RX4 : String := "PromiseFlows"
def TX4 : u_T := fun k => match k with
  | 0 => ("PromiseFlows", "goods", "LPromiseFlows$Goods;", true)
  | 1 => ("PromiseFlows", "arrivals", "LPromiseFlows$Arrivals;", true)
  | 2 => ("PromiseFlows", "orders", "LPromiseFlows$Orders;", true)
  | _ => ("PromiseFlows", "takings", "LPromiseFlows$Takings;", true)
def tyX4 : Nat → FieldType := fun k => match k with
  | 0 => .object "PromiseFlows$Goods"
  | 1 => .object "PromiseFlows$Arrivals"
  | 2 => .object "PromiseFlows$Orders"
  | _ => .object "PromiseFlows$Takings"
theorem nmX4 : ∀ a, a < 4 → ∀ b, b < 4 → a ≠ b → (TX4 a).2.1 ≠ (TX4 b).2.1 := by decide +kernel
theorem tyX4_ok : ∀ k, k < 4 → parseFieldDescriptor (TX4 k).2.2.1 = some (tyX4 k) := by decide +kernel
def RX5 : String := "PromiseFlowsModel"
def TX5 : u_T := fun k => match k with
  | 0 => ("PromiseFlowsModel", "code", "I", false)
  | 1 => ("PromiseFlowsModel", "life", "[I", true)
  | 2 => ("PromiseFlowsModel", "standIns", "[I", true)
  | 3 => ("PromiseFlowsModel", "partCount", "[I", true)
  | 4 => ("PromiseFlowsModel", "parts", "[I", true)
  | 5 => ("PromiseFlowsModel", "partMany", "[I", true)
  | 6 => ("PromiseFlowsModel", "arrivals", "I", false)
  | 7 => ("PromiseFlowsModel", "time", "[I", true)
  | 8 => ("PromiseFlowsModel", "good", "[I", true)
  | 9 => ("PromiseFlowsModel", "brings", "[I", true)
  | 10 => ("PromiseFlowsModel", "aside", "[I", true)
  | 11 => ("PromiseFlowsModel", "orders", "I", false)
  | 12 => ("PromiseFlowsModel", "due", "[I", true)
  | 13 => ("PromiseFlowsModel", "wanted", "[I", true)
  | 14 => ("PromiseFlowsModel", "many", "[I", true)
  | 15 => ("PromiseFlowsModel", "rank", "[I", true)
  | 16 => ("PromiseFlowsModel", "state", "[I", true)
  | 17 => ("PromiseFlowsModel", "demands", "I", false)
  | 18 => ("PromiseFlowsModel", "demandOf", "[I", true)
  | 19 => ("PromiseFlowsModel", "demandGood", "[I", true)
  | 20 => ("PromiseFlowsModel", "demandMany", "[J", true)
  | 21 => ("PromiseFlowsModel", "demandMask", "[I", true)
  | 22 => ("PromiseFlowsModel", "has", "[J", true)
  | 23 => ("PromiseFlowsModel", "entries", "I", false)
  | 24 => ("PromiseFlowsModel", "entryOf", "[I", true)
  | 25 => ("PromiseFlowsModel", "entryDemand", "[I", true)
  | 26 => ("PromiseFlowsModel", "entryGood", "[I", true)
  | 27 => ("PromiseFlowsModel", "entryFrom", "[I", true)
  | _ => ("PromiseFlowsModel", "entryMany", "[I", true)
def tyX5 : Nat → FieldType := fun k => match k with
  | 0 => .int
  | 1 => .array .int
  | 2 => .array .int
  | 3 => .array .int
  | 4 => .array .int
  | 5 => .array .int
  | 6 => .int
  | 7 => .array .int
  | 8 => .array .int
  | 9 => .array .int
  | 10 => .array .int
  | 11 => .int
  | 12 => .array .int
  | 13 => .array .int
  | 14 => .array .int
  | 15 => .array .int
  | 16 => .array .int
  | 17 => .int
  | 18 => .array .int
  | 19 => .array .int
  | 20 => .array .long
  | 21 => .array .int
  | 22 => .array .long
  | 23 => .int
  | 24 => .array .int
  | 25 => .array .int
  | 26 => .array .int
  | 27 => .array .int
  | _ => .array .int
theorem nmX5 : ∀ a, a < 29 → ∀ b, b < 29 → a ≠ b → (TX5 a).2.1 ≠ (TX5 b).2.1 := by decide +kernel
theorem tyX5_ok : ∀ k, k < 29 → parseFieldDescriptor (TX5 k).2.2.1 = some (tyX5 k) := by decide +kernel
def RL : String := "PromiseFlowsLaw"
abbrev vcl : List vw_C := [(RX0, TX0, 5), (RX1, TX1, 5), (RX2, TX2, 7), (RX3, TX3, 10), (RX4, TX4, 4), (RX5, TX5, 29)]
abbrev cX4_init : ByteArray := prog_1_method_1_code
def yX4_init : MethodName := ⟨RX4, "<init>", "()V"⟩
abbrev cX4_arrival : ByteArray := prog_1_method_2_code
def yX4_arrival : MethodName := ⟨RX4, "arrival", "(III)I"⟩
abbrev cX4_change : ByteArray := prog_1_method_3_code
def yX4_change : MethodName := ⟨RX4, "change", "(III)I"⟩
abbrev cX4_aside : ByteArray := prog_1_method_4_code
def yX4_aside : MethodName := ⟨RX4, "aside", "(II)I"⟩
abbrev cX4_life : ByteArray := prog_1_method_5_code
def yX4_life : MethodName := ⟨RX4, "life", "(II)I"⟩
abbrev cX4_standIn : ByteArray := prog_1_method_6_code
def yX4_standIn : MethodName := ⟨RX4, "standIn", "(IIZ)I"⟩
abbrev cX4_kit : ByteArray := prog_1_method_7_code
def yX4_kit : MethodName := ⟨RX4, "kit", "(III)I"⟩
abbrev cX4_order : ByteArray := prog_1_method_8_code
def yX4_order : MethodName := ⟨RX4, "order", "(IIII)I"⟩
abbrev cX4_close : ByteArray := prog_1_method_9_code
def yX4_close : MethodName := ⟨RX4, "close", "(I)I"⟩
abbrev cX4_promise : ByteArray := prog_1_method_10_code
def yX4_promise : MethodName := ⟨RX4, "promise", "(II)I"⟩
abbrev cX4_share : ByteArray := prog_1_method_11_code
def yX4_share : MethodName := ⟨RX4, "share", "(II)I"⟩
abbrev cX4_bars : ByteArray := prog_1_method_12_code
def yX4_bars : MethodName := ⟨RX4, "bars", "(III)I"⟩
abbrev cX4_flow : ByteArray := prog_1_method_13_code
def yX4_flow : MethodName := ⟨RX4, "flow", "(III)I"⟩
abbrev cX4_state : ByteArray := prog_1_method_14_code
def yX4_state : MethodName := ⟨RX4, "state", "(I)I"⟩
abbrev cX4_left : ByteArray := prog_1_method_15_code
def yX4_left : MethodName := ⟨RX4, "left", "(I)I"⟩
abbrev cX4_count : ByteArray := prog_1_method_16_code
def yX4_count : MethodName := ⟨RX4, "count", "(I)I"⟩
abbrev cX4_needWithin : ByteArray := prog_1_method_17_code
def yX4_needWithin : MethodName := ⟨RX4, "needWithin", "(III)V"⟩
abbrev cX4_needGood : ByteArray := prog_1_method_18_code
def yX4_needGood : MethodName := ⟨RX4, "needGood", "(I)V"⟩
abbrev cX4_needTime : ByteArray := prog_1_method_19_code
def yX4_needTime : MethodName := ⟨RX4, "needTime", "(I)V"⟩
abbrev cX4_needNotBelowZero : ByteArray := prog_1_method_20_code
def yX4_needNotBelowZero : MethodName := ⟨RX4, "needNotBelowZero", "(I)V"⟩
abbrev cX4_needArrival : ByteArray := prog_1_method_21_code
def yX4_needArrival : MethodName := ⟨RX4, "needArrival", "(I)V"⟩
abbrev cX4_needOrder : ByteArray := prog_1_method_22_code
def yX4_needOrder : MethodName := ⟨RX4, "needOrder", "(I)V"⟩
abbrev cX4_needNoKit : ByteArray := prog_1_method_23_code
def yX4_needNoKit : MethodName := ⟨RX4, "needNoKit", "(I)V"⟩
abbrev cX4_settle : ByteArray := prog_1_method_24_code
def yX4_settle : MethodName := ⟨RX4, "settle", "()I"⟩
abbrev cX4_joinsCovered : ByteArray := prog_1_method_25_code
def yX4_joinsCovered : MethodName := ⟨RX4, "joinsCovered", "(I)Z"⟩
abbrev cX4_makePlan : ByteArray := prog_1_method_26_code
def yX4_makePlan : MethodName := ⟨RX4, "makePlan", "()V"⟩
abbrev cX4_greatestFurther : ByteArray := prog_1_method_27_code
def yX4_greatestFurther : MethodName := ⟨RX4, "greatestFurther", "(II)I"⟩
abbrev cX4_usableFor : ByteArray := prog_1_method_28_code
def yX4_usableFor : MethodName := ⟨RX4, "usableFor", "(II)I"⟩
abbrev cX4_takesFrom : ByteArray := prog_1_method_29_code
def yX4_takesFrom : MethodName := ⟨RX4, "takesFrom", "(II)Z"⟩
abbrev cX4_demandsOf : ByteArray := prog_1_method_30_code
def yX4_demandsOf : MethodName := ⟨RX4, "demandsOf", "(I)I"⟩
abbrev cX4_wantedBy : ByteArray := prog_1_method_31_code
def yX4_wantedBy : MethodName := ⟨RX4, "wantedBy", "(II)I"⟩
abbrev cX4_allCoveredDemands : ByteArray := prog_1_method_32_code
def yX4_allCoveredDemands : MethodName := ⟨RX4, "allCoveredDemands", "()I"⟩
abbrev cX4_demandAt : ByteArray := prog_1_method_33_code
def yX4_demandAt : MethodName := ⟨RX4, "demandAt", "(II)I"⟩
abbrev cX4_hasBit : ByteArray := prog_1_method_34_code
def yX4_hasBit : MethodName := ⟨RX4, "hasBit", "(II)Z"⟩
abbrev cX5_init : ByteArray := prog_7_method_1_code
def yX5_init : MethodName := ⟨RX5, "<init>", "()V"⟩
abbrev cX5_thrown : ByteArray := prog_7_method_2_code
def yX5_thrown : MethodName := ⟨RX5, "thrown", "()I"⟩
abbrev cX5_in : ByteArray := prog_7_method_3_code
def yX5_in : MethodName := ⟨RX5, "in", "(III)Z"⟩
abbrev cX5_isGood : ByteArray := prog_7_method_4_code
def yX5_isGood : MethodName := ⟨RX5, "isGood", "(I)Z"⟩
abbrev cX5_isKit : ByteArray := prog_7_method_5_code
def yX5_isKit : MethodName := ⟨RX5, "isKit", "(I)Z"⟩
abbrev cX5_isPart : ByteArray := prog_7_method_6_code
def yX5_isPart : MethodName := ⟨RX5, "isPart", "(I)Z"⟩
abbrev cX5_usable : ByteArray := prog_7_method_7_code
def yX5_usable : MethodName := ⟨RX5, "usable", "(II)I"⟩
abbrev cX5_addDemand : ByteArray := prog_7_method_8_code
def yX5_addDemand : MethodName := ⟨RX5, "addDemand", "(IIJI)V"⟩
abbrev cX5_addOrder : ByteArray := prog_7_method_9_code
def yX5_addOrder : MethodName := ⟨RX5, "addOrder", "(IIII)V"⟩
abbrev cX5_next : ByteArray := prog_7_method_10_code
def yX5_next : MethodName := ⟨RX5, "next", "(IZ)I"⟩
abbrev cX5_collect : ByteArray := prog_7_method_11_code
def yX5_collect : MethodName := ⟨RX5, "collect", "()V"⟩
abbrev cX5_slack : ByteArray := prog_7_method_12_code
def yX5_slack : MethodName := ⟨RX5, "slack", "(I)J"⟩
abbrev cX5_canBeMet : ByteArray := prog_7_method_13_code
def yX5_canBeMet : MethodName := ⟨RX5, "canBeMet", "()Z"⟩
abbrev cX5_cover : ByteArray := prog_7_method_14_code
def yX5_cover : MethodName := ⟨RX5, "cover", "()I"⟩
abbrev cX5_isArrival : ByteArray := prog_7_method_15_code
def yX5_isArrival : MethodName := ⟨RX5, "isArrival", "(I)Z"⟩
abbrev cX5_arrival : ByteArray := prog_7_method_16_code
def yX5_arrival : MethodName := ⟨RX5, "arrival", "(III)I"⟩
abbrev cX5_change : ByteArray := prog_7_method_17_code
def yX5_change : MethodName := ⟨RX5, "change", "(III)I"⟩
abbrev cX5_aside : ByteArray := prog_7_method_18_code
def yX5_aside : MethodName := ⟨RX5, "aside", "(II)I"⟩
abbrev cX5_life : ByteArray := prog_7_method_19_code
def yX5_life : MethodName := ⟨RX5, "life", "(II)I"⟩
abbrev cX5_standIn : ByteArray := prog_7_method_20_code
def yX5_standIn : MethodName := ⟨RX5, "standIn", "(IIZ)I"⟩
abbrev cX5_isUsed : ByteArray := prog_7_method_21_code
def yX5_isUsed : MethodName := ⟨RX5, "isUsed", "(I)Z"⟩
abbrev cX5_kit : ByteArray := prog_7_method_22_code
def yX5_kit : MethodName := ⟨RX5, "kit", "(III)I"⟩
abbrev cX5_isOrder : ByteArray := prog_7_method_23_code
def yX5_isOrder : MethodName := ⟨RX5, "isOrder", "(I)Z"⟩
abbrev cX5_order : ByteArray := prog_7_method_24_code
def yX5_order : MethodName := ⟨RX5, "order", "(IIII)I"⟩
abbrev cX5_close : ByteArray := prog_7_method_25_code
def yX5_close : MethodName := ⟨RX5, "close", "(I)I"⟩
abbrev cX5_greatest : ByteArray := prog_7_method_26_code
def yX5_greatest : MethodName := ⟨RX5, "greatest", "(II)I"⟩
abbrev cX5_promise : ByteArray := prog_7_method_27_code
def yX5_promise : MethodName := ⟨RX5, "promise", "(II)I"⟩
abbrev cX5_share : ByteArray := prog_7_method_28_code
def yX5_share : MethodName := ⟨RX5, "share", "(II)I"⟩
abbrev cX5_nextArrival : ByteArray := prog_7_method_29_code
def yX5_nextArrival : MethodName := ⟨RX5, "nextArrival", "(II)I"⟩
abbrev cX5_atMost : ByteArray := prog_7_method_30_code
def yX5_atMost : MethodName := ⟨RX5, "atMost", "(II)J"⟩
abbrev cX5_plan : ByteArray := prog_7_method_31_code
def yX5_plan : MethodName := ⟨RX5, "plan", "()V"⟩
abbrev cX5_bars : ByteArray := prog_7_method_32_code
def yX5_bars : MethodName := ⟨RX5, "bars", "(III)I"⟩
abbrev cX5_flow : ByteArray := prog_7_method_33_code
def yX5_flow : MethodName := ⟨RX5, "flow", "(III)I"⟩
abbrev cX5_state : ByteArray := prog_7_method_34_code
def yX5_state : MethodName := ⟨RX5, "state", "(I)I"⟩
abbrev cX5_left : ByteArray := prog_7_method_35_code
def yX5_left : MethodName := ⟨RX5, "left", "(I)I"⟩
abbrev cX5_count : ByteArray := prog_7_method_36_code
def yX5_count : MethodName := ⟨RX5, "count", "(I)I"⟩
abbrev cX0_init : ByteArray := prog_2_method_1_code
def yX0_init : MethodName := ⟨RX0, "<init>", "()V"⟩
abbrev cX0_add : ByteArray := prog_2_method_2_code
def yX0_add : MethodName := ⟨RX0, "add", "(III)I"⟩
abbrev cX0_has : ByteArray := prog_2_method_3_code
def yX0_has : MethodName := ⟨RX0, "has", "(I)Z"⟩
abbrev cX0_free : ByteArray := prog_2_method_4_code
def yX0_free : MethodName := ⟨RX0, "free", "(I)I"⟩
abbrev cX0_allFree : ByteArray := prog_2_method_5_code
def yX0_allFree : MethodName := ⟨RX0, "allFree", "()I"⟩
abbrev cX0_broughtBy : ByteArray := prog_2_method_6_code
def yX0_broughtBy : MethodName := ⟨RX0, "broughtBy", "(I)I"⟩
abbrev cX0_sortByTime : ByteArray := prog_2_method_7_code
def yX0_sortByTime : MethodName := ⟨RX0, "sortByTime", "([I)V"⟩
abbrev cX1_init : ByteArray := prog_3_method_1_code
def yX1_init : MethodName := ⟨RX1, "<init>", "()V"⟩
abbrev cX1_standsInFor : ByteArray := prog_3_method_2_code
def yX1_standsInFor : MethodName := ⟨RX1, "standsInFor", "(II)Z"⟩
abbrev cX1_letStandIn : ByteArray := prog_3_method_3_code
def yX1_letStandIn : MethodName := ⟨RX1, "letStandIn", "(IIZ)V"⟩
abbrev cX1_meets : ByteArray := prog_3_method_4_code
def yX1_meets : MethodName := ⟨RX1, "meets", "(II)Z"⟩
abbrev cX1_isInStandIn : ByteArray := prog_3_method_5_code
def yX1_isInStandIn : MethodName := ⟨RX1, "isInStandIn", "(I)Z"⟩
abbrev cX1_isKit : ByteArray := prog_3_method_6_code
def yX1_isKit : MethodName := ⟨RX1, "isKit", "(I)Z"⟩
abbrev cX1_hasPart : ByteArray := prog_3_method_7_code
def yX1_hasPart : MethodName := ⟨RX1, "hasPart", "(II)Z"⟩
abbrev cX1_isPart : ByteArray := prog_3_method_8_code
def yX1_isPart : MethodName := ⟨RX1, "isPart", "(I)Z"⟩
abbrev cX1_addPart : ByteArray := prog_3_method_9_code
def yX1_addPart : MethodName := ⟨RX1, "addPart", "(III)I"⟩
abbrev cX1_demandsOf : ByteArray := prog_3_method_10_code
def yX1_demandsOf : MethodName := ⟨RX1, "demandsOf", "(I)I"⟩
abbrev cX1_demandGood : ByteArray := prog_3_method_11_code
def yX1_demandGood : MethodName := ⟨RX1, "demandGood", "(II)I"⟩
abbrev cX1_numberForOne : ByteArray := prog_3_method_12_code
def yX1_numberForOne : MethodName := ⟨RX1, "numberForOne", "(II)I"⟩
abbrev cX2_init : ByteArray := prog_4_method_1_code
def yX2_init : MethodName := ⟨RX2, "<init>", "()V"⟩
abbrev cX2_write : ByteArray := prog_4_method_2_code
def yX2_write : MethodName := ⟨RX2, "write", "(IIII)I"⟩
abbrev cX2_admit : ByteArray := prog_4_method_3_code
def yX2_admit : MethodName := ⟨RX2, "admit", "()V"⟩
abbrev cX2_has : ByteArray := prog_4_method_4_code
def yX2_has : MethodName := ⟨RX2, "has", "(I)Z"⟩
abbrev cX2_numberIn : ByteArray := prog_4_method_5_code
def yX2_numberIn : MethodName := ⟨RX2, "numberIn", "(I)I"⟩
abbrev cX3_init : ByteArray := prog_5_method_1_code
def yX3_init : MethodName := ⟨RX3, "<init>", "()V"⟩
abbrev cX3_clear : ByteArray := prog_5_method_2_code
def yX3_clear : MethodName := ⟨RX3, "clear", "(LPromiseFlows$Arrivals;)V"⟩
abbrev cX3_save : ByteArray := prog_5_method_3_code
def yX3_save : MethodName := ⟨RX3, "save", "()V"⟩
abbrev cX3_restore : ByteArray := prog_5_method_4_code
def yX3_restore : MethodName := ⟨RX3, "restore", "()V"⟩
abbrev cX3_giveBack : ByteArray := prog_5_method_5_code
def yX3_giveBack : MethodName := ⟨RX3, "giveBack", "(I)V"⟩
abbrev cX3_mostFrom : ByteArray := prog_5_method_6_code
def yX3_mostFrom : MethodName := ⟨RX3, "mostFrom", "(I)I"⟩
abbrev cX3_take : ByteArray := prog_5_method_7_code
def yX3_take : MethodName := ⟨RX3, "take", "(III)I"⟩
abbrev cX3_takeFrom : ByteArray := prog_5_method_8_code
def yX3_takeFrom : MethodName := ⟨RX3, "takeFrom", "(IIII)I"⟩
abbrev cX3_nearestRoom : ByteArray := prog_5_method_9_code
def yX3_nearestRoom : MethodName := ⟨RX3, "nearestRoom", "(I)I"⟩
abbrev cX3_spread : ByteArray := prog_5_method_10_code
def yX3_spread : MethodName := ⟨RX3, "spread", "(II)I"⟩
abbrev cX3_reach : ByteArray := prog_5_method_11_code
def yX3_reach : MethodName := ⟨RX3, "reach", "(IIII)I"⟩
abbrev cX3_shift : ByteArray := prog_5_method_12_code
def yX3_shift : MethodName := ⟨RX3, "shift", "(III)I"⟩
abbrev cX3_takesFrom : ByteArray := prog_5_method_13_code
def yX3_takesFrom : MethodName := ⟨RX3, "takesFrom", "(II)Z"⟩
abbrev cX3_partsOf : ByteArray := prog_5_method_14_code
def yX3_partsOf : MethodName := ⟨RX3, "partsOf", "(I)I"⟩
abbrev cX3_partOf : ByteArray := prog_5_method_15_code
def yX3_partOf : MethodName := ⟨RX3, "partOf", "(IIZ)I"⟩
abbrev cL_arrival : ByteArray := method_3_code
def yL_arrival : MethodName := ⟨RL, "arrival", "(LPromiseFlows;III[J)I"⟩
abbrev cL_change : ByteArray := method_4_code
def yL_change : MethodName := ⟨RL, "change", "(LPromiseFlows;III[J)I"⟩
abbrev cL_aside : ByteArray := method_5_code
def yL_aside : MethodName := ⟨RL, "aside", "(LPromiseFlows;II[J)I"⟩
abbrev cL_life : ByteArray := method_6_code
def yL_life : MethodName := ⟨RL, "life", "(LPromiseFlows;II[J)I"⟩
abbrev cL_standIn : ByteArray := method_7_code
def yL_standIn : MethodName := ⟨RL, "standIn", "(LPromiseFlows;IIZ[J)I"⟩
abbrev cL_kit : ByteArray := method_8_code
def yL_kit : MethodName := ⟨RL, "kit", "(LPromiseFlows;III[J)I"⟩
abbrev cL_order : ByteArray := method_9_code
def yL_order : MethodName := ⟨RL, "order", "(LPromiseFlows;IIII[J)I"⟩
abbrev cL_close : ByteArray := method_10_code
def yL_close : MethodName := ⟨RL, "close", "(LPromiseFlows;I[J)I"⟩
abbrev cL_promise : ByteArray := method_11_code
def yL_promise : MethodName := ⟨RL, "promise", "(LPromiseFlows;II[J)I"⟩
abbrev cL_share : ByteArray := method_12_code
def yL_share : MethodName := ⟨RL, "share", "(LPromiseFlows;II[J)I"⟩
abbrev cL_bars : ByteArray := method_13_code
def yL_bars : MethodName := ⟨RL, "bars", "(LPromiseFlows;III[J)I"⟩
abbrev cL_flow : ByteArray := method_14_code
def yL_flow : MethodName := ⟨RL, "flow", "(LPromiseFlows;III[J)I"⟩
abbrev cL_state : ByteArray := method_15_code
def yL_state : MethodName := ⟨RL, "state", "(LPromiseFlows;I[J)I"⟩
abbrev cL_left : ByteArray := method_16_code
def yL_left : MethodName := ⟨RL, "left", "(LPromiseFlows;I[J)I"⟩
abbrev cL_law : ByteArray := code
def yL_law : MethodName := ⟨RL, "law", "([I)Z"⟩
/-- the good words of the table, for every method the same -/
def pf_tb : List Cond := lw_tbl.filter goodWord
theorem mem_tb {w : Cond} {i : Nat} (h : lw_tbl[i]? = some w) (hg : goodWord w = true) : w ∈ pf_tb := List.mem_filter.mpr ⟨List.mem_of_getElem? h, hg⟩
def pf_nestWord : Cond → Bool
  | .fieldLinkNest _ _ _ _ _ _ => true
  | .methodLinkNest _ _ _ _ => true
  | _ => false
def pf_nest : List Cond := lw_tbl.filter pf_nestWord
theorem mem_nest {w : Cond} {i : Nat} (h : lw_tbl[i]? = some w) (hg : pf_nestWord w = true) : w ∈ pf_nest := List.mem_filter.mpr ⟨List.mem_of_getElem? h, hg⟩
theorem pf_nestWord_on {w : Cond} (h : pf_nestWord w = true) : w.onTables = true := by
  cases w <;> first | (simp [pf_nestWord] at h; done) | rfl
def pf_X (U : State) : Prop := ∀ w ∈ pf_nest, va_Nw w U
theorem pf_X_same {u U : State} (h : u.vm = U.vm) (hx : pf_X u) : pf_X U := fun w hw => va_Nw.same (pf_nestWord_on (List.mem_filter.mp hw).2) h (hx w hw)
theorem pf_X_warm {s U : State} (hW : s.WarmedH U.vm) (hx : pf_X s) : pf_X U := by
  intro w hw
  have h1 := hx w hw
  have h2 := (List.mem_filter.mp hw).2
  cases w <;> first | (simp [pf_nestWord] at h2; done) | exact va_Nw.warmF hW h1 | exact va_Nw.warmM hW h1
theorem uwX0 : ∀ w ∈ u_ws RX0 TX0 5, w ∈ pf_tb := by decide +kernel
theorem uwX1 : ∀ w ∈ u_ws RX1 TX1 5, w ∈ pf_tb := by decide +kernel
theorem uwX2 : ∀ w ∈ u_ws RX2 TX2 7, w ∈ pf_tb := by decide +kernel
theorem uwX3 : ∀ w ∈ u_ws RX3 TX3 10, w ∈ pf_tb := by decide +kernel
theorem uwX4 : ∀ w ∈ u_ws RX4 TX4 4, w ∈ pf_tb := by decide +kernel
theorem uwX5 : ∀ w ∈ u_ws RX5 TX5 29, w ∈ pf_tb := by decide +kernel
end
section
theorem tw_0 : Cond.selects "PromiseFlows$Orders" ⟨"PromiseFlows$Orders", "numberIn", "(I)I"⟩ ⟨"PromiseFlows$Orders", "numberIn", "(I)I"⟩ ∈ pf_tb := mem_tb (i := 0) (by decide +kernel) (by decide +kernel)
theorem tw_1 : Cond.selects "PromiseFlows$Arrivals" ⟨"PromiseFlows$Arrivals", "allFree", "()I"⟩ ⟨"PromiseFlows$Arrivals", "allFree", "()I"⟩ ∈ pf_tb := mem_tb (i := 1) (by decide +kernel) (by decide +kernel)
theorem tw_2 : Cond.selects "PromiseFlows$Arrivals" ⟨"PromiseFlows$Arrivals", "free", "(I)I"⟩ ⟨"PromiseFlows$Arrivals", "free", "(I)I"⟩ ∈ pf_tb := mem_tb (i := 2) (by decide +kernel) (by decide +kernel)
theorem tw_3 : Cond.selects "PromiseFlows" ⟨"PromiseFlows", "allCoveredDemands", "()I"⟩ ⟨"PromiseFlows", "allCoveredDemands", "()I"⟩ ∈ pf_tb := mem_tb (i := 3) (by decide +kernel) (by decide +kernel)
theorem tw_4 : Cond.selects "PromiseFlows" ⟨"PromiseFlows", "demandsOf", "(I)I"⟩ ⟨"PromiseFlows", "demandsOf", "(I)I"⟩ ∈ pf_tb := mem_tb (i := 4) (by decide +kernel) (by decide +kernel)
theorem tw_5 : Cond.selects "PromiseFlows$Goods" ⟨"PromiseFlows$Goods", "demandsOf", "(I)I"⟩ ⟨"PromiseFlows$Goods", "demandsOf", "(I)I"⟩ ∈ pf_tb := mem_tb (i := 5) (by decide +kernel) (by decide +kernel)
theorem tw_6 : Cond.selects "PromiseFlows$Goods" ⟨"PromiseFlows$Goods", "isKit", "(I)Z"⟩ ⟨"PromiseFlows$Goods", "isKit", "(I)Z"⟩ ∈ pf_tb := mem_tb (i := 6) (by decide +kernel) (by decide +kernel)
theorem tw_7 : Cond.selects "PromiseFlows" ⟨"PromiseFlows", "wantedBy", "(II)I"⟩ ⟨"PromiseFlows", "wantedBy", "(II)I"⟩ ∈ pf_tb := mem_tb (i := 7) (by decide +kernel) (by decide +kernel)
theorem tw_8 : Cond.selects "PromiseFlows$Goods" ⟨"PromiseFlows$Goods", "numberForOne", "(II)I"⟩ ⟨"PromiseFlows$Goods", "numberForOne", "(II)I"⟩ ∈ pf_tb := mem_tb (i := 8) (by decide +kernel) (by decide +kernel)
theorem tw_9 : Cond.selects "java/lang/Throwable" ⟨"java/lang/Throwable", "fillInStackTrace", "(I)Ljava/lang/Throwable;"⟩ ⟨"java/lang/Throwable", "fillInStackTrace", "(I)Ljava/lang/Throwable;"⟩ ∈ pf_tb := mem_tb (i := 9) (by decide +kernel) (by decide +kernel)
theorem tw_10 : Cond.selects "PromiseFlows" ⟨"PromiseFlows", "needNoKit", "(I)V"⟩ ⟨"PromiseFlows", "needNoKit", "(I)V"⟩ ∈ pf_tb := mem_tb (i := 10) (by decide +kernel) (by decide +kernel)
theorem tw_11 : Cond.selects "PromiseFlows$Arrivals" ⟨"PromiseFlows$Arrivals", "add", "(III)I"⟩ ⟨"PromiseFlows$Arrivals", "add", "(III)I"⟩ ∈ pf_tb := mem_tb (i := 11) (by decide +kernel) (by decide +kernel)
theorem tw_12 : Cond.selects "PromiseFlows" ⟨"PromiseFlows", "settle", "()I"⟩ ⟨"PromiseFlows", "settle", "()I"⟩ ∈ pf_tb := mem_tb (i := 12) (by decide +kernel) (by decide +kernel)
theorem tw_13 : Cond.selects "PromiseFlows$Takings" ⟨"PromiseFlows$Takings", "clear", "(LPromiseFlows$Arrivals;)V"⟩ ⟨"PromiseFlows$Takings", "clear", "(LPromiseFlows$Arrivals;)V"⟩ ∈ pf_tb := mem_tb (i := 13) (by decide +kernel) (by decide +kernel)
theorem tw_14 : Cond.selects "PromiseFlows$Arrivals" ⟨"PromiseFlows$Arrivals", "sortByTime", "([I)V"⟩ ⟨"PromiseFlows$Arrivals", "sortByTime", "([I)V"⟩ ∈ pf_tb := mem_tb (i := 14) (by decide +kernel) (by decide +kernel)
theorem tw_15 : Cond.selects "PromiseFlows" ⟨"PromiseFlows", "joinsCovered", "(I)Z"⟩ ⟨"PromiseFlows", "joinsCovered", "(I)Z"⟩ ∈ pf_tb := mem_tb (i := 15) (by decide +kernel) (by decide +kernel)
theorem tw_16 : Cond.selects "PromiseFlows$Takings" ⟨"PromiseFlows$Takings", "save", "()V"⟩ ⟨"PromiseFlows$Takings", "save", "()V"⟩ ∈ pf_tb := mem_tb (i := 16) (by decide +kernel) (by decide +kernel)
theorem tw_17 : Cond.selects "PromiseFlows$Goods" ⟨"PromiseFlows$Goods", "demandGood", "(II)I"⟩ ⟨"PromiseFlows$Goods", "demandGood", "(II)I"⟩ ∈ pf_tb := mem_tb (i := 17) (by decide +kernel) (by decide +kernel)
theorem tw_18 : Cond.selects "PromiseFlows" ⟨"PromiseFlows", "usableFor", "(II)I"⟩ ⟨"PromiseFlows", "usableFor", "(II)I"⟩ ∈ pf_tb := mem_tb (i := 18) (by decide +kernel) (by decide +kernel)
theorem tw_19 : Cond.selects "PromiseFlows$Goods" ⟨"PromiseFlows$Goods", "meets", "(II)Z"⟩ ⟨"PromiseFlows$Goods", "meets", "(II)Z"⟩ ∈ pf_tb := mem_tb (i := 19) (by decide +kernel) (by decide +kernel)
theorem tw_20 : Cond.selects "PromiseFlows$Goods" ⟨"PromiseFlows$Goods", "standsInFor", "(II)Z"⟩ ⟨"PromiseFlows$Goods", "standsInFor", "(II)Z"⟩ ∈ pf_tb := mem_tb (i := 20) (by decide +kernel) (by decide +kernel)
theorem tw_21 : Cond.selects "PromiseFlows$Takings" ⟨"PromiseFlows$Takings", "take", "(III)I"⟩ ⟨"PromiseFlows$Takings", "take", "(III)I"⟩ ∈ pf_tb := mem_tb (i := 21) (by decide +kernel) (by decide +kernel)
theorem tw_22 : Cond.selects "PromiseFlows$Takings" ⟨"PromiseFlows$Takings", "takeFrom", "(IIII)I"⟩ ⟨"PromiseFlows$Takings", "takeFrom", "(IIII)I"⟩ ∈ pf_tb := mem_tb (i := 22) (by decide +kernel) (by decide +kernel)
theorem tw_23 : Cond.selects "PromiseFlows$Takings" ⟨"PromiseFlows$Takings", "spread", "(II)I"⟩ ⟨"PromiseFlows$Takings", "spread", "(II)I"⟩ ∈ pf_tb := mem_tb (i := 23) (by decide +kernel) (by decide +kernel)
theorem tw_24 : Cond.selects "PromiseFlows$Takings" ⟨"PromiseFlows$Takings", "reach", "(IIII)I"⟩ ⟨"PromiseFlows$Takings", "reach", "(IIII)I"⟩ ∈ pf_tb := mem_tb (i := 24) (by decide +kernel) (by decide +kernel)
theorem tw_25 : Cond.selects "PromiseFlows$Takings" ⟨"PromiseFlows$Takings", "nearestRoom", "(I)I"⟩ ⟨"PromiseFlows$Takings", "nearestRoom", "(I)I"⟩ ∈ pf_tb := mem_tb (i := 25) (by decide +kernel) (by decide +kernel)
theorem tw_26 : Cond.selects "PromiseFlows$Takings" ⟨"PromiseFlows$Takings", "shift", "(III)I"⟩ ⟨"PromiseFlows$Takings", "shift", "(III)I"⟩ ∈ pf_tb := mem_tb (i := 26) (by decide +kernel) (by decide +kernel)
theorem tw_27 : Cond.selects "PromiseFlows$Takings" ⟨"PromiseFlows$Takings", "restore", "()V"⟩ ⟨"PromiseFlows$Takings", "restore", "()V"⟩ ∈ pf_tb := mem_tb (i := 27) (by decide +kernel) (by decide +kernel)
theorem tw_28 : Cond.selects "PromiseFlows" ⟨"PromiseFlows", "makePlan", "()V"⟩ ⟨"PromiseFlows", "makePlan", "()V"⟩ ∈ pf_tb := mem_tb (i := 28) (by decide +kernel) (by decide +kernel)
theorem tw_29 : Cond.selects "PromiseFlows$Takings" ⟨"PromiseFlows$Takings", "giveBack", "(I)V"⟩ ⟨"PromiseFlows$Takings", "giveBack", "(I)V"⟩ ∈ pf_tb := mem_tb (i := 29) (by decide +kernel) (by decide +kernel)
theorem tw_30 : Cond.selects "PromiseFlows" ⟨"PromiseFlows", "needArrival", "(I)V"⟩ ⟨"PromiseFlows", "needArrival", "(I)V"⟩ ∈ pf_tb := mem_tb (i := 30) (by decide +kernel) (by decide +kernel)
theorem tw_31 : Cond.selects "PromiseFlows$Goods" ⟨"PromiseFlows$Goods", "letStandIn", "(IIZ)V"⟩ ⟨"PromiseFlows$Goods", "letStandIn", "(IIZ)V"⟩ ∈ pf_tb := mem_tb (i := 31) (by decide +kernel) (by decide +kernel)
theorem tw_32 : Cond.selects "PromiseFlows$Goods" ⟨"PromiseFlows$Goods", "hasPart", "(II)Z"⟩ ⟨"PromiseFlows$Goods", "hasPart", "(II)Z"⟩ ∈ pf_tb := mem_tb (i := 32) (by decide +kernel) (by decide +kernel)
theorem tw_33 : Cond.selects "PromiseFlows$Goods" ⟨"PromiseFlows$Goods", "isPart", "(I)Z"⟩ ⟨"PromiseFlows$Goods", "isPart", "(I)Z"⟩ ∈ pf_tb := mem_tb (i := 33) (by decide +kernel) (by decide +kernel)
theorem tw_34 : Cond.selects "PromiseFlows$Goods" ⟨"PromiseFlows$Goods", "isInStandIn", "(I)Z"⟩ ⟨"PromiseFlows$Goods", "isInStandIn", "(I)Z"⟩ ∈ pf_tb := mem_tb (i := 34) (by decide +kernel) (by decide +kernel)
theorem tw_35 : Cond.selects "PromiseFlows$Arrivals" ⟨"PromiseFlows$Arrivals", "has", "(I)Z"⟩ ⟨"PromiseFlows$Arrivals", "has", "(I)Z"⟩ ∈ pf_tb := mem_tb (i := 35) (by decide +kernel) (by decide +kernel)
theorem tw_36 : Cond.selects "PromiseFlows$Orders" ⟨"PromiseFlows$Orders", "has", "(I)Z"⟩ ⟨"PromiseFlows$Orders", "has", "(I)Z"⟩ ∈ pf_tb := mem_tb (i := 36) (by decide +kernel) (by decide +kernel)
theorem tw_37 : Cond.selects "PromiseFlows$Goods" ⟨"PromiseFlows$Goods", "addPart", "(III)I"⟩ ⟨"PromiseFlows$Goods", "addPart", "(III)I"⟩ ∈ pf_tb := mem_tb (i := 37) (by decide +kernel) (by decide +kernel)
theorem tw_38 : Cond.selects "PromiseFlows$Orders" ⟨"PromiseFlows$Orders", "write", "(IIII)I"⟩ ⟨"PromiseFlows$Orders", "write", "(IIII)I"⟩ ∈ pf_tb := mem_tb (i := 38) (by decide +kernel) (by decide +kernel)
theorem tw_39 : Cond.selects "PromiseFlows$Orders" ⟨"PromiseFlows$Orders", "admit", "()V"⟩ ⟨"PromiseFlows$Orders", "admit", "()V"⟩ ∈ pf_tb := mem_tb (i := 39) (by decide +kernel) (by decide +kernel)
theorem tw_40 : Cond.selects "PromiseFlows" ⟨"PromiseFlows", "needOrder", "(I)V"⟩ ⟨"PromiseFlows", "needOrder", "(I)V"⟩ ∈ pf_tb := mem_tb (i := 40) (by decide +kernel) (by decide +kernel)
theorem tw_41 : Cond.selects "PromiseFlows" ⟨"PromiseFlows", "greatestFurther", "(II)I"⟩ ⟨"PromiseFlows", "greatestFurther", "(II)I"⟩ ∈ pf_tb := mem_tb (i := 41) (by decide +kernel) (by decide +kernel)
theorem tw_42 : Cond.selects "PromiseFlows$Takings" ⟨"PromiseFlows$Takings", "mostFrom", "(I)I"⟩ ⟨"PromiseFlows$Takings", "mostFrom", "(I)I"⟩ ∈ pf_tb := mem_tb (i := 42) (by decide +kernel) (by decide +kernel)
theorem tw_43 : Cond.selects "PromiseFlows$Arrivals" ⟨"PromiseFlows$Arrivals", "broughtBy", "(I)I"⟩ ⟨"PromiseFlows$Arrivals", "broughtBy", "(I)I"⟩ ∈ pf_tb := mem_tb (i := 43) (by decide +kernel) (by decide +kernel)
theorem tw_44 : Cond.selects "PromiseFlows" ⟨"PromiseFlows", "takesFrom", "(II)Z"⟩ ⟨"PromiseFlows", "takesFrom", "(II)Z"⟩ ∈ pf_tb := mem_tb (i := 44) (by decide +kernel) (by decide +kernel)
theorem tw_45 : Cond.selects "PromiseFlows$Takings" ⟨"PromiseFlows$Takings", "takesFrom", "(II)Z"⟩ ⟨"PromiseFlows$Takings", "takesFrom", "(II)Z"⟩ ∈ pf_tb := mem_tb (i := 45) (by decide +kernel) (by decide +kernel)
theorem tw_46 : Cond.selects "PromiseFlows$Takings" ⟨"PromiseFlows$Takings", "partsOf", "(I)I"⟩ ⟨"PromiseFlows$Takings", "partsOf", "(I)I"⟩ ∈ pf_tb := mem_tb (i := 46) (by decide +kernel) (by decide +kernel)
theorem tw_47 : Cond.selects "PromiseFlows$Takings" ⟨"PromiseFlows$Takings", "partOf", "(IIZ)I"⟩ ⟨"PromiseFlows$Takings", "partOf", "(IIZ)I"⟩ ∈ pf_tb := mem_tb (i := 47) (by decide +kernel) (by decide +kernel)
theorem tw_48 : Cond.selects "PromiseFlowsModel" ⟨"PromiseFlowsModel", "isKit", "(I)Z"⟩ ⟨"PromiseFlowsModel", "isKit", "(I)Z"⟩ ∈ pf_tb := mem_tb (i := 48) (by decide +kernel) (by decide +kernel)
theorem tw_49 : Cond.selects "PromiseFlowsModel" ⟨"PromiseFlowsModel", "cover", "()I"⟩ ⟨"PromiseFlowsModel", "cover", "()I"⟩ ∈ pf_tb := mem_tb (i := 49) (by decide +kernel) (by decide +kernel)
theorem tw_50 : Cond.selects "PromiseFlowsModel" ⟨"PromiseFlowsModel", "next", "(IZ)I"⟩ ⟨"PromiseFlowsModel", "next", "(IZ)I"⟩ ∈ pf_tb := mem_tb (i := 50) (by decide +kernel) (by decide +kernel)
theorem tw_51 : Cond.selects "PromiseFlowsModel" ⟨"PromiseFlowsModel", "addOrder", "(IIII)V"⟩ ⟨"PromiseFlowsModel", "addOrder", "(IIII)V"⟩ ∈ pf_tb := mem_tb (i := 51) (by decide +kernel) (by decide +kernel)
theorem tw_52 : Cond.selects "PromiseFlowsModel" ⟨"PromiseFlowsModel", "addDemand", "(IIJI)V"⟩ ⟨"PromiseFlowsModel", "addDemand", "(IIJI)V"⟩ ∈ pf_tb := mem_tb (i := 52) (by decide +kernel) (by decide +kernel)
theorem tw_53 : Cond.selects "PromiseFlowsModel" ⟨"PromiseFlowsModel", "usable", "(II)I"⟩ ⟨"PromiseFlowsModel", "usable", "(II)I"⟩ ∈ pf_tb := mem_tb (i := 53) (by decide +kernel) (by decide +kernel)
theorem tw_54 : Cond.selects "PromiseFlowsModel" ⟨"PromiseFlowsModel", "canBeMet", "()Z"⟩ ⟨"PromiseFlowsModel", "canBeMet", "()Z"⟩ ∈ pf_tb := mem_tb (i := 54) (by decide +kernel) (by decide +kernel)
theorem tw_55 : Cond.selects "PromiseFlowsModel" ⟨"PromiseFlowsModel", "slack", "(I)J"⟩ ⟨"PromiseFlowsModel", "slack", "(I)J"⟩ ∈ pf_tb := mem_tb (i := 55) (by decide +kernel) (by decide +kernel)
theorem tw_56 : Cond.selects "PromiseFlowsModel" ⟨"PromiseFlowsModel", "isArrival", "(I)Z"⟩ ⟨"PromiseFlowsModel", "isArrival", "(I)Z"⟩ ∈ pf_tb := mem_tb (i := 56) (by decide +kernel) (by decide +kernel)
theorem tw_57 : Cond.selects "PromiseFlowsModel" ⟨"PromiseFlowsModel", "isPart", "(I)Z"⟩ ⟨"PromiseFlowsModel", "isPart", "(I)Z"⟩ ∈ pf_tb := mem_tb (i := 57) (by decide +kernel) (by decide +kernel)
theorem tw_58 : Cond.selects "PromiseFlowsModel" ⟨"PromiseFlowsModel", "isUsed", "(I)Z"⟩ ⟨"PromiseFlowsModel", "isUsed", "(I)Z"⟩ ∈ pf_tb := mem_tb (i := 58) (by decide +kernel) (by decide +kernel)
theorem tw_59 : Cond.selects "PromiseFlowsModel" ⟨"PromiseFlowsModel", "collect", "()V"⟩ ⟨"PromiseFlowsModel", "collect", "()V"⟩ ∈ pf_tb := mem_tb (i := 59) (by decide +kernel) (by decide +kernel)
theorem tw_60 : Cond.selects "PromiseFlowsModel" ⟨"PromiseFlowsModel", "isOrder", "(I)Z"⟩ ⟨"PromiseFlowsModel", "isOrder", "(I)Z"⟩ ∈ pf_tb := mem_tb (i := 60) (by decide +kernel) (by decide +kernel)
theorem tw_61 : Cond.selects "PromiseFlowsModel" ⟨"PromiseFlowsModel", "greatest", "(II)I"⟩ ⟨"PromiseFlowsModel", "greatest", "(II)I"⟩ ∈ pf_tb := mem_tb (i := 61) (by decide +kernel) (by decide +kernel)
theorem tw_62 : Cond.selects "PromiseFlowsModel" ⟨"PromiseFlowsModel", "plan", "()V"⟩ ⟨"PromiseFlowsModel", "plan", "()V"⟩ ∈ pf_tb := mem_tb (i := 62) (by decide +kernel) (by decide +kernel)
theorem tw_63 : Cond.selects "PromiseFlowsModel" ⟨"PromiseFlowsModel", "nextArrival", "(II)I"⟩ ⟨"PromiseFlowsModel", "nextArrival", "(II)I"⟩ ∈ pf_tb := mem_tb (i := 63) (by decide +kernel) (by decide +kernel)
theorem tw_64 : Cond.selects "PromiseFlowsModel" ⟨"PromiseFlowsModel", "atMost", "(II)J"⟩ ⟨"PromiseFlowsModel", "atMost", "(II)J"⟩ ∈ pf_tb := mem_tb (i := 64) (by decide +kernel) (by decide +kernel)
theorem tw_65 : Cond.initialized "PromiseFlowsLaw" ∈ pf_tb := mem_tb (i := 65) (by decide +kernel) (by decide +kernel)
theorem tw_66 : Cond.initialized "PromiseFlows" ∈ pf_tb := mem_tb (i := 66) (by decide +kernel) (by decide +kernel)
theorem tw_67 : Cond.initialized "PromiseFlows$Goods" ∈ pf_tb := mem_tb (i := 67) (by decide +kernel) (by decide +kernel)
theorem tw_68 : Cond.initialized "PromiseFlows$Arrivals" ∈ pf_tb := mem_tb (i := 68) (by decide +kernel) (by decide +kernel)
theorem tw_69 : Cond.initialized "PromiseFlows$Orders" ∈ pf_tb := mem_tb (i := 69) (by decide +kernel) (by decide +kernel)
theorem tw_70 : Cond.initialized "PromiseFlows$Takings" ∈ pf_tb := mem_tb (i := 70) (by decide +kernel) (by decide +kernel)
theorem tw_71 : Cond.initialized "PromiseFlowsModel" ∈ pf_tb := mem_tb (i := 71) (by decide +kernel) (by decide +kernel)
theorem tw_72 : Cond.initialized "java/lang/Throwable" ∈ pf_tb := mem_tb (i := 72) (by decide +kernel) (by decide +kernel)
theorem tw_73 : Cond.initialized "java/lang/Exception" ∈ pf_tb := mem_tb (i := 73) (by decide +kernel) (by decide +kernel)
theorem tw_74 : Cond.initialized "java/lang/RuntimeException" ∈ pf_tb := mem_tb (i := 74) (by decide +kernel) (by decide +kernel)
theorem tw_75 : Cond.initialized "java/lang/IllegalArgumentException" ∈ pf_tb := mem_tb (i := 75) (by decide +kernel) (by decide +kernel)
theorem tw_76 : Cond.initialized "java/lang/IllegalStateException" ∈ pf_tb := mem_tb (i := 76) (by decide +kernel) (by decide +kernel)
theorem tw_77 : Cond.initialized "java/lang/UnsupportedOperationException" ∈ pf_tb := mem_tb (i := 77) (by decide +kernel) (by decide +kernel)
theorem tw_78 : Cond.initialized "java/lang/System" ∈ pf_tb := mem_tb (i := 78) (by decide +kernel) (by decide +kernel)
theorem tw_79 : Cond.initialized "java/lang/Integer" ∈ pf_tb := mem_tb (i := 79) (by decide +kernel) (by decide +kernel)
theorem tw_80 : Cond.initialized "java/lang/Math" ∈ pf_tb := mem_tb (i := 80) (by decide +kernel) (by decide +kernel)
theorem tw_81 : Cond.initialized "java/util/NoSuchElementException" ∈ pf_tb := mem_tb (i := 81) (by decide +kernel) (by decide +kernel)
theorem tw_82 : Cond.initialized "java/lang/ArithmeticException" ∈ pf_tb := mem_tb (i := 82) (by decide +kernel) (by decide +kernel)
theorem tw_83 : Cond.classLink "PromiseFlowsLaw" 8 "PromiseFlows" ∈ pf_tb := mem_tb (i := 83) (by decide +kernel) (by decide +kernel)
theorem tw_84 : Cond.instantiable "PromiseFlows" 4 ∈ pf_tb := mem_tb (i := 84) (by decide +kernel) (by decide +kernel)
theorem tw_85 : Cond.methodLink "PromiseFlowsLaw" 66 ⟨"PromiseFlows", "<init>", "()V"⟩ ∈ pf_tb := mem_tb (i := 85) (by decide +kernel) (by decide +kernel)
theorem tw_86 : Cond.instanceMethod ⟨"PromiseFlows", "<init>", "()V"⟩ ∈ pf_tb := mem_tb (i := 86) (by decide +kernel) (by decide +kernel)
theorem tw_87 : Cond.code ⟨"PromiseFlows", "<init>", "()V"⟩ prog_1_method_1_code 1 (Option.none : Option Jvm.ClassFile.FieldType) ∈ pf_tb := mem_tb (i := 87) (by decide +kernel) (by decide +kernel)
theorem tw_88 : Cond.methodLink "PromiseFlows" 3 ⟨"java/lang/Object", "<init>", "()V"⟩ ∈ pf_tb := mem_tb (i := 88) (by decide +kernel) (by decide +kernel)
theorem tw_89 : Cond.instanceMethod ⟨"java/lang/Object", "<init>", "()V"⟩ ∈ pf_tb := mem_tb (i := 89) (by decide +kernel) (by decide +kernel)
theorem tw_90 : Cond.code ⟨"java/lang/Object", "<init>", "()V"⟩ object_method_1_code 1 (Option.none : Option Jvm.ClassFile.FieldType) ∈ pf_tb := mem_tb (i := 90) (by decide +kernel) (by decide +kernel)
theorem tw_91 : Cond.classLink "PromiseFlows" 9 "PromiseFlows$Goods" ∈ pf_tb := mem_tb (i := 91) (by decide +kernel) (by decide +kernel)
theorem tw_92 : Cond.instantiable "PromiseFlows$Goods" 5 ∈ pf_tb := mem_tb (i := 92) (by decide +kernel) (by decide +kernel)
theorem tw_93 : Cond.methodLinkNest "PromiseFlows" 11 ⟨"PromiseFlows$Goods", "<init>", "()V"⟩ "PromiseFlows" ∈ pf_nest := mem_nest (i := 93) (by decide +kernel) (by decide +kernel)
theorem tw_94 : Cond.instanceMethod ⟨"PromiseFlows$Goods", "<init>", "()V"⟩ ∈ pf_tb := mem_tb (i := 94) (by decide +kernel) (by decide +kernel)
theorem tw_95 : Cond.code ⟨"PromiseFlows$Goods", "<init>", "()V"⟩ prog_3_method_1_code 2 (Option.none : Option Jvm.ClassFile.FieldType) ∈ pf_tb := mem_tb (i := 95) (by decide +kernel) (by decide +kernel)
theorem tw_96 : Cond.methodLink "PromiseFlows$Goods" 3 ⟨"java/lang/Object", "<init>", "()V"⟩ ∈ pf_tb := mem_tb (i := 96) (by decide +kernel) (by decide +kernel)
theorem tw_97 : Cond.fieldLink "PromiseFlows$Goods" 9 "PromiseFlows$Goods" "lives" "[I" ∈ pf_tb := mem_tb (i := 97) (by decide +kernel) (by decide +kernel)
theorem tw_98 : Cond.fieldLinkNest "PromiseFlows" 89 "PromiseFlows$Goods" "lives" "[I" "PromiseFlows" ∈ pf_nest := mem_nest (i := 98) (by decide +kernel) (by decide +kernel)
theorem tw_99 : Cond.fieldLink "PromiseFlows$Goods" 15 "PromiseFlows$Goods" "standing" "[Z" ∈ pf_tb := mem_tb (i := 99) (by decide +kernel) (by decide +kernel)
theorem tw_100 : Cond.fieldLink "PromiseFlows$Goods" 19 "PromiseFlows$Goods" "recipeLengths" "[I" ∈ pf_tb := mem_tb (i := 100) (by decide +kernel) (by decide +kernel)
theorem tw_101 : Cond.fieldLinkNest "PromiseFlows" 125 "PromiseFlows$Goods" "recipeLengths" "[I" "PromiseFlows" ∈ pf_nest := mem_nest (i := 101) (by decide +kernel) (by decide +kernel)
theorem tw_102 : Cond.fieldLink "PromiseFlows$Goods" 22 "PromiseFlows$Goods" "partGoods" "[I" ∈ pf_tb := mem_tb (i := 102) (by decide +kernel) (by decide +kernel)
theorem tw_103 : Cond.fieldLink "PromiseFlows$Goods" 25 "PromiseFlows$Goods" "partNumbers" "[I" ∈ pf_tb := mem_tb (i := 103) (by decide +kernel) (by decide +kernel)
theorem tw_114 : Cond.superclass "PromiseFlows$Goods" "java/lang/Object" ∈ pf_tb := mem_tb (i := 114) (by decide +kernel) (by decide +kernel)
theorem tw_115 : Cond.arrayClass FieldType.int ∈ pf_tb := mem_tb (i := 115) (by decide +kernel) (by decide +kernel)
theorem tw_116 : Cond.arrayClass FieldType.boolean ∈ pf_tb := mem_tb (i := 116) (by decide +kernel) (by decide +kernel)
theorem tw_117 : Cond.classLink "PromiseFlows" 16 "PromiseFlows$Arrivals" ∈ pf_tb := mem_tb (i := 117) (by decide +kernel) (by decide +kernel)
theorem tw_118 : Cond.instantiable "PromiseFlows$Arrivals" 5 ∈ pf_tb := mem_tb (i := 118) (by decide +kernel) (by decide +kernel)
theorem tw_119 : Cond.methodLinkNest "PromiseFlows" 18 ⟨"PromiseFlows$Arrivals", "<init>", "()V"⟩ "PromiseFlows" ∈ pf_nest := mem_nest (i := 119) (by decide +kernel) (by decide +kernel)
theorem tw_120 : Cond.instanceMethod ⟨"PromiseFlows$Arrivals", "<init>", "()V"⟩ ∈ pf_tb := mem_tb (i := 120) (by decide +kernel) (by decide +kernel)
theorem tw_121 : Cond.code ⟨"PromiseFlows$Arrivals", "<init>", "()V"⟩ prog_2_method_1_code 1 (Option.none : Option Jvm.ClassFile.FieldType) ∈ pf_tb := mem_tb (i := 121) (by decide +kernel) (by decide +kernel)
theorem tw_122 : Cond.methodLink "PromiseFlows$Arrivals" 3 ⟨"java/lang/Object", "<init>", "()V"⟩ ∈ pf_tb := mem_tb (i := 122) (by decide +kernel) (by decide +kernel)
theorem tw_123 : Cond.fieldLink "PromiseFlows$Arrivals" 9 "PromiseFlows$Arrivals" "number" "I" ∈ pf_tb := mem_tb (i := 123) (by decide +kernel) (by decide +kernel)
theorem tw_124 : Cond.fieldLinkNest "PromiseFlows$Takings" 43 "PromiseFlows$Arrivals" "number" "I" "PromiseFlows" ∈ pf_nest := mem_nest (i := 124) (by decide +kernel) (by decide +kernel)
theorem tw_125 : Cond.fieldLinkNest "PromiseFlows" 52 "PromiseFlows$Arrivals" "number" "I" "PromiseFlows" ∈ pf_nest := mem_nest (i := 125) (by decide +kernel) (by decide +kernel)
theorem tw_126 : Cond.fieldLink "PromiseFlows$Arrivals" 15 "PromiseFlows$Arrivals" "times" "[I" ∈ pf_tb := mem_tb (i := 126) (by decide +kernel) (by decide +kernel)
theorem tw_127 : Cond.fieldLinkNest "PromiseFlows" 83 "PromiseFlows$Arrivals" "times" "[I" "PromiseFlows" ∈ pf_nest := mem_nest (i := 127) (by decide +kernel) (by decide +kernel)
theorem tw_128 : Cond.fieldLink "PromiseFlows$Arrivals" 19 "PromiseFlows$Arrivals" "goods" "[I" ∈ pf_tb := mem_tb (i := 128) (by decide +kernel) (by decide +kernel)
theorem tw_129 : Cond.fieldLinkNest "PromiseFlows" 276 "PromiseFlows$Arrivals" "goods" "[I" "PromiseFlows" ∈ pf_nest := mem_nest (i := 129) (by decide +kernel) (by decide +kernel)
theorem tw_130 : Cond.fieldLink "PromiseFlows$Arrivals" 22 "PromiseFlows$Arrivals" "brought" "[I" ∈ pf_tb := mem_tb (i := 130) (by decide +kernel) (by decide +kernel)
theorem tw_131 : Cond.fieldLinkNest "PromiseFlows" 86 "PromiseFlows$Arrivals" "brought" "[I" "PromiseFlows" ∈ pf_nest := mem_nest (i := 131) (by decide +kernel) (by decide +kernel)
theorem tw_132 : Cond.fieldLink "PromiseFlows$Arrivals" 25 "PromiseFlows$Arrivals" "setAside" "[I" ∈ pf_tb := mem_tb (i := 132) (by decide +kernel) (by decide +kernel)
theorem tw_133 : Cond.fieldLinkNest "PromiseFlows" 74 "PromiseFlows$Arrivals" "setAside" "[I" "PromiseFlows" ∈ pf_nest := mem_nest (i := 133) (by decide +kernel) (by decide +kernel)
theorem tw_144 : Cond.superclass "PromiseFlows$Arrivals" "java/lang/Object" ∈ pf_tb := mem_tb (i := 144) (by decide +kernel) (by decide +kernel)
theorem tw_145 : Cond.classLink "PromiseFlows" 23 "PromiseFlows$Orders" ∈ pf_tb := mem_tb (i := 145) (by decide +kernel) (by decide +kernel)
theorem tw_146 : Cond.instantiable "PromiseFlows$Orders" 7 ∈ pf_tb := mem_tb (i := 146) (by decide +kernel) (by decide +kernel)
theorem tw_147 : Cond.methodLinkNest "PromiseFlows" 25 ⟨"PromiseFlows$Orders", "<init>", "()V"⟩ "PromiseFlows" ∈ pf_nest := mem_nest (i := 147) (by decide +kernel) (by decide +kernel)
theorem tw_148 : Cond.instanceMethod ⟨"PromiseFlows$Orders", "<init>", "()V"⟩ ∈ pf_tb := mem_tb (i := 148) (by decide +kernel) (by decide +kernel)
theorem tw_149 : Cond.code ⟨"PromiseFlows$Orders", "<init>", "()V"⟩ prog_4_method_1_code 1 (Option.none : Option Jvm.ClassFile.FieldType) ∈ pf_tb := mem_tb (i := 149) (by decide +kernel) (by decide +kernel)
theorem tw_150 : Cond.methodLink "PromiseFlows$Orders" 3 ⟨"java/lang/Object", "<init>", "()V"⟩ ∈ pf_tb := mem_tb (i := 150) (by decide +kernel) (by decide +kernel)
theorem tw_151 : Cond.fieldLink "PromiseFlows$Orders" 9 "PromiseFlows$Orders" "number" "I" ∈ pf_tb := mem_tb (i := 151) (by decide +kernel) (by decide +kernel)
theorem tw_152 : Cond.fieldLinkNest "PromiseFlows" 133 "PromiseFlows$Orders" "number" "I" "PromiseFlows" ∈ pf_nest := mem_nest (i := 152) (by decide +kernel) (by decide +kernel)
theorem tw_153 : Cond.fieldLink "PromiseFlows$Orders" 15 "PromiseFlows$Orders" "dues" "[I" ∈ pf_tb := mem_tb (i := 153) (by decide +kernel) (by decide +kernel)
theorem tw_154 : Cond.fieldLinkNest "PromiseFlows" 245 "PromiseFlows$Orders" "dues" "[I" "PromiseFlows" ∈ pf_nest := mem_nest (i := 154) (by decide +kernel) (by decide +kernel)
theorem tw_155 : Cond.fieldLink "PromiseFlows$Orders" 19 "PromiseFlows$Orders" "goods" "[I" ∈ pf_tb := mem_tb (i := 155) (by decide +kernel) (by decide +kernel)
theorem tw_156 : Cond.fieldLinkNest "PromiseFlows" 195 "PromiseFlows$Orders" "goods" "[I" "PromiseFlows" ∈ pf_nest := mem_nest (i := 156) (by decide +kernel) (by decide +kernel)
theorem tw_157 : Cond.fieldLink "PromiseFlows$Orders" 22 "PromiseFlows$Orders" "wanted" "[I" ∈ pf_tb := mem_tb (i := 157) (by decide +kernel) (by decide +kernel)
theorem tw_158 : Cond.fieldLinkNest "PromiseFlows" 281 "PromiseFlows$Orders" "wanted" "[I" "PromiseFlows" ∈ pf_nest := mem_nest (i := 158) (by decide +kernel) (by decide +kernel)
theorem tw_159 : Cond.fieldLink "PromiseFlows$Orders" 25 "PromiseFlows$Orders" "ranks" "[I" ∈ pf_tb := mem_tb (i := 159) (by decide +kernel) (by decide +kernel)
theorem tw_160 : Cond.fieldLink "PromiseFlows$Orders" 28 "PromiseFlows$Orders" "states" "[I" ∈ pf_tb := mem_tb (i := 160) (by decide +kernel) (by decide +kernel)
theorem tw_161 : Cond.fieldLinkNest "PromiseFlows" 152 "PromiseFlows$Orders" "states" "[I" "PromiseFlows" ∈ pf_nest := mem_nest (i := 161) (by decide +kernel) (by decide +kernel)
theorem tw_162 : Cond.fieldLink "PromiseFlows$Orders" 31 "PromiseFlows$Orders" "byRank" "[I" ∈ pf_tb := mem_tb (i := 162) (by decide +kernel) (by decide +kernel)
theorem tw_163 : Cond.fieldLinkNest "PromiseFlows" 236 "PromiseFlows$Orders" "byRank" "[I" "PromiseFlows" ∈ pf_nest := mem_nest (i := 163) (by decide +kernel) (by decide +kernel)
theorem tw_178 : Cond.superclass "PromiseFlows$Orders" "java/lang/Object" ∈ pf_tb := mem_tb (i := 178) (by decide +kernel) (by decide +kernel)
theorem tw_179 : Cond.classLink "PromiseFlows" 30 "PromiseFlows$Takings" ∈ pf_tb := mem_tb (i := 179) (by decide +kernel) (by decide +kernel)
theorem tw_180 : Cond.instantiable "PromiseFlows$Takings" 10 ∈ pf_tb := mem_tb (i := 180) (by decide +kernel) (by decide +kernel)
theorem tw_181 : Cond.methodLinkNest "PromiseFlows" 32 ⟨"PromiseFlows$Takings", "<init>", "()V"⟩ "PromiseFlows" ∈ pf_nest := mem_nest (i := 181) (by decide +kernel) (by decide +kernel)
theorem tw_182 : Cond.instanceMethod ⟨"PromiseFlows$Takings", "<init>", "()V"⟩ ∈ pf_tb := mem_tb (i := 182) (by decide +kernel) (by decide +kernel)
theorem tw_183 : Cond.code ⟨"PromiseFlows$Takings", "<init>", "()V"⟩ prog_5_method_1_code 1 (Option.none : Option Jvm.ClassFile.FieldType) ∈ pf_tb := mem_tb (i := 183) (by decide +kernel) (by decide +kernel)
theorem tw_184 : Cond.methodLink "PromiseFlows$Takings" 3 ⟨"java/lang/Object", "<init>", "()V"⟩ ∈ pf_tb := mem_tb (i := 184) (by decide +kernel) (by decide +kernel)
theorem tw_185 : Cond.fieldLink "PromiseFlows$Takings" 9 "PromiseFlows$Takings" "arrivals" "I" ∈ pf_tb := mem_tb (i := 185) (by decide +kernel) (by decide +kernel)
theorem tw_186 : Cond.fieldLink "PromiseFlows$Takings" 15 "PromiseFlows$Takings" "byTime" "[I" ∈ pf_tb := mem_tb (i := 186) (by decide +kernel) (by decide +kernel)
theorem tw_187 : Cond.fieldLink "PromiseFlows$Takings" 19 "PromiseFlows$Takings" "room" "[I" ∈ pf_tb := mem_tb (i := 187) (by decide +kernel) (by decide +kernel)
theorem tw_188 : Cond.fieldLinkNest "PromiseFlows" 204 "PromiseFlows$Takings" "room" "[I" "PromiseFlows" ∈ pf_nest := mem_nest (i := 188) (by decide +kernel) (by decide +kernel)
theorem tw_189 : Cond.fieldLink "PromiseFlows$Takings" 22 "PromiseFlows$Takings" "taken" "[I" ∈ pf_tb := mem_tb (i := 189) (by decide +kernel) (by decide +kernel)
theorem tw_190 : Cond.fieldLink "PromiseFlows$Takings" 25 "PromiseFlows$Takings" "usable" "[I" ∈ pf_tb := mem_tb (i := 190) (by decide +kernel) (by decide +kernel)
theorem tw_191 : Cond.fieldLinkNest "PromiseFlows" 242 "PromiseFlows$Takings" "usable" "[I" "PromiseFlows" ∈ pf_nest := mem_nest (i := 191) (by decide +kernel) (by decide +kernel)
theorem tw_192 : Cond.fieldLink "PromiseFlows$Takings" 28 "PromiseFlows$Takings" "savedRoom" "[I" ∈ pf_tb := mem_tb (i := 192) (by decide +kernel) (by decide +kernel)
theorem tw_193 : Cond.fieldLink "PromiseFlows$Takings" 31 "PromiseFlows$Takings" "savedTaken" "[I" ∈ pf_tb := mem_tb (i := 193) (by decide +kernel) (by decide +kernel)
theorem tw_194 : Cond.fieldLink "PromiseFlows$Takings" 34 "PromiseFlows$Takings" "reachedInTurn" "[I" ∈ pf_tb := mem_tb (i := 194) (by decide +kernel) (by decide +kernel)
theorem tw_195 : Cond.fieldLink "PromiseFlows$Takings" 37 "PromiseFlows$Takings" "reachedFrom" "[I" ∈ pf_tb := mem_tb (i := 195) (by decide +kernel) (by decide +kernel)
theorem tw_196 : Cond.fieldLink "PromiseFlows$Takings" 40 "PromiseFlows$Takings" "reachedBy" "[I" ∈ pf_tb := mem_tb (i := 196) (by decide +kernel) (by decide +kernel)
theorem tw_217 : Cond.superclass "PromiseFlows$Takings" "java/lang/Object" ∈ pf_tb := mem_tb (i := 217) (by decide +kernel) (by decide +kernel)
theorem tw_218 : Cond.fieldLink "PromiseFlows" 12 "PromiseFlows" "goods" "LPromiseFlows$Goods;" ∈ pf_tb := mem_tb (i := 218) (by decide +kernel) (by decide +kernel)
theorem tw_219 : Cond.fieldLink "PromiseFlows" 19 "PromiseFlows" "arrivals" "LPromiseFlows$Arrivals;" ∈ pf_tb := mem_tb (i := 219) (by decide +kernel) (by decide +kernel)
theorem tw_220 : Cond.fieldLink "PromiseFlows" 26 "PromiseFlows" "orders" "LPromiseFlows$Orders;" ∈ pf_tb := mem_tb (i := 220) (by decide +kernel) (by decide +kernel)
theorem tw_221 : Cond.fieldLink "PromiseFlows" 33 "PromiseFlows" "takings" "LPromiseFlows$Takings;" ∈ pf_tb := mem_tb (i := 221) (by decide +kernel) (by decide +kernel)
theorem tw_230 : Cond.superclass "PromiseFlows" "java/lang/Object" ∈ pf_tb := mem_tb (i := 230) (by decide +kernel) (by decide +kernel)
theorem tw_231 : Cond.methodLink "PromiseFlowsLaw" 123 ⟨"PromiseFlows", "count", "(I)I"⟩ ∈ pf_tb := mem_tb (i := 231) (by decide +kernel) (by decide +kernel)
theorem tw_232 : Cond.instanceMethod ⟨"PromiseFlows", "count", "(I)I"⟩ ∈ pf_tb := mem_tb (i := 232) (by decide +kernel) (by decide +kernel)
theorem tw_233 : Cond.selects "PromiseFlows" ⟨"PromiseFlows", "count", "(I)I"⟩ ⟨"PromiseFlows", "count", "(I)I"⟩ ∈ pf_tb := mem_tb (i := 233) (by decide +kernel) (by decide +kernel)
theorem tw_234 : Cond.code ⟨"PromiseFlows", "count", "(I)I"⟩ prog_1_method_16_code 2 (some FieldType.int) ∈ pf_tb := mem_tb (i := 234) (by decide +kernel) (by decide +kernel)
theorem tw_235 : Cond.methodLinkNest "PromiseFlows" 207 ⟨"PromiseFlows$Orders", "numberIn", "(I)I"⟩ "PromiseFlows" ∈ pf_nest := mem_nest (i := 235) (by decide +kernel) (by decide +kernel)
theorem tw_237 : Cond.instanceMethod ⟨"PromiseFlows$Orders", "numberIn", "(I)I"⟩ ∈ pf_tb := mem_tb (i := 237) (by decide +kernel) (by decide +kernel)
theorem tw_238 : Cond.code ⟨"PromiseFlows$Orders", "numberIn", "(I)I"⟩ prog_4_method_5_code 4 (some FieldType.int) ∈ pf_tb := mem_tb (i := 238) (by decide +kernel) (by decide +kernel)
theorem tw_239 : Cond.methodLinkNest "PromiseFlows" 210 ⟨"PromiseFlows$Arrivals", "allFree", "()I"⟩ "PromiseFlows" ∈ pf_nest := mem_nest (i := 239) (by decide +kernel) (by decide +kernel)
theorem tw_241 : Cond.instanceMethod ⟨"PromiseFlows$Arrivals", "allFree", "()I"⟩ ∈ pf_tb := mem_tb (i := 241) (by decide +kernel) (by decide +kernel)
theorem tw_242 : Cond.code ⟨"PromiseFlows$Arrivals", "allFree", "()I"⟩ prog_2_method_5_code 3 (some FieldType.int) ∈ pf_tb := mem_tb (i := 242) (by decide +kernel) (by decide +kernel)
theorem tw_243 : Cond.methodLink "PromiseFlows$Arrivals" 28 ⟨"PromiseFlows$Arrivals", "free", "(I)I"⟩ ∈ pf_tb := mem_tb (i := 243) (by decide +kernel) (by decide +kernel)
theorem tw_245 : Cond.instanceMethod ⟨"PromiseFlows$Arrivals", "free", "(I)I"⟩ ∈ pf_tb := mem_tb (i := 245) (by decide +kernel) (by decide +kernel)
theorem tw_246 : Cond.code ⟨"PromiseFlows$Arrivals", "free", "(I)I"⟩ prog_2_method_4_code 2 (some FieldType.int) ∈ pf_tb := mem_tb (i := 246) (by decide +kernel) (by decide +kernel)
theorem tw_247 : Cond.methodLink "PromiseFlows" 213 ⟨"PromiseFlows", "allCoveredDemands", "()I"⟩ ∈ pf_tb := mem_tb (i := 247) (by decide +kernel) (by decide +kernel)
theorem tw_249 : Cond.instanceMethod ⟨"PromiseFlows", "allCoveredDemands", "()I"⟩ ∈ pf_tb := mem_tb (i := 249) (by decide +kernel) (by decide +kernel)
theorem tw_250 : Cond.code ⟨"PromiseFlows", "allCoveredDemands", "()I"⟩ prog_1_method_32_code 4 (some FieldType.int) ∈ pf_tb := mem_tb (i := 250) (by decide +kernel) (by decide +kernel)
theorem tw_251 : Cond.methodLink "PromiseFlows" 186 ⟨"PromiseFlows", "demandsOf", "(I)I"⟩ ∈ pf_tb := mem_tb (i := 251) (by decide +kernel) (by decide +kernel)
theorem tw_253 : Cond.instanceMethod ⟨"PromiseFlows", "demandsOf", "(I)I"⟩ ∈ pf_tb := mem_tb (i := 253) (by decide +kernel) (by decide +kernel)
theorem tw_254 : Cond.code ⟨"PromiseFlows", "demandsOf", "(I)I"⟩ prog_1_method_30_code 2 (some FieldType.int) ∈ pf_tb := mem_tb (i := 254) (by decide +kernel) (by decide +kernel)
theorem tw_255 : Cond.methodLinkNest "PromiseFlows" 260 ⟨"PromiseFlows$Goods", "demandsOf", "(I)I"⟩ "PromiseFlows" ∈ pf_nest := mem_nest (i := 255) (by decide +kernel) (by decide +kernel)
theorem tw_257 : Cond.instanceMethod ⟨"PromiseFlows$Goods", "demandsOf", "(I)I"⟩ ∈ pf_tb := mem_tb (i := 257) (by decide +kernel) (by decide +kernel)
theorem tw_258 : Cond.code ⟨"PromiseFlows$Goods", "demandsOf", "(I)I"⟩ prog_3_method_10_code 2 (some FieldType.int) ∈ pf_tb := mem_tb (i := 258) (by decide +kernel) (by decide +kernel)
theorem tw_259 : Cond.methodLink "PromiseFlows$Goods" 35 ⟨"PromiseFlows$Goods", "isKit", "(I)Z"⟩ ∈ pf_tb := mem_tb (i := 259) (by decide +kernel) (by decide +kernel)
theorem tw_261 : Cond.instanceMethod ⟨"PromiseFlows$Goods", "isKit", "(I)Z"⟩ ∈ pf_tb := mem_tb (i := 261) (by decide +kernel) (by decide +kernel)
theorem tw_262 : Cond.code ⟨"PromiseFlows$Goods", "isKit", "(I)Z"⟩ prog_3_method_6_code 2 (some FieldType.boolean) ∈ pf_tb := mem_tb (i := 262) (by decide +kernel) (by decide +kernel)
theorem tw_263 : Cond.methodLink "PromiseFlows" 248 ⟨"PromiseFlows", "wantedBy", "(II)I"⟩ ∈ pf_tb := mem_tb (i := 263) (by decide +kernel) (by decide +kernel)
theorem tw_265 : Cond.instanceMethod ⟨"PromiseFlows", "wantedBy", "(II)I"⟩ ∈ pf_tb := mem_tb (i := 265) (by decide +kernel) (by decide +kernel)
theorem tw_266 : Cond.code ⟨"PromiseFlows", "wantedBy", "(II)I"⟩ prog_1_method_31_code 3 (some FieldType.int) ∈ pf_tb := mem_tb (i := 266) (by decide +kernel) (by decide +kernel)
theorem tw_267 : Cond.methodLinkNest "PromiseFlows" 265 ⟨"PromiseFlows$Goods", "numberForOne", "(II)I"⟩ "PromiseFlows" ∈ pf_nest := mem_nest (i := 267) (by decide +kernel) (by decide +kernel)
theorem tw_269 : Cond.instanceMethod ⟨"PromiseFlows$Goods", "numberForOne", "(II)I"⟩ ∈ pf_tb := mem_tb (i := 269) (by decide +kernel) (by decide +kernel)
theorem tw_270 : Cond.code ⟨"PromiseFlows$Goods", "numberForOne", "(II)I"⟩ prog_3_method_12_code 3 (some FieldType.int) ∈ pf_tb := mem_tb (i := 270) (by decide +kernel) (by decide +kernel)
theorem tw_271 : Cond.methodLink "PromiseFlowsLaw" 70 ⟨"PromiseFlowsLaw", "arrival", "(LPromiseFlows;III[J)I"⟩ ∈ pf_tb := mem_tb (i := 271) (by decide +kernel) (by decide +kernel)
theorem tw_272 : Cond.static ⟨"PromiseFlowsLaw", "arrival", "(LPromiseFlows;III[J)I"⟩ ∈ pf_tb := mem_tb (i := 272) (by decide +kernel) (by decide +kernel)
theorem tw_274 : Cond.classLink "PromiseFlowsLaw" 13 "java/lang/IllegalArgumentException" ∈ pf_tb := mem_tb (i := 274) (by decide +kernel) (by decide +kernel)
theorem tw_275 : Cond.classLink "PromiseFlowsLaw" 15 "java/lang/IllegalStateException" ∈ pf_tb := mem_tb (i := 275) (by decide +kernel) (by decide +kernel)
theorem tw_276 : Cond.classLink "PromiseFlowsLaw" 17 "java/lang/UnsupportedOperationException" ∈ pf_tb := mem_tb (i := 276) (by decide +kernel) (by decide +kernel)
theorem tw_277 : Cond.methodLink "PromiseFlowsLaw" 7 ⟨"PromiseFlows", "arrival", "(III)I"⟩ ∈ pf_tb := mem_tb (i := 277) (by decide +kernel) (by decide +kernel)
theorem tw_278 : Cond.instanceMethod ⟨"PromiseFlows", "arrival", "(III)I"⟩ ∈ pf_tb := mem_tb (i := 278) (by decide +kernel) (by decide +kernel)
theorem tw_279 : Cond.selects "PromiseFlows" ⟨"PromiseFlows", "arrival", "(III)I"⟩ ⟨"PromiseFlows", "arrival", "(III)I"⟩ ∈ pf_tb := mem_tb (i := 279) (by decide +kernel) (by decide +kernel)
theorem tw_280 : Cond.code ⟨"PromiseFlows", "arrival", "(III)I"⟩ prog_1_method_2_code 5 (some FieldType.int) ∈ pf_tb := mem_tb (i := 280) (by decide +kernel) (by decide +kernel)
theorem tw_281 : Cond.methodLink "PromiseFlows" 37 ⟨"PromiseFlows", "needTime", "(I)V"⟩ ∈ pf_tb := mem_tb (i := 281) (by decide +kernel) (by decide +kernel)
theorem tw_282 : Cond.static ⟨"PromiseFlows", "needTime", "(I)V"⟩ ∈ pf_tb := mem_tb (i := 282) (by decide +kernel) (by decide +kernel)
theorem tw_283 : Cond.code ⟨"PromiseFlows", "needTime", "(I)V"⟩ prog_1_method_19_code 1 (Option.none : Option Jvm.ClassFile.FieldType) ∈ pf_tb := mem_tb (i := 283) (by decide +kernel) (by decide +kernel)
theorem tw_284 : Cond.methodLink "PromiseFlows" 45 ⟨"PromiseFlows", "needWithin", "(III)V"⟩ ∈ pf_tb := mem_tb (i := 284) (by decide +kernel) (by decide +kernel)
theorem tw_285 : Cond.static ⟨"PromiseFlows", "needWithin", "(III)V"⟩ ∈ pf_tb := mem_tb (i := 285) (by decide +kernel) (by decide +kernel)
theorem tw_286 : Cond.code ⟨"PromiseFlows", "needWithin", "(III)V"⟩ prog_1_method_17_code 3 (Option.none : Option Jvm.ClassFile.FieldType) ∈ pf_tb := mem_tb (i := 286) (by decide +kernel) (by decide +kernel)
theorem tw_287 : Cond.classLink "PromiseFlows" 92 "java/lang/IllegalArgumentException" ∈ pf_tb := mem_tb (i := 287) (by decide +kernel) (by decide +kernel)
theorem tw_288 : Cond.instantiable "java/lang/IllegalArgumentException" 6 ∈ pf_tb := mem_tb (i := 288) (by decide +kernel) (by decide +kernel)
theorem tw_296 : Cond.selects "java/lang/IllegalArgumentException" ⟨"java/lang/Throwable", "fillInStackTrace", "(I)Ljava/lang/Throwable;"⟩ ⟨"java/lang/Throwable", "fillInStackTrace", "(I)Ljava/lang/Throwable;"⟩ ∈ pf_tb := mem_tb (i := 296) (by decide +kernel) (by decide +kernel)
theorem tw_297 : Cond.selects "java/lang/IllegalArgumentException" ⟨"java/lang/Throwable", "fillInStackTrace", "()Ljava/lang/Throwable;"⟩ ⟨"java/lang/Throwable", "fillInStackTrace", "()Ljava/lang/Throwable;"⟩ ∈ pf_tb := mem_tb (i := 297) (by decide +kernel) (by decide +kernel)
theorem tw_308 : Cond.fieldLink "java/lang/Throwable" 198 "java/lang/Throwable" "backtrace" "Ljava/lang/Object;" ∈ pf_tb := mem_tb (i := 308) (by decide +kernel) (by decide +kernel)
theorem tw_309 : Cond.superclass "java/lang/Throwable" "java/lang/Object" ∈ pf_tb := mem_tb (i := 309) (by decide +kernel) (by decide +kernel)
theorem tw_310 : Cond.instanceMethod ⟨"java/lang/Throwable", "<init>", "()V"⟩ ∈ pf_tb := mem_tb (i := 310) (by decide +kernel) (by decide +kernel)
theorem tw_311 : Cond.code ⟨"java/lang/Throwable", "<init>", "()V"⟩ prog_17_method_1_code 1 (Option.none : Option Jvm.ClassFile.FieldType) ∈ pf_tb := mem_tb (i := 311) (by decide +kernel) (by decide +kernel)
theorem tw_312 : Cond.methodLink "java/lang/Throwable" 1 ⟨"java/lang/Object", "<init>", "()V"⟩ ∈ pf_tb := mem_tb (i := 312) (by decide +kernel) (by decide +kernel)
theorem tw_313 : Cond.fieldLink "java/lang/Throwable" 13 "java/lang/Throwable" "UNASSIGNED_STACK" "[Ljava/lang/StackTraceElement;" ∈ pf_tb := mem_tb (i := 313) (by decide +kernel) (by decide +kernel)
theorem tw_315 : Cond.fieldLink "java/lang/Throwable" 20 "java/lang/Throwable" "SUPPRESSED_SENTINEL" "Ljava/util/List;" ∈ pf_tb := mem_tb (i := 315) (by decide +kernel) (by decide +kernel)
theorem tw_317 : Cond.methodLink "java/lang/Throwable" 27 ⟨"java/lang/Throwable", "fillInStackTrace", "()Ljava/lang/Throwable;"⟩ ∈ pf_tb := mem_tb (i := 317) (by decide +kernel) (by decide +kernel)
theorem tw_318 : Cond.instanceMethod ⟨"java/lang/Throwable", "fillInStackTrace", "()Ljava/lang/Throwable;"⟩ ∈ pf_tb := mem_tb (i := 318) (by decide +kernel) (by decide +kernel)
theorem tw_320 : Cond.selects "java/lang/ArithmeticException" ⟨"java/lang/Throwable", "fillInStackTrace", "()Ljava/lang/Throwable;"⟩ ⟨"java/lang/Throwable", "fillInStackTrace", "()Ljava/lang/Throwable;"⟩ ∈ pf_tb := mem_tb (i := 320) (by decide +kernel) (by decide +kernel)
theorem tw_321 : Cond.selects "java/lang/IllegalStateException" ⟨"java/lang/Throwable", "fillInStackTrace", "()Ljava/lang/Throwable;"⟩ ⟨"java/lang/Throwable", "fillInStackTrace", "()Ljava/lang/Throwable;"⟩ ∈ pf_tb := mem_tb (i := 321) (by decide +kernel) (by decide +kernel)
theorem tw_322 : Cond.selects "java/lang/UnsupportedOperationException" ⟨"java/lang/Throwable", "fillInStackTrace", "()Ljava/lang/Throwable;"⟩ ⟨"java/lang/Throwable", "fillInStackTrace", "()Ljava/lang/Throwable;"⟩ ∈ pf_tb := mem_tb (i := 322) (by decide +kernel) (by decide +kernel)
theorem tw_323 : Cond.selects "java/util/NoSuchElementException" ⟨"java/lang/Throwable", "fillInStackTrace", "()Ljava/lang/Throwable;"⟩ ⟨"java/lang/Throwable", "fillInStackTrace", "()Ljava/lang/Throwable;"⟩ ∈ pf_tb := mem_tb (i := 323) (by decide +kernel) (by decide +kernel)
theorem tw_325 : Cond.methodLink "java/lang/Throwable" 202 ⟨"java/lang/Throwable", "fillInStackTrace", "(I)Ljava/lang/Throwable;"⟩ ∈ pf_tb := mem_tb (i := 325) (by decide +kernel) (by decide +kernel)
theorem tw_327 : Cond.instanceMethod ⟨"java/lang/Throwable", "fillInStackTrace", "(I)Ljava/lang/Throwable;"⟩ ∈ pf_tb := mem_tb (i := 327) (by decide +kernel) (by decide +kernel)
theorem tw_328 : Cond.instantiable "java/lang/Throwable" 6 ∈ pf_tb := mem_tb (i := 328) (by decide +kernel) (by decide +kernel)
theorem tw_329 : Cond.native ⟨"java/lang/Throwable", "fillInStackTrace", "(I)Ljava/lang/Throwable;"⟩ ∈ pf_tb := mem_tb (i := 329) (by decide +kernel) (by decide +kernel)
theorem tw_331 : Cond.methodLink "PromiseFlows" 96 ⟨"java/lang/IllegalArgumentException", "<init>", "(Ljava/lang/String;)V"⟩ ∈ pf_tb := mem_tb (i := 331) (by decide +kernel) (by decide +kernel)
theorem tw_332 : Cond.instanceMethod ⟨"java/lang/IllegalArgumentException", "<init>", "(Ljava/lang/String;)V"⟩ ∈ pf_tb := mem_tb (i := 332) (by decide +kernel) (by decide +kernel)
theorem tw_333 : Cond.code ⟨"java/lang/IllegalArgumentException", "<init>", "(Ljava/lang/String;)V"⟩ prog_10_method_2_code 2 (Option.none : Option Jvm.ClassFile.FieldType) ∈ pf_tb := mem_tb (i := 333) (by decide +kernel) (by decide +kernel)
theorem tw_334 : Cond.methodLink "java/lang/IllegalArgumentException" 7 ⟨"java/lang/RuntimeException", "<init>", "(Ljava/lang/String;)V"⟩ ∈ pf_tb := mem_tb (i := 334) (by decide +kernel) (by decide +kernel)
theorem tw_335 : Cond.instanceMethod ⟨"java/lang/RuntimeException", "<init>", "(Ljava/lang/String;)V"⟩ ∈ pf_tb := mem_tb (i := 335) (by decide +kernel) (by decide +kernel)
theorem tw_336 : Cond.code ⟨"java/lang/RuntimeException", "<init>", "(Ljava/lang/String;)V"⟩ prog_14_method_2_code 2 (Option.none : Option Jvm.ClassFile.FieldType) ∈ pf_tb := mem_tb (i := 336) (by decide +kernel) (by decide +kernel)
theorem tw_337 : Cond.methodLink "java/lang/RuntimeException" 7 ⟨"java/lang/Exception", "<init>", "(Ljava/lang/String;)V"⟩ ∈ pf_tb := mem_tb (i := 337) (by decide +kernel) (by decide +kernel)
theorem tw_338 : Cond.instanceMethod ⟨"java/lang/Exception", "<init>", "(Ljava/lang/String;)V"⟩ ∈ pf_tb := mem_tb (i := 338) (by decide +kernel) (by decide +kernel)
theorem tw_339 : Cond.code ⟨"java/lang/Exception", "<init>", "(Ljava/lang/String;)V"⟩ prog_9_method_2_code 2 (Option.none : Option Jvm.ClassFile.FieldType) ∈ pf_tb := mem_tb (i := 339) (by decide +kernel) (by decide +kernel)
theorem tw_340 : Cond.methodLink "java/lang/Exception" 7 ⟨"java/lang/Throwable", "<init>", "(Ljava/lang/String;)V"⟩ ∈ pf_tb := mem_tb (i := 340) (by decide +kernel) (by decide +kernel)
theorem tw_341 : Cond.instanceMethod ⟨"java/lang/Throwable", "<init>", "(Ljava/lang/String;)V"⟩ ∈ pf_tb := mem_tb (i := 341) (by decide +kernel) (by decide +kernel)
theorem tw_342 : Cond.code ⟨"java/lang/Throwable", "<init>", "(Ljava/lang/String;)V"⟩ prog_17_method_2_code 2 (Option.none : Option Jvm.ClassFile.FieldType) ∈ pf_tb := mem_tb (i := 342) (by decide +kernel) (by decide +kernel)
theorem tw_344 : Cond.fieldLink "java/lang/Throwable" 31 "java/lang/Throwable" "detailMessage" "Ljava/lang/String;" ∈ pf_tb := mem_tb (i := 344) (by decide +kernel) (by decide +kernel)
theorem tw_345 : Cond.fieldLink "java/lang/Throwable" 7 "java/lang/Throwable" "cause" "Ljava/lang/Throwable;" ∈ pf_tb := mem_tb (i := 345) (by decide +kernel) (by decide +kernel)
theorem tw_346 : Cond.fieldLink "java/lang/Throwable" 17 "java/lang/Throwable" "stackTrace" "[Ljava/lang/StackTraceElement;" ∈ pf_tb := mem_tb (i := 346) (by decide +kernel) (by decide +kernel)
theorem tw_347 : Cond.fieldLink "java/lang/Throwable" 24 "java/lang/Throwable" "suppressedExceptions" "Ljava/util/List;" ∈ pf_tb := mem_tb (i := 347) (by decide +kernel) (by decide +kernel)
theorem tw_355 : Cond.superclass "java/lang/IllegalArgumentException" "java/lang/RuntimeException" ∈ pf_tb := mem_tb (i := 355) (by decide +kernel) (by decide +kernel)
theorem tw_356 : Cond.arrayClass FieldType.byte ∈ pf_tb := mem_tb (i := 356) (by decide +kernel) (by decide +kernel)
theorem tw_357 : Cond.methodLink "PromiseFlows" 41 ⟨"PromiseFlows", "needGood", "(I)V"⟩ ∈ pf_tb := mem_tb (i := 357) (by decide +kernel) (by decide +kernel)
theorem tw_358 : Cond.static ⟨"PromiseFlows", "needGood", "(I)V"⟩ ∈ pf_tb := mem_tb (i := 358) (by decide +kernel) (by decide +kernel)
theorem tw_359 : Cond.code ⟨"PromiseFlows", "needGood", "(I)V"⟩ prog_1_method_18_code 1 (Option.none : Option Jvm.ClassFile.FieldType) ∈ pf_tb := mem_tb (i := 359) (by decide +kernel) (by decide +kernel)
theorem tw_360 : Cond.constant "PromiseFlows" 44 1000000 ∈ pf_tb := mem_tb (i := 360) (by decide +kernel) (by decide +kernel)
theorem tw_361 : Cond.methodLink "PromiseFlows" 49 ⟨"PromiseFlows", "needNoKit", "(I)V"⟩ ∈ pf_tb := mem_tb (i := 361) (by decide +kernel) (by decide +kernel)
theorem tw_363 : Cond.instanceMethod ⟨"PromiseFlows", "needNoKit", "(I)V"⟩ ∈ pf_tb := mem_tb (i := 363) (by decide +kernel) (by decide +kernel)
theorem tw_364 : Cond.code ⟨"PromiseFlows", "needNoKit", "(I)V"⟩ prog_1_method_23_code 2 (Option.none : Option Jvm.ClassFile.FieldType) ∈ pf_tb := mem_tb (i := 364) (by decide +kernel) (by decide +kernel)
theorem tw_365 : Cond.methodLinkNest "PromiseFlows" 227 ⟨"PromiseFlows$Goods", "isKit", "(I)Z"⟩ "PromiseFlows" ∈ pf_nest := mem_nest (i := 365) (by decide +kernel) (by decide +kernel)
theorem tw_366 : Cond.classLink "PromiseFlows" 78 "java/lang/IllegalStateException" ∈ pf_tb := mem_tb (i := 366) (by decide +kernel) (by decide +kernel)
theorem tw_367 : Cond.instantiable "java/lang/IllegalStateException" 6 ∈ pf_tb := mem_tb (i := 367) (by decide +kernel) (by decide +kernel)
theorem tw_369 : Cond.selects "java/lang/IllegalStateException" ⟨"java/lang/Throwable", "fillInStackTrace", "(I)Ljava/lang/Throwable;"⟩ ⟨"java/lang/Throwable", "fillInStackTrace", "(I)Ljava/lang/Throwable;"⟩ ∈ pf_tb := mem_tb (i := 369) (by decide +kernel) (by decide +kernel)
theorem tw_376 : Cond.methodLink "PromiseFlows" 82 ⟨"java/lang/IllegalStateException", "<init>", "(Ljava/lang/String;)V"⟩ ∈ pf_tb := mem_tb (i := 376) (by decide +kernel) (by decide +kernel)
theorem tw_377 : Cond.instanceMethod ⟨"java/lang/IllegalStateException", "<init>", "(Ljava/lang/String;)V"⟩ ∈ pf_tb := mem_tb (i := 377) (by decide +kernel) (by decide +kernel)
theorem tw_378 : Cond.code ⟨"java/lang/IllegalStateException", "<init>", "(Ljava/lang/String;)V"⟩ prog_11_method_2_code 2 (Option.none : Option Jvm.ClassFile.FieldType) ∈ pf_tb := mem_tb (i := 378) (by decide +kernel) (by decide +kernel)
theorem tw_379 : Cond.methodLink "java/lang/IllegalStateException" 7 ⟨"java/lang/RuntimeException", "<init>", "(Ljava/lang/String;)V"⟩ ∈ pf_tb := mem_tb (i := 379) (by decide +kernel) (by decide +kernel)
theorem tw_381 : Cond.superclass "java/lang/IllegalStateException" "java/lang/RuntimeException" ∈ pf_tb := mem_tb (i := 381) (by decide +kernel) (by decide +kernel)
theorem tw_382 : Cond.classLink "PromiseFlows" 56 "java/lang/UnsupportedOperationException" ∈ pf_tb := mem_tb (i := 382) (by decide +kernel) (by decide +kernel)
theorem tw_383 : Cond.instantiable "java/lang/UnsupportedOperationException" 6 ∈ pf_tb := mem_tb (i := 383) (by decide +kernel) (by decide +kernel)
theorem tw_385 : Cond.selects "java/lang/UnsupportedOperationException" ⟨"java/lang/Throwable", "fillInStackTrace", "(I)Ljava/lang/Throwable;"⟩ ⟨"java/lang/Throwable", "fillInStackTrace", "(I)Ljava/lang/Throwable;"⟩ ∈ pf_tb := mem_tb (i := 385) (by decide +kernel) (by decide +kernel)
theorem tw_392 : Cond.methodLink "PromiseFlows" 60 ⟨"java/lang/UnsupportedOperationException", "<init>", "(Ljava/lang/String;)V"⟩ ∈ pf_tb := mem_tb (i := 392) (by decide +kernel) (by decide +kernel)
theorem tw_393 : Cond.instanceMethod ⟨"java/lang/UnsupportedOperationException", "<init>", "(Ljava/lang/String;)V"⟩ ∈ pf_tb := mem_tb (i := 393) (by decide +kernel) (by decide +kernel)
theorem tw_394 : Cond.code ⟨"java/lang/UnsupportedOperationException", "<init>", "(Ljava/lang/String;)V"⟩ prog_18_method_2_code 2 (Option.none : Option Jvm.ClassFile.FieldType) ∈ pf_tb := mem_tb (i := 394) (by decide +kernel) (by decide +kernel)
theorem tw_395 : Cond.methodLink "java/lang/UnsupportedOperationException" 7 ⟨"java/lang/RuntimeException", "<init>", "(Ljava/lang/String;)V"⟩ ∈ pf_tb := mem_tb (i := 395) (by decide +kernel) (by decide +kernel)
theorem tw_397 : Cond.superclass "java/lang/UnsupportedOperationException" "java/lang/RuntimeException" ∈ pf_tb := mem_tb (i := 397) (by decide +kernel) (by decide +kernel)
theorem tw_398 : Cond.methodLinkNest "PromiseFlows" 63 ⟨"PromiseFlows$Arrivals", "add", "(III)I"⟩ "PromiseFlows" ∈ pf_nest := mem_nest (i := 398) (by decide +kernel) (by decide +kernel)
theorem tw_400 : Cond.instanceMethod ⟨"PromiseFlows$Arrivals", "add", "(III)I"⟩ ∈ pf_tb := mem_tb (i := 400) (by decide +kernel) (by decide +kernel)
theorem tw_401 : Cond.code ⟨"PromiseFlows$Arrivals", "add", "(III)I"⟩ prog_2_method_2_code 4 (some FieldType.int) ∈ pf_tb := mem_tb (i := 401) (by decide +kernel) (by decide +kernel)
theorem tw_402 : Cond.methodLink "PromiseFlows" 67 ⟨"PromiseFlows", "settle", "()I"⟩ ∈ pf_tb := mem_tb (i := 402) (by decide +kernel) (by decide +kernel)
theorem tw_404 : Cond.instanceMethod ⟨"PromiseFlows", "settle", "()I"⟩ ∈ pf_tb := mem_tb (i := 404) (by decide +kernel) (by decide +kernel)
theorem tw_405 : Cond.code ⟨"PromiseFlows", "settle", "()I"⟩ prog_1_method_24_code 3 (some FieldType.int) ∈ pf_tb := mem_tb (i := 405) (by decide +kernel) (by decide +kernel)
theorem tw_406 : Cond.methodLinkNest "PromiseFlows" 232 ⟨"PromiseFlows$Takings", "clear", "(LPromiseFlows$Arrivals;)V"⟩ "PromiseFlows" ∈ pf_nest := mem_nest (i := 406) (by decide +kernel) (by decide +kernel)
theorem tw_408 : Cond.instanceMethod ⟨"PromiseFlows$Takings", "clear", "(LPromiseFlows$Arrivals;)V"⟩ ∈ pf_tb := mem_tb (i := 408) (by decide +kernel) (by decide +kernel)
theorem tw_409 : Cond.code ⟨"PromiseFlows$Takings", "clear", "(LPromiseFlows$Arrivals;)V"⟩ prog_5_method_2_code 3 (Option.none : Option Jvm.ClassFile.FieldType) ∈ pf_tb := mem_tb (i := 409) (by decide +kernel) (by decide +kernel)
theorem tw_410 : Cond.methodLinkNest "PromiseFlows$Takings" 48 ⟨"PromiseFlows$Arrivals", "sortByTime", "([I)V"⟩ "PromiseFlows" ∈ pf_nest := mem_nest (i := 410) (by decide +kernel) (by decide +kernel)
theorem tw_412 : Cond.instanceMethod ⟨"PromiseFlows$Arrivals", "sortByTime", "([I)V"⟩ ∈ pf_tb := mem_tb (i := 412) (by decide +kernel) (by decide +kernel)
theorem tw_413 : Cond.code ⟨"PromiseFlows$Arrivals", "sortByTime", "([I)V"⟩ prog_2_method_7_code 4 (Option.none : Option Jvm.ClassFile.FieldType) ∈ pf_tb := mem_tb (i := 413) (by decide +kernel) (by decide +kernel)
theorem tw_414 : Cond.methodLinkNest "PromiseFlows$Takings" 52 ⟨"PromiseFlows$Arrivals", "free", "(I)I"⟩ "PromiseFlows" ∈ pf_nest := mem_nest (i := 414) (by decide +kernel) (by decide +kernel)
theorem tw_415 : Cond.methodLink "PromiseFlows" 140 ⟨"PromiseFlows", "joinsCovered", "(I)Z"⟩ ∈ pf_tb := mem_tb (i := 415) (by decide +kernel) (by decide +kernel)
theorem tw_417 : Cond.instanceMethod ⟨"PromiseFlows", "joinsCovered", "(I)Z"⟩ ∈ pf_tb := mem_tb (i := 417) (by decide +kernel) (by decide +kernel)
theorem tw_418 : Cond.code ⟨"PromiseFlows", "joinsCovered", "(I)Z"⟩ prog_1_method_25_code 4 (some FieldType.boolean) ∈ pf_tb := mem_tb (i := 418) (by decide +kernel) (by decide +kernel)
theorem tw_419 : Cond.methodLinkNest "PromiseFlows" 239 ⟨"PromiseFlows$Takings", "save", "()V"⟩ "PromiseFlows" ∈ pf_nest := mem_nest (i := 419) (by decide +kernel) (by decide +kernel)
theorem tw_421 : Cond.instanceMethod ⟨"PromiseFlows$Takings", "save", "()V"⟩ ∈ pf_tb := mem_tb (i := 421) (by decide +kernel) (by decide +kernel)
theorem tw_422 : Cond.code ⟨"PromiseFlows$Takings", "save", "()V"⟩ prog_5_method_3_code 1 (Option.none : Option Jvm.ClassFile.FieldType) ∈ pf_tb := mem_tb (i := 422) (by decide +kernel) (by decide +kernel)
theorem tw_423 : Cond.methodLink "PromiseFlows$Takings" 56 ⟨"java/lang/System", "arraycopy", "(Ljava/lang/Object;ILjava/lang/Object;II)V"⟩ ∈ pf_tb := mem_tb (i := 423) (by decide +kernel) (by decide +kernel)
theorem tw_424 : Cond.static ⟨"java/lang/System", "arraycopy", "(Ljava/lang/Object;ILjava/lang/Object;II)V"⟩ ∈ pf_tb := mem_tb (i := 424) (by decide +kernel) (by decide +kernel)
theorem tw_425 : Cond.native ⟨"java/lang/System", "arraycopy", "(Ljava/lang/Object;ILjava/lang/Object;II)V"⟩ ∈ pf_tb := mem_tb (i := 425) (by decide +kernel) (by decide +kernel)
theorem tw_426 : Cond.methodLink "PromiseFlows" 189 ⟨"PromiseFlows", "demandAt", "(II)I"⟩ ∈ pf_tb := mem_tb (i := 426) (by decide +kernel) (by decide +kernel)
theorem tw_427 : Cond.static ⟨"PromiseFlows", "demandAt", "(II)I"⟩ ∈ pf_tb := mem_tb (i := 427) (by decide +kernel) (by decide +kernel)
theorem tw_428 : Cond.code ⟨"PromiseFlows", "demandAt", "(II)I"⟩ prog_1_method_33_code 2 (some FieldType.int) ∈ pf_tb := mem_tb (i := 428) (by decide +kernel) (by decide +kernel)
theorem tw_429 : Cond.methodLinkNest "PromiseFlows" 197 ⟨"PromiseFlows$Goods", "demandGood", "(II)I"⟩ "PromiseFlows" ∈ pf_nest := mem_nest (i := 429) (by decide +kernel) (by decide +kernel)
theorem tw_431 : Cond.instanceMethod ⟨"PromiseFlows$Goods", "demandGood", "(II)I"⟩ ∈ pf_tb := mem_tb (i := 431) (by decide +kernel) (by decide +kernel)
theorem tw_432 : Cond.code ⟨"PromiseFlows$Goods", "demandGood", "(II)I"⟩ prog_3_method_11_code 3 (some FieldType.int) ∈ pf_tb := mem_tb (i := 432) (by decide +kernel) (by decide +kernel)
theorem tw_433 : Cond.methodLink "PromiseFlows" 161 ⟨"PromiseFlows", "usableFor", "(II)I"⟩ ∈ pf_tb := mem_tb (i := 433) (by decide +kernel) (by decide +kernel)
theorem tw_435 : Cond.instanceMethod ⟨"PromiseFlows", "usableFor", "(II)I"⟩ ∈ pf_tb := mem_tb (i := 435) (by decide +kernel) (by decide +kernel)
theorem tw_436 : Cond.code ⟨"PromiseFlows", "usableFor", "(II)I"⟩ prog_1_method_28_code 7 (some FieldType.int) ∈ pf_tb := mem_tb (i := 436) (by decide +kernel) (by decide +kernel)
theorem tw_437 : Cond.methodLinkNest "PromiseFlows" 277 ⟨"PromiseFlows$Goods", "meets", "(II)Z"⟩ "PromiseFlows" ∈ pf_nest := mem_nest (i := 437) (by decide +kernel) (by decide +kernel)
theorem tw_439 : Cond.instanceMethod ⟨"PromiseFlows$Goods", "meets", "(II)Z"⟩ ∈ pf_tb := mem_tb (i := 439) (by decide +kernel) (by decide +kernel)
theorem tw_440 : Cond.code ⟨"PromiseFlows$Goods", "meets", "(II)Z"⟩ prog_3_method_4_code 3 (some FieldType.boolean) ∈ pf_tb := mem_tb (i := 440) (by decide +kernel) (by decide +kernel)
theorem tw_441 : Cond.methodLink "PromiseFlows$Goods" 28 ⟨"PromiseFlows$Goods", "standsInFor", "(II)Z"⟩ ∈ pf_tb := mem_tb (i := 441) (by decide +kernel) (by decide +kernel)
theorem tw_443 : Cond.instanceMethod ⟨"PromiseFlows$Goods", "standsInFor", "(II)Z"⟩ ∈ pf_tb := mem_tb (i := 443) (by decide +kernel) (by decide +kernel)
theorem tw_444 : Cond.code ⟨"PromiseFlows$Goods", "standsInFor", "(II)Z"⟩ prog_3_method_2_code 3 (some FieldType.boolean) ∈ pf_tb := mem_tb (i := 444) (by decide +kernel) (by decide +kernel)
theorem tw_445 : Cond.methodLinkNest "PromiseFlows" 251 ⟨"PromiseFlows$Takings", "take", "(III)I"⟩ "PromiseFlows" ∈ pf_nest := mem_nest (i := 445) (by decide +kernel) (by decide +kernel)
theorem tw_447 : Cond.instanceMethod ⟨"PromiseFlows$Takings", "take", "(III)I"⟩ ∈ pf_tb := mem_tb (i := 447) (by decide +kernel) (by decide +kernel)
theorem tw_448 : Cond.code ⟨"PromiseFlows$Takings", "take", "(III)I"⟩ prog_5_method_7_code 8 (some FieldType.int) ∈ pf_tb := mem_tb (i := 448) (by decide +kernel) (by decide +kernel)
theorem tw_449 : Cond.methodLinkNest "PromiseFlows$Takings" 73 ⟨"PromiseFlows", "hasBit", "(II)Z"⟩ "PromiseFlows" ∈ pf_nest := mem_nest (i := 449) (by decide +kernel) (by decide +kernel)
theorem tw_450 : Cond.static ⟨"PromiseFlows", "hasBit", "(II)Z"⟩ ∈ pf_tb := mem_tb (i := 450) (by decide +kernel) (by decide +kernel)
theorem tw_451 : Cond.code ⟨"PromiseFlows", "hasBit", "(II)Z"⟩ prog_1_method_34_code 2 (some FieldType.boolean) ∈ pf_tb := mem_tb (i := 451) (by decide +kernel) (by decide +kernel)
theorem tw_452 : Cond.methodLink "PromiseFlows$Takings" 77 ⟨"PromiseFlows$Takings", "takeFrom", "(IIII)I"⟩ ∈ pf_tb := mem_tb (i := 452) (by decide +kernel) (by decide +kernel)
theorem tw_454 : Cond.instanceMethod ⟨"PromiseFlows$Takings", "takeFrom", "(IIII)I"⟩ ∈ pf_tb := mem_tb (i := 454) (by decide +kernel) (by decide +kernel)
theorem tw_455 : Cond.code ⟨"PromiseFlows$Takings", "takeFrom", "(IIII)I"⟩ prog_5_method_8_code 9 (some FieldType.int) ∈ pf_tb := mem_tb (i := 455) (by decide +kernel) (by decide +kernel)
theorem tw_456 : Cond.constant "PromiseFlows$Takings" 81 1000000 ∈ pf_tb := mem_tb (i := 456) (by decide +kernel) (by decide +kernel)
theorem tw_457 : Cond.methodLink "PromiseFlows$Takings" 82 ⟨"PromiseFlows$Takings", "spread", "(II)I"⟩ ∈ pf_tb := mem_tb (i := 457) (by decide +kernel) (by decide +kernel)
theorem tw_459 : Cond.instanceMethod ⟨"PromiseFlows$Takings", "spread", "(II)I"⟩ ∈ pf_tb := mem_tb (i := 459) (by decide +kernel) (by decide +kernel)
theorem tw_460 : Cond.code ⟨"PromiseFlows$Takings", "spread", "(II)I"⟩ prog_5_method_10_code 9 (some FieldType.int) ∈ pf_tb := mem_tb (i := 460) (by decide +kernel) (by decide +kernel)
theorem tw_461 : Cond.methodLink "PromiseFlows$Takings" 97 ⟨"PromiseFlows$Takings", "reach", "(IIII)I"⟩ ∈ pf_tb := mem_tb (i := 461) (by decide +kernel) (by decide +kernel)
theorem tw_463 : Cond.instanceMethod ⟨"PromiseFlows$Takings", "reach", "(IIII)I"⟩ ∈ pf_tb := mem_tb (i := 463) (by decide +kernel) (by decide +kernel)
theorem tw_464 : Cond.code ⟨"PromiseFlows$Takings", "reach", "(IIII)I"⟩ prog_5_method_11_code 7 (some FieldType.int) ∈ pf_tb := mem_tb (i := 464) (by decide +kernel) (by decide +kernel)
theorem tw_465 : Cond.methodLink "PromiseFlows$Takings" 86 ⟨"PromiseFlows$Takings", "nearestRoom", "(I)I"⟩ ∈ pf_tb := mem_tb (i := 465) (by decide +kernel) (by decide +kernel)
theorem tw_467 : Cond.instanceMethod ⟨"PromiseFlows$Takings", "nearestRoom", "(I)I"⟩ ∈ pf_tb := mem_tb (i := 467) (by decide +kernel) (by decide +kernel)
theorem tw_468 : Cond.code ⟨"PromiseFlows$Takings", "nearestRoom", "(I)I"⟩ prog_5_method_9_code 4 (some FieldType.int) ∈ pf_tb := mem_tb (i := 468) (by decide +kernel) (by decide +kernel)
theorem tw_469 : Cond.methodLink "PromiseFlows$Takings" 92 ⟨"java/lang/Integer", "bitCount", "(I)I"⟩ ∈ pf_tb := mem_tb (i := 469) (by decide +kernel) (by decide +kernel)
theorem tw_470 : Cond.static ⟨"java/lang/Integer", "bitCount", "(I)I"⟩ ∈ pf_tb := mem_tb (i := 470) (by decide +kernel) (by decide +kernel)
theorem tw_471 : Cond.code ⟨"java/lang/Integer", "bitCount", "(I)I"⟩ prog_12_method_49_code 1 (some FieldType.int) ∈ pf_tb := mem_tb (i := 471) (by decide +kernel) (by decide +kernel)
theorem tw_472 : Cond.constant "java/lang/Integer" 265 1431655765 ∈ pf_tb := mem_tb (i := 472) (by decide +kernel) (by decide +kernel)
theorem tw_473 : Cond.constant "java/lang/Integer" 266 858993459 ∈ pf_tb := mem_tb (i := 473) (by decide +kernel) (by decide +kernel)
theorem tw_474 : Cond.constant "java/lang/Integer" 267 252645135 ∈ pf_tb := mem_tb (i := 474) (by decide +kernel) (by decide +kernel)
theorem tw_475 : Cond.methodLink "PromiseFlows$Takings" 89 ⟨"PromiseFlows$Takings", "shift", "(III)I"⟩ ∈ pf_tb := mem_tb (i := 475) (by decide +kernel) (by decide +kernel)
theorem tw_477 : Cond.instanceMethod ⟨"PromiseFlows$Takings", "shift", "(III)I"⟩ ∈ pf_tb := mem_tb (i := 477) (by decide +kernel) (by decide +kernel)
theorem tw_478 : Cond.code ⟨"PromiseFlows$Takings", "shift", "(III)I"⟩ prog_5_method_12_code 7 (some FieldType.int) ∈ pf_tb := mem_tb (i := 478) (by decide +kernel) (by decide +kernel)
theorem tw_479 : Cond.methodLink "PromiseFlows$Takings" 100 ⟨"java/lang/Math", "min", "(II)I"⟩ ∈ pf_tb := mem_tb (i := 479) (by decide +kernel) (by decide +kernel)
theorem tw_480 : Cond.static ⟨"java/lang/Math", "min", "(II)I"⟩ ∈ pf_tb := mem_tb (i := 480) (by decide +kernel) (by decide +kernel)
theorem tw_481 : Cond.code ⟨"java/lang/Math", "min", "(II)I"⟩ prog_13_method_69_code 2 (some FieldType.int) ∈ pf_tb := mem_tb (i := 481) (by decide +kernel) (by decide +kernel)
theorem tw_482 : Cond.methodLinkNest "PromiseFlows" 254 ⟨"PromiseFlows$Takings", "restore", "()V"⟩ "PromiseFlows" ∈ pf_nest := mem_nest (i := 482) (by decide +kernel) (by decide +kernel)
theorem tw_484 : Cond.instanceMethod ⟨"PromiseFlows$Takings", "restore", "()V"⟩ ∈ pf_tb := mem_tb (i := 484) (by decide +kernel) (by decide +kernel)
theorem tw_485 : Cond.code ⟨"PromiseFlows$Takings", "restore", "()V"⟩ prog_5_method_4_code 1 (Option.none : Option Jvm.ClassFile.FieldType) ∈ pf_tb := mem_tb (i := 485) (by decide +kernel) (by decide +kernel)
theorem tw_486 : Cond.methodLink "PromiseFlows" 146 ⟨"PromiseFlows", "makePlan", "()V"⟩ ∈ pf_tb := mem_tb (i := 486) (by decide +kernel) (by decide +kernel)
theorem tw_488 : Cond.instanceMethod ⟨"PromiseFlows", "makePlan", "()V"⟩ ∈ pf_tb := mem_tb (i := 488) (by decide +kernel) (by decide +kernel)
theorem tw_489 : Cond.code ⟨"PromiseFlows", "makePlan", "()V"⟩ prog_1_method_26_code 6 (Option.none : Option Jvm.ClassFile.FieldType) ∈ pf_tb := mem_tb (i := 489) (by decide +kernel) (by decide +kernel)
theorem tw_490 : Cond.methodLinkNest "PromiseFlows" 257 ⟨"PromiseFlows$Takings", "giveBack", "(I)V"⟩ "PromiseFlows" ∈ pf_nest := mem_nest (i := 490) (by decide +kernel) (by decide +kernel)
theorem tw_492 : Cond.instanceMethod ⟨"PromiseFlows$Takings", "giveBack", "(I)V"⟩ ∈ pf_tb := mem_tb (i := 492) (by decide +kernel) (by decide +kernel)
theorem tw_493 : Cond.code ⟨"PromiseFlows$Takings", "giveBack", "(I)V"⟩ prog_5_method_5_code 3 (Option.none : Option Jvm.ClassFile.FieldType) ∈ pf_tb := mem_tb (i := 493) (by decide +kernel) (by decide +kernel)
theorem tw_494 : Cond.methodLink "PromiseFlowsLaw" 80 ⟨"PromiseFlowsLaw", "change", "(LPromiseFlows;III[J)I"⟩ ∈ pf_tb := mem_tb (i := 494) (by decide +kernel) (by decide +kernel)
theorem tw_495 : Cond.static ⟨"PromiseFlowsLaw", "change", "(LPromiseFlows;III[J)I"⟩ ∈ pf_tb := mem_tb (i := 495) (by decide +kernel) (by decide +kernel)
theorem tw_497 : Cond.classLink "PromiseFlowsLaw" 22 "java/util/NoSuchElementException" ∈ pf_tb := mem_tb (i := 497) (by decide +kernel) (by decide +kernel)
theorem tw_498 : Cond.methodLink "PromiseFlowsLaw" 19 ⟨"PromiseFlows", "change", "(III)I"⟩ ∈ pf_tb := mem_tb (i := 498) (by decide +kernel) (by decide +kernel)
theorem tw_499 : Cond.instanceMethod ⟨"PromiseFlows", "change", "(III)I"⟩ ∈ pf_tb := mem_tb (i := 499) (by decide +kernel) (by decide +kernel)
theorem tw_500 : Cond.selects "PromiseFlows" ⟨"PromiseFlows", "change", "(III)I"⟩ ⟨"PromiseFlows", "change", "(III)I"⟩ ∈ pf_tb := mem_tb (i := 500) (by decide +kernel) (by decide +kernel)
theorem tw_501 : Cond.code ⟨"PromiseFlows", "change", "(III)I"⟩ prog_1_method_3_code 4 (some FieldType.int) ∈ pf_tb := mem_tb (i := 501) (by decide +kernel) (by decide +kernel)
theorem tw_502 : Cond.methodLink "PromiseFlows" 71 ⟨"PromiseFlows", "needArrival", "(I)V"⟩ ∈ pf_tb := mem_tb (i := 502) (by decide +kernel) (by decide +kernel)
theorem tw_504 : Cond.instanceMethod ⟨"PromiseFlows", "needArrival", "(I)V"⟩ ∈ pf_tb := mem_tb (i := 504) (by decide +kernel) (by decide +kernel)
theorem tw_505 : Cond.code ⟨"PromiseFlows", "needArrival", "(I)V"⟩ prog_1_method_21_code 2 (Option.none : Option Jvm.ClassFile.FieldType) ∈ pf_tb := mem_tb (i := 505) (by decide +kernel) (by decide +kernel)
theorem tw_506 : Cond.classLink "PromiseFlows" 220 "java/util/NoSuchElementException" ∈ pf_tb := mem_tb (i := 506) (by decide +kernel) (by decide +kernel)
theorem tw_507 : Cond.instantiable "java/util/NoSuchElementException" 6 ∈ pf_tb := mem_tb (i := 507) (by decide +kernel) (by decide +kernel)
theorem tw_509 : Cond.selects "java/util/NoSuchElementException" ⟨"java/lang/Throwable", "fillInStackTrace", "(I)Ljava/lang/Throwable;"⟩ ⟨"java/lang/Throwable", "fillInStackTrace", "(I)Ljava/lang/Throwable;"⟩ ∈ pf_tb := mem_tb (i := 509) (by decide +kernel) (by decide +kernel)
theorem tw_516 : Cond.methodLink "PromiseFlows" 224 ⟨"java/util/NoSuchElementException", "<init>", "(Ljava/lang/String;)V"⟩ ∈ pf_tb := mem_tb (i := 516) (by decide +kernel) (by decide +kernel)
theorem tw_517 : Cond.instanceMethod ⟨"java/util/NoSuchElementException", "<init>", "(Ljava/lang/String;)V"⟩ ∈ pf_tb := mem_tb (i := 517) (by decide +kernel) (by decide +kernel)
theorem tw_518 : Cond.code ⟨"java/util/NoSuchElementException", "<init>", "(Ljava/lang/String;)V"⟩ prog_19_method_4_code 2 (Option.none : Option Jvm.ClassFile.FieldType) ∈ pf_tb := mem_tb (i := 518) (by decide +kernel) (by decide +kernel)
theorem tw_519 : Cond.methodLink "java/util/NoSuchElementException" 13 ⟨"java/lang/RuntimeException", "<init>", "(Ljava/lang/String;)V"⟩ ∈ pf_tb := mem_tb (i := 519) (by decide +kernel) (by decide +kernel)
theorem tw_521 : Cond.superclass "java/util/NoSuchElementException" "java/lang/RuntimeException" ∈ pf_tb := mem_tb (i := 521) (by decide +kernel) (by decide +kernel)
theorem tw_523 : Cond.methodLink "PromiseFlowsLaw" 83 ⟨"PromiseFlowsLaw", "aside", "(LPromiseFlows;II[J)I"⟩ ∈ pf_tb := mem_tb (i := 523) (by decide +kernel) (by decide +kernel)
theorem tw_524 : Cond.static ⟨"PromiseFlowsLaw", "aside", "(LPromiseFlows;II[J)I"⟩ ∈ pf_tb := mem_tb (i := 524) (by decide +kernel) (by decide +kernel)
theorem tw_526 : Cond.methodLink "PromiseFlowsLaw" 24 ⟨"PromiseFlows", "aside", "(II)I"⟩ ∈ pf_tb := mem_tb (i := 526) (by decide +kernel) (by decide +kernel)
theorem tw_527 : Cond.instanceMethod ⟨"PromiseFlows", "aside", "(II)I"⟩ ∈ pf_tb := mem_tb (i := 527) (by decide +kernel) (by decide +kernel)
theorem tw_528 : Cond.selects "PromiseFlows" ⟨"PromiseFlows", "aside", "(II)I"⟩ ⟨"PromiseFlows", "aside", "(II)I"⟩ ∈ pf_tb := mem_tb (i := 528) (by decide +kernel) (by decide +kernel)
theorem tw_529 : Cond.code ⟨"PromiseFlows", "aside", "(II)I"⟩ prog_1_method_4_code 3 (some FieldType.int) ∈ pf_tb := mem_tb (i := 529) (by decide +kernel) (by decide +kernel)
theorem tw_530 : Cond.methodLink "PromiseFlowsLaw" 87 ⟨"PromiseFlowsLaw", "life", "(LPromiseFlows;II[J)I"⟩ ∈ pf_tb := mem_tb (i := 530) (by decide +kernel) (by decide +kernel)
theorem tw_531 : Cond.static ⟨"PromiseFlowsLaw", "life", "(LPromiseFlows;II[J)I"⟩ ∈ pf_tb := mem_tb (i := 531) (by decide +kernel) (by decide +kernel)
theorem tw_533 : Cond.methodLink "PromiseFlowsLaw" 28 ⟨"PromiseFlows", "life", "(II)I"⟩ ∈ pf_tb := mem_tb (i := 533) (by decide +kernel) (by decide +kernel)
theorem tw_534 : Cond.instanceMethod ⟨"PromiseFlows", "life", "(II)I"⟩ ∈ pf_tb := mem_tb (i := 534) (by decide +kernel) (by decide +kernel)
theorem tw_535 : Cond.selects "PromiseFlows" ⟨"PromiseFlows", "life", "(II)I"⟩ ⟨"PromiseFlows", "life", "(II)I"⟩ ∈ pf_tb := mem_tb (i := 535) (by decide +kernel) (by decide +kernel)
theorem tw_536 : Cond.code ⟨"PromiseFlows", "life", "(II)I"⟩ prog_1_method_5_code 3 (some FieldType.int) ∈ pf_tb := mem_tb (i := 536) (by decide +kernel) (by decide +kernel)
theorem tw_537 : Cond.methodLink "PromiseFlowsLaw" 90 ⟨"PromiseFlowsLaw", "standIn", "(LPromiseFlows;IIZ[J)I"⟩ ∈ pf_tb := mem_tb (i := 537) (by decide +kernel) (by decide +kernel)
theorem tw_538 : Cond.static ⟨"PromiseFlowsLaw", "standIn", "(LPromiseFlows;IIZ[J)I"⟩ ∈ pf_tb := mem_tb (i := 538) (by decide +kernel) (by decide +kernel)
theorem tw_540 : Cond.methodLink "PromiseFlowsLaw" 31 ⟨"PromiseFlows", "standIn", "(IIZ)I"⟩ ∈ pf_tb := mem_tb (i := 540) (by decide +kernel) (by decide +kernel)
theorem tw_541 : Cond.instanceMethod ⟨"PromiseFlows", "standIn", "(IIZ)I"⟩ ∈ pf_tb := mem_tb (i := 541) (by decide +kernel) (by decide +kernel)
theorem tw_542 : Cond.selects "PromiseFlows" ⟨"PromiseFlows", "standIn", "(IIZ)I"⟩ ⟨"PromiseFlows", "standIn", "(IIZ)I"⟩ ∈ pf_tb := mem_tb (i := 542) (by decide +kernel) (by decide +kernel)
theorem tw_543 : Cond.code ⟨"PromiseFlows", "standIn", "(IIZ)I"⟩ prog_1_method_6_code 4 (some FieldType.int) ∈ pf_tb := mem_tb (i := 543) (by decide +kernel) (by decide +kernel)
theorem tw_545 : Cond.methodLinkNest "PromiseFlows" 97 ⟨"PromiseFlows$Goods", "standsInFor", "(II)Z"⟩ "PromiseFlows" ∈ pf_nest := mem_nest (i := 545) (by decide +kernel) (by decide +kernel)
theorem tw_547 : Cond.methodLinkNest "PromiseFlows" 103 ⟨"PromiseFlows$Goods", "letStandIn", "(IIZ)V"⟩ "PromiseFlows" ∈ pf_nest := mem_nest (i := 547) (by decide +kernel) (by decide +kernel)
theorem tw_549 : Cond.instanceMethod ⟨"PromiseFlows$Goods", "letStandIn", "(IIZ)V"⟩ ∈ pf_tb := mem_tb (i := 549) (by decide +kernel) (by decide +kernel)
theorem tw_550 : Cond.code ⟨"PromiseFlows$Goods", "letStandIn", "(IIZ)V"⟩ prog_3_method_3_code 4 (Option.none : Option Jvm.ClassFile.FieldType) ∈ pf_tb := mem_tb (i := 550) (by decide +kernel) (by decide +kernel)
theorem tw_551 : Cond.methodLink "PromiseFlowsLaw" 94 ⟨"PromiseFlowsLaw", "kit", "(LPromiseFlows;III[J)I"⟩ ∈ pf_tb := mem_tb (i := 551) (by decide +kernel) (by decide +kernel)
theorem tw_552 : Cond.static ⟨"PromiseFlowsLaw", "kit", "(LPromiseFlows;III[J)I"⟩ ∈ pf_tb := mem_tb (i := 552) (by decide +kernel) (by decide +kernel)
theorem tw_554 : Cond.methodLink "PromiseFlowsLaw" 35 ⟨"PromiseFlows", "kit", "(III)I"⟩ ∈ pf_tb := mem_tb (i := 554) (by decide +kernel) (by decide +kernel)
theorem tw_555 : Cond.instanceMethod ⟨"PromiseFlows", "kit", "(III)I"⟩ ∈ pf_tb := mem_tb (i := 555) (by decide +kernel) (by decide +kernel)
theorem tw_556 : Cond.selects "PromiseFlows" ⟨"PromiseFlows", "kit", "(III)I"⟩ ⟨"PromiseFlows", "kit", "(III)I"⟩ ∈ pf_tb := mem_tb (i := 556) (by decide +kernel) (by decide +kernel)
theorem tw_557 : Cond.code ⟨"PromiseFlows", "kit", "(III)I"⟩ prog_1_method_7_code 4 (some FieldType.int) ∈ pf_tb := mem_tb (i := 557) (by decide +kernel) (by decide +kernel)
theorem tw_558 : Cond.methodLinkNest "PromiseFlows" 107 ⟨"PromiseFlows$Goods", "hasPart", "(II)Z"⟩ "PromiseFlows" ∈ pf_nest := mem_nest (i := 558) (by decide +kernel) (by decide +kernel)
theorem tw_560 : Cond.instanceMethod ⟨"PromiseFlows$Goods", "hasPart", "(II)Z"⟩ ∈ pf_tb := mem_tb (i := 560) (by decide +kernel) (by decide +kernel)
theorem tw_561 : Cond.code ⟨"PromiseFlows$Goods", "hasPart", "(II)Z"⟩ prog_3_method_7_code 4 (some FieldType.boolean) ∈ pf_tb := mem_tb (i := 561) (by decide +kernel) (by decide +kernel)
theorem tw_563 : Cond.methodLinkNest "PromiseFlows" 112 ⟨"PromiseFlows$Goods", "isPart", "(I)Z"⟩ "PromiseFlows" ∈ pf_nest := mem_nest (i := 563) (by decide +kernel) (by decide +kernel)
theorem tw_565 : Cond.instanceMethod ⟨"PromiseFlows$Goods", "isPart", "(I)Z"⟩ ∈ pf_tb := mem_tb (i := 565) (by decide +kernel) (by decide +kernel)
theorem tw_566 : Cond.code ⟨"PromiseFlows$Goods", "isPart", "(I)Z"⟩ prog_3_method_8_code 3 (some FieldType.boolean) ∈ pf_tb := mem_tb (i := 566) (by decide +kernel) (by decide +kernel)
theorem tw_567 : Cond.methodLink "PromiseFlows$Goods" 32 ⟨"PromiseFlows$Goods", "hasPart", "(II)Z"⟩ ∈ pf_tb := mem_tb (i := 567) (by decide +kernel) (by decide +kernel)
theorem tw_568 : Cond.methodLinkNest "PromiseFlows" 116 ⟨"PromiseFlows$Goods", "isInStandIn", "(I)Z"⟩ "PromiseFlows" ∈ pf_nest := mem_nest (i := 568) (by decide +kernel) (by decide +kernel)
theorem tw_570 : Cond.instanceMethod ⟨"PromiseFlows$Goods", "isInStandIn", "(I)Z"⟩ ∈ pf_tb := mem_tb (i := 570) (by decide +kernel) (by decide +kernel)
theorem tw_571 : Cond.code ⟨"PromiseFlows$Goods", "isInStandIn", "(I)Z"⟩ prog_3_method_5_code 3 (some FieldType.boolean) ∈ pf_tb := mem_tb (i := 571) (by decide +kernel) (by decide +kernel)
theorem tw_572 : Cond.methodLinkNest "PromiseFlows" 119 ⟨"PromiseFlows$Arrivals", "has", "(I)Z"⟩ "PromiseFlows" ∈ pf_nest := mem_nest (i := 572) (by decide +kernel) (by decide +kernel)
theorem tw_574 : Cond.instanceMethod ⟨"PromiseFlows$Arrivals", "has", "(I)Z"⟩ ∈ pf_tb := mem_tb (i := 574) (by decide +kernel) (by decide +kernel)
theorem tw_575 : Cond.code ⟨"PromiseFlows$Arrivals", "has", "(I)Z"⟩ prog_2_method_3_code 3 (some FieldType.boolean) ∈ pf_tb := mem_tb (i := 575) (by decide +kernel) (by decide +kernel)
theorem tw_576 : Cond.methodLinkNest "PromiseFlows" 122 ⟨"PromiseFlows$Orders", "has", "(I)Z"⟩ "PromiseFlows" ∈ pf_nest := mem_nest (i := 576) (by decide +kernel) (by decide +kernel)
theorem tw_578 : Cond.instanceMethod ⟨"PromiseFlows$Orders", "has", "(I)Z"⟩ ∈ pf_tb := mem_tb (i := 578) (by decide +kernel) (by decide +kernel)
theorem tw_579 : Cond.code ⟨"PromiseFlows$Orders", "has", "(I)Z"⟩ prog_4_method_4_code 3 (some FieldType.boolean) ∈ pf_tb := mem_tb (i := 579) (by decide +kernel) (by decide +kernel)
theorem tw_582 : Cond.methodLinkNest "PromiseFlows" 130 ⟨"PromiseFlows$Goods", "addPart", "(III)I"⟩ "PromiseFlows" ∈ pf_nest := mem_nest (i := 582) (by decide +kernel) (by decide +kernel)
theorem tw_584 : Cond.instanceMethod ⟨"PromiseFlows$Goods", "addPart", "(III)I"⟩ ∈ pf_tb := mem_tb (i := 584) (by decide +kernel) (by decide +kernel)
theorem tw_585 : Cond.code ⟨"PromiseFlows$Goods", "addPart", "(III)I"⟩ prog_3_method_9_code 5 (some FieldType.int) ∈ pf_tb := mem_tb (i := 585) (by decide +kernel) (by decide +kernel)
theorem tw_586 : Cond.methodLink "PromiseFlowsLaw" 97 ⟨"PromiseFlowsLaw", "order", "(LPromiseFlows;IIII[J)I"⟩ ∈ pf_tb := mem_tb (i := 586) (by decide +kernel) (by decide +kernel)
theorem tw_587 : Cond.static ⟨"PromiseFlowsLaw", "order", "(LPromiseFlows;IIII[J)I"⟩ ∈ pf_tb := mem_tb (i := 587) (by decide +kernel) (by decide +kernel)
theorem tw_589 : Cond.methodLink "PromiseFlowsLaw" 38 ⟨"PromiseFlows", "order", "(IIII)I"⟩ ∈ pf_tb := mem_tb (i := 589) (by decide +kernel) (by decide +kernel)
theorem tw_590 : Cond.instanceMethod ⟨"PromiseFlows", "order", "(IIII)I"⟩ ∈ pf_tb := mem_tb (i := 590) (by decide +kernel) (by decide +kernel)
theorem tw_591 : Cond.selects "PromiseFlows" ⟨"PromiseFlows", "order", "(IIII)I"⟩ ⟨"PromiseFlows", "order", "(IIII)I"⟩ ∈ pf_tb := mem_tb (i := 591) (by decide +kernel) (by decide +kernel)
theorem tw_592 : Cond.code ⟨"PromiseFlows", "order", "(IIII)I"⟩ prog_1_method_8_code 6 (some FieldType.int) ∈ pf_tb := mem_tb (i := 592) (by decide +kernel) (by decide +kernel)
theorem tw_594 : Cond.methodLinkNest "PromiseFlows" 136 ⟨"PromiseFlows$Orders", "write", "(IIII)I"⟩ "PromiseFlows" ∈ pf_nest := mem_nest (i := 594) (by decide +kernel) (by decide +kernel)
theorem tw_596 : Cond.instanceMethod ⟨"PromiseFlows$Orders", "write", "(IIII)I"⟩ ∈ pf_tb := mem_tb (i := 596) (by decide +kernel) (by decide +kernel)
theorem tw_597 : Cond.code ⟨"PromiseFlows$Orders", "write", "(IIII)I"⟩ prog_4_method_2_code 5 (some FieldType.int) ∈ pf_tb := mem_tb (i := 597) (by decide +kernel) (by decide +kernel)
theorem tw_598 : Cond.methodLinkNest "PromiseFlows" 143 ⟨"PromiseFlows$Orders", "admit", "()V"⟩ "PromiseFlows" ∈ pf_nest := mem_nest (i := 598) (by decide +kernel) (by decide +kernel)
theorem tw_600 : Cond.instanceMethod ⟨"PromiseFlows$Orders", "admit", "()V"⟩ ∈ pf_tb := mem_tb (i := 600) (by decide +kernel) (by decide +kernel)
theorem tw_601 : Cond.code ⟨"PromiseFlows$Orders", "admit", "()V"⟩ prog_4_method_3_code 2 (Option.none : Option Jvm.ClassFile.FieldType) ∈ pf_tb := mem_tb (i := 601) (by decide +kernel) (by decide +kernel)
theorem tw_602 : Cond.methodLink "PromiseFlowsLaw" 101 ⟨"PromiseFlowsLaw", "close", "(LPromiseFlows;I[J)I"⟩ ∈ pf_tb := mem_tb (i := 602) (by decide +kernel) (by decide +kernel)
theorem tw_603 : Cond.static ⟨"PromiseFlowsLaw", "close", "(LPromiseFlows;I[J)I"⟩ ∈ pf_tb := mem_tb (i := 603) (by decide +kernel) (by decide +kernel)
theorem tw_605 : Cond.methodLink "PromiseFlowsLaw" 42 ⟨"PromiseFlows", "close", "(I)I"⟩ ∈ pf_tb := mem_tb (i := 605) (by decide +kernel) (by decide +kernel)
theorem tw_606 : Cond.instanceMethod ⟨"PromiseFlows", "close", "(I)I"⟩ ∈ pf_tb := mem_tb (i := 606) (by decide +kernel) (by decide +kernel)
theorem tw_607 : Cond.selects "PromiseFlows" ⟨"PromiseFlows", "close", "(I)I"⟩ ⟨"PromiseFlows", "close", "(I)I"⟩ ∈ pf_tb := mem_tb (i := 607) (by decide +kernel) (by decide +kernel)
theorem tw_608 : Cond.code ⟨"PromiseFlows", "close", "(I)I"⟩ prog_1_method_9_code 2 (some FieldType.int) ∈ pf_tb := mem_tb (i := 608) (by decide +kernel) (by decide +kernel)
theorem tw_609 : Cond.methodLink "PromiseFlows" 149 ⟨"PromiseFlows", "needOrder", "(I)V"⟩ ∈ pf_tb := mem_tb (i := 609) (by decide +kernel) (by decide +kernel)
theorem tw_611 : Cond.instanceMethod ⟨"PromiseFlows", "needOrder", "(I)V"⟩ ∈ pf_tb := mem_tb (i := 611) (by decide +kernel) (by decide +kernel)
theorem tw_612 : Cond.code ⟨"PromiseFlows", "needOrder", "(I)V"⟩ prog_1_method_22_code 2 (Option.none : Option Jvm.ClassFile.FieldType) ∈ pf_tb := mem_tb (i := 612) (by decide +kernel) (by decide +kernel)
theorem tw_615 : Cond.methodLink "PromiseFlowsLaw" 105 ⟨"PromiseFlowsLaw", "promise", "(LPromiseFlows;II[J)I"⟩ ∈ pf_tb := mem_tb (i := 615) (by decide +kernel) (by decide +kernel)
theorem tw_616 : Cond.static ⟨"PromiseFlowsLaw", "promise", "(LPromiseFlows;II[J)I"⟩ ∈ pf_tb := mem_tb (i := 616) (by decide +kernel) (by decide +kernel)
theorem tw_618 : Cond.methodLink "PromiseFlowsLaw" 46 ⟨"PromiseFlows", "promise", "(II)I"⟩ ∈ pf_tb := mem_tb (i := 618) (by decide +kernel) (by decide +kernel)
theorem tw_619 : Cond.instanceMethod ⟨"PromiseFlows", "promise", "(II)I"⟩ ∈ pf_tb := mem_tb (i := 619) (by decide +kernel) (by decide +kernel)
theorem tw_620 : Cond.selects "PromiseFlows" ⟨"PromiseFlows", "promise", "(II)I"⟩ ⟨"PromiseFlows", "promise", "(II)I"⟩ ∈ pf_tb := mem_tb (i := 620) (by decide +kernel) (by decide +kernel)
theorem tw_621 : Cond.code ⟨"PromiseFlows", "promise", "(II)I"⟩ prog_1_method_10_code 3 (some FieldType.int) ∈ pf_tb := mem_tb (i := 621) (by decide +kernel) (by decide +kernel)
theorem tw_622 : Cond.methodLink "PromiseFlows" 157 ⟨"PromiseFlows", "greatestFurther", "(II)I"⟩ ∈ pf_tb := mem_tb (i := 622) (by decide +kernel) (by decide +kernel)
theorem tw_624 : Cond.instanceMethod ⟨"PromiseFlows", "greatestFurther", "(II)I"⟩ ∈ pf_tb := mem_tb (i := 624) (by decide +kernel) (by decide +kernel)
theorem tw_625 : Cond.code ⟨"PromiseFlows", "greatestFurther", "(II)I"⟩ prog_1_method_27_code 9 (some FieldType.int) ∈ pf_tb := mem_tb (i := 625) (by decide +kernel) (by decide +kernel)
theorem tw_626 : Cond.constant "PromiseFlows" 261 10000001 ∈ pf_tb := mem_tb (i := 626) (by decide +kernel) (by decide +kernel)
theorem tw_627 : Cond.methodLink "PromiseFlows" 262 ⟨"PromiseFlows", "hasBit", "(II)Z"⟩ ∈ pf_tb := mem_tb (i := 627) (by decide +kernel) (by decide +kernel)
theorem tw_628 : Cond.methodLinkNest "PromiseFlows" 268 ⟨"PromiseFlows$Takings", "mostFrom", "(I)I"⟩ "PromiseFlows" ∈ pf_nest := mem_nest (i := 628) (by decide +kernel) (by decide +kernel)
theorem tw_630 : Cond.instanceMethod ⟨"PromiseFlows$Takings", "mostFrom", "(I)I"⟩ ∈ pf_tb := mem_tb (i := 630) (by decide +kernel) (by decide +kernel)
theorem tw_631 : Cond.code ⟨"PromiseFlows$Takings", "mostFrom", "(I)I"⟩ prog_5_method_6_code 3 (some FieldType.int) ∈ pf_tb := mem_tb (i := 631) (by decide +kernel) (by decide +kernel)
theorem tw_632 : Cond.methodLink "PromiseFlows$Takings" 62 ⟨"PromiseFlows$Takings", "save", "()V"⟩ ∈ pf_tb := mem_tb (i := 632) (by decide +kernel) (by decide +kernel)
theorem tw_633 : Cond.constant "PromiseFlows$Takings" 65 10000001 ∈ pf_tb := mem_tb (i := 633) (by decide +kernel) (by decide +kernel)
theorem tw_634 : Cond.methodLink "PromiseFlows$Takings" 66 ⟨"PromiseFlows$Takings", "take", "(III)I"⟩ ∈ pf_tb := mem_tb (i := 634) (by decide +kernel) (by decide +kernel)
theorem tw_635 : Cond.methodLink "PromiseFlows$Takings" 70 ⟨"PromiseFlows$Takings", "restore", "()V"⟩ ∈ pf_tb := mem_tb (i := 635) (by decide +kernel) (by decide +kernel)
theorem tw_636 : Cond.methodLink "PromiseFlows" 271 ⟨"java/lang/Math", "min", "(II)I"⟩ ∈ pf_tb := mem_tb (i := 636) (by decide +kernel) (by decide +kernel)
theorem tw_637 : Cond.methodLink "PromiseFlowsLaw" 108 ⟨"PromiseFlowsLaw", "share", "(LPromiseFlows;II[J)I"⟩ ∈ pf_tb := mem_tb (i := 637) (by decide +kernel) (by decide +kernel)
theorem tw_638 : Cond.static ⟨"PromiseFlowsLaw", "share", "(LPromiseFlows;II[J)I"⟩ ∈ pf_tb := mem_tb (i := 638) (by decide +kernel) (by decide +kernel)
theorem tw_640 : Cond.classLink "PromiseFlowsLaw" 52 "java/lang/ArithmeticException" ∈ pf_tb := mem_tb (i := 640) (by decide +kernel) (by decide +kernel)
theorem tw_641 : Cond.methodLink "PromiseFlowsLaw" 49 ⟨"PromiseFlows", "share", "(II)I"⟩ ∈ pf_tb := mem_tb (i := 641) (by decide +kernel) (by decide +kernel)
theorem tw_642 : Cond.instanceMethod ⟨"PromiseFlows", "share", "(II)I"⟩ ∈ pf_tb := mem_tb (i := 642) (by decide +kernel) (by decide +kernel)
theorem tw_643 : Cond.selects "PromiseFlows" ⟨"PromiseFlows", "share", "(II)I"⟩ ⟨"PromiseFlows", "share", "(II)I"⟩ ∈ pf_tb := mem_tb (i := 643) (by decide +kernel) (by decide +kernel)
theorem tw_644 : Cond.code ⟨"PromiseFlows", "share", "(II)I"⟩ prog_1_method_11_code 4 (some FieldType.int) ∈ pf_tb := mem_tb (i := 644) (by decide +kernel) (by decide +kernel)
theorem tw_645 : Cond.methodLinkNest "PromiseFlows" 164 ⟨"PromiseFlows$Arrivals", "broughtBy", "(I)I"⟩ "PromiseFlows" ∈ pf_nest := mem_nest (i := 645) (by decide +kernel) (by decide +kernel)
theorem tw_647 : Cond.instanceMethod ⟨"PromiseFlows$Arrivals", "broughtBy", "(I)I"⟩ ∈ pf_tb := mem_tb (i := 647) (by decide +kernel) (by decide +kernel)
theorem tw_648 : Cond.code ⟨"PromiseFlows$Arrivals", "broughtBy", "(I)I"⟩ prog_2_method_6_code 4 (some FieldType.int) ∈ pf_tb := mem_tb (i := 648) (by decide +kernel) (by decide +kernel)
theorem tw_649 : Cond.methodLinkNest "PromiseFlows$Arrivals" 32 ⟨"PromiseFlows", "hasBit", "(II)Z"⟩ "PromiseFlows" ∈ pf_nest := mem_nest (i := 649) (by decide +kernel) (by decide +kernel)
theorem tw_650 : Cond.classLink "PromiseFlows" 168 "java/lang/ArithmeticException" ∈ pf_tb := mem_tb (i := 650) (by decide +kernel) (by decide +kernel)
theorem tw_651 : Cond.instantiable "java/lang/ArithmeticException" 6 ∈ pf_tb := mem_tb (i := 651) (by decide +kernel) (by decide +kernel)
theorem tw_653 : Cond.selects "java/lang/ArithmeticException" ⟨"java/lang/Throwable", "fillInStackTrace", "(I)Ljava/lang/Throwable;"⟩ ⟨"java/lang/Throwable", "fillInStackTrace", "(I)Ljava/lang/Throwable;"⟩ ∈ pf_tb := mem_tb (i := 653) (by decide +kernel) (by decide +kernel)
theorem tw_660 : Cond.methodLink "PromiseFlows" 172 ⟨"java/lang/ArithmeticException", "<init>", "(Ljava/lang/String;)V"⟩ ∈ pf_tb := mem_tb (i := 660) (by decide +kernel) (by decide +kernel)
theorem tw_661 : Cond.instanceMethod ⟨"java/lang/ArithmeticException", "<init>", "(Ljava/lang/String;)V"⟩ ∈ pf_tb := mem_tb (i := 661) (by decide +kernel) (by decide +kernel)
theorem tw_662 : Cond.code ⟨"java/lang/ArithmeticException", "<init>", "(Ljava/lang/String;)V"⟩ prog_8_method_2_code 2 (Option.none : Option Jvm.ClassFile.FieldType) ∈ pf_tb := mem_tb (i := 662) (by decide +kernel) (by decide +kernel)
theorem tw_663 : Cond.methodLink "java/lang/ArithmeticException" 7 ⟨"java/lang/RuntimeException", "<init>", "(Ljava/lang/String;)V"⟩ ∈ pf_tb := mem_tb (i := 663) (by decide +kernel) (by decide +kernel)
theorem tw_665 : Cond.superclass "java/lang/ArithmeticException" "java/lang/RuntimeException" ∈ pf_tb := mem_tb (i := 665) (by decide +kernel) (by decide +kernel)
theorem tw_666 : Cond.constantLong "PromiseFlows" 173 1000 ∈ pf_tb := mem_tb (i := 666) (by decide +kernel) (by decide +kernel)
theorem tw_667 : Cond.methodLink "PromiseFlowsLaw" 111 ⟨"PromiseFlowsLaw", "bars", "(LPromiseFlows;III[J)I"⟩ ∈ pf_tb := mem_tb (i := 667) (by decide +kernel) (by decide +kernel)
theorem tw_668 : Cond.static ⟨"PromiseFlowsLaw", "bars", "(LPromiseFlows;III[J)I"⟩ ∈ pf_tb := mem_tb (i := 668) (by decide +kernel) (by decide +kernel)
theorem tw_670 : Cond.methodLink "PromiseFlowsLaw" 54 ⟨"PromiseFlows", "bars", "(III)I"⟩ ∈ pf_tb := mem_tb (i := 670) (by decide +kernel) (by decide +kernel)
theorem tw_671 : Cond.instanceMethod ⟨"PromiseFlows", "bars", "(III)I"⟩ ∈ pf_tb := mem_tb (i := 671) (by decide +kernel) (by decide +kernel)
theorem tw_672 : Cond.selects "PromiseFlows" ⟨"PromiseFlows", "bars", "(III)I"⟩ ⟨"PromiseFlows", "bars", "(III)I"⟩ ∈ pf_tb := mem_tb (i := 672) (by decide +kernel) (by decide +kernel)
theorem tw_673 : Cond.code ⟨"PromiseFlows", "bars", "(III)I"⟩ prog_1_method_12_code 7 (some FieldType.int) ∈ pf_tb := mem_tb (i := 673) (by decide +kernel) (by decide +kernel)
theorem tw_674 : Cond.methodLink "PromiseFlows" 175 ⟨"PromiseFlows", "needNotBelowZero", "(I)V"⟩ ∈ pf_tb := mem_tb (i := 674) (by decide +kernel) (by decide +kernel)
theorem tw_675 : Cond.static ⟨"PromiseFlows", "needNotBelowZero", "(I)V"⟩ ∈ pf_tb := mem_tb (i := 675) (by decide +kernel) (by decide +kernel)
theorem tw_676 : Cond.code ⟨"PromiseFlows", "needNotBelowZero", "(I)V"⟩ prog_1_method_20_code 1 (Option.none : Option Jvm.ClassFile.FieldType) ∈ pf_tb := mem_tb (i := 676) (by decide +kernel) (by decide +kernel)
theorem tw_678 : Cond.methodLinkNest "PromiseFlows" 178 ⟨"PromiseFlows$Takings", "spread", "(II)I"⟩ "PromiseFlows" ∈ pf_nest := mem_nest (i := 678) (by decide +kernel) (by decide +kernel)
theorem tw_679 : Cond.methodLink "PromiseFlows" 181 ⟨"PromiseFlows", "takesFrom", "(II)Z"⟩ ∈ pf_tb := mem_tb (i := 679) (by decide +kernel) (by decide +kernel)
theorem tw_681 : Cond.instanceMethod ⟨"PromiseFlows", "takesFrom", "(II)Z"⟩ ∈ pf_tb := mem_tb (i := 681) (by decide +kernel) (by decide +kernel)
theorem tw_682 : Cond.code ⟨"PromiseFlows", "takesFrom", "(II)Z"⟩ prog_1_method_29_code 4 (some FieldType.boolean) ∈ pf_tb := mem_tb (i := 682) (by decide +kernel) (by decide +kernel)
theorem tw_683 : Cond.methodLinkNest "PromiseFlows" 280 ⟨"PromiseFlows$Takings", "takesFrom", "(II)Z"⟩ "PromiseFlows" ∈ pf_nest := mem_nest (i := 683) (by decide +kernel) (by decide +kernel)
theorem tw_685 : Cond.instanceMethod ⟨"PromiseFlows$Takings", "takesFrom", "(II)Z"⟩ ∈ pf_tb := mem_tb (i := 685) (by decide +kernel) (by decide +kernel)
theorem tw_686 : Cond.code ⟨"PromiseFlows$Takings", "takesFrom", "(II)Z"⟩ prog_5_method_13_code 4 (some FieldType.boolean) ∈ pf_tb := mem_tb (i := 686) (by decide +kernel) (by decide +kernel)
theorem tw_687 : Cond.methodLink "PromiseFlowsLaw" 114 ⟨"PromiseFlowsLaw", "flow", "(LPromiseFlows;III[J)I"⟩ ∈ pf_tb := mem_tb (i := 687) (by decide +kernel) (by decide +kernel)
theorem tw_688 : Cond.static ⟨"PromiseFlowsLaw", "flow", "(LPromiseFlows;III[J)I"⟩ ∈ pf_tb := mem_tb (i := 688) (by decide +kernel) (by decide +kernel)
theorem tw_690 : Cond.methodLink "PromiseFlowsLaw" 57 ⟨"PromiseFlows", "flow", "(III)I"⟩ ∈ pf_tb := mem_tb (i := 690) (by decide +kernel) (by decide +kernel)
theorem tw_691 : Cond.instanceMethod ⟨"PromiseFlows", "flow", "(III)I"⟩ ∈ pf_tb := mem_tb (i := 691) (by decide +kernel) (by decide +kernel)
theorem tw_692 : Cond.selects "PromiseFlows" ⟨"PromiseFlows", "flow", "(III)I"⟩ ⟨"PromiseFlows", "flow", "(III)I"⟩ ∈ pf_tb := mem_tb (i := 692) (by decide +kernel) (by decide +kernel)
theorem tw_693 : Cond.code ⟨"PromiseFlows", "flow", "(III)I"⟩ prog_1_method_13_code 8 (some FieldType.int) ∈ pf_tb := mem_tb (i := 693) (by decide +kernel) (by decide +kernel)
theorem tw_695 : Cond.methodLinkNest "PromiseFlows" 192 ⟨"PromiseFlows$Takings", "partsOf", "(I)I"⟩ "PromiseFlows" ∈ pf_nest := mem_nest (i := 695) (by decide +kernel) (by decide +kernel)
theorem tw_697 : Cond.instanceMethod ⟨"PromiseFlows$Takings", "partsOf", "(I)I"⟩ ∈ pf_tb := mem_tb (i := 697) (by decide +kernel) (by decide +kernel)
theorem tw_698 : Cond.code ⟨"PromiseFlows$Takings", "partsOf", "(I)I"⟩ prog_5_method_14_code 4 (some FieldType.int) ∈ pf_tb := mem_tb (i := 698) (by decide +kernel) (by decide +kernel)
theorem tw_699 : Cond.methodLinkNest "PromiseFlows" 200 ⟨"PromiseFlows$Takings", "partOf", "(IIZ)I"⟩ "PromiseFlows" ∈ pf_nest := mem_nest (i := 699) (by decide +kernel) (by decide +kernel)
theorem tw_701 : Cond.instanceMethod ⟨"PromiseFlows$Takings", "partOf", "(IIZ)I"⟩ ∈ pf_tb := mem_tb (i := 701) (by decide +kernel) (by decide +kernel)
theorem tw_702 : Cond.code ⟨"PromiseFlows$Takings", "partOf", "(IIZ)I"⟩ prog_5_method_15_code 8 (some FieldType.int) ∈ pf_tb := mem_tb (i := 702) (by decide +kernel) (by decide +kernel)
theorem tw_703 : Cond.methodLink "PromiseFlowsLaw" 117 ⟨"PromiseFlowsLaw", "state", "(LPromiseFlows;I[J)I"⟩ ∈ pf_tb := mem_tb (i := 703) (by decide +kernel) (by decide +kernel)
theorem tw_704 : Cond.static ⟨"PromiseFlowsLaw", "state", "(LPromiseFlows;I[J)I"⟩ ∈ pf_tb := mem_tb (i := 704) (by decide +kernel) (by decide +kernel)
theorem tw_706 : Cond.methodLink "PromiseFlowsLaw" 60 ⟨"PromiseFlows", "state", "(I)I"⟩ ∈ pf_tb := mem_tb (i := 706) (by decide +kernel) (by decide +kernel)
theorem tw_707 : Cond.instanceMethod ⟨"PromiseFlows", "state", "(I)I"⟩ ∈ pf_tb := mem_tb (i := 707) (by decide +kernel) (by decide +kernel)
theorem tw_708 : Cond.selects "PromiseFlows" ⟨"PromiseFlows", "state", "(I)I"⟩ ⟨"PromiseFlows", "state", "(I)I"⟩ ∈ pf_tb := mem_tb (i := 708) (by decide +kernel) (by decide +kernel)
theorem tw_709 : Cond.code ⟨"PromiseFlows", "state", "(I)I"⟩ prog_1_method_14_code 2 (some FieldType.int) ∈ pf_tb := mem_tb (i := 709) (by decide +kernel) (by decide +kernel)
theorem tw_710 : Cond.methodLink "PromiseFlowsLaw" 120 ⟨"PromiseFlowsLaw", "left", "(LPromiseFlows;I[J)I"⟩ ∈ pf_tb := mem_tb (i := 710) (by decide +kernel) (by decide +kernel)
theorem tw_711 : Cond.static ⟨"PromiseFlowsLaw", "left", "(LPromiseFlows;I[J)I"⟩ ∈ pf_tb := mem_tb (i := 711) (by decide +kernel) (by decide +kernel)
theorem tw_713 : Cond.methodLink "PromiseFlowsLaw" 63 ⟨"PromiseFlows", "left", "(I)I"⟩ ∈ pf_tb := mem_tb (i := 713) (by decide +kernel) (by decide +kernel)
theorem tw_714 : Cond.instanceMethod ⟨"PromiseFlows", "left", "(I)I"⟩ ∈ pf_tb := mem_tb (i := 714) (by decide +kernel) (by decide +kernel)
theorem tw_715 : Cond.selects "PromiseFlows" ⟨"PromiseFlows", "left", "(I)I"⟩ ⟨"PromiseFlows", "left", "(I)I"⟩ ∈ pf_tb := mem_tb (i := 715) (by decide +kernel) (by decide +kernel)
theorem tw_716 : Cond.code ⟨"PromiseFlows", "left", "(I)I"⟩ prog_1_method_15_code 2 (some FieldType.int) ∈ pf_tb := mem_tb (i := 716) (by decide +kernel) (by decide +kernel)
theorem tw_717 : Cond.classLink "PromiseFlowsLaw" 67 "PromiseFlowsModel" ∈ pf_tb := mem_tb (i := 717) (by decide +kernel) (by decide +kernel)
theorem tw_718 : Cond.instantiable "PromiseFlowsModel" 29 ∈ pf_tb := mem_tb (i := 718) (by decide +kernel) (by decide +kernel)
theorem tw_719 : Cond.methodLink "PromiseFlowsLaw" 69 ⟨"PromiseFlowsModel", "<init>", "()V"⟩ ∈ pf_tb := mem_tb (i := 719) (by decide +kernel) (by decide +kernel)
theorem tw_720 : Cond.instanceMethod ⟨"PromiseFlowsModel", "<init>", "()V"⟩ ∈ pf_tb := mem_tb (i := 720) (by decide +kernel) (by decide +kernel)
theorem tw_721 : Cond.code ⟨"PromiseFlowsModel", "<init>", "()V"⟩ prog_7_method_1_code 1 (Option.none : Option Jvm.ClassFile.FieldType) ∈ pf_tb := mem_tb (i := 721) (by decide +kernel) (by decide +kernel)
theorem tw_722 : Cond.methodLink "PromiseFlowsModel" 1 ⟨"java/lang/Object", "<init>", "()V"⟩ ∈ pf_tb := mem_tb (i := 722) (by decide +kernel) (by decide +kernel)
theorem tw_723 : Cond.fieldLink "PromiseFlowsModel" 83 "PromiseFlowsModel" "code" "I" ∈ pf_tb := mem_tb (i := 723) (by decide +kernel) (by decide +kernel)
theorem tw_724 : Cond.fieldLink "PromiseFlowsModel" 9 "PromiseFlowsModel" "life" "[I" ∈ pf_tb := mem_tb (i := 724) (by decide +kernel) (by decide +kernel)
theorem tw_725 : Cond.fieldLink "PromiseFlowsModel" 13 "PromiseFlowsModel" "standIns" "[I" ∈ pf_tb := mem_tb (i := 725) (by decide +kernel) (by decide +kernel)
theorem tw_726 : Cond.fieldLink "PromiseFlowsModel" 16 "PromiseFlowsModel" "partCount" "[I" ∈ pf_tb := mem_tb (i := 726) (by decide +kernel) (by decide +kernel)
theorem tw_727 : Cond.fieldLink "PromiseFlowsModel" 19 "PromiseFlowsModel" "parts" "[I" ∈ pf_tb := mem_tb (i := 727) (by decide +kernel) (by decide +kernel)
theorem tw_728 : Cond.fieldLink "PromiseFlowsModel" 22 "PromiseFlowsModel" "partMany" "[I" ∈ pf_tb := mem_tb (i := 728) (by decide +kernel) (by decide +kernel)
theorem tw_729 : Cond.fieldLink "PromiseFlowsModel" 91 "PromiseFlowsModel" "arrivals" "I" ∈ pf_tb := mem_tb (i := 729) (by decide +kernel) (by decide +kernel)
theorem tw_730 : Cond.fieldLink "PromiseFlowsModel" 25 "PromiseFlowsModel" "time" "[I" ∈ pf_tb := mem_tb (i := 730) (by decide +kernel) (by decide +kernel)
theorem tw_731 : Cond.fieldLink "PromiseFlowsModel" 28 "PromiseFlowsModel" "good" "[I" ∈ pf_tb := mem_tb (i := 731) (by decide +kernel) (by decide +kernel)
theorem tw_732 : Cond.fieldLink "PromiseFlowsModel" 31 "PromiseFlowsModel" "brings" "[I" ∈ pf_tb := mem_tb (i := 732) (by decide +kernel) (by decide +kernel)
theorem tw_733 : Cond.fieldLink "PromiseFlowsModel" 34 "PromiseFlowsModel" "aside" "[I" ∈ pf_tb := mem_tb (i := 733) (by decide +kernel) (by decide +kernel)
theorem tw_734 : Cond.fieldLink "PromiseFlowsModel" 109 "PromiseFlowsModel" "orders" "I" ∈ pf_tb := mem_tb (i := 734) (by decide +kernel) (by decide +kernel)
theorem tw_735 : Cond.fieldLink "PromiseFlowsModel" 37 "PromiseFlowsModel" "due" "[I" ∈ pf_tb := mem_tb (i := 735) (by decide +kernel) (by decide +kernel)
theorem tw_736 : Cond.fieldLink "PromiseFlowsModel" 40 "PromiseFlowsModel" "wanted" "[I" ∈ pf_tb := mem_tb (i := 736) (by decide +kernel) (by decide +kernel)
theorem tw_737 : Cond.fieldLink "PromiseFlowsModel" 43 "PromiseFlowsModel" "many" "[I" ∈ pf_tb := mem_tb (i := 737) (by decide +kernel) (by decide +kernel)
theorem tw_738 : Cond.fieldLink "PromiseFlowsModel" 46 "PromiseFlowsModel" "rank" "[I" ∈ pf_tb := mem_tb (i := 738) (by decide +kernel) (by decide +kernel)
theorem tw_739 : Cond.fieldLink "PromiseFlowsModel" 49 "PromiseFlowsModel" "state" "[I" ∈ pf_tb := mem_tb (i := 739) (by decide +kernel) (by decide +kernel)
theorem tw_740 : Cond.fieldLink "PromiseFlowsModel" 94 "PromiseFlowsModel" "demands" "I" ∈ pf_tb := mem_tb (i := 740) (by decide +kernel) (by decide +kernel)
theorem tw_741 : Cond.fieldLink "PromiseFlowsModel" 52 "PromiseFlowsModel" "demandOf" "[I" ∈ pf_tb := mem_tb (i := 741) (by decide +kernel) (by decide +kernel)
theorem tw_742 : Cond.fieldLink "PromiseFlowsModel" 55 "PromiseFlowsModel" "demandGood" "[I" ∈ pf_tb := mem_tb (i := 742) (by decide +kernel) (by decide +kernel)
theorem tw_743 : Cond.fieldLink "PromiseFlowsModel" 58 "PromiseFlowsModel" "demandMany" "[J" ∈ pf_tb := mem_tb (i := 743) (by decide +kernel) (by decide +kernel)
theorem tw_744 : Cond.fieldLink "PromiseFlowsModel" 62 "PromiseFlowsModel" "demandMask" "[I" ∈ pf_tb := mem_tb (i := 744) (by decide +kernel) (by decide +kernel)
theorem tw_745 : Cond.fieldLink "PromiseFlowsModel" 65 "PromiseFlowsModel" "has" "[J" ∈ pf_tb := mem_tb (i := 745) (by decide +kernel) (by decide +kernel)
theorem tw_746 : Cond.fieldLink "PromiseFlowsModel" 158 "PromiseFlowsModel" "entries" "I" ∈ pf_tb := mem_tb (i := 746) (by decide +kernel) (by decide +kernel)
theorem tw_747 : Cond.fieldLink "PromiseFlowsModel" 68 "PromiseFlowsModel" "entryOf" "[I" ∈ pf_tb := mem_tb (i := 747) (by decide +kernel) (by decide +kernel)
theorem tw_748 : Cond.fieldLink "PromiseFlowsModel" 71 "PromiseFlowsModel" "entryDemand" "[I" ∈ pf_tb := mem_tb (i := 748) (by decide +kernel) (by decide +kernel)
theorem tw_749 : Cond.fieldLink "PromiseFlowsModel" 74 "PromiseFlowsModel" "entryGood" "[I" ∈ pf_tb := mem_tb (i := 749) (by decide +kernel) (by decide +kernel)
theorem tw_750 : Cond.fieldLink "PromiseFlowsModel" 77 "PromiseFlowsModel" "entryFrom" "[I" ∈ pf_tb := mem_tb (i := 750) (by decide +kernel) (by decide +kernel)
theorem tw_751 : Cond.fieldLink "PromiseFlowsModel" 80 "PromiseFlowsModel" "entryMany" "[I" ∈ pf_tb := mem_tb (i := 751) (by decide +kernel) (by decide +kernel)
theorem tw_810 : Cond.superclass "PromiseFlowsModel" "java/lang/Object" ∈ pf_tb := mem_tb (i := 810) (by decide +kernel) (by decide +kernel)
theorem tw_811 : Cond.arrayClass FieldType.long ∈ pf_tb := mem_tb (i := 811) (by decide +kernel) (by decide +kernel)
theorem tw_812 : Cond.methodLink "PromiseFlowsLaw" 76 ⟨"PromiseFlowsModel", "thrown", "()I"⟩ ∈ pf_tb := mem_tb (i := 812) (by decide +kernel) (by decide +kernel)
theorem tw_813 : Cond.instanceMethod ⟨"PromiseFlowsModel", "thrown", "()I"⟩ ∈ pf_tb := mem_tb (i := 813) (by decide +kernel) (by decide +kernel)
theorem tw_814 : Cond.selects "PromiseFlowsModel" ⟨"PromiseFlowsModel", "thrown", "()I"⟩ ⟨"PromiseFlowsModel", "thrown", "()I"⟩ ∈ pf_tb := mem_tb (i := 814) (by decide +kernel) (by decide +kernel)
theorem tw_815 : Cond.code ⟨"PromiseFlowsModel", "thrown", "()I"⟩ prog_7_method_2_code 1 (some FieldType.int) ∈ pf_tb := mem_tb (i := 815) (by decide +kernel) (by decide +kernel)
theorem tw_816 : Cond.methodLink "PromiseFlowsLaw" 75 ⟨"PromiseFlowsModel", "arrival", "(III)I"⟩ ∈ pf_tb := mem_tb (i := 816) (by decide +kernel) (by decide +kernel)
theorem tw_817 : Cond.instanceMethod ⟨"PromiseFlowsModel", "arrival", "(III)I"⟩ ∈ pf_tb := mem_tb (i := 817) (by decide +kernel) (by decide +kernel)
theorem tw_818 : Cond.selects "PromiseFlowsModel" ⟨"PromiseFlowsModel", "arrival", "(III)I"⟩ ⟨"PromiseFlowsModel", "arrival", "(III)I"⟩ ∈ pf_tb := mem_tb (i := 818) (by decide +kernel) (by decide +kernel)
theorem tw_819 : Cond.code ⟨"PromiseFlowsModel", "arrival", "(III)I"⟩ prog_7_method_16_code 4 (some FieldType.int) ∈ pf_tb := mem_tb (i := 819) (by decide +kernel) (by decide +kernel)
theorem tw_820 : Cond.methodLink "PromiseFlowsModel" 87 ⟨"PromiseFlowsModel", "in", "(III)Z"⟩ ∈ pf_tb := mem_tb (i := 820) (by decide +kernel) (by decide +kernel)
theorem tw_821 : Cond.static ⟨"PromiseFlowsModel", "in", "(III)Z"⟩ ∈ pf_tb := mem_tb (i := 821) (by decide +kernel) (by decide +kernel)
theorem tw_822 : Cond.code ⟨"PromiseFlowsModel", "in", "(III)Z"⟩ prog_7_method_3_code 3 (some FieldType.boolean) ∈ pf_tb := mem_tb (i := 822) (by decide +kernel) (by decide +kernel)
theorem tw_823 : Cond.methodLink "PromiseFlowsModel" 128 ⟨"PromiseFlowsModel", "isGood", "(I)Z"⟩ ∈ pf_tb := mem_tb (i := 823) (by decide +kernel) (by decide +kernel)
theorem tw_824 : Cond.static ⟨"PromiseFlowsModel", "isGood", "(I)Z"⟩ ∈ pf_tb := mem_tb (i := 824) (by decide +kernel) (by decide +kernel)
theorem tw_825 : Cond.code ⟨"PromiseFlowsModel", "isGood", "(I)Z"⟩ prog_7_method_4_code 1 (some FieldType.boolean) ∈ pf_tb := mem_tb (i := 825) (by decide +kernel) (by decide +kernel)
theorem tw_826 : Cond.constant "PromiseFlowsModel" 131 1000000 ∈ pf_tb := mem_tb (i := 826) (by decide +kernel) (by decide +kernel)
theorem tw_827 : Cond.methodLink "PromiseFlowsModel" 101 ⟨"PromiseFlowsModel", "isKit", "(I)Z"⟩ ∈ pf_tb := mem_tb (i := 827) (by decide +kernel) (by decide +kernel)
theorem tw_829 : Cond.instanceMethod ⟨"PromiseFlowsModel", "isKit", "(I)Z"⟩ ∈ pf_tb := mem_tb (i := 829) (by decide +kernel) (by decide +kernel)
theorem tw_830 : Cond.code ⟨"PromiseFlowsModel", "isKit", "(I)Z"⟩ prog_7_method_5_code 2 (some FieldType.boolean) ∈ pf_tb := mem_tb (i := 830) (by decide +kernel) (by decide +kernel)
theorem tw_831 : Cond.methodLink "PromiseFlowsModel" 132 ⟨"PromiseFlowsModel", "cover", "()I"⟩ ∈ pf_tb := mem_tb (i := 831) (by decide +kernel) (by decide +kernel)
theorem tw_833 : Cond.instanceMethod ⟨"PromiseFlowsModel", "cover", "()I"⟩ ∈ pf_tb := mem_tb (i := 833) (by decide +kernel) (by decide +kernel)
theorem tw_834 : Cond.code ⟨"PromiseFlowsModel", "cover", "()I"⟩ prog_7_method_14_code 5 (some FieldType.int) ∈ pf_tb := mem_tb (i := 834) (by decide +kernel) (by decide +kernel)
theorem tw_835 : Cond.methodLink "PromiseFlowsModel" 112 ⟨"PromiseFlowsModel", "next", "(IZ)I"⟩ ∈ pf_tb := mem_tb (i := 835) (by decide +kernel) (by decide +kernel)
theorem tw_837 : Cond.instanceMethod ⟨"PromiseFlowsModel", "next", "(IZ)I"⟩ ∈ pf_tb := mem_tb (i := 837) (by decide +kernel) (by decide +kernel)
theorem tw_838 : Cond.code ⟨"PromiseFlowsModel", "next", "(IZ)I"⟩ prog_7_method_10_code 6 (some FieldType.int) ∈ pf_tb := mem_tb (i := 838) (by decide +kernel) (by decide +kernel)
theorem tw_839 : Cond.methodLink "PromiseFlowsModel" 116 ⟨"PromiseFlowsModel", "addOrder", "(IIII)V"⟩ ∈ pf_tb := mem_tb (i := 839) (by decide +kernel) (by decide +kernel)
theorem tw_841 : Cond.instanceMethod ⟨"PromiseFlowsModel", "addOrder", "(IIII)V"⟩ ∈ pf_tb := mem_tb (i := 841) (by decide +kernel) (by decide +kernel)
theorem tw_842 : Cond.code ⟨"PromiseFlowsModel", "addOrder", "(IIII)V"⟩ prog_7_method_9_code 6 (Option.none : Option Jvm.ClassFile.FieldType) ∈ pf_tb := mem_tb (i := 842) (by decide +kernel) (by decide +kernel)
theorem tw_843 : Cond.methodLink "PromiseFlowsModel" 105 ⟨"PromiseFlowsModel", "addDemand", "(IIJI)V"⟩ ∈ pf_tb := mem_tb (i := 843) (by decide +kernel) (by decide +kernel)
theorem tw_845 : Cond.instanceMethod ⟨"PromiseFlowsModel", "addDemand", "(IIJI)V"⟩ ∈ pf_tb := mem_tb (i := 845) (by decide +kernel) (by decide +kernel)
theorem tw_846 : Cond.code ⟨"PromiseFlowsModel", "addDemand", "(IIJI)V"⟩ prog_7_method_8_code 6 (Option.none : Option Jvm.ClassFile.FieldType) ∈ pf_tb := mem_tb (i := 846) (by decide +kernel) (by decide +kernel)
theorem tw_847 : Cond.methodLink "PromiseFlowsModel" 97 ⟨"PromiseFlowsModel", "usable", "(II)I"⟩ ∈ pf_tb := mem_tb (i := 847) (by decide +kernel) (by decide +kernel)
theorem tw_849 : Cond.instanceMethod ⟨"PromiseFlowsModel", "usable", "(II)I"⟩ ∈ pf_tb := mem_tb (i := 849) (by decide +kernel) (by decide +kernel)
theorem tw_850 : Cond.code ⟨"PromiseFlowsModel", "usable", "(II)I"⟩ prog_7_method_7_code 6 (some FieldType.int) ∈ pf_tb := mem_tb (i := 850) (by decide +kernel) (by decide +kernel)
theorem tw_851 : Cond.methodLink "PromiseFlowsModel" 124 ⟨"PromiseFlowsModel", "canBeMet", "()Z"⟩ ∈ pf_tb := mem_tb (i := 851) (by decide +kernel) (by decide +kernel)
theorem tw_853 : Cond.instanceMethod ⟨"PromiseFlowsModel", "canBeMet", "()Z"⟩ ∈ pf_tb := mem_tb (i := 853) (by decide +kernel) (by decide +kernel)
theorem tw_854 : Cond.code ⟨"PromiseFlowsModel", "canBeMet", "()Z"⟩ prog_7_method_13_code 2 (some FieldType.boolean) ∈ pf_tb := mem_tb (i := 854) (by decide +kernel) (by decide +kernel)
theorem tw_855 : Cond.methodLink "PromiseFlowsModel" 120 ⟨"PromiseFlowsModel", "slack", "(I)J"⟩ ∈ pf_tb := mem_tb (i := 855) (by decide +kernel) (by decide +kernel)
theorem tw_857 : Cond.instanceMethod ⟨"PromiseFlowsModel", "slack", "(I)J"⟩ ∈ pf_tb := mem_tb (i := 857) (by decide +kernel) (by decide +kernel)
theorem tw_858 : Cond.code ⟨"PromiseFlowsModel", "slack", "(I)J"⟩ prog_7_method_12_code 5 (some FieldType.long) ∈ pf_tb := mem_tb (i := 858) (by decide +kernel) (by decide +kernel)
theorem tw_859 : Cond.methodLink "PromiseFlowsLaw" 82 ⟨"PromiseFlowsModel", "change", "(III)I"⟩ ∈ pf_tb := mem_tb (i := 859) (by decide +kernel) (by decide +kernel)
theorem tw_860 : Cond.instanceMethod ⟨"PromiseFlowsModel", "change", "(III)I"⟩ ∈ pf_tb := mem_tb (i := 860) (by decide +kernel) (by decide +kernel)
theorem tw_861 : Cond.selects "PromiseFlowsModel" ⟨"PromiseFlowsModel", "change", "(III)I"⟩ ⟨"PromiseFlowsModel", "change", "(III)I"⟩ ∈ pf_tb := mem_tb (i := 861) (by decide +kernel) (by decide +kernel)
theorem tw_862 : Cond.code ⟨"PromiseFlowsModel", "change", "(III)I"⟩ prog_7_method_17_code 4 (some FieldType.int) ∈ pf_tb := mem_tb (i := 862) (by decide +kernel) (by decide +kernel)
theorem tw_863 : Cond.methodLink "PromiseFlowsModel" 136 ⟨"PromiseFlowsModel", "isArrival", "(I)Z"⟩ ∈ pf_tb := mem_tb (i := 863) (by decide +kernel) (by decide +kernel)
theorem tw_865 : Cond.instanceMethod ⟨"PromiseFlowsModel", "isArrival", "(I)Z"⟩ ∈ pf_tb := mem_tb (i := 865) (by decide +kernel) (by decide +kernel)
theorem tw_866 : Cond.code ⟨"PromiseFlowsModel", "isArrival", "(I)Z"⟩ prog_7_method_15_code 2 (some FieldType.boolean) ∈ pf_tb := mem_tb (i := 866) (by decide +kernel) (by decide +kernel)
theorem tw_867 : Cond.methodLink "PromiseFlowsLaw" 86 ⟨"PromiseFlowsModel", "aside", "(II)I"⟩ ∈ pf_tb := mem_tb (i := 867) (by decide +kernel) (by decide +kernel)
theorem tw_868 : Cond.instanceMethod ⟨"PromiseFlowsModel", "aside", "(II)I"⟩ ∈ pf_tb := mem_tb (i := 868) (by decide +kernel) (by decide +kernel)
theorem tw_869 : Cond.selects "PromiseFlowsModel" ⟨"PromiseFlowsModel", "aside", "(II)I"⟩ ⟨"PromiseFlowsModel", "aside", "(II)I"⟩ ∈ pf_tb := mem_tb (i := 869) (by decide +kernel) (by decide +kernel)
theorem tw_870 : Cond.code ⟨"PromiseFlowsModel", "aside", "(II)I"⟩ prog_7_method_18_code 3 (some FieldType.int) ∈ pf_tb := mem_tb (i := 870) (by decide +kernel) (by decide +kernel)
theorem tw_871 : Cond.methodLink "PromiseFlowsLaw" 89 ⟨"PromiseFlowsModel", "life", "(II)I"⟩ ∈ pf_tb := mem_tb (i := 871) (by decide +kernel) (by decide +kernel)
theorem tw_872 : Cond.instanceMethod ⟨"PromiseFlowsModel", "life", "(II)I"⟩ ∈ pf_tb := mem_tb (i := 872) (by decide +kernel) (by decide +kernel)
theorem tw_873 : Cond.selects "PromiseFlowsModel" ⟨"PromiseFlowsModel", "life", "(II)I"⟩ ⟨"PromiseFlowsModel", "life", "(II)I"⟩ ∈ pf_tb := mem_tb (i := 873) (by decide +kernel) (by decide +kernel)
theorem tw_874 : Cond.code ⟨"PromiseFlowsModel", "life", "(II)I"⟩ prog_7_method_19_code 3 (some FieldType.int) ∈ pf_tb := mem_tb (i := 874) (by decide +kernel) (by decide +kernel)
theorem tw_875 : Cond.methodLink "PromiseFlowsLaw" 93 ⟨"PromiseFlowsModel", "standIn", "(IIZ)I"⟩ ∈ pf_tb := mem_tb (i := 875) (by decide +kernel) (by decide +kernel)
theorem tw_876 : Cond.instanceMethod ⟨"PromiseFlowsModel", "standIn", "(IIZ)I"⟩ ∈ pf_tb := mem_tb (i := 876) (by decide +kernel) (by decide +kernel)
theorem tw_877 : Cond.selects "PromiseFlowsModel" ⟨"PromiseFlowsModel", "standIn", "(IIZ)I"⟩ ⟨"PromiseFlowsModel", "standIn", "(IIZ)I"⟩ ∈ pf_tb := mem_tb (i := 877) (by decide +kernel) (by decide +kernel)
theorem tw_878 : Cond.code ⟨"PromiseFlowsModel", "standIn", "(IIZ)I"⟩ prog_7_method_20_code 4 (some FieldType.int) ∈ pf_tb := mem_tb (i := 878) (by decide +kernel) (by decide +kernel)
theorem tw_879 : Cond.methodLink "PromiseFlowsLaw" 96 ⟨"PromiseFlowsModel", "kit", "(III)I"⟩ ∈ pf_tb := mem_tb (i := 879) (by decide +kernel) (by decide +kernel)
theorem tw_880 : Cond.instanceMethod ⟨"PromiseFlowsModel", "kit", "(III)I"⟩ ∈ pf_tb := mem_tb (i := 880) (by decide +kernel) (by decide +kernel)
theorem tw_881 : Cond.selects "PromiseFlowsModel" ⟨"PromiseFlowsModel", "kit", "(III)I"⟩ ⟨"PromiseFlowsModel", "kit", "(III)I"⟩ ∈ pf_tb := mem_tb (i := 881) (by decide +kernel) (by decide +kernel)
theorem tw_882 : Cond.code ⟨"PromiseFlowsModel", "kit", "(III)I"⟩ prog_7_method_22_code 5 (some FieldType.int) ∈ pf_tb := mem_tb (i := 882) (by decide +kernel) (by decide +kernel)
theorem tw_883 : Cond.methodLink "PromiseFlowsModel" 139 ⟨"PromiseFlowsModel", "isPart", "(I)Z"⟩ ∈ pf_tb := mem_tb (i := 883) (by decide +kernel) (by decide +kernel)
theorem tw_885 : Cond.instanceMethod ⟨"PromiseFlowsModel", "isPart", "(I)Z"⟩ ∈ pf_tb := mem_tb (i := 885) (by decide +kernel) (by decide +kernel)
theorem tw_886 : Cond.code ⟨"PromiseFlowsModel", "isPart", "(I)Z"⟩ prog_7_method_6_code 5 (some FieldType.boolean) ∈ pf_tb := mem_tb (i := 886) (by decide +kernel) (by decide +kernel)
theorem tw_887 : Cond.methodLink "PromiseFlowsModel" 142 ⟨"PromiseFlowsModel", "isUsed", "(I)Z"⟩ ∈ pf_tb := mem_tb (i := 887) (by decide +kernel) (by decide +kernel)
theorem tw_889 : Cond.instanceMethod ⟨"PromiseFlowsModel", "isUsed", "(I)Z"⟩ ∈ pf_tb := mem_tb (i := 889) (by decide +kernel) (by decide +kernel)
theorem tw_890 : Cond.code ⟨"PromiseFlowsModel", "isUsed", "(I)Z"⟩ prog_7_method_21_code 4 (some FieldType.boolean) ∈ pf_tb := mem_tb (i := 890) (by decide +kernel) (by decide +kernel)
theorem tw_891 : Cond.methodLink "PromiseFlowsLaw" 100 ⟨"PromiseFlowsModel", "order", "(IIII)I"⟩ ∈ pf_tb := mem_tb (i := 891) (by decide +kernel) (by decide +kernel)
theorem tw_892 : Cond.instanceMethod ⟨"PromiseFlowsModel", "order", "(IIII)I"⟩ ∈ pf_tb := mem_tb (i := 892) (by decide +kernel) (by decide +kernel)
theorem tw_893 : Cond.selects "PromiseFlowsModel" ⟨"PromiseFlowsModel", "order", "(IIII)I"⟩ ⟨"PromiseFlowsModel", "order", "(IIII)I"⟩ ∈ pf_tb := mem_tb (i := 893) (by decide +kernel) (by decide +kernel)
theorem tw_894 : Cond.code ⟨"PromiseFlowsModel", "order", "(IIII)I"⟩ prog_7_method_24_code 5 (some FieldType.int) ∈ pf_tb := mem_tb (i := 894) (by decide +kernel) (by decide +kernel)
theorem tw_895 : Cond.methodLink "PromiseFlowsModel" 145 ⟨"PromiseFlowsModel", "collect", "()V"⟩ ∈ pf_tb := mem_tb (i := 895) (by decide +kernel) (by decide +kernel)
theorem tw_897 : Cond.instanceMethod ⟨"PromiseFlowsModel", "collect", "()V"⟩ ∈ pf_tb := mem_tb (i := 897) (by decide +kernel) (by decide +kernel)
theorem tw_898 : Cond.code ⟨"PromiseFlowsModel", "collect", "()V"⟩ prog_7_method_11_code 2 (Option.none : Option Jvm.ClassFile.FieldType) ∈ pf_tb := mem_tb (i := 898) (by decide +kernel) (by decide +kernel)
theorem tw_899 : Cond.methodLink "PromiseFlowsLaw" 104 ⟨"PromiseFlowsModel", "close", "(I)I"⟩ ∈ pf_tb := mem_tb (i := 899) (by decide +kernel) (by decide +kernel)
theorem tw_900 : Cond.instanceMethod ⟨"PromiseFlowsModel", "close", "(I)I"⟩ ∈ pf_tb := mem_tb (i := 900) (by decide +kernel) (by decide +kernel)
theorem tw_901 : Cond.selects "PromiseFlowsModel" ⟨"PromiseFlowsModel", "close", "(I)I"⟩ ⟨"PromiseFlowsModel", "close", "(I)I"⟩ ∈ pf_tb := mem_tb (i := 901) (by decide +kernel) (by decide +kernel)
theorem tw_902 : Cond.code ⟨"PromiseFlowsModel", "close", "(I)I"⟩ prog_7_method_25_code 2 (some FieldType.int) ∈ pf_tb := mem_tb (i := 902) (by decide +kernel) (by decide +kernel)
theorem tw_903 : Cond.methodLink "PromiseFlowsModel" 148 ⟨"PromiseFlowsModel", "isOrder", "(I)Z"⟩ ∈ pf_tb := mem_tb (i := 903) (by decide +kernel) (by decide +kernel)
theorem tw_905 : Cond.instanceMethod ⟨"PromiseFlowsModel", "isOrder", "(I)Z"⟩ ∈ pf_tb := mem_tb (i := 905) (by decide +kernel) (by decide +kernel)
theorem tw_906 : Cond.code ⟨"PromiseFlowsModel", "isOrder", "(I)Z"⟩ prog_7_method_23_code 2 (some FieldType.boolean) ∈ pf_tb := mem_tb (i := 906) (by decide +kernel) (by decide +kernel)
theorem tw_907 : Cond.methodLink "PromiseFlowsLaw" 107 ⟨"PromiseFlowsModel", "promise", "(II)I"⟩ ∈ pf_tb := mem_tb (i := 907) (by decide +kernel) (by decide +kernel)
theorem tw_908 : Cond.instanceMethod ⟨"PromiseFlowsModel", "promise", "(II)I"⟩ ∈ pf_tb := mem_tb (i := 908) (by decide +kernel) (by decide +kernel)
theorem tw_909 : Cond.selects "PromiseFlowsModel" ⟨"PromiseFlowsModel", "promise", "(II)I"⟩ ⟨"PromiseFlowsModel", "promise", "(II)I"⟩ ∈ pf_tb := mem_tb (i := 909) (by decide +kernel) (by decide +kernel)
theorem tw_910 : Cond.code ⟨"PromiseFlowsModel", "promise", "(II)I"⟩ prog_7_method_27_code 3 (some FieldType.int) ∈ pf_tb := mem_tb (i := 910) (by decide +kernel) (by decide +kernel)
theorem tw_911 : Cond.methodLink "PromiseFlowsModel" 153 ⟨"PromiseFlowsModel", "greatest", "(II)I"⟩ ∈ pf_tb := mem_tb (i := 911) (by decide +kernel) (by decide +kernel)
theorem tw_913 : Cond.instanceMethod ⟨"PromiseFlowsModel", "greatest", "(II)I"⟩ ∈ pf_tb := mem_tb (i := 913) (by decide +kernel) (by decide +kernel)
theorem tw_914 : Cond.code ⟨"PromiseFlowsModel", "greatest", "(II)I"⟩ prog_7_method_26_code 10 (some FieldType.int) ∈ pf_tb := mem_tb (i := 914) (by decide +kernel) (by decide +kernel)
theorem tw_915 : Cond.constantLong "PromiseFlowsModel" 151 4611686018427387904 ∈ pf_tb := mem_tb (i := 915) (by decide +kernel) (by decide +kernel)
theorem tw_916 : Cond.methodLink "PromiseFlowsLaw" 110 ⟨"PromiseFlowsModel", "share", "(II)I"⟩ ∈ pf_tb := mem_tb (i := 916) (by decide +kernel) (by decide +kernel)
theorem tw_917 : Cond.instanceMethod ⟨"PromiseFlowsModel", "share", "(II)I"⟩ ∈ pf_tb := mem_tb (i := 917) (by decide +kernel) (by decide +kernel)
theorem tw_918 : Cond.selects "PromiseFlowsModel" ⟨"PromiseFlowsModel", "share", "(II)I"⟩ ⟨"PromiseFlowsModel", "share", "(II)I"⟩ ∈ pf_tb := mem_tb (i := 918) (by decide +kernel) (by decide +kernel)
theorem tw_919 : Cond.code ⟨"PromiseFlowsModel", "share", "(II)I"⟩ prog_7_method_28_code 7 (some FieldType.int) ∈ pf_tb := mem_tb (i := 919) (by decide +kernel) (by decide +kernel)
theorem tw_920 : Cond.constantLong "PromiseFlowsModel" 156 1000 ∈ pf_tb := mem_tb (i := 920) (by decide +kernel) (by decide +kernel)
theorem tw_921 : Cond.methodLink "PromiseFlowsLaw" 113 ⟨"PromiseFlowsModel", "bars", "(III)I"⟩ ∈ pf_tb := mem_tb (i := 921) (by decide +kernel) (by decide +kernel)
theorem tw_922 : Cond.instanceMethod ⟨"PromiseFlowsModel", "bars", "(III)I"⟩ ∈ pf_tb := mem_tb (i := 922) (by decide +kernel) (by decide +kernel)
theorem tw_923 : Cond.selects "PromiseFlowsModel" ⟨"PromiseFlowsModel", "bars", "(III)I"⟩ ⟨"PromiseFlowsModel", "bars", "(III)I"⟩ ∈ pf_tb := mem_tb (i := 923) (by decide +kernel) (by decide +kernel)
theorem tw_924 : Cond.code ⟨"PromiseFlowsModel", "bars", "(III)I"⟩ prog_7_method_32_code 8 (some FieldType.int) ∈ pf_tb := mem_tb (i := 924) (by decide +kernel) (by decide +kernel)
theorem tw_925 : Cond.methodLink "PromiseFlowsModel" 168 ⟨"PromiseFlowsModel", "plan", "()V"⟩ ∈ pf_tb := mem_tb (i := 925) (by decide +kernel) (by decide +kernel)
theorem tw_927 : Cond.instanceMethod ⟨"PromiseFlowsModel", "plan", "()V"⟩ ∈ pf_tb := mem_tb (i := 927) (by decide +kernel) (by decide +kernel)
theorem tw_928 : Cond.code ⟨"PromiseFlowsModel", "plan", "()V"⟩ prog_7_method_31_code 5 (Option.none : Option Jvm.ClassFile.FieldType) ∈ pf_tb := mem_tb (i := 928) (by decide +kernel) (by decide +kernel)
theorem tw_929 : Cond.methodLink "PromiseFlowsModel" 161 ⟨"PromiseFlowsModel", "nextArrival", "(II)I"⟩ ∈ pf_tb := mem_tb (i := 929) (by decide +kernel) (by decide +kernel)
theorem tw_931 : Cond.instanceMethod ⟨"PromiseFlowsModel", "nextArrival", "(II)I"⟩ ∈ pf_tb := mem_tb (i := 931) (by decide +kernel) (by decide +kernel)
theorem tw_932 : Cond.code ⟨"PromiseFlowsModel", "nextArrival", "(II)I"⟩ prog_7_method_29_code 6 (some FieldType.int) ∈ pf_tb := mem_tb (i := 932) (by decide +kernel) (by decide +kernel)
theorem tw_933 : Cond.methodLink "PromiseFlowsModel" 164 ⟨"PromiseFlowsModel", "atMost", "(II)J"⟩ ∈ pf_tb := mem_tb (i := 933) (by decide +kernel) (by decide +kernel)
theorem tw_935 : Cond.instanceMethod ⟨"PromiseFlowsModel", "atMost", "(II)J"⟩ ∈ pf_tb := mem_tb (i := 935) (by decide +kernel) (by decide +kernel)
theorem tw_936 : Cond.code ⟨"PromiseFlowsModel", "atMost", "(II)J"⟩ prog_7_method_30_code 8 (some FieldType.long) ∈ pf_tb := mem_tb (i := 936) (by decide +kernel) (by decide +kernel)
theorem tw_937 : Cond.methodLink "PromiseFlowsLaw" 116 ⟨"PromiseFlowsModel", "flow", "(III)I"⟩ ∈ pf_tb := mem_tb (i := 937) (by decide +kernel) (by decide +kernel)
theorem tw_938 : Cond.instanceMethod ⟨"PromiseFlowsModel", "flow", "(III)I"⟩ ∈ pf_tb := mem_tb (i := 938) (by decide +kernel) (by decide +kernel)
theorem tw_939 : Cond.selects "PromiseFlowsModel" ⟨"PromiseFlowsModel", "flow", "(III)I"⟩ ⟨"PromiseFlowsModel", "flow", "(III)I"⟩ ∈ pf_tb := mem_tb (i := 939) (by decide +kernel) (by decide +kernel)
theorem tw_940 : Cond.code ⟨"PromiseFlowsModel", "flow", "(III)I"⟩ prog_7_method_33_code 6 (some FieldType.int) ∈ pf_tb := mem_tb (i := 940) (by decide +kernel) (by decide +kernel)
theorem tw_941 : Cond.methodLink "PromiseFlowsLaw" 119 ⟨"PromiseFlowsModel", "state", "(I)I"⟩ ∈ pf_tb := mem_tb (i := 941) (by decide +kernel) (by decide +kernel)
theorem tw_942 : Cond.instanceMethod ⟨"PromiseFlowsModel", "state", "(I)I"⟩ ∈ pf_tb := mem_tb (i := 942) (by decide +kernel) (by decide +kernel)
theorem tw_943 : Cond.selects "PromiseFlowsModel" ⟨"PromiseFlowsModel", "state", "(I)I"⟩ ⟨"PromiseFlowsModel", "state", "(I)I"⟩ ∈ pf_tb := mem_tb (i := 943) (by decide +kernel) (by decide +kernel)
theorem tw_944 : Cond.code ⟨"PromiseFlowsModel", "state", "(I)I"⟩ prog_7_method_34_code 2 (some FieldType.int) ∈ pf_tb := mem_tb (i := 944) (by decide +kernel) (by decide +kernel)
theorem tw_945 : Cond.methodLink "PromiseFlowsLaw" 122 ⟨"PromiseFlowsModel", "left", "(I)I"⟩ ∈ pf_tb := mem_tb (i := 945) (by decide +kernel) (by decide +kernel)
theorem tw_946 : Cond.instanceMethod ⟨"PromiseFlowsModel", "left", "(I)I"⟩ ∈ pf_tb := mem_tb (i := 946) (by decide +kernel) (by decide +kernel)
theorem tw_947 : Cond.selects "PromiseFlowsModel" ⟨"PromiseFlowsModel", "left", "(I)I"⟩ ⟨"PromiseFlowsModel", "left", "(I)I"⟩ ∈ pf_tb := mem_tb (i := 947) (by decide +kernel) (by decide +kernel)
theorem tw_948 : Cond.code ⟨"PromiseFlowsModel", "left", "(I)I"⟩ prog_7_method_35_code 2 (some FieldType.int) ∈ pf_tb := mem_tb (i := 948) (by decide +kernel) (by decide +kernel)
theorem tw_949 : Cond.methodLink "PromiseFlowsLaw" 126 ⟨"PromiseFlowsModel", "count", "(I)I"⟩ ∈ pf_tb := mem_tb (i := 949) (by decide +kernel) (by decide +kernel)
theorem tw_950 : Cond.instanceMethod ⟨"PromiseFlowsModel", "count", "(I)I"⟩ ∈ pf_tb := mem_tb (i := 950) (by decide +kernel) (by decide +kernel)
theorem tw_951 : Cond.selects "PromiseFlowsModel" ⟨"PromiseFlowsModel", "count", "(I)I"⟩ ⟨"PromiseFlowsModel", "count", "(I)I"⟩ ∈ pf_tb := mem_tb (i := 951) (by decide +kernel) (by decide +kernel)
theorem tw_952 : Cond.code ⟨"PromiseFlowsModel", "count", "(I)I"⟩ prog_7_method_36_code 5 (some FieldType.int) ∈ pf_tb := mem_tb (i := 952) (by decide +kernel) (by decide +kernel)
end
