section
/-! ===== BEGIN words of one list among another's, by their places ===== -/
theorem goodIn_r {big : List Cond} (ws : List Cond) (ps : List Nat) (hp : ws = ps.filterMap (fun i => big[i]?)) (h : ws.all goodWord = true) : GoodIn big ws := by
  intro w hw
  have h1 := List.all_eq_true.mp h w hw
  rw [hp] at hw
  obtain ⟨i, -, hi⟩ := List.mem_filterMap.mp hw
  have hm : w ∈ big := by first | exact List.mem_of_getElem? hi | exact List.getElem?_mem hi
  exact ⟨hm, good_of_word h1⟩
theorem goodIn_app {big a b : List Cond} (ha : GoodIn big a) (hb : GoodIn big b) : GoodIn big (a ++ b) := fun w h => (List.mem_append.mp h).elim (ha w) (hb w)
theorem goodIn_ca {big a b : List Cond} {c : Cond} (ha : GoodIn big (c :: a)) (hb : GoodIn big b) : GoodIn big (c :: (a ++ b)) := fun w h => (List.mem_cons.mp h).elim (fun e => ha w (List.mem_cons.mpr (Or.inl e))) (fun h => (List.mem_append.mp h).elim (fun h => ha w (List.mem_cons.mpr (Or.inr h))) (hb w))
theorem goodIn_sub {big ws : List Cond} (hm : ∀ w ∈ ws, w ∈ big) (h : ws.all goodWord = true) : GoodIn big ws := fun w hw => ⟨hm w hw, good_of_word (List.all_eq_true.mp h w hw)⟩
/-! ===== END ===== -/

/-! ===== BEGIN exceptions that leave a method, and their catching by the caller (launches without stack traces) ===== -/
section VXA
/-! The laws vx_back, vx_callV, vx_callS, vx_callSW, vx_throw0, vx_throwS follow proofs of the library, with one case more: JvmDerived/Free/Laws.lean (Back.of_free), Shelf42/LK1.lean (callV, callS), Shelf/KitTraced.lean (throwNew0V, throwNewS). -/
/-- where a method has thrown q: the class by its name, the cell, what was written, the world -/
def vx_T (XC : String → State → State → Prop) (st : State) (q : Addr) (t : State) (mc ms : Nat) (free : Addr → Prop) : Prop :=
  ∃ (E : String) (ce : Cell) (L : List Loc), XC E st t ∧ t.heap[q]? = some ce ∧ ce.vm = .none ∧ st.vm.findClass E = some ce.cls ∧ st.WarmedH t.vm ∧ st.sameButNew ({ t with vm := st.vm } : State) L mc ms ∧ ∀ z ∈ L, free z.base
def vx_Q (Qc : Array Value → State → Outcome → State → Prop) (XC : String → State → State → Prop) (mc ms : Nat) (free : Addr → Prop) : Array Value → State → Outcome → State → Prop := fun a st o t =>
  (Qc a st o t ∧ ∃ L, FrameEnd st o t L mc ms ∧ ∀ q ∈ L, free q.base) ∨ ∃ q, o = .threw q ∧ vx_T XC st q t mc ms free
/-- a callee that returns or throws -/
def vx_Met (l : Launch) (y : MethodName) (ws : List Cond) (rm : Room) (Pc : Array Value → State → Prop) (Qc : Array Value → State → Outcome → State → Prop) (XC : String → State → State → Prop) (mc ms : Nat) (free : Addr → Prop) : Prop :=
  MetFree l y (headSpec ws rm) Pc (fun _ _ _ _ _ => True) (vx_Q Qc XC mc ms free)
def vx_Post (XC : String → State → State → Prop) (mc ms : Nat) (free : Addr → Prop) : Pt → Array Value → Addr → Pt → Prop := fun A a q B =>
  ∃ (g : JFrame) (mk : MethodId) (t : State) (L : List Loc) (E : String) (ce : Cell), B.U.heap = t.heap ∧ B.U.vm = t.vm ∧ XC E (A.U.calling g mk a) t ∧ t.heap[q]? = some ce ∧ ce.vm = .none ∧ A.U.vm.findClass E = some ce.cls ∧ B.locs = A.locs ++ L ∧ (∀ z ∈ L, free z.base) ∧ B.cells = A.cells + mc ∧ B.slots = A.slots + ms
def vx_Back (l : Launch) (R : Room) (p : Program) (e : Env) (below : List Frame) (s : State) (sargs : Array Value) (y : MethodName) (len W9 : Nat)
    (Pre : Pt → Array Value → Prop) (Post : Pt → Array Value → Option Value → Pt → Prop) (PostX : Pt → Array Value → Addr → Pt → Prop) : Prop :=
  ∀ (m : MethodId) (meth : Method) (c : Code) (A : Pt) (g : JFrame) (ig : Instr) (mk : MethodId) (a : Array Value),
    Stand p l e R s m sargs below meth c A.U A.locs A.cells A.slots → g.method = m → g.locals.size = c.maxLocals → decode c.code g.pc = .ok (ig, len) →
    2 * g.monitorRoom + (g.stack.map fun v => v.category).sum ≤ W9 → A.U.methodNamed? y = some mk → Pre A a →
    (∃ (v : Option Value) (B : Pt), Stand p l e R s m sargs below meth c B.U B.locs B.cells B.slots ∧ Post A a v B ∧
      Steps p.tables e below (doInvoke e (A.U.setTop g) [] mk a).1 (B.U.setTop { g with pc := g.pc + len, stack := v.toList ++ g.stack })) ∨
    (∃ (q : Addr) (B : Pt), Stand p l e R s m sargs below meth c B.U B.locs B.cells B.slots ∧ PostX A a q B ∧
      Steps p.tables e below (doInvoke e (A.U.setTop g) [] mk a).1 ((B.U.setTop g).pushFrame (.throwing q)))
section Payer
variable {l : Launch} {R : Room} {p : Program} {e : Env} {below : List Frame} {s : State} {sargs : Array Value} {y : MethodName} {len W9 : Nat}
theorem vx_back {ws : List Cond} {rm : Room} {Pc : Array Value → State → Prop} {Qc : Array Value → State → Outcome → State → Prop} {XC : String → State → State → Prop} {mc ms : Nat} {free : Addr → Prop} {bytes : ByteArray} {maxL : Nat} {ret : Option FieldType}
    (hM : vx_Met l y ws rm Pc Qc XC mc ms free) (hblind : FrameBlind Pc) (hrc : rm.cells = mc) (hrs : rm.slots = ms)
    (hframes : rm.frames + 1 ≤ R.frames) (hlocals : W9 + (maxL + 11) + rm.locals ≤ R.locals)
    (hws : ∀ w ∈ ws, ∀ a' U, s.WarmedH U.vm → w.before a' U = true) (hcode : Cond.code y bytes maxL ret ∈ ws) (hinit : ∀ a' U, s.WarmedH U.vm → (Cond.initialized y.cls).before a' U = true) :
    vx_Back l R p e below s sargs y len W9 (PreOf R mc ms Pc) (PostOf Qc mc ms free) (vx_Post XC mc ms free) := by
  intro m meth c A g ig mk a X hg hsize hdg hW hn hp
  have h1 : (headSpec ws rm).pre.before a A.U = true := atoms_intro fun w hw => hws w hw _ _ X.warmed
  have h2 : (Cond.code y bytes maxL ret).before a A.U = true := hws _ hcode _ _ X.warmed
  have h3 : (Cond.initialized y.cls).before a A.U = true := hinit _ _ X.warmed
  have h4 : A.cells + (headSpec ws rm).room.cells ≤ R.cells := by rw [show (headSpec ws rm).room.cells = mc from hrc]; exact hp.1
  have h5 : A.slots + (headSpec ws rm).room.slots ≤ R.slots := by rw [show (headSpec ws rm).room.slots = ms from hrs]; exact hp.2.1
  have hPc : Pc a (A.U.calling g mk a) := hblind _ _ _ _ hp.2.2
  obtain ⟨U, Ls, c0, s0⟩ := A
  dsimp only [Pt.U, Pt.locs, Pt.cells, Pt.slots] at h1 h2 h3 h4 h5 X hn hPc ⊢
  obtain ⟨methY, cY, hmY, hcY, -, hlY, -, -, -, -⟩ := Cond.code_spec hn h2
  obtain ⟨kY, hkY, -⟩ := className_of_methodNamed hn
  have hinitY : kY.init = .initialized := Cond.initialized_spec (findClass_of_methodNamed hn) hkY h3
  have h : At U g.method c below := by rw [hg]; exact X.here
  have hlocals9 : W9 + (maxL + 11) + (headSpec ws rm).room.locals ≤ R.locals := hlocals
  have happ : (headSpec ws rm).appliesLoose y e.platform (U.calling g mk a) = true :=
    Spec.appliesLoose_calling (g := g) h hdg hn hkY hinitY
      (X.room_calling (g := g) (R' := (headSpec ws rm).room) hsize hmY hcY hframes (by rw [hlY]; omega) h4 h5) h1
  obtain ⟨mid, hmid⟩ := h.above
  have hfr : (U.setTop g).frames = (.java g :: mid) ++ below := by rw [State.frames_setTop' g h.top, hmid]; rfl
  obtain ⟨o, s₂, hsteps, -, hend, hq⟩ := Steps.callFree hM p X.admits X.cas X.clock (acts := []) hfr happ hPc trivial
  have hq' : vx_Q Qc XC mc ms free a (U.calling g mk a) o s₂ := hq
  rw [State.frames_setTop' g h.top] at hend
  obtain ⟨g₀, hg0⟩ := Option.isSome_iff_exists.mp h.top
  obtain ⟨r, hr⟩ := State.topJava?_eq_some.mp hg0
  have hr' : (({ U with heap := s₂.heap, slotsUsed := s₂.slotsUsed } : State).setVm s₂.vm).frames = .java g₀ :: r := hr
  rcases hq' with ⟨hqc, L, hfe, hL⟩ | ⟨q, rfl, E, ce, L, hx, hce, hcv, hcl, hW₂, hsm, hL⟩
  · obtain ⟨⟨v, rfl⟩, hW₂, e2, q2, q3, q4, q5, q6⟩ := id hfe
    have e3 : s₂ = ({ (U.calling g mk a).setFrames s₂.frames with heap := s₂.heap, slotsUsed := s₂.slotsUsed } : State).setVm s₂.vm := by
      have : s₂ = ({ s₂ with vm := (U.calling g mk a).vm } : State).setVm s₂.vm := rfl
      rw [e2] at this
      exact this
    obtain ⟨c₂, i₂, len₂, hc₂, hd₂, hf₂⟩ := hend
    have hW' : U.WarmedH s₂.vm := hW₂
    have hcc : c₂ = c := by
      have h1 : s₂.code? g.method = U.code? g.method := by
        rw [State.code?_eq, State.code?_eq, hW'.alike.method?]
      exact Option.some.inj (hc₂.symm.trans (h1.trans h.code))
    subst hcc
    have hlen : len₂ = len := by rw [hdg] at hd₂; cases hd₂; rfl
    subst hlen
    have hs₂ : s₂ = (({ U with heap := s₂.heap, slotsUsed := s₂.slotsUsed } : State).setVm s₂.vm).setTop { g with pc := g.pc + len₂, stack := v.toList ++ g.stack } := by
      refine e3.trans ?_
      rw [hf₂, State.calling_eq h.top, State.setFrames_setFrames, State.setTop_of_frames _ hr', hr]
      rfl
    have hsame : U.sameButNew ({ U with heap := s₂.heap, slotsUsed := s₂.slotsUsed } : State) L mc ms := by
      refine ⟨?_, q2, q3, q4, q5, q6⟩
      obtain ⟨t, ht, -⟩ := State.frames_cons hr
      show ({ U with heap := s₂.heap, slotsUsed := s₂.slotsUsed } : State) = { U.setFrames U.frames with heap := s₂.heap, slotsUsed := s₂.slotsUsed }
      rw [State.setFrames_self ht]
    subst hg
    refine Or.inl ⟨v, ⟨(({ U with heap := s₂.heap, slotsUsed := s₂.slotsUsed } : State).setVm s₂.vm), Ls ++ L, c0 + mc, s0 + ms⟩,
      ⟨X.admits, X.cas, X.clock, X.frames, X.room, X.hears, X.method, X.code, (X.here.setHeapUsed s₂.heap s₂.slotsUsed).setVm hW'.alike, X.tail, State.WarmedH.trans X.warmed hW', X.limits, X.bytes, X.same.trans (hsame.setVm s.vm)⟩,
      ⟨g, mk, s₂, L, rfl, rfl, hqc, rfl, hL, rfl, rfl⟩, ?_⟩
    show Steps p.tables e below _ ((({ U with heap := s₂.heap, slotsUsed := s₂.slotsUsed } : State).setVm s₂.vm).setTop { g with pc := g.pc + len₂, stack := v.toList ++ g.stack })
    rw [← hs₂]
    exact hsteps
  · obtain ⟨e2, q2, q3, q4, q5, q6⟩ := id hsm
    have e3 : s₂ = ({ (U.calling g mk a).setFrames s₂.frames with heap := s₂.heap, slotsUsed := s₂.slotsUsed } : State).setVm s₂.vm := by
      have : s₂ = ({ s₂ with vm := (U.calling g mk a).vm } : State).setVm s₂.vm := rfl
      rw [e2] at this
      exact this
    have hf₂ : s₂.frames = .throwing q :: .java g :: U.frames.tail := hend
    have hW' : U.WarmedH s₂.vm := hW₂
    have hs₂ : s₂ = ((({ U with heap := s₂.heap, slotsUsed := s₂.slotsUsed } : State).setVm s₂.vm).setTop g).pushFrame (.throwing q) := by
      refine e3.trans ?_
      rw [hf₂, State.calling_eq h.top, State.setFrames_setFrames, State.pushFrame, State.frames_setTop _ hr', State.setTop_of_frames _ hr', State.setFrames_setFrames, hr]
      rfl
    have hsame : U.sameButNew ({ U with heap := s₂.heap, slotsUsed := s₂.slotsUsed } : State) L mc ms := by
      refine ⟨?_, q2, q3, q4, q5, q6⟩
      obtain ⟨t, ht, -⟩ := State.frames_cons hr
      show ({ U with heap := s₂.heap, slotsUsed := s₂.slotsUsed } : State) = { U.setFrames U.frames with heap := s₂.heap, slotsUsed := s₂.slotsUsed }
      rw [State.setFrames_self ht]
    subst hg
    refine Or.inr ⟨q, ⟨(({ U with heap := s₂.heap, slotsUsed := s₂.slotsUsed } : State).setVm s₂.vm), Ls ++ L, c0 + mc, s0 + ms⟩,
      ⟨X.admits, X.cas, X.clock, X.frames, X.room, X.hears, X.method, X.code, (X.here.setHeapUsed s₂.heap s₂.slotsUsed).setVm hW'.alike, X.tail, State.WarmedH.trans X.warmed hW', X.limits, X.bytes, X.same.trans (hsame.setVm s.vm)⟩,
      ⟨g, mk, s₂, L, E, ce, rfl, rfl, hx, hce, hcv, hcl, rfl, hL, rfl, rfl⟩, ?_⟩
    show Steps p.tables e below _ (((({ U with heap := s₂.heap, slotsUsed := s₂.slotsUsed } : State).setVm s₂.vm).setTop g).pushFrame (.throwing q))
    rw [← hs₂]
    exact hsteps
end Payer
section Calls
variable {p : Program} {l : Launch} {e : Env} {R : Room} {s : State} {m : MethodId} {args : Array Value} {below : List Frame} {meth : Method} {c : Code} {T : State} {locs : List Loc} {cells slots : Nat}
theorem vx_callV (X : Stand p l e R s m args below meth c T locs cells slots) (hexec : p.tables.exec = Jvm.exec) {own C : String} {index : Nat} {y : MethodName} {bytes : ByteArray} {maxL : Nat} {ret : Option FieldType}
    (hown : s.vm.findClass own = some m.cls) (hlink : (Cond.methodLink own index y).before args s = true) (hinst : (Cond.instanceMethod y).before args s = true) (hsel : (Cond.selects C y y).before args s = true)
    (hcode : (Cond.code y bytes maxL ret).before args s = true) (hy : y.cls ≠ "java/lang/invoke/MethodHandle" ∧ y.cls ≠ "java/lang/invoke/VarHandle")
    {W9 : Nat} {Pre : Pt → Array Value → Prop} {Post : Pt → Array Value → Option Value → Pt → Prop} {PostX : Pt → Array Value → Addr → Pt → Prop} (hK : vx_Back l R p e below s args y 3 W9 Pre Post PostX)
    {b : Addr} {cellB : Cell} (hcell : T.heap[b]? = some cellB) (hobj : cellB.vm.isStatics = false) (hcls : s.vm.findClass C = some cellB.cls)
    {g : JFrame} (hg : g.method = m) (hsize : g.locals.size = c.maxLocals) {argsL rest : List Value} (hlen : ∀ sig, parseMethodDescriptor y.desc = some sig → argsL.length = sig.parameters.length)
    (hstack : g.stack = argsL.reverse ++ .ref b :: rest) (hW : 2 * g.monitorRoom + (rest.map fun v => v.category).sum ≤ W9) (hdg : decode c.code g.pc = .ok (.invokevirtual index, 3))
    (hpre : ∀ vm₁, s.WarmedH vm₁ → Pre ⟨T.setVm vm₁, locs, cells, slots⟩ (Value.ref b :: argsL).toArray) :
    (∃ (v : Option Value) (vm₁ : Vm) (B : Pt), s.WarmedH vm₁ ∧ Stand p l e R s m args below meth c B.U B.locs B.cells B.slots ∧ Post ⟨T.setVm vm₁, locs, cells, slots⟩ (Value.ref b :: argsL).toArray v B ∧
      ∀ target, Steps p.tables e below (B.U.setTop { g with pc := g.pc + 3, stack := v.toList ++ rest }) target → Steps p.tables e below (T.setTop g) target) ∨
    (∃ (q : Addr) (vm₁ : Vm) (B : Pt), s.WarmedH vm₁ ∧ Stand p l e R s m args below meth c B.U B.locs B.cells B.slots ∧ PostX ⟨T.setVm vm₁, locs, cells, slots⟩ (Value.ref b :: argsL).toArray q B ∧
      Steps p.tables e below (T.setTop g) ((B.U.setTop { g with stack := rest }).pushFrame (.throwing q))) := by
  obtain ⟨mk, methM, hnamed, hmethM, hstM, habM⟩ := Cond.instanceMethod_spec hinst
  obtain ⟨methM', cM, hmethM', -, -, -, -, -, -, hsigM⟩ := Cond.code_spec hnamed hcode
  cases hmethM.symm.trans hmethM'
  obtain ⟨c2, r2, m2, q1, q2, q3, q4, kP, hkP, hkPi⟩ := Cond.selects_spec hsel
  cases hcls.symm.trans q1
  cases (State.methodFound?_of_named hnamed hy).symm.trans q2
  cases hnamed.symm.trans q3
  have hselP : selectMethod e.platform s.vm cellB.cls mk = .method mk := by rw [Launch.admits_selectMethod X.admits]; exact q4
  obtain ⟨vm₁, X₁, hstep₁⟩ := X.invokevirtual hexec hown hlink hnamed hmethM hstM hkP hkPi hy (a := b) (cell := cellB) hcell
    (fun z h => by rw [h] at hobj; cases hobj) hselP hmethM habM hkP hkPi (g := g) hg (argsL := argsL) (rest := rest) (hlen _ hsigM) hstack hdg
  rcases hK m meth c ⟨T.setVm vm₁, locs, cells, slots⟩ { g with stack := rest } (.invokevirtual index) mk (Value.ref b :: argsL).toArray X₁ hg hsize hdg hW (X₁.named hnamed) (hpre vm₁ X₁.warmed) with ⟨v, B, X', hpost, hsteps⟩ | ⟨q, B, X', hpost, hsteps⟩
  · exact Or.inl ⟨v, vm₁, B, X₁.warmed, X', hpost, fun target h => hstep₁ _ fun acts => by rw [doInvoke_state]; exact hsteps.trans h⟩
  · exact Or.inr ⟨q, vm₁, B, X₁.warmed, X', hpost, hstep₁ _ fun acts => by rw [doInvoke_state]; exact hsteps⟩
theorem vx_callS (X : Stand p l e R s m args below meth c T locs cells slots) (hexec : p.tables.exec = Jvm.exec) {own : String} {index : Nat} {y : MethodName} {bytes : ByteArray} {maxL : Nat} {ret : Option FieldType}
    (hown : s.vm.findClass own = some m.cls) (hlink : (Cond.methodLink own index y).before args s = true) (hstat : (Cond.static y).before args s = true) (hinit : (Cond.initialized y.cls).before args s = true)
    (hcode : (Cond.code y bytes maxL ret).before args s = true) (hy : y.cls ≠ "java/lang/invoke/MethodHandle" ∧ y.cls ≠ "java/lang/invoke/VarHandle")
    {W9 : Nat} {Pre : Pt → Array Value → Prop} {Post : Pt → Array Value → Option Value → Pt → Prop} {PostX : Pt → Array Value → Addr → Pt → Prop} (hK : vx_Back l R p e below s args y 3 W9 Pre Post PostX)
    {g : JFrame} (hg : g.method = m) (hsize : g.locals.size = c.maxLocals) {argsL rest : List Value} (hlen : ∀ sig, parseMethodDescriptor y.desc = some sig → argsL.length = sig.parameters.length)
    (hstack : g.stack = argsL.reverse ++ rest) (hW : 2 * g.monitorRoom + (rest.map fun v => v.category).sum ≤ W9) (hdg : decode c.code g.pc = .ok (.invokestatic index, 3))
    (hpre : ∀ vm₁, s.WarmedH vm₁ → Pre ⟨T.setVm vm₁, locs, cells, slots⟩ argsL.toArray) :
    (∃ (v : Option Value) (vm₁ : Vm) (B : Pt), s.WarmedH vm₁ ∧ Stand p l e R s m args below meth c B.U B.locs B.cells B.slots ∧ Post ⟨T.setVm vm₁, locs, cells, slots⟩ argsL.toArray v B ∧
      ∀ target, Steps p.tables e below (B.U.setTop { g with pc := g.pc + 3, stack := v.toList ++ rest }) target → Steps p.tables e below (T.setTop g) target) ∨
    (∃ (q : Addr) (vm₁ : Vm) (B : Pt), s.WarmedH vm₁ ∧ Stand p l e R s m args below meth c B.U B.locs B.cells B.slots ∧ PostX ⟨T.setVm vm₁, locs, cells, slots⟩ argsL.toArray q B ∧
      Steps p.tables e below (T.setTop g) ((B.U.setTop { g with stack := rest }).pushFrame (.throwing q))) := by
  obtain ⟨mk, hnamed⟩ := Cond.code_named hcode
  obtain ⟨methM, cM, hmethM, -, -, -, -, -, -, hsigM⟩ := Cond.code_spec hnamed hcode
  have hstatic : methM.isStatic = true := Cond.static_spec hnamed hmethM hstat
  obtain ⟨kP, hkP, -⟩ := className_of_methodNamed hnamed
  have hinitP : kP.init = .initialized := Cond.initialized_spec (findClass_of_methodNamed hnamed) hkP hinit
  obtain ⟨vm₁, X₁, hstep₁⟩ := X.invokestatic hexec hown hlink hnamed hmethM hstatic hkP hinitP hy (g := g) hg (argsL := argsL) (rest := rest) (hlen _ hsigM) hstack hdg
  rcases hK m meth c ⟨T.setVm vm₁, locs, cells, slots⟩ { g with stack := rest } (.invokestatic index) mk argsL.toArray X₁ hg hsize hdg hW (X₁.named hnamed) (hpre vm₁ X₁.warmed) with ⟨v, B, X', hpost, hsteps⟩ | ⟨q, B, X', hpost, hsteps⟩
  · exact Or.inl ⟨v, vm₁, B, X₁.warmed, X', hpost, fun target h => hstep₁ _ fun acts => by rw [doInvoke_state]; exact hsteps.trans h⟩
  · exact Or.inr ⟨q, vm₁, B, X₁.warmed, X', hpost, hstep₁ _ fun acts => by rw [doInvoke_state]; exact hsteps⟩
end Calls
theorem vx_cls {s : State} {T : State} {vm₁ : Vm} {E : String} {k : ClassId} (hW : s.WarmedH vm₁) (h : (T.setVm vm₁).vm.findClass E = some k) : s.vm.findClass E = some k := by
  have h1 : vm₁.findClass E = some k := h
  rw [hW.alike.findClass] at h1
  exact h1
/-- the method's frame g, with q thrown over it -/
def vx_W (p : Program) (l : Launch) (e : Env) (R : Room) (s : State) (m : MethodId) (args : Array Value) (below : List Frame) (meth : Method) (c : Code) (H : Heap) (locs : List Loc) (cells slots : Nat) (Q : State → Prop) (g : JFrame) (q : Addr) : Prop :=
  ∀ T : State, T.heap = H → Stand p l e R s m args below meth c T locs cells slots → ∃ t, Steps p.tables e below ((T.setTop g).pushFrame (.throwing q)) t ∧ Q t
def vx_Run (p : Program) (l : Launch) (e : Env) (R : Room) (s : State) (m : MethodId) (args : Array Value) (below : List Frame) (meth : Method) (c : Code) (H : Heap) (locs : List Loc) (cells slots mc ms : Nat) (g : JFrame) (rest : List Value) (Qa : State → Outcome → State → Prop) (XC : String → State → State → Prop) (free : Addr → Prop) : Prop :=
  ∀ T : State, T.heap = H → Stand p l e R s m args below meth c T locs cells slots →
    (∃ (v : Option Value) (st₀ t T' : State) (L : List Loc), st₀.heap = H ∧ Stand p l e R s m args below meth c T' (locs ++ L) (cells + mc) (slots + ms) ∧ (∀ q ∈ L, free q.base) ∧ T'.heap = t.heap ∧ T'.vm = t.vm ∧ Qa st₀ (.returned v) t ∧
      Goes p e below T g T' { g with pc := g.pc + 3, stack := v.toList ++ rest }) ∨
    (∃ (q : Addr) (st₀ t T' : State) (L : List Loc) (E : String) (ce : Cell), st₀.heap = H ∧ Stand p l e R s m args below meth c T' (locs ++ L) (cells + mc) (slots + ms) ∧ (∀ z ∈ L, free z.base) ∧ T'.heap = t.heap ∧ T'.vm = t.vm ∧ XC E st₀ t ∧ t.heap[q]? = some ce ∧ ce.vm = .none ∧ s.vm.findClass E = some ce.cls ∧
      Steps p.tables e below (T.setTop g) ((T'.setTop { g with stack := rest }).pushFrame (.throwing q)))
def vx_X {S : Type} (px : S → Prop) (B : String → S → State → Prop) (A : Nat → Prop) : String → State → State → Prop := fun E st t => ∃ u : S, px u ∧ B E u t ∧ va_F A st t
section Runs
variable {p : Program} {l : Launch} {e : Env} {R : Room} {s : State} {m : MethodId} {args : Array Value} {below : List Frame} {meth : Method} {c : Code} {H : Heap} {locs : List Loc} {cells slots : Nat}
variable {y : MethodName} {bytes cc : ByteArray} {maxL nL mc ms n index : Nat} {ret : Option FieldType} {ws : List Cond} {rm : Room} {Pc : Array Value → State → Prop} {Qc : Array Value → State → Outcome → State → Prop} {XC : String → State → State → Prop} {free : Addr → Prop} {Ts : List Cond} {own C : String} {b : Addr} {As rest : List Value} {g : JFrame}
theorem vx_callBack (cb : CallB R s args own index y bytes maxL ret ws rm mc ms n) (hM : vx_Met l y ws rm Pc Qc XC mc ms free) (hbl : FrameBlind Pc) : vx_Back l R p e below s args y 3 8 (PreOf R mc ms Pc) (PostOf Qc mc ms free) (vx_Post XC mc ms free) := by
  obtain ⟨hrc, hrs, hfr, hlo, hws, hcw, -, hini, -⟩ := cb
  exact vx_back (bytes := bytes) (maxL := maxL) (ret := ret) hM hbl hrc hrs hfr hlo hws hcw (fun a' U hW => word_at hW (Or.inl (by first | rfl | simp [Cond.onTables, Cond.keeps, Cond.steady])) hini)
theorem vx_runV (S : CallFix p m c cc nL s args Ts own) (hM : vx_Met l y ws rm Pc Qc XC mc ms free) (cw : CallW R s args own C index y bytes maxL ret ws rm mc ms n) (hp : PreV s H C b Pc As)
    (hg : g.method = m) (hn : As.length = n) (hsize : g.locals.size = nL) (hstack : g.stack = As.reverse ++ .ref b :: rest) (hW : 2 * g.monitorRoom + (rest.map fun v => v.category).sum ≤ 8) (hdg : decode cc g.pc = .ok (.invokevirtual index, 3)) (hf : cells + mc ≤ R.cells ∧ slots + ms ≤ R.slots) :
    vx_Run p l e R s m args below meth c H locs cells slots mc ms g rest (Qc (Value.ref b :: As).toArray) XC free := by
  have hK : vx_Back l R p e below s args y 3 8 (PreOf R mc ms Pc) (PostOf Qc mc ms free) (vx_Post XC mc ms free) := vx_callBack cw.1 hM hp.1
  obtain ⟨⟨-, -, -, -, -, -, hcode, -, hy, hlen, hl⟩, hin, hse⟩ := cw
  obtain ⟨hx, hb, hml, ho, -⟩ := S
  obtain ⟨-, ⟨cellB, hcB, hoB, hclB⟩, hPc⟩ := hp
  intro T hT X
  rcases vx_callV X hx (C := C) (bytes := bytes) (maxL := maxL) (ret := ret) ho hl hin hse hcode hy hK (by rw [hT]; exact hcB) hoB hclB hg (hsize.trans hml.symm) (argsL := As) (rest := rest) (fun sig h => hn.trans (hlen sig h)) hstack hW (by rw [hb]; exact hdg)
    (fun vm₁ hW₁ => ⟨hf.1, hf.2, hPc (T.setVm vm₁) hT hW₁⟩) with ⟨v, vm₁, ⟨U', l2, c2, s2⟩, hW₁, X', ⟨g', mk, t, L, e1, e2, hq, h1, hL, h2, h3⟩, st⟩ | ⟨q, vm₁, ⟨U', l2, c2, s2⟩, hW₁, X', ⟨g', mk, t, L, E, ce, e1, e2, hq, hce, hcv, hcl, h1, hL, h2, h3⟩, st⟩
  · dsimp only [Pt.U, Pt.locs, Pt.cells, Pt.slots] at X' e1 e2 h1 h2 h3 st
    subst h1; subst h2; subst h3
    exact Or.inl ⟨v, (T.setVm vm₁).calling g' mk (Value.ref b :: As).toArray, t, U', L, hT, X', hL, e1, e2, hq, st⟩
  · dsimp only [Pt.U, Pt.locs, Pt.cells, Pt.slots] at X' e1 e2 h1 h2 h3 st hcl
    subst h1; subst h2; subst h3
    exact Or.inr ⟨q, (T.setVm vm₁).calling g' mk (Value.ref b :: As).toArray, t, U', L, E, ce, hT, X', hL, e1, e2, hq, hce, hcv, vx_cls hW₁ hcl, st⟩
theorem vx_runS (S : CallFix p m c cc nL s args Ts own) (hM : vx_Met l y ws rm Pc Qc XC mc ms free) (cw : CallB R s args own index y bytes maxL ret ws rm mc ms n ∧ (Cond.static y).before args s = true) (hp : PreS s H Pc As)
    (hg : g.method = m) (hn : As.length = n) (hsize : g.locals.size = nL) (hstack : g.stack = As.reverse ++ rest) (hW : 2 * g.monitorRoom + (rest.map fun v => v.category).sum ≤ 8) (hdg : decode cc g.pc = .ok (.invokestatic index, 3)) (hf : cells + mc ≤ R.cells ∧ slots + ms ≤ R.slots) :
    vx_Run p l e R s m args below meth c H locs cells slots mc ms g rest (Qc As.toArray) XC free := by
  have hK : vx_Back l R p e below s args y 3 8 (PreOf R mc ms Pc) (PostOf Qc mc ms free) (vx_Post XC mc ms free) := vx_callBack cw.1 hM hp.1
  obtain ⟨⟨-, -, -, -, -, -, hcode, hini, hy, hlen, hl⟩, hstt⟩ := cw
  obtain ⟨hx, hb, hml, ho, -⟩ := S
  intro T hT X
  rcases vx_callS X hx (bytes := bytes) (maxL := maxL) (ret := ret) ho hl hstt hini hcode hy hK hg (hsize.trans hml.symm) (argsL := As) (rest := rest) (fun sig h => hn.trans (hlen sig h)) hstack hW (by rw [hb]; exact hdg)
    (fun vm₁ hW₁ => ⟨hf.1, hf.2, hp.2 (T.setVm vm₁) hT hW₁⟩) with ⟨v, vm₁, ⟨U', l2, c2, s2⟩, hW₁, X', ⟨g', mk, t, L, e1, e2, hq, h1, hL, h2, h3⟩, st⟩ | ⟨q, vm₁, ⟨U', l2, c2, s2⟩, hW₁, X', ⟨g', mk, t, L, E, ce, e1, e2, hq, hce, hcv, hcl, h1, hL, h2, h3⟩, st⟩
  · dsimp only [Pt.U, Pt.locs, Pt.cells, Pt.slots] at X' e1 e2 h1 h2 h3 st
    subst h1; subst h2; subst h3
    exact Or.inl ⟨v, (T.setVm vm₁).calling g' mk As.toArray, t, U', L, hT, X', hL, e1, e2, hq, st⟩
  · dsimp only [Pt.U, Pt.locs, Pt.cells, Pt.slots] at X' e1 e2 h1 h2 h3 st hcl
    subst h1; subst h2; subst h3
    exact Or.inr ⟨q, (T.setVm vm₁).calling g' mk As.toArray, t, U', L, E, ce, hT, X', hL, e1, e2, hq, hce, hcv, vx_cls hW₁ hcl, st⟩
end Runs
section Rows
variable {p : Program} {l : Launch} {e : Env} {R : Room} {s : State} {m : MethodId} {args : Array Value} {below : List Frame} {meth : Method} {c : Code} {H : Heap} {locs : List Loc} {cells slots : Nat} {Q : State → Prop}
variable {mc ms : Nat} {free : Addr → Prop} {A0 A1 : Nat → Prop} {H0 : Heap} {a : Array Value} {pc : Nat} {ls : Array Slot} {st0 rest : List Value}
theorem vx_keep {st₀ t T' : State} {L : List Loc} (h0 : st₀.heap = H) (e1 : T'.heap = t.heap) (hS : va_S A0 H0 H locs) (hA : ∀ q, q < H.size → A1 q → A0 q) (hf : ∀ q, free q → A0 q) (hL : ∀ q ∈ L, free q.base) (hF : va_F A1 st₀ t) :
    H.size ≤ T'.heap.size ∧ (∀ q : Nat, q < H.size → ¬ A1 q → T'.heap[q]? = H[q]?) ∧ va_S A0 H0 T'.heap (locs ++ L) := by
  obtain ⟨hz, hk⟩ := hF
  rw [h0] at hz hk
  exact ⟨by rw [e1]; exact hz, fun q h1 h2 => by rw [e1]; exact hk q h1 h2,
    ⟨Nat.le_trans hS.1 (by rw [e1]; exact hz), fun q h1 h2 => by rw [e1, hk q (Nat.lt_of_lt_of_le h1 hS.1) (fun z => h2 (hA q (Nat.lt_of_lt_of_le h1 hS.1) z))]; exact hS.2.1 q h1 h2, fun q hq => by
      rcases List.mem_append.mp hq with h | h
      · exact hS.2.2 q h
      · exact hf _ (hL q h)⟩⟩
theorem vx_calli {S SX : Type} {post : Int32 → S → Prop} {px : SX → Prop} {B : S → State → Prop} {BX : String → SX → State → Prop} {AX : Nat → Prop} (hr : vx_Run p l e R s m args below meth c H locs cells slots mc ms (F0 m pc ls st0) rest (va_Qi post B A1 a) (vx_X px BX AX) free) (hS : va_S A0 H0 H locs) (hA : ∀ q, q < H.size → A1 q → A0 q) (hf : ∀ q, free q → A0 q) (hAX : ∀ q, q < H.size → AX q → A0 q)
    (kx : ∀ (E : String) (ce : Cell) (q9 : Addr) (u : SX) (t : State) (H1 : Heap) (locs1 : List Loc), t.heap = H1 → s.vm.Alike t.vm → px u → BX E u t → H.size ≤ H1.size → (∀ q : Nat, q < H.size → ¬ AX q → H1[q]? = H[q]?) → va_S A0 H0 H1 locs1 → H1[q9]? = some ce → ce.vm = .none → s.vm.findClass E = some ce.cls → vx_W p l e R s m args below meth c H1 locs1 (cells + mc) (slots + ms) Q (F0 m pc ls rest) q9)
    (kk : ∀ (r : Int32) (u : S) (t : State) (H1 : Heap) (locs1 : List Loc), t.heap = H1 → s.vm.Alike t.vm → post r u → B u t → H.size ≤ H1.size → (∀ q : Nat, q < H.size → ¬ A1 q → H1[q]? = H[q]?) → va_S A0 H0 H1 locs1 → W p l e R s m args below meth c H1 locs1 (cells + mc) (slots + ms) Q (F0 m (pc + 3) ls (.int r :: rest))) : W p l e R s m args below meth c H locs cells slots Q (F0 m pc ls st0) := by
  intro T hT X
  rcases hr T hT X with ⟨v, st₀, t, T', L, h0, X', hL, e1, e2, ⟨⟨r, u, hv, hp, hb⟩, hF⟩, st⟩ | ⟨q, st₀, t, T', L, E, ce, h0, X', hL, e1, e2, ⟨u, hp, hb, hF⟩, hce, hcv, hcl, st⟩
  · cases hv
    obtain ⟨k1, k2, k3⟩ := vx_keep h0 e1 hS hA hf hL hF
    obtain ⟨t2, a1, b1⟩ := kk r u t T'.heap (locs ++ L) e1.symm (by rw [← e2]; exact X'.warmed.alike) hp hb k1 k2 k3 T' rfl X'
    exact ⟨t2, st t2 a1, b1⟩
  · obtain ⟨k1, k2, k3⟩ := vx_keep h0 e1 hS hAX hf hL hF
    obtain ⟨t2, a1, b1⟩ := kx E ce q u t T'.heap (locs ++ L) e1.symm (by rw [← e2]; exact X'.warmed.alike) hp hb k1 k2 k3 (by rw [e1]; exact hce) hcv hcl T' rfl X'
    exact ⟨t2, st.trans a1, b1⟩
theorem vx_calll {S SX : Type} {post : Int64 → S → Prop} {px : SX → Prop} {B : S → State → Prop} {BX : String → SX → State → Prop} {AX : Nat → Prop} (hr : vx_Run p l e R s m args below meth c H locs cells slots mc ms (F0 m pc ls st0) rest (va_Ql post B A1 a) (vx_X px BX AX) free) (hS : va_S A0 H0 H locs) (hA : ∀ q, q < H.size → A1 q → A0 q) (hf : ∀ q, free q → A0 q) (hAX : ∀ q, q < H.size → AX q → A0 q)
    (kx : ∀ (E : String) (ce : Cell) (q9 : Addr) (u : SX) (t : State) (H1 : Heap) (locs1 : List Loc), t.heap = H1 → s.vm.Alike t.vm → px u → BX E u t → H.size ≤ H1.size → (∀ q : Nat, q < H.size → ¬ AX q → H1[q]? = H[q]?) → va_S A0 H0 H1 locs1 → H1[q9]? = some ce → ce.vm = .none → s.vm.findClass E = some ce.cls → vx_W p l e R s m args below meth c H1 locs1 (cells + mc) (slots + ms) Q (F0 m pc ls rest) q9)
    (kk : ∀ (r : Int64) (u : S) (t : State) (H1 : Heap) (locs1 : List Loc), t.heap = H1 → s.vm.Alike t.vm → post r u → B u t → H.size ≤ H1.size → (∀ q : Nat, q < H.size → ¬ A1 q → H1[q]? = H[q]?) → va_S A0 H0 H1 locs1 → W p l e R s m args below meth c H1 locs1 (cells + mc) (slots + ms) Q (F0 m (pc + 3) ls (.long r :: rest))) : W p l e R s m args below meth c H locs cells slots Q (F0 m pc ls st0) := by
  intro T hT X
  rcases hr T hT X with ⟨v, st₀, t, T', L, h0, X', hL, e1, e2, ⟨⟨r, u, hv, hp, hb⟩, hF⟩, st⟩ | ⟨q, st₀, t, T', L, E, ce, h0, X', hL, e1, e2, ⟨u, hp, hb, hF⟩, hce, hcv, hcl, st⟩
  · cases hv
    obtain ⟨k1, k2, k3⟩ := vx_keep h0 e1 hS hA hf hL hF
    obtain ⟨t2, a1, b1⟩ := kk r u t T'.heap (locs ++ L) e1.symm (by rw [← e2]; exact X'.warmed.alike) hp hb k1 k2 k3 T' rfl X'
    exact ⟨t2, st t2 a1, b1⟩
  · obtain ⟨k1, k2, k3⟩ := vx_keep h0 e1 hS hAX hf hL hF
    obtain ⟨t2, a1, b1⟩ := kx E ce q u t T'.heap (locs ++ L) e1.symm (by rw [← e2]; exact X'.warmed.alike) hp hb k1 k2 k3 (by rw [e1]; exact hce) hcv hcl T' rfl X'
    exact ⟨t2, st.trans a1, b1⟩
theorem vx_callf {S SX : Type} {post : UInt32 → S → Prop} {px : SX → Prop} {B : S → State → Prop} {BX : String → SX → State → Prop} {AX : Nat → Prop} (hr : vx_Run p l e R s m args below meth c H locs cells slots mc ms (F0 m pc ls st0) rest (va_Qf post B A1 a) (vx_X px BX AX) free) (hS : va_S A0 H0 H locs) (hA : ∀ q, q < H.size → A1 q → A0 q) (hf : ∀ q, free q → A0 q) (hAX : ∀ q, q < H.size → AX q → A0 q)
    (kx : ∀ (E : String) (ce : Cell) (q9 : Addr) (u : SX) (t : State) (H1 : Heap) (locs1 : List Loc), t.heap = H1 → s.vm.Alike t.vm → px u → BX E u t → H.size ≤ H1.size → (∀ q : Nat, q < H.size → ¬ AX q → H1[q]? = H[q]?) → va_S A0 H0 H1 locs1 → H1[q9]? = some ce → ce.vm = .none → s.vm.findClass E = some ce.cls → vx_W p l e R s m args below meth c H1 locs1 (cells + mc) (slots + ms) Q (F0 m pc ls rest) q9)
    (kk : ∀ (r : UInt32) (u : S) (t : State) (H1 : Heap) (locs1 : List Loc), t.heap = H1 → s.vm.Alike t.vm → post r u → B u t → H.size ≤ H1.size → (∀ q : Nat, q < H.size → ¬ A1 q → H1[q]? = H[q]?) → va_S A0 H0 H1 locs1 → W p l e R s m args below meth c H1 locs1 (cells + mc) (slots + ms) Q (F0 m (pc + 3) ls (.float r :: rest))) : W p l e R s m args below meth c H locs cells slots Q (F0 m pc ls st0) := by
  intro T hT X
  rcases hr T hT X with ⟨v, st₀, t, T', L, h0, X', hL, e1, e2, ⟨⟨r, u, hv, hp, hb⟩, hF⟩, st⟩ | ⟨q, st₀, t, T', L, E, ce, h0, X', hL, e1, e2, ⟨u, hp, hb, hF⟩, hce, hcv, hcl, st⟩
  · cases hv
    obtain ⟨k1, k2, k3⟩ := vx_keep h0 e1 hS hA hf hL hF
    obtain ⟨t2, a1, b1⟩ := kk r u t T'.heap (locs ++ L) e1.symm (by rw [← e2]; exact X'.warmed.alike) hp hb k1 k2 k3 T' rfl X'
    exact ⟨t2, st t2 a1, b1⟩
  · obtain ⟨k1, k2, k3⟩ := vx_keep h0 e1 hS hAX hf hL hF
    obtain ⟨t2, a1, b1⟩ := kx E ce q u t T'.heap (locs ++ L) e1.symm (by rw [← e2]; exact X'.warmed.alike) hp hb k1 k2 k3 (by rw [e1]; exact hce) hcv hcl T' rfl X'
    exact ⟨t2, st.trans a1, b1⟩
theorem vx_calld {S SX : Type} {post : UInt64 → S → Prop} {px : SX → Prop} {B : S → State → Prop} {BX : String → SX → State → Prop} {AX : Nat → Prop} (hr : vx_Run p l e R s m args below meth c H locs cells slots mc ms (F0 m pc ls st0) rest (va_Qd post B A1 a) (vx_X px BX AX) free) (hS : va_S A0 H0 H locs) (hA : ∀ q, q < H.size → A1 q → A0 q) (hf : ∀ q, free q → A0 q) (hAX : ∀ q, q < H.size → AX q → A0 q)
    (kx : ∀ (E : String) (ce : Cell) (q9 : Addr) (u : SX) (t : State) (H1 : Heap) (locs1 : List Loc), t.heap = H1 → s.vm.Alike t.vm → px u → BX E u t → H.size ≤ H1.size → (∀ q : Nat, q < H.size → ¬ AX q → H1[q]? = H[q]?) → va_S A0 H0 H1 locs1 → H1[q9]? = some ce → ce.vm = .none → s.vm.findClass E = some ce.cls → vx_W p l e R s m args below meth c H1 locs1 (cells + mc) (slots + ms) Q (F0 m pc ls rest) q9)
    (kk : ∀ (r : UInt64) (u : S) (t : State) (H1 : Heap) (locs1 : List Loc), t.heap = H1 → s.vm.Alike t.vm → post r u → B u t → H.size ≤ H1.size → (∀ q : Nat, q < H.size → ¬ A1 q → H1[q]? = H[q]?) → va_S A0 H0 H1 locs1 → W p l e R s m args below meth c H1 locs1 (cells + mc) (slots + ms) Q (F0 m (pc + 3) ls (.double r :: rest))) : W p l e R s m args below meth c H locs cells slots Q (F0 m pc ls st0) := by
  intro T hT X
  rcases hr T hT X with ⟨v, st₀, t, T', L, h0, X', hL, e1, e2, ⟨⟨r, u, hv, hp, hb⟩, hF⟩, st⟩ | ⟨q, st₀, t, T', L, E, ce, h0, X', hL, e1, e2, ⟨u, hp, hb, hF⟩, hce, hcv, hcl, st⟩
  · cases hv
    obtain ⟨k1, k2, k3⟩ := vx_keep h0 e1 hS hA hf hL hF
    obtain ⟨t2, a1, b1⟩ := kk r u t T'.heap (locs ++ L) e1.symm (by rw [← e2]; exact X'.warmed.alike) hp hb k1 k2 k3 T' rfl X'
    exact ⟨t2, st t2 a1, b1⟩
  · obtain ⟨k1, k2, k3⟩ := vx_keep h0 e1 hS hAX hf hL hF
    obtain ⟨t2, a1, b1⟩ := kx E ce q u t T'.heap (locs ++ L) e1.symm (by rw [← e2]; exact X'.warmed.alike) hp hb k1 k2 k3 (by rw [e1]; exact hce) hcv hcl T' rfl X'
    exact ⟨t2, st.trans a1, b1⟩
theorem vx_callv {S SX : Type} {post : S → Prop} {px : SX → Prop} {B : S → State → Prop} {BX : String → SX → State → Prop} {AX : Nat → Prop} (hr : vx_Run p l e R s m args below meth c H locs cells slots mc ms (F0 m pc ls st0) rest (va_Qv post B A1 a) (vx_X px BX AX) free) (hS : va_S A0 H0 H locs) (hA : ∀ q, q < H.size → A1 q → A0 q) (hf : ∀ q, free q → A0 q) (hAX : ∀ q, q < H.size → AX q → A0 q)
    (kx : ∀ (E : String) (ce : Cell) (q9 : Addr) (u : SX) (t : State) (H1 : Heap) (locs1 : List Loc), t.heap = H1 → s.vm.Alike t.vm → px u → BX E u t → H.size ≤ H1.size → (∀ q : Nat, q < H.size → ¬ AX q → H1[q]? = H[q]?) → va_S A0 H0 H1 locs1 → H1[q9]? = some ce → ce.vm = .none → s.vm.findClass E = some ce.cls → vx_W p l e R s m args below meth c H1 locs1 (cells + mc) (slots + ms) Q (F0 m pc ls rest) q9)
    (kk : ∀ (u : S) (t : State) (H1 : Heap) (locs1 : List Loc), t.heap = H1 → s.vm.Alike t.vm → post u → B u t → H.size ≤ H1.size → (∀ q : Nat, q < H.size → ¬ A1 q → H1[q]? = H[q]?) → va_S A0 H0 H1 locs1 → W p l e R s m args below meth c H1 locs1 (cells + mc) (slots + ms) Q (F0 m (pc + 3) ls (rest))) : W p l e R s m args below meth c H locs cells slots Q (F0 m pc ls st0) := by
  intro T hT X
  rcases hr T hT X with ⟨v, st₀, t, T', L, h0, X', hL, e1, e2, ⟨⟨u, hv, hp, hb⟩, hF⟩, st⟩ | ⟨q, st₀, t, T', L, E, ce, h0, X', hL, e1, e2, ⟨u, hp, hb, hF⟩, hce, hcv, hcl, st⟩
  · cases hv
    obtain ⟨k1, k2, k3⟩ := vx_keep h0 e1 hS hA hf hL hF
    obtain ⟨t2, a1, b1⟩ := kk u t T'.heap (locs ++ L) e1.symm (by rw [← e2]; exact X'.warmed.alike) hp hb k1 k2 k3 T' rfl X'
    exact ⟨t2, st t2 a1, b1⟩
  · obtain ⟨k1, k2, k3⟩ := vx_keep h0 e1 hS hAX hf hL hF
    obtain ⟨t2, a1, b1⟩ := kx E ce q u t T'.heap (locs ++ L) e1.symm (by rw [← e2]; exact X'.warmed.alike) hp hb k1 k2 k3 (by rw [e1]; exact hce) hcv hcl T' rfl X'
    exact ⟨t2, st.trans a1, b1⟩
/-- caught by the row x of this method's table; the rows ahead don't take it -/
theorem vx_catch {own name : String} {E : String} {ce : Cell} {q : Addr} (hown : s.vm.findClass own = some m.cls) (pre : List ExceptionTableEntry) (x : ExceptionTableEntry) (suf : List ExceptionTableEntry) (hsplit : c.exceptionTable.toList = pre ++ x :: suf)
    (hpass : ∀ z ∈ pre, covers z pc = false ∨ (z.catchType ≠ 0 ∧ ∃ nm : String, (Cond.classLink own z.catchType nm).before args s = true ∧ va_Nc E nm s)) (hx : covers x pc = true) (h0 : x.catchType ≠ 0)
    (hlink : (Cond.classLink own x.catchType name).before args s = true) (hcast : (Cond.castable E name).before args s = true) (hcell : H[q]? = some ce) (hv : ce.vm = .none) (hcl : s.vm.findClass E = some ce.cls)
    (kk : W p l e R s m args below meth c H locs cells slots Q (F0 m x.handlerPc ls [.ref q])) : vx_W p l e R s m args below meth c H locs cells slots Q (F0 m pc ls rest) q := by
  intro T hT X
  have hpl : e.platform.magicAccessors = ({} : Platform).magicAccessors := by rw [X.admits.platform]
  obtain ⟨c3, c4, hc3, hc4, hasg⟩ := Cond.castable_spec hcast
  cases Option.some.inj (hc3.symm.trans hcl)
  obtain ⟨c5, hc5, hcl5⟩ := Cond.classLink_spec hown hlink e.platform hpl
  cases Option.some.inj (hc4.symm.trans hc5)
  obtain ⟨vm', X', st⟩ := X.thenCaughtThrough q (g := F0 m pc ls rest) rfl (Steps.refl _) (by rw [hT]; exact hcell) (by rw [hv]; rfl) (by obtain ⟨k9, h9, -⟩ := Vm.findClass_spec hcl; exact ⟨k9, h9⟩) pre x suf hsplit
    (fun z hz => by
      rcases hpass z hz with h | ⟨hz0, nm, hl1, hn1⟩
      · exact Or.inl h
      · obtain ⟨c6, hc6, hcl6⟩ := Cond.classLink_spec hown hl1 e.platform hpl
        obtain ⟨a8, b8, h1, h2, h3⟩ := hn1
        cases Option.some.inj (h1.symm.trans hcl)
        cases Option.some.inj (h2.symm.trans hc6)
        exact Or.inr ⟨hz0, _, hcl6, h3⟩) hx (Or.inr ⟨h0, c4, hcl5, hasg⟩)
  obtain ⟨t, a1, b1⟩ := kk (T.setVm vm') hT X'
  exact ⟨t, st.trans a1, b1⟩
end Rows
section Ends
variable {p : Program} {l : Launch} {e : Env} {R : Room} {s : State} {m : MethodId} {args : Array Value} {below : List Frame} {meth : Method} {c : Code} {H : Heap} {locs : List Loc} {cells slots : Nat} {Q : State → Prop}
variable {mc ms : Nat} {free : Addr → Prop} {A0 A1 : Nat → Prop} {H0 : Heap} {a : Array Value} {ls : Array Slot} {st0 rest : List Value}
variable {Qc : Array Value → State → Outcome → State → Prop} {XC : String → State → State → Prop}
/-- what a body that may throw owes at its end -/
def vx_MQ (below : List Frame) (Qc : Array Value → State → Outcome → State → Prop) (XC : String → State → State → Prop) (a : Array Value) (s : State) (mc ms : Nat) (free : Addr → Prop) : State → Prop := fun t =>
  ∃ o, t.status = .running ∧ Ended t below o ∧ vx_Q Qc XC mc ms free a s o t
theorem vx_ret {g : JFrame} {mc ms : Nat} (k : W p l e R s m args below meth c H locs cells slots (MQ below Qc args s mc ms free) g) : W p l e R s m args below meth c H locs cells slots (vx_MQ below Qc XC args s mc ms free) g := by
  intro T hT X
  obtain ⟨t, a1, o, b1, b2, b3, b4⟩ := k T hT X
  exact ⟨t, a1, o, b1, b2, Or.inl ⟨b3, b4⟩⟩
/-- not caught here: it goes on to the caller -/
theorem vx_widen {g : JFrame} {q : Addr} {k n : Nat} (h1 : cells ≤ k) (h2 : slots ≤ n) (kk : vx_W p l e R s m args below meth c H locs k n Q g q) : vx_W p l e R s m args below meth c H locs cells slots Q g q := fun T hT X => kk T hT (stand_widen X h1 h2)
theorem vx_out {pc : Nat} {E : String} {ce : Cell} {q : Addr} {mc ms : Nat} (hout : ∀ x ∈ c.exceptionTable.toList, covers x pc = false) (hlocks : meth.locks = false) (hcell : H[q]? = some ce) (hv : ce.vm = .none) (hcl : s.vm.findClass E = some ce.cls)
    (hx : ∀ t : State, t.heap = H → s.vm.Alike t.vm → XC E s t) (hf : ∀ z ∈ locs, free z.base) (hc : cells ≤ mc) (hs : slots ≤ ms) :
    vx_W p l e R s m args below meth c H locs cells slots (vx_MQ below Qc XC args s mc ms free) (F0 m pc ls rest) q := by
  intro T hT X
  obtain ⟨st1, hrun, hend, hW, hsm⟩ := X.leaveThrown q (g := F0 m pc ls rest) rfl rfl rfl hout hlocks
  have hcell9 : (T.setFrames (.throwing q :: below)).heap[q]? = some ce := by
    show T.heap[q]? = some ce
    rw [hT]; exact hcell
  exact ⟨_, st1, .threw q, hrun, hend, Or.inr ⟨q, rfl, E, ce, locs, hx _ hT hW.alike, hcell9, hv, hcl, hW, hsm.mono hc hs, hf⟩⟩
theorem vx_frame {U : State} {k n : Nat} (h : s.sameButNew ({ U with vm := s.vm } : State) locs k n) : s.heap.size ≤ U.heap.size ∧ ∀ q : Nat, q < s.heap.size → (∀ z ∈ locs, z.base ≠ q) → U.heap[q]? = s.heap[q]? := by
  obtain ⟨-, h2, -, -, -, h6⟩ := h
  refine ⟨h2, fun q hq hz => ?_⟩
  obtain ⟨c9, e1, e2, e3, e4⟩ := h6 q _ (Array.getElem?_eq_getElem hq)
  have hs : c9.slots = (s.heap[q]).slots := Array.ext_getElem? fun i => e4 i fun hm => hz _ hm rfl
  have h9 : c9 = s.heap[q] := by
    rw [hs] at e2
    exact e2
  have e5 : U.heap[q]? = some c9 := e1
  rw [e5, h9, Array.getElem?_eq_getElem hq]
/-- the words of a throw but the four that speak of the heap -/
def vx_no (w : Cond) : Bool := decide (w ≠ .isRef (.static Bundle.tN "UNASSIGNED_STACK" Bundle.steD)) && decide (w ≠ .isRef (.static Bundle.tN "SUPPRESSED_SENTINEL" Bundle.listD)) && decide (w ≠ .laysStatic Bundle.tN "UNASSIGNED_STACK" Bundle.steD) && decide (w ≠ .laysStatic Bundle.tN "SUPPRESSED_SENTINEL" Bundle.listD)
def vx_at0 (own : String) (ic : Nat) (X : String) (names : List String) : List Cond := (Bundle.ownAtoms0 own ic X names).filter vx_no
def vx_atS (own : String) (ic : Nat) (X : String) (names : List String) : List Cond := (Bundle.ownAtoms own ic X names).filter vx_no
/-- a word that the tables alone decide, or a good one -/
def vx_ot (w : Cond) : Bool := w.onTables || goodWord w
theorem vx_ot_at {args a' : Array Value} {s U : State} {w : Cond} (hW : s.WarmedH U.vm) (hvm : s.vm = U.vm) (hg : vx_ot w = true) (h : w.before args s = true) : w.before a' U = true := by
  simp only [vx_ot, Bool.or_eq_true] at hg
  rcases hg with hg | hg
  · exact va_tabs hg hvm h
  · exact word_at hW (good_of_word hg) h
/-- a list's words: the good ones out of the method's own list, the others by premises of their own -/
theorem vx_hat {args : Array Value} {s : State} {L B : List Cond} (h1 : ∀ w ∈ L.filter goodWord, w.before args s = true) (h2 : ∀ w ∈ L.filter (fun w => !goodWord w), w ∈ B) (h3 : ∀ w ∈ B, w.before args s = true) : ∀ w ∈ L, w.before args s = true := by
  intro w hw
  by_cases g : goodWord w = true
  · exact h1 w (List.mem_filter.mpr ⟨hw, g⟩)
  · refine h3 w (h2 w (List.mem_filter.mpr ⟨hw, ?_⟩))
    show (!goodWord w) = true
    cases hgw : goodWord w
    · rfl
    · exact absurd hgw g
theorem vx_c {args : Array Value} {s : State} {w : Cond} {B : List Cond} (h : w.before args s = true) (t : ∀ w ∈ B, w.before args s = true) : ∀ w' ∈ w :: B, w'.before args s = true := fun w' h' => (List.mem_cons.mp h').elim (fun e => by rw [e]; exact h) (t w')
theorem vx_n {args : Array Value} {s : State} : ∀ w ∈ ([] : List Cond), w.before args s = true := fun _ h => nomatch h
theorem vx_own {args : Array Value} {s : State} {L : List Cond} (h1 : ∀ w ∈ L.filter vx_no, w.before args s = true)
    (hU : (Cond.isRef (.static Bundle.tN "UNASSIGNED_STACK" Bundle.steD)).before args s = true) (hN : (Cond.isRef (.static Bundle.tN "SUPPRESSED_SENTINEL" Bundle.listD)).before args s = true)
    (lU : (Cond.laysStatic Bundle.tN "UNASSIGNED_STACK" Bundle.steD).before args s = true) (lN : (Cond.laysStatic Bundle.tN "SUPPRESSED_SENTINEL" Bundle.listD).before args s = true) : ∀ w ∈ L, w.before args s = true := by
  intro w hw
  by_cases e1 : w = .isRef (.static Bundle.tN "UNASSIGNED_STACK" Bundle.steD)
  · rw [e1]; exact hU
  · by_cases e2 : w = .isRef (.static Bundle.tN "SUPPRESSED_SENTINEL" Bundle.listD)
    · rw [e2]; exact hN
    · by_cases e3 : w = .laysStatic Bundle.tN "UNASSIGNED_STACK" Bundle.steD
      · rw [e3]; exact lU
      · by_cases e4 : w = .laysStatic Bundle.tN "SUPPRESSED_SENTINEL" Bundle.listD
        · rw [e4]; exact lN
        · exact h1 w (List.mem_filter.mpr ⟨hw, by unfold vx_no; rw [decide_eq_true e1, decide_eq_true e2, decide_eq_true e3, decide_eq_true e4]; rfl⟩)
/-- where a static field lies, its class's statics cell in H -/
def vx_L (C n d : String) (A : Nat → Prop) (U : State) (H : Heap) : Prop := ∃ (c : ClassId) (k : Class) (i : Nat) (f : Field) (a : Nat) (cell : Cell), U.vm.findClass C = some c ∧ U.fieldFound? C n d = some (c, k, i, f) ∧ f.isStatic = true ∧ k.statics = some a ∧ H[a]? = some cell ∧ cell.vm.isStatics = true ∧ cell.cls = c ∧ f.slot < cell.slots.size ∧ k.staticTypes[f.slot]? = some f.type ∧ ¬ A a
theorem vx_L.moved {C n d : String} {A : Nat → Prop} {u U : State} {H : Heap} (hvm : u.vm.Alike U.vm) (h : vx_L C n d A u H) : vx_L C n d A U H := by
  obtain ⟨c, k, i, f, a, cell, h1, h2, h3, h4, h5, h6, h7, h8, h9, h10⟩ := h
  obtain ⟨k', hi', he⟩ := State.fieldFound?_setVm hvm h2
  exact ⟨c, k', i, f, a, cell, by rw [hvm.findClass]; exact h1, hi', h3, by rw [he]; exact h4, h5, h6, h7, h8, by rw [he]; exact h9, h10⟩
theorem vx_L.kept {C n d : String} {A : Nat → Prop} {U : State} {H H1 : Heap} (h : vx_L C n d A U H) (hq : ∀ a : Nat, a < H.size → ¬ A a → H1[a]? = H[a]?) : vx_L C n d A U H1 := by
  obtain ⟨c, k, i, f, a, cell, h1, h2, h3, h4, h5, h6, h7, h8, h9, h10⟩ := h
  exact ⟨c, k, i, f, a, cell, h1, h2, h3, h4, by rw [hq a (Array.getElem?_eq_some_iff.mp h5).1 h10]; exact h5, h6, h7, h8, h9, h10⟩
theorem vx_L.narrow {C n d : String} {A B : Nat → Prop} {U : State} {H : Heap} (h : vx_L C n d A U H) (hAB : ∀ q, B q → A q) : vx_L C n d B U H := by
  obtain ⟨c, k, i, f, a, cell, h1, h2, h3, h4, h5, h6, h7, h8, h9, h10⟩ := h
  exact ⟨c, k, i, f, a, cell, h1, h2, h3, h4, h5, h6, h7, h8, h9, fun z => h10 (hAB _ z)⟩
theorem vx_L.word {C n d : String} {A : Nat → Prop} {s : State} {args : Array Value} (h : vx_L C n d A s s.heap) : (Cond.laysStatic C n d).before args s = true := by
  obtain ⟨c, k, i, f, a, cell, h1, h2, h3, h4, h5, h6, h7, h8, h9, -⟩ := h
  show (Cond.laysStatic C n d).holds args s none s [] = true
  exact Cond.laysStatic_of h1 h2 h3 h4 h5 h6 h7 h8 h9
/-- .. and what it holds: null or some reference -/
def vx_Zq (C n d : String) (A : Nat → Prop) (U : State) (H : Heap) : Prop := va_Zq C n d A U H ∧ vx_L C n d A U H
theorem vx_Zq.moved {C n d : String} {A : Nat → Prop} {u U : State} {H : Heap} (hvm : u.vm.Alike U.vm) (h : vx_Zq C n d A u H) : vx_Zq C n d A U H := ⟨va_Zq.moved hvm h.1, vx_L.moved hvm h.2⟩
theorem vx_Zq.kept {C n d : String} {A : Nat → Prop} {U : State} {H H1 : Heap} (h : vx_Zq C n d A U H) (hq : ∀ a : Nat, a < H.size → ¬ A a → H1[a]? = H[a]?) : vx_Zq C n d A U H1 := ⟨va_Zq.kept h.1 hq, vx_L.kept h.2 hq⟩
theorem vx_Zq.narrow {C n d : String} {A B : Nat → Prop} {U : State} {H : Heap} (h : vx_Zq C n d A U H) (hAB : ∀ q, B q → A q) : vx_Zq C n d B U H := ⟨va_Zq.narrow h.1 hAB, vx_L.narrow h.2 hAB⟩
theorem vx_Zqof {args : Array Value} {s : State} {C n d : String} {A : Nat → Prop} (hl : (Cond.laysStatic C n d).before args s = true) (hini : (Cond.initialized C).before args s = true) (h : (Cond.isRef (.static C n d)).before args s = true) (hA : ∀ a : Nat, a < s.heap.size → ¬ A a) : vx_Zq C n d A s s.heap := by
  refine ⟨va_Zqof hl hini h hA, ?_⟩
  obtain ⟨c, k, i, f, a, cell, h1, h2, h3, h4, h5, h6, h7, h8, h9⟩ := Cond.laysStatic_spec hl
  exact ⟨c, k, i, f, a, cell, h1, h2, h3, h4, h5, h6, h7, h8, h9, hA a (Array.getElem?_eq_some_iff.mp h5).1⟩
theorem vx_isRef {C n d : String} {v : Value} {A : Nat → Prop} {s : State} {args : Array Value} (h : va_Z C n d v A s s.heap) (hv : v.isRef = true) : (Cond.isRef (.static C n d)).before args s = true := by
  obtain ⟨cf, kf, fi, f, a, cell, h1, h2, h3, h4, h5, h6, h7, -⟩ := h
  have he : (Term.static C n d).eval args s none [] s = some v := by
    simp [Term.eval, State.fieldNamed?, h1, h2, h4, h5, h6, h7]
  simp only [Cond.before, Cond.holds, Cond.value, he]
  cases v <;> simp_all [Value.isRef]
theorem vx_isRefq {C n d : String} {A : Nat → Prop} {s : State} {args : Array Value} (h : va_Zq C n d A s s.heap) : (Cond.isRef (.static C n d)).before args s = true := by
  rcases h with h | ⟨t, h⟩
  · exact vx_isRef h rfl
  · exact vx_isRef h rfl
/-- the same frame, seen from here: as if the method were called anew in this heap -/
theorem vx_rebase {T : State} (X : Stand p l e R s m args below meth c T locs cells slots) {R' : Room} (hf : R'.frames ≤ R.frames) (hl : R'.locals ≤ R.locals) (hc : cells + R'.cells ≤ R.cells) (hs : slots + R'.slots ≤ R.slots) :
    Stand p l e R' ((T.setVm s.vm).setFrames (.invoking m args :: below)) m args below meth c T [] 0 0 := by
  have htop : (T.setVm s.vm).topJava?.isSome := X.here.top
  have hF : ((T.setVm s.vm).setFrames (.invoking m args :: below)).frames = .invoking m args :: below := State.frames_setFrames _ (State.cur_lt_of_top htop)
  obtain ⟨g₀, hg0⟩ := Option.isSome_iff_exists.mp htop
  obtain ⟨r, hr⟩ := State.topJava?_eq_some.mp hg0
  have hl9 : e.platform.stackLimits (T.setVm s.vm).me = e.platform.stackLimits s.me := X.limits
  have hb9 : (T.setVm s.vm).me.stackBytes = s.me.stackBytes := X.bytes
  refine ⟨X.admits, X.cas, X.clock, hF, ?_, X.hears, X.method, X.code, X.here, X.tail, X.warmed, ?_, ?_, ?_⟩
  · have h := X.room
    have hU : ((T.setVm s.vm).setFrames (.invoking m args :: below)).localsInUse = s.localsInUse := by
      rw [State.localsInUse_invoking hF (meth := meth) (c := c) X.method X.code, State.localsInUse_invoking X.frames X.method X.code]
    simp only [State.hasRoom, Bool.and_eq_true, decide_eq_true_eq] at h ⊢
    obtain ⟨⟨⟨⟨h1, h2, h3, h4, h5, h6⟩, h7⟩, h8⟩, h9⟩ := h
    rw [X.frames, List.length_cons] at h2 h3
    have q1 := X.heapSize
    have q2 := X.used
    simp only [hF, hU, List.length_cons, State.stackLimits_setFrames, State.stackBytes_setFrames, hl9, hb9]
    refine ⟨⟨⟨⟨by omega, by omega, by omega, by omega, by omega, h6⟩, ?_⟩, ?_⟩, X.book⟩
    · show T.heap.size + R'.cells ≤ e.platform.maxCells
      omega
    · show T.slotsUsed + R'.slots ≤ e.platform.maxSlots
      omega
  · rw [State.stackLimits_setFrames]; rfl
  · rw [State.stackBytes_setFrames]; rfl
  · refine ⟨?_, Nat.le_refl _, Nat.le_refl _, ?_, ?_, fun a c9 h9 => ⟨c9, h9, rfl, rfl, fun _ _ => rfl⟩⟩
    · obtain ⟨t, ht, -⟩ := State.frames_cons hr
      show T.setVm s.vm = { ((T.setVm s.vm).setFrames (.invoking m args :: below)).setFrames (T.setVm s.vm).frames with heap := T.heap, slotsUsed := T.slotsUsed }
      rw [State.setFrames_setFrames, State.setFrames_self ht]
      rfl
    · show T.slotsUsed = T.slotsUsed + ((T.heap.toList.drop T.heap.size).map (·.slots.size)).sum
      rw [List.drop_eq_nil_of_le (Nat.le_of_eq Array.length_toList)]
      rfl
    · show ((T.heap.toList.drop T.heap.size).map (·.slots.size)).sum ≤ 0
      rw [List.drop_eq_nil_of_le (Nat.le_of_eq Array.length_toList)]
      exact Nat.le_refl _
/-- 'throw new E()': new; dup; invokespecial; athrow -/
theorem vx_throw0 {cc : ByteArray} {pc : Nat} (hexec : p.tables.exec = Jvm.exec) (hb : c.code = cc) (hl : l.stackTraces = false) {own cls : String} {names : List String} {ik ic mc ms : Nat} {A : Nat → Prop}
    (hown : s.vm.findClass own = some m.cls) (hcls : Bundle.fit cls = true) (hnames : ∀ n ∈ names, Bundle.fit n = true)
    (hk : (Cond.classLink own ik cls).before args s = true) (hini : (Cond.initialized cls).before args s = true) (hat : ∀ w ∈ vx_at0 own ic cls names, w.before args s = true)
    (hgood : ∀ w ∈ Cond.classLink own ik cls :: Cond.initialized cls :: vx_at0 own ic cls names, vx_ot w = true)
    (hU : vx_Zq Bundle.tN "UNASSIGNED_STACK" Bundle.steD A s s.heap) (hN : vx_Zq Bundle.tN "SUPPRESSED_SENTINEL" Bundle.listD A s s.heap) (hS : va_S A s.heap H locs) (hsize : ls.size = c.maxLocals)
    (d0 : decode cc pc = .ok (.new ik, 3)) (d3 : decode cc (pc + 3) = .ok (.dup, 1)) (d4 : decode cc (pc + 4) = .ok (.invokespecial ic, 3)) (d7 : decode cc (pc + 7) = .ok (.athrow, 1))
    (hout : ∀ x ∈ c.exceptionTable.toList, covers x (pc + 7) = false)
    (hRframes : names.length + 3 < R.frames) (hRlocals : (rest.map fun v => v.category).sum + (13 * (names.length + 1) + 42) ≤ R.locals) (hRcells : cells + 1 ≤ R.cells) (hRslots : slots + 6 ≤ R.slots) (hlocks : meth.locks = false)
    (hx : ∀ t : State, s.vm.Alike t.vm → H.size ≤ t.heap.size → (∀ q : Nat, q < H.size → t.heap[q]? = H[q]?) → XC cls s t)
    (hf : ∀ z ∈ locs, free z.base) (hc : cells + 1 ≤ mc) (hs : slots + 6 ≤ ms) :
    W p l e R s m args below meth c H locs cells slots (vx_MQ below Qc XC args s mc ms free) (F0 m pc ls rest) := by
  intro T hT X
  have htr : e.platform.stackTraces = false := (show e.platform.stackTraces = l.stackTraces by rw [X.admits.platform]).trans hl
  have Y := vx_rebase X (R' := { frames := R.frames, locals := R.locals, cells := 1, slots := 6 }) (Nat.le_refl _) (Nat.le_refl _) hRcells hRslots
  obtain ⟨s', hA⟩ : ∃ z, z = (T.setVm s.vm).setFrames (.invoking m args :: below) := ⟨_, rfl⟩
  rw [← hA] at Y
  have hvm : s'.vm = s.vm := by rw [hA]; rfl
  have hhp : s'.heap = H := by rw [hA]; exact hT
  have hW0 : s.WarmedH s'.vm := by rw [hvm]; exact State.WarmedH.refl s
  have hat' : ∀ w ∈ vx_at0 own ic cls names, w.before args s' = true := fun w hw => vx_ot_at hW0 hvm.symm (hgood w (List.mem_cons_of_mem _ (List.mem_cons_of_mem _ hw))) (hat w hw)
  have hk' : (Cond.classLink own ik cls).before args s' = true := vx_ot_at hW0 hvm.symm (hgood _ List.mem_cons_self) hk
  have hini' : (Cond.initialized cls).before args s' = true := vx_ot_at hW0 hvm.symm (hgood _ (List.mem_cons_of_mem _ List.mem_cons_self)) hini
  have hU' : vx_Zq Bundle.tN "UNASSIGNED_STACK" Bundle.steD A s' s'.heap := by rw [hhp]; exact vx_Zq.moved hW0.alike (hU.kept hS.2.1)
  have hN' : vx_Zq Bundle.tN "SUPPRESSED_SENTINEL" Bundle.listD A s' s'.heap := by rw [hhp]; exact vx_Zq.moved hW0.alike (hN.kept hS.2.1)
  have h : ∀ w ∈ Bundle.ownAtoms0 own ic cls names, w.before args s' = true := vx_own hat' (vx_isRefq hU'.1) (vx_isRefq hN'.1) hU'.2.word hN'.2.word
  have hown' : s'.vm.findClass own = some m.cls := by rw [hvm]; exact hown
  have hins : (Cond.instantiable cls 6).before args s' = true := h _ (by simp [Bundle.ownAtoms0])
  obtain ⟨vm₁, cX, kX, hfX, hkX, -, -, X₁, st1⟩ := Y.newCold hexec (own := own) (C := cls) (index := ik) (n := 6) hown' hk' hins hini'
    (g := F0 m pc ls rest) rfl (by rw [hb]; exact d0) (Nat.le_refl _) (Nat.le_refl _)
  generalize hT1 : (T.setVm vm₁).pushCell { cls := cX, slots := kX.instanceTypes.map defaultValue, vm := .none } = T1 at X₁ st1
  have hcat : (Value.ref T.heap.size).category = 1 := rfl
  have hcellA : T1.heap[T.heap.size]? = some (freshCell cX kX) := by rw [← hT1]; exact State.heap_pushCell_size _ _
  have d3' : decode c.code (pc + 3) = .ok (.dup, 1) := by rw [hb]; exact d3
  obtain ⟨U, hsteps, hrun, hend, hW, hsame, ce, hce, hO⟩ := X₁.ctorThrow0 hexec htr (own := own) (cls := cls) (names := names) (ic := ic) hown' hcls hnames h (fun x hx => nomatch hx) hfX hkX hcellA (by rw [hhp, hT]; exact Nat.le_refl _)
    (g := { method := m, pc := pc + 4, locals := ls, stack := .ref T.heap.size :: .ref T.heap.size :: rest, locked := none }) rfl hsize rfl rfl (rest := rest) rfl
    (by rw [hb]; exact d4) (by rw [hb]; exact d7) hout hRframes (by simp only [List.map_cons, List.sum_cons, hcat]; omega) hlocks
  obtain ⟨f1, f2⟩ := vx_frame hsame
  rw [hhp] at f1 f2
  have hWs : s.WarmedH U.vm := State.WarmedH.trans hW0 hW
  have hcl : s.vm.findClass cls = some ce.cls := by
    have h9 := hO.cls
    rw [hvm] at h9
    exact h9
  have hall : s.sameButNew ({ U with vm := s.vm } : State) locs mc ms := by
    subst hA
    obtain ⟨e1, e2⟩ := hsame
    rw [State.setFrames_setFrames] at e1
    have h2 : (T.setVm s.vm).sameButNew ({ U with vm := s.vm } : State) [] (0 + 1) (0 + 6) := ⟨e1, e2⟩
    have h3 := X.same.trans h2
    rw [List.append_nil] at h3
    exact h3.mono hc hs
  refine ⟨U, ?_, .threw T.heap.size, hrun, hend, Or.inr ⟨T.heap.size, rfl, cls, ce, locs, hx U hWs.alike f1 (fun q hq => f2 q hq (fun z hz => nomatch hz)), hce, hO.vm, hcl, hWs, hall, hf⟩⟩
  refine st1 _ ?_
  show Steps p.tables e below (T1.setTop { method := m, pc := pc + 3, locals := ls, stack := .ref T.heap.size :: rest, locked := none }) _
  jvm_step X₁.here [X₁.here.top, hexec, d3', Value.category]
  exact hsteps
/-- 'throw new E("text")': new; dup; ldc; invokespecial; athrow -/
theorem vx_throwS {cc : ByteArray} {pc : Nat} (hexec : p.tables.exec = Jvm.exec) (hb : c.code = cc) (hl : l.stackTraces = false) {own cls text : String} {names : List String} {ik is ic mc ms sa : Nat} {A : Nat → Prop}
    (hown : s.vm.findClass own = some m.cls) (hcls : Bundle.fit cls = true) (hnames : ∀ n ∈ names, Bundle.fit n = true)
    (hk : (Cond.classLink own ik cls).before args s = true) (hini : (Cond.initialized cls).before args s = true) (hstr : vk_R own is text sa s) (hat : ∀ w ∈ vx_atS own ic cls names, w.before args s = true)
    (hgood : ∀ w ∈ Cond.classLink own ik cls :: Cond.initialized cls :: vx_atS own ic cls names, vx_ot w = true)
    (hU : vx_Zq Bundle.tN "UNASSIGNED_STACK" Bundle.steD A s s.heap) (hN : vx_Zq Bundle.tN "SUPPRESSED_SENTINEL" Bundle.listD A s s.heap) (hS : va_S A s.heap H locs) (hsize : ls.size = c.maxLocals)
    (d0 : decode cc pc = .ok (.new ik, 3)) (d3 : decode cc (pc + 3) = .ok (.dup, 1)) (d4 : decode cc (pc + 4) = .ok (.ldc is, 2)) (d6 : decode cc (pc + 6) = .ok (.invokespecial ic, 3)) (d9 : decode cc (pc + 9) = .ok (.athrow, 1))
    (hout : ∀ x ∈ c.exceptionTable.toList, covers x (pc + 9) = false)
    (hRframes : names.length + 3 < R.frames) (hRlocals : (rest.map fun v => v.category).sum + (13 * (names.length + 1) + 43) ≤ R.locals) (hRcells : cells + 1 ≤ R.cells) (hRslots : slots + 6 ≤ R.slots) (hlocks : meth.locks = false)
    (hx : ∀ t : State, s.vm.Alike t.vm → H.size ≤ t.heap.size → (∀ q : Nat, q < H.size → t.heap[q]? = H[q]?) → XC cls s t)
    (hf : ∀ z ∈ locs, free z.base) (hc : cells + 1 ≤ mc) (hs : slots + 6 ≤ ms) :
    W p l e R s m args below meth c H locs cells slots (vx_MQ below Qc XC args s mc ms free) (F0 m pc ls rest) := by
  intro T hT X
  have htr : e.platform.stackTraces = false := (show e.platform.stackTraces = l.stackTraces by rw [X.admits.platform]).trans hl
  have Y := vx_rebase X (R' := { frames := R.frames, locals := R.locals, cells := 1, slots := 6 }) (Nat.le_refl _) (Nat.le_refl _) hRcells hRslots
  obtain ⟨s', hA⟩ : ∃ z, z = (T.setVm s.vm).setFrames (.invoking m args :: below) := ⟨_, rfl⟩
  rw [← hA] at Y
  have hvm : s'.vm = s.vm := by rw [hA]; rfl
  have hhp : s'.heap = H := by rw [hA]; exact hT
  have hW0 : s.WarmedH s'.vm := by rw [hvm]; exact State.WarmedH.refl s
  have hat' : ∀ w ∈ vx_atS own ic cls names, w.before args s' = true := fun w hw => vx_ot_at hW0 hvm.symm (hgood w (List.mem_cons_of_mem _ (List.mem_cons_of_mem _ hw))) (hat w hw)
  have hk' : (Cond.classLink own ik cls).before args s' = true := vx_ot_at hW0 hvm.symm (hgood _ List.mem_cons_self) hk
  have hini' : (Cond.initialized cls).before args s' = true := vx_ot_at hW0 hvm.symm (hgood _ (List.mem_cons_of_mem _ List.mem_cons_self)) hini
  have hU' : vx_Zq Bundle.tN "UNASSIGNED_STACK" Bundle.steD A s' s'.heap := by rw [hhp]; exact vx_Zq.moved hW0.alike (hU.kept hS.2.1)
  have hN' : vx_Zq Bundle.tN "SUPPRESSED_SENTINEL" Bundle.listD A s' s'.heap := by rw [hhp]; exact vx_Zq.moved hW0.alike (hN.kept hS.2.1)
  have h : ∀ w ∈ Bundle.ownAtoms own ic cls names, w.before args s' = true := vx_own hat' (vx_isRefq hU'.1) (vx_isRefq hN'.1) hU'.2.word hN'.2.word
  have hown' : s'.vm.findClass own = some m.cls := by rw [hvm]; exact hown
  have hins : (Cond.instantiable cls 6).before args s' = true := h _ (by simp [Bundle.ownAtoms])
  obtain ⟨vm₁, cX, kX, hfX, hkX, -, -, X₁, st1⟩ := Y.newCold hexec (own := own) (C := cls) (index := ik) (n := 6) hown' hk' hins hini'
    (g := F0 m pc ls rest) rfl (by rw [hb]; exact d0) (Nat.le_refl _) (Nat.le_refl _)
  generalize hT1 : (T.setVm vm₁).pushCell { cls := cX, slots := kX.instanceTypes.map defaultValue, vm := .none } = T1 at X₁ st1
  have hcat : (Value.ref T.heap.size).category = 1 := rfl
  have hcellA : T1.heap[T.heap.size]? = some (freshCell cX kX) := by rw [← hT1]; exact State.heap_pushCell_size _ _
  have d3' : decode c.code (pc + 3) = .ok (.dup, 1) := by rw [hb]; exact d3
  have d4' : decode c.code (pc + 4) = .ok (.ldc is, 2) := by rw [hb]; exact d4
  have hstr' : vk_R own is text sa s' := vk_R.warm hW0 hstr
  obtain ⟨U, hsteps, hrun, hend, hW, hsame, ce, hce, hO⟩ := X₁.ctorThrowS hexec htr (own := own) (cls := cls) (names := names) (ic := ic) hown' hcls hnames h (fun x hx => nomatch hx) hfX hkX hcellA (by rw [hhp, hT]; exact Nat.le_refl _) (msg := .ref sa) rfl
    (g := { method := m, pc := pc + 6, locals := ls, stack := .ref sa :: .ref T.heap.size :: .ref T.heap.size :: rest, locked := none }) rfl hsize rfl rfl (rest := rest) rfl
    (by rw [hb]; exact d6) (by rw [hb]; exact d9) hout hRframes (by simp only [List.map_cons, List.sum_cons, hcat]; omega) hlocks
  obtain ⟨f1, f2⟩ := vx_frame hsame
  rw [hhp] at f1 f2
  have hWs : s.WarmedH U.vm := State.WarmedH.trans hW0 hW
  have hcl : s.vm.findClass cls = some ce.cls := by
    have h9 := hO.cls
    rw [hvm] at h9
    exact h9
  have hall : s.sameButNew ({ U with vm := s.vm } : State) locs mc ms := by
    subst hA
    obtain ⟨e1, e2⟩ := hsame
    rw [State.setFrames_setFrames] at e1
    have h2 : (T.setVm s.vm).sameButNew ({ U with vm := s.vm } : State) [] (0 + 1) (0 + 6) := ⟨e1, e2⟩
    have h3 := X.same.trans h2
    rw [List.append_nil] at h3
    exact h3.mono hc hs
  refine ⟨U, ?_, .threw T.heap.size, hrun, hend, Or.inr ⟨T.heap.size, rfl, cls, ce, locs, hx U hWs.alike f1 (fun q hq => f2 q hq (fun z hz => nomatch hz)), hce, hO.vm, hcl, hWs, hall, hf⟩⟩
  refine st1 _ ?_
  show Steps p.tables e below (T1.setTop { method := m, pc := pc + 3, locals := ls, stack := .ref T.heap.size :: rest, locked := none }) _
  jvm_step X₁.here [X₁.here.top, hexec, d3', Value.category]
  exact X₁.ldcString hexec (own := own) (text := text) (index := is) (a := sa) hown' hstr'.1 hstr'.2
    (g := { method := m, pc := pc + 4, locals := ls, stack := .ref T.heap.size :: .ref T.heap.size :: rest, locked := none }) rfl d4' _ hsteps
/-- 'throw new E("text")', the text by a wide index -/
theorem vx_throwSW {cc : ByteArray} {pc : Nat} (hexec : p.tables.exec = Jvm.exec) (hb : c.code = cc) (hl : l.stackTraces = false) {own cls text : String} {names : List String} {ik is ic mc ms sa : Nat} {A : Nat → Prop}
    (hown : s.vm.findClass own = some m.cls) (hcls : Bundle.fit cls = true) (hnames : ∀ n ∈ names, Bundle.fit n = true)
    (hk : (Cond.classLink own ik cls).before args s = true) (hini : (Cond.initialized cls).before args s = true) (hstr : vk_R own is text sa s) (hat : ∀ w ∈ vx_atS own ic cls names, w.before args s = true)
    (hgood : ∀ w ∈ Cond.classLink own ik cls :: Cond.initialized cls :: vx_atS own ic cls names, vx_ot w = true)
    (hU : vx_Zq Bundle.tN "UNASSIGNED_STACK" Bundle.steD A s s.heap) (hN : vx_Zq Bundle.tN "SUPPRESSED_SENTINEL" Bundle.listD A s s.heap) (hS : va_S A s.heap H locs) (hsize : ls.size = c.maxLocals)
    (d0 : decode cc pc = .ok (.new ik, 3)) (d3 : decode cc (pc + 3) = .ok (.dup, 1)) (d4 : decode cc (pc + 4) = .ok (.ldc_w is, 3)) (d7 : decode cc (pc + 7) = .ok (.invokespecial ic, 3)) (d10 : decode cc (pc + 10) = .ok (.athrow, 1))
    (hout : ∀ x ∈ c.exceptionTable.toList, covers x (pc + 10) = false)
    (hRframes : names.length + 3 < R.frames) (hRlocals : (rest.map fun v => v.category).sum + (13 * (names.length + 1) + 43) ≤ R.locals) (hRcells : cells + 1 ≤ R.cells) (hRslots : slots + 6 ≤ R.slots) (hlocks : meth.locks = false)
    (hx : ∀ t : State, s.vm.Alike t.vm → H.size ≤ t.heap.size → (∀ q : Nat, q < H.size → t.heap[q]? = H[q]?) → XC cls s t)
    (hf : ∀ z ∈ locs, free z.base) (hc : cells + 1 ≤ mc) (hs : slots + 6 ≤ ms) :
    W p l e R s m args below meth c H locs cells slots (vx_MQ below Qc XC args s mc ms free) (F0 m pc ls rest) := by
  intro T hT X
  have htr : e.platform.stackTraces = false := (show e.platform.stackTraces = l.stackTraces by rw [X.admits.platform]).trans hl
  have Y := vx_rebase X (R' := { frames := R.frames, locals := R.locals, cells := 1, slots := 6 }) (Nat.le_refl _) (Nat.le_refl _) hRcells hRslots
  obtain ⟨s', hA⟩ : ∃ z, z = (T.setVm s.vm).setFrames (.invoking m args :: below) := ⟨_, rfl⟩
  rw [← hA] at Y
  have hvm : s'.vm = s.vm := by rw [hA]; rfl
  have hhp : s'.heap = H := by rw [hA]; exact hT
  have hW0 : s.WarmedH s'.vm := by rw [hvm]; exact State.WarmedH.refl s
  have hat' : ∀ w ∈ vx_atS own ic cls names, w.before args s' = true := fun w hw => vx_ot_at hW0 hvm.symm (hgood w (List.mem_cons_of_mem _ (List.mem_cons_of_mem _ hw))) (hat w hw)
  have hk' : (Cond.classLink own ik cls).before args s' = true := vx_ot_at hW0 hvm.symm (hgood _ List.mem_cons_self) hk
  have hini' : (Cond.initialized cls).before args s' = true := vx_ot_at hW0 hvm.symm (hgood _ (List.mem_cons_of_mem _ List.mem_cons_self)) hini
  have hU' : vx_Zq Bundle.tN "UNASSIGNED_STACK" Bundle.steD A s' s'.heap := by rw [hhp]; exact vx_Zq.moved hW0.alike (hU.kept hS.2.1)
  have hN' : vx_Zq Bundle.tN "SUPPRESSED_SENTINEL" Bundle.listD A s' s'.heap := by rw [hhp]; exact vx_Zq.moved hW0.alike (hN.kept hS.2.1)
  have h : ∀ w ∈ Bundle.ownAtoms own ic cls names, w.before args s' = true := vx_own hat' (vx_isRefq hU'.1) (vx_isRefq hN'.1) hU'.2.word hN'.2.word
  have hown' : s'.vm.findClass own = some m.cls := by rw [hvm]; exact hown
  have hins : (Cond.instantiable cls 6).before args s' = true := h _ (by simp [Bundle.ownAtoms])
  obtain ⟨vm₁, cX, kX, hfX, hkX, -, -, X₁, st1⟩ := Y.newCold hexec (own := own) (C := cls) (index := ik) (n := 6) hown' hk' hins hini'
    (g := F0 m pc ls rest) rfl (by rw [hb]; exact d0) (Nat.le_refl _) (Nat.le_refl _)
  generalize hT1 : (T.setVm vm₁).pushCell { cls := cX, slots := kX.instanceTypes.map defaultValue, vm := .none } = T1 at X₁ st1
  have hcat : (Value.ref T.heap.size).category = 1 := rfl
  have hcellA : T1.heap[T.heap.size]? = some (freshCell cX kX) := by rw [← hT1]; exact State.heap_pushCell_size _ _
  have d3' : decode c.code (pc + 3) = .ok (.dup, 1) := by rw [hb]; exact d3
  have d4' : decode c.code (pc + 4) = .ok (.ldc_w is, 3) := by rw [hb]; exact d4
  have hstr' : vk_R own is text sa s' := vk_R.warm hW0 hstr
  obtain ⟨U, hsteps, hrun, hend, hW, hsame, ce, hce, hO⟩ := X₁.ctorThrowS hexec htr (own := own) (cls := cls) (names := names) (ic := ic) hown' hcls hnames h (fun x hx => nomatch hx) hfX hkX hcellA (by rw [hhp, hT]; exact Nat.le_refl _) (msg := .ref sa) rfl
    (g := { method := m, pc := pc + 7, locals := ls, stack := .ref sa :: .ref T.heap.size :: .ref T.heap.size :: rest, locked := none }) rfl hsize rfl rfl (rest := rest) rfl
    (by rw [hb]; exact d7) (by rw [hb]; exact d10) hout hRframes (by simp only [List.map_cons, List.sum_cons, hcat]; omega) hlocks
  obtain ⟨f1, f2⟩ := vx_frame hsame
  rw [hhp] at f1 f2
  have hWs : s.WarmedH U.vm := State.WarmedH.trans hW0 hW
  have hcl : s.vm.findClass cls = some ce.cls := by
    have h9 := hO.cls
    rw [hvm] at h9
    exact h9
  have hall : s.sameButNew ({ U with vm := s.vm } : State) locs mc ms := by
    subst hA
    obtain ⟨e1, e2⟩ := hsame
    rw [State.setFrames_setFrames] at e1
    have h2 : (T.setVm s.vm).sameButNew ({ U with vm := s.vm } : State) [] (0 + 1) (0 + 6) := ⟨e1, e2⟩
    have h3 := X.same.trans h2
    rw [List.append_nil] at h3
    exact h3.mono hc hs
  refine ⟨U, ?_, .threw T.heap.size, hrun, hend, Or.inr ⟨T.heap.size, rfl, cls, ce, locs, hx U hWs.alike f1 (fun q hq => f2 q hq (fun z hz => nomatch hz)), hce, hO.vm, hcl, hWs, hall, hf⟩⟩
  refine st1 _ ?_
  show Steps p.tables e below (T1.setTop { method := m, pc := pc + 3, locals := ls, stack := .ref T.heap.size :: rest, locked := none }) _
  jvm_step X₁.here [X₁.here.top, hexec, d3', Value.category]
  exact X₁.ldcStringW hexec (own := own) (text := text) (index := is) (a := sa) hown' hstr'.1 hstr'.2
    (g := { method := m, pc := pc + 4, locals := ls, stack := .ref T.heap.size :: .ref T.heap.size :: rest, locked := none }) rfl d4' _ hsteps
end Ends
section Bodies
variable {l : Launch}
theorem vx_ofW {y : MethodName} {ws ws' : List Cond} {rm : Room} {Pc : Array Value → State → Prop} {Qc : Array Value → State → Outcome → State → Prop} {XC : String → State → State → Prop} {mc ms : Nat} {free : Addr → Prop} {cc : ByteArray} {maxL : Nat} {ret : Option FieldType}
    (hy : plainName y.cls = true) (hw : ws = Cond.code y cc maxL ret :: ws')
    (body : ∀ p e s m args below meth c s₁, BodyLoose p l y (headSpec ws rm) cc maxL ret e s m args below meth c s₁ → c.maxLocals = maxL → (∀ x ∈ c.exceptionTable.toList, False) → Pc args s →
      W p l e (headSpec ws rm).room s m args below meth c s.heap [] 0 0 (vx_MQ below Qc XC args s mc ms free) (entryFrame m args maxL)) : vx_Met l y ws rm Pc Qc XC mc ms free := by
  refine MetFree.of_bodyS (code := cc) (maxLocals := maxL) (ret := ret) hy ?_ ?_
  · intro args s m h hn
    obtain ⟨meth, c, h1, h2, h3, h4, h5, h6, -, -⟩ := Cond.code_spec hn (atoms_spec (ws := ws) h _ (by rw [hw]; exact List.mem_cons_self))
    exact ⟨meth, c, h1, h2, h3, h4, h5, h6⟩
  · intro p e s m args below meth c s₁ B hml hP _
    have hh0 : s₁.heap = s.heap := by rw [B.state]; rfl
    have ht : ∀ x ∈ c.exceptionTable.toList, False := by
      obtain ⟨meth9, c9, h1, h2, -, -, -, -, h7, -⟩ := Cond.code_spec B.named (atoms_spec (ws := ws) B.pre _ (by rw [hw]; exact List.mem_cons_self))
      cases Option.some.inj (h1.symm.trans B.method)
      cases Option.some.inj (h2.symm.trans (Stand.of_body B).code)
      intro x hx
      rw [Array.isEmpty_iff.mp h7] at hx
      cases hx
    obtain ⟨t, a1, o, b1, b2, b3⟩ := body p e s m args below meth c s₁ B hml ht hP s₁ hh0 (Stand.of_body B)
    exact ⟨t, o, a1, b1, b2, b3⟩
/-- the table of a body with handlers -/
theorem vx_table {p : Program} {x y : MethodName} {S : Spec} {cc bytes : ByteArray} {maxL maxL' : Nat} {ret ret' : Option FieldType} {e : Env} {s s₁ : State} {m : MethodId} {args : Array Value} {below : List Frame} {meth : Method} {c : Code} {hh : List (Nat × Nat × Nat × Nat)}
    (B : BodyLoose p l y S cc maxL ret e s m args below meth c s₁) (h : (Cond.codeWith y bytes maxL' ret' hh).before args s = true) : c.exceptionTable.toList = tableOf hh := by
  obtain ⟨m9, meth9, c9, hn9, h1, h2, -, -, h6, -⟩ := Cond.codeWith_spec h
  cases Option.some.inj (hn9.symm.trans B.named)
  cases Option.some.inj (h1.symm.trans B.method)
  cases Option.some.inj (h2.symm.trans (Stand.of_body B).code)
  rw [← h6, table_eq]
end Bodies
end VXA
/-! ===== END ===== -/
/-! ===== BEGIN a static call of a method with an exception table ===== -/
section VXS
variable {p : Program} {l : Launch} {e : Env} {R : Room} {s : State} {m : MethodId} {args : Array Value} {below : List Frame} {meth : Method} {c : Code} {T : State} {H : Heap} {locs : List Loc} {cells slots : Nat}
abbrev vx_CSW (R : Room) (s : State) (args : Array Value) (own : String) (index : Nat) (y : MethodName) (bytes : ByteArray) (maxL : Nat) (ret : Option FieldType) (hh : List (Nat × Nat × Nat × Nat)) (ws : List Cond) (rm : Room) (mc ms n : Nat) : Prop :=
  (rm.cells = mc ∧ rm.slots = ms ∧ rm.frames + 1 ≤ R.frames ∧ 8 + (maxL + 11) + rm.locals ≤ R.locals ∧ (∀ w ∈ ws, ∀ (a' : Array Value) (U : State), s.WarmedH U.vm → w.before a' U = true) ∧ Cond.codeWith y bytes maxL ret hh ∈ ws) ∧
  (Cond.codeWith y bytes maxL ret hh).before args s = true ∧ (Cond.initialized y.cls).before args s = true ∧ (y.cls ≠ "java/lang/invoke/MethodHandle" ∧ y.cls ≠ "java/lang/invoke/VarHandle") ∧
  (∀ sig, parseMethodDescriptor y.desc = some sig → n = sig.parameters.length) ∧ (Cond.methodLink own index y).before args s = true ∧ (Cond.static y).before args s = true
theorem vx_cwSW {own : String} {index maxL mc ms : Nat} {y : MethodName} {bytes : ByteArray} {ret : Option FieldType} {hh : List (Nat × Nat × Nat × Nat)} {Ts ws ws' : List Cond} {rm : Room} (n : Nat) (ht : ∀ w ∈ Ts, w.before args s = true) (hT : GoodIn Ts (va_wsS own index y ws)) (hw : ws = Cond.codeWith y bytes maxL ret hh :: ws') (hrc : rm.cells = mc) (hrs : rm.slots = ms)
    (hd : y.cls ≠ "java/lang/invoke/MethodHandle" ∧ y.cls ≠ "java/lang/invoke/VarHandle" ∧ (parseMethodDescriptor y.desc).map (fun d => d.parameters.length) = some n) (hR : rm.frames + 1 ≤ R.frames ∧ 8 + (maxL + 11) + rm.locals ≤ R.locals) :
    vx_CSW R s args own index y bytes maxL ret hh ws rm mc ms n := by
  have ok : ∀ w ∈ va_wsS own index y ws, w.before args s = true := fun w h => ht w (hT w h).1
  have hG : GoodIn Ts ws := fun w h => hT w (by unfold va_wsS; exact List.mem_append_right _ h)
  have hc : Cond.codeWith y bytes maxL ret hh ∈ ws := by rw [hw]; exact List.mem_cons_self
  refine ⟨⟨hrc, hrs, hR.1, hR.2, pay_in ht hG, hc⟩, ht _ (hG _ hc).1, ok _ (by simp [va_wsS]), ⟨hd.1, hd.2.1⟩, fun sig h => ?_, ok _ (by simp [va_wsS]), ok _ (by simp [va_wsS])⟩
  have h2 := hd.2.2
  rw [h] at h2
  exact (Option.some.inj h2).symm
theorem vx_callSW (X : Stand p l e R s m args below meth c T locs cells slots) (hexec : p.tables.exec = Jvm.exec) {own : String} {index : Nat} {y : MethodName} {bytes : ByteArray} {maxL : Nat} {ret : Option FieldType} {hh : List (Nat × Nat × Nat × Nat)}
    (hown : s.vm.findClass own = some m.cls) (hlink : (Cond.methodLink own index y).before args s = true) (hstat : (Cond.static y).before args s = true) (hinit : (Cond.initialized y.cls).before args s = true)
    (hcode : (Cond.codeWith y bytes maxL ret hh).before args s = true) (hy : y.cls ≠ "java/lang/invoke/MethodHandle" ∧ y.cls ≠ "java/lang/invoke/VarHandle")
    {W9 : Nat} {Pre : Pt → Array Value → Prop} {Post : Pt → Array Value → Option Value → Pt → Prop} (hK : Back l R p e below s args y 3 W9 Pre Post)
    {g : JFrame} (hg : g.method = m) (hsize : g.locals.size = c.maxLocals) {argsL rest : List Value} (hlen : ∀ sig, parseMethodDescriptor y.desc = some sig → argsL.length = sig.parameters.length)
    (hstack : g.stack = argsL.reverse ++ rest) (hW : 2 * g.monitorRoom + (rest.map fun v => v.category).sum ≤ W9) (hdg : decode c.code g.pc = .ok (.invokestatic index, 3))
    (hpre : ∀ vm₁, s.WarmedH vm₁ → Pre ⟨T.setVm vm₁, locs, cells, slots⟩ argsL.toArray) :
    ∃ (v : Option Value) (vm₁ : Vm) (B : Pt), s.WarmedH vm₁ ∧ Stand p l e R s m args below meth c B.U B.locs B.cells B.slots ∧ Post ⟨T.setVm vm₁, locs, cells, slots⟩ argsL.toArray v B ∧
      ∀ target, Steps p.tables e below (B.U.setTop { g with pc := g.pc + 3, stack := v.toList ++ rest }) target → Steps p.tables e below (T.setTop g) target := by
  obtain ⟨mk, methM, cM, hnamed, hmethM, -, -, -, -, -, -, hsigM⟩ := Cond.codeWith_spec hcode
  have hstatic : methM.isStatic = true := Cond.static_spec hnamed hmethM hstat
  obtain ⟨kP, hkP, -⟩ := className_of_methodNamed hnamed
  have hinitP : kP.init = .initialized := Cond.initialized_spec (findClass_of_methodNamed hnamed) hkP hinit
  obtain ⟨vm₁, X₁, hstep₁⟩ := X.invokestatic hexec hown hlink hnamed hmethM hstatic hkP hinitP hy (g := g) hg (argsL := argsL) (rest := rest) (hlen _ hsigM) hstack hdg
  obtain ⟨v, B, X', hpost, hsteps⟩ := hK m meth c ⟨T.setVm vm₁, locs, cells, slots⟩ { g with stack := rest } (.invokestatic index) mk argsL.toArray X₁ hg hsize hdg hW (X₁.named hnamed) (hpre vm₁ X₁.warmed)
  exact ⟨v, vm₁, B, X₁.warmed, X', hpost, fun target h => hstep₁ _ fun acts => by rw [doInvoke_state]; exact hsteps.trans h⟩
theorem vx_runSW {y : MethodName} {bytes cc : ByteArray} {maxL nL mc ms n index : Nat} {ret : Option FieldType} {hh : List (Nat × Nat × Nat × Nat)} {ws : List Cond} {rm : Room} {Pc : Array Value → State → Prop} {Qc : Array Value → State → Outcome → State → Prop} {free : Addr → Prop} {Ts : List Cond} {own : String} {As rest : List Value} {g : JFrame}
    (S : CallFix p m c cc nL s args Ts own) (hM : Met l y ws rm Pc Qc mc ms free) (cw : vx_CSW R s args own index y bytes maxL ret hh ws rm mc ms n) (hp : PreS s H Pc As)
    (hg : g.method = m) (hn : As.length = n) (hsize : g.locals.size = nL) (hstack : g.stack = As.reverse ++ rest) (hW : 2 * g.monitorRoom + (rest.map fun v => v.category).sum ≤ 8) (hdg : decode cc g.pc = .ok (.invokestatic index, 3)) (hf : cells + mc ≤ R.cells ∧ slots + ms ≤ R.slots) :
    va_Run p l e R s m args below meth c H locs cells slots mc ms g rest (Qc As.toArray) (free) := by
  obtain ⟨⟨hrc, hrs, hfr, hlo, hws, hcw⟩, hcode, hini, hy, hlen, hl, hstt⟩ := cw
  have hK : Back l R p e below s args y 3 8 (PreOf R mc ms Pc) (PostOf Qc mc ms free) := va_backW (hh := hh) (bytes := bytes) (maxL := maxL) (ret := ret) hM hp.1 hrc hrs hfr hlo hws hcw (fun a' U hW => word_at hW (Or.inl (by first | rfl | simp [Cond.onTables, Cond.keeps, Cond.steady])) hini)
  obtain ⟨hx, hb, hml, ho, -⟩ := S
  intro T hT X
  obtain ⟨v, vm₁, ⟨U', l2, c2, s2⟩, hW₁, X', ⟨g', mk, t, L, e1, e2, hq, h1, hL, h2, h3⟩, st⟩ := vx_callSW X hx (hh := hh) (bytes := bytes) (maxL := maxL) (ret := ret) ho hl hstt hini hcode hy hK hg (hsize.trans hml.symm) (argsL := As) (rest := rest) (fun sig h => hn.trans (hlen sig h)) hstack hW (by rw [hb]; exact hdg)
    (fun vm₁ hW₁ => ⟨hf.1, hf.2, hp.2 (T.setVm vm₁) hT hW₁⟩)
  dsimp only [Pt.U, Pt.locs, Pt.cells, Pt.slots] at X' e1 e2 h1 h2 h3 st
  subst h1; subst h2; subst h3
  exact ⟨v, (T.setVm vm₁).calling g' mk As.toArray, t, U', L, hT, X', hL, e1, e2, hq, st⟩
/-- not caught here, past rows that name other classes: it goes on to the caller -/
theorem vx_outP {p : Program} {l : Launch} {e : Env} {R : Room} {s : State} {m : MethodId} {args : Array Value} {below : List Frame} {meth : Method} {c : Code} {H : Heap} {locs : List Loc} {cells slots : Nat} {free : Addr → Prop} {ls : Array Slot} {rest : List Value} {Qc : Array Value → State → Outcome → State → Prop} {XC : String → State → State → Prop}
    {pc : Nat} {own E : String} {ce : Cell} {q : Addr} {mc ms : Nat} (hown : s.vm.findClass own = some m.cls) (hlocks : meth.locks = false)
    (hpass : ∀ z ∈ c.exceptionTable.toList, covers z pc = false ∨ (z.catchType ≠ 0 ∧ ∃ nm : String, (Cond.classLink own z.catchType nm).before args s = true ∧ va_Nc E nm s)) (hcell : H[q]? = some ce) (hv : ce.vm = .none) (hcl : s.vm.findClass E = some ce.cls)
    (hx : ∀ t : State, t.heap = H → s.vm.Alike t.vm → XC E s t) (hf : ∀ z ∈ locs, free z.base) (hc : cells ≤ mc) (hs : slots ≤ ms) :
    vx_W p l e R s m args below meth c H locs cells slots (vx_MQ below Qc XC args s mc ms free) (F0 m pc ls rest) q := by
  intro T hT X
  have hpl : e.platform.magicAccessors = ({} : Platform).magicAccessors := by rw [X.admits.platform]
  obtain ⟨vm', hW', X', st⟩ := X.outThrough hlocks q (g := F0 m pc ls rest) rfl rfl rfl (cell := ce) (by rw [hT]; exact hcell) (by rw [hv]; rfl)
    (by obtain ⟨k9, h9, -⟩ := Vm.findClass_spec hcl; exact ⟨k9, h9⟩) (fun z hz => by
      rcases hpass z hz with h | ⟨hz0, nm, hl1, hn1⟩
      · exact Or.inl h
      · obtain ⟨c6, hc6, hcl6⟩ := Cond.classLink_spec hown hl1 e.platform hpl
        obtain ⟨a8, b8, h1, h2, h3⟩ := hn1
        cases Option.some.inj (h1.symm.trans hcl)
        cases Option.some.inj (h2.symm.trans hc6)
        exact Or.inr ⟨hz0, _, hcl6, h3⟩)
  obtain ⟨g₀, hfr⟩ := X'.frames_eq
  have hcell9 : ((T.setVm vm').setFrames (.throwing q :: below)).heap[q]? = some ce := by
    show T.heap[q]? = some ce
    rw [hT]; exact hcell
  have hend : Ended ((T.setVm vm').setFrames (.throwing q :: below)) below (.threw q) := State.frames_setFrames _ (State.cur_lt_of_frames hfr)
  refine ⟨(T.setVm vm').setFrames (.throwing q :: below), ?_, .threw q, X'.here.running, hend, Or.inr ⟨q, rfl, E, ce, locs, hx _ hT (X'.ends _).1.alike, hcell9, hv, hcl, (X'.ends _).1, (X'.ends _).2.mono hc hs, hf⟩⟩
  rw [X.pushThrowing_eq]
  exact st
/-- a thing of a world lies in the heap -/
theorem vx_lt {D : va_G} {cl : List vw_C} {ws : va_W} {H1 : Heap} (h : va_P D cl ws H1) {k : Nat} {q : Nat × va_E} (hk : ws[k]? = some q) : q.1 < H1.size := (h k q hk).lt
end VXS
/-! ===== END ===== -/
/-! ===== BEGIN methods with a table of their own: called by a name, returning or throwing ===== -/
section VXH
/-! vx_backW, vx_callVX, vx_callSX, vx_callVW, vx_runVW, vx_runVX, vx_runSX, vx_ofWH follow the same proofs as their sisters above (Free/Laws.lean, Shelf42/LK1.lean); vx_outP calls Shelf42/NT130.lean (outThrough). -/
section
variable {l : Launch} {R : Room} {p : Program} {e : Env} {below : List Frame} {s : State} {sargs : Array Value} {y : MethodName} {len W9 : Nat}
theorem vx_backW {ws : List Cond} {rm : Room} {Pc : Array Value → State → Prop} {Qc : Array Value → State → Outcome → State → Prop} {XC : String → State → State → Prop} {mc ms : Nat} {free : Addr → Prop} {bytes : ByteArray} {maxL : Nat} {ret : Option FieldType} {hh : List (Nat × Nat × Nat × Nat)}
    (hM : vx_Met l y ws rm Pc Qc XC mc ms free) (hblind : FrameBlind Pc) (hrc : rm.cells = mc) (hrs : rm.slots = ms)
    (hframes : rm.frames + 1 ≤ R.frames) (hlocals : W9 + (maxL + 11) + rm.locals ≤ R.locals)
    (hws : ∀ w ∈ ws, ∀ a' U, s.WarmedH U.vm → w.before a' U = true) (hcode : Cond.codeWith y bytes maxL ret hh ∈ ws) (hinit : ∀ a' U, s.WarmedH U.vm → (Cond.initialized y.cls).before a' U = true) :
    vx_Back l R p e below s sargs y len W9 (PreOf R mc ms Pc) (PostOf Qc mc ms free) (vx_Post XC mc ms free) := by
  intro m meth c A g ig mk a X hg hsize hdg hW hn hp
  have h1 : (headSpec ws rm).pre.before a A.U = true := atoms_intro fun w hw => hws w hw _ _ X.warmed
  have h2 : (Cond.codeWith y bytes maxL ret hh).before a A.U = true := hws _ hcode _ _ X.warmed
  have h3 : (Cond.initialized y.cls).before a A.U = true := hinit _ _ X.warmed
  have h4 : A.cells + (headSpec ws rm).room.cells ≤ R.cells := by rw [show (headSpec ws rm).room.cells = mc from hrc]; exact hp.1
  have h5 : A.slots + (headSpec ws rm).room.slots ≤ R.slots := by rw [show (headSpec ws rm).room.slots = ms from hrs]; exact hp.2.1
  have hPc : Pc a (A.U.calling g mk a) := hblind _ _ _ _ hp.2.2
  obtain ⟨U, Ls, c0, s0⟩ := A
  dsimp only [Pt.U, Pt.locs, Pt.cells, Pt.slots] at h1 h2 h3 h4 h5 X hn hPc ⊢
  obtain ⟨m9, methY, cY, hn9, hmY, hcY, -, hlY, -⟩ := Cond.codeWith_spec h2
  cases Option.some.inj (hn9.symm.trans hn)
  obtain ⟨kY, hkY, -⟩ := className_of_methodNamed hn
  have hinitY : kY.init = .initialized := Cond.initialized_spec (findClass_of_methodNamed hn) hkY h3
  have h : At U g.method c below := by rw [hg]; exact X.here
  have hlocals9 : W9 + (maxL + 11) + (headSpec ws rm).room.locals ≤ R.locals := hlocals
  have happ : (headSpec ws rm).appliesLoose y e.platform (U.calling g mk a) = true :=
    Spec.appliesLoose_calling (g := g) h hdg hn hkY hinitY
      (X.room_calling (g := g) (R' := (headSpec ws rm).room) hsize hmY hcY hframes (by rw [hlY]; omega) h4 h5) h1
  obtain ⟨mid, hmid⟩ := h.above
  have hfr : (U.setTop g).frames = (.java g :: mid) ++ below := by rw [State.frames_setTop' g h.top, hmid]; rfl
  obtain ⟨o, s₂, hsteps, -, hend, hq⟩ := Steps.callFree hM p X.admits X.cas X.clock (acts := []) hfr happ hPc trivial
  have hq' : vx_Q Qc XC mc ms free a (U.calling g mk a) o s₂ := hq
  rw [State.frames_setTop' g h.top] at hend
  obtain ⟨g₀, hg0⟩ := Option.isSome_iff_exists.mp h.top
  obtain ⟨r, hr⟩ := State.topJava?_eq_some.mp hg0
  have hr' : (({ U with heap := s₂.heap, slotsUsed := s₂.slotsUsed } : State).setVm s₂.vm).frames = .java g₀ :: r := hr
  rcases hq' with ⟨hqc, L, hfe, hL⟩ | ⟨q, rfl, E, ce, L, hx, hce, hcv, hcl, hW₂, hsm, hL⟩
  · obtain ⟨⟨v, rfl⟩, hW₂, e2, q2, q3, q4, q5, q6⟩ := id hfe
    have e3 : s₂ = ({ (U.calling g mk a).setFrames s₂.frames with heap := s₂.heap, slotsUsed := s₂.slotsUsed } : State).setVm s₂.vm := by
      have : s₂ = ({ s₂ with vm := (U.calling g mk a).vm } : State).setVm s₂.vm := rfl
      rw [e2] at this
      exact this
    obtain ⟨c₂, i₂, len₂, hc₂, hd₂, hf₂⟩ := hend
    have hW' : U.WarmedH s₂.vm := hW₂
    have hcc : c₂ = c := by
      have h1 : s₂.code? g.method = U.code? g.method := by
        rw [State.code?_eq, State.code?_eq, hW'.alike.method?]
      exact Option.some.inj (hc₂.symm.trans (h1.trans h.code))
    subst hcc
    have hlen : len₂ = len := by rw [hdg] at hd₂; cases hd₂; rfl
    subst hlen
    have hs₂ : s₂ = (({ U with heap := s₂.heap, slotsUsed := s₂.slotsUsed } : State).setVm s₂.vm).setTop { g with pc := g.pc + len₂, stack := v.toList ++ g.stack } := by
      refine e3.trans ?_
      rw [hf₂, State.calling_eq h.top, State.setFrames_setFrames, State.setTop_of_frames _ hr', hr]
      rfl
    have hsame : U.sameButNew ({ U with heap := s₂.heap, slotsUsed := s₂.slotsUsed } : State) L mc ms := by
      refine ⟨?_, q2, q3, q4, q5, q6⟩
      obtain ⟨t, ht, -⟩ := State.frames_cons hr
      show ({ U with heap := s₂.heap, slotsUsed := s₂.slotsUsed } : State) = { U.setFrames U.frames with heap := s₂.heap, slotsUsed := s₂.slotsUsed }
      rw [State.setFrames_self ht]
    subst hg
    refine Or.inl ⟨v, ⟨(({ U with heap := s₂.heap, slotsUsed := s₂.slotsUsed } : State).setVm s₂.vm), Ls ++ L, c0 + mc, s0 + ms⟩,
      ⟨X.admits, X.cas, X.clock, X.frames, X.room, X.hears, X.method, X.code, (X.here.setHeapUsed s₂.heap s₂.slotsUsed).setVm hW'.alike, X.tail, State.WarmedH.trans X.warmed hW', X.limits, X.bytes, X.same.trans (hsame.setVm s.vm)⟩,
      ⟨g, mk, s₂, L, rfl, rfl, hqc, rfl, hL, rfl, rfl⟩, ?_⟩
    show Steps p.tables e below _ ((({ U with heap := s₂.heap, slotsUsed := s₂.slotsUsed } : State).setVm s₂.vm).setTop { g with pc := g.pc + len₂, stack := v.toList ++ g.stack })
    rw [← hs₂]
    exact hsteps
  · obtain ⟨e2, q2, q3, q4, q5, q6⟩ := id hsm
    have e3 : s₂ = ({ (U.calling g mk a).setFrames s₂.frames with heap := s₂.heap, slotsUsed := s₂.slotsUsed } : State).setVm s₂.vm := by
      have : s₂ = ({ s₂ with vm := (U.calling g mk a).vm } : State).setVm s₂.vm := rfl
      rw [e2] at this
      exact this
    have hf₂ : s₂.frames = .throwing q :: .java g :: U.frames.tail := hend
    have hW' : U.WarmedH s₂.vm := hW₂
    have hs₂ : s₂ = ((({ U with heap := s₂.heap, slotsUsed := s₂.slotsUsed } : State).setVm s₂.vm).setTop g).pushFrame (.throwing q) := by
      refine e3.trans ?_
      rw [hf₂, State.calling_eq h.top, State.setFrames_setFrames, State.pushFrame, State.frames_setTop _ hr', State.setTop_of_frames _ hr', State.setFrames_setFrames, hr]
      rfl
    have hsame : U.sameButNew ({ U with heap := s₂.heap, slotsUsed := s₂.slotsUsed } : State) L mc ms := by
      refine ⟨?_, q2, q3, q4, q5, q6⟩
      obtain ⟨t, ht, -⟩ := State.frames_cons hr
      show ({ U with heap := s₂.heap, slotsUsed := s₂.slotsUsed } : State) = { U.setFrames U.frames with heap := s₂.heap, slotsUsed := s₂.slotsUsed }
      rw [State.setFrames_self ht]
    subst hg
    refine Or.inr ⟨q, ⟨(({ U with heap := s₂.heap, slotsUsed := s₂.slotsUsed } : State).setVm s₂.vm), Ls ++ L, c0 + mc, s0 + ms⟩,
      ⟨X.admits, X.cas, X.clock, X.frames, X.room, X.hears, X.method, X.code, (X.here.setHeapUsed s₂.heap s₂.slotsUsed).setVm hW'.alike, X.tail, State.WarmedH.trans X.warmed hW', X.limits, X.bytes, X.same.trans (hsame.setVm s.vm)⟩,
      ⟨g, mk, s₂, L, E, ce, rfl, rfl, hx, hce, hcv, hcl, rfl, hL, rfl, rfl⟩, ?_⟩
    show Steps p.tables e below _ (((({ U with heap := s₂.heap, slotsUsed := s₂.slotsUsed } : State).setVm s₂.vm).setTop g).pushFrame (.throwing q))
    rw [← hs₂]
    exact hsteps
end
variable {p : Program} {l : Launch} {e : Env} {R : Room} {s : State} {m : MethodId} {args : Array Value} {below : List Frame} {meth : Method} {c : Code} {T : State} {H : Heap} {locs : List Loc} {cells slots : Nat}
theorem vx_callVX (X : Stand p l e R s m args below meth c T locs cells slots) (hexec : p.tables.exec = Jvm.exec) {own C : String} {index : Nat} {y : MethodName} {bytes : ByteArray} {maxL : Nat} {ret : Option FieldType} {hh : List (Nat × Nat × Nat × Nat)}
    (hown : s.vm.findClass own = some m.cls) (hlink : (Cond.methodLink own index y).before args s = true) (hinst : (Cond.instanceMethod y).before args s = true) (hsel : (Cond.selects C y y).before args s = true)
    (hcode : (Cond.codeWith y bytes maxL ret hh).before args s = true) (hy : y.cls ≠ "java/lang/invoke/MethodHandle" ∧ y.cls ≠ "java/lang/invoke/VarHandle")
    {W9 : Nat} {Pre : Pt → Array Value → Prop} {Post : Pt → Array Value → Option Value → Pt → Prop} {PostX : Pt → Array Value → Addr → Pt → Prop} (hK : vx_Back l R p e below s args y 3 W9 Pre Post PostX)
    {b : Addr} {cellB : Cell} (hcell : T.heap[b]? = some cellB) (hobj : cellB.vm.isStatics = false) (hcls : s.vm.findClass C = some cellB.cls)
    {g : JFrame} (hg : g.method = m) (hsize : g.locals.size = c.maxLocals) {argsL rest : List Value} (hlen : ∀ sig, parseMethodDescriptor y.desc = some sig → argsL.length = sig.parameters.length)
    (hstack : g.stack = argsL.reverse ++ .ref b :: rest) (hW : 2 * g.monitorRoom + (rest.map fun v => v.category).sum ≤ W9) (hdg : decode c.code g.pc = .ok (.invokevirtual index, 3))
    (hpre : ∀ vm₁, s.WarmedH vm₁ → Pre ⟨T.setVm vm₁, locs, cells, slots⟩ (Value.ref b :: argsL).toArray) :
    (∃ (v : Option Value) (vm₁ : Vm) (B : Pt), s.WarmedH vm₁ ∧ Stand p l e R s m args below meth c B.U B.locs B.cells B.slots ∧ Post ⟨T.setVm vm₁, locs, cells, slots⟩ (Value.ref b :: argsL).toArray v B ∧
      ∀ target, Steps p.tables e below (B.U.setTop { g with pc := g.pc + 3, stack := v.toList ++ rest }) target → Steps p.tables e below (T.setTop g) target) ∨
    (∃ (q : Addr) (vm₁ : Vm) (B : Pt), s.WarmedH vm₁ ∧ Stand p l e R s m args below meth c B.U B.locs B.cells B.slots ∧ PostX ⟨T.setVm vm₁, locs, cells, slots⟩ (Value.ref b :: argsL).toArray q B ∧
      Steps p.tables e below (T.setTop g) ((B.U.setTop { g with stack := rest }).pushFrame (.throwing q))) := by
  obtain ⟨mk, methM, hnamed, hmethM, hstM, habM⟩ := Cond.instanceMethod_spec hinst
  obtain ⟨m8, methM', cM, hn8, hmethM', -, -, -, -, -, -, hsigM⟩ := Cond.codeWith_spec hcode
  cases Option.some.inj (hn8.symm.trans hnamed)
  cases hmethM.symm.trans hmethM'
  obtain ⟨c2, r2, m2, q1, q2, q3, q4, kP, hkP, hkPi⟩ := Cond.selects_spec hsel
  cases hcls.symm.trans q1
  cases (State.methodFound?_of_named hnamed hy).symm.trans q2
  cases hnamed.symm.trans q3
  have hselP : selectMethod e.platform s.vm cellB.cls mk = .method mk := by rw [Launch.admits_selectMethod X.admits]; exact q4
  obtain ⟨vm₁, X₁, hstep₁⟩ := X.invokevirtual hexec hown hlink hnamed hmethM hstM hkP hkPi hy (a := b) (cell := cellB) hcell
    (fun z h => by rw [h] at hobj; cases hobj) hselP hmethM habM hkP hkPi (g := g) hg (argsL := argsL) (rest := rest) (hlen _ hsigM) hstack hdg
  rcases hK m meth c ⟨T.setVm vm₁, locs, cells, slots⟩ { g with stack := rest } (.invokevirtual index) mk (Value.ref b :: argsL).toArray X₁ hg hsize hdg hW (X₁.named hnamed) (hpre vm₁ X₁.warmed) with ⟨v, B, X', hpost, hsteps⟩ | ⟨q, B, X', hpost, hsteps⟩
  · exact Or.inl ⟨v, vm₁, B, X₁.warmed, X', hpost, fun target h => hstep₁ _ fun acts => by rw [doInvoke_state]; exact hsteps.trans h⟩
  · exact Or.inr ⟨q, vm₁, B, X₁.warmed, X', hpost, hstep₁ _ fun acts => by rw [doInvoke_state]; exact hsteps⟩
theorem vx_callSX (X : Stand p l e R s m args below meth c T locs cells slots) (hexec : p.tables.exec = Jvm.exec) {own : String} {index : Nat} {y : MethodName} {bytes : ByteArray} {maxL : Nat} {ret : Option FieldType} {hh : List (Nat × Nat × Nat × Nat)}
    (hown : s.vm.findClass own = some m.cls) (hlink : (Cond.methodLink own index y).before args s = true) (hstat : (Cond.static y).before args s = true) (hinit : (Cond.initialized y.cls).before args s = true)
    (hcode : (Cond.codeWith y bytes maxL ret hh).before args s = true) (hy : y.cls ≠ "java/lang/invoke/MethodHandle" ∧ y.cls ≠ "java/lang/invoke/VarHandle")
    {W9 : Nat} {Pre : Pt → Array Value → Prop} {Post : Pt → Array Value → Option Value → Pt → Prop} {PostX : Pt → Array Value → Addr → Pt → Prop} (hK : vx_Back l R p e below s args y 3 W9 Pre Post PostX)
    {g : JFrame} (hg : g.method = m) (hsize : g.locals.size = c.maxLocals) {argsL rest : List Value} (hlen : ∀ sig, parseMethodDescriptor y.desc = some sig → argsL.length = sig.parameters.length)
    (hstack : g.stack = argsL.reverse ++ rest) (hW : 2 * g.monitorRoom + (rest.map fun v => v.category).sum ≤ W9) (hdg : decode c.code g.pc = .ok (.invokestatic index, 3))
    (hpre : ∀ vm₁, s.WarmedH vm₁ → Pre ⟨T.setVm vm₁, locs, cells, slots⟩ argsL.toArray) :
    (∃ (v : Option Value) (vm₁ : Vm) (B : Pt), s.WarmedH vm₁ ∧ Stand p l e R s m args below meth c B.U B.locs B.cells B.slots ∧ Post ⟨T.setVm vm₁, locs, cells, slots⟩ argsL.toArray v B ∧
      ∀ target, Steps p.tables e below (B.U.setTop { g with pc := g.pc + 3, stack := v.toList ++ rest }) target → Steps p.tables e below (T.setTop g) target) ∨
    (∃ (q : Addr) (vm₁ : Vm) (B : Pt), s.WarmedH vm₁ ∧ Stand p l e R s m args below meth c B.U B.locs B.cells B.slots ∧ PostX ⟨T.setVm vm₁, locs, cells, slots⟩ argsL.toArray q B ∧
      Steps p.tables e below (T.setTop g) ((B.U.setTop { g with stack := rest }).pushFrame (.throwing q))) := by
  obtain ⟨mk, methM, cM, hnamed, hmethM, -, -, -, -, -, -, hsigM⟩ := Cond.codeWith_spec hcode
  have hstatic : methM.isStatic = true := Cond.static_spec hnamed hmethM hstat
  obtain ⟨kP, hkP, -⟩ := className_of_methodNamed hnamed
  have hinitP : kP.init = .initialized := Cond.initialized_spec (findClass_of_methodNamed hnamed) hkP hinit
  obtain ⟨vm₁, X₁, hstep₁⟩ := X.invokestatic hexec hown hlink hnamed hmethM hstatic hkP hinitP hy (g := g) hg (argsL := argsL) (rest := rest) (hlen _ hsigM) hstack hdg
  rcases hK m meth c ⟨T.setVm vm₁, locs, cells, slots⟩ { g with stack := rest } (.invokestatic index) mk argsL.toArray X₁ hg hsize hdg hW (X₁.named hnamed) (hpre vm₁ X₁.warmed) with ⟨v, B, X', hpost, hsteps⟩ | ⟨q, B, X', hpost, hsteps⟩
  · exact Or.inl ⟨v, vm₁, B, X₁.warmed, X', hpost, fun target h => hstep₁ _ fun acts => by rw [doInvoke_state]; exact hsteps.trans h⟩
  · exact Or.inr ⟨q, vm₁, B, X₁.warmed, X', hpost, hstep₁ _ fun acts => by rw [doInvoke_state]; exact hsteps⟩
theorem vx_callVW (X : Stand p l e R s m args below meth c T locs cells slots) (hexec : p.tables.exec = Jvm.exec) {own C : String} {index : Nat} {y : MethodName} {bytes : ByteArray} {maxL : Nat} {ret : Option FieldType} {hh : List (Nat × Nat × Nat × Nat)}
    (hown : s.vm.findClass own = some m.cls) (hlink : (Cond.methodLink own index y).before args s = true) (hinst : (Cond.instanceMethod y).before args s = true) (hsel : (Cond.selects C y y).before args s = true)
    (hcode : (Cond.codeWith y bytes maxL ret hh).before args s = true) (hy : y.cls ≠ "java/lang/invoke/MethodHandle" ∧ y.cls ≠ "java/lang/invoke/VarHandle")
    {W9 : Nat} {Pre : Pt → Array Value → Prop} {Post : Pt → Array Value → Option Value → Pt → Prop} (hK : Back l R p e below s args y 3 W9 Pre Post)
    {b : Addr} {cellB : Cell} (hcell : T.heap[b]? = some cellB) (hobj : cellB.vm.isStatics = false) (hcls : s.vm.findClass C = some cellB.cls)
    {g : JFrame} (hg : g.method = m) (hsize : g.locals.size = c.maxLocals) {argsL rest : List Value} (hlen : ∀ sig, parseMethodDescriptor y.desc = some sig → argsL.length = sig.parameters.length)
    (hstack : g.stack = argsL.reverse ++ .ref b :: rest) (hW : 2 * g.monitorRoom + (rest.map fun v => v.category).sum ≤ W9) (hdg : decode c.code g.pc = .ok (.invokevirtual index, 3))
    (hpre : ∀ vm₁, s.WarmedH vm₁ → Pre ⟨T.setVm vm₁, locs, cells, slots⟩ (Value.ref b :: argsL).toArray) :
    ∃ (v : Option Value) (vm₁ : Vm) (B : Pt), s.WarmedH vm₁ ∧ Stand p l e R s m args below meth c B.U B.locs B.cells B.slots ∧ Post ⟨T.setVm vm₁, locs, cells, slots⟩ (Value.ref b :: argsL).toArray v B ∧
      ∀ target, Steps p.tables e below (B.U.setTop { g with pc := g.pc + 3, stack := v.toList ++ rest }) target → Steps p.tables e below (T.setTop g) target := by
  obtain ⟨mk, methM, hnamed, hmethM, hstM, habM⟩ := Cond.instanceMethod_spec hinst
  obtain ⟨m8, methM', cM, hn8, hmethM', -, -, -, -, -, -, hsigM⟩ := Cond.codeWith_spec hcode
  cases Option.some.inj (hn8.symm.trans hnamed)
  cases hmethM.symm.trans hmethM'
  obtain ⟨c2, r2, m2, q1, q2, q3, q4, kP, hkP, hkPi⟩ := Cond.selects_spec hsel
  cases hcls.symm.trans q1
  cases (State.methodFound?_of_named hnamed hy).symm.trans q2
  cases hnamed.symm.trans q3
  have hselP : selectMethod e.platform s.vm cellB.cls mk = .method mk := by rw [Launch.admits_selectMethod X.admits]; exact q4
  obtain ⟨vm₁, X₁, hstep₁⟩ := X.invokevirtual hexec hown hlink hnamed hmethM hstM hkP hkPi hy (a := b) (cell := cellB) hcell
    (fun z h => by rw [h] at hobj; cases hobj) hselP hmethM habM hkP hkPi (g := g) hg (argsL := argsL) (rest := rest) (hlen _ hsigM) hstack hdg
  obtain ⟨v, B, X', hpost, hsteps⟩ := hK m meth c ⟨T.setVm vm₁, locs, cells, slots⟩ { g with stack := rest } (.invokevirtual index) mk (Value.ref b :: argsL).toArray X₁ hg hsize hdg hW (X₁.named hnamed) (hpre vm₁ X₁.warmed)
  exact ⟨v, vm₁, B, X₁.warmed, X', hpost, fun target h => hstep₁ _ fun acts => by rw [doInvoke_state]; exact hsteps.trans h⟩
abbrev vx_CVW (R : Room) (s : State) (args : Array Value) (own C : String) (index : Nat) (y : MethodName) (bytes : ByteArray) (maxL : Nat) (ret : Option FieldType) (hh : List (Nat × Nat × Nat × Nat)) (ws : List Cond) (rm : Room) (mc ms n : Nat) : Prop :=
  (rm.cells = mc ∧ rm.slots = ms ∧ rm.frames + 1 ≤ R.frames ∧ 8 + (maxL + 11) + rm.locals ≤ R.locals ∧ (∀ w ∈ ws, ∀ (a' : Array Value) (U : State), s.WarmedH U.vm → w.before a' U = true) ∧ Cond.codeWith y bytes maxL ret hh ∈ ws) ∧
  (Cond.codeWith y bytes maxL ret hh).before args s = true ∧ (Cond.initialized y.cls).before args s = true ∧ (y.cls ≠ "java/lang/invoke/MethodHandle" ∧ y.cls ≠ "java/lang/invoke/VarHandle") ∧
  (∀ sig, parseMethodDescriptor y.desc = some sig → n = sig.parameters.length) ∧ (Cond.methodLink own index y).before args s = true ∧ (Cond.instanceMethod y).before args s = true ∧ (Cond.selects C y y).before args s = true
theorem vx_cwVW {own C : String} {index maxL mc ms : Nat} {y : MethodName} {bytes : ByteArray} {ret : Option FieldType} {hh : List (Nat × Nat × Nat × Nat)} {Ts ws ws' : List Cond} {rm : Room} (n : Nat) (ht : ∀ w ∈ Ts, w.before args s = true) (hT : GoodIn Ts (wsV own index C y ws)) (hw : ws = Cond.codeWith y bytes maxL ret hh :: ws') (hrc : rm.cells = mc) (hrs : rm.slots = ms)
    (hd : y.cls = C ∧ y.cls ≠ "java/lang/invoke/MethodHandle" ∧ y.cls ≠ "java/lang/invoke/VarHandle" ∧ (parseMethodDescriptor y.desc).map (fun d => d.parameters.length) = some n) (hR : rm.frames + 1 ≤ R.frames ∧ 8 + (maxL + 11) + rm.locals ≤ R.locals) :
    vx_CVW R s args own C index y bytes maxL ret hh ws rm mc ms n := by
  obtain ⟨hC, hd⟩ := hd
  subst hC
  have ok : ∀ w ∈ wsV own index y.cls y ws, w.before args s = true := fun w h => ht w (hT w h).1
  have hG : GoodIn Ts ws := fun w h => hT w (by unfold wsV; exact List.mem_append_right _ h)
  have hc : Cond.codeWith y bytes maxL ret hh ∈ ws := by rw [hw]; exact List.mem_cons_self
  refine ⟨⟨hrc, hrs, hR.1, hR.2, pay_in ht hG, hc⟩, ht _ (hG _ hc).1, ok _ (by simp [wsV]), ⟨hd.1, hd.2.1⟩, fun sig h => ?_, ok _ (by simp [wsV]), ok _ (by simp [wsV]), ok _ (by simp [wsV])⟩
  have h2 := hd.2.2
  rw [h] at h2
  exact (Option.some.inj h2).symm
theorem vx_runVW {y : MethodName} {bytes cc : ByteArray} {maxL nL mc ms n index : Nat} {ret : Option FieldType} {hh : List (Nat × Nat × Nat × Nat)} {ws : List Cond} {rm : Room} {Pc : Array Value → State → Prop} {Qc : Array Value → State → Outcome → State → Prop} {free : Addr → Prop} {Ts : List Cond} {own C : String} {b : Addr} {As rest : List Value} {g : JFrame}
    (S : CallFix p m c cc nL s args Ts own) (hM : Met l y ws rm Pc Qc mc ms free) (cw : vx_CVW R s args own C index y bytes maxL ret hh ws rm mc ms n) (hp : PreV s H C b Pc As)
    (hg : g.method = m) (hn : As.length = n) (hsize : g.locals.size = nL) (hstack : g.stack = As.reverse ++ .ref b :: rest) (hW : 2 * g.monitorRoom + (rest.map fun v => v.category).sum ≤ 8) (hdg : decode cc g.pc = .ok (.invokevirtual index, 3)) (hf : cells + mc ≤ R.cells ∧ slots + ms ≤ R.slots) :
    va_Run p l e R s m args below meth c H locs cells slots mc ms g rest (Qc (Value.ref b :: As).toArray) free := by
  obtain ⟨⟨hrc, hrs, hfr, hlo, hws, hcw⟩, hcode, hini, hy, hlen, hl, hin, hse⟩ := cw
  have hK : Back l R p e below s args y 3 8 (PreOf R mc ms Pc) (PostOf Qc mc ms free) := va_backW (hh := hh) (bytes := bytes) (maxL := maxL) (ret := ret) hM hp.1 hrc hrs hfr hlo hws hcw (fun a' U hW => word_at hW (Or.inl (by first | rfl | simp [Cond.onTables, Cond.keeps, Cond.steady])) hini)
  obtain ⟨hx, hb, hml, ho, -⟩ := S
  obtain ⟨-, ⟨cellB, hcB, hoB, hclB⟩, hPc⟩ := hp
  intro T hT X
  obtain ⟨v, vm₁, ⟨U', l2, c2, s2⟩, hW₁, X', ⟨g', mk, t, L, e1, e2, hq, h1, hL, h2, h3⟩, st⟩ := vx_callVW X hx (C := C) (hh := hh) (bytes := bytes) (maxL := maxL) (ret := ret) ho hl hin hse hcode hy hK (by rw [hT]; exact hcB) hoB hclB hg (hsize.trans hml.symm) (argsL := As) (rest := rest) (fun sig h => hn.trans (hlen sig h)) hstack hW (by rw [hb]; exact hdg)
    (fun vm₁ hW₁ => ⟨hf.1, hf.2, hPc (T.setVm vm₁) hT hW₁⟩)
  dsimp only [Pt.U, Pt.locs, Pt.cells, Pt.slots] at X' e1 e2 h1 h2 h3 st
  subst h1; subst h2; subst h3
  exact ⟨v, (T.setVm vm₁).calling g' mk (Value.ref b :: As).toArray, t, U', L, hT, X', hL, e1, e2, hq, st⟩
section
variable {y : MethodName} {bytes cc : ByteArray} {maxL nL mc ms n index : Nat} {ret : Option FieldType} {ws : List Cond} {rm : Room} {Pc : Array Value → State → Prop} {Qc : Array Value → State → Outcome → State → Prop} {XC : String → State → State → Prop} {free : Addr → Prop} {Ts : List Cond} {own C : String} {b : Addr} {As rest : List Value} {g : JFrame}
theorem vx_runVX {hh : List (Nat × Nat × Nat × Nat)} (S : CallFix p m c cc nL s args Ts own) (hM : vx_Met l y ws rm Pc Qc XC mc ms free) (cw : vx_CVW R s args own C index y bytes maxL ret hh ws rm mc ms n) (hp : PreV s H C b Pc As)
    (hg : g.method = m) (hn : As.length = n) (hsize : g.locals.size = nL) (hstack : g.stack = As.reverse ++ .ref b :: rest) (hW : 2 * g.monitorRoom + (rest.map fun v => v.category).sum ≤ 8) (hdg : decode cc g.pc = .ok (.invokevirtual index, 3)) (hf : cells + mc ≤ R.cells ∧ slots + ms ≤ R.slots) :
    vx_Run p l e R s m args below meth c H locs cells slots mc ms g rest (Qc (Value.ref b :: As).toArray) XC free := by
  obtain ⟨⟨hrc, hrs, hfr, hlo, hws, hcw⟩, hcode, hini, hy, hlen, hl, hin, hse⟩ := cw
  have hK : vx_Back l R p e below s args y 3 8 (PreOf R mc ms Pc) (PostOf Qc mc ms free) (vx_Post XC mc ms free) := vx_backW (hh := hh) (bytes := bytes) (maxL := maxL) (ret := ret) hM hp.1 hrc hrs hfr hlo hws hcw (fun a' U hW => word_at hW (Or.inl (by first | rfl | simp [Cond.onTables, Cond.keeps, Cond.steady])) hini)
  obtain ⟨hx, hb, hml, ho, -⟩ := S
  obtain ⟨-, ⟨cellB, hcB, hoB, hclB⟩, hPc⟩ := hp
  intro T hT X
  rcases vx_callVX X hx (C := C) (hh := hh) (bytes := bytes) (maxL := maxL) (ret := ret) ho hl hin hse hcode hy hK (by rw [hT]; exact hcB) hoB hclB hg (hsize.trans hml.symm) (argsL := As) (rest := rest) (fun sig h => hn.trans (hlen sig h)) hstack hW (by rw [hb]; exact hdg)
    (fun vm₁ hW₁ => ⟨hf.1, hf.2, hPc (T.setVm vm₁) hT hW₁⟩) with ⟨v, vm₁, ⟨U', l2, c2, s2⟩, hW₁, X', ⟨g', mk, t, L, e1, e2, hq, h1, hL, h2, h3⟩, st⟩ | ⟨q, vm₁, ⟨U', l2, c2, s2⟩, hW₁, X', ⟨g', mk, t, L, E, ce, e1, e2, hq, hce, hcv, hcl, h1, hL, h2, h3⟩, st⟩
  · dsimp only [Pt.U, Pt.locs, Pt.cells, Pt.slots] at X' e1 e2 h1 h2 h3 st
    subst h1; subst h2; subst h3
    exact Or.inl ⟨v, (T.setVm vm₁).calling g' mk (Value.ref b :: As).toArray, t, U', L, hT, X', hL, e1, e2, hq, st⟩
  · dsimp only [Pt.U, Pt.locs, Pt.cells, Pt.slots] at X' e1 e2 h1 h2 h3 st hcl
    subst h1; subst h2; subst h3
    exact Or.inr ⟨q, (T.setVm vm₁).calling g' mk (Value.ref b :: As).toArray, t, U', L, E, ce, hT, X', hL, e1, e2, hq, hce, hcv, vx_cls hW₁ hcl, st⟩
theorem vx_runSX {hh : List (Nat × Nat × Nat × Nat)} (S : CallFix p m c cc nL s args Ts own) (hM : vx_Met l y ws rm Pc Qc XC mc ms free) (cw : vx_CSW R s args own index y bytes maxL ret hh ws rm mc ms n) (hp : PreS s H Pc As)
    (hg : g.method = m) (hn : As.length = n) (hsize : g.locals.size = nL) (hstack : g.stack = As.reverse ++ rest) (hW : 2 * g.monitorRoom + (rest.map fun v => v.category).sum ≤ 8) (hdg : decode cc g.pc = .ok (.invokestatic index, 3)) (hf : cells + mc ≤ R.cells ∧ slots + ms ≤ R.slots) :
    vx_Run p l e R s m args below meth c H locs cells slots mc ms g rest (Qc As.toArray) XC free := by
  obtain ⟨⟨hrc, hrs, hfr, hlo, hws, hcw⟩, hcode, hini, hy, hlen, hl, hstt⟩ := cw
  have hK : vx_Back l R p e below s args y 3 8 (PreOf R mc ms Pc) (PostOf Qc mc ms free) (vx_Post XC mc ms free) := vx_backW (hh := hh) (bytes := bytes) (maxL := maxL) (ret := ret) hM hp.1 hrc hrs hfr hlo hws hcw (fun a' U hW => word_at hW (Or.inl (by first | rfl | simp [Cond.onTables, Cond.keeps, Cond.steady])) hini)
  obtain ⟨hx, hb, hml, ho, -⟩ := S
  intro T hT X
  rcases vx_callSX X hx (hh := hh) (bytes := bytes) (maxL := maxL) (ret := ret) ho hl hstt hini hcode hy hK hg (hsize.trans hml.symm) (argsL := As) (rest := rest) (fun sig h => hn.trans (hlen sig h)) hstack hW (by rw [hb]; exact hdg)
    (fun vm₁ hW₁ => ⟨hf.1, hf.2, hp.2 (T.setVm vm₁) hT hW₁⟩) with ⟨v, vm₁, ⟨U', l2, c2, s2⟩, hW₁, X', ⟨g', mk, t, L, e1, e2, hq, h1, hL, h2, h3⟩, st⟩ | ⟨q, vm₁, ⟨U', l2, c2, s2⟩, hW₁, X', ⟨g', mk, t, L, E, ce, e1, e2, hq, hce, hcv, hcl, h1, hL, h2, h3⟩, st⟩
  · dsimp only [Pt.U, Pt.locs, Pt.cells, Pt.slots] at X' e1 e2 h1 h2 h3 st
    subst h1; subst h2; subst h3
    exact Or.inl ⟨v, (T.setVm vm₁).calling g' mk As.toArray, t, U', L, hT, X', hL, e1, e2, hq, st⟩
  · dsimp only [Pt.U, Pt.locs, Pt.cells, Pt.slots] at X' e1 e2 h1 h2 h3 st hcl
    subst h1; subst h2; subst h3
    exact Or.inr ⟨q, (T.setVm vm₁).calling g' mk As.toArray, t, U', L, E, ce, hT, X', hL, e1, e2, hq, hce, hcv, vx_cls hW₁ hcl, st⟩
end
end VXH
theorem vx_ofWH {l : Launch} {y : MethodName} {ws ws' : List Cond} {rm : Room} {Pc : Array Value → State → Prop} {Qc : Array Value → State → Outcome → State → Prop} {XC : String → State → State → Prop} {mc ms : Nat} {free : Addr → Prop} {cc : ByteArray} {maxL : Nat} {ret : Option FieldType} {hh : List (Nat × Nat × Nat × Nat)}
    (hy : plainName y.cls = true) (hw : ws = Cond.codeWith y cc maxL ret hh :: ws')
    (body : ∀ p e s m args below meth c s₁, BodyLoose p l y (headSpec ws rm) cc maxL ret e s m args below meth c s₁ → c.maxLocals = maxL → Pc args s →
      W p l e (headSpec ws rm).room s m args below meth c s.heap [] 0 0 (vx_MQ below Qc XC args s mc ms free) (entryFrame m args maxL)) : vx_Met l y ws rm Pc Qc XC mc ms free := by
  refine MetFree.of_bodyS (code := cc) (maxLocals := maxL) (ret := ret) hy ?_ ?_
  · intro args s m h hn
    obtain ⟨m9, meth, c, hn9, h1, h2, h3, h4, -, h5, h6, -⟩ := Cond.codeWith_spec (atoms_spec (ws := ws) h _ (by rw [hw]; exact List.mem_cons_self))
    cases hn.symm.trans hn9
    exact ⟨meth, c, h1, h2, h3, h4, h5, h6⟩
  · intro p e s m args below meth c s₁ B hml hP _
    have hh0 : s₁.heap = s.heap := by rw [B.state]; rfl
    obtain ⟨t, a1, o, b1, b2, b3⟩ := body p e s m args below meth c s₁ B hml hP s₁ hh0 (Stand.of_body B)
    exact ⟨t, o, a1, b1, b2, b3⟩
/-! ===== END ===== -/
end
section
-- ===== PART A: goes FIRST, ahead of the names: the tables' words, and 'selects' of the private methods out of them =====
/-- a private method of a class that the tables say can be made, by its rows of tables_1 -/
def lw_okq (q : MethodName × Nat) : Prop := (q.1.cls ≠ "java/lang/invoke/MethodHandle" ∧ q.1.cls ≠ "java/lang/invoke/VarHandle") ∧ Cond.instantiable q.1.cls q.2 ∈ tables_1 ∧ Cond.privateMethod q.1 ∈ tables_1 ∧ Cond.instanceMethod q.1 ∈ tables_1
theorem lw_p0 : lw_okq (⟨"PromiseFlows$Orders", "numberIn", "(I)I"⟩, 7) := ⟨⟨by decide +kernel, by decide +kernel⟩, List.mem_of_getElem? (i := 81) (by decide +kernel), List.mem_of_getElem? (i := 171) (by decide +kernel), List.mem_of_getElem? (i := 172) (by decide +kernel)⟩
theorem lw_p1 : lw_okq (⟨"PromiseFlows$Arrivals", "allFree", "()I"⟩, 5) := ⟨⟨by decide +kernel, by decide +kernel⟩, List.mem_of_getElem? (i := 53) (by decide +kernel), List.mem_of_getElem? (i := 175) (by decide +kernel), List.mem_of_getElem? (i := 176) (by decide +kernel)⟩
theorem lw_p2 : lw_okq (⟨"PromiseFlows$Arrivals", "free", "(I)I"⟩, 5) := ⟨⟨by decide +kernel, by decide +kernel⟩, List.mem_of_getElem? (i := 53) (by decide +kernel), List.mem_of_getElem? (i := 179) (by decide +kernel), List.mem_of_getElem? (i := 180) (by decide +kernel)⟩
theorem lw_p3 : lw_okq (⟨"PromiseFlows", "allCoveredDemands", "()I"⟩, 4) := ⟨⟨by decide +kernel, by decide +kernel⟩, List.mem_of_getElem? (i := 19) (by decide +kernel), List.mem_of_getElem? (i := 183) (by decide +kernel), List.mem_of_getElem? (i := 184) (by decide +kernel)⟩
theorem lw_p4 : lw_okq (⟨"PromiseFlows", "demandsOf", "(I)I"⟩, 4) := ⟨⟨by decide +kernel, by decide +kernel⟩, List.mem_of_getElem? (i := 19) (by decide +kernel), List.mem_of_getElem? (i := 187) (by decide +kernel), List.mem_of_getElem? (i := 188) (by decide +kernel)⟩
theorem lw_p5 : lw_okq (⟨"PromiseFlows$Goods", "demandsOf", "(I)I"⟩, 5) := ⟨⟨by decide +kernel, by decide +kernel⟩, List.mem_of_getElem? (i := 27) (by decide +kernel), List.mem_of_getElem? (i := 191) (by decide +kernel), List.mem_of_getElem? (i := 192) (by decide +kernel)⟩
theorem lw_p6 : lw_okq (⟨"PromiseFlows$Goods", "isKit", "(I)Z"⟩, 5) := ⟨⟨by decide +kernel, by decide +kernel⟩, List.mem_of_getElem? (i := 27) (by decide +kernel), List.mem_of_getElem? (i := 195) (by decide +kernel), List.mem_of_getElem? (i := 196) (by decide +kernel)⟩
theorem lw_p7 : lw_okq (⟨"PromiseFlows", "wantedBy", "(II)I"⟩, 4) := ⟨⟨by decide +kernel, by decide +kernel⟩, List.mem_of_getElem? (i := 19) (by decide +kernel), List.mem_of_getElem? (i := 199) (by decide +kernel), List.mem_of_getElem? (i := 200) (by decide +kernel)⟩
theorem lw_p8 : lw_okq (⟨"PromiseFlows$Goods", "numberForOne", "(II)I"⟩, 5) := ⟨⟨by decide +kernel, by decide +kernel⟩, List.mem_of_getElem? (i := 27) (by decide +kernel), List.mem_of_getElem? (i := 203) (by decide +kernel), List.mem_of_getElem? (i := 204) (by decide +kernel)⟩
theorem lw_p9 : lw_okq (⟨"java/lang/Throwable", "fillInStackTrace", "(I)Ljava/lang/Throwable;"⟩, 6) := ⟨⟨by decide +kernel, by decide +kernel⟩, List.mem_of_getElem? (i := 263) (by decide +kernel), List.mem_of_getElem? (i := 261) (by decide +kernel), List.mem_of_getElem? (i := 262) (by decide +kernel)⟩
theorem lw_p10 : lw_okq (⟨"PromiseFlows", "needNoKit", "(I)V"⟩, 4) := ⟨⟨by decide +kernel, by decide +kernel⟩, List.mem_of_getElem? (i := 19) (by decide +kernel), List.mem_of_getElem? (i := 297) (by decide +kernel), List.mem_of_getElem? (i := 298) (by decide +kernel)⟩
theorem lw_p11 : lw_okq (⟨"PromiseFlows$Arrivals", "add", "(III)I"⟩, 5) := ⟨⟨by decide +kernel, by decide +kernel⟩, List.mem_of_getElem? (i := 53) (by decide +kernel), List.mem_of_getElem? (i := 334) (by decide +kernel), List.mem_of_getElem? (i := 335) (by decide +kernel)⟩
theorem lw_p12 : lw_okq (⟨"PromiseFlows", "settle", "()I"⟩, 4) := ⟨⟨by decide +kernel, by decide +kernel⟩, List.mem_of_getElem? (i := 19) (by decide +kernel), List.mem_of_getElem? (i := 338) (by decide +kernel), List.mem_of_getElem? (i := 339) (by decide +kernel)⟩
theorem lw_p13 : lw_okq (⟨"PromiseFlows$Takings", "clear", "(LPromiseFlows$Arrivals;)V"⟩, 10) := ⟨⟨by decide +kernel, by decide +kernel⟩, List.mem_of_getElem? (i := 115) (by decide +kernel), List.mem_of_getElem? (i := 342) (by decide +kernel), List.mem_of_getElem? (i := 343) (by decide +kernel)⟩
theorem lw_p14 : lw_okq (⟨"PromiseFlows$Arrivals", "sortByTime", "([I)V"⟩, 5) := ⟨⟨by decide +kernel, by decide +kernel⟩, List.mem_of_getElem? (i := 53) (by decide +kernel), List.mem_of_getElem? (i := 346) (by decide +kernel), List.mem_of_getElem? (i := 347) (by decide +kernel)⟩
theorem lw_p15 : lw_okq (⟨"PromiseFlows", "joinsCovered", "(I)Z"⟩, 4) := ⟨⟨by decide +kernel, by decide +kernel⟩, List.mem_of_getElem? (i := 19) (by decide +kernel), List.mem_of_getElem? (i := 351) (by decide +kernel), List.mem_of_getElem? (i := 352) (by decide +kernel)⟩
def lw_privs_1 : List (MethodName × Nat) := [(⟨"PromiseFlows$Orders", "numberIn", "(I)I"⟩, 7), (⟨"PromiseFlows$Arrivals", "allFree", "()I"⟩, 5), (⟨"PromiseFlows$Arrivals", "free", "(I)I"⟩, 5), (⟨"PromiseFlows", "allCoveredDemands", "()I"⟩, 4), (⟨"PromiseFlows", "demandsOf", "(I)I"⟩, 4), (⟨"PromiseFlows$Goods", "demandsOf", "(I)I"⟩, 5), (⟨"PromiseFlows$Goods", "isKit", "(I)Z"⟩, 5), (⟨"PromiseFlows", "wantedBy", "(II)I"⟩, 4), (⟨"PromiseFlows$Goods", "numberForOne", "(II)I"⟩, 5), (⟨"java/lang/Throwable", "fillInStackTrace", "(I)Ljava/lang/Throwable;"⟩, 6), (⟨"PromiseFlows", "needNoKit", "(I)V"⟩, 4), (⟨"PromiseFlows$Arrivals", "add", "(III)I"⟩, 5), (⟨"PromiseFlows", "settle", "()I"⟩, 4), (⟨"PromiseFlows$Takings", "clear", "(LPromiseFlows$Arrivals;)V"⟩, 10), (⟨"PromiseFlows$Arrivals", "sortByTime", "([I)V"⟩, 5), (⟨"PromiseFlows", "joinsCovered", "(I)Z"⟩, 4)]
theorem lw_r1 : ∀ q ∈ lw_privs_1, lw_okq q := List.forall_mem_cons.mpr ⟨lw_p0, List.forall_mem_cons.mpr ⟨lw_p1, List.forall_mem_cons.mpr ⟨lw_p2, List.forall_mem_cons.mpr ⟨lw_p3, List.forall_mem_cons.mpr ⟨lw_p4, List.forall_mem_cons.mpr ⟨lw_p5, List.forall_mem_cons.mpr ⟨lw_p6, List.forall_mem_cons.mpr ⟨lw_p7, List.forall_mem_cons.mpr ⟨lw_p8, List.forall_mem_cons.mpr ⟨lw_p9, List.forall_mem_cons.mpr ⟨lw_p10, List.forall_mem_cons.mpr ⟨lw_p11, List.forall_mem_cons.mpr ⟨lw_p12, List.forall_mem_cons.mpr ⟨lw_p13, List.forall_mem_cons.mpr ⟨lw_p14, List.forall_mem_cons.mpr ⟨lw_p15, fun _ h => absurd h List.not_mem_nil⟩⟩⟩⟩⟩⟩⟩⟩⟩⟩⟩⟩⟩⟩⟩⟩
theorem lw_p16 : lw_okq (⟨"PromiseFlows$Takings", "save", "()V"⟩, 10) := ⟨⟨by decide +kernel, by decide +kernel⟩, List.mem_of_getElem? (i := 115) (by decide +kernel), List.mem_of_getElem? (i := 355) (by decide +kernel), List.mem_of_getElem? (i := 356) (by decide +kernel)⟩
theorem lw_p17 : lw_okq (⟨"PromiseFlows$Goods", "demandGood", "(II)I"⟩, 5) := ⟨⟨by decide +kernel, by decide +kernel⟩, List.mem_of_getElem? (i := 27) (by decide +kernel), List.mem_of_getElem? (i := 365) (by decide +kernel), List.mem_of_getElem? (i := 366) (by decide +kernel)⟩
theorem lw_p18 : lw_okq (⟨"PromiseFlows", "usableFor", "(II)I"⟩, 4) := ⟨⟨by decide +kernel, by decide +kernel⟩, List.mem_of_getElem? (i := 19) (by decide +kernel), List.mem_of_getElem? (i := 369) (by decide +kernel), List.mem_of_getElem? (i := 370) (by decide +kernel)⟩
theorem lw_p19 : lw_okq (⟨"PromiseFlows$Goods", "meets", "(II)Z"⟩, 5) := ⟨⟨by decide +kernel, by decide +kernel⟩, List.mem_of_getElem? (i := 27) (by decide +kernel), List.mem_of_getElem? (i := 373) (by decide +kernel), List.mem_of_getElem? (i := 374) (by decide +kernel)⟩
theorem lw_p20 : lw_okq (⟨"PromiseFlows$Goods", "standsInFor", "(II)Z"⟩, 5) := ⟨⟨by decide +kernel, by decide +kernel⟩, List.mem_of_getElem? (i := 27) (by decide +kernel), List.mem_of_getElem? (i := 377) (by decide +kernel), List.mem_of_getElem? (i := 378) (by decide +kernel)⟩
theorem lw_p21 : lw_okq (⟨"PromiseFlows$Takings", "take", "(III)I"⟩, 10) := ⟨⟨by decide +kernel, by decide +kernel⟩, List.mem_of_getElem? (i := 115) (by decide +kernel), List.mem_of_getElem? (i := 381) (by decide +kernel), List.mem_of_getElem? (i := 382) (by decide +kernel)⟩
theorem lw_p22 : lw_okq (⟨"PromiseFlows$Takings", "takeFrom", "(IIII)I"⟩, 10) := ⟨⟨by decide +kernel, by decide +kernel⟩, List.mem_of_getElem? (i := 115) (by decide +kernel), List.mem_of_getElem? (i := 388) (by decide +kernel), List.mem_of_getElem? (i := 389) (by decide +kernel)⟩
theorem lw_p23 : lw_okq (⟨"PromiseFlows$Takings", "spread", "(II)I"⟩, 10) := ⟨⟨by decide +kernel, by decide +kernel⟩, List.mem_of_getElem? (i := 115) (by decide +kernel), List.mem_of_getElem? (i := 393) (by decide +kernel), List.mem_of_getElem? (i := 394) (by decide +kernel)⟩
theorem lw_p24 : lw_okq (⟨"PromiseFlows$Takings", "reach", "(IIII)I"⟩, 10) := ⟨⟨by decide +kernel, by decide +kernel⟩, List.mem_of_getElem? (i := 115) (by decide +kernel), List.mem_of_getElem? (i := 397) (by decide +kernel), List.mem_of_getElem? (i := 398) (by decide +kernel)⟩
theorem lw_p25 : lw_okq (⟨"PromiseFlows$Takings", "nearestRoom", "(I)I"⟩, 10) := ⟨⟨by decide +kernel, by decide +kernel⟩, List.mem_of_getElem? (i := 115) (by decide +kernel), List.mem_of_getElem? (i := 401) (by decide +kernel), List.mem_of_getElem? (i := 402) (by decide +kernel)⟩
theorem lw_p26 : lw_okq (⟨"PromiseFlows$Takings", "shift", "(III)I"⟩, 10) := ⟨⟨by decide +kernel, by decide +kernel⟩, List.mem_of_getElem? (i := 115) (by decide +kernel), List.mem_of_getElem? (i := 411) (by decide +kernel), List.mem_of_getElem? (i := 412) (by decide +kernel)⟩
theorem lw_p27 : lw_okq (⟨"PromiseFlows$Takings", "restore", "()V"⟩, 10) := ⟨⟨by decide +kernel, by decide +kernel⟩, List.mem_of_getElem? (i := 115) (by decide +kernel), List.mem_of_getElem? (i := 418) (by decide +kernel), List.mem_of_getElem? (i := 419) (by decide +kernel)⟩
theorem lw_p28 : lw_okq (⟨"PromiseFlows", "makePlan", "()V"⟩, 4) := ⟨⟨by decide +kernel, by decide +kernel⟩, List.mem_of_getElem? (i := 19) (by decide +kernel), List.mem_of_getElem? (i := 422) (by decide +kernel), List.mem_of_getElem? (i := 423) (by decide +kernel)⟩
theorem lw_p29 : lw_okq (⟨"PromiseFlows$Takings", "giveBack", "(I)V"⟩, 10) := ⟨⟨by decide +kernel, by decide +kernel⟩, List.mem_of_getElem? (i := 115) (by decide +kernel), List.mem_of_getElem? (i := 426) (by decide +kernel), List.mem_of_getElem? (i := 427) (by decide +kernel)⟩
theorem lw_p30 : lw_okq (⟨"PromiseFlows", "needArrival", "(I)V"⟩, 4) := ⟨⟨by decide +kernel, by decide +kernel⟩, List.mem_of_getElem? (i := 19) (by decide +kernel), List.mem_of_getElem? (i := 438) (by decide +kernel), List.mem_of_getElem? (i := 439) (by decide +kernel)⟩
theorem lw_p31 : lw_okq (⟨"PromiseFlows$Goods", "letStandIn", "(IIZ)V"⟩, 5) := ⟨⟨by decide +kernel, by decide +kernel⟩, List.mem_of_getElem? (i := 27) (by decide +kernel), List.mem_of_getElem? (i := 483) (by decide +kernel), List.mem_of_getElem? (i := 484) (by decide +kernel)⟩
def lw_privs_2 : List (MethodName × Nat) := [(⟨"PromiseFlows$Takings", "save", "()V"⟩, 10), (⟨"PromiseFlows$Goods", "demandGood", "(II)I"⟩, 5), (⟨"PromiseFlows", "usableFor", "(II)I"⟩, 4), (⟨"PromiseFlows$Goods", "meets", "(II)Z"⟩, 5), (⟨"PromiseFlows$Goods", "standsInFor", "(II)Z"⟩, 5), (⟨"PromiseFlows$Takings", "take", "(III)I"⟩, 10), (⟨"PromiseFlows$Takings", "takeFrom", "(IIII)I"⟩, 10), (⟨"PromiseFlows$Takings", "spread", "(II)I"⟩, 10), (⟨"PromiseFlows$Takings", "reach", "(IIII)I"⟩, 10), (⟨"PromiseFlows$Takings", "nearestRoom", "(I)I"⟩, 10), (⟨"PromiseFlows$Takings", "shift", "(III)I"⟩, 10), (⟨"PromiseFlows$Takings", "restore", "()V"⟩, 10), (⟨"PromiseFlows", "makePlan", "()V"⟩, 4), (⟨"PromiseFlows$Takings", "giveBack", "(I)V"⟩, 10), (⟨"PromiseFlows", "needArrival", "(I)V"⟩, 4), (⟨"PromiseFlows$Goods", "letStandIn", "(IIZ)V"⟩, 5)]
theorem lw_r2 : ∀ q ∈ lw_privs_2, lw_okq q := List.forall_mem_cons.mpr ⟨lw_p16, List.forall_mem_cons.mpr ⟨lw_p17, List.forall_mem_cons.mpr ⟨lw_p18, List.forall_mem_cons.mpr ⟨lw_p19, List.forall_mem_cons.mpr ⟨lw_p20, List.forall_mem_cons.mpr ⟨lw_p21, List.forall_mem_cons.mpr ⟨lw_p22, List.forall_mem_cons.mpr ⟨lw_p23, List.forall_mem_cons.mpr ⟨lw_p24, List.forall_mem_cons.mpr ⟨lw_p25, List.forall_mem_cons.mpr ⟨lw_p26, List.forall_mem_cons.mpr ⟨lw_p27, List.forall_mem_cons.mpr ⟨lw_p28, List.forall_mem_cons.mpr ⟨lw_p29, List.forall_mem_cons.mpr ⟨lw_p30, List.forall_mem_cons.mpr ⟨lw_p31, fun _ h => absurd h List.not_mem_nil⟩⟩⟩⟩⟩⟩⟩⟩⟩⟩⟩⟩⟩⟩⟩⟩
theorem lw_p32 : lw_okq (⟨"PromiseFlows$Goods", "hasPart", "(II)Z"⟩, 5) := ⟨⟨by decide +kernel, by decide +kernel⟩, List.mem_of_getElem? (i := 27) (by decide +kernel), List.mem_of_getElem? (i := 494) (by decide +kernel), List.mem_of_getElem? (i := 495) (by decide +kernel)⟩
theorem lw_p33 : lw_okq (⟨"PromiseFlows$Goods", "isPart", "(I)Z"⟩, 5) := ⟨⟨by decide +kernel, by decide +kernel⟩, List.mem_of_getElem? (i := 27) (by decide +kernel), List.mem_of_getElem? (i := 499) (by decide +kernel), List.mem_of_getElem? (i := 500) (by decide +kernel)⟩
theorem lw_p34 : lw_okq (⟨"PromiseFlows$Goods", "isInStandIn", "(I)Z"⟩, 5) := ⟨⟨by decide +kernel, by decide +kernel⟩, List.mem_of_getElem? (i := 27) (by decide +kernel), List.mem_of_getElem? (i := 504) (by decide +kernel), List.mem_of_getElem? (i := 505) (by decide +kernel)⟩
theorem lw_p35 : lw_okq (⟨"PromiseFlows$Arrivals", "has", "(I)Z"⟩, 5) := ⟨⟨by decide +kernel, by decide +kernel⟩, List.mem_of_getElem? (i := 53) (by decide +kernel), List.mem_of_getElem? (i := 508) (by decide +kernel), List.mem_of_getElem? (i := 509) (by decide +kernel)⟩
theorem lw_p36 : lw_okq (⟨"PromiseFlows$Orders", "has", "(I)Z"⟩, 7) := ⟨⟨by decide +kernel, by decide +kernel⟩, List.mem_of_getElem? (i := 81) (by decide +kernel), List.mem_of_getElem? (i := 512) (by decide +kernel), List.mem_of_getElem? (i := 513) (by decide +kernel)⟩
theorem lw_p37 : lw_okq (⟨"PromiseFlows$Goods", "addPart", "(III)I"⟩, 5) := ⟨⟨by decide +kernel, by decide +kernel⟩, List.mem_of_getElem? (i := 27) (by decide +kernel), List.mem_of_getElem? (i := 518) (by decide +kernel), List.mem_of_getElem? (i := 519) (by decide +kernel)⟩
theorem lw_p38 : lw_okq (⟨"PromiseFlows$Orders", "write", "(IIII)I"⟩, 7) := ⟨⟨by decide +kernel, by decide +kernel⟩, List.mem_of_getElem? (i := 81) (by decide +kernel), List.mem_of_getElem? (i := 530) (by decide +kernel), List.mem_of_getElem? (i := 531) (by decide +kernel)⟩
theorem lw_p39 : lw_okq (⟨"PromiseFlows$Orders", "admit", "()V"⟩, 7) := ⟨⟨by decide +kernel, by decide +kernel⟩, List.mem_of_getElem? (i := 81) (by decide +kernel), List.mem_of_getElem? (i := 534) (by decide +kernel), List.mem_of_getElem? (i := 535) (by decide +kernel)⟩
theorem lw_p40 : lw_okq (⟨"PromiseFlows", "needOrder", "(I)V"⟩, 4) := ⟨⟨by decide +kernel, by decide +kernel⟩, List.mem_of_getElem? (i := 19) (by decide +kernel), List.mem_of_getElem? (i := 545) (by decide +kernel), List.mem_of_getElem? (i := 546) (by decide +kernel)⟩
theorem lw_p41 : lw_okq (⟨"PromiseFlows", "greatestFurther", "(II)I"⟩, 4) := ⟨⟨by decide +kernel, by decide +kernel⟩, List.mem_of_getElem? (i := 19) (by decide +kernel), List.mem_of_getElem? (i := 558) (by decide +kernel), List.mem_of_getElem? (i := 559) (by decide +kernel)⟩
theorem lw_p42 : lw_okq (⟨"PromiseFlows$Takings", "mostFrom", "(I)I"⟩, 10) := ⟨⟨by decide +kernel, by decide +kernel⟩, List.mem_of_getElem? (i := 115) (by decide +kernel), List.mem_of_getElem? (i := 564) (by decide +kernel), List.mem_of_getElem? (i := 565) (by decide +kernel)⟩
theorem lw_p43 : lw_okq (⟨"PromiseFlows$Arrivals", "broughtBy", "(I)I"⟩, 5) := ⟨⟨by decide +kernel, by decide +kernel⟩, List.mem_of_getElem? (i := 53) (by decide +kernel), List.mem_of_getElem? (i := 581) (by decide +kernel), List.mem_of_getElem? (i := 582) (by decide +kernel)⟩
theorem lw_p44 : lw_okq (⟨"PromiseFlows", "takesFrom", "(II)Z"⟩, 4) := ⟨⟨by decide +kernel, by decide +kernel⟩, List.mem_of_getElem? (i := 19) (by decide +kernel), List.mem_of_getElem? (i := 615) (by decide +kernel), List.mem_of_getElem? (i := 616) (by decide +kernel)⟩
theorem lw_p45 : lw_okq (⟨"PromiseFlows$Takings", "takesFrom", "(II)Z"⟩, 10) := ⟨⟨by decide +kernel, by decide +kernel⟩, List.mem_of_getElem? (i := 115) (by decide +kernel), List.mem_of_getElem? (i := 619) (by decide +kernel), List.mem_of_getElem? (i := 620) (by decide +kernel)⟩
theorem lw_p46 : lw_okq (⟨"PromiseFlows$Takings", "partsOf", "(I)I"⟩, 10) := ⟨⟨by decide +kernel, by decide +kernel⟩, List.mem_of_getElem? (i := 115) (by decide +kernel), List.mem_of_getElem? (i := 631) (by decide +kernel), List.mem_of_getElem? (i := 632) (by decide +kernel)⟩
theorem lw_p47 : lw_okq (⟨"PromiseFlows$Takings", "partOf", "(IIZ)I"⟩, 10) := ⟨⟨by decide +kernel, by decide +kernel⟩, List.mem_of_getElem? (i := 115) (by decide +kernel), List.mem_of_getElem? (i := 635) (by decide +kernel), List.mem_of_getElem? (i := 636) (by decide +kernel)⟩
def lw_privs_3 : List (MethodName × Nat) := [(⟨"PromiseFlows$Goods", "hasPart", "(II)Z"⟩, 5), (⟨"PromiseFlows$Goods", "isPart", "(I)Z"⟩, 5), (⟨"PromiseFlows$Goods", "isInStandIn", "(I)Z"⟩, 5), (⟨"PromiseFlows$Arrivals", "has", "(I)Z"⟩, 5), (⟨"PromiseFlows$Orders", "has", "(I)Z"⟩, 7), (⟨"PromiseFlows$Goods", "addPart", "(III)I"⟩, 5), (⟨"PromiseFlows$Orders", "write", "(IIII)I"⟩, 7), (⟨"PromiseFlows$Orders", "admit", "()V"⟩, 7), (⟨"PromiseFlows", "needOrder", "(I)V"⟩, 4), (⟨"PromiseFlows", "greatestFurther", "(II)I"⟩, 4), (⟨"PromiseFlows$Takings", "mostFrom", "(I)I"⟩, 10), (⟨"PromiseFlows$Arrivals", "broughtBy", "(I)I"⟩, 5), (⟨"PromiseFlows", "takesFrom", "(II)Z"⟩, 4), (⟨"PromiseFlows$Takings", "takesFrom", "(II)Z"⟩, 10), (⟨"PromiseFlows$Takings", "partsOf", "(I)I"⟩, 10), (⟨"PromiseFlows$Takings", "partOf", "(IIZ)I"⟩, 10)]
theorem lw_r3 : ∀ q ∈ lw_privs_3, lw_okq q := List.forall_mem_cons.mpr ⟨lw_p32, List.forall_mem_cons.mpr ⟨lw_p33, List.forall_mem_cons.mpr ⟨lw_p34, List.forall_mem_cons.mpr ⟨lw_p35, List.forall_mem_cons.mpr ⟨lw_p36, List.forall_mem_cons.mpr ⟨lw_p37, List.forall_mem_cons.mpr ⟨lw_p38, List.forall_mem_cons.mpr ⟨lw_p39, List.forall_mem_cons.mpr ⟨lw_p40, List.forall_mem_cons.mpr ⟨lw_p41, List.forall_mem_cons.mpr ⟨lw_p42, List.forall_mem_cons.mpr ⟨lw_p43, List.forall_mem_cons.mpr ⟨lw_p44, List.forall_mem_cons.mpr ⟨lw_p45, List.forall_mem_cons.mpr ⟨lw_p46, List.forall_mem_cons.mpr ⟨lw_p47, fun _ h => absurd h List.not_mem_nil⟩⟩⟩⟩⟩⟩⟩⟩⟩⟩⟩⟩⟩⟩⟩⟩
theorem lw_p48 : lw_okq (⟨"PromiseFlowsModel", "isKit", "(I)Z"⟩, 29) := ⟨⟨by decide +kernel, by decide +kernel⟩, List.mem_of_getElem? (i := 653) (by decide +kernel), List.mem_of_getElem? (i := 763) (by decide +kernel), List.mem_of_getElem? (i := 764) (by decide +kernel)⟩
theorem lw_p49 : lw_okq (⟨"PromiseFlowsModel", "cover", "()I"⟩, 29) := ⟨⟨by decide +kernel, by decide +kernel⟩, List.mem_of_getElem? (i := 653) (by decide +kernel), List.mem_of_getElem? (i := 767) (by decide +kernel), List.mem_of_getElem? (i := 768) (by decide +kernel)⟩
theorem lw_p50 : lw_okq (⟨"PromiseFlowsModel", "next", "(IZ)I"⟩, 29) := ⟨⟨by decide +kernel, by decide +kernel⟩, List.mem_of_getElem? (i := 653) (by decide +kernel), List.mem_of_getElem? (i := 771) (by decide +kernel), List.mem_of_getElem? (i := 772) (by decide +kernel)⟩
theorem lw_p51 : lw_okq (⟨"PromiseFlowsModel", "addOrder", "(IIII)V"⟩, 29) := ⟨⟨by decide +kernel, by decide +kernel⟩, List.mem_of_getElem? (i := 653) (by decide +kernel), List.mem_of_getElem? (i := 775) (by decide +kernel), List.mem_of_getElem? (i := 776) (by decide +kernel)⟩
theorem lw_p52 : lw_okq (⟨"PromiseFlowsModel", "addDemand", "(IIJI)V"⟩, 29) := ⟨⟨by decide +kernel, by decide +kernel⟩, List.mem_of_getElem? (i := 653) (by decide +kernel), List.mem_of_getElem? (i := 779) (by decide +kernel), List.mem_of_getElem? (i := 780) (by decide +kernel)⟩
theorem lw_p53 : lw_okq (⟨"PromiseFlowsModel", "usable", "(II)I"⟩, 29) := ⟨⟨by decide +kernel, by decide +kernel⟩, List.mem_of_getElem? (i := 653) (by decide +kernel), List.mem_of_getElem? (i := 783) (by decide +kernel), List.mem_of_getElem? (i := 784) (by decide +kernel)⟩
theorem lw_p54 : lw_okq (⟨"PromiseFlowsModel", "canBeMet", "()Z"⟩, 29) := ⟨⟨by decide +kernel, by decide +kernel⟩, List.mem_of_getElem? (i := 653) (by decide +kernel), List.mem_of_getElem? (i := 787) (by decide +kernel), List.mem_of_getElem? (i := 788) (by decide +kernel)⟩
theorem lw_p55 : lw_okq (⟨"PromiseFlowsModel", "slack", "(I)J"⟩, 29) := ⟨⟨by decide +kernel, by decide +kernel⟩, List.mem_of_getElem? (i := 653) (by decide +kernel), List.mem_of_getElem? (i := 791) (by decide +kernel), List.mem_of_getElem? (i := 792) (by decide +kernel)⟩
theorem lw_p56 : lw_okq (⟨"PromiseFlowsModel", "isArrival", "(I)Z"⟩, 29) := ⟨⟨by decide +kernel, by decide +kernel⟩, List.mem_of_getElem? (i := 653) (by decide +kernel), List.mem_of_getElem? (i := 799) (by decide +kernel), List.mem_of_getElem? (i := 800) (by decide +kernel)⟩
theorem lw_p57 : lw_okq (⟨"PromiseFlowsModel", "isPart", "(I)Z"⟩, 29) := ⟨⟨by decide +kernel, by decide +kernel⟩, List.mem_of_getElem? (i := 653) (by decide +kernel), List.mem_of_getElem? (i := 819) (by decide +kernel), List.mem_of_getElem? (i := 820) (by decide +kernel)⟩
theorem lw_p58 : lw_okq (⟨"PromiseFlowsModel", "isUsed", "(I)Z"⟩, 29) := ⟨⟨by decide +kernel, by decide +kernel⟩, List.mem_of_getElem? (i := 653) (by decide +kernel), List.mem_of_getElem? (i := 823) (by decide +kernel), List.mem_of_getElem? (i := 824) (by decide +kernel)⟩
theorem lw_p59 : lw_okq (⟨"PromiseFlowsModel", "collect", "()V"⟩, 29) := ⟨⟨by decide +kernel, by decide +kernel⟩, List.mem_of_getElem? (i := 653) (by decide +kernel), List.mem_of_getElem? (i := 831) (by decide +kernel), List.mem_of_getElem? (i := 832) (by decide +kernel)⟩
theorem lw_p60 : lw_okq (⟨"PromiseFlowsModel", "isOrder", "(I)Z"⟩, 29) := ⟨⟨by decide +kernel, by decide +kernel⟩, List.mem_of_getElem? (i := 653) (by decide +kernel), List.mem_of_getElem? (i := 839) (by decide +kernel), List.mem_of_getElem? (i := 840) (by decide +kernel)⟩
theorem lw_p61 : lw_okq (⟨"PromiseFlowsModel", "greatest", "(II)I"⟩, 29) := ⟨⟨by decide +kernel, by decide +kernel⟩, List.mem_of_getElem? (i := 653) (by decide +kernel), List.mem_of_getElem? (i := 847) (by decide +kernel), List.mem_of_getElem? (i := 848) (by decide +kernel)⟩
theorem lw_p62 : lw_okq (⟨"PromiseFlowsModel", "plan", "()V"⟩, 29) := ⟨⟨by decide +kernel, by decide +kernel⟩, List.mem_of_getElem? (i := 653) (by decide +kernel), List.mem_of_getElem? (i := 861) (by decide +kernel), List.mem_of_getElem? (i := 862) (by decide +kernel)⟩
theorem lw_p63 : lw_okq (⟨"PromiseFlowsModel", "nextArrival", "(II)I"⟩, 29) := ⟨⟨by decide +kernel, by decide +kernel⟩, List.mem_of_getElem? (i := 653) (by decide +kernel), List.mem_of_getElem? (i := 865) (by decide +kernel), List.mem_of_getElem? (i := 866) (by decide +kernel)⟩
def lw_privs_4 : List (MethodName × Nat) := [(⟨"PromiseFlowsModel", "isKit", "(I)Z"⟩, 29), (⟨"PromiseFlowsModel", "cover", "()I"⟩, 29), (⟨"PromiseFlowsModel", "next", "(IZ)I"⟩, 29), (⟨"PromiseFlowsModel", "addOrder", "(IIII)V"⟩, 29), (⟨"PromiseFlowsModel", "addDemand", "(IIJI)V"⟩, 29), (⟨"PromiseFlowsModel", "usable", "(II)I"⟩, 29), (⟨"PromiseFlowsModel", "canBeMet", "()Z"⟩, 29), (⟨"PromiseFlowsModel", "slack", "(I)J"⟩, 29), (⟨"PromiseFlowsModel", "isArrival", "(I)Z"⟩, 29), (⟨"PromiseFlowsModel", "isPart", "(I)Z"⟩, 29), (⟨"PromiseFlowsModel", "isUsed", "(I)Z"⟩, 29), (⟨"PromiseFlowsModel", "collect", "()V"⟩, 29), (⟨"PromiseFlowsModel", "isOrder", "(I)Z"⟩, 29), (⟨"PromiseFlowsModel", "greatest", "(II)I"⟩, 29), (⟨"PromiseFlowsModel", "plan", "()V"⟩, 29), (⟨"PromiseFlowsModel", "nextArrival", "(II)I"⟩, 29)]
theorem lw_r4 : ∀ q ∈ lw_privs_4, lw_okq q := List.forall_mem_cons.mpr ⟨lw_p48, List.forall_mem_cons.mpr ⟨lw_p49, List.forall_mem_cons.mpr ⟨lw_p50, List.forall_mem_cons.mpr ⟨lw_p51, List.forall_mem_cons.mpr ⟨lw_p52, List.forall_mem_cons.mpr ⟨lw_p53, List.forall_mem_cons.mpr ⟨lw_p54, List.forall_mem_cons.mpr ⟨lw_p55, List.forall_mem_cons.mpr ⟨lw_p56, List.forall_mem_cons.mpr ⟨lw_p57, List.forall_mem_cons.mpr ⟨lw_p58, List.forall_mem_cons.mpr ⟨lw_p59, List.forall_mem_cons.mpr ⟨lw_p60, List.forall_mem_cons.mpr ⟨lw_p61, List.forall_mem_cons.mpr ⟨lw_p62, List.forall_mem_cons.mpr ⟨lw_p63, fun _ h => absurd h List.not_mem_nil⟩⟩⟩⟩⟩⟩⟩⟩⟩⟩⟩⟩⟩⟩⟩⟩
theorem lw_p64 : lw_okq (⟨"PromiseFlowsModel", "atMost", "(II)J"⟩, 29) := ⟨⟨by decide +kernel, by decide +kernel⟩, List.mem_of_getElem? (i := 653) (by decide +kernel), List.mem_of_getElem? (i := 869) (by decide +kernel), List.mem_of_getElem? (i := 870) (by decide +kernel)⟩
def lw_privs_5 : List (MethodName × Nat) := [(⟨"PromiseFlowsModel", "atMost", "(II)J"⟩, 29)]
theorem lw_r5 : ∀ q ∈ lw_privs_5, lw_okq q := List.forall_mem_cons.mpr ⟨lw_p64, fun _ h => absurd h List.not_mem_nil⟩
def lw_privs : List (MethodName × Nat) := lw_privs_1 ++ (lw_privs_2 ++ (lw_privs_3 ++ (lw_privs_4 ++ (lw_privs_5))))
def lw_tbl : List Cond := k2_sels lw_privs ++ tables_1
theorem lw_privs_ok : ∀ q ∈ lw_privs, lw_okq q := by
  show ∀ q ∈ lw_privs_1 ++ (lw_privs_2 ++ (lw_privs_3 ++ (lw_privs_4 ++ (lw_privs_5)))), lw_okq q
  exact List.forall_mem_append.mpr ⟨lw_r1, List.forall_mem_append.mpr ⟨lw_r2, List.forall_mem_append.mpr ⟨lw_r3, List.forall_mem_append.mpr ⟨lw_r4, lw_r5⟩⟩⟩⟩
end
section
def RX0 : String := "PromiseFlows$Arrivals"
def TX0 : u_T := fun k => match k with
  | 0 => ("PromiseFlows$Arrivals", "number", "I", false)
  | 1 => ("PromiseFlows$Arrivals", "times", "[I", true)
  | 2 => ("PromiseFlows$Arrivals", "goods", "[I", true)
  | 3 => ("PromiseFlows$Arrivals", "brought", "[I", true)
  | _ => ("PromiseFlows$Arrivals", "setAside", "[I", true)
def tyX0 : Nat → FieldType := fun k => match k with
  | 0 => .int
  | 1 => .array .int
  | 2 => .array .int
  | 3 => .array .int
  | _ => .array .int
theorem nmX0 : ∀ a, a < 5 → ∀ b, b < 5 → a ≠ b → (TX0 a).2.1 ≠ (TX0 b).2.1 := by decide +kernel
theorem tyX0_ok : ∀ k, k < 5 → parseFieldDescriptor (TX0 k).2.2.1 = some (tyX0 k) := by decide +kernel
def RX1 : String := "PromiseFlows$Goods"
def TX1 : u_T := fun k => match k with
  | 0 => ("PromiseFlows$Goods", "lives", "[I", true)
  | 1 => ("PromiseFlows$Goods", "standing", "[Z", true)
  | 2 => ("PromiseFlows$Goods", "recipeLengths", "[I", true)
  | 3 => ("PromiseFlows$Goods", "partGoods", "[I", true)
  | _ => ("PromiseFlows$Goods", "partNumbers", "[I", true)
def tyX1 : Nat → FieldType := fun k => match k with
  | 0 => .array .int
  | 1 => .array .boolean
  | 2 => .array .int
  | 3 => .array .int
  | _ => .array .int
theorem nmX1 : ∀ a, a < 5 → ∀ b, b < 5 → a ≠ b → (TX1 a).2.1 ≠ (TX1 b).2.1 := by decide +kernel
theorem tyX1_ok : ∀ k, k < 5 → parseFieldDescriptor (TX1 k).2.2.1 = some (tyX1 k) := by decide +kernel
def RX2 : String := "PromiseFlows$Orders"
def TX2 : u_T := fun k => match k with
  | 0 => ("PromiseFlows$Orders", "number", "I", false)
  | 1 => ("PromiseFlows$Orders", "dues", "[I", true)
  | 2 => ("PromiseFlows$Orders", "goods", "[I", true)
  | 3 => ("PromiseFlows$Orders", "wanted", "[I", true)
  | 4 => ("PromiseFlows$Orders", "ranks", "[I", true)
  | 5 => ("PromiseFlows$Orders", "states", "[I", true)
  | _ => ("PromiseFlows$Orders", "byRank", "[I", true)
def tyX2 : Nat → FieldType := fun k => match k with
  | 0 => .int
  | 1 => .array .int
  | 2 => .array .int
  | 3 => .array .int
  | 4 => .array .int
  | 5 => .array .int
  | _ => .array .int
theorem nmX2 : ∀ a, a < 7 → ∀ b, b < 7 → a ≠ b → (TX2 a).2.1 ≠ (TX2 b).2.1 := by decide +kernel
theorem tyX2_ok : ∀ k, k < 7 → parseFieldDescriptor (TX2 k).2.2.1 = some (tyX2 k) := by decide +kernel
def RX3 : String := "PromiseFlows$Takings"
def TX3 : u_T := fun k => match k with
  | 0 => ("PromiseFlows$Takings", "arrivals", "I", false)
  | 1 => ("PromiseFlows$Takings", "byTime", "[I", true)
  | 2 => ("PromiseFlows$Takings", "room", "[I", true)
  | 3 => ("PromiseFlows$Takings", "taken", "[I", true)
  | 4 => ("PromiseFlows$Takings", "usable", "[I", true)
  | 5 => ("PromiseFlows$Takings", "savedRoom", "[I", true)
  | 6 => ("PromiseFlows$Takings", "savedTaken", "[I", true)
  | 7 => ("PromiseFlows$Takings", "reachedInTurn", "[I", true)
  | 8 => ("PromiseFlows$Takings", "reachedFrom", "[I", true)
  | _ => ("PromiseFlows$Takings", "reachedBy", "[I", true)
def tyX3 : Nat → FieldType := fun k => match k with
  | 0 => .int
  | 1 => .array .int
  | 2 => .array .int
  | 3 => .array .int
  | 4 => .array .int
  | 5 => .array .int
  | 6 => .array .int
  | 7 => .array .int
  | 8 => .array .int
  | _ => .array .int
theorem nmX3 : ∀ a, a < 10 → ∀ b, b < 10 → a ≠ b → (TX3 a).2.1 ≠ (TX3 b).2.1 := by decide +kernel
theorem tyX3_ok : ∀ k, k < 10 → parseFieldDescriptor (TX3 k).2.2.1 = some (tyX3 k) := by decide +kernel
def RX4 : String := "PromiseFlows"
def TX4 : u_T := fun k => match k with
  | 0 => ("PromiseFlows", "goods", "LPromiseFlows$Goods;", true)
  | 1 => ("PromiseFlows", "arrivals", "LPromiseFlows$Arrivals;", true)
  | 2 => ("PromiseFlows", "orders", "LPromiseFlows$Orders;", true)
  | _ => ("PromiseFlows", "takings", "LPromiseFlows$Takings;", true)
def tyX4 : Nat → FieldType := fun k => match k with
  | 0 => .object "PromiseFlows$Goods"
  | 1 => .object "PromiseFlows$Arrivals"
  | 2 => .object "PromiseFlows$Orders"
  | _ => .object "PromiseFlows$Takings"
theorem nmX4 : ∀ a, a < 4 → ∀ b, b < 4 → a ≠ b → (TX4 a).2.1 ≠ (TX4 b).2.1 := by decide +kernel
theorem tyX4_ok : ∀ k, k < 4 → parseFieldDescriptor (TX4 k).2.2.1 = some (tyX4 k) := by decide +kernel
def RX5 : String := "PromiseFlowsModel"
def TX5 : u_T := fun k => match k with
  | 0 => ("PromiseFlowsModel", "code", "I", false)
  | 1 => ("PromiseFlowsModel", "life", "[I", true)
  | 2 => ("PromiseFlowsModel", "standIns", "[I", true)
  | 3 => ("PromiseFlowsModel", "partCount", "[I", true)
  | 4 => ("PromiseFlowsModel", "parts", "[I", true)
  | 5 => ("PromiseFlowsModel", "partMany", "[I", true)
  | 6 => ("PromiseFlowsModel", "arrivals", "I", false)
  | 7 => ("PromiseFlowsModel", "time", "[I", true)
  | 8 => ("PromiseFlowsModel", "good", "[I", true)
  | 9 => ("PromiseFlowsModel", "brings", "[I", true)
  | 10 => ("PromiseFlowsModel", "aside", "[I", true)
  | 11 => ("PromiseFlowsModel", "orders", "I", false)
  | 12 => ("PromiseFlowsModel", "due", "[I", true)
  | 13 => ("PromiseFlowsModel", "wanted", "[I", true)
  | 14 => ("PromiseFlowsModel", "many", "[I", true)
  | 15 => ("PromiseFlowsModel", "rank", "[I", true)
  | 16 => ("PromiseFlowsModel", "state", "[I", true)
  | 17 => ("PromiseFlowsModel", "demands", "I", false)
  | 18 => ("PromiseFlowsModel", "demandOf", "[I", true)
  | 19 => ("PromiseFlowsModel", "demandGood", "[I", true)
  | 20 => ("PromiseFlowsModel", "demandMany", "[J", true)
  | 21 => ("PromiseFlowsModel", "demandMask", "[I", true)
  | 22 => ("PromiseFlowsModel", "has", "[J", true)
  | 23 => ("PromiseFlowsModel", "entries", "I", false)
  | 24 => ("PromiseFlowsModel", "entryOf", "[I", true)
  | 25 => ("PromiseFlowsModel", "entryDemand", "[I", true)
  | 26 => ("PromiseFlowsModel", "entryGood", "[I", true)
  | 27 => ("PromiseFlowsModel", "entryFrom", "[I", true)
  | _ => ("PromiseFlowsModel", "entryMany", "[I", true)
def tyX5 : Nat → FieldType := fun k => match k with
  | 0 => .int
  | 1 => .array .int
  | 2 => .array .int
  | 3 => .array .int
  | 4 => .array .int
  | 5 => .array .int
  | 6 => .int
  | 7 => .array .int
  | 8 => .array .int
  | 9 => .array .int
  | 10 => .array .int
  | 11 => .int
  | 12 => .array .int
  | 13 => .array .int
  | 14 => .array .int
  | 15 => .array .int
  | 16 => .array .int
  | 17 => .int
  | 18 => .array .int
  | 19 => .array .int
  | 20 => .array .long
  | 21 => .array .int
  | 22 => .array .long
  | 23 => .int
  | 24 => .array .int
  | 25 => .array .int
  | 26 => .array .int
  | 27 => .array .int
  | _ => .array .int
theorem nmX5 : ∀ a, a < 29 → ∀ b, b < 29 → a ≠ b → (TX5 a).2.1 ≠ (TX5 b).2.1 := by decide +kernel
theorem tyX5_ok : ∀ k, k < 29 → parseFieldDescriptor (TX5 k).2.2.1 = some (tyX5 k) := by decide +kernel
def RL : String := "PromiseFlowsLaw"
abbrev vcl : List vw_C := [(RX0, TX0, 5), (RX1, TX1, 5), (RX2, TX2, 7), (RX3, TX3, 10), (RX4, TX4, 4), (RX5, TX5, 29)]
abbrev cX4_init : ByteArray := prog_1_method_1_code
def yX4_init : MethodName := ⟨RX4, "<init>", "()V"⟩
abbrev cX4_arrival : ByteArray := prog_1_method_2_code
def yX4_arrival : MethodName := ⟨RX4, "arrival", "(III)I"⟩
abbrev cX4_change : ByteArray := prog_1_method_3_code
def yX4_change : MethodName := ⟨RX4, "change", "(III)I"⟩
abbrev cX4_aside : ByteArray := prog_1_method_4_code
def yX4_aside : MethodName := ⟨RX4, "aside", "(II)I"⟩
abbrev cX4_life : ByteArray := prog_1_method_5_code
def yX4_life : MethodName := ⟨RX4, "life", "(II)I"⟩
abbrev cX4_standIn : ByteArray := prog_1_method_6_code
def yX4_standIn : MethodName := ⟨RX4, "standIn", "(IIZ)I"⟩
abbrev cX4_kit : ByteArray := prog_1_method_7_code
def yX4_kit : MethodName := ⟨RX4, "kit", "(III)I"⟩
abbrev cX4_order : ByteArray := prog_1_method_8_code
def yX4_order : MethodName := ⟨RX4, "order", "(IIII)I"⟩
abbrev cX4_close : ByteArray := prog_1_method_9_code
def yX4_close : MethodName := ⟨RX4, "close", "(I)I"⟩
abbrev cX4_promise : ByteArray := prog_1_method_10_code
def yX4_promise : MethodName := ⟨RX4, "promise", "(II)I"⟩
abbrev cX4_share : ByteArray := prog_1_method_11_code
def yX4_share : MethodName := ⟨RX4, "share", "(II)I"⟩
abbrev cX4_bars : ByteArray := prog_1_method_12_code
def yX4_bars : MethodName := ⟨RX4, "bars", "(III)I"⟩
abbrev cX4_flow : ByteArray := prog_1_method_13_code
def yX4_flow : MethodName := ⟨RX4, "flow", "(III)I"⟩
abbrev cX4_state : ByteArray := prog_1_method_14_code
def yX4_state : MethodName := ⟨RX4, "state", "(I)I"⟩
abbrev cX4_left : ByteArray := prog_1_method_15_code
def yX4_left : MethodName := ⟨RX4, "left", "(I)I"⟩
abbrev cX4_count : ByteArray := prog_1_method_16_code
def yX4_count : MethodName := ⟨RX4, "count", "(I)I"⟩
abbrev cX4_needWithin : ByteArray := prog_1_method_17_code
def yX4_needWithin : MethodName := ⟨RX4, "needWithin", "(III)V"⟩
abbrev cX4_needGood : ByteArray := prog_1_method_18_code
def yX4_needGood : MethodName := ⟨RX4, "needGood", "(I)V"⟩
abbrev cX4_needTime : ByteArray := prog_1_method_19_code
def yX4_needTime : MethodName := ⟨RX4, "needTime", "(I)V"⟩
abbrev cX4_needNotBelowZero : ByteArray := prog_1_method_20_code
def yX4_needNotBelowZero : MethodName := ⟨RX4, "needNotBelowZero", "(I)V"⟩
abbrev cX4_needArrival : ByteArray := prog_1_method_21_code
def yX4_needArrival : MethodName := ⟨RX4, "needArrival", "(I)V"⟩
abbrev cX4_needOrder : ByteArray := prog_1_method_22_code
def yX4_needOrder : MethodName := ⟨RX4, "needOrder", "(I)V"⟩
abbrev cX4_needNoKit : ByteArray := prog_1_method_23_code
def yX4_needNoKit : MethodName := ⟨RX4, "needNoKit", "(I)V"⟩
abbrev cX4_settle : ByteArray := prog_1_method_24_code
def yX4_settle : MethodName := ⟨RX4, "settle", "()I"⟩
abbrev cX4_joinsCovered : ByteArray := prog_1_method_25_code
def yX4_joinsCovered : MethodName := ⟨RX4, "joinsCovered", "(I)Z"⟩
abbrev cX4_makePlan : ByteArray := prog_1_method_26_code
def yX4_makePlan : MethodName := ⟨RX4, "makePlan", "()V"⟩
abbrev cX4_greatestFurther : ByteArray := prog_1_method_27_code
def yX4_greatestFurther : MethodName := ⟨RX4, "greatestFurther", "(II)I"⟩
abbrev cX4_usableFor : ByteArray := prog_1_method_28_code
def yX4_usableFor : MethodName := ⟨RX4, "usableFor", "(II)I"⟩
abbrev cX4_takesFrom : ByteArray := prog_1_method_29_code
def yX4_takesFrom : MethodName := ⟨RX4, "takesFrom", "(II)Z"⟩
abbrev cX4_demandsOf : ByteArray := prog_1_method_30_code
def yX4_demandsOf : MethodName := ⟨RX4, "demandsOf", "(I)I"⟩
abbrev cX4_wantedBy : ByteArray := prog_1_method_31_code
def yX4_wantedBy : MethodName := ⟨RX4, "wantedBy", "(II)I"⟩
abbrev cX4_allCoveredDemands : ByteArray := prog_1_method_32_code
def yX4_allCoveredDemands : MethodName := ⟨RX4, "allCoveredDemands", "()I"⟩
abbrev cX4_demandAt : ByteArray := prog_1_method_33_code
def yX4_demandAt : MethodName := ⟨RX4, "demandAt", "(II)I"⟩
abbrev cX4_hasBit : ByteArray := prog_1_method_34_code
def yX4_hasBit : MethodName := ⟨RX4, "hasBit", "(II)Z"⟩
abbrev cX5_init : ByteArray := prog_7_method_1_code
def yX5_init : MethodName := ⟨RX5, "<init>", "()V"⟩
abbrev cX5_thrown : ByteArray := prog_7_method_2_code
def yX5_thrown : MethodName := ⟨RX5, "thrown", "()I"⟩
abbrev cX5_in : ByteArray := prog_7_method_3_code
def yX5_in : MethodName := ⟨RX5, "in", "(III)Z"⟩
abbrev cX5_isGood : ByteArray := prog_7_method_4_code
def yX5_isGood : MethodName := ⟨RX5, "isGood", "(I)Z"⟩
abbrev cX5_isKit : ByteArray := prog_7_method_5_code
def yX5_isKit : MethodName := ⟨RX5, "isKit", "(I)Z"⟩
abbrev cX5_isPart : ByteArray := prog_7_method_6_code
def yX5_isPart : MethodName := ⟨RX5, "isPart", "(I)Z"⟩
abbrev cX5_usable : ByteArray := prog_7_method_7_code
def yX5_usable : MethodName := ⟨RX5, "usable", "(II)I"⟩
abbrev cX5_addDemand : ByteArray := prog_7_method_8_code
def yX5_addDemand : MethodName := ⟨RX5, "addDemand", "(IIJI)V"⟩
abbrev cX5_addOrder : ByteArray := prog_7_method_9_code
def yX5_addOrder : MethodName := ⟨RX5, "addOrder", "(IIII)V"⟩
abbrev cX5_next : ByteArray := prog_7_method_10_code
def yX5_next : MethodName := ⟨RX5, "next", "(IZ)I"⟩
abbrev cX5_collect : ByteArray := prog_7_method_11_code
def yX5_collect : MethodName := ⟨RX5, "collect", "()V"⟩
abbrev cX5_slack : ByteArray := prog_7_method_12_code
def yX5_slack : MethodName := ⟨RX5, "slack", "(I)J"⟩
abbrev cX5_canBeMet : ByteArray := prog_7_method_13_code
def yX5_canBeMet : MethodName := ⟨RX5, "canBeMet", "()Z"⟩
abbrev cX5_cover : ByteArray := prog_7_method_14_code
def yX5_cover : MethodName := ⟨RX5, "cover", "()I"⟩
abbrev cX5_isArrival : ByteArray := prog_7_method_15_code
def yX5_isArrival : MethodName := ⟨RX5, "isArrival", "(I)Z"⟩
abbrev cX5_arrival : ByteArray := prog_7_method_16_code
def yX5_arrival : MethodName := ⟨RX5, "arrival", "(III)I"⟩
abbrev cX5_change : ByteArray := prog_7_method_17_code
def yX5_change : MethodName := ⟨RX5, "change", "(III)I"⟩
abbrev cX5_aside : ByteArray := prog_7_method_18_code
def yX5_aside : MethodName := ⟨RX5, "aside", "(II)I"⟩
abbrev cX5_life : ByteArray := prog_7_method_19_code
def yX5_life : MethodName := ⟨RX5, "life", "(II)I"⟩
abbrev cX5_standIn : ByteArray := prog_7_method_20_code
def yX5_standIn : MethodName := ⟨RX5, "standIn", "(IIZ)I"⟩
abbrev cX5_isUsed : ByteArray := prog_7_method_21_code
def yX5_isUsed : MethodName := ⟨RX5, "isUsed", "(I)Z"⟩
abbrev cX5_kit : ByteArray := prog_7_method_22_code
def yX5_kit : MethodName := ⟨RX5, "kit", "(III)I"⟩
abbrev cX5_isOrder : ByteArray := prog_7_method_23_code
def yX5_isOrder : MethodName := ⟨RX5, "isOrder", "(I)Z"⟩
abbrev cX5_order : ByteArray := prog_7_method_24_code
def yX5_order : MethodName := ⟨RX5, "order", "(IIII)I"⟩
abbrev cX5_close : ByteArray := prog_7_method_25_code
def yX5_close : MethodName := ⟨RX5, "close", "(I)I"⟩
abbrev cX5_greatest : ByteArray := prog_7_method_26_code
def yX5_greatest : MethodName := ⟨RX5, "greatest", "(II)I"⟩
abbrev cX5_promise : ByteArray := prog_7_method_27_code
def yX5_promise : MethodName := ⟨RX5, "promise", "(II)I"⟩
abbrev cX5_share : ByteArray := prog_7_method_28_code
def yX5_share : MethodName := ⟨RX5, "share", "(II)I"⟩
abbrev cX5_nextArrival : ByteArray := prog_7_method_29_code
def yX5_nextArrival : MethodName := ⟨RX5, "nextArrival", "(II)I"⟩
abbrev cX5_atMost : ByteArray := prog_7_method_30_code
def yX5_atMost : MethodName := ⟨RX5, "atMost", "(II)J"⟩
abbrev cX5_plan : ByteArray := prog_7_method_31_code
def yX5_plan : MethodName := ⟨RX5, "plan", "()V"⟩
abbrev cX5_bars : ByteArray := prog_7_method_32_code
def yX5_bars : MethodName := ⟨RX5, "bars", "(III)I"⟩
abbrev cX5_flow : ByteArray := prog_7_method_33_code
def yX5_flow : MethodName := ⟨RX5, "flow", "(III)I"⟩
abbrev cX5_state : ByteArray := prog_7_method_34_code
def yX5_state : MethodName := ⟨RX5, "state", "(I)I"⟩
abbrev cX5_left : ByteArray := prog_7_method_35_code
def yX5_left : MethodName := ⟨RX5, "left", "(I)I"⟩
abbrev cX5_count : ByteArray := prog_7_method_36_code
def yX5_count : MethodName := ⟨RX5, "count", "(I)I"⟩
abbrev cX0_init : ByteArray := prog_2_method_1_code
def yX0_init : MethodName := ⟨RX0, "<init>", "()V"⟩
abbrev cX0_add : ByteArray := prog_2_method_2_code
def yX0_add : MethodName := ⟨RX0, "add", "(III)I"⟩
abbrev cX0_has : ByteArray := prog_2_method_3_code
def yX0_has : MethodName := ⟨RX0, "has", "(I)Z"⟩
abbrev cX0_free : ByteArray := prog_2_method_4_code
def yX0_free : MethodName := ⟨RX0, "free", "(I)I"⟩
abbrev cX0_allFree : ByteArray := prog_2_method_5_code
def yX0_allFree : MethodName := ⟨RX0, "allFree", "()I"⟩
abbrev cX0_broughtBy : ByteArray := prog_2_method_6_code
def yX0_broughtBy : MethodName := ⟨RX0, "broughtBy", "(I)I"⟩
abbrev cX0_sortByTime : ByteArray := prog_2_method_7_code
def yX0_sortByTime : MethodName := ⟨RX0, "sortByTime", "([I)V"⟩
abbrev cX1_init : ByteArray := prog_3_method_1_code
def yX1_init : MethodName := ⟨RX1, "<init>", "()V"⟩
abbrev cX1_standsInFor : ByteArray := prog_3_method_2_code
def yX1_standsInFor : MethodName := ⟨RX1, "standsInFor", "(II)Z"⟩
abbrev cX1_letStandIn : ByteArray := prog_3_method_3_code
def yX1_letStandIn : MethodName := ⟨RX1, "letStandIn", "(IIZ)V"⟩
abbrev cX1_meets : ByteArray := prog_3_method_4_code
def yX1_meets : MethodName := ⟨RX1, "meets", "(II)Z"⟩
abbrev cX1_isInStandIn : ByteArray := prog_3_method_5_code
def yX1_isInStandIn : MethodName := ⟨RX1, "isInStandIn", "(I)Z"⟩
abbrev cX1_isKit : ByteArray := prog_3_method_6_code
def yX1_isKit : MethodName := ⟨RX1, "isKit", "(I)Z"⟩
abbrev cX1_hasPart : ByteArray := prog_3_method_7_code
def yX1_hasPart : MethodName := ⟨RX1, "hasPart", "(II)Z"⟩
abbrev cX1_isPart : ByteArray := prog_3_method_8_code
def yX1_isPart : MethodName := ⟨RX1, "isPart", "(I)Z"⟩
abbrev cX1_addPart : ByteArray := prog_3_method_9_code
def yX1_addPart : MethodName := ⟨RX1, "addPart", "(III)I"⟩
abbrev cX1_demandsOf : ByteArray := prog_3_method_10_code
def yX1_demandsOf : MethodName := ⟨RX1, "demandsOf", "(I)I"⟩
abbrev cX1_demandGood : ByteArray := prog_3_method_11_code
def yX1_demandGood : MethodName := ⟨RX1, "demandGood", "(II)I"⟩
abbrev cX1_numberForOne : ByteArray := prog_3_method_12_code
def yX1_numberForOne : MethodName := ⟨RX1, "numberForOne", "(II)I"⟩
abbrev cX2_init : ByteArray := prog_4_method_1_code
def yX2_init : MethodName := ⟨RX2, "<init>", "()V"⟩
abbrev cX2_write : ByteArray := prog_4_method_2_code
def yX2_write : MethodName := ⟨RX2, "write", "(IIII)I"⟩
abbrev cX2_admit : ByteArray := prog_4_method_3_code
def yX2_admit : MethodName := ⟨RX2, "admit", "()V"⟩
abbrev cX2_has : ByteArray := prog_4_method_4_code
def yX2_has : MethodName := ⟨RX2, "has", "(I)Z"⟩
abbrev cX2_numberIn : ByteArray := prog_4_method_5_code
def yX2_numberIn : MethodName := ⟨RX2, "numberIn", "(I)I"⟩
abbrev cX3_init : ByteArray := prog_5_method_1_code
def yX3_init : MethodName := ⟨RX3, "<init>", "()V"⟩
abbrev cX3_clear : ByteArray := prog_5_method_2_code
def yX3_clear : MethodName := ⟨RX3, "clear", "(LPromiseFlows$Arrivals;)V"⟩
abbrev cX3_save : ByteArray := prog_5_method_3_code
def yX3_save : MethodName := ⟨RX3, "save", "()V"⟩
abbrev cX3_restore : ByteArray := prog_5_method_4_code
def yX3_restore : MethodName := ⟨RX3, "restore", "()V"⟩
abbrev cX3_giveBack : ByteArray := prog_5_method_5_code
def yX3_giveBack : MethodName := ⟨RX3, "giveBack", "(I)V"⟩
abbrev cX3_mostFrom : ByteArray := prog_5_method_6_code
def yX3_mostFrom : MethodName := ⟨RX3, "mostFrom", "(I)I"⟩
abbrev cX3_take : ByteArray := prog_5_method_7_code
def yX3_take : MethodName := ⟨RX3, "take", "(III)I"⟩
abbrev cX3_takeFrom : ByteArray := prog_5_method_8_code
def yX3_takeFrom : MethodName := ⟨RX3, "takeFrom", "(IIII)I"⟩
abbrev cX3_nearestRoom : ByteArray := prog_5_method_9_code
def yX3_nearestRoom : MethodName := ⟨RX3, "nearestRoom", "(I)I"⟩
abbrev cX3_spread : ByteArray := prog_5_method_10_code
def yX3_spread : MethodName := ⟨RX3, "spread", "(II)I"⟩
abbrev cX3_reach : ByteArray := prog_5_method_11_code
def yX3_reach : MethodName := ⟨RX3, "reach", "(IIII)I"⟩
abbrev cX3_shift : ByteArray := prog_5_method_12_code
def yX3_shift : MethodName := ⟨RX3, "shift", "(III)I"⟩
abbrev cX3_takesFrom : ByteArray := prog_5_method_13_code
def yX3_takesFrom : MethodName := ⟨RX3, "takesFrom", "(II)Z"⟩
abbrev cX3_partsOf : ByteArray := prog_5_method_14_code
def yX3_partsOf : MethodName := ⟨RX3, "partsOf", "(I)I"⟩
abbrev cX3_partOf : ByteArray := prog_5_method_15_code
def yX3_partOf : MethodName := ⟨RX3, "partOf", "(IIZ)I"⟩
abbrev cL_arrival : ByteArray := method_3_code
def yL_arrival : MethodName := ⟨RL, "arrival", "(LPromiseFlows;III[J)I"⟩
abbrev cL_change : ByteArray := method_4_code
def yL_change : MethodName := ⟨RL, "change", "(LPromiseFlows;III[J)I"⟩
abbrev cL_aside : ByteArray := method_5_code
def yL_aside : MethodName := ⟨RL, "aside", "(LPromiseFlows;II[J)I"⟩
abbrev cL_life : ByteArray := method_6_code
def yL_life : MethodName := ⟨RL, "life", "(LPromiseFlows;II[J)I"⟩
abbrev cL_standIn : ByteArray := method_7_code
def yL_standIn : MethodName := ⟨RL, "standIn", "(LPromiseFlows;IIZ[J)I"⟩
abbrev cL_kit : ByteArray := method_8_code
def yL_kit : MethodName := ⟨RL, "kit", "(LPromiseFlows;III[J)I"⟩
abbrev cL_order : ByteArray := method_9_code
def yL_order : MethodName := ⟨RL, "order", "(LPromiseFlows;IIII[J)I"⟩
abbrev cL_close : ByteArray := method_10_code
def yL_close : MethodName := ⟨RL, "close", "(LPromiseFlows;I[J)I"⟩
abbrev cL_promise : ByteArray := method_11_code
def yL_promise : MethodName := ⟨RL, "promise", "(LPromiseFlows;II[J)I"⟩
abbrev cL_share : ByteArray := method_12_code
def yL_share : MethodName := ⟨RL, "share", "(LPromiseFlows;II[J)I"⟩
abbrev cL_bars : ByteArray := method_13_code
def yL_bars : MethodName := ⟨RL, "bars", "(LPromiseFlows;III[J)I"⟩
abbrev cL_flow : ByteArray := method_14_code
def yL_flow : MethodName := ⟨RL, "flow", "(LPromiseFlows;III[J)I"⟩
abbrev cL_state : ByteArray := method_15_code
def yL_state : MethodName := ⟨RL, "state", "(LPromiseFlows;I[J)I"⟩
abbrev cL_left : ByteArray := method_16_code
def yL_left : MethodName := ⟨RL, "left", "(LPromiseFlows;I[J)I"⟩
abbrev cL_law : ByteArray := code
def yL_law : MethodName := ⟨RL, "law", "([I)Z"⟩
/-- the good words of the table, for every method the same -/
def pf_tb : List Cond := lw_tbl.filter goodWord
theorem mem_tb {w : Cond} {i : Nat} (h : lw_tbl[i]? = some w) (hg : goodWord w = true) : w ∈ pf_tb := List.mem_filter.mpr ⟨List.mem_of_getElem? h, hg⟩
def pf_nestWord : Cond → Bool
  | .fieldLinkNest _ _ _ _ _ _ => true
  | .methodLinkNest _ _ _ _ => true
  | _ => false
def pf_nest : List Cond := lw_tbl.filter pf_nestWord
theorem mem_nest {w : Cond} {i : Nat} (h : lw_tbl[i]? = some w) (hg : pf_nestWord w = true) : w ∈ pf_nest := List.mem_filter.mpr ⟨List.mem_of_getElem? h, hg⟩
theorem pf_nestWord_on {w : Cond} (h : pf_nestWord w = true) : w.onTables = true := by
  cases w <;> first | (simp [pf_nestWord] at h; done) | rfl
def pf_X (U : State) : Prop := ∀ w ∈ pf_nest, va_Nw w U
theorem pf_X_same {u U : State} (h : u.vm = U.vm) (hx : pf_X u) : pf_X U := fun w hw => va_Nw.same (pf_nestWord_on (List.mem_filter.mp hw).2) h (hx w hw)
theorem pf_X_warm {s U : State} (hW : s.WarmedH U.vm) (hx : pf_X s) : pf_X U := by
  intro w hw
  have h1 := hx w hw
  have h2 := (List.mem_filter.mp hw).2
  cases w <;> first | (simp [pf_nestWord] at h2; done) | exact va_Nw.warmF hW h1 | exact va_Nw.warmM hW h1
theorem uwX0 : ∀ w ∈ u_ws RX0 TX0 5, w ∈ pf_tb := by decide +kernel
theorem uwX1 : ∀ w ∈ u_ws RX1 TX1 5, w ∈ pf_tb := by decide +kernel
theorem uwX2 : ∀ w ∈ u_ws RX2 TX2 7, w ∈ pf_tb := by decide +kernel
theorem uwX3 : ∀ w ∈ u_ws RX3 TX3 10, w ∈ pf_tb := by decide +kernel
theorem uwX4 : ∀ w ∈ u_ws RX4 TX4 4, w ∈ pf_tb := by decide +kernel
theorem uwX5 : ∀ w ∈ u_ws RX5 TX5 29, w ∈ pf_tb := by decide +kernel
end
section
theorem tw_0 : Cond.selects "PromiseFlows$Orders" ⟨"PromiseFlows$Orders", "numberIn", "(I)I"⟩ ⟨"PromiseFlows$Orders", "numberIn", "(I)I"⟩ ∈ pf_tb := mem_tb (i := 0) (by decide +kernel) (by decide +kernel)
theorem tw_1 : Cond.selects "PromiseFlows$Arrivals" ⟨"PromiseFlows$Arrivals", "allFree", "()I"⟩ ⟨"PromiseFlows$Arrivals", "allFree", "()I"⟩ ∈ pf_tb := mem_tb (i := 1) (by decide +kernel) (by decide +kernel)
theorem tw_2 : Cond.selects "PromiseFlows$Arrivals" ⟨"PromiseFlows$Arrivals", "free", "(I)I"⟩ ⟨"PromiseFlows$Arrivals", "free", "(I)I"⟩ ∈ pf_tb := mem_tb (i := 2) (by decide +kernel) (by decide +kernel)
theorem tw_3 : Cond.selects "PromiseFlows" ⟨"PromiseFlows", "allCoveredDemands", "()I"⟩ ⟨"PromiseFlows", "allCoveredDemands", "()I"⟩ ∈ pf_tb := mem_tb (i := 3) (by decide +kernel) (by decide +kernel)
theorem tw_4 : Cond.selects "PromiseFlows" ⟨"PromiseFlows", "demandsOf", "(I)I"⟩ ⟨"PromiseFlows", "demandsOf", "(I)I"⟩ ∈ pf_tb := mem_tb (i := 4) (by decide +kernel) (by decide +kernel)
theorem tw_5 : Cond.selects "PromiseFlows$Goods" ⟨"PromiseFlows$Goods", "demandsOf", "(I)I"⟩ ⟨"PromiseFlows$Goods", "demandsOf", "(I)I"⟩ ∈ pf_tb := mem_tb (i := 5) (by decide +kernel) (by decide +kernel)
theorem tw_6 : Cond.selects "PromiseFlows$Goods" ⟨"PromiseFlows$Goods", "isKit", "(I)Z"⟩ ⟨"PromiseFlows$Goods", "isKit", "(I)Z"⟩ ∈ pf_tb := mem_tb (i := 6) (by decide +kernel) (by decide +kernel)
theorem tw_7 : Cond.selects "PromiseFlows" ⟨"PromiseFlows", "wantedBy", "(II)I"⟩ ⟨"PromiseFlows", "wantedBy", "(II)I"⟩ ∈ pf_tb := mem_tb (i := 7) (by decide +kernel) (by decide +kernel)
theorem tw_8 : Cond.selects "PromiseFlows$Goods" ⟨"PromiseFlows$Goods", "numberForOne", "(II)I"⟩ ⟨"PromiseFlows$Goods", "numberForOne", "(II)I"⟩ ∈ pf_tb := mem_tb (i := 8) (by decide +kernel) (by decide +kernel)
theorem tw_9 : Cond.selects "java/lang/Throwable" ⟨"java/lang/Throwable", "fillInStackTrace", "(I)Ljava/lang/Throwable;"⟩ ⟨"java/lang/Throwable", "fillInStackTrace", "(I)Ljava/lang/Throwable;"⟩ ∈ pf_tb := mem_tb (i := 9) (by decide +kernel) (by decide +kernel)
theorem tw_10 : Cond.selects "PromiseFlows" ⟨"PromiseFlows", "needNoKit", "(I)V"⟩ ⟨"PromiseFlows", "needNoKit", "(I)V"⟩ ∈ pf_tb := mem_tb (i := 10) (by decide +kernel) (by decide +kernel)
theorem tw_11 : Cond.selects "PromiseFlows$Arrivals" ⟨"PromiseFlows$Arrivals", "add", "(III)I"⟩ ⟨"PromiseFlows$Arrivals", "add", "(III)I"⟩ ∈ pf_tb := mem_tb (i := 11) (by decide +kernel) (by decide +kernel)
theorem tw_12 : Cond.selects "PromiseFlows" ⟨"PromiseFlows", "settle", "()I"⟩ ⟨"PromiseFlows", "settle", "()I"⟩ ∈ pf_tb := mem_tb (i := 12) (by decide +kernel) (by decide +kernel)
theorem tw_13 : Cond.selects "PromiseFlows$Takings" ⟨"PromiseFlows$Takings", "clear", "(LPromiseFlows$Arrivals;)V"⟩ ⟨"PromiseFlows$Takings", "clear", "(LPromiseFlows$Arrivals;)V"⟩ ∈ pf_tb := mem_tb (i := 13) (by decide +kernel) (by decide +kernel)
theorem tw_14 : Cond.selects "PromiseFlows$Arrivals" ⟨"PromiseFlows$Arrivals", "sortByTime", "([I)V"⟩ ⟨"PromiseFlows$Arrivals", "sortByTime", "([I)V"⟩ ∈ pf_tb := mem_tb (i := 14) (by decide +kernel) (by decide +kernel)
theorem tw_15 : Cond.selects "PromiseFlows" ⟨"PromiseFlows", "joinsCovered", "(I)Z"⟩ ⟨"PromiseFlows", "joinsCovered", "(I)Z"⟩ ∈ pf_tb := mem_tb (i := 15) (by decide +kernel) (by decide +kernel)
theorem tw_16 : Cond.selects "PromiseFlows$Takings" ⟨"PromiseFlows$Takings", "save", "()V"⟩ ⟨"PromiseFlows$Takings", "save", "()V"⟩ ∈ pf_tb := mem_tb (i := 16) (by decide +kernel) (by decide +kernel)
theorem tw_17 : Cond.selects "PromiseFlows$Goods" ⟨"PromiseFlows$Goods", "demandGood", "(II)I"⟩ ⟨"PromiseFlows$Goods", "demandGood", "(II)I"⟩ ∈ pf_tb := mem_tb (i := 17) (by decide +kernel) (by decide +kernel)
theorem tw_18 : Cond.selects "PromiseFlows" ⟨"PromiseFlows", "usableFor", "(II)I"⟩ ⟨"PromiseFlows", "usableFor", "(II)I"⟩ ∈ pf_tb := mem_tb (i := 18) (by decide +kernel) (by decide +kernel)
theorem tw_19 : Cond.selects "PromiseFlows$Goods" ⟨"PromiseFlows$Goods", "meets", "(II)Z"⟩ ⟨"PromiseFlows$Goods", "meets", "(II)Z"⟩ ∈ pf_tb := mem_tb (i := 19) (by decide +kernel) (by decide +kernel)
theorem tw_20 : Cond.selects "PromiseFlows$Goods" ⟨"PromiseFlows$Goods", "standsInFor", "(II)Z"⟩ ⟨"PromiseFlows$Goods", "standsInFor", "(II)Z"⟩ ∈ pf_tb := mem_tb (i := 20) (by decide +kernel) (by decide +kernel)
theorem tw_21 : Cond.selects "PromiseFlows$Takings" ⟨"PromiseFlows$Takings", "take", "(III)I"⟩ ⟨"PromiseFlows$Takings", "take", "(III)I"⟩ ∈ pf_tb := mem_tb (i := 21) (by decide +kernel) (by decide +kernel)
theorem tw_22 : Cond.selects "PromiseFlows$Takings" ⟨"PromiseFlows$Takings", "takeFrom", "(IIII)I"⟩ ⟨"PromiseFlows$Takings", "takeFrom", "(IIII)I"⟩ ∈ pf_tb := mem_tb (i := 22) (by decide +kernel) (by decide +kernel)
theorem tw_23 : Cond.selects "PromiseFlows$Takings" ⟨"PromiseFlows$Takings", "spread", "(II)I"⟩ ⟨"PromiseFlows$Takings", "spread", "(II)I"⟩ ∈ pf_tb := mem_tb (i := 23) (by decide +kernel) (by decide +kernel)
theorem tw_24 : Cond.selects "PromiseFlows$Takings" ⟨"PromiseFlows$Takings", "reach", "(IIII)I"⟩ ⟨"PromiseFlows$Takings", "reach", "(IIII)I"⟩ ∈ pf_tb := mem_tb (i := 24) (by decide +kernel) (by decide +kernel)
theorem tw_25 : Cond.selects "PromiseFlows$Takings" ⟨"PromiseFlows$Takings", "nearestRoom", "(I)I"⟩ ⟨"PromiseFlows$Takings", "nearestRoom", "(I)I"⟩ ∈ pf_tb := mem_tb (i := 25) (by decide +kernel) (by decide +kernel)
theorem tw_26 : Cond.selects "PromiseFlows$Takings" ⟨"PromiseFlows$Takings", "shift", "(III)I"⟩ ⟨"PromiseFlows$Takings", "shift", "(III)I"⟩ ∈ pf_tb := mem_tb (i := 26) (by decide +kernel) (by decide +kernel)
theorem tw_27 : Cond.selects "PromiseFlows$Takings" ⟨"PromiseFlows$Takings", "restore", "()V"⟩ ⟨"PromiseFlows$Takings", "restore", "()V"⟩ ∈ pf_tb := mem_tb (i := 27) (by decide +kernel) (by decide +kernel)
theorem tw_28 : Cond.selects "PromiseFlows" ⟨"PromiseFlows", "makePlan", "()V"⟩ ⟨"PromiseFlows", "makePlan", "()V"⟩ ∈ pf_tb := mem_tb (i := 28) (by decide +kernel) (by decide +kernel)
theorem tw_29 : Cond.selects "PromiseFlows$Takings" ⟨"PromiseFlows$Takings", "giveBack", "(I)V"⟩ ⟨"PromiseFlows$Takings", "giveBack", "(I)V"⟩ ∈ pf_tb := mem_tb (i := 29) (by decide +kernel) (by decide +kernel)
theorem tw_30 : Cond.selects "PromiseFlows" ⟨"PromiseFlows", "needArrival", "(I)V"⟩ ⟨"PromiseFlows", "needArrival", "(I)V"⟩ ∈ pf_tb := mem_tb (i := 30) (by decide +kernel) (by decide +kernel)
theorem tw_31 : Cond.selects "PromiseFlows$Goods" ⟨"PromiseFlows$Goods", "letStandIn", "(IIZ)V"⟩ ⟨"PromiseFlows$Goods", "letStandIn", "(IIZ)V"⟩ ∈ pf_tb := mem_tb (i := 31) (by decide +kernel) (by decide +kernel)
theorem tw_32 : Cond.selects "PromiseFlows$Goods" ⟨"PromiseFlows$Goods", "hasPart", "(II)Z"⟩ ⟨"PromiseFlows$Goods", "hasPart", "(II)Z"⟩ ∈ pf_tb := mem_tb (i := 32) (by decide +kernel) (by decide +kernel)
theorem tw_33 : Cond.selects "PromiseFlows$Goods" ⟨"PromiseFlows$Goods", "isPart", "(I)Z"⟩ ⟨"PromiseFlows$Goods", "isPart", "(I)Z"⟩ ∈ pf_tb := mem_tb (i := 33) (by decide +kernel) (by decide +kernel)
theorem tw_34 : Cond.selects "PromiseFlows$Goods" ⟨"PromiseFlows$Goods", "isInStandIn", "(I)Z"⟩ ⟨"PromiseFlows$Goods", "isInStandIn", "(I)Z"⟩ ∈ pf_tb := mem_tb (i := 34) (by decide +kernel) (by decide +kernel)
theorem tw_35 : Cond.selects "PromiseFlows$Arrivals" ⟨"PromiseFlows$Arrivals", "has", "(I)Z"⟩ ⟨"PromiseFlows$Arrivals", "has", "(I)Z"⟩ ∈ pf_tb := mem_tb (i := 35) (by decide +kernel) (by decide +kernel)
theorem tw_36 : Cond.selects "PromiseFlows$Orders" ⟨"PromiseFlows$Orders", "has", "(I)Z"⟩ ⟨"PromiseFlows$Orders", "has", "(I)Z"⟩ ∈ pf_tb := mem_tb (i := 36) (by decide +kernel) (by decide +kernel)
theorem tw_37 : Cond.selects "PromiseFlows$Goods" ⟨"PromiseFlows$Goods", "addPart", "(III)I"⟩ ⟨"PromiseFlows$Goods", "addPart", "(III)I"⟩ ∈ pf_tb := mem_tb (i := 37) (by decide +kernel) (by decide +kernel)
theorem tw_38 : Cond.selects "PromiseFlows$Orders" ⟨"PromiseFlows$Orders", "write", "(IIII)I"⟩ ⟨"PromiseFlows$Orders", "write", "(IIII)I"⟩ ∈ pf_tb := mem_tb (i := 38) (by decide +kernel) (by decide +kernel)
theorem tw_39 : Cond.selects "PromiseFlows$Orders" ⟨"PromiseFlows$Orders", "admit", "()V"⟩ ⟨"PromiseFlows$Orders", "admit", "()V"⟩ ∈ pf_tb := mem_tb (i := 39) (by decide +kernel) (by decide +kernel)
theorem tw_40 : Cond.selects "PromiseFlows" ⟨"PromiseFlows", "needOrder", "(I)V"⟩ ⟨"PromiseFlows", "needOrder", "(I)V"⟩ ∈ pf_tb := mem_tb (i := 40) (by decide +kernel) (by decide +kernel)
theorem tw_41 : Cond.selects "PromiseFlows" ⟨"PromiseFlows", "greatestFurther", "(II)I"⟩ ⟨"PromiseFlows", "greatestFurther", "(II)I"⟩ ∈ pf_tb := mem_tb (i := 41) (by decide +kernel) (by decide +kernel)
theorem tw_42 : Cond.selects "PromiseFlows$Takings" ⟨"PromiseFlows$Takings", "mostFrom", "(I)I"⟩ ⟨"PromiseFlows$Takings", "mostFrom", "(I)I"⟩ ∈ pf_tb := mem_tb (i := 42) (by decide +kernel) (by decide +kernel)
theorem tw_43 : Cond.selects "PromiseFlows$Arrivals" ⟨"PromiseFlows$Arrivals", "broughtBy", "(I)I"⟩ ⟨"PromiseFlows$Arrivals", "broughtBy", "(I)I"⟩ ∈ pf_tb := mem_tb (i := 43) (by decide +kernel) (by decide +kernel)
theorem tw_44 : Cond.selects "PromiseFlows" ⟨"PromiseFlows", "takesFrom", "(II)Z"⟩ ⟨"PromiseFlows", "takesFrom", "(II)Z"⟩ ∈ pf_tb := mem_tb (i := 44) (by decide +kernel) (by decide +kernel)
theorem tw_45 : Cond.selects "PromiseFlows$Takings" ⟨"PromiseFlows$Takings", "takesFrom", "(II)Z"⟩ ⟨"PromiseFlows$Takings", "takesFrom", "(II)Z"⟩ ∈ pf_tb := mem_tb (i := 45) (by decide +kernel) (by decide +kernel)
theorem tw_46 : Cond.selects "PromiseFlows$Takings" ⟨"PromiseFlows$Takings", "partsOf", "(I)I"⟩ ⟨"PromiseFlows$Takings", "partsOf", "(I)I"⟩ ∈ pf_tb := mem_tb (i := 46) (by decide +kernel) (by decide +kernel)
theorem tw_47 : Cond.selects "PromiseFlows$Takings" ⟨"PromiseFlows$Takings", "partOf", "(IIZ)I"⟩ ⟨"PromiseFlows$Takings", "partOf", "(IIZ)I"⟩ ∈ pf_tb := mem_tb (i := 47) (by decide +kernel) (by decide +kernel)
theorem tw_48 : Cond.selects "PromiseFlowsModel" ⟨"PromiseFlowsModel", "isKit", "(I)Z"⟩ ⟨"PromiseFlowsModel", "isKit", "(I)Z"⟩ ∈ pf_tb := mem_tb (i := 48) (by decide +kernel) (by decide +kernel)
theorem tw_49 : Cond.selects "PromiseFlowsModel" ⟨"PromiseFlowsModel", "cover", "()I"⟩ ⟨"PromiseFlowsModel", "cover", "()I"⟩ ∈ pf_tb := mem_tb (i := 49) (by decide +kernel) (by decide +kernel)
theorem tw_50 : Cond.selects "PromiseFlowsModel" ⟨"PromiseFlowsModel", "next", "(IZ)I"⟩ ⟨"PromiseFlowsModel", "next", "(IZ)I"⟩ ∈ pf_tb := mem_tb (i := 50) (by decide +kernel) (by decide +kernel)
theorem tw_51 : Cond.selects "PromiseFlowsModel" ⟨"PromiseFlowsModel", "addOrder", "(IIII)V"⟩ ⟨"PromiseFlowsModel", "addOrder", "(IIII)V"⟩ ∈ pf_tb := mem_tb (i := 51) (by decide +kernel) (by decide +kernel)
theorem tw_52 : Cond.selects "PromiseFlowsModel" ⟨"PromiseFlowsModel", "addDemand", "(IIJI)V"⟩ ⟨"PromiseFlowsModel", "addDemand", "(IIJI)V"⟩ ∈ pf_tb := mem_tb (i := 52) (by decide +kernel) (by decide +kernel)
theorem tw_53 : Cond.selects "PromiseFlowsModel" ⟨"PromiseFlowsModel", "usable", "(II)I"⟩ ⟨"PromiseFlowsModel", "usable", "(II)I"⟩ ∈ pf_tb := mem_tb (i := 53) (by decide +kernel) (by decide +kernel)
theorem tw_54 : Cond.selects "PromiseFlowsModel" ⟨"PromiseFlowsModel", "canBeMet", "()Z"⟩ ⟨"PromiseFlowsModel", "canBeMet", "()Z"⟩ ∈ pf_tb := mem_tb (i := 54) (by decide +kernel) (by decide +kernel)
theorem tw_55 : Cond.selects "PromiseFlowsModel" ⟨"PromiseFlowsModel", "slack", "(I)J"⟩ ⟨"PromiseFlowsModel", "slack", "(I)J"⟩ ∈ pf_tb := mem_tb (i := 55) (by decide +kernel) (by decide +kernel)
theorem tw_56 : Cond.selects "PromiseFlowsModel" ⟨"PromiseFlowsModel", "isArrival", "(I)Z"⟩ ⟨"PromiseFlowsModel", "isArrival", "(I)Z"⟩ ∈ pf_tb := mem_tb (i := 56) (by decide +kernel) (by decide +kernel)
theorem tw_57 : Cond.selects "PromiseFlowsModel" ⟨"PromiseFlowsModel", "isPart", "(I)Z"⟩ ⟨"PromiseFlowsModel", "isPart", "(I)Z"⟩ ∈ pf_tb := mem_tb (i := 57) (by decide +kernel) (by decide +kernel)
theorem tw_58 : Cond.selects "PromiseFlowsModel" ⟨"PromiseFlowsModel", "isUsed", "(I)Z"⟩ ⟨"PromiseFlowsModel", "isUsed", "(I)Z"⟩ ∈ pf_tb := mem_tb (i := 58) (by decide +kernel) (by decide +kernel)
theorem tw_59 : Cond.selects "PromiseFlowsModel" ⟨"PromiseFlowsModel", "collect", "()V"⟩ ⟨"PromiseFlowsModel", "collect", "()V"⟩ ∈ pf_tb := mem_tb (i := 59) (by decide +kernel) (by decide +kernel)
theorem tw_60 : Cond.selects "PromiseFlowsModel" ⟨"PromiseFlowsModel", "isOrder", "(I)Z"⟩ ⟨"PromiseFlowsModel", "isOrder", "(I)Z"⟩ ∈ pf_tb := mem_tb (i := 60) (by decide +kernel) (by decide +kernel)
theorem tw_61 : Cond.selects "PromiseFlowsModel" ⟨"PromiseFlowsModel", "greatest", "(II)I"⟩ ⟨"PromiseFlowsModel", "greatest", "(II)I"⟩ ∈ pf_tb := mem_tb (i := 61) (by decide +kernel) (by decide +kernel)
theorem tw_62 : Cond.selects "PromiseFlowsModel" ⟨"PromiseFlowsModel", "plan", "()V"⟩ ⟨"PromiseFlowsModel", "plan", "()V"⟩ ∈ pf_tb := mem_tb (i := 62) (by decide +kernel) (by decide +kernel)
theorem tw_63 : Cond.selects "PromiseFlowsModel" ⟨"PromiseFlowsModel", "nextArrival", "(II)I"⟩ ⟨"PromiseFlowsModel", "nextArrival", "(II)I"⟩ ∈ pf_tb := mem_tb (i := 63) (by decide +kernel) (by decide +kernel)
theorem tw_64 : Cond.selects "PromiseFlowsModel" ⟨"PromiseFlowsModel", "atMost", "(II)J"⟩ ⟨"PromiseFlowsModel", "atMost", "(II)J"⟩ ∈ pf_tb := mem_tb (i := 64) (by decide +kernel) (by decide +kernel)
theorem tw_65 : Cond.initialized "PromiseFlowsLaw" ∈ pf_tb := mem_tb (i := 65) (by decide +kernel) (by decide +kernel)
theorem tw_66 : Cond.initialized "PromiseFlows" ∈ pf_tb := mem_tb (i := 66) (by decide +kernel) (by decide +kernel)
theorem tw_67 : Cond.initialized "PromiseFlows$Goods" ∈ pf_tb := mem_tb (i := 67) (by decide +kernel) (by decide +kernel)
theorem tw_68 : Cond.initialized "PromiseFlows$Arrivals" ∈ pf_tb := mem_tb (i := 68) (by decide +kernel) (by decide +kernel)
theorem tw_69 : Cond.initialized "PromiseFlows$Orders" ∈ pf_tb := mem_tb (i := 69) (by decide +kernel) (by decide +kernel)
theorem tw_70 : Cond.initialized "PromiseFlows$Takings" ∈ pf_tb := mem_tb (i := 70) (by decide +kernel) (by decide +kernel)
theorem tw_71 : Cond.initialized "PromiseFlowsModel" ∈ pf_tb := mem_tb (i := 71) (by decide +kernel) (by decide +kernel)
theorem tw_72 : Cond.initialized "java/lang/Throwable" ∈ pf_tb := mem_tb (i := 72) (by decide +kernel) (by decide +kernel)
theorem tw_73 : Cond.initialized "java/lang/Exception" ∈ pf_tb := mem_tb (i := 73) (by decide +kernel) (by decide +kernel)
theorem tw_74 : Cond.initialized "java/lang/RuntimeException" ∈ pf_tb := mem_tb (i := 74) (by decide +kernel) (by decide +kernel)
theorem tw_75 : Cond.initialized "java/lang/IllegalArgumentException" ∈ pf_tb := mem_tb (i := 75) (by decide +kernel) (by decide +kernel)
theorem tw_76 : Cond.initialized "java/lang/IllegalStateException" ∈ pf_tb := mem_tb (i := 76) (by decide +kernel) (by decide +kernel)
theorem tw_77 : Cond.initialized "java/lang/UnsupportedOperationException" ∈ pf_tb := mem_tb (i := 77) (by decide +kernel) (by decide +kernel)
theorem tw_78 : Cond.initialized "java/lang/System" ∈ pf_tb := mem_tb (i := 78) (by decide +kernel) (by decide +kernel)
theorem tw_79 : Cond.initialized "java/lang/Integer" ∈ pf_tb := mem_tb (i := 79) (by decide +kernel) (by decide +kernel)
theorem tw_80 : Cond.initialized "java/lang/Math" ∈ pf_tb := mem_tb (i := 80) (by decide +kernel) (by decide +kernel)
theorem tw_81 : Cond.initialized "java/util/NoSuchElementException" ∈ pf_tb := mem_tb (i := 81) (by decide +kernel) (by decide +kernel)
theorem tw_82 : Cond.initialized "java/lang/ArithmeticException" ∈ pf_tb := mem_tb (i := 82) (by decide +kernel) (by decide +kernel)
theorem tw_83 : Cond.classLink "PromiseFlowsLaw" 8 "PromiseFlows" ∈ pf_tb := mem_tb (i := 83) (by decide +kernel) (by decide +kernel)
theorem tw_84 : Cond.instantiable "PromiseFlows" 4 ∈ pf_tb := mem_tb (i := 84) (by decide +kernel) (by decide +kernel)
theorem tw_85 : Cond.methodLink "PromiseFlowsLaw" 66 ⟨"PromiseFlows", "<init>", "()V"⟩ ∈ pf_tb := mem_tb (i := 85) (by decide +kernel) (by decide +kernel)
theorem tw_86 : Cond.instanceMethod ⟨"PromiseFlows", "<init>", "()V"⟩ ∈ pf_tb := mem_tb (i := 86) (by decide +kernel) (by decide +kernel)
theorem tw_87 : Cond.code ⟨"PromiseFlows", "<init>", "()V"⟩ prog_1_method_1_code 1 (Option.none : Option Jvm.ClassFile.FieldType) ∈ pf_tb := mem_tb (i := 87) (by decide +kernel) (by decide +kernel)
theorem tw_88 : Cond.methodLink "PromiseFlows" 3 ⟨"java/lang/Object", "<init>", "()V"⟩ ∈ pf_tb := mem_tb (i := 88) (by decide +kernel) (by decide +kernel)
theorem tw_89 : Cond.instanceMethod ⟨"java/lang/Object", "<init>", "()V"⟩ ∈ pf_tb := mem_tb (i := 89) (by decide +kernel) (by decide +kernel)
theorem tw_90 : Cond.code ⟨"java/lang/Object", "<init>", "()V"⟩ object_method_1_code 1 (Option.none : Option Jvm.ClassFile.FieldType) ∈ pf_tb := mem_tb (i := 90) (by decide +kernel) (by decide +kernel)
theorem tw_91 : Cond.classLink "PromiseFlows" 9 "PromiseFlows$Goods" ∈ pf_tb := mem_tb (i := 91) (by decide +kernel) (by decide +kernel)
theorem tw_92 : Cond.instantiable "PromiseFlows$Goods" 5 ∈ pf_tb := mem_tb (i := 92) (by decide +kernel) (by decide +kernel)
theorem tw_93 : Cond.methodLinkNest "PromiseFlows" 11 ⟨"PromiseFlows$Goods", "<init>", "()V"⟩ "PromiseFlows" ∈ pf_nest := mem_nest (i := 93) (by decide +kernel) (by decide +kernel)
theorem tw_94 : Cond.instanceMethod ⟨"PromiseFlows$Goods", "<init>", "()V"⟩ ∈ pf_tb := mem_tb (i := 94) (by decide +kernel) (by decide +kernel)
theorem tw_95 : Cond.code ⟨"PromiseFlows$Goods", "<init>", "()V"⟩ prog_3_method_1_code 2 (Option.none : Option Jvm.ClassFile.FieldType) ∈ pf_tb := mem_tb (i := 95) (by decide +kernel) (by decide +kernel)
theorem tw_96 : Cond.methodLink "PromiseFlows$Goods" 3 ⟨"java/lang/Object", "<init>", "()V"⟩ ∈ pf_tb := mem_tb (i := 96) (by decide +kernel) (by decide +kernel)
theorem tw_97 : Cond.fieldLink "PromiseFlows$Goods" 9 "PromiseFlows$Goods" "lives" "[I" ∈ pf_tb := mem_tb (i := 97) (by decide +kernel) (by decide +kernel)
theorem tw_98 : Cond.fieldLinkNest "PromiseFlows" 89 "PromiseFlows$Goods" "lives" "[I" "PromiseFlows" ∈ pf_nest := mem_nest (i := 98) (by decide +kernel) (by decide +kernel)
theorem tw_99 : Cond.fieldLink "PromiseFlows$Goods" 15 "PromiseFlows$Goods" "standing" "[Z" ∈ pf_tb := mem_tb (i := 99) (by decide +kernel) (by decide +kernel)
theorem tw_100 : Cond.fieldLink "PromiseFlows$Goods" 19 "PromiseFlows$Goods" "recipeLengths" "[I" ∈ pf_tb := mem_tb (i := 100) (by decide +kernel) (by decide +kernel)
theorem tw_101 : Cond.fieldLinkNest "PromiseFlows" 125 "PromiseFlows$Goods" "recipeLengths" "[I" "PromiseFlows" ∈ pf_nest := mem_nest (i := 101) (by decide +kernel) (by decide +kernel)
theorem tw_102 : Cond.fieldLink "PromiseFlows$Goods" 22 "PromiseFlows$Goods" "partGoods" "[I" ∈ pf_tb := mem_tb (i := 102) (by decide +kernel) (by decide +kernel)
theorem tw_103 : Cond.fieldLink "PromiseFlows$Goods" 25 "PromiseFlows$Goods" "partNumbers" "[I" ∈ pf_tb := mem_tb (i := 103) (by decide +kernel) (by decide +kernel)
theorem tw_114 : Cond.superclass "PromiseFlows$Goods" "java/lang/Object" ∈ pf_tb := mem_tb (i := 114) (by decide +kernel) (by decide +kernel)
theorem tw_115 : Cond.arrayClass FieldType.int ∈ pf_tb := mem_tb (i := 115) (by decide +kernel) (by decide +kernel)
theorem tw_116 : Cond.arrayClass FieldType.boolean ∈ pf_tb := mem_tb (i := 116) (by decide +kernel) (by decide +kernel)
theorem tw_117 : Cond.classLink "PromiseFlows" 16 "PromiseFlows$Arrivals" ∈ pf_tb := mem_tb (i := 117) (by decide +kernel) (by decide +kernel)
theorem tw_118 : Cond.instantiable "PromiseFlows$Arrivals" 5 ∈ pf_tb := mem_tb (i := 118) (by decide +kernel) (by decide +kernel)
theorem tw_119 : Cond.methodLinkNest "PromiseFlows" 18 ⟨"PromiseFlows$Arrivals", "<init>", "()V"⟩ "PromiseFlows" ∈ pf_nest := mem_nest (i := 119) (by decide +kernel) (by decide +kernel)
theorem tw_120 : Cond.instanceMethod ⟨"PromiseFlows$Arrivals", "<init>", "()V"⟩ ∈ pf_tb := mem_tb (i := 120) (by decide +kernel) (by decide +kernel)
theorem tw_121 : Cond.code ⟨"PromiseFlows$Arrivals", "<init>", "()V"⟩ prog_2_method_1_code 1 (Option.none : Option Jvm.ClassFile.FieldType) ∈ pf_tb := mem_tb (i := 121) (by decide +kernel) (by decide +kernel)
theorem tw_122 : Cond.methodLink "PromiseFlows$Arrivals" 3 ⟨"java/lang/Object", "<init>", "()V"⟩ ∈ pf_tb := mem_tb (i := 122) (by decide +kernel) (by decide +kernel)
theorem tw_123 : Cond.fieldLink "PromiseFlows$Arrivals" 9 "PromiseFlows$Arrivals" "number" "I" ∈ pf_tb := mem_tb (i := 123) (by decide +kernel) (by decide +kernel)
theorem tw_124 : Cond.fieldLinkNest "PromiseFlows$Takings" 43 "PromiseFlows$Arrivals" "number" "I" "PromiseFlows" ∈ pf_nest := mem_nest (i := 124) (by decide +kernel) (by decide +kernel)
theorem tw_125 : Cond.fieldLinkNest "PromiseFlows" 52 "PromiseFlows$Arrivals" "number" "I" "PromiseFlows" ∈ pf_nest := mem_nest (i := 125) (by decide +kernel) (by decide +kernel)
theorem tw_126 : Cond.fieldLink "PromiseFlows$Arrivals" 15 "PromiseFlows$Arrivals" "times" "[I" ∈ pf_tb := mem_tb (i := 126) (by decide +kernel) (by decide +kernel)
theorem tw_127 : Cond.fieldLinkNest "PromiseFlows" 83 "PromiseFlows$Arrivals" "times" "[I" "PromiseFlows" ∈ pf_nest := mem_nest (i := 127) (by decide +kernel) (by decide +kernel)
theorem tw_128 : Cond.fieldLink "PromiseFlows$Arrivals" 19 "PromiseFlows$Arrivals" "goods" "[I" ∈ pf_tb := mem_tb (i := 128) (by decide +kernel) (by decide +kernel)
theorem tw_129 : Cond.fieldLinkNest "PromiseFlows" 276 "PromiseFlows$Arrivals" "goods" "[I" "PromiseFlows" ∈ pf_nest := mem_nest (i := 129) (by decide +kernel) (by decide +kernel)
theorem tw_130 : Cond.fieldLink "PromiseFlows$Arrivals" 22 "PromiseFlows$Arrivals" "brought" "[I" ∈ pf_tb := mem_tb (i := 130) (by decide +kernel) (by decide +kernel)
theorem tw_131 : Cond.fieldLinkNest "PromiseFlows" 86 "PromiseFlows$Arrivals" "brought" "[I" "PromiseFlows" ∈ pf_nest := mem_nest (i := 131) (by decide +kernel) (by decide +kernel)
theorem tw_132 : Cond.fieldLink "PromiseFlows$Arrivals" 25 "PromiseFlows$Arrivals" "setAside" "[I" ∈ pf_tb := mem_tb (i := 132) (by decide +kernel) (by decide +kernel)
theorem tw_133 : Cond.fieldLinkNest "PromiseFlows" 74 "PromiseFlows$Arrivals" "setAside" "[I" "PromiseFlows" ∈ pf_nest := mem_nest (i := 133) (by decide +kernel) (by decide +kernel)
theorem tw_144 : Cond.superclass "PromiseFlows$Arrivals" "java/lang/Object" ∈ pf_tb := mem_tb (i := 144) (by decide +kernel) (by decide +kernel)
theorem tw_145 : Cond.classLink "PromiseFlows" 23 "PromiseFlows$Orders" ∈ pf_tb := mem_tb (i := 145) (by decide +kernel) (by decide +kernel)
theorem tw_146 : Cond.instantiable "PromiseFlows$Orders" 7 ∈ pf_tb := mem_tb (i := 146) (by decide +kernel) (by decide +kernel)
theorem tw_147 : Cond.methodLinkNest "PromiseFlows" 25 ⟨"PromiseFlows$Orders", "<init>", "()V"⟩ "PromiseFlows" ∈ pf_nest := mem_nest (i := 147) (by decide +kernel) (by decide +kernel)
theorem tw_148 : Cond.instanceMethod ⟨"PromiseFlows$Orders", "<init>", "()V"⟩ ∈ pf_tb := mem_tb (i := 148) (by decide +kernel) (by decide +kernel)
theorem tw_149 : Cond.code ⟨"PromiseFlows$Orders", "<init>", "()V"⟩ prog_4_method_1_code 1 (Option.none : Option Jvm.ClassFile.FieldType) ∈ pf_tb := mem_tb (i := 149) (by decide +kernel) (by decide +kernel)
theorem tw_150 : Cond.methodLink "PromiseFlows$Orders" 3 ⟨"java/lang/Object", "<init>", "()V"⟩ ∈ pf_tb := mem_tb (i := 150) (by decide +kernel) (by decide +kernel)
theorem tw_151 : Cond.fieldLink "PromiseFlows$Orders" 9 "PromiseFlows$Orders" "number" "I" ∈ pf_tb := mem_tb (i := 151) (by decide +kernel) (by decide +kernel)
theorem tw_152 : Cond.fieldLinkNest "PromiseFlows" 133 "PromiseFlows$Orders" "number" "I" "PromiseFlows" ∈ pf_nest := mem_nest (i := 152) (by decide +kernel) (by decide +kernel)
theorem tw_153 : Cond.fieldLink "PromiseFlows$Orders" 15 "PromiseFlows$Orders" "dues" "[I" ∈ pf_tb := mem_tb (i := 153) (by decide +kernel) (by decide +kernel)
theorem tw_154 : Cond.fieldLinkNest "PromiseFlows" 245 "PromiseFlows$Orders" "dues" "[I" "PromiseFlows" ∈ pf_nest := mem_nest (i := 154) (by decide +kernel) (by decide +kernel)
theorem tw_155 : Cond.fieldLink "PromiseFlows$Orders" 19 "PromiseFlows$Orders" "goods" "[I" ∈ pf_tb := mem_tb (i := 155) (by decide +kernel) (by decide +kernel)
theorem tw_156 : Cond.fieldLinkNest "PromiseFlows" 195 "PromiseFlows$Orders" "goods" "[I" "PromiseFlows" ∈ pf_nest := mem_nest (i := 156) (by decide +kernel) (by decide +kernel)
theorem tw_157 : Cond.fieldLink "PromiseFlows$Orders" 22 "PromiseFlows$Orders" "wanted" "[I" ∈ pf_tb := mem_tb (i := 157) (by decide +kernel) (by decide +kernel)
theorem tw_158 : Cond.fieldLinkNest "PromiseFlows" 281 "PromiseFlows$Orders" "wanted" "[I" "PromiseFlows" ∈ pf_nest := mem_nest (i := 158) (by decide +kernel) (by decide +kernel)
theorem tw_159 : Cond.fieldLink "PromiseFlows$Orders" 25 "PromiseFlows$Orders" "ranks" "[I" ∈ pf_tb := mem_tb (i := 159) (by decide +kernel) (by decide +kernel)
theorem tw_160 : Cond.fieldLink "PromiseFlows$Orders" 28 "PromiseFlows$Orders" "states" "[I" ∈ pf_tb := mem_tb (i := 160) (by decide +kernel) (by decide +kernel)
theorem tw_161 : Cond.fieldLinkNest "PromiseFlows" 152 "PromiseFlows$Orders" "states" "[I" "PromiseFlows" ∈ pf_nest := mem_nest (i := 161) (by decide +kernel) (by decide +kernel)
theorem tw_162 : Cond.fieldLink "PromiseFlows$Orders" 31 "PromiseFlows$Orders" "byRank" "[I" ∈ pf_tb := mem_tb (i := 162) (by decide +kernel) (by decide +kernel)
theorem tw_163 : Cond.fieldLinkNest "PromiseFlows" 236 "PromiseFlows$Orders" "byRank" "[I" "PromiseFlows" ∈ pf_nest := mem_nest (i := 163) (by decide +kernel) (by decide +kernel)
theorem tw_178 : Cond.superclass "PromiseFlows$Orders" "java/lang/Object" ∈ pf_tb := mem_tb (i := 178) (by decide +kernel) (by decide +kernel)
theorem tw_179 : Cond.classLink "PromiseFlows" 30 "PromiseFlows$Takings" ∈ pf_tb := mem_tb (i := 179) (by decide +kernel) (by decide +kernel)
theorem tw_180 : Cond.instantiable "PromiseFlows$Takings" 10 ∈ pf_tb := mem_tb (i := 180) (by decide +kernel) (by decide +kernel)
theorem tw_181 : Cond.methodLinkNest "PromiseFlows" 32 ⟨"PromiseFlows$Takings", "<init>", "()V"⟩ "PromiseFlows" ∈ pf_nest := mem_nest (i := 181) (by decide +kernel) (by decide +kernel)
theorem tw_182 : Cond.instanceMethod ⟨"PromiseFlows$Takings", "<init>", "()V"⟩ ∈ pf_tb := mem_tb (i := 182) (by decide +kernel) (by decide +kernel)
theorem tw_183 : Cond.code ⟨"PromiseFlows$Takings", "<init>", "()V"⟩ prog_5_method_1_code 1 (Option.none : Option Jvm.ClassFile.FieldType) ∈ pf_tb := mem_tb (i := 183) (by decide +kernel) (by decide +kernel)
theorem tw_184 : Cond.methodLink "PromiseFlows$Takings" 3 ⟨"java/lang/Object", "<init>", "()V"⟩ ∈ pf_tb := mem_tb (i := 184) (by decide +kernel) (by decide +kernel)
theorem tw_185 : Cond.fieldLink "PromiseFlows$Takings" 9 "PromiseFlows$Takings" "arrivals" "I" ∈ pf_tb := mem_tb (i := 185) (by decide +kernel) (by decide +kernel)
theorem tw_186 : Cond.fieldLink "PromiseFlows$Takings" 15 "PromiseFlows$Takings" "byTime" "[I" ∈ pf_tb := mem_tb (i := 186) (by decide +kernel) (by decide +kernel)
theorem tw_187 : Cond.fieldLink "PromiseFlows$Takings" 19 "PromiseFlows$Takings" "room" "[I" ∈ pf_tb := mem_tb (i := 187) (by decide +kernel) (by decide +kernel)
theorem tw_188 : Cond.fieldLinkNest "PromiseFlows" 204 "PromiseFlows$Takings" "room" "[I" "PromiseFlows" ∈ pf_nest := mem_nest (i := 188) (by decide +kernel) (by decide +kernel)
theorem tw_189 : Cond.fieldLink "PromiseFlows$Takings" 22 "PromiseFlows$Takings" "taken" "[I" ∈ pf_tb := mem_tb (i := 189) (by decide +kernel) (by decide +kernel)
theorem tw_190 : Cond.fieldLink "PromiseFlows$Takings" 25 "PromiseFlows$Takings" "usable" "[I" ∈ pf_tb := mem_tb (i := 190) (by decide +kernel) (by decide +kernel)
theorem tw_191 : Cond.fieldLinkNest "PromiseFlows" 242 "PromiseFlows$Takings" "usable" "[I" "PromiseFlows" ∈ pf_nest := mem_nest (i := 191) (by decide +kernel) (by decide +kernel)
theorem tw_192 : Cond.fieldLink "PromiseFlows$Takings" 28 "PromiseFlows$Takings" "savedRoom" "[I" ∈ pf_tb := mem_tb (i := 192) (by decide +kernel) (by decide +kernel)
theorem tw_193 : Cond.fieldLink "PromiseFlows$Takings" 31 "PromiseFlows$Takings" "savedTaken" "[I" ∈ pf_tb := mem_tb (i := 193) (by decide +kernel) (by decide +kernel)
theorem tw_194 : Cond.fieldLink "PromiseFlows$Takings" 34 "PromiseFlows$Takings" "reachedInTurn" "[I" ∈ pf_tb := mem_tb (i := 194) (by decide +kernel) (by decide +kernel)
theorem tw_195 : Cond.fieldLink "PromiseFlows$Takings" 37 "PromiseFlows$Takings" "reachedFrom" "[I" ∈ pf_tb := mem_tb (i := 195) (by decide +kernel) (by decide +kernel)
theorem tw_196 : Cond.fieldLink "PromiseFlows$Takings" 40 "PromiseFlows$Takings" "reachedBy" "[I" ∈ pf_tb := mem_tb (i := 196) (by decide +kernel) (by decide +kernel)
theorem tw_217 : Cond.superclass "PromiseFlows$Takings" "java/lang/Object" ∈ pf_tb := mem_tb (i := 217) (by decide +kernel) (by decide +kernel)
theorem tw_218 : Cond.fieldLink "PromiseFlows" 12 "PromiseFlows" "goods" "LPromiseFlows$Goods;" ∈ pf_tb := mem_tb (i := 218) (by decide +kernel) (by decide +kernel)
theorem tw_219 : Cond.fieldLink "PromiseFlows" 19 "PromiseFlows" "arrivals" "LPromiseFlows$Arrivals;" ∈ pf_tb := mem_tb (i := 219) (by decide +kernel) (by decide +kernel)
theorem tw_220 : Cond.fieldLink "PromiseFlows" 26 "PromiseFlows" "orders" "LPromiseFlows$Orders;" ∈ pf_tb := mem_tb (i := 220) (by decide +kernel) (by decide +kernel)
theorem tw_221 : Cond.fieldLink "PromiseFlows" 33 "PromiseFlows" "takings" "LPromiseFlows$Takings;" ∈ pf_tb := mem_tb (i := 221) (by decide +kernel) (by decide +kernel)
theorem tw_230 : Cond.superclass "PromiseFlows" "java/lang/Object" ∈ pf_tb := mem_tb (i := 230) (by decide +kernel) (by decide +kernel)
theorem tw_231 : Cond.methodLink "PromiseFlowsLaw" 123 ⟨"PromiseFlows", "count", "(I)I"⟩ ∈ pf_tb := mem_tb (i := 231) (by decide +kernel) (by decide +kernel)
theorem tw_232 : Cond.instanceMethod ⟨"PromiseFlows", "count", "(I)I"⟩ ∈ pf_tb := mem_tb (i := 232) (by decide +kernel) (by decide +kernel)
theorem tw_233 : Cond.selects "PromiseFlows" ⟨"PromiseFlows", "count", "(I)I"⟩ ⟨"PromiseFlows", "count", "(I)I"⟩ ∈ pf_tb := mem_tb (i := 233) (by decide +kernel) (by decide +kernel)
theorem tw_234 : Cond.code ⟨"PromiseFlows", "count", "(I)I"⟩ prog_1_method_16_code 2 (some FieldType.int) ∈ pf_tb := mem_tb (i := 234) (by decide +kernel) (by decide +kernel)
theorem tw_235 : Cond.methodLinkNest "PromiseFlows" 207 ⟨"PromiseFlows$Orders", "numberIn", "(I)I"⟩ "PromiseFlows" ∈ pf_nest := mem_nest (i := 235) (by decide +kernel) (by decide +kernel)
theorem tw_237 : Cond.instanceMethod ⟨"PromiseFlows$Orders", "numberIn", "(I)I"⟩ ∈ pf_tb := mem_tb (i := 237) (by decide +kernel) (by decide +kernel)
theorem tw_238 : Cond.code ⟨"PromiseFlows$Orders", "numberIn", "(I)I"⟩ prog_4_method_5_code 4 (some FieldType.int) ∈ pf_tb := mem_tb (i := 238) (by decide +kernel) (by decide +kernel)
theorem tw_239 : Cond.methodLinkNest "PromiseFlows" 210 ⟨"PromiseFlows$Arrivals", "allFree", "()I"⟩ "PromiseFlows" ∈ pf_nest := mem_nest (i := 239) (by decide +kernel) (by decide +kernel)
theorem tw_241 : Cond.instanceMethod ⟨"PromiseFlows$Arrivals", "allFree", "()I"⟩ ∈ pf_tb := mem_tb (i := 241) (by decide +kernel) (by decide +kernel)
theorem tw_242 : Cond.code ⟨"PromiseFlows$Arrivals", "allFree", "()I"⟩ prog_2_method_5_code 3 (some FieldType.int) ∈ pf_tb := mem_tb (i := 242) (by decide +kernel) (by decide +kernel)
theorem tw_243 : Cond.methodLink "PromiseFlows$Arrivals" 28 ⟨"PromiseFlows$Arrivals", "free", "(I)I"⟩ ∈ pf_tb := mem_tb (i := 243) (by decide +kernel) (by decide +kernel)
theorem tw_245 : Cond.instanceMethod ⟨"PromiseFlows$Arrivals", "free", "(I)I"⟩ ∈ pf_tb := mem_tb (i := 245) (by decide +kernel) (by decide +kernel)
theorem tw_246 : Cond.code ⟨"PromiseFlows$Arrivals", "free", "(I)I"⟩ prog_2_method_4_code 2 (some FieldType.int) ∈ pf_tb := mem_tb (i := 246) (by decide +kernel) (by decide +kernel)
theorem tw_247 : Cond.methodLink "PromiseFlows" 213 ⟨"PromiseFlows", "allCoveredDemands", "()I"⟩ ∈ pf_tb := mem_tb (i := 247) (by decide +kernel) (by decide +kernel)
theorem tw_249 : Cond.instanceMethod ⟨"PromiseFlows", "allCoveredDemands", "()I"⟩ ∈ pf_tb := mem_tb (i := 249) (by decide +kernel) (by decide +kernel)
theorem tw_250 : Cond.code ⟨"PromiseFlows", "allCoveredDemands", "()I"⟩ prog_1_method_32_code 4 (some FieldType.int) ∈ pf_tb := mem_tb (i := 250) (by decide +kernel) (by decide +kernel)
theorem tw_251 : Cond.methodLink "PromiseFlows" 186 ⟨"PromiseFlows", "demandsOf", "(I)I"⟩ ∈ pf_tb := mem_tb (i := 251) (by decide +kernel) (by decide +kernel)
theorem tw_253 : Cond.instanceMethod ⟨"PromiseFlows", "demandsOf", "(I)I"⟩ ∈ pf_tb := mem_tb (i := 253) (by decide +kernel) (by decide +kernel)
theorem tw_254 : Cond.code ⟨"PromiseFlows", "demandsOf", "(I)I"⟩ prog_1_method_30_code 2 (some FieldType.int) ∈ pf_tb := mem_tb (i := 254) (by decide +kernel) (by decide +kernel)
theorem tw_255 : Cond.methodLinkNest "PromiseFlows" 260 ⟨"PromiseFlows$Goods", "demandsOf", "(I)I"⟩ "PromiseFlows" ∈ pf_nest := mem_nest (i := 255) (by decide +kernel) (by decide +kernel)
theorem tw_257 : Cond.instanceMethod ⟨"PromiseFlows$Goods", "demandsOf", "(I)I"⟩ ∈ pf_tb := mem_tb (i := 257) (by decide +kernel) (by decide +kernel)
theorem tw_258 : Cond.code ⟨"PromiseFlows$Goods", "demandsOf", "(I)I"⟩ prog_3_method_10_code 2 (some FieldType.int) ∈ pf_tb := mem_tb (i := 258) (by decide +kernel) (by decide +kernel)
theorem tw_259 : Cond.methodLink "PromiseFlows$Goods" 35 ⟨"PromiseFlows$Goods", "isKit", "(I)Z"⟩ ∈ pf_tb := mem_tb (i := 259) (by decide +kernel) (by decide +kernel)
theorem tw_261 : Cond.instanceMethod ⟨"PromiseFlows$Goods", "isKit", "(I)Z"⟩ ∈ pf_tb := mem_tb (i := 261) (by decide +kernel) (by decide +kernel)
theorem tw_262 : Cond.code ⟨"PromiseFlows$Goods", "isKit", "(I)Z"⟩ prog_3_method_6_code 2 (some FieldType.boolean) ∈ pf_tb := mem_tb (i := 262) (by decide +kernel) (by decide +kernel)
theorem tw_263 : Cond.methodLink "PromiseFlows" 248 ⟨"PromiseFlows", "wantedBy", "(II)I"⟩ ∈ pf_tb := mem_tb (i := 263) (by decide +kernel) (by decide +kernel)
theorem tw_265 : Cond.instanceMethod ⟨"PromiseFlows", "wantedBy", "(II)I"⟩ ∈ pf_tb := mem_tb (i := 265) (by decide +kernel) (by decide +kernel)
theorem tw_266 : Cond.code ⟨"PromiseFlows", "wantedBy", "(II)I"⟩ prog_1_method_31_code 3 (some FieldType.int) ∈ pf_tb := mem_tb (i := 266) (by decide +kernel) (by decide +kernel)
theorem tw_267 : Cond.methodLinkNest "PromiseFlows" 265 ⟨"PromiseFlows$Goods", "numberForOne", "(II)I"⟩ "PromiseFlows" ∈ pf_nest := mem_nest (i := 267) (by decide +kernel) (by decide +kernel)
theorem tw_269 : Cond.instanceMethod ⟨"PromiseFlows$Goods", "numberForOne", "(II)I"⟩ ∈ pf_tb := mem_tb (i := 269) (by decide +kernel) (by decide +kernel)
theorem tw_270 : Cond.code ⟨"PromiseFlows$Goods", "numberForOne", "(II)I"⟩ prog_3_method_12_code 3 (some FieldType.int) ∈ pf_tb := mem_tb (i := 270) (by decide +kernel) (by decide +kernel)
theorem tw_271 : Cond.methodLink "PromiseFlowsLaw" 70 ⟨"PromiseFlowsLaw", "arrival", "(LPromiseFlows;III[J)I"⟩ ∈ pf_tb := mem_tb (i := 271) (by decide +kernel) (by decide +kernel)
theorem tw_272 : Cond.static ⟨"PromiseFlowsLaw", "arrival", "(LPromiseFlows;III[J)I"⟩ ∈ pf_tb := mem_tb (i := 272) (by decide +kernel) (by decide +kernel)
theorem tw_274 : Cond.classLink "PromiseFlowsLaw" 13 "java/lang/IllegalArgumentException" ∈ pf_tb := mem_tb (i := 274) (by decide +kernel) (by decide +kernel)
theorem tw_275 : Cond.classLink "PromiseFlowsLaw" 15 "java/lang/IllegalStateException" ∈ pf_tb := mem_tb (i := 275) (by decide +kernel) (by decide +kernel)
theorem tw_276 : Cond.classLink "PromiseFlowsLaw" 17 "java/lang/UnsupportedOperationException" ∈ pf_tb := mem_tb (i := 276) (by decide +kernel) (by decide +kernel)
theorem tw_277 : Cond.methodLink "PromiseFlowsLaw" 7 ⟨"PromiseFlows", "arrival", "(III)I"⟩ ∈ pf_tb := mem_tb (i := 277) (by decide +kernel) (by decide +kernel)
theorem tw_278 : Cond.instanceMethod ⟨"PromiseFlows", "arrival", "(III)I"⟩ ∈ pf_tb := mem_tb (i := 278) (by decide +kernel) (by decide +kernel)
theorem tw_279 : Cond.selects "PromiseFlows" ⟨"PromiseFlows", "arrival", "(III)I"⟩ ⟨"PromiseFlows", "arrival", "(III)I"⟩ ∈ pf_tb := mem_tb (i := 279) (by decide +kernel) (by decide +kernel)
theorem tw_280 : Cond.code ⟨"PromiseFlows", "arrival", "(III)I"⟩ prog_1_method_2_code 5 (some FieldType.int) ∈ pf_tb := mem_tb (i := 280) (by decide +kernel) (by decide +kernel)
theorem tw_281 : Cond.methodLink "PromiseFlows" 37 ⟨"PromiseFlows", "needTime", "(I)V"⟩ ∈ pf_tb := mem_tb (i := 281) (by decide +kernel) (by decide +kernel)
theorem tw_282 : Cond.static ⟨"PromiseFlows", "needTime", "(I)V"⟩ ∈ pf_tb := mem_tb (i := 282) (by decide +kernel) (by decide +kernel)
theorem tw_283 : Cond.code ⟨"PromiseFlows", "needTime", "(I)V"⟩ prog_1_method_19_code 1 (Option.none : Option Jvm.ClassFile.FieldType) ∈ pf_tb := mem_tb (i := 283) (by decide +kernel) (by decide +kernel)
theorem tw_284 : Cond.methodLink "PromiseFlows" 45 ⟨"PromiseFlows", "needWithin", "(III)V"⟩ ∈ pf_tb := mem_tb (i := 284) (by decide +kernel) (by decide +kernel)
theorem tw_285 : Cond.static ⟨"PromiseFlows", "needWithin", "(III)V"⟩ ∈ pf_tb := mem_tb (i := 285) (by decide +kernel) (by decide +kernel)
theorem tw_286 : Cond.code ⟨"PromiseFlows", "needWithin", "(III)V"⟩ prog_1_method_17_code 3 (Option.none : Option Jvm.ClassFile.FieldType) ∈ pf_tb := mem_tb (i := 286) (by decide +kernel) (by decide +kernel)
theorem tw_287 : Cond.classLink "PromiseFlows" 92 "java/lang/IllegalArgumentException" ∈ pf_tb := mem_tb (i := 287) (by decide +kernel) (by decide +kernel)
theorem tw_288 : Cond.instantiable "java/lang/IllegalArgumentException" 6 ∈ pf_tb := mem_tb (i := 288) (by decide +kernel) (by decide +kernel)
theorem tw_296 : Cond.selects "java/lang/IllegalArgumentException" ⟨"java/lang/Throwable", "fillInStackTrace", "(I)Ljava/lang/Throwable;"⟩ ⟨"java/lang/Throwable", "fillInStackTrace", "(I)Ljava/lang/Throwable;"⟩ ∈ pf_tb := mem_tb (i := 296) (by decide +kernel) (by decide +kernel)
theorem tw_297 : Cond.selects "java/lang/IllegalArgumentException" ⟨"java/lang/Throwable", "fillInStackTrace", "()Ljava/lang/Throwable;"⟩ ⟨"java/lang/Throwable", "fillInStackTrace", "()Ljava/lang/Throwable;"⟩ ∈ pf_tb := mem_tb (i := 297) (by decide +kernel) (by decide +kernel)
theorem tw_308 : Cond.fieldLink "java/lang/Throwable" 198 "java/lang/Throwable" "backtrace" "Ljava/lang/Object;" ∈ pf_tb := mem_tb (i := 308) (by decide +kernel) (by decide +kernel)
theorem tw_309 : Cond.superclass "java/lang/Throwable" "java/lang/Object" ∈ pf_tb := mem_tb (i := 309) (by decide +kernel) (by decide +kernel)
theorem tw_310 : Cond.instanceMethod ⟨"java/lang/Throwable", "<init>", "()V"⟩ ∈ pf_tb := mem_tb (i := 310) (by decide +kernel) (by decide +kernel)
theorem tw_311 : Cond.code ⟨"java/lang/Throwable", "<init>", "()V"⟩ prog_17_method_1_code 1 (Option.none : Option Jvm.ClassFile.FieldType) ∈ pf_tb := mem_tb (i := 311) (by decide +kernel) (by decide +kernel)
theorem tw_312 : Cond.methodLink "java/lang/Throwable" 1 ⟨"java/lang/Object", "<init>", "()V"⟩ ∈ pf_tb := mem_tb (i := 312) (by decide +kernel) (by decide +kernel)
theorem tw_313 : Cond.fieldLink "java/lang/Throwable" 13 "java/lang/Throwable" "UNASSIGNED_STACK" "[Ljava/lang/StackTraceElement;" ∈ pf_tb := mem_tb (i := 313) (by decide +kernel) (by decide +kernel)
theorem tw_315 : Cond.fieldLink "java/lang/Throwable" 20 "java/lang/Throwable" "SUPPRESSED_SENTINEL" "Ljava/util/List;" ∈ pf_tb := mem_tb (i := 315) (by decide +kernel) (by decide +kernel)
theorem tw_317 : Cond.methodLink "java/lang/Throwable" 27 ⟨"java/lang/Throwable", "fillInStackTrace", "()Ljava/lang/Throwable;"⟩ ∈ pf_tb := mem_tb (i := 317) (by decide +kernel) (by decide +kernel)
theorem tw_318 : Cond.instanceMethod ⟨"java/lang/Throwable", "fillInStackTrace", "()Ljava/lang/Throwable;"⟩ ∈ pf_tb := mem_tb (i := 318) (by decide +kernel) (by decide +kernel)
theorem tw_320 : Cond.selects "java/lang/ArithmeticException" ⟨"java/lang/Throwable", "fillInStackTrace", "()Ljava/lang/Throwable;"⟩ ⟨"java/lang/Throwable", "fillInStackTrace", "()Ljava/lang/Throwable;"⟩ ∈ pf_tb := mem_tb (i := 320) (by decide +kernel) (by decide +kernel)
theorem tw_321 : Cond.selects "java/lang/IllegalStateException" ⟨"java/lang/Throwable", "fillInStackTrace", "()Ljava/lang/Throwable;"⟩ ⟨"java/lang/Throwable", "fillInStackTrace", "()Ljava/lang/Throwable;"⟩ ∈ pf_tb := mem_tb (i := 321) (by decide +kernel) (by decide +kernel)
theorem tw_322 : Cond.selects "java/lang/UnsupportedOperationException" ⟨"java/lang/Throwable", "fillInStackTrace", "()Ljava/lang/Throwable;"⟩ ⟨"java/lang/Throwable", "fillInStackTrace", "()Ljava/lang/Throwable;"⟩ ∈ pf_tb := mem_tb (i := 322) (by decide +kernel) (by decide +kernel)
theorem tw_323 : Cond.selects "java/util/NoSuchElementException" ⟨"java/lang/Throwable", "fillInStackTrace", "()Ljava/lang/Throwable;"⟩ ⟨"java/lang/Throwable", "fillInStackTrace", "()Ljava/lang/Throwable;"⟩ ∈ pf_tb := mem_tb (i := 323) (by decide +kernel) (by decide +kernel)
theorem tw_325 : Cond.methodLink "java/lang/Throwable" 202 ⟨"java/lang/Throwable", "fillInStackTrace", "(I)Ljava/lang/Throwable;"⟩ ∈ pf_tb := mem_tb (i := 325) (by decide +kernel) (by decide +kernel)
theorem tw_327 : Cond.instanceMethod ⟨"java/lang/Throwable", "fillInStackTrace", "(I)Ljava/lang/Throwable;"⟩ ∈ pf_tb := mem_tb (i := 327) (by decide +kernel) (by decide +kernel)
theorem tw_328 : Cond.instantiable "java/lang/Throwable" 6 ∈ pf_tb := mem_tb (i := 328) (by decide +kernel) (by decide +kernel)
theorem tw_329 : Cond.native ⟨"java/lang/Throwable", "fillInStackTrace", "(I)Ljava/lang/Throwable;"⟩ ∈ pf_tb := mem_tb (i := 329) (by decide +kernel) (by decide +kernel)
theorem tw_331 : Cond.methodLink "PromiseFlows" 96 ⟨"java/lang/IllegalArgumentException", "<init>", "(Ljava/lang/String;)V"⟩ ∈ pf_tb := mem_tb (i := 331) (by decide +kernel) (by decide +kernel)
theorem tw_332 : Cond.instanceMethod ⟨"java/lang/IllegalArgumentException", "<init>", "(Ljava/lang/String;)V"⟩ ∈ pf_tb := mem_tb (i := 332) (by decide +kernel) (by decide +kernel)
theorem tw_333 : Cond.code ⟨"java/lang/IllegalArgumentException", "<init>", "(Ljava/lang/String;)V"⟩ prog_10_method_2_code 2 (Option.none : Option Jvm.ClassFile.FieldType) ∈ pf_tb := mem_tb (i := 333) (by decide +kernel) (by decide +kernel)
theorem tw_334 : Cond.methodLink "java/lang/IllegalArgumentException" 7 ⟨"java/lang/RuntimeException", "<init>", "(Ljava/lang/String;)V"⟩ ∈ pf_tb := mem_tb (i := 334) (by decide +kernel) (by decide +kernel)
theorem tw_335 : Cond.instanceMethod ⟨"java/lang/RuntimeException", "<init>", "(Ljava/lang/String;)V"⟩ ∈ pf_tb := mem_tb (i := 335) (by decide +kernel) (by decide +kernel)
theorem tw_336 : Cond.code ⟨"java/lang/RuntimeException", "<init>", "(Ljava/lang/String;)V"⟩ prog_14_method_2_code 2 (Option.none : Option Jvm.ClassFile.FieldType) ∈ pf_tb := mem_tb (i := 336) (by decide +kernel) (by decide +kernel)
theorem tw_337 : Cond.methodLink "java/lang/RuntimeException" 7 ⟨"java/lang/Exception", "<init>", "(Ljava/lang/String;)V"⟩ ∈ pf_tb := mem_tb (i := 337) (by decide +kernel) (by decide +kernel)
theorem tw_338 : Cond.instanceMethod ⟨"java/lang/Exception", "<init>", "(Ljava/lang/String;)V"⟩ ∈ pf_tb := mem_tb (i := 338) (by decide +kernel) (by decide +kernel)
theorem tw_339 : Cond.code ⟨"java/lang/Exception", "<init>", "(Ljava/lang/String;)V"⟩ prog_9_method_2_code 2 (Option.none : Option Jvm.ClassFile.FieldType) ∈ pf_tb := mem_tb (i := 339) (by decide +kernel) (by decide +kernel)
theorem tw_340 : Cond.methodLink "java/lang/Exception" 7 ⟨"java/lang/Throwable", "<init>", "(Ljava/lang/String;)V"⟩ ∈ pf_tb := mem_tb (i := 340) (by decide +kernel) (by decide +kernel)
theorem tw_341 : Cond.instanceMethod ⟨"java/lang/Throwable", "<init>", "(Ljava/lang/String;)V"⟩ ∈ pf_tb := mem_tb (i := 341) (by decide +kernel) (by decide +kernel)
theorem tw_342 : Cond.code ⟨"java/lang/Throwable", "<init>", "(Ljava/lang/String;)V"⟩ prog_17_method_2_code 2 (Option.none : Option Jvm.ClassFile.FieldType) ∈ pf_tb := mem_tb (i := 342) (by decide +kernel) (by decide +kernel)
theorem tw_344 : Cond.fieldLink "java/lang/Throwable" 31 "java/lang/Throwable" "detailMessage" "Ljava/lang/String;" ∈ pf_tb := mem_tb (i := 344) (by decide +kernel) (by decide +kernel)
theorem tw_345 : Cond.fieldLink "java/lang/Throwable" 7 "java/lang/Throwable" "cause" "Ljava/lang/Throwable;" ∈ pf_tb := mem_tb (i := 345) (by decide +kernel) (by decide +kernel)
theorem tw_346 : Cond.fieldLink "java/lang/Throwable" 17 "java/lang/Throwable" "stackTrace" "[Ljava/lang/StackTraceElement;" ∈ pf_tb := mem_tb (i := 346) (by decide +kernel) (by decide +kernel)
theorem tw_347 : Cond.fieldLink "java/lang/Throwable" 24 "java/lang/Throwable" "suppressedExceptions" "Ljava/util/List;" ∈ pf_tb := mem_tb (i := 347) (by decide +kernel) (by decide +kernel)
theorem tw_355 : Cond.superclass "java/lang/IllegalArgumentException" "java/lang/RuntimeException" ∈ pf_tb := mem_tb (i := 355) (by decide +kernel) (by decide +kernel)
theorem tw_356 : Cond.arrayClass FieldType.byte ∈ pf_tb := mem_tb (i := 356) (by decide +kernel) (by decide +kernel)
theorem tw_357 : Cond.methodLink "PromiseFlows" 41 ⟨"PromiseFlows", "needGood", "(I)V"⟩ ∈ pf_tb := mem_tb (i := 357) (by decide +kernel) (by decide +kernel)
theorem tw_358 : Cond.static ⟨"PromiseFlows", "needGood", "(I)V"⟩ ∈ pf_tb := mem_tb (i := 358) (by decide +kernel) (by decide +kernel)
theorem tw_359 : Cond.code ⟨"PromiseFlows", "needGood", "(I)V"⟩ prog_1_method_18_code 1 (Option.none : Option Jvm.ClassFile.FieldType) ∈ pf_tb := mem_tb (i := 359) (by decide +kernel) (by decide +kernel)
theorem tw_360 : Cond.constant "PromiseFlows" 44 1000000 ∈ pf_tb := mem_tb (i := 360) (by decide +kernel) (by decide +kernel)
theorem tw_361 : Cond.methodLink "PromiseFlows" 49 ⟨"PromiseFlows", "needNoKit", "(I)V"⟩ ∈ pf_tb := mem_tb (i := 361) (by decide +kernel) (by decide +kernel)
theorem tw_363 : Cond.instanceMethod ⟨"PromiseFlows", "needNoKit", "(I)V"⟩ ∈ pf_tb := mem_tb (i := 363) (by decide +kernel) (by decide +kernel)
theorem tw_364 : Cond.code ⟨"PromiseFlows", "needNoKit", "(I)V"⟩ prog_1_method_23_code 2 (Option.none : Option Jvm.ClassFile.FieldType) ∈ pf_tb := mem_tb (i := 364) (by decide +kernel) (by decide +kernel)
theorem tw_365 : Cond.methodLinkNest "PromiseFlows" 227 ⟨"PromiseFlows$Goods", "isKit", "(I)Z"⟩ "PromiseFlows" ∈ pf_nest := mem_nest (i := 365) (by decide +kernel) (by decide +kernel)
theorem tw_366 : Cond.classLink "PromiseFlows" 78 "java/lang/IllegalStateException" ∈ pf_tb := mem_tb (i := 366) (by decide +kernel) (by decide +kernel)
theorem tw_367 : Cond.instantiable "java/lang/IllegalStateException" 6 ∈ pf_tb := mem_tb (i := 367) (by decide +kernel) (by decide +kernel)
theorem tw_369 : Cond.selects "java/lang/IllegalStateException" ⟨"java/lang/Throwable", "fillInStackTrace", "(I)Ljava/lang/Throwable;"⟩ ⟨"java/lang/Throwable", "fillInStackTrace", "(I)Ljava/lang/Throwable;"⟩ ∈ pf_tb := mem_tb (i := 369) (by decide +kernel) (by decide +kernel)
theorem tw_376 : Cond.methodLink "PromiseFlows" 82 ⟨"java/lang/IllegalStateException", "<init>", "(Ljava/lang/String;)V"⟩ ∈ pf_tb := mem_tb (i := 376) (by decide +kernel) (by decide +kernel)
theorem tw_377 : Cond.instanceMethod ⟨"java/lang/IllegalStateException", "<init>", "(Ljava/lang/String;)V"⟩ ∈ pf_tb := mem_tb (i := 377) (by decide +kernel) (by decide +kernel)
theorem tw_378 : Cond.code ⟨"java/lang/IllegalStateException", "<init>", "(Ljava/lang/String;)V"⟩ prog_11_method_2_code 2 (Option.none : Option Jvm.ClassFile.FieldType) ∈ pf_tb := mem_tb (i := 378) (by decide +kernel) (by decide +kernel)
theorem tw_379 : Cond.methodLink "java/lang/IllegalStateException" 7 ⟨"java/lang/RuntimeException", "<init>", "(Ljava/lang/String;)V"⟩ ∈ pf_tb := mem_tb (i := 379) (by decide +kernel) (by decide +kernel)
theorem tw_381 : Cond.superclass "java/lang/IllegalStateException" "java/lang/RuntimeException" ∈ pf_tb := mem_tb (i := 381) (by decide +kernel) (by decide +kernel)
theorem tw_382 : Cond.classLink "PromiseFlows" 56 "java/lang/UnsupportedOperationException" ∈ pf_tb := mem_tb (i := 382) (by decide +kernel) (by decide +kernel)
theorem tw_383 : Cond.instantiable "java/lang/UnsupportedOperationException" 6 ∈ pf_tb := mem_tb (i := 383) (by decide +kernel) (by decide +kernel)
theorem tw_385 : Cond.selects "java/lang/UnsupportedOperationException" ⟨"java/lang/Throwable", "fillInStackTrace", "(I)Ljava/lang/Throwable;"⟩ ⟨"java/lang/Throwable", "fillInStackTrace", "(I)Ljava/lang/Throwable;"⟩ ∈ pf_tb := mem_tb (i := 385) (by decide +kernel) (by decide +kernel)
theorem tw_392 : Cond.methodLink "PromiseFlows" 60 ⟨"java/lang/UnsupportedOperationException", "<init>", "(Ljava/lang/String;)V"⟩ ∈ pf_tb := mem_tb (i := 392) (by decide +kernel) (by decide +kernel)
theorem tw_393 : Cond.instanceMethod ⟨"java/lang/UnsupportedOperationException", "<init>", "(Ljava/lang/String;)V"⟩ ∈ pf_tb := mem_tb (i := 393) (by decide +kernel) (by decide +kernel)
theorem tw_394 : Cond.code ⟨"java/lang/UnsupportedOperationException", "<init>", "(Ljava/lang/String;)V"⟩ prog_18_method_2_code 2 (Option.none : Option Jvm.ClassFile.FieldType) ∈ pf_tb := mem_tb (i := 394) (by decide +kernel) (by decide +kernel)
theorem tw_395 : Cond.methodLink "java/lang/UnsupportedOperationException" 7 ⟨"java/lang/RuntimeException", "<init>", "(Ljava/lang/String;)V"⟩ ∈ pf_tb := mem_tb (i := 395) (by decide +kernel) (by decide +kernel)
theorem tw_397 : Cond.superclass "java/lang/UnsupportedOperationException" "java/lang/RuntimeException" ∈ pf_tb := mem_tb (i := 397) (by decide +kernel) (by decide +kernel)
theorem tw_398 : Cond.methodLinkNest "PromiseFlows" 63 ⟨"PromiseFlows$Arrivals", "add", "(III)I"⟩ "PromiseFlows" ∈ pf_nest := mem_nest (i := 398) (by decide +kernel) (by decide +kernel)
theorem tw_400 : Cond.instanceMethod ⟨"PromiseFlows$Arrivals", "add", "(III)I"⟩ ∈ pf_tb := mem_tb (i := 400) (by decide +kernel) (by decide +kernel)
theorem tw_401 : Cond.code ⟨"PromiseFlows$Arrivals", "add", "(III)I"⟩ prog_2_method_2_code 4 (some FieldType.int) ∈ pf_tb := mem_tb (i := 401) (by decide +kernel) (by decide +kernel)
theorem tw_402 : Cond.methodLink "PromiseFlows" 67 ⟨"PromiseFlows", "settle", "()I"⟩ ∈ pf_tb := mem_tb (i := 402) (by decide +kernel) (by decide +kernel)
theorem tw_404 : Cond.instanceMethod ⟨"PromiseFlows", "settle", "()I"⟩ ∈ pf_tb := mem_tb (i := 404) (by decide +kernel) (by decide +kernel)
theorem tw_405 : Cond.code ⟨"PromiseFlows", "settle", "()I"⟩ prog_1_method_24_code 3 (some FieldType.int) ∈ pf_tb := mem_tb (i := 405) (by decide +kernel) (by decide +kernel)
theorem tw_406 : Cond.methodLinkNest "PromiseFlows" 232 ⟨"PromiseFlows$Takings", "clear", "(LPromiseFlows$Arrivals;)V"⟩ "PromiseFlows" ∈ pf_nest := mem_nest (i := 406) (by decide +kernel) (by decide +kernel)
theorem tw_408 : Cond.instanceMethod ⟨"PromiseFlows$Takings", "clear", "(LPromiseFlows$Arrivals;)V"⟩ ∈ pf_tb := mem_tb (i := 408) (by decide +kernel) (by decide +kernel)
theorem tw_409 : Cond.code ⟨"PromiseFlows$Takings", "clear", "(LPromiseFlows$Arrivals;)V"⟩ prog_5_method_2_code 3 (Option.none : Option Jvm.ClassFile.FieldType) ∈ pf_tb := mem_tb (i := 409) (by decide +kernel) (by decide +kernel)
theorem tw_410 : Cond.methodLinkNest "PromiseFlows$Takings" 48 ⟨"PromiseFlows$Arrivals", "sortByTime", "([I)V"⟩ "PromiseFlows" ∈ pf_nest := mem_nest (i := 410) (by decide +kernel) (by decide +kernel)
theorem tw_412 : Cond.instanceMethod ⟨"PromiseFlows$Arrivals", "sortByTime", "([I)V"⟩ ∈ pf_tb := mem_tb (i := 412) (by decide +kernel) (by decide +kernel)
theorem tw_413 : Cond.code ⟨"PromiseFlows$Arrivals", "sortByTime", "([I)V"⟩ prog_2_method_7_code 4 (Option.none : Option Jvm.ClassFile.FieldType) ∈ pf_tb := mem_tb (i := 413) (by decide +kernel) (by decide +kernel)
theorem tw_414 : Cond.methodLinkNest "PromiseFlows$Takings" 52 ⟨"PromiseFlows$Arrivals", "free", "(I)I"⟩ "PromiseFlows" ∈ pf_nest := mem_nest (i := 414) (by decide +kernel) (by decide +kernel)
theorem tw_415 : Cond.methodLink "PromiseFlows" 140 ⟨"PromiseFlows", "joinsCovered", "(I)Z"⟩ ∈ pf_tb := mem_tb (i := 415) (by decide +kernel) (by decide +kernel)
theorem tw_417 : Cond.instanceMethod ⟨"PromiseFlows", "joinsCovered", "(I)Z"⟩ ∈ pf_tb := mem_tb (i := 417) (by decide +kernel) (by decide +kernel)
theorem tw_418 : Cond.code ⟨"PromiseFlows", "joinsCovered", "(I)Z"⟩ prog_1_method_25_code 4 (some FieldType.boolean) ∈ pf_tb := mem_tb (i := 418) (by decide +kernel) (by decide +kernel)
theorem tw_419 : Cond.methodLinkNest "PromiseFlows" 239 ⟨"PromiseFlows$Takings", "save", "()V"⟩ "PromiseFlows" ∈ pf_nest := mem_nest (i := 419) (by decide +kernel) (by decide +kernel)
theorem tw_421 : Cond.instanceMethod ⟨"PromiseFlows$Takings", "save", "()V"⟩ ∈ pf_tb := mem_tb (i := 421) (by decide +kernel) (by decide +kernel)
theorem tw_422 : Cond.code ⟨"PromiseFlows$Takings", "save", "()V"⟩ prog_5_method_3_code 1 (Option.none : Option Jvm.ClassFile.FieldType) ∈ pf_tb := mem_tb (i := 422) (by decide +kernel) (by decide +kernel)
theorem tw_423 : Cond.methodLink "PromiseFlows$Takings" 56 ⟨"java/lang/System", "arraycopy", "(Ljava/lang/Object;ILjava/lang/Object;II)V"⟩ ∈ pf_tb := mem_tb (i := 423) (by decide +kernel) (by decide +kernel)
theorem tw_424 : Cond.static ⟨"java/lang/System", "arraycopy", "(Ljava/lang/Object;ILjava/lang/Object;II)V"⟩ ∈ pf_tb := mem_tb (i := 424) (by decide +kernel) (by decide +kernel)
theorem tw_425 : Cond.native ⟨"java/lang/System", "arraycopy", "(Ljava/lang/Object;ILjava/lang/Object;II)V"⟩ ∈ pf_tb := mem_tb (i := 425) (by decide +kernel) (by decide +kernel)
theorem tw_426 : Cond.methodLink "PromiseFlows" 189 ⟨"PromiseFlows", "demandAt", "(II)I"⟩ ∈ pf_tb := mem_tb (i := 426) (by decide +kernel) (by decide +kernel)
theorem tw_427 : Cond.static ⟨"PromiseFlows", "demandAt", "(II)I"⟩ ∈ pf_tb := mem_tb (i := 427) (by decide +kernel) (by decide +kernel)
theorem tw_428 : Cond.code ⟨"PromiseFlows", "demandAt", "(II)I"⟩ prog_1_method_33_code 2 (some FieldType.int) ∈ pf_tb := mem_tb (i := 428) (by decide +kernel) (by decide +kernel)
theorem tw_429 : Cond.methodLinkNest "PromiseFlows" 197 ⟨"PromiseFlows$Goods", "demandGood", "(II)I"⟩ "PromiseFlows" ∈ pf_nest := mem_nest (i := 429) (by decide +kernel) (by decide +kernel)
theorem tw_431 : Cond.instanceMethod ⟨"PromiseFlows$Goods", "demandGood", "(II)I"⟩ ∈ pf_tb := mem_tb (i := 431) (by decide +kernel) (by decide +kernel)
theorem tw_432 : Cond.code ⟨"PromiseFlows$Goods", "demandGood", "(II)I"⟩ prog_3_method_11_code 3 (some FieldType.int) ∈ pf_tb := mem_tb (i := 432) (by decide +kernel) (by decide +kernel)
theorem tw_433 : Cond.methodLink "PromiseFlows" 161 ⟨"PromiseFlows", "usableFor", "(II)I"⟩ ∈ pf_tb := mem_tb (i := 433) (by decide +kernel) (by decide +kernel)
theorem tw_435 : Cond.instanceMethod ⟨"PromiseFlows", "usableFor", "(II)I"⟩ ∈ pf_tb := mem_tb (i := 435) (by decide +kernel) (by decide +kernel)
theorem tw_436 : Cond.code ⟨"PromiseFlows", "usableFor", "(II)I"⟩ prog_1_method_28_code 7 (some FieldType.int) ∈ pf_tb := mem_tb (i := 436) (by decide +kernel) (by decide +kernel)
theorem tw_437 : Cond.methodLinkNest "PromiseFlows" 277 ⟨"PromiseFlows$Goods", "meets", "(II)Z"⟩ "PromiseFlows" ∈ pf_nest := mem_nest (i := 437) (by decide +kernel) (by decide +kernel)
theorem tw_439 : Cond.instanceMethod ⟨"PromiseFlows$Goods", "meets", "(II)Z"⟩ ∈ pf_tb := mem_tb (i := 439) (by decide +kernel) (by decide +kernel)
theorem tw_440 : Cond.code ⟨"PromiseFlows$Goods", "meets", "(II)Z"⟩ prog_3_method_4_code 3 (some FieldType.boolean) ∈ pf_tb := mem_tb (i := 440) (by decide +kernel) (by decide +kernel)
theorem tw_441 : Cond.methodLink "PromiseFlows$Goods" 28 ⟨"PromiseFlows$Goods", "standsInFor", "(II)Z"⟩ ∈ pf_tb := mem_tb (i := 441) (by decide +kernel) (by decide +kernel)
theorem tw_443 : Cond.instanceMethod ⟨"PromiseFlows$Goods", "standsInFor", "(II)Z"⟩ ∈ pf_tb := mem_tb (i := 443) (by decide +kernel) (by decide +kernel)
theorem tw_444 : Cond.code ⟨"PromiseFlows$Goods", "standsInFor", "(II)Z"⟩ prog_3_method_2_code 3 (some FieldType.boolean) ∈ pf_tb := mem_tb (i := 444) (by decide +kernel) (by decide +kernel)
theorem tw_445 : Cond.methodLinkNest "PromiseFlows" 251 ⟨"PromiseFlows$Takings", "take", "(III)I"⟩ "PromiseFlows" ∈ pf_nest := mem_nest (i := 445) (by decide +kernel) (by decide +kernel)
theorem tw_447 : Cond.instanceMethod ⟨"PromiseFlows$Takings", "take", "(III)I"⟩ ∈ pf_tb := mem_tb (i := 447) (by decide +kernel) (by decide +kernel)
theorem tw_448 : Cond.code ⟨"PromiseFlows$Takings", "take", "(III)I"⟩ prog_5_method_7_code 8 (some FieldType.int) ∈ pf_tb := mem_tb (i := 448) (by decide +kernel) (by decide +kernel)
theorem tw_449 : Cond.methodLinkNest "PromiseFlows$Takings" 73 ⟨"PromiseFlows", "hasBit", "(II)Z"⟩ "PromiseFlows" ∈ pf_nest := mem_nest (i := 449) (by decide +kernel) (by decide +kernel)
theorem tw_450 : Cond.static ⟨"PromiseFlows", "hasBit", "(II)Z"⟩ ∈ pf_tb := mem_tb (i := 450) (by decide +kernel) (by decide +kernel)
theorem tw_451 : Cond.code ⟨"PromiseFlows", "hasBit", "(II)Z"⟩ prog_1_method_34_code 2 (some FieldType.boolean) ∈ pf_tb := mem_tb (i := 451) (by decide +kernel) (by decide +kernel)
theorem tw_452 : Cond.methodLink "PromiseFlows$Takings" 77 ⟨"PromiseFlows$Takings", "takeFrom", "(IIII)I"⟩ ∈ pf_tb := mem_tb (i := 452) (by decide +kernel) (by decide +kernel)
theorem tw_454 : Cond.instanceMethod ⟨"PromiseFlows$Takings", "takeFrom", "(IIII)I"⟩ ∈ pf_tb := mem_tb (i := 454) (by decide +kernel) (by decide +kernel)
theorem tw_455 : Cond.code ⟨"PromiseFlows$Takings", "takeFrom", "(IIII)I"⟩ prog_5_method_8_code 9 (some FieldType.int) ∈ pf_tb := mem_tb (i := 455) (by decide +kernel) (by decide +kernel)
theorem tw_456 : Cond.constant "PromiseFlows$Takings" 81 1000000 ∈ pf_tb := mem_tb (i := 456) (by decide +kernel) (by decide +kernel)
theorem tw_457 : Cond.methodLink "PromiseFlows$Takings" 82 ⟨"PromiseFlows$Takings", "spread", "(II)I"⟩ ∈ pf_tb := mem_tb (i := 457) (by decide +kernel) (by decide +kernel)
theorem tw_459 : Cond.instanceMethod ⟨"PromiseFlows$Takings", "spread", "(II)I"⟩ ∈ pf_tb := mem_tb (i := 459) (by decide +kernel) (by decide +kernel)
theorem tw_460 : Cond.code ⟨"PromiseFlows$Takings", "spread", "(II)I"⟩ prog_5_method_10_code 9 (some FieldType.int) ∈ pf_tb := mem_tb (i := 460) (by decide +kernel) (by decide +kernel)
theorem tw_461 : Cond.methodLink "PromiseFlows$Takings" 97 ⟨"PromiseFlows$Takings", "reach", "(IIII)I"⟩ ∈ pf_tb := mem_tb (i := 461) (by decide +kernel) (by decide +kernel)
theorem tw_463 : Cond.instanceMethod ⟨"PromiseFlows$Takings", "reach", "(IIII)I"⟩ ∈ pf_tb := mem_tb (i := 463) (by decide +kernel) (by decide +kernel)
theorem tw_464 : Cond.code ⟨"PromiseFlows$Takings", "reach", "(IIII)I"⟩ prog_5_method_11_code 7 (some FieldType.int) ∈ pf_tb := mem_tb (i := 464) (by decide +kernel) (by decide +kernel)
theorem tw_465 : Cond.methodLink "PromiseFlows$Takings" 86 ⟨"PromiseFlows$Takings", "nearestRoom", "(I)I"⟩ ∈ pf_tb := mem_tb (i := 465) (by decide +kernel) (by decide +kernel)
theorem tw_467 : Cond.instanceMethod ⟨"PromiseFlows$Takings", "nearestRoom", "(I)I"⟩ ∈ pf_tb := mem_tb (i := 467) (by decide +kernel) (by decide +kernel)
theorem tw_468 : Cond.code ⟨"PromiseFlows$Takings", "nearestRoom", "(I)I"⟩ prog_5_method_9_code 4 (some FieldType.int) ∈ pf_tb := mem_tb (i := 468) (by decide +kernel) (by decide +kernel)
theorem tw_469 : Cond.methodLink "PromiseFlows$Takings" 92 ⟨"java/lang/Integer", "bitCount", "(I)I"⟩ ∈ pf_tb := mem_tb (i := 469) (by decide +kernel) (by decide +kernel)
theorem tw_470 : Cond.static ⟨"java/lang/Integer", "bitCount", "(I)I"⟩ ∈ pf_tb := mem_tb (i := 470) (by decide +kernel) (by decide +kernel)
theorem tw_471 : Cond.code ⟨"java/lang/Integer", "bitCount", "(I)I"⟩ prog_12_method_49_code 1 (some FieldType.int) ∈ pf_tb := mem_tb (i := 471) (by decide +kernel) (by decide +kernel)
theorem tw_472 : Cond.constant "java/lang/Integer" 265 1431655765 ∈ pf_tb := mem_tb (i := 472) (by decide +kernel) (by decide +kernel)
theorem tw_473 : Cond.constant "java/lang/Integer" 266 858993459 ∈ pf_tb := mem_tb (i := 473) (by decide +kernel) (by decide +kernel)
theorem tw_474 : Cond.constant "java/lang/Integer" 267 252645135 ∈ pf_tb := mem_tb (i := 474) (by decide +kernel) (by decide +kernel)
theorem tw_475 : Cond.methodLink "PromiseFlows$Takings" 89 ⟨"PromiseFlows$Takings", "shift", "(III)I"⟩ ∈ pf_tb := mem_tb (i := 475) (by decide +kernel) (by decide +kernel)
theorem tw_477 : Cond.instanceMethod ⟨"PromiseFlows$Takings", "shift", "(III)I"⟩ ∈ pf_tb := mem_tb (i := 477) (by decide +kernel) (by decide +kernel)
theorem tw_478 : Cond.code ⟨"PromiseFlows$Takings", "shift", "(III)I"⟩ prog_5_method_12_code 7 (some FieldType.int) ∈ pf_tb := mem_tb (i := 478) (by decide +kernel) (by decide +kernel)
theorem tw_479 : Cond.methodLink "PromiseFlows$Takings" 100 ⟨"java/lang/Math", "min", "(II)I"⟩ ∈ pf_tb := mem_tb (i := 479) (by decide +kernel) (by decide +kernel)
theorem tw_480 : Cond.static ⟨"java/lang/Math", "min", "(II)I"⟩ ∈ pf_tb := mem_tb (i := 480) (by decide +kernel) (by decide +kernel)
theorem tw_481 : Cond.code ⟨"java/lang/Math", "min", "(II)I"⟩ prog_13_method_69_code 2 (some FieldType.int) ∈ pf_tb := mem_tb (i := 481) (by decide +kernel) (by decide +kernel)
theorem tw_482 : Cond.methodLinkNest "PromiseFlows" 254 ⟨"PromiseFlows$Takings", "restore", "()V"⟩ "PromiseFlows" ∈ pf_nest := mem_nest (i := 482) (by decide +kernel) (by decide +kernel)
theorem tw_484 : Cond.instanceMethod ⟨"PromiseFlows$Takings", "restore", "()V"⟩ ∈ pf_tb := mem_tb (i := 484) (by decide +kernel) (by decide +kernel)
theorem tw_485 : Cond.code ⟨"PromiseFlows$Takings", "restore", "()V"⟩ prog_5_method_4_code 1 (Option.none : Option Jvm.ClassFile.FieldType) ∈ pf_tb := mem_tb (i := 485) (by decide +kernel) (by decide +kernel)
theorem tw_486 : Cond.methodLink "PromiseFlows" 146 ⟨"PromiseFlows", "makePlan", "()V"⟩ ∈ pf_tb := mem_tb (i := 486) (by decide +kernel) (by decide +kernel)
theorem tw_488 : Cond.instanceMethod ⟨"PromiseFlows", "makePlan", "()V"⟩ ∈ pf_tb := mem_tb (i := 488) (by decide +kernel) (by decide +kernel)
theorem tw_489 : Cond.code ⟨"PromiseFlows", "makePlan", "()V"⟩ prog_1_method_26_code 6 (Option.none : Option Jvm.ClassFile.FieldType) ∈ pf_tb := mem_tb (i := 489) (by decide +kernel) (by decide +kernel)
theorem tw_490 : Cond.methodLinkNest "PromiseFlows" 257 ⟨"PromiseFlows$Takings", "giveBack", "(I)V"⟩ "PromiseFlows" ∈ pf_nest := mem_nest (i := 490) (by decide +kernel) (by decide +kernel)
theorem tw_492 : Cond.instanceMethod ⟨"PromiseFlows$Takings", "giveBack", "(I)V"⟩ ∈ pf_tb := mem_tb (i := 492) (by decide +kernel) (by decide +kernel)
theorem tw_493 : Cond.code ⟨"PromiseFlows$Takings", "giveBack", "(I)V"⟩ prog_5_method_5_code 3 (Option.none : Option Jvm.ClassFile.FieldType) ∈ pf_tb := mem_tb (i := 493) (by decide +kernel) (by decide +kernel)
theorem tw_494 : Cond.methodLink "PromiseFlowsLaw" 80 ⟨"PromiseFlowsLaw", "change", "(LPromiseFlows;III[J)I"⟩ ∈ pf_tb := mem_tb (i := 494) (by decide +kernel) (by decide +kernel)
theorem tw_495 : Cond.static ⟨"PromiseFlowsLaw", "change", "(LPromiseFlows;III[J)I"⟩ ∈ pf_tb := mem_tb (i := 495) (by decide +kernel) (by decide +kernel)
theorem tw_497 : Cond.classLink "PromiseFlowsLaw" 22 "java/util/NoSuchElementException" ∈ pf_tb := mem_tb (i := 497) (by decide +kernel) (by decide +kernel)
theorem tw_498 : Cond.methodLink "PromiseFlowsLaw" 19 ⟨"PromiseFlows", "change", "(III)I"⟩ ∈ pf_tb := mem_tb (i := 498) (by decide +kernel) (by decide +kernel)
theorem tw_499 : Cond.instanceMethod ⟨"PromiseFlows", "change", "(III)I"⟩ ∈ pf_tb := mem_tb (i := 499) (by decide +kernel) (by decide +kernel)
theorem tw_500 : Cond.selects "PromiseFlows" ⟨"PromiseFlows", "change", "(III)I"⟩ ⟨"PromiseFlows", "change", "(III)I"⟩ ∈ pf_tb := mem_tb (i := 500) (by decide +kernel) (by decide +kernel)
theorem tw_501 : Cond.code ⟨"PromiseFlows", "change", "(III)I"⟩ prog_1_method_3_code 4 (some FieldType.int) ∈ pf_tb := mem_tb (i := 501) (by decide +kernel) (by decide +kernel)
theorem tw_502 : Cond.methodLink "PromiseFlows" 71 ⟨"PromiseFlows", "needArrival", "(I)V"⟩ ∈ pf_tb := mem_tb (i := 502) (by decide +kernel) (by decide +kernel)
theorem tw_504 : Cond.instanceMethod ⟨"PromiseFlows", "needArrival", "(I)V"⟩ ∈ pf_tb := mem_tb (i := 504) (by decide +kernel) (by decide +kernel)
theorem tw_505 : Cond.code ⟨"PromiseFlows", "needArrival", "(I)V"⟩ prog_1_method_21_code 2 (Option.none : Option Jvm.ClassFile.FieldType) ∈ pf_tb := mem_tb (i := 505) (by decide +kernel) (by decide +kernel)
theorem tw_506 : Cond.classLink "PromiseFlows" 220 "java/util/NoSuchElementException" ∈ pf_tb := mem_tb (i := 506) (by decide +kernel) (by decide +kernel)
theorem tw_507 : Cond.instantiable "java/util/NoSuchElementException" 6 ∈ pf_tb := mem_tb (i := 507) (by decide +kernel) (by decide +kernel)
theorem tw_509 : Cond.selects "java/util/NoSuchElementException" ⟨"java/lang/Throwable", "fillInStackTrace", "(I)Ljava/lang/Throwable;"⟩ ⟨"java/lang/Throwable", "fillInStackTrace", "(I)Ljava/lang/Throwable;"⟩ ∈ pf_tb := mem_tb (i := 509) (by decide +kernel) (by decide +kernel)
theorem tw_516 : Cond.methodLink "PromiseFlows" 224 ⟨"java/util/NoSuchElementException", "<init>", "(Ljava/lang/String;)V"⟩ ∈ pf_tb := mem_tb (i := 516) (by decide +kernel) (by decide +kernel)
theorem tw_517 : Cond.instanceMethod ⟨"java/util/NoSuchElementException", "<init>", "(Ljava/lang/String;)V"⟩ ∈ pf_tb := mem_tb (i := 517) (by decide +kernel) (by decide +kernel)
theorem tw_518 : Cond.code ⟨"java/util/NoSuchElementException", "<init>", "(Ljava/lang/String;)V"⟩ prog_19_method_4_code 2 (Option.none : Option Jvm.ClassFile.FieldType) ∈ pf_tb := mem_tb (i := 518) (by decide +kernel) (by decide +kernel)
theorem tw_519 : Cond.methodLink "java/util/NoSuchElementException" 13 ⟨"java/lang/RuntimeException", "<init>", "(Ljava/lang/String;)V"⟩ ∈ pf_tb := mem_tb (i := 519) (by decide +kernel) (by decide +kernel)
theorem tw_521 : Cond.superclass "java/util/NoSuchElementException" "java/lang/RuntimeException" ∈ pf_tb := mem_tb (i := 521) (by decide +kernel) (by decide +kernel)
theorem tw_523 : Cond.methodLink "PromiseFlowsLaw" 83 ⟨"PromiseFlowsLaw", "aside", "(LPromiseFlows;II[J)I"⟩ ∈ pf_tb := mem_tb (i := 523) (by decide +kernel) (by decide +kernel)
theorem tw_524 : Cond.static ⟨"PromiseFlowsLaw", "aside", "(LPromiseFlows;II[J)I"⟩ ∈ pf_tb := mem_tb (i := 524) (by decide +kernel) (by decide +kernel)
theorem tw_526 : Cond.methodLink "PromiseFlowsLaw" 24 ⟨"PromiseFlows", "aside", "(II)I"⟩ ∈ pf_tb := mem_tb (i := 526) (by decide +kernel) (by decide +kernel)
theorem tw_527 : Cond.instanceMethod ⟨"PromiseFlows", "aside", "(II)I"⟩ ∈ pf_tb := mem_tb (i := 527) (by decide +kernel) (by decide +kernel)
theorem tw_528 : Cond.selects "PromiseFlows" ⟨"PromiseFlows", "aside", "(II)I"⟩ ⟨"PromiseFlows", "aside", "(II)I"⟩ ∈ pf_tb := mem_tb (i := 528) (by decide +kernel) (by decide +kernel)
theorem tw_529 : Cond.code ⟨"PromiseFlows", "aside", "(II)I"⟩ prog_1_method_4_code 3 (some FieldType.int) ∈ pf_tb := mem_tb (i := 529) (by decide +kernel) (by decide +kernel)
theorem tw_530 : Cond.methodLink "PromiseFlowsLaw" 87 ⟨"PromiseFlowsLaw", "life", "(LPromiseFlows;II[J)I"⟩ ∈ pf_tb := mem_tb (i := 530) (by decide +kernel) (by decide +kernel)
theorem tw_531 : Cond.static ⟨"PromiseFlowsLaw", "life", "(LPromiseFlows;II[J)I"⟩ ∈ pf_tb := mem_tb (i := 531) (by decide +kernel) (by decide +kernel)
theorem tw_533 : Cond.methodLink "PromiseFlowsLaw" 28 ⟨"PromiseFlows", "life", "(II)I"⟩ ∈ pf_tb := mem_tb (i := 533) (by decide +kernel) (by decide +kernel)
theorem tw_534 : Cond.instanceMethod ⟨"PromiseFlows", "life", "(II)I"⟩ ∈ pf_tb := mem_tb (i := 534) (by decide +kernel) (by decide +kernel)
theorem tw_535 : Cond.selects "PromiseFlows" ⟨"PromiseFlows", "life", "(II)I"⟩ ⟨"PromiseFlows", "life", "(II)I"⟩ ∈ pf_tb := mem_tb (i := 535) (by decide +kernel) (by decide +kernel)
theorem tw_536 : Cond.code ⟨"PromiseFlows", "life", "(II)I"⟩ prog_1_method_5_code 3 (some FieldType.int) ∈ pf_tb := mem_tb (i := 536) (by decide +kernel) (by decide +kernel)
theorem tw_537 : Cond.methodLink "PromiseFlowsLaw" 90 ⟨"PromiseFlowsLaw", "standIn", "(LPromiseFlows;IIZ[J)I"⟩ ∈ pf_tb := mem_tb (i := 537) (by decide +kernel) (by decide +kernel)
theorem tw_538 : Cond.static ⟨"PromiseFlowsLaw", "standIn", "(LPromiseFlows;IIZ[J)I"⟩ ∈ pf_tb := mem_tb (i := 538) (by decide +kernel) (by decide +kernel)
theorem tw_540 : Cond.methodLink "PromiseFlowsLaw" 31 ⟨"PromiseFlows", "standIn", "(IIZ)I"⟩ ∈ pf_tb := mem_tb (i := 540) (by decide +kernel) (by decide +kernel)
theorem tw_541 : Cond.instanceMethod ⟨"PromiseFlows", "standIn", "(IIZ)I"⟩ ∈ pf_tb := mem_tb (i := 541) (by decide +kernel) (by decide +kernel)
theorem tw_542 : Cond.selects "PromiseFlows" ⟨"PromiseFlows", "standIn", "(IIZ)I"⟩ ⟨"PromiseFlows", "standIn", "(IIZ)I"⟩ ∈ pf_tb := mem_tb (i := 542) (by decide +kernel) (by decide +kernel)
theorem tw_543 : Cond.code ⟨"PromiseFlows", "standIn", "(IIZ)I"⟩ prog_1_method_6_code 4 (some FieldType.int) ∈ pf_tb := mem_tb (i := 543) (by decide +kernel) (by decide +kernel)
theorem tw_545 : Cond.methodLinkNest "PromiseFlows" 97 ⟨"PromiseFlows$Goods", "standsInFor", "(II)Z"⟩ "PromiseFlows" ∈ pf_nest := mem_nest (i := 545) (by decide +kernel) (by decide +kernel)
theorem tw_547 : Cond.methodLinkNest "PromiseFlows" 103 ⟨"PromiseFlows$Goods", "letStandIn", "(IIZ)V"⟩ "PromiseFlows" ∈ pf_nest := mem_nest (i := 547) (by decide +kernel) (by decide +kernel)
theorem tw_549 : Cond.instanceMethod ⟨"PromiseFlows$Goods", "letStandIn", "(IIZ)V"⟩ ∈ pf_tb := mem_tb (i := 549) (by decide +kernel) (by decide +kernel)
theorem tw_550 : Cond.code ⟨"PromiseFlows$Goods", "letStandIn", "(IIZ)V"⟩ prog_3_method_3_code 4 (Option.none : Option Jvm.ClassFile.FieldType) ∈ pf_tb := mem_tb (i := 550) (by decide +kernel) (by decide +kernel)
theorem tw_551 : Cond.methodLink "PromiseFlowsLaw" 94 ⟨"PromiseFlowsLaw", "kit", "(LPromiseFlows;III[J)I"⟩ ∈ pf_tb := mem_tb (i := 551) (by decide +kernel) (by decide +kernel)
theorem tw_552 : Cond.static ⟨"PromiseFlowsLaw", "kit", "(LPromiseFlows;III[J)I"⟩ ∈ pf_tb := mem_tb (i := 552) (by decide +kernel) (by decide +kernel)
theorem tw_554 : Cond.methodLink "PromiseFlowsLaw" 35 ⟨"PromiseFlows", "kit", "(III)I"⟩ ∈ pf_tb := mem_tb (i := 554) (by decide +kernel) (by decide +kernel)
theorem tw_555 : Cond.instanceMethod ⟨"PromiseFlows", "kit", "(III)I"⟩ ∈ pf_tb := mem_tb (i := 555) (by decide +kernel) (by decide +kernel)
theorem tw_556 : Cond.selects "PromiseFlows" ⟨"PromiseFlows", "kit", "(III)I"⟩ ⟨"PromiseFlows", "kit", "(III)I"⟩ ∈ pf_tb := mem_tb (i := 556) (by decide +kernel) (by decide +kernel)
theorem tw_557 : Cond.code ⟨"PromiseFlows", "kit", "(III)I"⟩ prog_1_method_7_code 4 (some FieldType.int) ∈ pf_tb := mem_tb (i := 557) (by decide +kernel) (by decide +kernel)
theorem tw_558 : Cond.methodLinkNest "PromiseFlows" 107 ⟨"PromiseFlows$Goods", "hasPart", "(II)Z"⟩ "PromiseFlows" ∈ pf_nest := mem_nest (i := 558) (by decide +kernel) (by decide +kernel)
theorem tw_560 : Cond.instanceMethod ⟨"PromiseFlows$Goods", "hasPart", "(II)Z"⟩ ∈ pf_tb := mem_tb (i := 560) (by decide +kernel) (by decide +kernel)
theorem tw_561 : Cond.code ⟨"PromiseFlows$Goods", "hasPart", "(II)Z"⟩ prog_3_method_7_code 4 (some FieldType.boolean) ∈ pf_tb := mem_tb (i := 561) (by decide +kernel) (by decide +kernel)
theorem tw_563 : Cond.methodLinkNest "PromiseFlows" 112 ⟨"PromiseFlows$Goods", "isPart", "(I)Z"⟩ "PromiseFlows" ∈ pf_nest := mem_nest (i := 563) (by decide +kernel) (by decide +kernel)
theorem tw_565 : Cond.instanceMethod ⟨"PromiseFlows$Goods", "isPart", "(I)Z"⟩ ∈ pf_tb := mem_tb (i := 565) (by decide +kernel) (by decide +kernel)
theorem tw_566 : Cond.code ⟨"PromiseFlows$Goods", "isPart", "(I)Z"⟩ prog_3_method_8_code 3 (some FieldType.boolean) ∈ pf_tb := mem_tb (i := 566) (by decide +kernel) (by decide +kernel)
theorem tw_567 : Cond.methodLink "PromiseFlows$Goods" 32 ⟨"PromiseFlows$Goods", "hasPart", "(II)Z"⟩ ∈ pf_tb := mem_tb (i := 567) (by decide +kernel) (by decide +kernel)
theorem tw_568 : Cond.methodLinkNest "PromiseFlows" 116 ⟨"PromiseFlows$Goods", "isInStandIn", "(I)Z"⟩ "PromiseFlows" ∈ pf_nest := mem_nest (i := 568) (by decide +kernel) (by decide +kernel)
theorem tw_570 : Cond.instanceMethod ⟨"PromiseFlows$Goods", "isInStandIn", "(I)Z"⟩ ∈ pf_tb := mem_tb (i := 570) (by decide +kernel) (by decide +kernel)
theorem tw_571 : Cond.code ⟨"PromiseFlows$Goods", "isInStandIn", "(I)Z"⟩ prog_3_method_5_code 3 (some FieldType.boolean) ∈ pf_tb := mem_tb (i := 571) (by decide +kernel) (by decide +kernel)
theorem tw_572 : Cond.methodLinkNest "PromiseFlows" 119 ⟨"PromiseFlows$Arrivals", "has", "(I)Z"⟩ "PromiseFlows" ∈ pf_nest := mem_nest (i := 572) (by decide +kernel) (by decide +kernel)
theorem tw_574 : Cond.instanceMethod ⟨"PromiseFlows$Arrivals", "has", "(I)Z"⟩ ∈ pf_tb := mem_tb (i := 574) (by decide +kernel) (by decide +kernel)
theorem tw_575 : Cond.code ⟨"PromiseFlows$Arrivals", "has", "(I)Z"⟩ prog_2_method_3_code 3 (some FieldType.boolean) ∈ pf_tb := mem_tb (i := 575) (by decide +kernel) (by decide +kernel)
theorem tw_576 : Cond.methodLinkNest "PromiseFlows" 122 ⟨"PromiseFlows$Orders", "has", "(I)Z"⟩ "PromiseFlows" ∈ pf_nest := mem_nest (i := 576) (by decide +kernel) (by decide +kernel)
theorem tw_578 : Cond.instanceMethod ⟨"PromiseFlows$Orders", "has", "(I)Z"⟩ ∈ pf_tb := mem_tb (i := 578) (by decide +kernel) (by decide +kernel)
theorem tw_579 : Cond.code ⟨"PromiseFlows$Orders", "has", "(I)Z"⟩ prog_4_method_4_code 3 (some FieldType.boolean) ∈ pf_tb := mem_tb (i := 579) (by decide +kernel) (by decide +kernel)
theorem tw_582 : Cond.methodLinkNest "PromiseFlows" 130 ⟨"PromiseFlows$Goods", "addPart", "(III)I"⟩ "PromiseFlows" ∈ pf_nest := mem_nest (i := 582) (by decide +kernel) (by decide +kernel)
theorem tw_584 : Cond.instanceMethod ⟨"PromiseFlows$Goods", "addPart", "(III)I"⟩ ∈ pf_tb := mem_tb (i := 584) (by decide +kernel) (by decide +kernel)
theorem tw_585 : Cond.code ⟨"PromiseFlows$Goods", "addPart", "(III)I"⟩ prog_3_method_9_code 5 (some FieldType.int) ∈ pf_tb := mem_tb (i := 585) (by decide +kernel) (by decide +kernel)
theorem tw_586 : Cond.methodLink "PromiseFlowsLaw" 97 ⟨"PromiseFlowsLaw", "order", "(LPromiseFlows;IIII[J)I"⟩ ∈ pf_tb := mem_tb (i := 586) (by decide +kernel) (by decide +kernel)
theorem tw_587 : Cond.static ⟨"PromiseFlowsLaw", "order", "(LPromiseFlows;IIII[J)I"⟩ ∈ pf_tb := mem_tb (i := 587) (by decide +kernel) (by decide +kernel)
theorem tw_589 : Cond.methodLink "PromiseFlowsLaw" 38 ⟨"PromiseFlows", "order", "(IIII)I"⟩ ∈ pf_tb := mem_tb (i := 589) (by decide +kernel) (by decide +kernel)
theorem tw_590 : Cond.instanceMethod ⟨"PromiseFlows", "order", "(IIII)I"⟩ ∈ pf_tb := mem_tb (i := 590) (by decide +kernel) (by decide +kernel)
theorem tw_591 : Cond.selects "PromiseFlows" ⟨"PromiseFlows", "order", "(IIII)I"⟩ ⟨"PromiseFlows", "order", "(IIII)I"⟩ ∈ pf_tb := mem_tb (i := 591) (by decide +kernel) (by decide +kernel)
theorem tw_592 : Cond.code ⟨"PromiseFlows", "order", "(IIII)I"⟩ prog_1_method_8_code 6 (some FieldType.int) ∈ pf_tb := mem_tb (i := 592) (by decide +kernel) (by decide +kernel)
theorem tw_594 : Cond.methodLinkNest "PromiseFlows" 136 ⟨"PromiseFlows$Orders", "write", "(IIII)I"⟩ "PromiseFlows" ∈ pf_nest := mem_nest (i := 594) (by decide +kernel) (by decide +kernel)
theorem tw_596 : Cond.instanceMethod ⟨"PromiseFlows$Orders", "write", "(IIII)I"⟩ ∈ pf_tb := mem_tb (i := 596) (by decide +kernel) (by decide +kernel)
theorem tw_597 : Cond.code ⟨"PromiseFlows$Orders", "write", "(IIII)I"⟩ prog_4_method_2_code 5 (some FieldType.int) ∈ pf_tb := mem_tb (i := 597) (by decide +kernel) (by decide +kernel)
theorem tw_598 : Cond.methodLinkNest "PromiseFlows" 143 ⟨"PromiseFlows$Orders", "admit", "()V"⟩ "PromiseFlows" ∈ pf_nest := mem_nest (i := 598) (by decide +kernel) (by decide +kernel)
theorem tw_600 : Cond.instanceMethod ⟨"PromiseFlows$Orders", "admit", "()V"⟩ ∈ pf_tb := mem_tb (i := 600) (by decide +kernel) (by decide +kernel)
theorem tw_601 : Cond.code ⟨"PromiseFlows$Orders", "admit", "()V"⟩ prog_4_method_3_code 2 (Option.none : Option Jvm.ClassFile.FieldType) ∈ pf_tb := mem_tb (i := 601) (by decide +kernel) (by decide +kernel)
theorem tw_602 : Cond.methodLink "PromiseFlowsLaw" 101 ⟨"PromiseFlowsLaw", "close", "(LPromiseFlows;I[J)I"⟩ ∈ pf_tb := mem_tb (i := 602) (by decide +kernel) (by decide +kernel)
theorem tw_603 : Cond.static ⟨"PromiseFlowsLaw", "close", "(LPromiseFlows;I[J)I"⟩ ∈ pf_tb := mem_tb (i := 603) (by decide +kernel) (by decide +kernel)
theorem tw_605 : Cond.methodLink "PromiseFlowsLaw" 42 ⟨"PromiseFlows", "close", "(I)I"⟩ ∈ pf_tb := mem_tb (i := 605) (by decide +kernel) (by decide +kernel)
theorem tw_606 : Cond.instanceMethod ⟨"PromiseFlows", "close", "(I)I"⟩ ∈ pf_tb := mem_tb (i := 606) (by decide +kernel) (by decide +kernel)
theorem tw_607 : Cond.selects "PromiseFlows" ⟨"PromiseFlows", "close", "(I)I"⟩ ⟨"PromiseFlows", "close", "(I)I"⟩ ∈ pf_tb := mem_tb (i := 607) (by decide +kernel) (by decide +kernel)
theorem tw_608 : Cond.code ⟨"PromiseFlows", "close", "(I)I"⟩ prog_1_method_9_code 2 (some FieldType.int) ∈ pf_tb := mem_tb (i := 608) (by decide +kernel) (by decide +kernel)
theorem tw_609 : Cond.methodLink "PromiseFlows" 149 ⟨"PromiseFlows", "needOrder", "(I)V"⟩ ∈ pf_tb := mem_tb (i := 609) (by decide +kernel) (by decide +kernel)
theorem tw_611 : Cond.instanceMethod ⟨"PromiseFlows", "needOrder", "(I)V"⟩ ∈ pf_tb := mem_tb (i := 611) (by decide +kernel) (by decide +kernel)
theorem tw_612 : Cond.code ⟨"PromiseFlows", "needOrder", "(I)V"⟩ prog_1_method_22_code 2 (Option.none : Option Jvm.ClassFile.FieldType) ∈ pf_tb := mem_tb (i := 612) (by decide +kernel) (by decide +kernel)
theorem tw_615 : Cond.methodLink "PromiseFlowsLaw" 105 ⟨"PromiseFlowsLaw", "promise", "(LPromiseFlows;II[J)I"⟩ ∈ pf_tb := mem_tb (i := 615) (by decide +kernel) (by decide +kernel)
theorem tw_616 : Cond.static ⟨"PromiseFlowsLaw", "promise", "(LPromiseFlows;II[J)I"⟩ ∈ pf_tb := mem_tb (i := 616) (by decide +kernel) (by decide +kernel)
theorem tw_618 : Cond.methodLink "PromiseFlowsLaw" 46 ⟨"PromiseFlows", "promise", "(II)I"⟩ ∈ pf_tb := mem_tb (i := 618) (by decide +kernel) (by decide +kernel)
theorem tw_619 : Cond.instanceMethod ⟨"PromiseFlows", "promise", "(II)I"⟩ ∈ pf_tb := mem_tb (i := 619) (by decide +kernel) (by decide +kernel)
theorem tw_620 : Cond.selects "PromiseFlows" ⟨"PromiseFlows", "promise", "(II)I"⟩ ⟨"PromiseFlows", "promise", "(II)I"⟩ ∈ pf_tb := mem_tb (i := 620) (by decide +kernel) (by decide +kernel)
theorem tw_621 : Cond.code ⟨"PromiseFlows", "promise", "(II)I"⟩ prog_1_method_10_code 3 (some FieldType.int) ∈ pf_tb := mem_tb (i := 621) (by decide +kernel) (by decide +kernel)
theorem tw_622 : Cond.methodLink "PromiseFlows" 157 ⟨"PromiseFlows", "greatestFurther", "(II)I"⟩ ∈ pf_tb := mem_tb (i := 622) (by decide +kernel) (by decide +kernel)
theorem tw_624 : Cond.instanceMethod ⟨"PromiseFlows", "greatestFurther", "(II)I"⟩ ∈ pf_tb := mem_tb (i := 624) (by decide +kernel) (by decide +kernel)
theorem tw_625 : Cond.code ⟨"PromiseFlows", "greatestFurther", "(II)I"⟩ prog_1_method_27_code 9 (some FieldType.int) ∈ pf_tb := mem_tb (i := 625) (by decide +kernel) (by decide +kernel)
theorem tw_626 : Cond.constant "PromiseFlows" 261 10000001 ∈ pf_tb := mem_tb (i := 626) (by decide +kernel) (by decide +kernel)
theorem tw_627 : Cond.methodLink "PromiseFlows" 262 ⟨"PromiseFlows", "hasBit", "(II)Z"⟩ ∈ pf_tb := mem_tb (i := 627) (by decide +kernel) (by decide +kernel)
theorem tw_628 : Cond.methodLinkNest "PromiseFlows" 268 ⟨"PromiseFlows$Takings", "mostFrom", "(I)I"⟩ "PromiseFlows" ∈ pf_nest := mem_nest (i := 628) (by decide +kernel) (by decide +kernel)
theorem tw_630 : Cond.instanceMethod ⟨"PromiseFlows$Takings", "mostFrom", "(I)I"⟩ ∈ pf_tb := mem_tb (i := 630) (by decide +kernel) (by decide +kernel)
theorem tw_631 : Cond.code ⟨"PromiseFlows$Takings", "mostFrom", "(I)I"⟩ prog_5_method_6_code 3 (some FieldType.int) ∈ pf_tb := mem_tb (i := 631) (by decide +kernel) (by decide +kernel)
theorem tw_632 : Cond.methodLink "PromiseFlows$Takings" 62 ⟨"PromiseFlows$Takings", "save", "()V"⟩ ∈ pf_tb := mem_tb (i := 632) (by decide +kernel) (by decide +kernel)
theorem tw_633 : Cond.constant "PromiseFlows$Takings" 65 10000001 ∈ pf_tb := mem_tb (i := 633) (by decide +kernel) (by decide +kernel)
theorem tw_634 : Cond.methodLink "PromiseFlows$Takings" 66 ⟨"PromiseFlows$Takings", "take", "(III)I"⟩ ∈ pf_tb := mem_tb (i := 634) (by decide +kernel) (by decide +kernel)
theorem tw_635 : Cond.methodLink "PromiseFlows$Takings" 70 ⟨"PromiseFlows$Takings", "restore", "()V"⟩ ∈ pf_tb := mem_tb (i := 635) (by decide +kernel) (by decide +kernel)
theorem tw_636 : Cond.methodLink "PromiseFlows" 271 ⟨"java/lang/Math", "min", "(II)I"⟩ ∈ pf_tb := mem_tb (i := 636) (by decide +kernel) (by decide +kernel)
theorem tw_637 : Cond.methodLink "PromiseFlowsLaw" 108 ⟨"PromiseFlowsLaw", "share", "(LPromiseFlows;II[J)I"⟩ ∈ pf_tb := mem_tb (i := 637) (by decide +kernel) (by decide +kernel)
theorem tw_638 : Cond.static ⟨"PromiseFlowsLaw", "share", "(LPromiseFlows;II[J)I"⟩ ∈ pf_tb := mem_tb (i := 638) (by decide +kernel) (by decide +kernel)
theorem tw_640 : Cond.classLink "PromiseFlowsLaw" 52 "java/lang/ArithmeticException" ∈ pf_tb := mem_tb (i := 640) (by decide +kernel) (by decide +kernel)
theorem tw_641 : Cond.methodLink "PromiseFlowsLaw" 49 ⟨"PromiseFlows", "share", "(II)I"⟩ ∈ pf_tb := mem_tb (i := 641) (by decide +kernel) (by decide +kernel)
theorem tw_642 : Cond.instanceMethod ⟨"PromiseFlows", "share", "(II)I"⟩ ∈ pf_tb := mem_tb (i := 642) (by decide +kernel) (by decide +kernel)
theorem tw_643 : Cond.selects "PromiseFlows" ⟨"PromiseFlows", "share", "(II)I"⟩ ⟨"PromiseFlows", "share", "(II)I"⟩ ∈ pf_tb := mem_tb (i := 643) (by decide +kernel) (by decide +kernel)
theorem tw_644 : Cond.code ⟨"PromiseFlows", "share", "(II)I"⟩ prog_1_method_11_code 4 (some FieldType.int) ∈ pf_tb := mem_tb (i := 644) (by decide +kernel) (by decide +kernel)
theorem tw_645 : Cond.methodLinkNest "PromiseFlows" 164 ⟨"PromiseFlows$Arrivals", "broughtBy", "(I)I"⟩ "PromiseFlows" ∈ pf_nest := mem_nest (i := 645) (by decide +kernel) (by decide +kernel)
theorem tw_647 : Cond.instanceMethod ⟨"PromiseFlows$Arrivals", "broughtBy", "(I)I"⟩ ∈ pf_tb := mem_tb (i := 647) (by decide +kernel) (by decide +kernel)
theorem tw_648 : Cond.code ⟨"PromiseFlows$Arrivals", "broughtBy", "(I)I"⟩ prog_2_method_6_code 4 (some FieldType.int) ∈ pf_tb := mem_tb (i := 648) (by decide +kernel) (by decide +kernel)
theorem tw_649 : Cond.methodLinkNest "PromiseFlows$Arrivals" 32 ⟨"PromiseFlows", "hasBit", "(II)Z"⟩ "PromiseFlows" ∈ pf_nest := mem_nest (i := 649) (by decide +kernel) (by decide +kernel)
theorem tw_650 : Cond.classLink "PromiseFlows" 168 "java/lang/ArithmeticException" ∈ pf_tb := mem_tb (i := 650) (by decide +kernel) (by decide +kernel)
theorem tw_651 : Cond.instantiable "java/lang/ArithmeticException" 6 ∈ pf_tb := mem_tb (i := 651) (by decide +kernel) (by decide +kernel)
theorem tw_653 : Cond.selects "java/lang/ArithmeticException" ⟨"java/lang/Throwable", "fillInStackTrace", "(I)Ljava/lang/Throwable;"⟩ ⟨"java/lang/Throwable", "fillInStackTrace", "(I)Ljava/lang/Throwable;"⟩ ∈ pf_tb := mem_tb (i := 653) (by decide +kernel) (by decide +kernel)
theorem tw_660 : Cond.methodLink "PromiseFlows" 172 ⟨"java/lang/ArithmeticException", "<init>", "(Ljava/lang/String;)V"⟩ ∈ pf_tb := mem_tb (i := 660) (by decide +kernel) (by decide +kernel)
theorem tw_661 : Cond.instanceMethod ⟨"java/lang/ArithmeticException", "<init>", "(Ljava/lang/String;)V"⟩ ∈ pf_tb := mem_tb (i := 661) (by decide +kernel) (by decide +kernel)
theorem tw_662 : Cond.code ⟨"java/lang/ArithmeticException", "<init>", "(Ljava/lang/String;)V"⟩ prog_8_method_2_code 2 (Option.none : Option Jvm.ClassFile.FieldType) ∈ pf_tb := mem_tb (i := 662) (by decide +kernel) (by decide +kernel)
theorem tw_663 : Cond.methodLink "java/lang/ArithmeticException" 7 ⟨"java/lang/RuntimeException", "<init>", "(Ljava/lang/String;)V"⟩ ∈ pf_tb := mem_tb (i := 663) (by decide +kernel) (by decide +kernel)
theorem tw_665 : Cond.superclass "java/lang/ArithmeticException" "java/lang/RuntimeException" ∈ pf_tb := mem_tb (i := 665) (by decide +kernel) (by decide +kernel)
theorem tw_666 : Cond.constantLong "PromiseFlows" 173 1000 ∈ pf_tb := mem_tb (i := 666) (by decide +kernel) (by decide +kernel)
theorem tw_667 : Cond.methodLink "PromiseFlowsLaw" 111 ⟨"PromiseFlowsLaw", "bars", "(LPromiseFlows;III[J)I"⟩ ∈ pf_tb := mem_tb (i := 667) (by decide +kernel) (by decide +kernel)
theorem tw_668 : Cond.static ⟨"PromiseFlowsLaw", "bars", "(LPromiseFlows;III[J)I"⟩ ∈ pf_tb := mem_tb (i := 668) (by decide +kernel) (by decide +kernel)
theorem tw_670 : Cond.methodLink "PromiseFlowsLaw" 54 ⟨"PromiseFlows", "bars", "(III)I"⟩ ∈ pf_tb := mem_tb (i := 670) (by decide +kernel) (by decide +kernel)
theorem tw_671 : Cond.instanceMethod ⟨"PromiseFlows", "bars", "(III)I"⟩ ∈ pf_tb := mem_tb (i := 671) (by decide +kernel) (by decide +kernel)
theorem tw_672 : Cond.selects "PromiseFlows" ⟨"PromiseFlows", "bars", "(III)I"⟩ ⟨"PromiseFlows", "bars", "(III)I"⟩ ∈ pf_tb := mem_tb (i := 672) (by decide +kernel) (by decide +kernel)
theorem tw_673 : Cond.code ⟨"PromiseFlows", "bars", "(III)I"⟩ prog_1_method_12_code 7 (some FieldType.int) ∈ pf_tb := mem_tb (i := 673) (by decide +kernel) (by decide +kernel)
theorem tw_674 : Cond.methodLink "PromiseFlows" 175 ⟨"PromiseFlows", "needNotBelowZero", "(I)V"⟩ ∈ pf_tb := mem_tb (i := 674) (by decide +kernel) (by decide +kernel)
theorem tw_675 : Cond.static ⟨"PromiseFlows", "needNotBelowZero", "(I)V"⟩ ∈ pf_tb := mem_tb (i := 675) (by decide +kernel) (by decide +kernel)
theorem tw_676 : Cond.code ⟨"PromiseFlows", "needNotBelowZero", "(I)V"⟩ prog_1_method_20_code 1 (Option.none : Option Jvm.ClassFile.FieldType) ∈ pf_tb := mem_tb (i := 676) (by decide +kernel) (by decide +kernel)
theorem tw_678 : Cond.methodLinkNest "PromiseFlows" 178 ⟨"PromiseFlows$Takings", "spread", "(II)I"⟩ "PromiseFlows" ∈ pf_nest := mem_nest (i := 678) (by decide +kernel) (by decide +kernel)
theorem tw_679 : Cond.methodLink "PromiseFlows" 181 ⟨"PromiseFlows", "takesFrom", "(II)Z"⟩ ∈ pf_tb := mem_tb (i := 679) (by decide +kernel) (by decide +kernel)
theorem tw_681 : Cond.instanceMethod ⟨"PromiseFlows", "takesFrom", "(II)Z"⟩ ∈ pf_tb := mem_tb (i := 681) (by decide +kernel) (by decide +kernel)
theorem tw_682 : Cond.code ⟨"PromiseFlows", "takesFrom", "(II)Z"⟩ prog_1_method_29_code 4 (some FieldType.boolean) ∈ pf_tb := mem_tb (i := 682) (by decide +kernel) (by decide +kernel)
theorem tw_683 : Cond.methodLinkNest "PromiseFlows" 280 ⟨"PromiseFlows$Takings", "takesFrom", "(II)Z"⟩ "PromiseFlows" ∈ pf_nest := mem_nest (i := 683) (by decide +kernel) (by decide +kernel)
theorem tw_685 : Cond.instanceMethod ⟨"PromiseFlows$Takings", "takesFrom", "(II)Z"⟩ ∈ pf_tb := mem_tb (i := 685) (by decide +kernel) (by decide +kernel)
theorem tw_686 : Cond.code ⟨"PromiseFlows$Takings", "takesFrom", "(II)Z"⟩ prog_5_method_13_code 4 (some FieldType.boolean) ∈ pf_tb := mem_tb (i := 686) (by decide +kernel) (by decide +kernel)
theorem tw_687 : Cond.methodLink "PromiseFlowsLaw" 114 ⟨"PromiseFlowsLaw", "flow", "(LPromiseFlows;III[J)I"⟩ ∈ pf_tb := mem_tb (i := 687) (by decide +kernel) (by decide +kernel)
theorem tw_688 : Cond.static ⟨"PromiseFlowsLaw", "flow", "(LPromiseFlows;III[J)I"⟩ ∈ pf_tb := mem_tb (i := 688) (by decide +kernel) (by decide +kernel)
theorem tw_690 : Cond.methodLink "PromiseFlowsLaw" 57 ⟨"PromiseFlows", "flow", "(III)I"⟩ ∈ pf_tb := mem_tb (i := 690) (by decide +kernel) (by decide +kernel)
theorem tw_691 : Cond.instanceMethod ⟨"PromiseFlows", "flow", "(III)I"⟩ ∈ pf_tb := mem_tb (i := 691) (by decide +kernel) (by decide +kernel)
theorem tw_692 : Cond.selects "PromiseFlows" ⟨"PromiseFlows", "flow", "(III)I"⟩ ⟨"PromiseFlows", "flow", "(III)I"⟩ ∈ pf_tb := mem_tb (i := 692) (by decide +kernel) (by decide +kernel)
theorem tw_693 : Cond.code ⟨"PromiseFlows", "flow", "(III)I"⟩ prog_1_method_13_code 8 (some FieldType.int) ∈ pf_tb := mem_tb (i := 693) (by decide +kernel) (by decide +kernel)
theorem tw_695 : Cond.methodLinkNest "PromiseFlows" 192 ⟨"PromiseFlows$Takings", "partsOf", "(I)I"⟩ "PromiseFlows" ∈ pf_nest := mem_nest (i := 695) (by decide +kernel) (by decide +kernel)
theorem tw_697 : Cond.instanceMethod ⟨"PromiseFlows$Takings", "partsOf", "(I)I"⟩ ∈ pf_tb := mem_tb (i := 697) (by decide +kernel) (by decide +kernel)
theorem tw_698 : Cond.code ⟨"PromiseFlows$Takings", "partsOf", "(I)I"⟩ prog_5_method_14_code 4 (some FieldType.int) ∈ pf_tb := mem_tb (i := 698) (by decide +kernel) (by decide +kernel)
theorem tw_699 : Cond.methodLinkNest "PromiseFlows" 200 ⟨"PromiseFlows$Takings", "partOf", "(IIZ)I"⟩ "PromiseFlows" ∈ pf_nest := mem_nest (i := 699) (by decide +kernel) (by decide +kernel)
theorem tw_701 : Cond.instanceMethod ⟨"PromiseFlows$Takings", "partOf", "(IIZ)I"⟩ ∈ pf_tb := mem_tb (i := 701) (by decide +kernel) (by decide +kernel)
theorem tw_702 : Cond.code ⟨"PromiseFlows$Takings", "partOf", "(IIZ)I"⟩ prog_5_method_15_code 8 (some FieldType.int) ∈ pf_tb := mem_tb (i := 702) (by decide +kernel) (by decide +kernel)
theorem tw_703 : Cond.methodLink "PromiseFlowsLaw" 117 ⟨"PromiseFlowsLaw", "state", "(LPromiseFlows;I[J)I"⟩ ∈ pf_tb := mem_tb (i := 703) (by decide +kernel) (by decide +kernel)
theorem tw_704 : Cond.static ⟨"PromiseFlowsLaw", "state", "(LPromiseFlows;I[J)I"⟩ ∈ pf_tb := mem_tb (i := 704) (by decide +kernel) (by decide +kernel)
theorem tw_706 : Cond.methodLink "PromiseFlowsLaw" 60 ⟨"PromiseFlows", "state", "(I)I"⟩ ∈ pf_tb := mem_tb (i := 706) (by decide +kernel) (by decide +kernel)
theorem tw_707 : Cond.instanceMethod ⟨"PromiseFlows", "state", "(I)I"⟩ ∈ pf_tb := mem_tb (i := 707) (by decide +kernel) (by decide +kernel)
theorem tw_708 : Cond.selects "PromiseFlows" ⟨"PromiseFlows", "state", "(I)I"⟩ ⟨"PromiseFlows", "state", "(I)I"⟩ ∈ pf_tb := mem_tb (i := 708) (by decide +kernel) (by decide +kernel)
theorem tw_709 : Cond.code ⟨"PromiseFlows", "state", "(I)I"⟩ prog_1_method_14_code 2 (some FieldType.int) ∈ pf_tb := mem_tb (i := 709) (by decide +kernel) (by decide +kernel)
theorem tw_710 : Cond.methodLink "PromiseFlowsLaw" 120 ⟨"PromiseFlowsLaw", "left", "(LPromiseFlows;I[J)I"⟩ ∈ pf_tb := mem_tb (i := 710) (by decide +kernel) (by decide +kernel)
theorem tw_711 : Cond.static ⟨"PromiseFlowsLaw", "left", "(LPromiseFlows;I[J)I"⟩ ∈ pf_tb := mem_tb (i := 711) (by decide +kernel) (by decide +kernel)
theorem tw_713 : Cond.methodLink "PromiseFlowsLaw" 63 ⟨"PromiseFlows", "left", "(I)I"⟩ ∈ pf_tb := mem_tb (i := 713) (by decide +kernel) (by decide +kernel)
theorem tw_714 : Cond.instanceMethod ⟨"PromiseFlows", "left", "(I)I"⟩ ∈ pf_tb := mem_tb (i := 714) (by decide +kernel) (by decide +kernel)
theorem tw_715 : Cond.selects "PromiseFlows" ⟨"PromiseFlows", "left", "(I)I"⟩ ⟨"PromiseFlows", "left", "(I)I"⟩ ∈ pf_tb := mem_tb (i := 715) (by decide +kernel) (by decide +kernel)
theorem tw_716 : Cond.code ⟨"PromiseFlows", "left", "(I)I"⟩ prog_1_method_15_code 2 (some FieldType.int) ∈ pf_tb := mem_tb (i := 716) (by decide +kernel) (by decide +kernel)
theorem tw_717 : Cond.classLink "PromiseFlowsLaw" 67 "PromiseFlowsModel" ∈ pf_tb := mem_tb (i := 717) (by decide +kernel) (by decide +kernel)
theorem tw_718 : Cond.instantiable "PromiseFlowsModel" 29 ∈ pf_tb := mem_tb (i := 718) (by decide +kernel) (by decide +kernel)
theorem tw_719 : Cond.methodLink "PromiseFlowsLaw" 69 ⟨"PromiseFlowsModel", "<init>", "()V"⟩ ∈ pf_tb := mem_tb (i := 719) (by decide +kernel) (by decide +kernel)
theorem tw_720 : Cond.instanceMethod ⟨"PromiseFlowsModel", "<init>", "()V"⟩ ∈ pf_tb := mem_tb (i := 720) (by decide +kernel) (by decide +kernel)
theorem tw_721 : Cond.code ⟨"PromiseFlowsModel", "<init>", "()V"⟩ prog_7_method_1_code 1 (Option.none : Option Jvm.ClassFile.FieldType) ∈ pf_tb := mem_tb (i := 721) (by decide +kernel) (by decide +kernel)
theorem tw_722 : Cond.methodLink "PromiseFlowsModel" 1 ⟨"java/lang/Object", "<init>", "()V"⟩ ∈ pf_tb := mem_tb (i := 722) (by decide +kernel) (by decide +kernel)
theorem tw_723 : Cond.fieldLink "PromiseFlowsModel" 83 "PromiseFlowsModel" "code" "I" ∈ pf_tb := mem_tb (i := 723) (by decide +kernel) (by decide +kernel)
theorem tw_724 : Cond.fieldLink "PromiseFlowsModel" 9 "PromiseFlowsModel" "life" "[I" ∈ pf_tb := mem_tb (i := 724) (by decide +kernel) (by decide +kernel)
theorem tw_725 : Cond.fieldLink "PromiseFlowsModel" 13 "PromiseFlowsModel" "standIns" "[I" ∈ pf_tb := mem_tb (i := 725) (by decide +kernel) (by decide +kernel)
theorem tw_726 : Cond.fieldLink "PromiseFlowsModel" 16 "PromiseFlowsModel" "partCount" "[I" ∈ pf_tb := mem_tb (i := 726) (by decide +kernel) (by decide +kernel)
theorem tw_727 : Cond.fieldLink "PromiseFlowsModel" 19 "PromiseFlowsModel" "parts" "[I" ∈ pf_tb := mem_tb (i := 727) (by decide +kernel) (by decide +kernel)
theorem tw_728 : Cond.fieldLink "PromiseFlowsModel" 22 "PromiseFlowsModel" "partMany" "[I" ∈ pf_tb := mem_tb (i := 728) (by decide +kernel) (by decide +kernel)
theorem tw_729 : Cond.fieldLink "PromiseFlowsModel" 91 "PromiseFlowsModel" "arrivals" "I" ∈ pf_tb := mem_tb (i := 729) (by decide +kernel) (by decide +kernel)
theorem tw_730 : Cond.fieldLink "PromiseFlowsModel" 25 "PromiseFlowsModel" "time" "[I" ∈ pf_tb := mem_tb (i := 730) (by decide +kernel) (by decide +kernel)
theorem tw_731 : Cond.fieldLink "PromiseFlowsModel" 28 "PromiseFlowsModel" "good" "[I" ∈ pf_tb := mem_tb (i := 731) (by decide +kernel) (by decide +kernel)
theorem tw_732 : Cond.fieldLink "PromiseFlowsModel" 31 "PromiseFlowsModel" "brings" "[I" ∈ pf_tb := mem_tb (i := 732) (by decide +kernel) (by decide +kernel)
theorem tw_733 : Cond.fieldLink "PromiseFlowsModel" 34 "PromiseFlowsModel" "aside" "[I" ∈ pf_tb := mem_tb (i := 733) (by decide +kernel) (by decide +kernel)
theorem tw_734 : Cond.fieldLink "PromiseFlowsModel" 109 "PromiseFlowsModel" "orders" "I" ∈ pf_tb := mem_tb (i := 734) (by decide +kernel) (by decide +kernel)
theorem tw_735 : Cond.fieldLink "PromiseFlowsModel" 37 "PromiseFlowsModel" "due" "[I" ∈ pf_tb := mem_tb (i := 735) (by decide +kernel) (by decide +kernel)
theorem tw_736 : Cond.fieldLink "PromiseFlowsModel" 40 "PromiseFlowsModel" "wanted" "[I" ∈ pf_tb := mem_tb (i := 736) (by decide +kernel) (by decide +kernel)
theorem tw_737 : Cond.fieldLink "PromiseFlowsModel" 43 "PromiseFlowsModel" "many" "[I" ∈ pf_tb := mem_tb (i := 737) (by decide +kernel) (by decide +kernel)
theorem tw_738 : Cond.fieldLink "PromiseFlowsModel" 46 "PromiseFlowsModel" "rank" "[I" ∈ pf_tb := mem_tb (i := 738) (by decide +kernel) (by decide +kernel)
theorem tw_739 : Cond.fieldLink "PromiseFlowsModel" 49 "PromiseFlowsModel" "state" "[I" ∈ pf_tb := mem_tb (i := 739) (by decide +kernel) (by decide +kernel)
theorem tw_740 : Cond.fieldLink "PromiseFlowsModel" 94 "PromiseFlowsModel" "demands" "I" ∈ pf_tb := mem_tb (i := 740) (by decide +kernel) (by decide +kernel)
theorem tw_741 : Cond.fieldLink "PromiseFlowsModel" 52 "PromiseFlowsModel" "demandOf" "[I" ∈ pf_tb := mem_tb (i := 741) (by decide +kernel) (by decide +kernel)
theorem tw_742 : Cond.fieldLink "PromiseFlowsModel" 55 "PromiseFlowsModel" "demandGood" "[I" ∈ pf_tb := mem_tb (i := 742) (by decide +kernel) (by decide +kernel)
theorem tw_743 : Cond.fieldLink "PromiseFlowsModel" 58 "PromiseFlowsModel" "demandMany" "[J" ∈ pf_tb := mem_tb (i := 743) (by decide +kernel) (by decide +kernel)
theorem tw_744 : Cond.fieldLink "PromiseFlowsModel" 62 "PromiseFlowsModel" "demandMask" "[I" ∈ pf_tb := mem_tb (i := 744) (by decide +kernel) (by decide +kernel)
theorem tw_745 : Cond.fieldLink "PromiseFlowsModel" 65 "PromiseFlowsModel" "has" "[J" ∈ pf_tb := mem_tb (i := 745) (by decide +kernel) (by decide +kernel)
theorem tw_746 : Cond.fieldLink "PromiseFlowsModel" 158 "PromiseFlowsModel" "entries" "I" ∈ pf_tb := mem_tb (i := 746) (by decide +kernel) (by decide +kernel)
theorem tw_747 : Cond.fieldLink "PromiseFlowsModel" 68 "PromiseFlowsModel" "entryOf" "[I" ∈ pf_tb := mem_tb (i := 747) (by decide +kernel) (by decide +kernel)
theorem tw_748 : Cond.fieldLink "PromiseFlowsModel" 71 "PromiseFlowsModel" "entryDemand" "[I" ∈ pf_tb := mem_tb (i := 748) (by decide +kernel) (by decide +kernel)
theorem tw_749 : Cond.fieldLink "PromiseFlowsModel" 74 "PromiseFlowsModel" "entryGood" "[I" ∈ pf_tb := mem_tb (i := 749) (by decide +kernel) (by decide +kernel)
theorem tw_750 : Cond.fieldLink "PromiseFlowsModel" 77 "PromiseFlowsModel" "entryFrom" "[I" ∈ pf_tb := mem_tb (i := 750) (by decide +kernel) (by decide +kernel)
theorem tw_751 : Cond.fieldLink "PromiseFlowsModel" 80 "PromiseFlowsModel" "entryMany" "[I" ∈ pf_tb := mem_tb (i := 751) (by decide +kernel) (by decide +kernel)
theorem tw_810 : Cond.superclass "PromiseFlowsModel" "java/lang/Object" ∈ pf_tb := mem_tb (i := 810) (by decide +kernel) (by decide +kernel)
theorem tw_811 : Cond.arrayClass FieldType.long ∈ pf_tb := mem_tb (i := 811) (by decide +kernel) (by decide +kernel)
theorem tw_812 : Cond.methodLink "PromiseFlowsLaw" 76 ⟨"PromiseFlowsModel", "thrown", "()I"⟩ ∈ pf_tb := mem_tb (i := 812) (by decide +kernel) (by decide +kernel)
theorem tw_813 : Cond.instanceMethod ⟨"PromiseFlowsModel", "thrown", "()I"⟩ ∈ pf_tb := mem_tb (i := 813) (by decide +kernel) (by decide +kernel)
theorem tw_814 : Cond.selects "PromiseFlowsModel" ⟨"PromiseFlowsModel", "thrown", "()I"⟩ ⟨"PromiseFlowsModel", "thrown", "()I"⟩ ∈ pf_tb := mem_tb (i := 814) (by decide +kernel) (by decide +kernel)
theorem tw_815 : Cond.code ⟨"PromiseFlowsModel", "thrown", "()I"⟩ prog_7_method_2_code 1 (some FieldType.int) ∈ pf_tb := mem_tb (i := 815) (by decide +kernel) (by decide +kernel)
theorem tw_816 : Cond.methodLink "PromiseFlowsLaw" 75 ⟨"PromiseFlowsModel", "arrival", "(III)I"⟩ ∈ pf_tb := mem_tb (i := 816) (by decide +kernel) (by decide +kernel)
theorem tw_817 : Cond.instanceMethod ⟨"PromiseFlowsModel", "arrival", "(III)I"⟩ ∈ pf_tb := mem_tb (i := 817) (by decide +kernel) (by decide +kernel)
theorem tw_818 : Cond.selects "PromiseFlowsModel" ⟨"PromiseFlowsModel", "arrival", "(III)I"⟩ ⟨"PromiseFlowsModel", "arrival", "(III)I"⟩ ∈ pf_tb := mem_tb (i := 818) (by decide +kernel) (by decide +kernel)
theorem tw_819 : Cond.code ⟨"PromiseFlowsModel", "arrival", "(III)I"⟩ prog_7_method_16_code 4 (some FieldType.int) ∈ pf_tb := mem_tb (i := 819) (by decide +kernel) (by decide +kernel)
theorem tw_820 : Cond.methodLink "PromiseFlowsModel" 87 ⟨"PromiseFlowsModel", "in", "(III)Z"⟩ ∈ pf_tb := mem_tb (i := 820) (by decide +kernel) (by decide +kernel)
theorem tw_821 : Cond.static ⟨"PromiseFlowsModel", "in", "(III)Z"⟩ ∈ pf_tb := mem_tb (i := 821) (by decide +kernel) (by decide +kernel)
theorem tw_822 : Cond.code ⟨"PromiseFlowsModel", "in", "(III)Z"⟩ prog_7_method_3_code 3 (some FieldType.boolean) ∈ pf_tb := mem_tb (i := 822) (by decide +kernel) (by decide +kernel)
theorem tw_823 : Cond.methodLink "PromiseFlowsModel" 128 ⟨"PromiseFlowsModel", "isGood", "(I)Z"⟩ ∈ pf_tb := mem_tb (i := 823) (by decide +kernel) (by decide +kernel)
theorem tw_824 : Cond.static ⟨"PromiseFlowsModel", "isGood", "(I)Z"⟩ ∈ pf_tb := mem_tb (i := 824) (by decide +kernel) (by decide +kernel)
theorem tw_825 : Cond.code ⟨"PromiseFlowsModel", "isGood", "(I)Z"⟩ prog_7_method_4_code 1 (some FieldType.boolean) ∈ pf_tb := mem_tb (i := 825) (by decide +kernel) (by decide +kernel)
theorem tw_826 : Cond.constant "PromiseFlowsModel" 131 1000000 ∈ pf_tb := mem_tb (i := 826) (by decide +kernel) (by decide +kernel)
theorem tw_827 : Cond.methodLink "PromiseFlowsModel" 101 ⟨"PromiseFlowsModel", "isKit", "(I)Z"⟩ ∈ pf_tb := mem_tb (i := 827) (by decide +kernel) (by decide +kernel)
theorem tw_829 : Cond.instanceMethod ⟨"PromiseFlowsModel", "isKit", "(I)Z"⟩ ∈ pf_tb := mem_tb (i := 829) (by decide +kernel) (by decide +kernel)
theorem tw_830 : Cond.code ⟨"PromiseFlowsModel", "isKit", "(I)Z"⟩ prog_7_method_5_code 2 (some FieldType.boolean) ∈ pf_tb := mem_tb (i := 830) (by decide +kernel) (by decide +kernel)
theorem tw_831 : Cond.methodLink "PromiseFlowsModel" 132 ⟨"PromiseFlowsModel", "cover", "()I"⟩ ∈ pf_tb := mem_tb (i := 831) (by decide +kernel) (by decide +kernel)
theorem tw_833 : Cond.instanceMethod ⟨"PromiseFlowsModel", "cover", "()I"⟩ ∈ pf_tb := mem_tb (i := 833) (by decide +kernel) (by decide +kernel)
theorem tw_834 : Cond.code ⟨"PromiseFlowsModel", "cover", "()I"⟩ prog_7_method_14_code 5 (some FieldType.int) ∈ pf_tb := mem_tb (i := 834) (by decide +kernel) (by decide +kernel)
theorem tw_835 : Cond.methodLink "PromiseFlowsModel" 112 ⟨"PromiseFlowsModel", "next", "(IZ)I"⟩ ∈ pf_tb := mem_tb (i := 835) (by decide +kernel) (by decide +kernel)
theorem tw_837 : Cond.instanceMethod ⟨"PromiseFlowsModel", "next", "(IZ)I"⟩ ∈ pf_tb := mem_tb (i := 837) (by decide +kernel) (by decide +kernel)
theorem tw_838 : Cond.code ⟨"PromiseFlowsModel", "next", "(IZ)I"⟩ prog_7_method_10_code 6 (some FieldType.int) ∈ pf_tb := mem_tb (i := 838) (by decide +kernel) (by decide +kernel)
theorem tw_839 : Cond.methodLink "PromiseFlowsModel" 116 ⟨"PromiseFlowsModel", "addOrder", "(IIII)V"⟩ ∈ pf_tb := mem_tb (i := 839) (by decide +kernel) (by decide +kernel)
theorem tw_841 : Cond.instanceMethod ⟨"PromiseFlowsModel", "addOrder", "(IIII)V"⟩ ∈ pf_tb := mem_tb (i := 841) (by decide +kernel) (by decide +kernel)
theorem tw_842 : Cond.code ⟨"PromiseFlowsModel", "addOrder", "(IIII)V"⟩ prog_7_method_9_code 6 (Option.none : Option Jvm.ClassFile.FieldType) ∈ pf_tb := mem_tb (i := 842) (by decide +kernel) (by decide +kernel)
theorem tw_843 : Cond.methodLink "PromiseFlowsModel" 105 ⟨"PromiseFlowsModel", "addDemand", "(IIJI)V"⟩ ∈ pf_tb := mem_tb (i := 843) (by decide +kernel) (by decide +kernel)
theorem tw_845 : Cond.instanceMethod ⟨"PromiseFlowsModel", "addDemand", "(IIJI)V"⟩ ∈ pf_tb := mem_tb (i := 845) (by decide +kernel) (by decide +kernel)
theorem tw_846 : Cond.code ⟨"PromiseFlowsModel", "addDemand", "(IIJI)V"⟩ prog_7_method_8_code 6 (Option.none : Option Jvm.ClassFile.FieldType) ∈ pf_tb := mem_tb (i := 846) (by decide +kernel) (by decide +kernel)
theorem tw_847 : Cond.methodLink "PromiseFlowsModel" 97 ⟨"PromiseFlowsModel", "usable", "(II)I"⟩ ∈ pf_tb := mem_tb (i := 847) (by decide +kernel) (by decide +kernel)
theorem tw_849 : Cond.instanceMethod ⟨"PromiseFlowsModel", "usable", "(II)I"⟩ ∈ pf_tb := mem_tb (i := 849) (by decide +kernel) (by decide +kernel)
theorem tw_850 : Cond.code ⟨"PromiseFlowsModel", "usable", "(II)I"⟩ prog_7_method_7_code 6 (some FieldType.int) ∈ pf_tb := mem_tb (i := 850) (by decide +kernel) (by decide +kernel)
theorem tw_851 : Cond.methodLink "PromiseFlowsModel" 124 ⟨"PromiseFlowsModel", "canBeMet", "()Z"⟩ ∈ pf_tb := mem_tb (i := 851) (by decide +kernel) (by decide +kernel)
theorem tw_853 : Cond.instanceMethod ⟨"PromiseFlowsModel", "canBeMet", "()Z"⟩ ∈ pf_tb := mem_tb (i := 853) (by decide +kernel) (by decide +kernel)
theorem tw_854 : Cond.code ⟨"PromiseFlowsModel", "canBeMet", "()Z"⟩ prog_7_method_13_code 2 (some FieldType.boolean) ∈ pf_tb := mem_tb (i := 854) (by decide +kernel) (by decide +kernel)
theorem tw_855 : Cond.methodLink "PromiseFlowsModel" 120 ⟨"PromiseFlowsModel", "slack", "(I)J"⟩ ∈ pf_tb := mem_tb (i := 855) (by decide +kernel) (by decide +kernel)
theorem tw_857 : Cond.instanceMethod ⟨"PromiseFlowsModel", "slack", "(I)J"⟩ ∈ pf_tb := mem_tb (i := 857) (by decide +kernel) (by decide +kernel)
theorem tw_858 : Cond.code ⟨"PromiseFlowsModel", "slack", "(I)J"⟩ prog_7_method_12_code 5 (some FieldType.long) ∈ pf_tb := mem_tb (i := 858) (by decide +kernel) (by decide +kernel)
theorem tw_859 : Cond.methodLink "PromiseFlowsLaw" 82 ⟨"PromiseFlowsModel", "change", "(III)I"⟩ ∈ pf_tb := mem_tb (i := 859) (by decide +kernel) (by decide +kernel)
theorem tw_860 : Cond.instanceMethod ⟨"PromiseFlowsModel", "change", "(III)I"⟩ ∈ pf_tb := mem_tb (i := 860) (by decide +kernel) (by decide +kernel)
theorem tw_861 : Cond.selects "PromiseFlowsModel" ⟨"PromiseFlowsModel", "change", "(III)I"⟩ ⟨"PromiseFlowsModel", "change", "(III)I"⟩ ∈ pf_tb := mem_tb (i := 861) (by decide +kernel) (by decide +kernel)
theorem tw_862 : Cond.code ⟨"PromiseFlowsModel", "change", "(III)I"⟩ prog_7_method_17_code 4 (some FieldType.int) ∈ pf_tb := mem_tb (i := 862) (by decide +kernel) (by decide +kernel)
theorem tw_863 : Cond.methodLink "PromiseFlowsModel" 136 ⟨"PromiseFlowsModel", "isArrival", "(I)Z"⟩ ∈ pf_tb := mem_tb (i := 863) (by decide +kernel) (by decide +kernel)
theorem tw_865 : Cond.instanceMethod ⟨"PromiseFlowsModel", "isArrival", "(I)Z"⟩ ∈ pf_tb := mem_tb (i := 865) (by decide +kernel) (by decide +kernel)
theorem tw_866 : Cond.code ⟨"PromiseFlowsModel", "isArrival", "(I)Z"⟩ prog_7_method_15_code 2 (some FieldType.boolean) ∈ pf_tb := mem_tb (i := 866) (by decide +kernel) (by decide +kernel)
theorem tw_867 : Cond.methodLink "PromiseFlowsLaw" 86 ⟨"PromiseFlowsModel", "aside", "(II)I"⟩ ∈ pf_tb := mem_tb (i := 867) (by decide +kernel) (by decide +kernel)
theorem tw_868 : Cond.instanceMethod ⟨"PromiseFlowsModel", "aside", "(II)I"⟩ ∈ pf_tb := mem_tb (i := 868) (by decide +kernel) (by decide +kernel)
theorem tw_869 : Cond.selects "PromiseFlowsModel" ⟨"PromiseFlowsModel", "aside", "(II)I"⟩ ⟨"PromiseFlowsModel", "aside", "(II)I"⟩ ∈ pf_tb := mem_tb (i := 869) (by decide +kernel) (by decide +kernel)
theorem tw_870 : Cond.code ⟨"PromiseFlowsModel", "aside", "(II)I"⟩ prog_7_method_18_code 3 (some FieldType.int) ∈ pf_tb := mem_tb (i := 870) (by decide +kernel) (by decide +kernel)
theorem tw_871 : Cond.methodLink "PromiseFlowsLaw" 89 ⟨"PromiseFlowsModel", "life", "(II)I"⟩ ∈ pf_tb := mem_tb (i := 871) (by decide +kernel) (by decide +kernel)
theorem tw_872 : Cond.instanceMethod ⟨"PromiseFlowsModel", "life", "(II)I"⟩ ∈ pf_tb := mem_tb (i := 872) (by decide +kernel) (by decide +kernel)
theorem tw_873 : Cond.selects "PromiseFlowsModel" ⟨"PromiseFlowsModel", "life", "(II)I"⟩ ⟨"PromiseFlowsModel", "life", "(II)I"⟩ ∈ pf_tb := mem_tb (i := 873) (by decide +kernel) (by decide +kernel)
theorem tw_874 : Cond.code ⟨"PromiseFlowsModel", "life", "(II)I"⟩ prog_7_method_19_code 3 (some FieldType.int) ∈ pf_tb := mem_tb (i := 874) (by decide +kernel) (by decide +kernel)
theorem tw_875 : Cond.methodLink "PromiseFlowsLaw" 93 ⟨"PromiseFlowsModel", "standIn", "(IIZ)I"⟩ ∈ pf_tb := mem_tb (i := 875) (by decide +kernel) (by decide +kernel)
theorem tw_876 : Cond.instanceMethod ⟨"PromiseFlowsModel", "standIn", "(IIZ)I"⟩ ∈ pf_tb := mem_tb (i := 876) (by decide +kernel) (by decide +kernel)
theorem tw_877 : Cond.selects "PromiseFlowsModel" ⟨"PromiseFlowsModel", "standIn", "(IIZ)I"⟩ ⟨"PromiseFlowsModel", "standIn", "(IIZ)I"⟩ ∈ pf_tb := mem_tb (i := 877) (by decide +kernel) (by decide +kernel)
theorem tw_878 : Cond.code ⟨"PromiseFlowsModel", "standIn", "(IIZ)I"⟩ prog_7_method_20_code 4 (some FieldType.int) ∈ pf_tb := mem_tb (i := 878) (by decide +kernel) (by decide +kernel)
theorem tw_879 : Cond.methodLink "PromiseFlowsLaw" 96 ⟨"PromiseFlowsModel", "kit", "(III)I"⟩ ∈ pf_tb := mem_tb (i := 879) (by decide +kernel) (by decide +kernel)
theorem tw_880 : Cond.instanceMethod ⟨"PromiseFlowsModel", "kit", "(III)I"⟩ ∈ pf_tb := mem_tb (i := 880) (by decide +kernel) (by decide +kernel)
theorem tw_881 : Cond.selects "PromiseFlowsModel" ⟨"PromiseFlowsModel", "kit", "(III)I"⟩ ⟨"PromiseFlowsModel", "kit", "(III)I"⟩ ∈ pf_tb := mem_tb (i := 881) (by decide +kernel) (by decide +kernel)
theorem tw_882 : Cond.code ⟨"PromiseFlowsModel", "kit", "(III)I"⟩ prog_7_method_22_code 5 (some FieldType.int) ∈ pf_tb := mem_tb (i := 882) (by decide +kernel) (by decide +kernel)
theorem tw_883 : Cond.methodLink "PromiseFlowsModel" 139 ⟨"PromiseFlowsModel", "isPart", "(I)Z"⟩ ∈ pf_tb := mem_tb (i := 883) (by decide +kernel) (by decide +kernel)
theorem tw_885 : Cond.instanceMethod ⟨"PromiseFlowsModel", "isPart", "(I)Z"⟩ ∈ pf_tb := mem_tb (i := 885) (by decide +kernel) (by decide +kernel)
theorem tw_886 : Cond.code ⟨"PromiseFlowsModel", "isPart", "(I)Z"⟩ prog_7_method_6_code 5 (some FieldType.boolean) ∈ pf_tb := mem_tb (i := 886) (by decide +kernel) (by decide +kernel)
theorem tw_887 : Cond.methodLink "PromiseFlowsModel" 142 ⟨"PromiseFlowsModel", "isUsed", "(I)Z"⟩ ∈ pf_tb := mem_tb (i := 887) (by decide +kernel) (by decide +kernel)
theorem tw_889 : Cond.instanceMethod ⟨"PromiseFlowsModel", "isUsed", "(I)Z"⟩ ∈ pf_tb := mem_tb (i := 889) (by decide +kernel) (by decide +kernel)
theorem tw_890 : Cond.code ⟨"PromiseFlowsModel", "isUsed", "(I)Z"⟩ prog_7_method_21_code 4 (some FieldType.boolean) ∈ pf_tb := mem_tb (i := 890) (by decide +kernel) (by decide +kernel)
theorem tw_891 : Cond.methodLink "PromiseFlowsLaw" 100 ⟨"PromiseFlowsModel", "order", "(IIII)I"⟩ ∈ pf_tb := mem_tb (i := 891) (by decide +kernel) (by decide +kernel)
theorem tw_892 : Cond.instanceMethod ⟨"PromiseFlowsModel", "order", "(IIII)I"⟩ ∈ pf_tb := mem_tb (i := 892) (by decide +kernel) (by decide +kernel)
theorem tw_893 : Cond.selects "PromiseFlowsModel" ⟨"PromiseFlowsModel", "order", "(IIII)I"⟩ ⟨"PromiseFlowsModel", "order", "(IIII)I"⟩ ∈ pf_tb := mem_tb (i := 893) (by decide +kernel) (by decide +kernel)
theorem tw_894 : Cond.code ⟨"PromiseFlowsModel", "order", "(IIII)I"⟩ prog_7_method_24_code 5 (some FieldType.int) ∈ pf_tb := mem_tb (i := 894) (by decide +kernel) (by decide +kernel)
theorem tw_895 : Cond.methodLink "PromiseFlowsModel" 145 ⟨"PromiseFlowsModel", "collect", "()V"⟩ ∈ pf_tb := mem_tb (i := 895) (by decide +kernel) (by decide +kernel)
theorem tw_897 : Cond.instanceMethod ⟨"PromiseFlowsModel", "collect", "()V"⟩ ∈ pf_tb := mem_tb (i := 897) (by decide +kernel) (by decide +kernel)
theorem tw_898 : Cond.code ⟨"PromiseFlowsModel", "collect", "()V"⟩ prog_7_method_11_code 2 (Option.none : Option Jvm.ClassFile.FieldType) ∈ pf_tb := mem_tb (i := 898) (by decide +kernel) (by decide +kernel)
theorem tw_899 : Cond.methodLink "PromiseFlowsLaw" 104 ⟨"PromiseFlowsModel", "close", "(I)I"⟩ ∈ pf_tb := mem_tb (i := 899) (by decide +kernel) (by decide +kernel)
theorem tw_900 : Cond.instanceMethod ⟨"PromiseFlowsModel", "close", "(I)I"⟩ ∈ pf_tb := mem_tb (i := 900) (by decide +kernel) (by decide +kernel)
theorem tw_901 : Cond.selects "PromiseFlowsModel" ⟨"PromiseFlowsModel", "close", "(I)I"⟩ ⟨"PromiseFlowsModel", "close", "(I)I"⟩ ∈ pf_tb := mem_tb (i := 901) (by decide +kernel) (by decide +kernel)
theorem tw_902 : Cond.code ⟨"PromiseFlowsModel", "close", "(I)I"⟩ prog_7_method_25_code 2 (some FieldType.int) ∈ pf_tb := mem_tb (i := 902) (by decide +kernel) (by decide +kernel)
theorem tw_903 : Cond.methodLink "PromiseFlowsModel" 148 ⟨"PromiseFlowsModel", "isOrder", "(I)Z"⟩ ∈ pf_tb := mem_tb (i := 903) (by decide +kernel) (by decide +kernel)
theorem tw_905 : Cond.instanceMethod ⟨"PromiseFlowsModel", "isOrder", "(I)Z"⟩ ∈ pf_tb := mem_tb (i := 905) (by decide +kernel) (by decide +kernel)
theorem tw_906 : Cond.code ⟨"PromiseFlowsModel", "isOrder", "(I)Z"⟩ prog_7_method_23_code 2 (some FieldType.boolean) ∈ pf_tb := mem_tb (i := 906) (by decide +kernel) (by decide +kernel)
theorem tw_907 : Cond.methodLink "PromiseFlowsLaw" 107 ⟨"PromiseFlowsModel", "promise", "(II)I"⟩ ∈ pf_tb := mem_tb (i := 907) (by decide +kernel) (by decide +kernel)
theorem tw_908 : Cond.instanceMethod ⟨"PromiseFlowsModel", "promise", "(II)I"⟩ ∈ pf_tb := mem_tb (i := 908) (by decide +kernel) (by decide +kernel)
theorem tw_909 : Cond.selects "PromiseFlowsModel" ⟨"PromiseFlowsModel", "promise", "(II)I"⟩ ⟨"PromiseFlowsModel", "promise", "(II)I"⟩ ∈ pf_tb := mem_tb (i := 909) (by decide +kernel) (by decide +kernel)
theorem tw_910 : Cond.code ⟨"PromiseFlowsModel", "promise", "(II)I"⟩ prog_7_method_27_code 3 (some FieldType.int) ∈ pf_tb := mem_tb (i := 910) (by decide +kernel) (by decide +kernel)
theorem tw_911 : Cond.methodLink "PromiseFlowsModel" 153 ⟨"PromiseFlowsModel", "greatest", "(II)I"⟩ ∈ pf_tb := mem_tb (i := 911) (by decide +kernel) (by decide +kernel)
theorem tw_913 : Cond.instanceMethod ⟨"PromiseFlowsModel", "greatest", "(II)I"⟩ ∈ pf_tb := mem_tb (i := 913) (by decide +kernel) (by decide +kernel)
theorem tw_914 : Cond.code ⟨"PromiseFlowsModel", "greatest", "(II)I"⟩ prog_7_method_26_code 10 (some FieldType.int) ∈ pf_tb := mem_tb (i := 914) (by decide +kernel) (by decide +kernel)
theorem tw_915 : Cond.constantLong "PromiseFlowsModel" 151 4611686018427387904 ∈ pf_tb := mem_tb (i := 915) (by decide +kernel) (by decide +kernel)
theorem tw_916 : Cond.methodLink "PromiseFlowsLaw" 110 ⟨"PromiseFlowsModel", "share", "(II)I"⟩ ∈ pf_tb := mem_tb (i := 916) (by decide +kernel) (by decide +kernel)
theorem tw_917 : Cond.instanceMethod ⟨"PromiseFlowsModel", "share", "(II)I"⟩ ∈ pf_tb := mem_tb (i := 917) (by decide +kernel) (by decide +kernel)
theorem tw_918 : Cond.selects "PromiseFlowsModel" ⟨"PromiseFlowsModel", "share", "(II)I"⟩ ⟨"PromiseFlowsModel", "share", "(II)I"⟩ ∈ pf_tb := mem_tb (i := 918) (by decide +kernel) (by decide +kernel)
theorem tw_919 : Cond.code ⟨"PromiseFlowsModel", "share", "(II)I"⟩ prog_7_method_28_code 7 (some FieldType.int) ∈ pf_tb := mem_tb (i := 919) (by decide +kernel) (by decide +kernel)
theorem tw_920 : Cond.constantLong "PromiseFlowsModel" 156 1000 ∈ pf_tb := mem_tb (i := 920) (by decide +kernel) (by decide +kernel)
theorem tw_921 : Cond.methodLink "PromiseFlowsLaw" 113 ⟨"PromiseFlowsModel", "bars", "(III)I"⟩ ∈ pf_tb := mem_tb (i := 921) (by decide +kernel) (by decide +kernel)
theorem tw_922 : Cond.instanceMethod ⟨"PromiseFlowsModel", "bars", "(III)I"⟩ ∈ pf_tb := mem_tb (i := 922) (by decide +kernel) (by decide +kernel)
theorem tw_923 : Cond.selects "PromiseFlowsModel" ⟨"PromiseFlowsModel", "bars", "(III)I"⟩ ⟨"PromiseFlowsModel", "bars", "(III)I"⟩ ∈ pf_tb := mem_tb (i := 923) (by decide +kernel) (by decide +kernel)
theorem tw_924 : Cond.code ⟨"PromiseFlowsModel", "bars", "(III)I"⟩ prog_7_method_32_code 8 (some FieldType.int) ∈ pf_tb := mem_tb (i := 924) (by decide +kernel) (by decide +kernel)
theorem tw_925 : Cond.methodLink "PromiseFlowsModel" 168 ⟨"PromiseFlowsModel", "plan", "()V"⟩ ∈ pf_tb := mem_tb (i := 925) (by decide +kernel) (by decide +kernel)
theorem tw_927 : Cond.instanceMethod ⟨"PromiseFlowsModel", "plan", "()V"⟩ ∈ pf_tb := mem_tb (i := 927) (by decide +kernel) (by decide +kernel)
theorem tw_928 : Cond.code ⟨"PromiseFlowsModel", "plan", "()V"⟩ prog_7_method_31_code 5 (Option.none : Option Jvm.ClassFile.FieldType) ∈ pf_tb := mem_tb (i := 928) (by decide +kernel) (by decide +kernel)
theorem tw_929 : Cond.methodLink "PromiseFlowsModel" 161 ⟨"PromiseFlowsModel", "nextArrival", "(II)I"⟩ ∈ pf_tb := mem_tb (i := 929) (by decide +kernel) (by decide +kernel)
theorem tw_931 : Cond.instanceMethod ⟨"PromiseFlowsModel", "nextArrival", "(II)I"⟩ ∈ pf_tb := mem_tb (i := 931) (by decide +kernel) (by decide +kernel)
theorem tw_932 : Cond.code ⟨"PromiseFlowsModel", "nextArrival", "(II)I"⟩ prog_7_method_29_code 6 (some FieldType.int) ∈ pf_tb := mem_tb (i := 932) (by decide +kernel) (by decide +kernel)
theorem tw_933 : Cond.methodLink "PromiseFlowsModel" 164 ⟨"PromiseFlowsModel", "atMost", "(II)J"⟩ ∈ pf_tb := mem_tb (i := 933) (by decide +kernel) (by decide +kernel)
theorem tw_935 : Cond.instanceMethod ⟨"PromiseFlowsModel", "atMost", "(II)J"⟩ ∈ pf_tb := mem_tb (i := 935) (by decide +kernel) (by decide +kernel)
theorem tw_936 : Cond.code ⟨"PromiseFlowsModel", "atMost", "(II)J"⟩ prog_7_method_30_code 8 (some FieldType.long) ∈ pf_tb := mem_tb (i := 936) (by decide +kernel) (by decide +kernel)
theorem tw_937 : Cond.methodLink "PromiseFlowsLaw" 116 ⟨"PromiseFlowsModel", "flow", "(III)I"⟩ ∈ pf_tb := mem_tb (i := 937) (by decide +kernel) (by decide +kernel)
theorem tw_938 : Cond.instanceMethod ⟨"PromiseFlowsModel", "flow", "(III)I"⟩ ∈ pf_tb := mem_tb (i := 938) (by decide +kernel) (by decide +kernel)
theorem tw_939 : Cond.selects "PromiseFlowsModel" ⟨"PromiseFlowsModel", "flow", "(III)I"⟩ ⟨"PromiseFlowsModel", "flow", "(III)I"⟩ ∈ pf_tb := mem_tb (i := 939) (by decide +kernel) (by decide +kernel)
theorem tw_940 : Cond.code ⟨"PromiseFlowsModel", "flow", "(III)I"⟩ prog_7_method_33_code 6 (some FieldType.int) ∈ pf_tb := mem_tb (i := 940) (by decide +kernel) (by decide +kernel)
theorem tw_941 : Cond.methodLink "PromiseFlowsLaw" 119 ⟨"PromiseFlowsModel", "state", "(I)I"⟩ ∈ pf_tb := mem_tb (i := 941) (by decide +kernel) (by decide +kernel)
theorem tw_942 : Cond.instanceMethod ⟨"PromiseFlowsModel", "state", "(I)I"⟩ ∈ pf_tb := mem_tb (i := 942) (by decide +kernel) (by decide +kernel)
theorem tw_943 : Cond.selects "PromiseFlowsModel" ⟨"PromiseFlowsModel", "state", "(I)I"⟩ ⟨"PromiseFlowsModel", "state", "(I)I"⟩ ∈ pf_tb := mem_tb (i := 943) (by decide +kernel) (by decide +kernel)
theorem tw_944 : Cond.code ⟨"PromiseFlowsModel", "state", "(I)I"⟩ prog_7_method_34_code 2 (some FieldType.int) ∈ pf_tb := mem_tb (i := 944) (by decide +kernel) (by decide +kernel)
theorem tw_945 : Cond.methodLink "PromiseFlowsLaw" 122 ⟨"PromiseFlowsModel", "left", "(I)I"⟩ ∈ pf_tb := mem_tb (i := 945) (by decide +kernel) (by decide +kernel)
theorem tw_946 : Cond.instanceMethod ⟨"PromiseFlowsModel", "left", "(I)I"⟩ ∈ pf_tb := mem_tb (i := 946) (by decide +kernel) (by decide +kernel)
theorem tw_947 : Cond.selects "PromiseFlowsModel" ⟨"PromiseFlowsModel", "left", "(I)I"⟩ ⟨"PromiseFlowsModel", "left", "(I)I"⟩ ∈ pf_tb := mem_tb (i := 947) (by decide +kernel) (by decide +kernel)
theorem tw_948 : Cond.code ⟨"PromiseFlowsModel", "left", "(I)I"⟩ prog_7_method_35_code 2 (some FieldType.int) ∈ pf_tb := mem_tb (i := 948) (by decide +kernel) (by decide +kernel)
theorem tw_949 : Cond.methodLink "PromiseFlowsLaw" 126 ⟨"PromiseFlowsModel", "count", "(I)I"⟩ ∈ pf_tb := mem_tb (i := 949) (by decide +kernel) (by decide +kernel)
theorem tw_950 : Cond.instanceMethod ⟨"PromiseFlowsModel", "count", "(I)I"⟩ ∈ pf_tb := mem_tb (i := 950) (by decide +kernel) (by decide +kernel)
theorem tw_951 : Cond.selects "PromiseFlowsModel" ⟨"PromiseFlowsModel", "count", "(I)I"⟩ ⟨"PromiseFlowsModel", "count", "(I)I"⟩ ∈ pf_tb := mem_tb (i := 951) (by decide +kernel) (by decide +kernel)
theorem tw_952 : Cond.code ⟨"PromiseFlowsModel", "count", "(I)I"⟩ prog_7_method_36_code 5 (some FieldType.int) ∈ pf_tb := mem_tb (i := 952) (by decide +kernel) (by decide +kernel)
end
section
theorem dX4_init_0 : decode cX4_init 0 = .ok (.aload_n 0, 1) := by decide +kernel
theorem dX4_init_1 : decode cX4_init 1 = .ok (.invokespecial 3, 3) := by decide +kernel
theorem dX4_init_4 : decode cX4_init 4 = .ok (.aload_n 0, 1) := by decide +kernel
theorem dX4_init_5 : decode cX4_init 5 = .ok (.new 9, 3) := by decide +kernel
theorem dX4_init_8 : decode cX4_init 8 = .ok (.dup, 1) := by decide +kernel
theorem dX4_init_9 : decode cX4_init 9 = .ok (.invokespecial 11, 3) := by decide +kernel
theorem dX4_init_12 : decode cX4_init 12 = .ok (.putfield 12, 3) := by decide +kernel
theorem dX4_init_15 : decode cX4_init 15 = .ok (.aload_n 0, 1) := by decide +kernel
theorem dX4_init_16 : decode cX4_init 16 = .ok (.new 16, 3) := by decide +kernel
theorem dX4_init_19 : decode cX4_init 19 = .ok (.dup, 1) := by decide +kernel
theorem dX4_init_20 : decode cX4_init 20 = .ok (.invokespecial 18, 3) := by decide +kernel
theorem dX4_init_23 : decode cX4_init 23 = .ok (.putfield 19, 3) := by decide +kernel
theorem dX4_init_26 : decode cX4_init 26 = .ok (.aload_n 0, 1) := by decide +kernel
theorem dX4_init_27 : decode cX4_init 27 = .ok (.new 23, 3) := by decide +kernel
theorem dX4_init_30 : decode cX4_init 30 = .ok (.dup, 1) := by decide +kernel
theorem dX4_init_31 : decode cX4_init 31 = .ok (.invokespecial 25, 3) := by decide +kernel
theorem dX4_init_34 : decode cX4_init 34 = .ok (.putfield 26, 3) := by decide +kernel
theorem dX4_init_37 : decode cX4_init 37 = .ok (.aload_n 0, 1) := by decide +kernel
theorem dX4_init_38 : decode cX4_init 38 = .ok (.new 30, 3) := by decide +kernel
theorem dX4_init_41 : decode cX4_init 41 = .ok (.dup, 1) := by decide +kernel
theorem dX4_init_42 : decode cX4_init 42 = .ok (.invokespecial 32, 3) := by decide +kernel
theorem dX4_init_45 : decode cX4_init 45 = .ok (.putfield 33, 3) := by decide +kernel
theorem dX4_init_48 : decode cX4_init 48 = .ok (.return_, 1) := by decide +kernel
theorem dX4_arrival_0 : decode cX4_arrival 0 = .ok (.iload_n 1, 1) := by decide +kernel
theorem dX4_arrival_1 : decode cX4_arrival 1 = .ok (.invokestatic 37, 3) := by decide +kernel
theorem dX4_arrival_4 : decode cX4_arrival 4 = .ok (.iload_n 2, 1) := by decide +kernel
theorem dX4_arrival_5 : decode cX4_arrival 5 = .ok (.invokestatic 41, 3) := by decide +kernel
theorem dX4_arrival_8 : decode cX4_arrival 8 = .ok (.iload_n 3, 1) := by decide +kernel
theorem dX4_arrival_9 : decode cX4_arrival 9 = .ok (.iconst 0, 1) := by decide +kernel
theorem dX4_arrival_10 : decode cX4_arrival 10 = .ok (.ldc 44, 2) := by decide +kernel
theorem dX4_arrival_12 : decode cX4_arrival 12 = .ok (.invokestatic 45, 3) := by decide +kernel
theorem dX4_arrival_15 : decode cX4_arrival 15 = .ok (.aload_n 0, 1) := by decide +kernel
theorem dX4_arrival_16 : decode cX4_arrival 16 = .ok (.iload_n 2, 1) := by decide +kernel
theorem dX4_arrival_17 : decode cX4_arrival 17 = .ok (.invokevirtual 49, 3) := by decide +kernel
theorem dX4_arrival_20 : decode cX4_arrival 20 = .ok (.aload_n 0, 1) := by decide +kernel
theorem dX4_arrival_21 : decode cX4_arrival 21 = .ok (.getfield 19, 3) := by decide +kernel
theorem dX4_arrival_24 : decode cX4_arrival 24 = .ok (.getfield 52, 3) := by decide +kernel
theorem dX4_arrival_27 : decode cX4_arrival 27 = .ok (.bipush 10, 2) := by decide +kernel
theorem dX4_arrival_29 : decode cX4_arrival 29 = .ok (.if_icmp .lt 13, 3) := by decide +kernel
theorem dX4_arrival_32 : decode cX4_arrival 32 = .ok (.new 56, 3) := by decide +kernel
theorem dX4_arrival_35 : decode cX4_arrival 35 = .ok (.dup, 1) := by decide +kernel
theorem dX4_arrival_36 : decode cX4_arrival 36 = .ok (.ldc 58, 2) := by decide +kernel
theorem dX4_arrival_38 : decode cX4_arrival 38 = .ok (.invokespecial 60, 3) := by decide +kernel
theorem dX4_arrival_41 : decode cX4_arrival 41 = .ok (.athrow, 1) := by decide +kernel
theorem dX4_arrival_42 : decode cX4_arrival 42 = .ok (.aload_n 0, 1) := by decide +kernel
theorem dX4_arrival_43 : decode cX4_arrival 43 = .ok (.getfield 19, 3) := by decide +kernel
theorem dX4_arrival_46 : decode cX4_arrival 46 = .ok (.iload_n 1, 1) := by decide +kernel
theorem dX4_arrival_47 : decode cX4_arrival 47 = .ok (.iload_n 2, 1) := by decide +kernel
theorem dX4_arrival_48 : decode cX4_arrival 48 = .ok (.iload_n 3, 1) := by decide +kernel
theorem dX4_arrival_49 : decode cX4_arrival 49 = .ok (.invokevirtual 63, 3) := by decide +kernel
theorem dX4_arrival_52 : decode cX4_arrival 52 = .ok (.istore 4, 2) := by decide +kernel
theorem dX4_arrival_54 : decode cX4_arrival 54 = .ok (.aload_n 0, 1) := by decide +kernel
theorem dX4_arrival_55 : decode cX4_arrival 55 = .ok (.invokevirtual 67, 3) := by decide +kernel
theorem dX4_arrival_58 : decode cX4_arrival 58 = .ok (.pop, 1) := by decide +kernel
theorem dX4_arrival_59 : decode cX4_arrival 59 = .ok (.iload 4, 2) := by decide +kernel
theorem dX4_arrival_61 : decode cX4_arrival 61 = .ok (.ireturn, 1) := by decide +kernel
theorem dX4_change_0 : decode cX4_change 0 = .ok (.aload_n 0, 1) := by decide +kernel
theorem dX4_change_1 : decode cX4_change 1 = .ok (.iload_n 1, 1) := by decide +kernel
theorem dX4_change_2 : decode cX4_change 2 = .ok (.invokevirtual 71, 3) := by decide +kernel
theorem dX4_change_5 : decode cX4_change 5 = .ok (.iload_n 2, 1) := by decide +kernel
theorem dX4_change_6 : decode cX4_change 6 = .ok (.invokestatic 37, 3) := by decide +kernel
theorem dX4_change_9 : decode cX4_change 9 = .ok (.iload_n 3, 1) := by decide +kernel
theorem dX4_change_10 : decode cX4_change 10 = .ok (.iconst 0, 1) := by decide +kernel
theorem dX4_change_11 : decode cX4_change 11 = .ok (.ldc 44, 2) := by decide +kernel
theorem dX4_change_13 : decode cX4_change 13 = .ok (.invokestatic 45, 3) := by decide +kernel
theorem dX4_change_16 : decode cX4_change 16 = .ok (.iload_n 3, 1) := by decide +kernel
theorem dX4_change_17 : decode cX4_change 17 = .ok (.aload_n 0, 1) := by decide +kernel
theorem dX4_change_18 : decode cX4_change 18 = .ok (.getfield 19, 3) := by decide +kernel
theorem dX4_change_21 : decode cX4_change 21 = .ok (.getfield 74, 3) := by decide +kernel
theorem dX4_change_24 : decode cX4_change 24 = .ok (.iload_n 1, 1) := by decide +kernel
theorem dX4_change_25 : decode cX4_change 25 = .ok (.iaload, 1) := by decide +kernel
theorem dX4_change_26 : decode cX4_change 26 = .ok (.if_icmp .ge 13, 3) := by decide +kernel
theorem dX4_change_29 : decode cX4_change 29 = .ok (.new 78, 3) := by decide +kernel
theorem dX4_change_32 : decode cX4_change 32 = .ok (.dup, 1) := by decide +kernel
theorem dX4_change_33 : decode cX4_change 33 = .ok (.ldc 80, 2) := by decide +kernel
theorem dX4_change_35 : decode cX4_change 35 = .ok (.invokespecial 82, 3) := by decide +kernel
theorem dX4_change_38 : decode cX4_change 38 = .ok (.athrow, 1) := by decide +kernel
theorem dX4_change_39 : decode cX4_change 39 = .ok (.aload_n 0, 1) := by decide +kernel
theorem dX4_change_40 : decode cX4_change 40 = .ok (.getfield 19, 3) := by decide +kernel
theorem dX4_change_43 : decode cX4_change 43 = .ok (.getfield 83, 3) := by decide +kernel
theorem dX4_change_46 : decode cX4_change 46 = .ok (.iload_n 1, 1) := by decide +kernel
theorem dX4_change_47 : decode cX4_change 47 = .ok (.iload_n 2, 1) := by decide +kernel
theorem dX4_change_48 : decode cX4_change 48 = .ok (.iastore, 1) := by decide +kernel
theorem dX4_change_49 : decode cX4_change 49 = .ok (.aload_n 0, 1) := by decide +kernel
theorem dX4_change_50 : decode cX4_change 50 = .ok (.getfield 19, 3) := by decide +kernel
theorem dX4_change_53 : decode cX4_change 53 = .ok (.getfield 86, 3) := by decide +kernel
theorem dX4_change_56 : decode cX4_change 56 = .ok (.iload_n 1, 1) := by decide +kernel
theorem dX4_change_57 : decode cX4_change 57 = .ok (.iload_n 3, 1) := by decide +kernel
theorem dX4_change_58 : decode cX4_change 58 = .ok (.iastore, 1) := by decide +kernel
theorem dX4_change_59 : decode cX4_change 59 = .ok (.aload_n 0, 1) := by decide +kernel
theorem dX4_change_60 : decode cX4_change 60 = .ok (.invokevirtual 67, 3) := by decide +kernel
theorem dX4_change_63 : decode cX4_change 63 = .ok (.ireturn, 1) := by decide +kernel
theorem dX4_aside_0 : decode cX4_aside 0 = .ok (.aload_n 0, 1) := by decide +kernel
theorem dX4_aside_1 : decode cX4_aside 1 = .ok (.iload_n 1, 1) := by decide +kernel
theorem dX4_aside_2 : decode cX4_aside 2 = .ok (.invokevirtual 71, 3) := by decide +kernel
theorem dX4_aside_5 : decode cX4_aside 5 = .ok (.iload_n 2, 1) := by decide +kernel
theorem dX4_aside_6 : decode cX4_aside 6 = .ok (.iconst 0, 1) := by decide +kernel
theorem dX4_aside_7 : decode cX4_aside 7 = .ok (.aload_n 0, 1) := by decide +kernel
theorem dX4_aside_8 : decode cX4_aside 8 = .ok (.getfield 19, 3) := by decide +kernel
theorem dX4_aside_11 : decode cX4_aside 11 = .ok (.getfield 86, 3) := by decide +kernel
theorem dX4_aside_14 : decode cX4_aside 14 = .ok (.iload_n 1, 1) := by decide +kernel
theorem dX4_aside_15 : decode cX4_aside 15 = .ok (.iaload, 1) := by decide +kernel
theorem dX4_aside_16 : decode cX4_aside 16 = .ok (.invokestatic 45, 3) := by decide +kernel
theorem dX4_aside_19 : decode cX4_aside 19 = .ok (.aload_n 0, 1) := by decide +kernel
theorem dX4_aside_20 : decode cX4_aside 20 = .ok (.getfield 19, 3) := by decide +kernel
theorem dX4_aside_23 : decode cX4_aside 23 = .ok (.getfield 74, 3) := by decide +kernel
theorem dX4_aside_26 : decode cX4_aside 26 = .ok (.iload_n 1, 1) := by decide +kernel
theorem dX4_aside_27 : decode cX4_aside 27 = .ok (.iload_n 2, 1) := by decide +kernel
theorem dX4_aside_28 : decode cX4_aside 28 = .ok (.iastore, 1) := by decide +kernel
theorem dX4_aside_29 : decode cX4_aside 29 = .ok (.aload_n 0, 1) := by decide +kernel
theorem dX4_aside_30 : decode cX4_aside 30 = .ok (.invokevirtual 67, 3) := by decide +kernel
theorem dX4_aside_33 : decode cX4_aside 33 = .ok (.ireturn, 1) := by decide +kernel
theorem dX4_life_0 : decode cX4_life 0 = .ok (.iload_n 1, 1) := by decide +kernel
theorem dX4_life_1 : decode cX4_life 1 = .ok (.invokestatic 41, 3) := by decide +kernel
theorem dX4_life_4 : decode cX4_life 4 = .ok (.iload_n 2, 1) := by decide +kernel
theorem dX4_life_5 : decode cX4_life 5 = .ok (.iconst 0, 1) := by decide +kernel
theorem dX4_life_6 : decode cX4_life 6 = .ok (.bipush 100, 2) := by decide +kernel
theorem dX4_life_8 : decode cX4_life 8 = .ok (.invokestatic 45, 3) := by decide +kernel
theorem dX4_life_11 : decode cX4_life 11 = .ok (.aload_n 0, 1) := by decide +kernel
theorem dX4_life_12 : decode cX4_life 12 = .ok (.getfield 12, 3) := by decide +kernel
theorem dX4_life_15 : decode cX4_life 15 = .ok (.getfield 89, 3) := by decide +kernel
theorem dX4_life_18 : decode cX4_life 18 = .ok (.iload_n 1, 1) := by decide +kernel
theorem dX4_life_19 : decode cX4_life 19 = .ok (.iload_n 2, 1) := by decide +kernel
theorem dX4_life_20 : decode cX4_life 20 = .ok (.iastore, 1) := by decide +kernel
theorem dX4_life_21 : decode cX4_life 21 = .ok (.aload_n 0, 1) := by decide +kernel
theorem dX4_life_22 : decode cX4_life 22 = .ok (.invokevirtual 67, 3) := by decide +kernel
theorem dX4_life_25 : decode cX4_life 25 = .ok (.ireturn, 1) := by decide +kernel
theorem dX4_standIn_0 : decode cX4_standIn 0 = .ok (.iload_n 1, 1) := by decide +kernel
theorem dX4_standIn_1 : decode cX4_standIn 1 = .ok (.invokestatic 41, 3) := by decide +kernel
theorem dX4_standIn_4 : decode cX4_standIn 4 = .ok (.iload_n 2, 1) := by decide +kernel
theorem dX4_standIn_5 : decode cX4_standIn 5 = .ok (.invokestatic 41, 3) := by decide +kernel
theorem dX4_standIn_8 : decode cX4_standIn 8 = .ok (.iload_n 1, 1) := by decide +kernel
theorem dX4_standIn_9 : decode cX4_standIn 9 = .ok (.iload_n 2, 1) := by decide +kernel
theorem dX4_standIn_10 : decode cX4_standIn 10 = .ok (.if_icmp .ne 13, 3) := by decide +kernel
theorem dX4_standIn_13 : decode cX4_standIn 13 = .ok (.new 92, 3) := by decide +kernel
theorem dX4_standIn_16 : decode cX4_standIn 16 = .ok (.dup, 1) := by decide +kernel
theorem dX4_standIn_17 : decode cX4_standIn 17 = .ok (.ldc 94, 2) := by decide +kernel
theorem dX4_standIn_19 : decode cX4_standIn 19 = .ok (.invokespecial 96, 3) := by decide +kernel
theorem dX4_standIn_22 : decode cX4_standIn 22 = .ok (.athrow, 1) := by decide +kernel
theorem dX4_standIn_23 : decode cX4_standIn 23 = .ok (.aload_n 0, 1) := by decide +kernel
theorem dX4_standIn_24 : decode cX4_standIn 24 = .ok (.iload_n 1, 1) := by decide +kernel
theorem dX4_standIn_25 : decode cX4_standIn 25 = .ok (.invokevirtual 49, 3) := by decide +kernel
theorem dX4_standIn_28 : decode cX4_standIn 28 = .ok (.aload_n 0, 1) := by decide +kernel
theorem dX4_standIn_29 : decode cX4_standIn 29 = .ok (.iload_n 2, 1) := by decide +kernel
theorem dX4_standIn_30 : decode cX4_standIn 30 = .ok (.invokevirtual 49, 3) := by decide +kernel
theorem dX4_standIn_33 : decode cX4_standIn 33 = .ok (.aload_n 0, 1) := by decide +kernel
theorem dX4_standIn_34 : decode cX4_standIn 34 = .ok (.getfield 12, 3) := by decide +kernel
theorem dX4_standIn_37 : decode cX4_standIn 37 = .ok (.iload_n 1, 1) := by decide +kernel
theorem dX4_standIn_38 : decode cX4_standIn 38 = .ok (.iload_n 2, 1) := by decide +kernel
theorem dX4_standIn_39 : decode cX4_standIn 39 = .ok (.invokevirtual 97, 3) := by decide +kernel
theorem dX4_standIn_42 : decode cX4_standIn 42 = .ok (.iload_n 3, 1) := by decide +kernel
theorem dX4_standIn_43 : decode cX4_standIn 43 = .ok (.if_icmp .ne 13, 3) := by decide +kernel
theorem dX4_standIn_46 : decode cX4_standIn 46 = .ok (.new 78, 3) := by decide +kernel
theorem dX4_standIn_49 : decode cX4_standIn 49 = .ok (.dup, 1) := by decide +kernel
theorem dX4_standIn_50 : decode cX4_standIn 50 = .ok (.ldc 101, 2) := by decide +kernel
theorem dX4_standIn_52 : decode cX4_standIn 52 = .ok (.invokespecial 82, 3) := by decide +kernel
theorem dX4_standIn_55 : decode cX4_standIn 55 = .ok (.athrow, 1) := by decide +kernel
theorem dX4_standIn_56 : decode cX4_standIn 56 = .ok (.aload_n 0, 1) := by decide +kernel
theorem dX4_standIn_57 : decode cX4_standIn 57 = .ok (.getfield 12, 3) := by decide +kernel
theorem dX4_standIn_60 : decode cX4_standIn 60 = .ok (.iload_n 1, 1) := by decide +kernel
theorem dX4_standIn_61 : decode cX4_standIn 61 = .ok (.iload_n 2, 1) := by decide +kernel
theorem dX4_standIn_62 : decode cX4_standIn 62 = .ok (.iload_n 3, 1) := by decide +kernel
theorem dX4_standIn_63 : decode cX4_standIn 63 = .ok (.invokevirtual 103, 3) := by decide +kernel
theorem dX4_standIn_66 : decode cX4_standIn 66 = .ok (.aload_n 0, 1) := by decide +kernel
theorem dX4_standIn_67 : decode cX4_standIn 67 = .ok (.invokevirtual 67, 3) := by decide +kernel
theorem dX4_standIn_70 : decode cX4_standIn 70 = .ok (.ireturn, 1) := by decide +kernel
theorem dX4_kit_0 : decode cX4_kit 0 = .ok (.iload_n 1, 1) := by decide +kernel
theorem dX4_kit_1 : decode cX4_kit 1 = .ok (.invokestatic 41, 3) := by decide +kernel
theorem dX4_kit_4 : decode cX4_kit 4 = .ok (.iload_n 2, 1) := by decide +kernel
theorem dX4_kit_5 : decode cX4_kit 5 = .ok (.invokestatic 41, 3) := by decide +kernel
theorem dX4_kit_8 : decode cX4_kit 8 = .ok (.iload_n 3, 1) := by decide +kernel
theorem dX4_kit_9 : decode cX4_kit 9 = .ok (.iconst 1, 1) := by decide +kernel
theorem dX4_kit_10 : decode cX4_kit 10 = .ok (.bipush 100, 2) := by decide +kernel
theorem dX4_kit_12 : decode cX4_kit 12 = .ok (.invokestatic 45, 3) := by decide +kernel
theorem dX4_kit_15 : decode cX4_kit 15 = .ok (.aload_n 0, 1) := by decide +kernel
theorem dX4_kit_16 : decode cX4_kit 16 = .ok (.iload_n 2, 1) := by decide +kernel
theorem dX4_kit_17 : decode cX4_kit 17 = .ok (.invokevirtual 49, 3) := by decide +kernel
theorem dX4_kit_20 : decode cX4_kit 20 = .ok (.iload_n 2, 1) := by decide +kernel
theorem dX4_kit_21 : decode cX4_kit 21 = .ok (.iload_n 1, 1) := by decide +kernel
theorem dX4_kit_22 : decode cX4_kit 22 = .ok (.if_icmp .eq 15, 3) := by decide +kernel
theorem dX4_kit_25 : decode cX4_kit 25 = .ok (.aload_n 0, 1) := by decide +kernel
theorem dX4_kit_26 : decode cX4_kit 26 = .ok (.getfield 12, 3) := by decide +kernel
theorem dX4_kit_29 : decode cX4_kit 29 = .ok (.iload_n 1, 1) := by decide +kernel
theorem dX4_kit_30 : decode cX4_kit 30 = .ok (.iload_n 2, 1) := by decide +kernel
theorem dX4_kit_31 : decode cX4_kit 31 = .ok (.invokevirtual 107, 3) := by decide +kernel
theorem dX4_kit_34 : decode cX4_kit 34 = .ok (.ifCond .eq 13, 3) := by decide +kernel
theorem dX4_kit_37 : decode cX4_kit 37 = .ok (.new 78, 3) := by decide +kernel
theorem dX4_kit_40 : decode cX4_kit 40 = .ok (.dup, 1) := by decide +kernel
theorem dX4_kit_41 : decode cX4_kit 41 = .ok (.ldc 110, 2) := by decide +kernel
theorem dX4_kit_43 : decode cX4_kit 43 = .ok (.invokespecial 82, 3) := by decide +kernel
theorem dX4_kit_46 : decode cX4_kit 46 = .ok (.athrow, 1) := by decide +kernel
theorem dX4_kit_47 : decode cX4_kit 47 = .ok (.aload_n 0, 1) := by decide +kernel
theorem dX4_kit_48 : decode cX4_kit 48 = .ok (.getfield 12, 3) := by decide +kernel
theorem dX4_kit_51 : decode cX4_kit 51 = .ok (.iload_n 1, 1) := by decide +kernel
theorem dX4_kit_52 : decode cX4_kit 52 = .ok (.invokevirtual 112, 3) := by decide +kernel
theorem dX4_kit_55 : decode cX4_kit 55 = .ok (.ifCond .ne 36, 3) := by decide +kernel
theorem dX4_kit_58 : decode cX4_kit 58 = .ok (.aload_n 0, 1) := by decide +kernel
theorem dX4_kit_59 : decode cX4_kit 59 = .ok (.getfield 12, 3) := by decide +kernel
theorem dX4_kit_62 : decode cX4_kit 62 = .ok (.iload_n 1, 1) := by decide +kernel
theorem dX4_kit_63 : decode cX4_kit 63 = .ok (.invokevirtual 116, 3) := by decide +kernel
theorem dX4_kit_66 : decode cX4_kit 66 = .ok (.ifCond .ne 25, 3) := by decide +kernel
theorem dX4_kit_69 : decode cX4_kit 69 = .ok (.aload_n 0, 1) := by decide +kernel
theorem dX4_kit_70 : decode cX4_kit 70 = .ok (.getfield 19, 3) := by decide +kernel
theorem dX4_kit_73 : decode cX4_kit 73 = .ok (.iload_n 1, 1) := by decide +kernel
theorem dX4_kit_74 : decode cX4_kit 74 = .ok (.invokevirtual 119, 3) := by decide +kernel
theorem dX4_kit_77 : decode cX4_kit 77 = .ok (.ifCond .ne 14, 3) := by decide +kernel
theorem dX4_kit_80 : decode cX4_kit 80 = .ok (.aload_n 0, 1) := by decide +kernel
theorem dX4_kit_81 : decode cX4_kit 81 = .ok (.getfield 26, 3) := by decide +kernel
theorem dX4_kit_84 : decode cX4_kit 84 = .ok (.iload_n 1, 1) := by decide +kernel
theorem dX4_kit_85 : decode cX4_kit 85 = .ok (.invokevirtual 122, 3) := by decide +kernel
theorem dX4_kit_88 : decode cX4_kit 88 = .ok (.ifCond .eq 13, 3) := by decide +kernel
theorem dX4_kit_91 : decode cX4_kit 91 = .ok (.new 78, 3) := by decide +kernel
theorem dX4_kit_94 : decode cX4_kit 94 = .ok (.dup, 1) := by decide +kernel
theorem dX4_kit_95 : decode cX4_kit 95 = .ok (.ldc 123, 2) := by decide +kernel
theorem dX4_kit_97 : decode cX4_kit 97 = .ok (.invokespecial 82, 3) := by decide +kernel
theorem dX4_kit_100 : decode cX4_kit 100 = .ok (.athrow, 1) := by decide +kernel
theorem dX4_kit_101 : decode cX4_kit 101 = .ok (.aload_n 0, 1) := by decide +kernel
theorem dX4_kit_102 : decode cX4_kit 102 = .ok (.getfield 12, 3) := by decide +kernel
theorem dX4_kit_105 : decode cX4_kit 105 = .ok (.getfield 125, 3) := by decide +kernel
theorem dX4_kit_108 : decode cX4_kit 108 = .ok (.iload_n 1, 1) := by decide +kernel
theorem dX4_kit_109 : decode cX4_kit 109 = .ok (.iaload, 1) := by decide +kernel
theorem dX4_kit_110 : decode cX4_kit 110 = .ok (.iconst 3, 1) := by decide +kernel
theorem dX4_kit_111 : decode cX4_kit 111 = .ok (.if_icmp .lt 13, 3) := by decide +kernel
theorem dX4_kit_114 : decode cX4_kit 114 = .ok (.new 56, 3) := by decide +kernel
theorem dX4_kit_117 : decode cX4_kit 117 = .ok (.dup, 1) := by decide +kernel
theorem dX4_kit_118 : decode cX4_kit 118 = .ok (.ldc 128, 2) := by decide +kernel
theorem dX4_kit_120 : decode cX4_kit 120 = .ok (.invokespecial 60, 3) := by decide +kernel
theorem dX4_kit_123 : decode cX4_kit 123 = .ok (.athrow, 1) := by decide +kernel
theorem dX4_kit_124 : decode cX4_kit 124 = .ok (.aload_n 0, 1) := by decide +kernel
theorem dX4_kit_125 : decode cX4_kit 125 = .ok (.getfield 12, 3) := by decide +kernel
theorem dX4_kit_128 : decode cX4_kit 128 = .ok (.iload_n 1, 1) := by decide +kernel
theorem dX4_kit_129 : decode cX4_kit 129 = .ok (.iload_n 2, 1) := by decide +kernel
theorem dX4_kit_130 : decode cX4_kit 130 = .ok (.iload_n 3, 1) := by decide +kernel
theorem dX4_kit_131 : decode cX4_kit 131 = .ok (.invokevirtual 130, 3) := by decide +kernel
theorem dX4_kit_134 : decode cX4_kit 134 = .ok (.ireturn, 1) := by decide +kernel
theorem dX4_order_0 : decode cX4_order 0 = .ok (.iload_n 1, 1) := by decide +kernel
theorem dX4_order_1 : decode cX4_order 1 = .ok (.invokestatic 37, 3) := by decide +kernel
theorem dX4_order_4 : decode cX4_order 4 = .ok (.iload_n 2, 1) := by decide +kernel
theorem dX4_order_5 : decode cX4_order 5 = .ok (.invokestatic 41, 3) := by decide +kernel
theorem dX4_order_8 : decode cX4_order 8 = .ok (.iload_n 3, 1) := by decide +kernel
theorem dX4_order_9 : decode cX4_order 9 = .ok (.iconst 1, 1) := by decide +kernel
theorem dX4_order_10 : decode cX4_order 10 = .ok (.sipush 10000, 3) := by decide +kernel
theorem dX4_order_13 : decode cX4_order 13 = .ok (.invokestatic 45, 3) := by decide +kernel
theorem dX4_order_16 : decode cX4_order 16 = .ok (.iload 4, 2) := by decide +kernel
theorem dX4_order_18 : decode cX4_order 18 = .ok (.iconst 1, 1) := by decide +kernel
theorem dX4_order_19 : decode cX4_order 19 = .ok (.bipush 9, 2) := by decide +kernel
theorem dX4_order_21 : decode cX4_order 21 = .ok (.invokestatic 45, 3) := by decide +kernel
theorem dX4_order_24 : decode cX4_order 24 = .ok (.aload_n 0, 1) := by decide +kernel
theorem dX4_order_25 : decode cX4_order 25 = .ok (.getfield 26, 3) := by decide +kernel
theorem dX4_order_28 : decode cX4_order 28 = .ok (.getfield 133, 3) := by decide +kernel
theorem dX4_order_31 : decode cX4_order 31 = .ok (.bipush 10, 2) := by decide +kernel
theorem dX4_order_33 : decode cX4_order 33 = .ok (.if_icmp .lt 13, 3) := by decide +kernel
theorem dX4_order_36 : decode cX4_order 36 = .ok (.new 56, 3) := by decide +kernel
theorem dX4_order_39 : decode cX4_order 39 = .ok (.dup, 1) := by decide +kernel
theorem dX4_order_40 : decode cX4_order 40 = .ok (.ldc 134, 2) := by decide +kernel
theorem dX4_order_42 : decode cX4_order 42 = .ok (.invokespecial 60, 3) := by decide +kernel
theorem dX4_order_45 : decode cX4_order 45 = .ok (.athrow, 1) := by decide +kernel
theorem dX4_order_46 : decode cX4_order 46 = .ok (.aload_n 0, 1) := by decide +kernel
theorem dX4_order_47 : decode cX4_order 47 = .ok (.getfield 26, 3) := by decide +kernel
theorem dX4_order_50 : decode cX4_order 50 = .ok (.iload_n 1, 1) := by decide +kernel
theorem dX4_order_51 : decode cX4_order 51 = .ok (.iload_n 2, 1) := by decide +kernel
theorem dX4_order_52 : decode cX4_order 52 = .ok (.iload_n 3, 1) := by decide +kernel
theorem dX4_order_53 : decode cX4_order 53 = .ok (.iload 4, 2) := by decide +kernel
theorem dX4_order_55 : decode cX4_order 55 = .ok (.invokevirtual 136, 3) := by decide +kernel
theorem dX4_order_58 : decode cX4_order 58 = .ok (.istore 5, 2) := by decide +kernel
theorem dX4_order_60 : decode cX4_order 60 = .ok (.aload_n 0, 1) := by decide +kernel
theorem dX4_order_61 : decode cX4_order 61 = .ok (.iload 5, 2) := by decide +kernel
theorem dX4_order_63 : decode cX4_order 63 = .ok (.invokevirtual 140, 3) := by decide +kernel
theorem dX4_order_66 : decode cX4_order 66 = .ok (.ifCond .ne 5, 3) := by decide +kernel
theorem dX4_order_69 : decode cX4_order 69 = .ok (.iconst (-1), 1) := by decide +kernel
theorem dX4_order_70 : decode cX4_order 70 = .ok (.ireturn, 1) := by decide +kernel
theorem dX4_order_71 : decode cX4_order 71 = .ok (.aload_n 0, 1) := by decide +kernel
theorem dX4_order_72 : decode cX4_order 72 = .ok (.getfield 26, 3) := by decide +kernel
theorem dX4_order_75 : decode cX4_order 75 = .ok (.invokevirtual 143, 3) := by decide +kernel
theorem dX4_order_78 : decode cX4_order 78 = .ok (.aload_n 0, 1) := by decide +kernel
theorem dX4_order_79 : decode cX4_order 79 = .ok (.invokevirtual 146, 3) := by decide +kernel
theorem dX4_order_82 : decode cX4_order 82 = .ok (.iload 5, 2) := by decide +kernel
theorem dX4_order_84 : decode cX4_order 84 = .ok (.ireturn, 1) := by decide +kernel
theorem dX4_close_0 : decode cX4_close 0 = .ok (.aload_n 0, 1) := by decide +kernel
theorem dX4_close_1 : decode cX4_close 1 = .ok (.iload_n 1, 1) := by decide +kernel
theorem dX4_close_2 : decode cX4_close 2 = .ok (.invokevirtual 149, 3) := by decide +kernel
theorem dX4_close_5 : decode cX4_close 5 = .ok (.aload_n 0, 1) := by decide +kernel
theorem dX4_close_6 : decode cX4_close 6 = .ok (.getfield 26, 3) := by decide +kernel
theorem dX4_close_9 : decode cX4_close 9 = .ok (.getfield 152, 3) := by decide +kernel
theorem dX4_close_12 : decode cX4_close 12 = .ok (.iload_n 1, 1) := by decide +kernel
theorem dX4_close_13 : decode cX4_close 13 = .ok (.iaload, 1) := by decide +kernel
theorem dX4_close_14 : decode cX4_close 14 = .ok (.iconst 2, 1) := by decide +kernel
theorem dX4_close_15 : decode cX4_close 15 = .ok (.if_icmp .ne 13, 3) := by decide +kernel
theorem dX4_close_18 : decode cX4_close 18 = .ok (.new 78, 3) := by decide +kernel
theorem dX4_close_21 : decode cX4_close 21 = .ok (.dup, 1) := by decide +kernel
theorem dX4_close_22 : decode cX4_close 22 = .ok (.ldc 155, 2) := by decide +kernel
theorem dX4_close_24 : decode cX4_close 24 = .ok (.invokespecial 82, 3) := by decide +kernel
theorem dX4_close_27 : decode cX4_close 27 = .ok (.athrow, 1) := by decide +kernel
theorem dX4_close_28 : decode cX4_close 28 = .ok (.aload_n 0, 1) := by decide +kernel
theorem dX4_close_29 : decode cX4_close 29 = .ok (.getfield 26, 3) := by decide +kernel
theorem dX4_close_32 : decode cX4_close 32 = .ok (.getfield 152, 3) := by decide +kernel
theorem dX4_close_35 : decode cX4_close 35 = .ok (.iload_n 1, 1) := by decide +kernel
theorem dX4_close_36 : decode cX4_close 36 = .ok (.iconst 2, 1) := by decide +kernel
theorem dX4_close_37 : decode cX4_close 37 = .ok (.iastore, 1) := by decide +kernel
theorem dX4_close_38 : decode cX4_close 38 = .ok (.aload_n 0, 1) := by decide +kernel
theorem dX4_close_39 : decode cX4_close 39 = .ok (.invokevirtual 67, 3) := by decide +kernel
theorem dX4_close_42 : decode cX4_close 42 = .ok (.ireturn, 1) := by decide +kernel
theorem dX4_promise_0 : decode cX4_promise 0 = .ok (.iload_n 1, 1) := by decide +kernel
theorem dX4_promise_1 : decode cX4_promise 1 = .ok (.invokestatic 41, 3) := by decide +kernel
theorem dX4_promise_4 : decode cX4_promise 4 = .ok (.iload_n 2, 1) := by decide +kernel
theorem dX4_promise_5 : decode cX4_promise 5 = .ok (.invokestatic 37, 3) := by decide +kernel
theorem dX4_promise_8 : decode cX4_promise 8 = .ok (.aload_n 0, 1) := by decide +kernel
theorem dX4_promise_9 : decode cX4_promise 9 = .ok (.iload_n 1, 1) := by decide +kernel
theorem dX4_promise_10 : decode cX4_promise 10 = .ok (.iload_n 2, 1) := by decide +kernel
theorem dX4_promise_11 : decode cX4_promise 11 = .ok (.invokevirtual 157, 3) := by decide +kernel
theorem dX4_promise_14 : decode cX4_promise 14 = .ok (.ireturn, 1) := by decide +kernel
theorem dX4_share_0 : decode cX4_share 0 = .ok (.iload_n 1, 1) := by decide +kernel
theorem dX4_share_1 : decode cX4_share 1 = .ok (.invokestatic 41, 3) := by decide +kernel
theorem dX4_share_4 : decode cX4_share 4 = .ok (.iload_n 2, 1) := by decide +kernel
theorem dX4_share_5 : decode cX4_share 5 = .ok (.invokestatic 37, 3) := by decide +kernel
theorem dX4_share_8 : decode cX4_share 8 = .ok (.aload_n 0, 1) := by decide +kernel
theorem dX4_share_9 : decode cX4_share 9 = .ok (.getfield 19, 3) := by decide +kernel
theorem dX4_share_12 : decode cX4_share 12 = .ok (.aload_n 0, 1) := by decide +kernel
theorem dX4_share_13 : decode cX4_share 13 = .ok (.iload_n 1, 1) := by decide +kernel
theorem dX4_share_14 : decode cX4_share 14 = .ok (.iload_n 2, 1) := by decide +kernel
theorem dX4_share_15 : decode cX4_share 15 = .ok (.invokevirtual 161, 3) := by decide +kernel
theorem dX4_share_18 : decode cX4_share 18 = .ok (.invokevirtual 164, 3) := by decide +kernel
theorem dX4_share_21 : decode cX4_share 21 = .ok (.istore_n 3, 1) := by decide +kernel
theorem dX4_share_22 : decode cX4_share 22 = .ok (.iload_n 3, 1) := by decide +kernel
theorem dX4_share_23 : decode cX4_share 23 = .ok (.ifCond .ne 13, 3) := by decide +kernel
theorem dX4_share_26 : decode cX4_share 26 = .ok (.new 168, 3) := by decide +kernel
theorem dX4_share_29 : decode cX4_share 29 = .ok (.dup, 1) := by decide +kernel
theorem dX4_share_30 : decode cX4_share 30 = .ok (.ldc 170, 2) := by decide +kernel
theorem dX4_share_32 : decode cX4_share 32 = .ok (.invokespecial 172, 3) := by decide +kernel
theorem dX4_share_35 : decode cX4_share 35 = .ok (.athrow, 1) := by decide +kernel
theorem dX4_share_36 : decode cX4_share 36 = .ok (.ldc2_w 173, 3) := by decide +kernel
theorem dX4_share_39 : decode cX4_share 39 = .ok (.aload_n 0, 1) := by decide +kernel
theorem dX4_share_40 : decode cX4_share 40 = .ok (.iload_n 1, 1) := by decide +kernel
theorem dX4_share_41 : decode cX4_share 41 = .ok (.iload_n 2, 1) := by decide +kernel
theorem dX4_share_42 : decode cX4_share 42 = .ok (.invokevirtual 157, 3) := by decide +kernel
theorem dX4_share_45 : decode cX4_share 45 = .ok (.i2l, 1) := by decide +kernel
theorem dX4_share_46 : decode cX4_share 46 = .ok (.lmul, 1) := by decide +kernel
theorem dX4_share_47 : decode cX4_share 47 = .ok (.iload_n 3, 1) := by decide +kernel
theorem dX4_share_48 : decode cX4_share 48 = .ok (.i2l, 1) := by decide +kernel
theorem dX4_share_49 : decode cX4_share 49 = .ok (.ldiv, 1) := by decide +kernel
theorem dX4_share_50 : decode cX4_share 50 = .ok (.l2i, 1) := by decide +kernel
theorem dX4_share_51 : decode cX4_share 51 = .ok (.ireturn, 1) := by decide +kernel
theorem dX4_bars_0 : decode cX4_bars 0 = .ok (.iload_n 1, 1) := by decide +kernel
theorem dX4_bars_1 : decode cX4_bars 1 = .ok (.invokestatic 41, 3) := by decide +kernel
theorem dX4_bars_4 : decode cX4_bars 4 = .ok (.iload_n 2, 1) := by decide +kernel
theorem dX4_bars_5 : decode cX4_bars 5 = .ok (.invokestatic 37, 3) := by decide +kernel
theorem dX4_bars_8 : decode cX4_bars 8 = .ok (.iload_n 3, 1) := by decide +kernel
theorem dX4_bars_9 : decode cX4_bars 9 = .ok (.invokestatic 175, 3) := by decide +kernel
theorem dX4_bars_12 : decode cX4_bars 12 = .ok (.aload_n 0, 1) := by decide +kernel
theorem dX4_bars_13 : decode cX4_bars 13 = .ok (.iload_n 1, 1) := by decide +kernel
theorem dX4_bars_14 : decode cX4_bars 14 = .ok (.invokevirtual 49, 3) := by decide +kernel
theorem dX4_bars_17 : decode cX4_bars 17 = .ok (.aload_n 0, 1) := by decide +kernel
theorem dX4_bars_18 : decode cX4_bars 18 = .ok (.getfield 33, 3) := by decide +kernel
theorem dX4_bars_21 : decode cX4_bars 21 = .ok (.aload_n 0, 1) := by decide +kernel
theorem dX4_bars_22 : decode cX4_bars 22 = .ok (.iload_n 1, 1) := by decide +kernel
theorem dX4_bars_23 : decode cX4_bars 23 = .ok (.iload_n 2, 1) := by decide +kernel
theorem dX4_bars_24 : decode cX4_bars 24 = .ok (.invokevirtual 161, 3) := by decide +kernel
theorem dX4_bars_27 : decode cX4_bars 27 = .ok (.iconst (-1), 1) := by decide +kernel
theorem dX4_bars_28 : decode cX4_bars 28 = .ok (.invokevirtual 178, 3) := by decide +kernel
theorem dX4_bars_31 : decode cX4_bars 31 = .ok (.istore 4, 2) := by decide +kernel
theorem dX4_bars_33 : decode cX4_bars 33 = .ok (.iconst 0, 1) := by decide +kernel
theorem dX4_bars_34 : decode cX4_bars 34 = .ok (.istore 5, 2) := by decide +kernel
theorem dX4_bars_36 : decode cX4_bars 36 = .ok (.iconst 0, 1) := by decide +kernel
theorem dX4_bars_37 : decode cX4_bars 37 = .ok (.istore 6, 2) := by decide +kernel
theorem dX4_bars_39 : decode cX4_bars 39 = .ok (.iload 6, 2) := by decide +kernel
theorem dX4_bars_41 : decode cX4_bars 41 = .ok (.aload_n 0, 1) := by decide +kernel
theorem dX4_bars_42 : decode cX4_bars 42 = .ok (.getfield 26, 3) := by decide +kernel
theorem dX4_bars_45 : decode cX4_bars 45 = .ok (.getfield 133, 3) := by decide +kernel
theorem dX4_bars_48 : decode cX4_bars 48 = .ok (.if_icmp .ge 32, 3) := by decide +kernel
theorem dX4_bars_51 : decode cX4_bars 51 = .ok (.aload_n 0, 1) := by decide +kernel
theorem dX4_bars_52 : decode cX4_bars 52 = .ok (.iload 6, 2) := by decide +kernel
theorem dX4_bars_54 : decode cX4_bars 54 = .ok (.iload 4, 2) := by decide +kernel
theorem dX4_bars_56 : decode cX4_bars 56 = .ok (.invokevirtual 181, 3) := by decide +kernel
theorem dX4_bars_59 : decode cX4_bars 59 = .ok (.ifCond .eq 15, 3) := by decide +kernel
theorem dX4_bars_62 : decode cX4_bars 62 = .ok (.iload 5, 2) := by decide +kernel
theorem dX4_bars_64 : decode cX4_bars 64 = .ok (.iload_n 3, 1) := by decide +kernel
theorem dX4_bars_65 : decode cX4_bars 65 = .ok (.if_icmp .ne 6, 3) := by decide +kernel
theorem dX4_bars_68 : decode cX4_bars 68 = .ok (.iload 6, 2) := by decide +kernel
theorem dX4_bars_70 : decode cX4_bars 70 = .ok (.ireturn, 1) := by decide +kernel
theorem dX4_bars_71 : decode cX4_bars 71 = .ok (.iinc 5 1, 3) := by decide +kernel
theorem dX4_bars_74 : decode cX4_bars 74 = .ok (.iinc 6 1, 3) := by decide +kernel
theorem dX4_bars_77 : decode cX4_bars 77 = .ok (.goto (-38), 3) := by decide +kernel
theorem dX4_bars_80 : decode cX4_bars 80 = .ok (.iconst (-1), 1) := by decide +kernel
theorem dX4_bars_81 : decode cX4_bars 81 = .ok (.ireturn, 1) := by decide +kernel
theorem dX4_flow_0 : decode cX4_flow 0 = .ok (.aload_n 0, 1) := by decide +kernel
theorem dX4_flow_1 : decode cX4_flow 1 = .ok (.iload_n 1, 1) := by decide +kernel
theorem dX4_flow_2 : decode cX4_flow 2 = .ok (.invokevirtual 149, 3) := by decide +kernel
theorem dX4_flow_5 : decode cX4_flow 5 = .ok (.iload_n 2, 1) := by decide +kernel
theorem dX4_flow_6 : decode cX4_flow 6 = .ok (.invokestatic 175, 3) := by decide +kernel
theorem dX4_flow_9 : decode cX4_flow 9 = .ok (.iload_n 3, 1) := by decide +kernel
theorem dX4_flow_10 : decode cX4_flow 10 = .ok (.iconst 0, 1) := by decide +kernel
theorem dX4_flow_11 : decode cX4_flow 11 = .ok (.iconst 2, 1) := by decide +kernel
theorem dX4_flow_12 : decode cX4_flow 12 = .ok (.invokestatic 45, 3) := by decide +kernel
theorem dX4_flow_15 : decode cX4_flow 15 = .ok (.aload_n 0, 1) := by decide +kernel
theorem dX4_flow_16 : decode cX4_flow 16 = .ok (.getfield 26, 3) := by decide +kernel
theorem dX4_flow_19 : decode cX4_flow 19 = .ok (.getfield 152, 3) := by decide +kernel
theorem dX4_flow_22 : decode cX4_flow 22 = .ok (.iload_n 1, 1) := by decide +kernel
theorem dX4_flow_23 : decode cX4_flow 23 = .ok (.iaload, 1) := by decide +kernel
theorem dX4_flow_24 : decode cX4_flow 24 = .ok (.ifCond .eq 13, 3) := by decide +kernel
theorem dX4_flow_27 : decode cX4_flow 27 = .ok (.new 78, 3) := by decide +kernel
theorem dX4_flow_30 : decode cX4_flow 30 = .ok (.dup, 1) := by decide +kernel
theorem dX4_flow_31 : decode cX4_flow 31 = .ok (.ldc 184, 2) := by decide +kernel
theorem dX4_flow_33 : decode cX4_flow 33 = .ok (.invokespecial 82, 3) := by decide +kernel
theorem dX4_flow_36 : decode cX4_flow 36 = .ok (.athrow, 1) := by decide +kernel
theorem dX4_flow_37 : decode cX4_flow 37 = .ok (.iconst 0, 1) := by decide +kernel
theorem dX4_flow_38 : decode cX4_flow 38 = .ok (.istore 4, 2) := by decide +kernel
theorem dX4_flow_40 : decode cX4_flow 40 = .ok (.iconst 0, 1) := by decide +kernel
theorem dX4_flow_41 : decode cX4_flow 41 = .ok (.istore 5, 2) := by decide +kernel
theorem dX4_flow_43 : decode cX4_flow 43 = .ok (.iload 5, 2) := by decide +kernel
theorem dX4_flow_45 : decode cX4_flow 45 = .ok (.aload_n 0, 1) := by decide +kernel
theorem dX4_flow_46 : decode cX4_flow 46 = .ok (.iload_n 1, 1) := by decide +kernel
theorem dX4_flow_47 : decode cX4_flow 47 = .ok (.invokevirtual 186, 3) := by decide +kernel
theorem dX4_flow_50 : decode cX4_flow 50 = .ok (.if_icmp .ge 93, 3) := by decide +kernel
theorem dX4_flow_53 : decode cX4_flow 53 = .ok (.iload_n 1, 1) := by decide +kernel
theorem dX4_flow_54 : decode cX4_flow 54 = .ok (.iload 5, 2) := by decide +kernel
theorem dX4_flow_56 : decode cX4_flow 56 = .ok (.invokestatic 189, 3) := by decide +kernel
theorem dX4_flow_59 : decode cX4_flow 59 = .ok (.istore 6, 2) := by decide +kernel
theorem dX4_flow_61 : decode cX4_flow 61 = .ok (.aload_n 0, 1) := by decide +kernel
theorem dX4_flow_62 : decode cX4_flow 62 = .ok (.getfield 33, 3) := by decide +kernel
theorem dX4_flow_65 : decode cX4_flow 65 = .ok (.iload 6, 2) := by decide +kernel
theorem dX4_flow_67 : decode cX4_flow 67 = .ok (.invokevirtual 192, 3) := by decide +kernel
theorem dX4_flow_70 : decode cX4_flow 70 = .ok (.istore 7, 2) := by decide +kernel
theorem dX4_flow_72 : decode cX4_flow 72 = .ok (.iload_n 2, 1) := by decide +kernel
theorem dX4_flow_73 : decode cX4_flow 73 = .ok (.iload 4, 2) := by decide +kernel
theorem dX4_flow_75 : decode cX4_flow 75 = .ok (.isub, 1) := by decide +kernel
theorem dX4_flow_76 : decode cX4_flow 76 = .ok (.iload 7, 2) := by decide +kernel
theorem dX4_flow_78 : decode cX4_flow 78 = .ok (.if_icmp .ge 52, 3) := by decide +kernel
theorem dX4_flow_81 : decode cX4_flow 81 = .ok (.iload_n 3, 1) := by decide +kernel
theorem dX4_flow_82 : decode cX4_flow 82 = .ok (.iconst 1, 1) := by decide +kernel
theorem dX4_flow_83 : decode cX4_flow 83 = .ok (.if_icmp .ne 24, 3) := by decide +kernel
theorem dX4_flow_86 : decode cX4_flow 86 = .ok (.aload_n 0, 1) := by decide +kernel
theorem dX4_flow_87 : decode cX4_flow 87 = .ok (.getfield 12, 3) := by decide +kernel
theorem dX4_flow_90 : decode cX4_flow 90 = .ok (.aload_n 0, 1) := by decide +kernel
theorem dX4_flow_91 : decode cX4_flow 91 = .ok (.getfield 26, 3) := by decide +kernel
theorem dX4_flow_94 : decode cX4_flow 94 = .ok (.getfield 195, 3) := by decide +kernel
theorem dX4_flow_97 : decode cX4_flow 97 = .ok (.iload_n 1, 1) := by decide +kernel
theorem dX4_flow_98 : decode cX4_flow 98 = .ok (.iaload, 1) := by decide +kernel
theorem dX4_flow_99 : decode cX4_flow 99 = .ok (.iload 5, 2) := by decide +kernel
theorem dX4_flow_101 : decode cX4_flow 101 = .ok (.invokevirtual 197, 3) := by decide +kernel
theorem dX4_flow_104 : decode cX4_flow 104 = .ok (.goto 25, 3) := by decide +kernel
theorem dX4_flow_107 : decode cX4_flow 107 = .ok (.aload_n 0, 1) := by decide +kernel
theorem dX4_flow_108 : decode cX4_flow 108 = .ok (.getfield 33, 3) := by decide +kernel
theorem dX4_flow_111 : decode cX4_flow 111 = .ok (.iload 6, 2) := by decide +kernel
theorem dX4_flow_113 : decode cX4_flow 113 = .ok (.iload_n 2, 1) := by decide +kernel
theorem dX4_flow_114 : decode cX4_flow 114 = .ok (.iload 4, 2) := by decide +kernel
theorem dX4_flow_116 : decode cX4_flow 116 = .ok (.isub, 1) := by decide +kernel
theorem dX4_flow_117 : decode cX4_flow 117 = .ok (.iload_n 3, 1) := by decide +kernel
theorem dX4_flow_118 : decode cX4_flow 118 = .ok (.ifCond .ne 7, 3) := by decide +kernel
theorem dX4_flow_121 : decode cX4_flow 121 = .ok (.iconst 1, 1) := by decide +kernel
theorem dX4_flow_122 : decode cX4_flow 122 = .ok (.goto 4, 3) := by decide +kernel
theorem dX4_flow_125 : decode cX4_flow 125 = .ok (.iconst 0, 1) := by decide +kernel
theorem dX4_flow_126 : decode cX4_flow 126 = .ok (.invokevirtual 200, 3) := by decide +kernel
theorem dX4_flow_129 : decode cX4_flow 129 = .ok (.ireturn, 1) := by decide +kernel
theorem dX4_flow_130 : decode cX4_flow 130 = .ok (.iload 4, 2) := by decide +kernel
theorem dX4_flow_132 : decode cX4_flow 132 = .ok (.iload 7, 2) := by decide +kernel
theorem dX4_flow_134 : decode cX4_flow 134 = .ok (.iadd, 1) := by decide +kernel
theorem dX4_flow_135 : decode cX4_flow 135 = .ok (.istore 4, 2) := by decide +kernel
theorem dX4_flow_137 : decode cX4_flow 137 = .ok (.iinc 5 1, 3) := by decide +kernel
theorem dX4_flow_140 : decode cX4_flow 140 = .ok (.goto (-97), 3) := by decide +kernel
theorem dX4_flow_143 : decode cX4_flow 143 = .ok (.iconst (-1), 1) := by decide +kernel
theorem dX4_flow_144 : decode cX4_flow 144 = .ok (.ireturn, 1) := by decide +kernel
theorem dX4_state_0 : decode cX4_state 0 = .ok (.aload_n 0, 1) := by decide +kernel
theorem dX4_state_1 : decode cX4_state 1 = .ok (.iload_n 1, 1) := by decide +kernel
theorem dX4_state_2 : decode cX4_state 2 = .ok (.invokevirtual 149, 3) := by decide +kernel
theorem dX4_state_5 : decode cX4_state 5 = .ok (.aload_n 0, 1) := by decide +kernel
theorem dX4_state_6 : decode cX4_state 6 = .ok (.getfield 26, 3) := by decide +kernel
theorem dX4_state_9 : decode cX4_state 9 = .ok (.getfield 152, 3) := by decide +kernel
theorem dX4_state_12 : decode cX4_state 12 = .ok (.iload_n 1, 1) := by decide +kernel
theorem dX4_state_13 : decode cX4_state 13 = .ok (.iaload, 1) := by decide +kernel
theorem dX4_state_14 : decode cX4_state 14 = .ok (.ireturn, 1) := by decide +kernel
theorem dX4_left_0 : decode cX4_left 0 = .ok (.aload_n 0, 1) := by decide +kernel
theorem dX4_left_1 : decode cX4_left 1 = .ok (.iload_n 1, 1) := by decide +kernel
theorem dX4_left_2 : decode cX4_left 2 = .ok (.invokevirtual 71, 3) := by decide +kernel
theorem dX4_left_5 : decode cX4_left 5 = .ok (.aload_n 0, 1) := by decide +kernel
theorem dX4_left_6 : decode cX4_left 6 = .ok (.getfield 33, 3) := by decide +kernel
theorem dX4_left_9 : decode cX4_left 9 = .ok (.getfield 204, 3) := by decide +kernel
theorem dX4_left_12 : decode cX4_left 12 = .ok (.iload_n 1, 1) := by decide +kernel
theorem dX4_left_13 : decode cX4_left 13 = .ok (.iaload, 1) := by decide +kernel
theorem dX4_left_14 : decode cX4_left 14 = .ok (.ireturn, 1) := by decide +kernel
theorem dX4_count_0 : decode cX4_count 0 = .ok (.iload_n 1, 1) := by decide +kernel
theorem dX4_count_1 : decode cX4_count 1 = .ok (.tableswitch 86 0 5 #[39, 47, 55, 64, 73, 81], 39) := by decide +kernel
theorem dX4_count_40 : decode cX4_count 40 = .ok (.aload_n 0, 1) := by decide +kernel
theorem dX4_count_41 : decode cX4_count 41 = .ok (.getfield 19, 3) := by decide +kernel
theorem dX4_count_44 : decode cX4_count 44 = .ok (.getfield 52, 3) := by decide +kernel
theorem dX4_count_47 : decode cX4_count 47 = .ok (.ireturn, 1) := by decide +kernel
theorem dX4_count_48 : decode cX4_count 48 = .ok (.aload_n 0, 1) := by decide +kernel
theorem dX4_count_49 : decode cX4_count 49 = .ok (.getfield 26, 3) := by decide +kernel
theorem dX4_count_52 : decode cX4_count 52 = .ok (.getfield 133, 3) := by decide +kernel
theorem dX4_count_55 : decode cX4_count 55 = .ok (.ireturn, 1) := by decide +kernel
theorem dX4_count_56 : decode cX4_count 56 = .ok (.aload_n 0, 1) := by decide +kernel
theorem dX4_count_57 : decode cX4_count 57 = .ok (.getfield 26, 3) := by decide +kernel
theorem dX4_count_60 : decode cX4_count 60 = .ok (.iconst 0, 1) := by decide +kernel
theorem dX4_count_61 : decode cX4_count 61 = .ok (.invokevirtual 207, 3) := by decide +kernel
theorem dX4_count_64 : decode cX4_count 64 = .ok (.ireturn, 1) := by decide +kernel
theorem dX4_count_65 : decode cX4_count 65 = .ok (.aload_n 0, 1) := by decide +kernel
theorem dX4_count_66 : decode cX4_count 66 = .ok (.getfield 26, 3) := by decide +kernel
theorem dX4_count_69 : decode cX4_count 69 = .ok (.iconst 1, 1) := by decide +kernel
theorem dX4_count_70 : decode cX4_count 70 = .ok (.invokevirtual 207, 3) := by decide +kernel
theorem dX4_count_73 : decode cX4_count 73 = .ok (.ireturn, 1) := by decide +kernel
theorem dX4_count_74 : decode cX4_count 74 = .ok (.aload_n 0, 1) := by decide +kernel
theorem dX4_count_75 : decode cX4_count 75 = .ok (.getfield 19, 3) := by decide +kernel
theorem dX4_count_78 : decode cX4_count 78 = .ok (.invokevirtual 210, 3) := by decide +kernel
theorem dX4_count_81 : decode cX4_count 81 = .ok (.ireturn, 1) := by decide +kernel
theorem dX4_count_82 : decode cX4_count 82 = .ok (.aload_n 0, 1) := by decide +kernel
theorem dX4_count_83 : decode cX4_count 83 = .ok (.invokevirtual 213, 3) := by decide +kernel
theorem dX4_count_86 : decode cX4_count 86 = .ok (.ireturn, 1) := by decide +kernel
theorem dX4_count_87 : decode cX4_count 87 = .ok (.iconst (-1), 1) := by decide +kernel
theorem dX4_count_88 : decode cX4_count 88 = .ok (.ireturn, 1) := by decide +kernel
theorem dX4_needWithin_0 : decode cX4_needWithin 0 = .ok (.iload_n 0, 1) := by decide +kernel
theorem dX4_needWithin_1 : decode cX4_needWithin 1 = .ok (.iload_n 1, 1) := by decide +kernel
theorem dX4_needWithin_2 : decode cX4_needWithin 2 = .ok (.if_icmp .lt 8, 3) := by decide +kernel
theorem dX4_needWithin_5 : decode cX4_needWithin 5 = .ok (.iload_n 0, 1) := by decide +kernel
theorem dX4_needWithin_6 : decode cX4_needWithin 6 = .ok (.iload_n 2, 1) := by decide +kernel
theorem dX4_needWithin_7 : decode cX4_needWithin 7 = .ok (.if_icmp .le 13, 3) := by decide +kernel
theorem dX4_needWithin_10 : decode cX4_needWithin 10 = .ok (.new 92, 3) := by decide +kernel
theorem dX4_needWithin_13 : decode cX4_needWithin 13 = .ok (.dup, 1) := by decide +kernel
theorem dX4_needWithin_14 : decode cX4_needWithin 14 = .ok (.ldc 216, 2) := by decide +kernel
theorem dX4_needWithin_16 : decode cX4_needWithin 16 = .ok (.invokespecial 96, 3) := by decide +kernel
theorem dX4_needWithin_19 : decode cX4_needWithin 19 = .ok (.athrow, 1) := by decide +kernel
theorem dX4_needWithin_20 : decode cX4_needWithin 20 = .ok (.return_, 1) := by decide +kernel
theorem dX4_needGood_0 : decode cX4_needGood 0 = .ok (.iload_n 0, 1) := by decide +kernel
theorem dX4_needGood_1 : decode cX4_needGood 1 = .ok (.iconst 0, 1) := by decide +kernel
theorem dX4_needGood_2 : decode cX4_needGood 2 = .ok (.iconst 5, 1) := by decide +kernel
theorem dX4_needGood_3 : decode cX4_needGood 3 = .ok (.invokestatic 45, 3) := by decide +kernel
theorem dX4_needGood_6 : decode cX4_needGood 6 = .ok (.return_, 1) := by decide +kernel
theorem dX4_needTime_0 : decode cX4_needTime 0 = .ok (.iload_n 0, 1) := by decide +kernel
theorem dX4_needTime_1 : decode cX4_needTime 1 = .ok (.iconst 0, 1) := by decide +kernel
theorem dX4_needTime_2 : decode cX4_needTime 2 = .ok (.bipush 99, 2) := by decide +kernel
theorem dX4_needTime_4 : decode cX4_needTime 4 = .ok (.invokestatic 45, 3) := by decide +kernel
theorem dX4_needTime_7 : decode cX4_needTime 7 = .ok (.return_, 1) := by decide +kernel
theorem dX4_needNotBelowZero_0 : decode cX4_needNotBelowZero 0 = .ok (.iload_n 0, 1) := by decide +kernel
theorem dX4_needNotBelowZero_1 : decode cX4_needNotBelowZero 1 = .ok (.ifCond .ge 13, 3) := by decide +kernel
theorem dX4_needNotBelowZero_4 : decode cX4_needNotBelowZero 4 = .ok (.new 92, 3) := by decide +kernel
theorem dX4_needNotBelowZero_7 : decode cX4_needNotBelowZero 7 = .ok (.dup, 1) := by decide +kernel
theorem dX4_needNotBelowZero_8 : decode cX4_needNotBelowZero 8 = .ok (.ldc 218, 2) := by decide +kernel
theorem dX4_needNotBelowZero_10 : decode cX4_needNotBelowZero 10 = .ok (.invokespecial 96, 3) := by decide +kernel
theorem dX4_needNotBelowZero_13 : decode cX4_needNotBelowZero 13 = .ok (.athrow, 1) := by decide +kernel
theorem dX4_needNotBelowZero_14 : decode cX4_needNotBelowZero 14 = .ok (.return_, 1) := by decide +kernel
theorem dX4_needArrival_0 : decode cX4_needArrival 0 = .ok (.iload_n 1, 1) := by decide +kernel
theorem dX4_needArrival_1 : decode cX4_needArrival 1 = .ok (.ifCond .lt 14, 3) := by decide +kernel
theorem dX4_needArrival_4 : decode cX4_needArrival 4 = .ok (.iload_n 1, 1) := by decide +kernel
theorem dX4_needArrival_5 : decode cX4_needArrival 5 = .ok (.aload_n 0, 1) := by decide +kernel
theorem dX4_needArrival_6 : decode cX4_needArrival 6 = .ok (.getfield 19, 3) := by decide +kernel
theorem dX4_needArrival_9 : decode cX4_needArrival 9 = .ok (.getfield 52, 3) := by decide +kernel
theorem dX4_needArrival_12 : decode cX4_needArrival 12 = .ok (.if_icmp .lt 13, 3) := by decide +kernel
theorem dX4_needArrival_15 : decode cX4_needArrival 15 = .ok (.new 220, 3) := by decide +kernel
theorem dX4_needArrival_18 : decode cX4_needArrival 18 = .ok (.dup, 1) := by decide +kernel
theorem dX4_needArrival_19 : decode cX4_needArrival 19 = .ok (.ldc 222, 2) := by decide +kernel
theorem dX4_needArrival_21 : decode cX4_needArrival 21 = .ok (.invokespecial 224, 3) := by decide +kernel
theorem dX4_needArrival_24 : decode cX4_needArrival 24 = .ok (.athrow, 1) := by decide +kernel
theorem dX4_needArrival_25 : decode cX4_needArrival 25 = .ok (.return_, 1) := by decide +kernel
theorem dX4_needOrder_0 : decode cX4_needOrder 0 = .ok (.iload_n 1, 1) := by decide +kernel
theorem dX4_needOrder_1 : decode cX4_needOrder 1 = .ok (.ifCond .lt 14, 3) := by decide +kernel
theorem dX4_needOrder_4 : decode cX4_needOrder 4 = .ok (.iload_n 1, 1) := by decide +kernel
theorem dX4_needOrder_5 : decode cX4_needOrder 5 = .ok (.aload_n 0, 1) := by decide +kernel
theorem dX4_needOrder_6 : decode cX4_needOrder 6 = .ok (.getfield 26, 3) := by decide +kernel
theorem dX4_needOrder_9 : decode cX4_needOrder 9 = .ok (.getfield 133, 3) := by decide +kernel
theorem dX4_needOrder_12 : decode cX4_needOrder 12 = .ok (.if_icmp .lt 13, 3) := by decide +kernel
theorem dX4_needOrder_15 : decode cX4_needOrder 15 = .ok (.new 220, 3) := by decide +kernel
theorem dX4_needOrder_18 : decode cX4_needOrder 18 = .ok (.dup, 1) := by decide +kernel
theorem dX4_needOrder_19 : decode cX4_needOrder 19 = .ok (.ldc 225, 2) := by decide +kernel
theorem dX4_needOrder_21 : decode cX4_needOrder 21 = .ok (.invokespecial 224, 3) := by decide +kernel
theorem dX4_needOrder_24 : decode cX4_needOrder 24 = .ok (.athrow, 1) := by decide +kernel
theorem dX4_needOrder_25 : decode cX4_needOrder 25 = .ok (.return_, 1) := by decide +kernel
theorem dX4_needNoKit_0 : decode cX4_needNoKit 0 = .ok (.aload_n 0, 1) := by decide +kernel
theorem dX4_needNoKit_1 : decode cX4_needNoKit 1 = .ok (.getfield 12, 3) := by decide +kernel
theorem dX4_needNoKit_4 : decode cX4_needNoKit 4 = .ok (.iload_n 1, 1) := by decide +kernel
theorem dX4_needNoKit_5 : decode cX4_needNoKit 5 = .ok (.invokevirtual 227, 3) := by decide +kernel
theorem dX4_needNoKit_8 : decode cX4_needNoKit 8 = .ok (.ifCond .eq 13, 3) := by decide +kernel
theorem dX4_needNoKit_11 : decode cX4_needNoKit 11 = .ok (.new 78, 3) := by decide +kernel
theorem dX4_needNoKit_14 : decode cX4_needNoKit 14 = .ok (.dup, 1) := by decide +kernel
theorem dX4_needNoKit_15 : decode cX4_needNoKit 15 = .ok (.ldc 230, 2) := by decide +kernel
theorem dX4_needNoKit_17 : decode cX4_needNoKit 17 = .ok (.invokespecial 82, 3) := by decide +kernel
theorem dX4_needNoKit_20 : decode cX4_needNoKit 20 = .ok (.athrow, 1) := by decide +kernel
theorem dX4_needNoKit_21 : decode cX4_needNoKit 21 = .ok (.return_, 1) := by decide +kernel
theorem dX4_settle_0 : decode cX4_settle 0 = .ok (.aload_n 0, 1) := by decide +kernel
theorem dX4_settle_1 : decode cX4_settle 1 = .ok (.getfield 33, 3) := by decide +kernel
theorem dX4_settle_4 : decode cX4_settle 4 = .ok (.aload_n 0, 1) := by decide +kernel
theorem dX4_settle_5 : decode cX4_settle 5 = .ok (.getfield 19, 3) := by decide +kernel
theorem dX4_settle_8 : decode cX4_settle 8 = .ok (.invokevirtual 232, 3) := by decide +kernel
theorem dX4_settle_11 : decode cX4_settle 11 = .ok (.iconst 0, 1) := by decide +kernel
theorem dX4_settle_12 : decode cX4_settle 12 = .ok (.istore_n 1, 1) := by decide +kernel
theorem dX4_settle_13 : decode cX4_settle 13 = .ok (.iload_n 1, 1) := by decide +kernel
theorem dX4_settle_14 : decode cX4_settle 14 = .ok (.aload_n 0, 1) := by decide +kernel
theorem dX4_settle_15 : decode cX4_settle 15 = .ok (.getfield 26, 3) := by decide +kernel
theorem dX4_settle_18 : decode cX4_settle 18 = .ok (.getfield 133, 3) := by decide +kernel
theorem dX4_settle_21 : decode cX4_settle 21 = .ok (.if_icmp .ge 54, 3) := by decide +kernel
theorem dX4_settle_24 : decode cX4_settle 24 = .ok (.aload_n 0, 1) := by decide +kernel
theorem dX4_settle_25 : decode cX4_settle 25 = .ok (.getfield 26, 3) := by decide +kernel
theorem dX4_settle_28 : decode cX4_settle 28 = .ok (.getfield 236, 3) := by decide +kernel
theorem dX4_settle_31 : decode cX4_settle 31 = .ok (.iload_n 1, 1) := by decide +kernel
theorem dX4_settle_32 : decode cX4_settle 32 = .ok (.iaload, 1) := by decide +kernel
theorem dX4_settle_33 : decode cX4_settle 33 = .ok (.istore_n 2, 1) := by decide +kernel
theorem dX4_settle_34 : decode cX4_settle 34 = .ok (.aload_n 0, 1) := by decide +kernel
theorem dX4_settle_35 : decode cX4_settle 35 = .ok (.getfield 26, 3) := by decide +kernel
theorem dX4_settle_38 : decode cX4_settle 38 = .ok (.getfield 152, 3) := by decide +kernel
theorem dX4_settle_41 : decode cX4_settle 41 = .ok (.iload_n 2, 1) := by decide +kernel
theorem dX4_settle_42 : decode cX4_settle 42 = .ok (.iaload, 1) := by decide +kernel
theorem dX4_settle_43 : decode cX4_settle 43 = .ok (.iconst 2, 1) := by decide +kernel
theorem dX4_settle_44 : decode cX4_settle 44 = .ok (.if_icmp .eq 25, 3) := by decide +kernel
theorem dX4_settle_47 : decode cX4_settle 47 = .ok (.aload_n 0, 1) := by decide +kernel
theorem dX4_settle_48 : decode cX4_settle 48 = .ok (.getfield 26, 3) := by decide +kernel
theorem dX4_settle_51 : decode cX4_settle 51 = .ok (.getfield 152, 3) := by decide +kernel
theorem dX4_settle_54 : decode cX4_settle 54 = .ok (.iload_n 2, 1) := by decide +kernel
theorem dX4_settle_55 : decode cX4_settle 55 = .ok (.aload_n 0, 1) := by decide +kernel
theorem dX4_settle_56 : decode cX4_settle 56 = .ok (.iload_n 2, 1) := by decide +kernel
theorem dX4_settle_57 : decode cX4_settle 57 = .ok (.invokevirtual 140, 3) := by decide +kernel
theorem dX4_settle_60 : decode cX4_settle 60 = .ok (.ifCond .eq 7, 3) := by decide +kernel
theorem dX4_settle_63 : decode cX4_settle 63 = .ok (.iconst 0, 1) := by decide +kernel
theorem dX4_settle_64 : decode cX4_settle 64 = .ok (.goto 4, 3) := by decide +kernel
theorem dX4_settle_67 : decode cX4_settle 67 = .ok (.iconst 1, 1) := by decide +kernel
theorem dX4_settle_68 : decode cX4_settle 68 = .ok (.iastore, 1) := by decide +kernel
theorem dX4_settle_69 : decode cX4_settle 69 = .ok (.iinc 1 1, 3) := by decide +kernel
theorem dX4_settle_72 : decode cX4_settle 72 = .ok (.goto (-59), 3) := by decide +kernel
theorem dX4_settle_75 : decode cX4_settle 75 = .ok (.aload_n 0, 1) := by decide +kernel
theorem dX4_settle_76 : decode cX4_settle 76 = .ok (.invokevirtual 146, 3) := by decide +kernel
theorem dX4_settle_79 : decode cX4_settle 79 = .ok (.aload_n 0, 1) := by decide +kernel
theorem dX4_settle_80 : decode cX4_settle 80 = .ok (.getfield 26, 3) := by decide +kernel
theorem dX4_settle_83 : decode cX4_settle 83 = .ok (.iconst 1, 1) := by decide +kernel
theorem dX4_settle_84 : decode cX4_settle 84 = .ok (.invokevirtual 207, 3) := by decide +kernel
theorem dX4_settle_87 : decode cX4_settle 87 = .ok (.ireturn, 1) := by decide +kernel
theorem dX4_joinsCovered_0 : decode cX4_joinsCovered 0 = .ok (.aload_n 0, 1) := by decide +kernel
theorem dX4_joinsCovered_1 : decode cX4_joinsCovered 1 = .ok (.getfield 33, 3) := by decide +kernel
theorem dX4_joinsCovered_4 : decode cX4_joinsCovered 4 = .ok (.invokevirtual 239, 3) := by decide +kernel
theorem dX4_joinsCovered_7 : decode cX4_joinsCovered 7 = .ok (.iconst 0, 1) := by decide +kernel
theorem dX4_joinsCovered_8 : decode cX4_joinsCovered 8 = .ok (.istore_n 2, 1) := by decide +kernel
theorem dX4_joinsCovered_9 : decode cX4_joinsCovered 9 = .ok (.iload_n 2, 1) := by decide +kernel
theorem dX4_joinsCovered_10 : decode cX4_joinsCovered 10 = .ok (.aload_n 0, 1) := by decide +kernel
theorem dX4_joinsCovered_11 : decode cX4_joinsCovered 11 = .ok (.iload_n 1, 1) := by decide +kernel
theorem dX4_joinsCovered_12 : decode cX4_joinsCovered 12 = .ok (.invokevirtual 186, 3) := by decide +kernel
theorem dX4_joinsCovered_15 : decode cX4_joinsCovered 15 = .ok (.if_icmp .ge 81, 3) := by decide +kernel
theorem dX4_joinsCovered_18 : decode cX4_joinsCovered 18 = .ok (.iload_n 1, 1) := by decide +kernel
theorem dX4_joinsCovered_19 : decode cX4_joinsCovered 19 = .ok (.iload_n 2, 1) := by decide +kernel
theorem dX4_joinsCovered_20 : decode cX4_joinsCovered 20 = .ok (.invokestatic 189, 3) := by decide +kernel
theorem dX4_joinsCovered_23 : decode cX4_joinsCovered 23 = .ok (.istore_n 3, 1) := by decide +kernel
theorem dX4_joinsCovered_24 : decode cX4_joinsCovered 24 = .ok (.aload_n 0, 1) := by decide +kernel
theorem dX4_joinsCovered_25 : decode cX4_joinsCovered 25 = .ok (.getfield 33, 3) := by decide +kernel
theorem dX4_joinsCovered_28 : decode cX4_joinsCovered 28 = .ok (.getfield 242, 3) := by decide +kernel
theorem dX4_joinsCovered_31 : decode cX4_joinsCovered 31 = .ok (.iload_n 3, 1) := by decide +kernel
theorem dX4_joinsCovered_32 : decode cX4_joinsCovered 32 = .ok (.aload_n 0, 1) := by decide +kernel
theorem dX4_joinsCovered_33 : decode cX4_joinsCovered 33 = .ok (.aload_n 0, 1) := by decide +kernel
theorem dX4_joinsCovered_34 : decode cX4_joinsCovered 34 = .ok (.getfield 12, 3) := by decide +kernel
theorem dX4_joinsCovered_37 : decode cX4_joinsCovered 37 = .ok (.aload_n 0, 1) := by decide +kernel
theorem dX4_joinsCovered_38 : decode cX4_joinsCovered 38 = .ok (.getfield 26, 3) := by decide +kernel
theorem dX4_joinsCovered_41 : decode cX4_joinsCovered 41 = .ok (.getfield 195, 3) := by decide +kernel
theorem dX4_joinsCovered_44 : decode cX4_joinsCovered 44 = .ok (.iload_n 1, 1) := by decide +kernel
theorem dX4_joinsCovered_45 : decode cX4_joinsCovered 45 = .ok (.iaload, 1) := by decide +kernel
theorem dX4_joinsCovered_46 : decode cX4_joinsCovered 46 = .ok (.iload_n 2, 1) := by decide +kernel
theorem dX4_joinsCovered_47 : decode cX4_joinsCovered 47 = .ok (.invokevirtual 197, 3) := by decide +kernel
theorem dX4_joinsCovered_50 : decode cX4_joinsCovered 50 = .ok (.aload_n 0, 1) := by decide +kernel
theorem dX4_joinsCovered_51 : decode cX4_joinsCovered 51 = .ok (.getfield 26, 3) := by decide +kernel
theorem dX4_joinsCovered_54 : decode cX4_joinsCovered 54 = .ok (.getfield 245, 3) := by decide +kernel
theorem dX4_joinsCovered_57 : decode cX4_joinsCovered 57 = .ok (.iload_n 1, 1) := by decide +kernel
theorem dX4_joinsCovered_58 : decode cX4_joinsCovered 58 = .ok (.iaload, 1) := by decide +kernel
theorem dX4_joinsCovered_59 : decode cX4_joinsCovered 59 = .ok (.invokevirtual 161, 3) := by decide +kernel
theorem dX4_joinsCovered_62 : decode cX4_joinsCovered 62 = .ok (.iastore, 1) := by decide +kernel
theorem dX4_joinsCovered_63 : decode cX4_joinsCovered 63 = .ok (.aload_n 0, 1) := by decide +kernel
theorem dX4_joinsCovered_64 : decode cX4_joinsCovered 64 = .ok (.getfield 33, 3) := by decide +kernel
theorem dX4_joinsCovered_67 : decode cX4_joinsCovered 67 = .ok (.iload_n 3, 1) := by decide +kernel
theorem dX4_joinsCovered_68 : decode cX4_joinsCovered 68 = .ok (.aload_n 0, 1) := by decide +kernel
theorem dX4_joinsCovered_69 : decode cX4_joinsCovered 69 = .ok (.iload_n 1, 1) := by decide +kernel
theorem dX4_joinsCovered_70 : decode cX4_joinsCovered 70 = .ok (.iload_n 2, 1) := by decide +kernel
theorem dX4_joinsCovered_71 : decode cX4_joinsCovered 71 = .ok (.invokevirtual 248, 3) := by decide +kernel
theorem dX4_joinsCovered_74 : decode cX4_joinsCovered 74 = .ok (.iconst (-1), 1) := by decide +kernel
theorem dX4_joinsCovered_75 : decode cX4_joinsCovered 75 = .ok (.invokevirtual 251, 3) := by decide +kernel
theorem dX4_joinsCovered_78 : decode cX4_joinsCovered 78 = .ok (.ifCond .le 12, 3) := by decide +kernel
theorem dX4_joinsCovered_81 : decode cX4_joinsCovered 81 = .ok (.aload_n 0, 1) := by decide +kernel
theorem dX4_joinsCovered_82 : decode cX4_joinsCovered 82 = .ok (.getfield 33, 3) := by decide +kernel
theorem dX4_joinsCovered_85 : decode cX4_joinsCovered 85 = .ok (.invokevirtual 254, 3) := by decide +kernel
theorem dX4_joinsCovered_88 : decode cX4_joinsCovered 88 = .ok (.iconst 0, 1) := by decide +kernel
theorem dX4_joinsCovered_89 : decode cX4_joinsCovered 89 = .ok (.ireturn, 1) := by decide +kernel
theorem dX4_joinsCovered_90 : decode cX4_joinsCovered 90 = .ok (.iinc 2 1, 3) := by decide +kernel
theorem dX4_joinsCovered_93 : decode cX4_joinsCovered 93 = .ok (.goto (-84), 3) := by decide +kernel
theorem dX4_joinsCovered_96 : decode cX4_joinsCovered 96 = .ok (.iconst 1, 1) := by decide +kernel
theorem dX4_joinsCovered_97 : decode cX4_joinsCovered 97 = .ok (.ireturn, 1) := by decide +kernel
theorem dX4_makePlan_0 : decode cX4_makePlan 0 = .ok (.iconst (-1), 1) := by decide +kernel
theorem dX4_makePlan_1 : decode cX4_makePlan 1 = .ok (.istore_n 1, 1) := by decide +kernel
theorem dX4_makePlan_2 : decode cX4_makePlan 2 = .ok (.iconst 0, 1) := by decide +kernel
theorem dX4_makePlan_3 : decode cX4_makePlan 3 = .ok (.istore_n 2, 1) := by decide +kernel
theorem dX4_makePlan_4 : decode cX4_makePlan 4 = .ok (.iload_n 2, 1) := by decide +kernel
theorem dX4_makePlan_5 : decode cX4_makePlan 5 = .ok (.aload_n 0, 1) := by decide +kernel
theorem dX4_makePlan_6 : decode cX4_makePlan 6 = .ok (.getfield 26, 3) := by decide +kernel
theorem dX4_makePlan_9 : decode cX4_makePlan 9 = .ok (.getfield 133, 3) := by decide +kernel
theorem dX4_makePlan_12 : decode cX4_makePlan 12 = .ok (.if_icmp .ge 94, 3) := by decide +kernel
theorem dX4_makePlan_15 : decode cX4_makePlan 15 = .ok (.aload_n 0, 1) := by decide +kernel
theorem dX4_makePlan_16 : decode cX4_makePlan 16 = .ok (.getfield 26, 3) := by decide +kernel
theorem dX4_makePlan_19 : decode cX4_makePlan 19 = .ok (.getfield 236, 3) := by decide +kernel
theorem dX4_makePlan_22 : decode cX4_makePlan 22 = .ok (.iload_n 2, 1) := by decide +kernel
theorem dX4_makePlan_23 : decode cX4_makePlan 23 = .ok (.iaload, 1) := by decide +kernel
theorem dX4_makePlan_24 : decode cX4_makePlan 24 = .ok (.istore_n 3, 1) := by decide +kernel
theorem dX4_makePlan_25 : decode cX4_makePlan 25 = .ok (.aload_n 0, 1) := by decide +kernel
theorem dX4_makePlan_26 : decode cX4_makePlan 26 = .ok (.getfield 26, 3) := by decide +kernel
theorem dX4_makePlan_29 : decode cX4_makePlan 29 = .ok (.getfield 152, 3) := by decide +kernel
theorem dX4_makePlan_32 : decode cX4_makePlan 32 = .ok (.iload_n 3, 1) := by decide +kernel
theorem dX4_makePlan_33 : decode cX4_makePlan 33 = .ok (.iaload, 1) := by decide +kernel
theorem dX4_makePlan_34 : decode cX4_makePlan 34 = .ok (.ifCond .ne 66, 3) := by decide +kernel
theorem dX4_makePlan_37 : decode cX4_makePlan 37 = .ok (.iconst 0, 1) := by decide +kernel
theorem dX4_makePlan_38 : decode cX4_makePlan 38 = .ok (.istore 4, 2) := by decide +kernel
theorem dX4_makePlan_40 : decode cX4_makePlan 40 = .ok (.iload 4, 2) := by decide +kernel
theorem dX4_makePlan_42 : decode cX4_makePlan 42 = .ok (.aload_n 0, 1) := by decide +kernel
end
section
theorem dX4_makePlan_43 : decode cX4_makePlan 43 = .ok (.iload_n 3, 1) := by decide +kernel
theorem dX4_makePlan_44 : decode cX4_makePlan 44 = .ok (.invokevirtual 186, 3) := by decide +kernel
theorem dX4_makePlan_47 : decode cX4_makePlan 47 = .ok (.if_icmp .ge 53, 3) := by decide +kernel
theorem dX4_makePlan_50 : decode cX4_makePlan 50 = .ok (.iload_n 3, 1) := by decide +kernel
theorem dX4_makePlan_51 : decode cX4_makePlan 51 = .ok (.iload 4, 2) := by decide +kernel
theorem dX4_makePlan_53 : decode cX4_makePlan 53 = .ok (.invokestatic 189, 3) := by decide +kernel
theorem dX4_makePlan_56 : decode cX4_makePlan 56 = .ok (.istore 5, 2) := by decide +kernel
theorem dX4_makePlan_58 : decode cX4_makePlan 58 = .ok (.iload_n 1, 1) := by decide +kernel
theorem dX4_makePlan_59 : decode cX4_makePlan 59 = .ok (.iconst 1, 1) := by decide +kernel
theorem dX4_makePlan_60 : decode cX4_makePlan 60 = .ok (.iload 5, 2) := by decide +kernel
theorem dX4_makePlan_62 : decode cX4_makePlan 62 = .ok (.ishl, 1) := by decide +kernel
theorem dX4_makePlan_63 : decode cX4_makePlan 63 = .ok (.iconst (-1), 1) := by decide +kernel
theorem dX4_makePlan_64 : decode cX4_makePlan 64 = .ok (.ixor, 1) := by decide +kernel
theorem dX4_makePlan_65 : decode cX4_makePlan 65 = .ok (.iand, 1) := by decide +kernel
theorem dX4_makePlan_66 : decode cX4_makePlan 66 = .ok (.istore_n 1, 1) := by decide +kernel
theorem dX4_makePlan_67 : decode cX4_makePlan 67 = .ok (.aload_n 0, 1) := by decide +kernel
theorem dX4_makePlan_68 : decode cX4_makePlan 68 = .ok (.getfield 33, 3) := by decide +kernel
theorem dX4_makePlan_71 : decode cX4_makePlan 71 = .ok (.iload 5, 2) := by decide +kernel
theorem dX4_makePlan_73 : decode cX4_makePlan 73 = .ok (.invokevirtual 257, 3) := by decide +kernel
theorem dX4_makePlan_76 : decode cX4_makePlan 76 = .ok (.aload_n 0, 1) := by decide +kernel
theorem dX4_makePlan_77 : decode cX4_makePlan 77 = .ok (.getfield 33, 3) := by decide +kernel
theorem dX4_makePlan_80 : decode cX4_makePlan 80 = .ok (.iload 5, 2) := by decide +kernel
theorem dX4_makePlan_82 : decode cX4_makePlan 82 = .ok (.aload_n 0, 1) := by decide +kernel
theorem dX4_makePlan_83 : decode cX4_makePlan 83 = .ok (.iload_n 3, 1) := by decide +kernel
theorem dX4_makePlan_84 : decode cX4_makePlan 84 = .ok (.iload 4, 2) := by decide +kernel
theorem dX4_makePlan_86 : decode cX4_makePlan 86 = .ok (.invokevirtual 248, 3) := by decide +kernel
theorem dX4_makePlan_89 : decode cX4_makePlan 89 = .ok (.iload_n 1, 1) := by decide +kernel
theorem dX4_makePlan_90 : decode cX4_makePlan 90 = .ok (.invokevirtual 251, 3) := by decide +kernel
theorem dX4_makePlan_93 : decode cX4_makePlan 93 = .ok (.pop, 1) := by decide +kernel
theorem dX4_makePlan_94 : decode cX4_makePlan 94 = .ok (.iinc 4 1, 3) := by decide +kernel
theorem dX4_makePlan_97 : decode cX4_makePlan 97 = .ok (.goto (-57), 3) := by decide +kernel
theorem dX4_makePlan_100 : decode cX4_makePlan 100 = .ok (.iinc 2 1, 3) := by decide +kernel
theorem dX4_makePlan_103 : decode cX4_makePlan 103 = .ok (.goto (-99), 3) := by decide +kernel
theorem dX4_makePlan_106 : decode cX4_makePlan 106 = .ok (.return_, 1) := by decide +kernel
theorem dX4_greatestFurther_0 : decode cX4_greatestFurther 0 = .ok (.iconst 1, 1) := by decide +kernel
theorem dX4_greatestFurther_1 : decode cX4_greatestFurther 1 = .ok (.aload_n 0, 1) := by decide +kernel
theorem dX4_greatestFurther_2 : decode cX4_greatestFurther 2 = .ok (.getfield 12, 3) := by decide +kernel
theorem dX4_greatestFurther_5 : decode cX4_greatestFurther 5 = .ok (.iload_n 1, 1) := by decide +kernel
theorem dX4_greatestFurther_6 : decode cX4_greatestFurther 6 = .ok (.invokevirtual 260, 3) := by decide +kernel
theorem dX4_greatestFurther_9 : decode cX4_greatestFurther 9 = .ok (.ishl, 1) := by decide +kernel
theorem dX4_greatestFurther_10 : decode cX4_greatestFurther 10 = .ok (.istore_n 3, 1) := by decide +kernel
theorem dX4_greatestFurther_11 : decode cX4_greatestFurther 11 = .ok (.ldc_w 261, 3) := by decide +kernel
theorem dX4_greatestFurther_14 : decode cX4_greatestFurther 14 = .ok (.istore 4, 2) := by decide +kernel
theorem dX4_greatestFurther_16 : decode cX4_greatestFurther 16 = .ok (.iconst 1, 1) := by decide +kernel
theorem dX4_greatestFurther_17 : decode cX4_greatestFurther 17 = .ok (.istore 5, 2) := by decide +kernel
theorem dX4_greatestFurther_19 : decode cX4_greatestFurther 19 = .ok (.iload 5, 2) := by decide +kernel
theorem dX4_greatestFurther_21 : decode cX4_greatestFurther 21 = .ok (.iload_n 3, 1) := by decide +kernel
theorem dX4_greatestFurther_22 : decode cX4_greatestFurther 22 = .ok (.if_icmp .ge 106, 3) := by decide +kernel
theorem dX4_greatestFurther_25 : decode cX4_greatestFurther 25 = .ok (.iconst 0, 1) := by decide +kernel
theorem dX4_greatestFurther_26 : decode cX4_greatestFurther 26 = .ok (.istore 6, 2) := by decide +kernel
theorem dX4_greatestFurther_28 : decode cX4_greatestFurther 28 = .ok (.iconst 0, 1) := by decide +kernel
theorem dX4_greatestFurther_29 : decode cX4_greatestFurther 29 = .ok (.istore 7, 2) := by decide +kernel
theorem dX4_greatestFurther_31 : decode cX4_greatestFurther 31 = .ok (.iconst 0, 1) := by decide +kernel
theorem dX4_greatestFurther_32 : decode cX4_greatestFurther 32 = .ok (.istore 8, 2) := by decide +kernel
theorem dX4_greatestFurther_34 : decode cX4_greatestFurther 34 = .ok (.iload 8, 2) := by decide +kernel
theorem dX4_greatestFurther_36 : decode cX4_greatestFurther 36 = .ok (.aload_n 0, 1) := by decide +kernel
theorem dX4_greatestFurther_37 : decode cX4_greatestFurther 37 = .ok (.getfield 12, 3) := by decide +kernel
theorem dX4_greatestFurther_40 : decode cX4_greatestFurther 40 = .ok (.iload_n 1, 1) := by decide +kernel
theorem dX4_greatestFurther_41 : decode cX4_greatestFurther 41 = .ok (.invokevirtual 260, 3) := by decide +kernel
theorem dX4_greatestFurther_44 : decode cX4_greatestFurther 44 = .ok (.if_icmp .ge 54, 3) := by decide +kernel
theorem dX4_greatestFurther_47 : decode cX4_greatestFurther 47 = .ok (.iload 5, 2) := by decide +kernel
theorem dX4_greatestFurther_49 : decode cX4_greatestFurther 49 = .ok (.iload 8, 2) := by decide +kernel
theorem dX4_greatestFurther_51 : decode cX4_greatestFurther 51 = .ok (.invokestatic 262, 3) := by decide +kernel
theorem dX4_greatestFurther_54 : decode cX4_greatestFurther 54 = .ok (.ifCond .eq 38, 3) := by decide +kernel
theorem dX4_greatestFurther_57 : decode cX4_greatestFurther 57 = .ok (.iload 6, 2) := by decide +kernel
theorem dX4_greatestFurther_59 : decode cX4_greatestFurther 59 = .ok (.aload_n 0, 1) := by decide +kernel
theorem dX4_greatestFurther_60 : decode cX4_greatestFurther 60 = .ok (.aload_n 0, 1) := by decide +kernel
theorem dX4_greatestFurther_61 : decode cX4_greatestFurther 61 = .ok (.getfield 12, 3) := by decide +kernel
theorem dX4_greatestFurther_64 : decode cX4_greatestFurther 64 = .ok (.iload_n 1, 1) := by decide +kernel
theorem dX4_greatestFurther_65 : decode cX4_greatestFurther 65 = .ok (.iload 8, 2) := by decide +kernel
theorem dX4_greatestFurther_67 : decode cX4_greatestFurther 67 = .ok (.invokevirtual 197, 3) := by decide +kernel
theorem dX4_greatestFurther_70 : decode cX4_greatestFurther 70 = .ok (.iload_n 2, 1) := by decide +kernel
theorem dX4_greatestFurther_71 : decode cX4_greatestFurther 71 = .ok (.invokevirtual 161, 3) := by decide +kernel
theorem dX4_greatestFurther_74 : decode cX4_greatestFurther 74 = .ok (.ior, 1) := by decide +kernel
theorem dX4_greatestFurther_75 : decode cX4_greatestFurther 75 = .ok (.istore 6, 2) := by decide +kernel
theorem dX4_greatestFurther_77 : decode cX4_greatestFurther 77 = .ok (.iload 7, 2) := by decide +kernel
theorem dX4_greatestFurther_79 : decode cX4_greatestFurther 79 = .ok (.aload_n 0, 1) := by decide +kernel
theorem dX4_greatestFurther_80 : decode cX4_greatestFurther 80 = .ok (.getfield 12, 3) := by decide +kernel
theorem dX4_greatestFurther_83 : decode cX4_greatestFurther 83 = .ok (.iload_n 1, 1) := by decide +kernel
theorem dX4_greatestFurther_84 : decode cX4_greatestFurther 84 = .ok (.iload 8, 2) := by decide +kernel
theorem dX4_greatestFurther_86 : decode cX4_greatestFurther 86 = .ok (.invokevirtual 265, 3) := by decide +kernel
theorem dX4_greatestFurther_89 : decode cX4_greatestFurther 89 = .ok (.iadd, 1) := by decide +kernel
theorem dX4_greatestFurther_90 : decode cX4_greatestFurther 90 = .ok (.istore 7, 2) := by decide +kernel
theorem dX4_greatestFurther_92 : decode cX4_greatestFurther 92 = .ok (.iinc 8 1, 3) := by decide +kernel
theorem dX4_greatestFurther_95 : decode cX4_greatestFurther 95 = .ok (.goto (-61), 3) := by decide +kernel
theorem dX4_greatestFurther_98 : decode cX4_greatestFurther 98 = .ok (.iload 7, 2) := by decide +kernel
theorem dX4_greatestFurther_100 : decode cX4_greatestFurther 100 = .ok (.ifCond .le 22, 3) := by decide +kernel
theorem dX4_greatestFurther_103 : decode cX4_greatestFurther 103 = .ok (.iload 4, 2) := by decide +kernel
theorem dX4_greatestFurther_105 : decode cX4_greatestFurther 105 = .ok (.aload_n 0, 1) := by decide +kernel
theorem dX4_greatestFurther_106 : decode cX4_greatestFurther 106 = .ok (.getfield 33, 3) := by decide +kernel
theorem dX4_greatestFurther_109 : decode cX4_greatestFurther 109 = .ok (.iload 6, 2) := by decide +kernel
theorem dX4_greatestFurther_111 : decode cX4_greatestFurther 111 = .ok (.invokevirtual 268, 3) := by decide +kernel
theorem dX4_greatestFurther_114 : decode cX4_greatestFurther 114 = .ok (.iload 7, 2) := by decide +kernel
theorem dX4_greatestFurther_116 : decode cX4_greatestFurther 116 = .ok (.idiv, 1) := by decide +kernel
theorem dX4_greatestFurther_117 : decode cX4_greatestFurther 117 = .ok (.invokestatic 271, 3) := by decide +kernel
theorem dX4_greatestFurther_120 : decode cX4_greatestFurther 120 = .ok (.istore 4, 2) := by decide +kernel
theorem dX4_greatestFurther_122 : decode cX4_greatestFurther 122 = .ok (.iinc 5 1, 3) := by decide +kernel
theorem dX4_greatestFurther_125 : decode cX4_greatestFurther 125 = .ok (.goto (-106), 3) := by decide +kernel
theorem dX4_greatestFurther_128 : decode cX4_greatestFurther 128 = .ok (.iload 4, 2) := by decide +kernel
theorem dX4_greatestFurther_130 : decode cX4_greatestFurther 130 = .ok (.ireturn, 1) := by decide +kernel
theorem dX4_usableFor_0 : decode cX4_usableFor 0 = .ok (.iconst 0, 1) := by decide +kernel
theorem dX4_usableFor_1 : decode cX4_usableFor 1 = .ok (.istore_n 3, 1) := by decide +kernel
theorem dX4_usableFor_2 : decode cX4_usableFor 2 = .ok (.iconst 0, 1) := by decide +kernel
theorem dX4_usableFor_3 : decode cX4_usableFor 3 = .ok (.istore 4, 2) := by decide +kernel
theorem dX4_usableFor_5 : decode cX4_usableFor 5 = .ok (.iload 4, 2) := by decide +kernel
theorem dX4_usableFor_7 : decode cX4_usableFor 7 = .ok (.aload_n 0, 1) := by decide +kernel
theorem dX4_usableFor_8 : decode cX4_usableFor 8 = .ok (.getfield 19, 3) := by decide +kernel
theorem dX4_usableFor_11 : decode cX4_usableFor 11 = .ok (.getfield 52, 3) := by decide +kernel
theorem dX4_usableFor_14 : decode cX4_usableFor 14 = .ok (.if_icmp .ge 75, 3) := by decide +kernel
theorem dX4_usableFor_17 : decode cX4_usableFor 17 = .ok (.aload_n 0, 1) := by decide +kernel
theorem dX4_usableFor_18 : decode cX4_usableFor 18 = .ok (.getfield 19, 3) := by decide +kernel
theorem dX4_usableFor_21 : decode cX4_usableFor 21 = .ok (.getfield 276, 3) := by decide +kernel
theorem dX4_usableFor_24 : decode cX4_usableFor 24 = .ok (.iload 4, 2) := by decide +kernel
theorem dX4_usableFor_26 : decode cX4_usableFor 26 = .ok (.iaload, 1) := by decide +kernel
theorem dX4_usableFor_27 : decode cX4_usableFor 27 = .ok (.istore 5, 2) := by decide +kernel
theorem dX4_usableFor_29 : decode cX4_usableFor 29 = .ok (.iload_n 2, 1) := by decide +kernel
theorem dX4_usableFor_30 : decode cX4_usableFor 30 = .ok (.aload_n 0, 1) := by decide +kernel
theorem dX4_usableFor_31 : decode cX4_usableFor 31 = .ok (.getfield 19, 3) := by decide +kernel
theorem dX4_usableFor_34 : decode cX4_usableFor 34 = .ok (.getfield 83, 3) := by decide +kernel
theorem dX4_usableFor_37 : decode cX4_usableFor 37 = .ok (.iload 4, 2) := by decide +kernel
theorem dX4_usableFor_39 : decode cX4_usableFor 39 = .ok (.iaload, 1) := by decide +kernel
theorem dX4_usableFor_40 : decode cX4_usableFor 40 = .ok (.isub, 1) := by decide +kernel
theorem dX4_usableFor_41 : decode cX4_usableFor 41 = .ok (.istore 6, 2) := by decide +kernel
theorem dX4_usableFor_43 : decode cX4_usableFor 43 = .ok (.aload_n 0, 1) := by decide +kernel
theorem dX4_usableFor_44 : decode cX4_usableFor 44 = .ok (.getfield 12, 3) := by decide +kernel
theorem dX4_usableFor_47 : decode cX4_usableFor 47 = .ok (.iload 5, 2) := by decide +kernel
theorem dX4_usableFor_49 : decode cX4_usableFor 49 = .ok (.iload_n 1, 1) := by decide +kernel
theorem dX4_usableFor_50 : decode cX4_usableFor 50 = .ok (.invokevirtual 277, 3) := by decide +kernel
theorem dX4_usableFor_53 : decode cX4_usableFor 53 = .ok (.ifCond .eq 30, 3) := by decide +kernel
theorem dX4_usableFor_56 : decode cX4_usableFor 56 = .ok (.iload 6, 2) := by decide +kernel
theorem dX4_usableFor_58 : decode cX4_usableFor 58 = .ok (.ifCond .lt 25, 3) := by decide +kernel
theorem dX4_usableFor_61 : decode cX4_usableFor 61 = .ok (.iload 6, 2) := by decide +kernel
theorem dX4_usableFor_63 : decode cX4_usableFor 63 = .ok (.aload_n 0, 1) := by decide +kernel
theorem dX4_usableFor_64 : decode cX4_usableFor 64 = .ok (.getfield 12, 3) := by decide +kernel
theorem dX4_usableFor_67 : decode cX4_usableFor 67 = .ok (.getfield 89, 3) := by decide +kernel
theorem dX4_usableFor_70 : decode cX4_usableFor 70 = .ok (.iload 5, 2) := by decide +kernel
theorem dX4_usableFor_72 : decode cX4_usableFor 72 = .ok (.iaload, 1) := by decide +kernel
theorem dX4_usableFor_73 : decode cX4_usableFor 73 = .ok (.if_icmp .gt 10, 3) := by decide +kernel
theorem dX4_usableFor_76 : decode cX4_usableFor 76 = .ok (.iload_n 3, 1) := by decide +kernel
theorem dX4_usableFor_77 : decode cX4_usableFor 77 = .ok (.iconst 1, 1) := by decide +kernel
theorem dX4_usableFor_78 : decode cX4_usableFor 78 = .ok (.iload 4, 2) := by decide +kernel
theorem dX4_usableFor_80 : decode cX4_usableFor 80 = .ok (.ishl, 1) := by decide +kernel
theorem dX4_usableFor_81 : decode cX4_usableFor 81 = .ok (.ior, 1) := by decide +kernel
theorem dX4_usableFor_82 : decode cX4_usableFor 82 = .ok (.istore_n 3, 1) := by decide +kernel
theorem dX4_usableFor_83 : decode cX4_usableFor 83 = .ok (.iinc 4 1, 3) := by decide +kernel
theorem dX4_usableFor_86 : decode cX4_usableFor 86 = .ok (.goto (-81), 3) := by decide +kernel
theorem dX4_usableFor_89 : decode cX4_usableFor 89 = .ok (.iload_n 3, 1) := by decide +kernel
theorem dX4_usableFor_90 : decode cX4_usableFor 90 = .ok (.ireturn, 1) := by decide +kernel
theorem dX4_takesFrom_0 : decode cX4_takesFrom 0 = .ok (.iconst 0, 1) := by decide +kernel
theorem dX4_takesFrom_1 : decode cX4_takesFrom 1 = .ok (.istore_n 3, 1) := by decide +kernel
theorem dX4_takesFrom_2 : decode cX4_takesFrom 2 = .ok (.iload_n 3, 1) := by decide +kernel
theorem dX4_takesFrom_3 : decode cX4_takesFrom 3 = .ok (.aload_n 0, 1) := by decide +kernel
theorem dX4_takesFrom_4 : decode cX4_takesFrom 4 = .ok (.iload_n 1, 1) := by decide +kernel
theorem dX4_takesFrom_5 : decode cX4_takesFrom 5 = .ok (.invokevirtual 186, 3) := by decide +kernel
theorem dX4_takesFrom_8 : decode cX4_takesFrom 8 = .ok (.if_icmp .ge 27, 3) := by decide +kernel
theorem dX4_takesFrom_11 : decode cX4_takesFrom 11 = .ok (.aload_n 0, 1) := by decide +kernel
theorem dX4_takesFrom_12 : decode cX4_takesFrom 12 = .ok (.getfield 33, 3) := by decide +kernel
theorem dX4_takesFrom_15 : decode cX4_takesFrom 15 = .ok (.iload_n 1, 1) := by decide +kernel
theorem dX4_takesFrom_16 : decode cX4_takesFrom 16 = .ok (.iload_n 3, 1) := by decide +kernel
theorem dX4_takesFrom_17 : decode cX4_takesFrom 17 = .ok (.invokestatic 189, 3) := by decide +kernel
theorem dX4_takesFrom_20 : decode cX4_takesFrom 20 = .ok (.iload_n 2, 1) := by decide +kernel
theorem dX4_takesFrom_21 : decode cX4_takesFrom 21 = .ok (.invokevirtual 280, 3) := by decide +kernel
theorem dX4_takesFrom_24 : decode cX4_takesFrom 24 = .ok (.ifCond .eq 5, 3) := by decide +kernel
theorem dX4_takesFrom_27 : decode cX4_takesFrom 27 = .ok (.iconst 1, 1) := by decide +kernel
theorem dX4_takesFrom_28 : decode cX4_takesFrom 28 = .ok (.ireturn, 1) := by decide +kernel
theorem dX4_takesFrom_29 : decode cX4_takesFrom 29 = .ok (.iinc 3 1, 3) := by decide +kernel
theorem dX4_takesFrom_32 : decode cX4_takesFrom 32 = .ok (.goto (-30), 3) := by decide +kernel
theorem dX4_takesFrom_35 : decode cX4_takesFrom 35 = .ok (.iconst 0, 1) := by decide +kernel
theorem dX4_takesFrom_36 : decode cX4_takesFrom 36 = .ok (.ireturn, 1) := by decide +kernel
theorem dX4_demandsOf_0 : decode cX4_demandsOf 0 = .ok (.aload_n 0, 1) := by decide +kernel
theorem dX4_demandsOf_1 : decode cX4_demandsOf 1 = .ok (.getfield 12, 3) := by decide +kernel
theorem dX4_demandsOf_4 : decode cX4_demandsOf 4 = .ok (.aload_n 0, 1) := by decide +kernel
theorem dX4_demandsOf_5 : decode cX4_demandsOf 5 = .ok (.getfield 26, 3) := by decide +kernel
theorem dX4_demandsOf_8 : decode cX4_demandsOf 8 = .ok (.getfield 195, 3) := by decide +kernel
theorem dX4_demandsOf_11 : decode cX4_demandsOf 11 = .ok (.iload_n 1, 1) := by decide +kernel
theorem dX4_demandsOf_12 : decode cX4_demandsOf 12 = .ok (.iaload, 1) := by decide +kernel
theorem dX4_demandsOf_13 : decode cX4_demandsOf 13 = .ok (.invokevirtual 260, 3) := by decide +kernel
theorem dX4_demandsOf_16 : decode cX4_demandsOf 16 = .ok (.ireturn, 1) := by decide +kernel
theorem dX4_wantedBy_0 : decode cX4_wantedBy 0 = .ok (.aload_n 0, 1) := by decide +kernel
theorem dX4_wantedBy_1 : decode cX4_wantedBy 1 = .ok (.getfield 26, 3) := by decide +kernel
theorem dX4_wantedBy_4 : decode cX4_wantedBy 4 = .ok (.getfield 281, 3) := by decide +kernel
theorem dX4_wantedBy_7 : decode cX4_wantedBy 7 = .ok (.iload_n 1, 1) := by decide +kernel
theorem dX4_wantedBy_8 : decode cX4_wantedBy 8 = .ok (.iaload, 1) := by decide +kernel
theorem dX4_wantedBy_9 : decode cX4_wantedBy 9 = .ok (.aload_n 0, 1) := by decide +kernel
theorem dX4_wantedBy_10 : decode cX4_wantedBy 10 = .ok (.getfield 12, 3) := by decide +kernel
theorem dX4_wantedBy_13 : decode cX4_wantedBy 13 = .ok (.aload_n 0, 1) := by decide +kernel
theorem dX4_wantedBy_14 : decode cX4_wantedBy 14 = .ok (.getfield 26, 3) := by decide +kernel
theorem dX4_wantedBy_17 : decode cX4_wantedBy 17 = .ok (.getfield 195, 3) := by decide +kernel
theorem dX4_wantedBy_20 : decode cX4_wantedBy 20 = .ok (.iload_n 1, 1) := by decide +kernel
theorem dX4_wantedBy_21 : decode cX4_wantedBy 21 = .ok (.iaload, 1) := by decide +kernel
theorem dX4_wantedBy_22 : decode cX4_wantedBy 22 = .ok (.iload_n 2, 1) := by decide +kernel
theorem dX4_wantedBy_23 : decode cX4_wantedBy 23 = .ok (.invokevirtual 265, 3) := by decide +kernel
theorem dX4_wantedBy_26 : decode cX4_wantedBy 26 = .ok (.imul, 1) := by decide +kernel
theorem dX4_wantedBy_27 : decode cX4_wantedBy 27 = .ok (.ireturn, 1) := by decide +kernel
theorem dX4_allCoveredDemands_0 : decode cX4_allCoveredDemands 0 = .ok (.iconst 0, 1) := by decide +kernel
theorem dX4_allCoveredDemands_1 : decode cX4_allCoveredDemands 1 = .ok (.istore_n 1, 1) := by decide +kernel
theorem dX4_allCoveredDemands_2 : decode cX4_allCoveredDemands 2 = .ok (.iconst 0, 1) := by decide +kernel
theorem dX4_allCoveredDemands_3 : decode cX4_allCoveredDemands 3 = .ok (.istore_n 2, 1) := by decide +kernel
theorem dX4_allCoveredDemands_4 : decode cX4_allCoveredDemands 4 = .ok (.iload_n 2, 1) := by decide +kernel
theorem dX4_allCoveredDemands_5 : decode cX4_allCoveredDemands 5 = .ok (.aload_n 0, 1) := by decide +kernel
theorem dX4_allCoveredDemands_6 : decode cX4_allCoveredDemands 6 = .ok (.getfield 26, 3) := by decide +kernel
theorem dX4_allCoveredDemands_9 : decode cX4_allCoveredDemands 9 = .ok (.getfield 133, 3) := by decide +kernel
theorem dX4_allCoveredDemands_12 : decode cX4_allCoveredDemands 12 = .ok (.if_icmp .ge 47, 3) := by decide +kernel
theorem dX4_allCoveredDemands_15 : decode cX4_allCoveredDemands 15 = .ok (.aload_n 0, 1) := by decide +kernel
theorem dX4_allCoveredDemands_16 : decode cX4_allCoveredDemands 16 = .ok (.getfield 26, 3) := by decide +kernel
theorem dX4_allCoveredDemands_19 : decode cX4_allCoveredDemands 19 = .ok (.getfield 152, 3) := by decide +kernel
theorem dX4_allCoveredDemands_22 : decode cX4_allCoveredDemands 22 = .ok (.iload_n 2, 1) := by decide +kernel
theorem dX4_allCoveredDemands_23 : decode cX4_allCoveredDemands 23 = .ok (.iaload, 1) := by decide +kernel
theorem dX4_allCoveredDemands_24 : decode cX4_allCoveredDemands 24 = .ok (.ifCond .ne 29, 3) := by decide +kernel
theorem dX4_allCoveredDemands_27 : decode cX4_allCoveredDemands 27 = .ok (.iconst 0, 1) := by decide +kernel
theorem dX4_allCoveredDemands_28 : decode cX4_allCoveredDemands 28 = .ok (.istore_n 3, 1) := by decide +kernel
theorem dX4_allCoveredDemands_29 : decode cX4_allCoveredDemands 29 = .ok (.iload_n 3, 1) := by decide +kernel
theorem dX4_allCoveredDemands_30 : decode cX4_allCoveredDemands 30 = .ok (.aload_n 0, 1) := by decide +kernel
theorem dX4_allCoveredDemands_31 : decode cX4_allCoveredDemands 31 = .ok (.iload_n 2, 1) := by decide +kernel
theorem dX4_allCoveredDemands_32 : decode cX4_allCoveredDemands 32 = .ok (.invokevirtual 186, 3) := by decide +kernel
theorem dX4_allCoveredDemands_35 : decode cX4_allCoveredDemands 35 = .ok (.if_icmp .ge 18, 3) := by decide +kernel
theorem dX4_allCoveredDemands_38 : decode cX4_allCoveredDemands 38 = .ok (.iload_n 1, 1) := by decide +kernel
theorem dX4_allCoveredDemands_39 : decode cX4_allCoveredDemands 39 = .ok (.aload_n 0, 1) := by decide +kernel
theorem dX4_allCoveredDemands_40 : decode cX4_allCoveredDemands 40 = .ok (.iload_n 2, 1) := by decide +kernel
theorem dX4_allCoveredDemands_41 : decode cX4_allCoveredDemands 41 = .ok (.iload_n 3, 1) := by decide +kernel
theorem dX4_allCoveredDemands_42 : decode cX4_allCoveredDemands 42 = .ok (.invokevirtual 248, 3) := by decide +kernel
theorem dX4_allCoveredDemands_45 : decode cX4_allCoveredDemands 45 = .ok (.iadd, 1) := by decide +kernel
theorem dX4_allCoveredDemands_46 : decode cX4_allCoveredDemands 46 = .ok (.istore_n 1, 1) := by decide +kernel
theorem dX4_allCoveredDemands_47 : decode cX4_allCoveredDemands 47 = .ok (.iinc 3 1, 3) := by decide +kernel
theorem dX4_allCoveredDemands_50 : decode cX4_allCoveredDemands 50 = .ok (.goto (-21), 3) := by decide +kernel
theorem dX4_allCoveredDemands_53 : decode cX4_allCoveredDemands 53 = .ok (.iinc 2 1, 3) := by decide +kernel
theorem dX4_allCoveredDemands_56 : decode cX4_allCoveredDemands 56 = .ok (.goto (-52), 3) := by decide +kernel
theorem dX4_allCoveredDemands_59 : decode cX4_allCoveredDemands 59 = .ok (.iload_n 1, 1) := by decide +kernel
theorem dX4_allCoveredDemands_60 : decode cX4_allCoveredDemands 60 = .ok (.ireturn, 1) := by decide +kernel
theorem dX4_demandAt_0 : decode cX4_demandAt 0 = .ok (.iload_n 0, 1) := by decide +kernel
theorem dX4_demandAt_1 : decode cX4_demandAt 1 = .ok (.iconst 3, 1) := by decide +kernel
theorem dX4_demandAt_2 : decode cX4_demandAt 2 = .ok (.imul, 1) := by decide +kernel
theorem dX4_demandAt_3 : decode cX4_demandAt 3 = .ok (.iload_n 1, 1) := by decide +kernel
theorem dX4_demandAt_4 : decode cX4_demandAt 4 = .ok (.iadd, 1) := by decide +kernel
theorem dX4_demandAt_5 : decode cX4_demandAt 5 = .ok (.ireturn, 1) := by decide +kernel
theorem dX4_hasBit_0 : decode cX4_hasBit 0 = .ok (.iload_n 0, 1) := by decide +kernel
theorem dX4_hasBit_1 : decode cX4_hasBit 1 = .ok (.iload_n 1, 1) := by decide +kernel
theorem dX4_hasBit_2 : decode cX4_hasBit 2 = .ok (.ishr, 1) := by decide +kernel
theorem dX4_hasBit_3 : decode cX4_hasBit 3 = .ok (.iconst 1, 1) := by decide +kernel
theorem dX4_hasBit_4 : decode cX4_hasBit 4 = .ok (.iand, 1) := by decide +kernel
theorem dX4_hasBit_5 : decode cX4_hasBit 5 = .ok (.ifCond .eq 7, 3) := by decide +kernel
theorem dX4_hasBit_8 : decode cX4_hasBit 8 = .ok (.iconst 1, 1) := by decide +kernel
theorem dX4_hasBit_9 : decode cX4_hasBit 9 = .ok (.goto 4, 3) := by decide +kernel
theorem dX4_hasBit_12 : decode cX4_hasBit 12 = .ok (.iconst 0, 1) := by decide +kernel
theorem dX4_hasBit_13 : decode cX4_hasBit 13 = .ok (.ireturn, 1) := by decide +kernel
theorem dX5_init_0 : decode cX5_init 0 = .ok (.aload_n 0, 1) := by decide +kernel
theorem dX5_init_1 : decode cX5_init 1 = .ok (.invokespecial 1, 3) := by decide +kernel
theorem dX5_init_4 : decode cX5_init 4 = .ok (.aload_n 0, 1) := by decide +kernel
theorem dX5_init_5 : decode cX5_init 5 = .ok (.bipush 6, 2) := by decide +kernel
theorem dX5_init_7 : decode cX5_init 7 = .ok (.newarray .int, 2) := by decide +kernel
theorem dX5_init_9 : decode cX5_init 9 = .ok (.dup, 1) := by decide +kernel
theorem dX5_init_10 : decode cX5_init 10 = .ok (.iconst 0, 1) := by decide +kernel
theorem dX5_init_11 : decode cX5_init 11 = .ok (.bipush 100, 2) := by decide +kernel
theorem dX5_init_13 : decode cX5_init 13 = .ok (.iastore, 1) := by decide +kernel
theorem dX5_init_14 : decode cX5_init 14 = .ok (.dup, 1) := by decide +kernel
theorem dX5_init_15 : decode cX5_init 15 = .ok (.iconst 1, 1) := by decide +kernel
theorem dX5_init_16 : decode cX5_init 16 = .ok (.bipush 100, 2) := by decide +kernel
theorem dX5_init_18 : decode cX5_init 18 = .ok (.iastore, 1) := by decide +kernel
theorem dX5_init_19 : decode cX5_init 19 = .ok (.dup, 1) := by decide +kernel
theorem dX5_init_20 : decode cX5_init 20 = .ok (.iconst 2, 1) := by decide +kernel
theorem dX5_init_21 : decode cX5_init 21 = .ok (.bipush 100, 2) := by decide +kernel
theorem dX5_init_23 : decode cX5_init 23 = .ok (.iastore, 1) := by decide +kernel
theorem dX5_init_24 : decode cX5_init 24 = .ok (.dup, 1) := by decide +kernel
theorem dX5_init_25 : decode cX5_init 25 = .ok (.iconst 3, 1) := by decide +kernel
theorem dX5_init_26 : decode cX5_init 26 = .ok (.bipush 100, 2) := by decide +kernel
theorem dX5_init_28 : decode cX5_init 28 = .ok (.iastore, 1) := by decide +kernel
theorem dX5_init_29 : decode cX5_init 29 = .ok (.dup, 1) := by decide +kernel
theorem dX5_init_30 : decode cX5_init 30 = .ok (.iconst 4, 1) := by decide +kernel
theorem dX5_init_31 : decode cX5_init 31 = .ok (.bipush 100, 2) := by decide +kernel
theorem dX5_init_33 : decode cX5_init 33 = .ok (.iastore, 1) := by decide +kernel
theorem dX5_init_34 : decode cX5_init 34 = .ok (.dup, 1) := by decide +kernel
theorem dX5_init_35 : decode cX5_init 35 = .ok (.iconst 5, 1) := by decide +kernel
theorem dX5_init_36 : decode cX5_init 36 = .ok (.bipush 100, 2) := by decide +kernel
theorem dX5_init_38 : decode cX5_init 38 = .ok (.iastore, 1) := by decide +kernel
theorem dX5_init_39 : decode cX5_init 39 = .ok (.putfield 9, 3) := by decide +kernel
theorem dX5_init_42 : decode cX5_init 42 = .ok (.aload_n 0, 1) := by decide +kernel
theorem dX5_init_43 : decode cX5_init 43 = .ok (.bipush 6, 2) := by decide +kernel
theorem dX5_init_45 : decode cX5_init 45 = .ok (.newarray .int, 2) := by decide +kernel
theorem dX5_init_47 : decode cX5_init 47 = .ok (.putfield 13, 3) := by decide +kernel
theorem dX5_init_50 : decode cX5_init 50 = .ok (.aload_n 0, 1) := by decide +kernel
theorem dX5_init_51 : decode cX5_init 51 = .ok (.bipush 6, 2) := by decide +kernel
theorem dX5_init_53 : decode cX5_init 53 = .ok (.newarray .int, 2) := by decide +kernel
theorem dX5_init_55 : decode cX5_init 55 = .ok (.putfield 16, 3) := by decide +kernel
theorem dX5_init_58 : decode cX5_init 58 = .ok (.aload_n 0, 1) := by decide +kernel
theorem dX5_init_59 : decode cX5_init 59 = .ok (.bipush 18, 2) := by decide +kernel
theorem dX5_init_61 : decode cX5_init 61 = .ok (.newarray .int, 2) := by decide +kernel
theorem dX5_init_63 : decode cX5_init 63 = .ok (.putfield 19, 3) := by decide +kernel
theorem dX5_init_66 : decode cX5_init 66 = .ok (.aload_n 0, 1) := by decide +kernel
theorem dX5_init_67 : decode cX5_init 67 = .ok (.bipush 18, 2) := by decide +kernel
theorem dX5_init_69 : decode cX5_init 69 = .ok (.newarray .int, 2) := by decide +kernel
theorem dX5_init_71 : decode cX5_init 71 = .ok (.putfield 22, 3) := by decide +kernel
theorem dX5_init_74 : decode cX5_init 74 = .ok (.aload_n 0, 1) := by decide +kernel
theorem dX5_init_75 : decode cX5_init 75 = .ok (.bipush 10, 2) := by decide +kernel
theorem dX5_init_77 : decode cX5_init 77 = .ok (.newarray .int, 2) := by decide +kernel
theorem dX5_init_79 : decode cX5_init 79 = .ok (.putfield 25, 3) := by decide +kernel
theorem dX5_init_82 : decode cX5_init 82 = .ok (.aload_n 0, 1) := by decide +kernel
theorem dX5_init_83 : decode cX5_init 83 = .ok (.bipush 10, 2) := by decide +kernel
theorem dX5_init_85 : decode cX5_init 85 = .ok (.newarray .int, 2) := by decide +kernel
theorem dX5_init_87 : decode cX5_init 87 = .ok (.putfield 28, 3) := by decide +kernel
theorem dX5_init_90 : decode cX5_init 90 = .ok (.aload_n 0, 1) := by decide +kernel
theorem dX5_init_91 : decode cX5_init 91 = .ok (.bipush 10, 2) := by decide +kernel
theorem dX5_init_93 : decode cX5_init 93 = .ok (.newarray .int, 2) := by decide +kernel
theorem dX5_init_95 : decode cX5_init 95 = .ok (.putfield 31, 3) := by decide +kernel
theorem dX5_init_98 : decode cX5_init 98 = .ok (.aload_n 0, 1) := by decide +kernel
theorem dX5_init_99 : decode cX5_init 99 = .ok (.bipush 10, 2) := by decide +kernel
theorem dX5_init_101 : decode cX5_init 101 = .ok (.newarray .int, 2) := by decide +kernel
theorem dX5_init_103 : decode cX5_init 103 = .ok (.putfield 34, 3) := by decide +kernel
theorem dX5_init_106 : decode cX5_init 106 = .ok (.aload_n 0, 1) := by decide +kernel
theorem dX5_init_107 : decode cX5_init 107 = .ok (.bipush 10, 2) := by decide +kernel
theorem dX5_init_109 : decode cX5_init 109 = .ok (.newarray .int, 2) := by decide +kernel
theorem dX5_init_111 : decode cX5_init 111 = .ok (.putfield 37, 3) := by decide +kernel
theorem dX5_init_114 : decode cX5_init 114 = .ok (.aload_n 0, 1) := by decide +kernel
theorem dX5_init_115 : decode cX5_init 115 = .ok (.bipush 10, 2) := by decide +kernel
theorem dX5_init_117 : decode cX5_init 117 = .ok (.newarray .int, 2) := by decide +kernel
theorem dX5_init_119 : decode cX5_init 119 = .ok (.putfield 40, 3) := by decide +kernel
theorem dX5_init_122 : decode cX5_init 122 = .ok (.aload_n 0, 1) := by decide +kernel
theorem dX5_init_123 : decode cX5_init 123 = .ok (.bipush 10, 2) := by decide +kernel
theorem dX5_init_125 : decode cX5_init 125 = .ok (.newarray .int, 2) := by decide +kernel
theorem dX5_init_127 : decode cX5_init 127 = .ok (.putfield 43, 3) := by decide +kernel
theorem dX5_init_130 : decode cX5_init 130 = .ok (.aload_n 0, 1) := by decide +kernel
theorem dX5_init_131 : decode cX5_init 131 = .ok (.bipush 10, 2) := by decide +kernel
theorem dX5_init_133 : decode cX5_init 133 = .ok (.newarray .int, 2) := by decide +kernel
theorem dX5_init_135 : decode cX5_init 135 = .ok (.putfield 46, 3) := by decide +kernel
theorem dX5_init_138 : decode cX5_init 138 = .ok (.aload_n 0, 1) := by decide +kernel
theorem dX5_init_139 : decode cX5_init 139 = .ok (.bipush 10, 2) := by decide +kernel
theorem dX5_init_141 : decode cX5_init 141 = .ok (.newarray .int, 2) := by decide +kernel
theorem dX5_init_143 : decode cX5_init 143 = .ok (.putfield 49, 3) := by decide +kernel
theorem dX5_init_146 : decode cX5_init 146 = .ok (.aload_n 0, 1) := by decide +kernel
theorem dX5_init_147 : decode cX5_init 147 = .ok (.bipush 40, 2) := by decide +kernel
theorem dX5_init_149 : decode cX5_init 149 = .ok (.newarray .int, 2) := by decide +kernel
theorem dX5_init_151 : decode cX5_init 151 = .ok (.putfield 52, 3) := by decide +kernel
theorem dX5_init_154 : decode cX5_init 154 = .ok (.aload_n 0, 1) := by decide +kernel
theorem dX5_init_155 : decode cX5_init 155 = .ok (.bipush 40, 2) := by decide +kernel
theorem dX5_init_157 : decode cX5_init 157 = .ok (.newarray .int, 2) := by decide +kernel
theorem dX5_init_159 : decode cX5_init 159 = .ok (.putfield 55, 3) := by decide +kernel
theorem dX5_init_162 : decode cX5_init 162 = .ok (.aload_n 0, 1) := by decide +kernel
theorem dX5_init_163 : decode cX5_init 163 = .ok (.bipush 40, 2) := by decide +kernel
theorem dX5_init_165 : decode cX5_init 165 = .ok (.newarray .long, 2) := by decide +kernel
theorem dX5_init_167 : decode cX5_init 167 = .ok (.putfield 58, 3) := by decide +kernel
theorem dX5_init_170 : decode cX5_init 170 = .ok (.aload_n 0, 1) := by decide +kernel
theorem dX5_init_171 : decode cX5_init 171 = .ok (.bipush 40, 2) := by decide +kernel
theorem dX5_init_173 : decode cX5_init 173 = .ok (.newarray .int, 2) := by decide +kernel
theorem dX5_init_175 : decode cX5_init 175 = .ok (.putfield 62, 3) := by decide +kernel
theorem dX5_init_178 : decode cX5_init 178 = .ok (.aload_n 0, 1) := by decide +kernel
theorem dX5_init_179 : decode cX5_init 179 = .ok (.bipush 10, 2) := by decide +kernel
theorem dX5_init_181 : decode cX5_init 181 = .ok (.newarray .long, 2) := by decide +kernel
theorem dX5_init_183 : decode cX5_init 183 = .ok (.putfield 65, 3) := by decide +kernel
theorem dX5_init_186 : decode cX5_init 186 = .ok (.aload_n 0, 1) := by decide +kernel
theorem dX5_init_187 : decode cX5_init 187 = .ok (.sipush 400, 3) := by decide +kernel
theorem dX5_init_190 : decode cX5_init 190 = .ok (.newarray .int, 2) := by decide +kernel
theorem dX5_init_192 : decode cX5_init 192 = .ok (.putfield 68, 3) := by decide +kernel
theorem dX5_init_195 : decode cX5_init 195 = .ok (.aload_n 0, 1) := by decide +kernel
theorem dX5_init_196 : decode cX5_init 196 = .ok (.sipush 400, 3) := by decide +kernel
theorem dX5_init_199 : decode cX5_init 199 = .ok (.newarray .int, 2) := by decide +kernel
theorem dX5_init_201 : decode cX5_init 201 = .ok (.putfield 71, 3) := by decide +kernel
theorem dX5_init_204 : decode cX5_init 204 = .ok (.aload_n 0, 1) := by decide +kernel
theorem dX5_init_205 : decode cX5_init 205 = .ok (.sipush 400, 3) := by decide +kernel
theorem dX5_init_208 : decode cX5_init 208 = .ok (.newarray .int, 2) := by decide +kernel
theorem dX5_init_210 : decode cX5_init 210 = .ok (.putfield 74, 3) := by decide +kernel
theorem dX5_init_213 : decode cX5_init 213 = .ok (.aload_n 0, 1) := by decide +kernel
theorem dX5_init_214 : decode cX5_init 214 = .ok (.sipush 400, 3) := by decide +kernel
theorem dX5_init_217 : decode cX5_init 217 = .ok (.newarray .int, 2) := by decide +kernel
theorem dX5_init_219 : decode cX5_init 219 = .ok (.putfield 77, 3) := by decide +kernel
theorem dX5_init_222 : decode cX5_init 222 = .ok (.aload_n 0, 1) := by decide +kernel
theorem dX5_init_223 : decode cX5_init 223 = .ok (.sipush 400, 3) := by decide +kernel
theorem dX5_init_226 : decode cX5_init 226 = .ok (.newarray .int, 2) := by decide +kernel
theorem dX5_init_228 : decode cX5_init 228 = .ok (.putfield 80, 3) := by decide +kernel
theorem dX5_init_231 : decode cX5_init 231 = .ok (.return_, 1) := by decide +kernel
theorem dX5_thrown_0 : decode cX5_thrown 0 = .ok (.aload_n 0, 1) := by decide +kernel
theorem dX5_thrown_1 : decode cX5_thrown 1 = .ok (.getfield 83, 3) := by decide +kernel
theorem dX5_thrown_4 : decode cX5_thrown 4 = .ok (.ireturn, 1) := by decide +kernel
theorem dX5_in_0 : decode cX5_in 0 = .ok (.iload_n 0, 1) := by decide +kernel
theorem dX5_in_1 : decode cX5_in 1 = .ok (.iload_n 1, 1) := by decide +kernel
theorem dX5_in_2 : decode cX5_in 2 = .ok (.if_icmp .lt 12, 3) := by decide +kernel
theorem dX5_in_5 : decode cX5_in 5 = .ok (.iload_n 0, 1) := by decide +kernel
theorem dX5_in_6 : decode cX5_in 6 = .ok (.iload_n 2, 1) := by decide +kernel
theorem dX5_in_7 : decode cX5_in 7 = .ok (.if_icmp .gt 7, 3) := by decide +kernel
theorem dX5_in_10 : decode cX5_in 10 = .ok (.iconst 1, 1) := by decide +kernel
theorem dX5_in_11 : decode cX5_in 11 = .ok (.goto 4, 3) := by decide +kernel
theorem dX5_in_14 : decode cX5_in 14 = .ok (.iconst 0, 1) := by decide +kernel
theorem dX5_in_15 : decode cX5_in 15 = .ok (.ireturn, 1) := by decide +kernel
theorem dX5_isGood_0 : decode cX5_isGood 0 = .ok (.iload_n 0, 1) := by decide +kernel
theorem dX5_isGood_1 : decode cX5_isGood 1 = .ok (.iconst 0, 1) := by decide +kernel
theorem dX5_isGood_2 : decode cX5_isGood 2 = .ok (.iconst 5, 1) := by decide +kernel
theorem dX5_isGood_3 : decode cX5_isGood 3 = .ok (.invokestatic 87, 3) := by decide +kernel
theorem dX5_isGood_6 : decode cX5_isGood 6 = .ok (.ireturn, 1) := by decide +kernel
theorem dX5_isKit_0 : decode cX5_isKit 0 = .ok (.aload_n 0, 1) := by decide +kernel
theorem dX5_isKit_1 : decode cX5_isKit 1 = .ok (.getfield 16, 3) := by decide +kernel
theorem dX5_isKit_4 : decode cX5_isKit 4 = .ok (.iload_n 1, 1) := by decide +kernel
theorem dX5_isKit_5 : decode cX5_isKit 5 = .ok (.iaload, 1) := by decide +kernel
theorem dX5_isKit_6 : decode cX5_isKit 6 = .ok (.ifCond .le 7, 3) := by decide +kernel
theorem dX5_isKit_9 : decode cX5_isKit 9 = .ok (.iconst 1, 1) := by decide +kernel
theorem dX5_isKit_10 : decode cX5_isKit 10 = .ok (.goto 4, 3) := by decide +kernel
theorem dX5_isKit_13 : decode cX5_isKit 13 = .ok (.iconst 0, 1) := by decide +kernel
theorem dX5_isKit_14 : decode cX5_isKit 14 = .ok (.ireturn, 1) := by decide +kernel
theorem dX5_isPart_0 : decode cX5_isPart 0 = .ok (.iconst 0, 1) := by decide +kernel
theorem dX5_isPart_1 : decode cX5_isPart 1 = .ok (.istore_n 2, 1) := by decide +kernel
theorem dX5_isPart_2 : decode cX5_isPart 2 = .ok (.iconst 0, 1) := by decide +kernel
theorem dX5_isPart_3 : decode cX5_isPart 3 = .ok (.istore_n 3, 1) := by decide +kernel
theorem dX5_isPart_4 : decode cX5_isPart 4 = .ok (.iload_n 3, 1) := by decide +kernel
theorem dX5_isPart_5 : decode cX5_isPart 5 = .ok (.bipush 6, 2) := by decide +kernel
theorem dX5_isPart_7 : decode cX5_isPart 7 = .ok (.if_icmp .ge 54, 3) := by decide +kernel
theorem dX5_isPart_10 : decode cX5_isPart 10 = .ok (.iconst 0, 1) := by decide +kernel
theorem dX5_isPart_11 : decode cX5_isPart 11 = .ok (.istore 4, 2) := by decide +kernel
theorem dX5_isPart_13 : decode cX5_isPart 13 = .ok (.iload 4, 2) := by decide +kernel
theorem dX5_isPart_15 : decode cX5_isPart 15 = .ok (.aload_n 0, 1) := by decide +kernel
theorem dX5_isPart_16 : decode cX5_isPart 16 = .ok (.getfield 16, 3) := by decide +kernel
theorem dX5_isPart_19 : decode cX5_isPart 19 = .ok (.iload_n 3, 1) := by decide +kernel
theorem dX5_isPart_20 : decode cX5_isPart 20 = .ok (.iaload, 1) := by decide +kernel
theorem dX5_isPart_21 : decode cX5_isPart 21 = .ok (.if_icmp .ge 34, 3) := by decide +kernel
theorem dX5_isPart_24 : decode cX5_isPart 24 = .ok (.iload_n 2, 1) := by decide +kernel
theorem dX5_isPart_25 : decode cX5_isPart 25 = .ok (.ifCond .ne 18, 3) := by decide +kernel
theorem dX5_isPart_28 : decode cX5_isPart 28 = .ok (.aload_n 0, 1) := by decide +kernel
theorem dX5_isPart_29 : decode cX5_isPart 29 = .ok (.getfield 19, 3) := by decide +kernel
theorem dX5_isPart_32 : decode cX5_isPart 32 = .ok (.iconst 3, 1) := by decide +kernel
theorem dX5_isPart_33 : decode cX5_isPart 33 = .ok (.iload_n 3, 1) := by decide +kernel
theorem dX5_isPart_34 : decode cX5_isPart 34 = .ok (.imul, 1) := by decide +kernel
theorem dX5_isPart_35 : decode cX5_isPart 35 = .ok (.iload 4, 2) := by decide +kernel
theorem dX5_isPart_37 : decode cX5_isPart 37 = .ok (.iadd, 1) := by decide +kernel
theorem dX5_isPart_38 : decode cX5_isPart 38 = .ok (.iaload, 1) := by decide +kernel
theorem dX5_isPart_39 : decode cX5_isPart 39 = .ok (.iload_n 1, 1) := by decide +kernel
theorem dX5_isPart_40 : decode cX5_isPart 40 = .ok (.if_icmp .ne 7, 3) := by decide +kernel
theorem dX5_isPart_43 : decode cX5_isPart 43 = .ok (.iconst 1, 1) := by decide +kernel
theorem dX5_isPart_44 : decode cX5_isPart 44 = .ok (.goto 4, 3) := by decide +kernel
theorem dX5_isPart_47 : decode cX5_isPart 47 = .ok (.iconst 0, 1) := by decide +kernel
theorem dX5_isPart_48 : decode cX5_isPart 48 = .ok (.istore_n 2, 1) := by decide +kernel
theorem dX5_isPart_49 : decode cX5_isPart 49 = .ok (.iinc 4 1, 3) := by decide +kernel
theorem dX5_isPart_52 : decode cX5_isPart 52 = .ok (.goto (-39), 3) := by decide +kernel
theorem dX5_isPart_55 : decode cX5_isPart 55 = .ok (.iinc 3 1, 3) := by decide +kernel
theorem dX5_isPart_58 : decode cX5_isPart 58 = .ok (.goto (-54), 3) := by decide +kernel
theorem dX5_isPart_61 : decode cX5_isPart 61 = .ok (.iload_n 2, 1) := by decide +kernel
theorem dX5_isPart_62 : decode cX5_isPart 62 = .ok (.ireturn, 1) := by decide +kernel
theorem dX5_usable_0 : decode cX5_usable 0 = .ok (.iconst 0, 1) := by decide +kernel
theorem dX5_usable_1 : decode cX5_usable 1 = .ok (.istore_n 3, 1) := by decide +kernel
theorem dX5_usable_2 : decode cX5_usable 2 = .ok (.iconst 0, 1) := by decide +kernel
theorem dX5_usable_3 : decode cX5_usable 3 = .ok (.istore 4, 2) := by decide +kernel
theorem dX5_usable_5 : decode cX5_usable 5 = .ok (.iload 4, 2) := by decide +kernel
theorem dX5_usable_7 : decode cX5_usable 7 = .ok (.aload_n 0, 1) := by decide +kernel
theorem dX5_usable_8 : decode cX5_usable 8 = .ok (.getfield 91, 3) := by decide +kernel
theorem dX5_usable_11 : decode cX5_usable 11 = .ok (.if_icmp .ge 94, 3) := by decide +kernel
theorem dX5_usable_14 : decode cX5_usable 14 = .ok (.aload_n 0, 1) := by decide +kernel
theorem dX5_usable_15 : decode cX5_usable 15 = .ok (.getfield 28, 3) := by decide +kernel
theorem dX5_usable_18 : decode cX5_usable 18 = .ok (.iload 4, 2) := by decide +kernel
theorem dX5_usable_20 : decode cX5_usable 20 = .ok (.iaload, 1) := by decide +kernel
theorem dX5_usable_21 : decode cX5_usable 21 = .ok (.iload_n 1, 1) := by decide +kernel
theorem dX5_usable_22 : decode cX5_usable 22 = .ok (.if_icmp .eq 23, 3) := by decide +kernel
theorem dX5_usable_25 : decode cX5_usable 25 = .ok (.aload_n 0, 1) := by decide +kernel
theorem dX5_usable_26 : decode cX5_usable 26 = .ok (.getfield 13, 3) := by decide +kernel
theorem dX5_usable_29 : decode cX5_usable 29 = .ok (.iload_n 1, 1) := by decide +kernel
theorem dX5_usable_30 : decode cX5_usable 30 = .ok (.iaload, 1) := by decide +kernel
theorem dX5_usable_31 : decode cX5_usable 31 = .ok (.aload_n 0, 1) := by decide +kernel
theorem dX5_usable_32 : decode cX5_usable 32 = .ok (.getfield 28, 3) := by decide +kernel
theorem dX5_usable_35 : decode cX5_usable 35 = .ok (.iload 4, 2) := by decide +kernel
theorem dX5_usable_37 : decode cX5_usable 37 = .ok (.iaload, 1) := by decide +kernel
theorem dX5_usable_38 : decode cX5_usable 38 = .ok (.ishr, 1) := by decide +kernel
theorem dX5_usable_39 : decode cX5_usable 39 = .ok (.iconst 1, 1) := by decide +kernel
theorem dX5_usable_40 : decode cX5_usable 40 = .ok (.iand, 1) := by decide +kernel
theorem dX5_usable_41 : decode cX5_usable 41 = .ok (.iconst 1, 1) := by decide +kernel
theorem dX5_usable_42 : decode cX5_usable 42 = .ok (.if_icmp .ne 7, 3) := by decide +kernel
theorem dX5_usable_45 : decode cX5_usable 45 = .ok (.iconst 1, 1) := by decide +kernel
theorem dX5_usable_46 : decode cX5_usable 46 = .ok (.goto 4, 3) := by decide +kernel
theorem dX5_usable_49 : decode cX5_usable 49 = .ok (.iconst 0, 1) := by decide +kernel
theorem dX5_usable_50 : decode cX5_usable 50 = .ok (.istore 5, 2) := by decide +kernel
theorem dX5_usable_52 : decode cX5_usable 52 = .ok (.iload 5, 2) := by decide +kernel
theorem dX5_usable_54 : decode cX5_usable 54 = .ok (.ifCond .eq 45, 3) := by decide +kernel
theorem dX5_usable_57 : decode cX5_usable 57 = .ok (.aload_n 0, 1) := by decide +kernel
theorem dX5_usable_58 : decode cX5_usable 58 = .ok (.getfield 25, 3) := by decide +kernel
theorem dX5_usable_61 : decode cX5_usable 61 = .ok (.iload 4, 2) := by decide +kernel
theorem dX5_usable_63 : decode cX5_usable 63 = .ok (.iaload, 1) := by decide +kernel
theorem dX5_usable_64 : decode cX5_usable 64 = .ok (.iload_n 2, 1) := by decide +kernel
theorem dX5_usable_65 : decode cX5_usable 65 = .ok (.if_icmp .gt 34, 3) := by decide +kernel
theorem dX5_usable_68 : decode cX5_usable 68 = .ok (.iload_n 2, 1) := by decide +kernel
theorem dX5_usable_69 : decode cX5_usable 69 = .ok (.aload_n 0, 1) := by decide +kernel
theorem dX5_usable_70 : decode cX5_usable 70 = .ok (.getfield 25, 3) := by decide +kernel
theorem dX5_usable_73 : decode cX5_usable 73 = .ok (.iload 4, 2) := by decide +kernel
theorem dX5_usable_75 : decode cX5_usable 75 = .ok (.iaload, 1) := by decide +kernel
theorem dX5_usable_76 : decode cX5_usable 76 = .ok (.aload_n 0, 1) := by decide +kernel
theorem dX5_usable_77 : decode cX5_usable 77 = .ok (.getfield 9, 3) := by decide +kernel
theorem dX5_usable_80 : decode cX5_usable 80 = .ok (.aload_n 0, 1) := by decide +kernel
theorem dX5_usable_81 : decode cX5_usable 81 = .ok (.getfield 28, 3) := by decide +kernel
theorem dX5_usable_84 : decode cX5_usable 84 = .ok (.iload 4, 2) := by decide +kernel
theorem dX5_usable_86 : decode cX5_usable 86 = .ok (.iaload, 1) := by decide +kernel
theorem dX5_usable_87 : decode cX5_usable 87 = .ok (.iaload, 1) := by decide +kernel
theorem dX5_usable_88 : decode cX5_usable 88 = .ok (.iadd, 1) := by decide +kernel
theorem dX5_usable_89 : decode cX5_usable 89 = .ok (.if_icmp .gt 10, 3) := by decide +kernel
theorem dX5_usable_92 : decode cX5_usable 92 = .ok (.iload_n 3, 1) := by decide +kernel
theorem dX5_usable_93 : decode cX5_usable 93 = .ok (.iconst 1, 1) := by decide +kernel
theorem dX5_usable_94 : decode cX5_usable 94 = .ok (.iload 4, 2) := by decide +kernel
theorem dX5_usable_96 : decode cX5_usable 96 = .ok (.ishl, 1) := by decide +kernel
theorem dX5_usable_97 : decode cX5_usable 97 = .ok (.ior, 1) := by decide +kernel
theorem dX5_usable_98 : decode cX5_usable 98 = .ok (.istore_n 3, 1) := by decide +kernel
theorem dX5_usable_99 : decode cX5_usable 99 = .ok (.iinc 4 1, 3) := by decide +kernel
theorem dX5_usable_102 : decode cX5_usable 102 = .ok (.goto (-97), 3) := by decide +kernel
theorem dX5_usable_105 : decode cX5_usable 105 = .ok (.iload_n 3, 1) := by decide +kernel
theorem dX5_usable_106 : decode cX5_usable 106 = .ok (.ireturn, 1) := by decide +kernel
theorem dX5_addDemand_0 : decode cX5_addDemand 0 = .ok (.aload_n 0, 1) := by decide +kernel
theorem dX5_addDemand_1 : decode cX5_addDemand 1 = .ok (.getfield 52, 3) := by decide +kernel
theorem dX5_addDemand_4 : decode cX5_addDemand 4 = .ok (.aload_n 0, 1) := by decide +kernel
theorem dX5_addDemand_5 : decode cX5_addDemand 5 = .ok (.getfield 94, 3) := by decide +kernel
theorem dX5_addDemand_8 : decode cX5_addDemand 8 = .ok (.iload_n 1, 1) := by decide +kernel
theorem dX5_addDemand_9 : decode cX5_addDemand 9 = .ok (.iastore, 1) := by decide +kernel
theorem dX5_addDemand_10 : decode cX5_addDemand 10 = .ok (.aload_n 0, 1) := by decide +kernel
theorem dX5_addDemand_11 : decode cX5_addDemand 11 = .ok (.getfield 55, 3) := by decide +kernel
theorem dX5_addDemand_14 : decode cX5_addDemand 14 = .ok (.aload_n 0, 1) := by decide +kernel
theorem dX5_addDemand_15 : decode cX5_addDemand 15 = .ok (.getfield 94, 3) := by decide +kernel
theorem dX5_addDemand_18 : decode cX5_addDemand 18 = .ok (.iload_n 2, 1) := by decide +kernel
theorem dX5_addDemand_19 : decode cX5_addDemand 19 = .ok (.iastore, 1) := by decide +kernel
theorem dX5_addDemand_20 : decode cX5_addDemand 20 = .ok (.aload_n 0, 1) := by decide +kernel
theorem dX5_addDemand_21 : decode cX5_addDemand 21 = .ok (.getfield 58, 3) := by decide +kernel
theorem dX5_addDemand_24 : decode cX5_addDemand 24 = .ok (.aload_n 0, 1) := by decide +kernel
theorem dX5_addDemand_25 : decode cX5_addDemand 25 = .ok (.getfield 94, 3) := by decide +kernel
theorem dX5_addDemand_28 : decode cX5_addDemand 28 = .ok (.lload_n 3, 1) := by decide +kernel
theorem dX5_addDemand_29 : decode cX5_addDemand 29 = .ok (.lastore, 1) := by decide +kernel
theorem dX5_addDemand_30 : decode cX5_addDemand 30 = .ok (.aload_n 0, 1) := by decide +kernel
theorem dX5_addDemand_31 : decode cX5_addDemand 31 = .ok (.getfield 62, 3) := by decide +kernel
theorem dX5_addDemand_34 : decode cX5_addDemand 34 = .ok (.aload_n 0, 1) := by decide +kernel
theorem dX5_addDemand_35 : decode cX5_addDemand 35 = .ok (.getfield 94, 3) := by decide +kernel
theorem dX5_addDemand_38 : decode cX5_addDemand 38 = .ok (.aload_n 0, 1) := by decide +kernel
theorem dX5_addDemand_39 : decode cX5_addDemand 39 = .ok (.iload_n 2, 1) := by decide +kernel
theorem dX5_addDemand_40 : decode cX5_addDemand 40 = .ok (.iload 5, 2) := by decide +kernel
theorem dX5_addDemand_42 : decode cX5_addDemand 42 = .ok (.invokevirtual 97, 3) := by decide +kernel
theorem dX5_addDemand_45 : decode cX5_addDemand 45 = .ok (.iastore, 1) := by decide +kernel
theorem dX5_addDemand_46 : decode cX5_addDemand 46 = .ok (.aload_n 0, 1) := by decide +kernel
theorem dX5_addDemand_47 : decode cX5_addDemand 47 = .ok (.dup, 1) := by decide +kernel
theorem dX5_addDemand_48 : decode cX5_addDemand 48 = .ok (.getfield 94, 3) := by decide +kernel
theorem dX5_addDemand_51 : decode cX5_addDemand 51 = .ok (.iconst 1, 1) := by decide +kernel
theorem dX5_addDemand_52 : decode cX5_addDemand 52 = .ok (.iadd, 1) := by decide +kernel
theorem dX5_addDemand_53 : decode cX5_addDemand 53 = .ok (.putfield 94, 3) := by decide +kernel
theorem dX5_addDemand_56 : decode cX5_addDemand 56 = .ok (.return_, 1) := by decide +kernel
theorem dX5_addOrder_0 : decode cX5_addOrder 0 = .ok (.aload_n 0, 1) := by decide +kernel
theorem dX5_addOrder_1 : decode cX5_addOrder 1 = .ok (.iload_n 2, 1) := by decide +kernel
theorem dX5_addOrder_2 : decode cX5_addOrder 2 = .ok (.invokevirtual 101, 3) := by decide +kernel
theorem dX5_addOrder_5 : decode cX5_addOrder 5 = .ok (.ifCond .ne 14, 3) := by decide +kernel
theorem dX5_addOrder_8 : decode cX5_addOrder 8 = .ok (.aload_n 0, 1) := by decide +kernel
theorem dX5_addOrder_9 : decode cX5_addOrder 9 = .ok (.iload_n 1, 1) := by decide +kernel
theorem dX5_addOrder_10 : decode cX5_addOrder 10 = .ok (.iload_n 2, 1) := by decide +kernel
theorem dX5_addOrder_11 : decode cX5_addOrder 11 = .ok (.iload_n 3, 1) := by decide +kernel
theorem dX5_addOrder_12 : decode cX5_addOrder 12 = .ok (.i2l, 1) := by decide +kernel
theorem dX5_addOrder_13 : decode cX5_addOrder 13 = .ok (.iload 4, 2) := by decide +kernel
theorem dX5_addOrder_15 : decode cX5_addOrder 15 = .ok (.invokevirtual 105, 3) := by decide +kernel
theorem dX5_addOrder_18 : decode cX5_addOrder 18 = .ok (.return_, 1) := by decide +kernel
theorem dX5_addOrder_19 : decode cX5_addOrder 19 = .ok (.iconst 0, 1) := by decide +kernel
theorem dX5_addOrder_20 : decode cX5_addOrder 20 = .ok (.istore 5, 2) := by decide +kernel
theorem dX5_addOrder_22 : decode cX5_addOrder 22 = .ok (.iload 5, 2) := by decide +kernel
theorem dX5_addOrder_24 : decode cX5_addOrder 24 = .ok (.aload_n 0, 1) := by decide +kernel
theorem dX5_addOrder_25 : decode cX5_addOrder 25 = .ok (.getfield 16, 3) := by decide +kernel
theorem dX5_addOrder_28 : decode cX5_addOrder 28 = .ok (.iload_n 2, 1) := by decide +kernel
theorem dX5_addOrder_29 : decode cX5_addOrder 29 = .ok (.iaload, 1) := by decide +kernel
theorem dX5_addOrder_30 : decode cX5_addOrder 30 = .ok (.if_icmp .ge 42, 3) := by decide +kernel
theorem dX5_addOrder_33 : decode cX5_addOrder 33 = .ok (.aload_n 0, 1) := by decide +kernel
theorem dX5_addOrder_34 : decode cX5_addOrder 34 = .ok (.iload_n 1, 1) := by decide +kernel
theorem dX5_addOrder_35 : decode cX5_addOrder 35 = .ok (.aload_n 0, 1) := by decide +kernel
theorem dX5_addOrder_36 : decode cX5_addOrder 36 = .ok (.getfield 19, 3) := by decide +kernel
theorem dX5_addOrder_39 : decode cX5_addOrder 39 = .ok (.iconst 3, 1) := by decide +kernel
theorem dX5_addOrder_40 : decode cX5_addOrder 40 = .ok (.iload_n 2, 1) := by decide +kernel
theorem dX5_addOrder_41 : decode cX5_addOrder 41 = .ok (.imul, 1) := by decide +kernel
theorem dX5_addOrder_42 : decode cX5_addOrder 42 = .ok (.iload 5, 2) := by decide +kernel
theorem dX5_addOrder_44 : decode cX5_addOrder 44 = .ok (.iadd, 1) := by decide +kernel
theorem dX5_addOrder_45 : decode cX5_addOrder 45 = .ok (.iaload, 1) := by decide +kernel
theorem dX5_addOrder_46 : decode cX5_addOrder 46 = .ok (.iload_n 3, 1) := by decide +kernel
theorem dX5_addOrder_47 : decode cX5_addOrder 47 = .ok (.i2l, 1) := by decide +kernel
theorem dX5_addOrder_48 : decode cX5_addOrder 48 = .ok (.aload_n 0, 1) := by decide +kernel
theorem dX5_addOrder_49 : decode cX5_addOrder 49 = .ok (.getfield 22, 3) := by decide +kernel
theorem dX5_addOrder_52 : decode cX5_addOrder 52 = .ok (.iconst 3, 1) := by decide +kernel
theorem dX5_addOrder_53 : decode cX5_addOrder 53 = .ok (.iload_n 2, 1) := by decide +kernel
theorem dX5_addOrder_54 : decode cX5_addOrder 54 = .ok (.imul, 1) := by decide +kernel
theorem dX5_addOrder_55 : decode cX5_addOrder 55 = .ok (.iload 5, 2) := by decide +kernel
theorem dX5_addOrder_57 : decode cX5_addOrder 57 = .ok (.iadd, 1) := by decide +kernel
theorem dX5_addOrder_58 : decode cX5_addOrder 58 = .ok (.iaload, 1) := by decide +kernel
theorem dX5_addOrder_59 : decode cX5_addOrder 59 = .ok (.i2l, 1) := by decide +kernel
theorem dX5_addOrder_60 : decode cX5_addOrder 60 = .ok (.lmul, 1) := by decide +kernel
theorem dX5_addOrder_61 : decode cX5_addOrder 61 = .ok (.iload 4, 2) := by decide +kernel
theorem dX5_addOrder_63 : decode cX5_addOrder 63 = .ok (.invokevirtual 105, 3) := by decide +kernel
theorem dX5_addOrder_66 : decode cX5_addOrder 66 = .ok (.iinc 5 1, 3) := by decide +kernel
theorem dX5_addOrder_69 : decode cX5_addOrder 69 = .ok (.goto (-47), 3) := by decide +kernel
theorem dX5_addOrder_72 : decode cX5_addOrder 72 = .ok (.return_, 1) := by decide +kernel
theorem dX5_next_0 : decode cX5_next 0 = .ok (.iconst (-1), 1) := by decide +kernel
theorem dX5_next_1 : decode cX5_next 1 = .ok (.istore_n 3, 1) := by decide +kernel
theorem dX5_next_2 : decode cX5_next 2 = .ok (.iconst 0, 1) := by decide +kernel
theorem dX5_next_3 : decode cX5_next 3 = .ok (.istore 4, 2) := by decide +kernel
theorem dX5_next_5 : decode cX5_next 5 = .ok (.iload 4, 2) := by decide +kernel
theorem dX5_next_7 : decode cX5_next 7 = .ok (.aload_n 0, 1) := by decide +kernel
theorem dX5_next_8 : decode cX5_next 8 = .ok (.getfield 109, 3) := by decide +kernel
theorem dX5_next_11 : decode cX5_next 11 = .ok (.if_icmp .ge 116, 3) := by decide +kernel
theorem dX5_next_14 : decode cX5_next 14 = .ok (.aload_n 0, 1) := by decide +kernel
theorem dX5_next_15 : decode cX5_next 15 = .ok (.getfield 49, 3) := by decide +kernel
theorem dX5_next_18 : decode cX5_next 18 = .ok (.iload 4, 2) := by decide +kernel
theorem dX5_next_20 : decode cX5_next 20 = .ok (.iaload, 1) := by decide +kernel
theorem dX5_next_21 : decode cX5_next 21 = .ok (.iconst 2, 1) := by decide +kernel
theorem dX5_next_22 : decode cX5_next 22 = .ok (.if_icmp .eq 99, 3) := by decide +kernel
theorem dX5_next_25 : decode cX5_next 25 = .ok (.iload_n 2, 1) := by decide +kernel
theorem dX5_next_26 : decode cX5_next 26 = .ok (.ifCond .eq 16, 3) := by decide +kernel
theorem dX5_next_29 : decode cX5_next 29 = .ok (.aload_n 0, 1) := by decide +kernel
theorem dX5_next_30 : decode cX5_next 30 = .ok (.getfield 49, 3) := by decide +kernel
theorem dX5_next_33 : decode cX5_next 33 = .ok (.iload 4, 2) := by decide +kernel
theorem dX5_next_35 : decode cX5_next 35 = .ok (.iaload, 1) := by decide +kernel
theorem dX5_next_36 : decode cX5_next 36 = .ok (.ifCond .eq 6, 3) := by decide +kernel
theorem dX5_next_39 : decode cX5_next 39 = .ok (.goto 82, 3) := by decide +kernel
theorem dX5_next_42 : decode cX5_next 42 = .ok (.iload_n 1, 1) := by decide +kernel
theorem dX5_next_43 : decode cX5_next 43 = .ok (.iconst (-1), 1) := by decide +kernel
theorem dX5_next_44 : decode cX5_next 44 = .ok (.if_icmp .eq 41, 3) := by decide +kernel
theorem dX5_next_47 : decode cX5_next 47 = .ok (.aload_n 0, 1) := by decide +kernel
theorem dX5_next_48 : decode cX5_next 48 = .ok (.getfield 46, 3) := by decide +kernel
theorem dX5_next_51 : decode cX5_next 51 = .ok (.iload 4, 2) := by decide +kernel
theorem dX5_next_53 : decode cX5_next 53 = .ok (.iaload, 1) := by decide +kernel
theorem dX5_next_54 : decode cX5_next 54 = .ok (.aload_n 0, 1) := by decide +kernel
theorem dX5_next_55 : decode cX5_next 55 = .ok (.getfield 46, 3) := by decide +kernel
theorem dX5_next_58 : decode cX5_next 58 = .ok (.iload_n 1, 1) := by decide +kernel
theorem dX5_next_59 : decode cX5_next 59 = .ok (.iaload, 1) := by decide +kernel
theorem dX5_next_60 : decode cX5_next 60 = .ok (.if_icmp .gt 25, 3) := by decide +kernel
theorem dX5_next_63 : decode cX5_next 63 = .ok (.aload_n 0, 1) := by decide +kernel
theorem dX5_next_64 : decode cX5_next 64 = .ok (.getfield 46, 3) := by decide +kernel
theorem dX5_next_67 : decode cX5_next 67 = .ok (.iload 4, 2) := by decide +kernel
theorem dX5_next_69 : decode cX5_next 69 = .ok (.iaload, 1) := by decide +kernel
theorem dX5_next_70 : decode cX5_next 70 = .ok (.aload_n 0, 1) := by decide +kernel
theorem dX5_next_71 : decode cX5_next 71 = .ok (.getfield 46, 3) := by decide +kernel
theorem dX5_next_74 : decode cX5_next 74 = .ok (.iload_n 1, 1) := by decide +kernel
theorem dX5_next_75 : decode cX5_next 75 = .ok (.iaload, 1) := by decide +kernel
theorem dX5_next_76 : decode cX5_next 76 = .ok (.if_icmp .ne 13, 3) := by decide +kernel
theorem dX5_next_79 : decode cX5_next 79 = .ok (.iload 4, 2) := by decide +kernel
theorem dX5_next_81 : decode cX5_next 81 = .ok (.iload_n 1, 1) := by decide +kernel
theorem dX5_next_82 : decode cX5_next 82 = .ok (.if_icmp .le 7, 3) := by decide +kernel
theorem dX5_next_85 : decode cX5_next 85 = .ok (.iconst 1, 1) := by decide +kernel
theorem dX5_next_86 : decode cX5_next 86 = .ok (.goto 4, 3) := by decide +kernel
theorem dX5_next_89 : decode cX5_next 89 = .ok (.iconst 0, 1) := by decide +kernel
theorem dX5_next_90 : decode cX5_next 90 = .ok (.istore 5, 2) := by decide +kernel
theorem dX5_next_92 : decode cX5_next 92 = .ok (.iload 5, 2) := by decide +kernel
theorem dX5_next_94 : decode cX5_next 94 = .ok (.ifCond .eq 27, 3) := by decide +kernel
theorem dX5_next_97 : decode cX5_next 97 = .ok (.iload_n 3, 1) := by decide +kernel
theorem dX5_next_98 : decode cX5_next 98 = .ok (.iconst (-1), 1) := by decide +kernel
theorem dX5_next_99 : decode cX5_next 99 = .ok (.if_icmp .eq 19, 3) := by decide +kernel
theorem dX5_next_102 : decode cX5_next 102 = .ok (.aload_n 0, 1) := by decide +kernel
theorem dX5_next_103 : decode cX5_next 103 = .ok (.getfield 46, 3) := by decide +kernel
theorem dX5_next_106 : decode cX5_next 106 = .ok (.iload 4, 2) := by decide +kernel
theorem dX5_next_108 : decode cX5_next 108 = .ok (.iaload, 1) := by decide +kernel
theorem dX5_next_109 : decode cX5_next 109 = .ok (.aload_n 0, 1) := by decide +kernel
theorem dX5_next_110 : decode cX5_next 110 = .ok (.getfield 46, 3) := by decide +kernel
theorem dX5_next_113 : decode cX5_next 113 = .ok (.iload_n 3, 1) := by decide +kernel
theorem dX5_next_114 : decode cX5_next 114 = .ok (.iaload, 1) := by decide +kernel
theorem dX5_next_115 : decode cX5_next 115 = .ok (.if_icmp .ge 6, 3) := by decide +kernel
theorem dX5_next_118 : decode cX5_next 118 = .ok (.iload 4, 2) := by decide +kernel
theorem dX5_next_120 : decode cX5_next 120 = .ok (.istore_n 3, 1) := by decide +kernel
theorem dX5_next_121 : decode cX5_next 121 = .ok (.iinc 4 1, 3) := by decide +kernel
theorem dX5_next_124 : decode cX5_next 124 = .ok (.goto (-119), 3) := by decide +kernel
theorem dX5_next_127 : decode cX5_next 127 = .ok (.iload_n 3, 1) := by decide +kernel
theorem dX5_next_128 : decode cX5_next 128 = .ok (.ireturn, 1) := by decide +kernel
theorem dX5_collect_0 : decode cX5_collect 0 = .ok (.aload_n 0, 1) := by decide +kernel
theorem dX5_collect_1 : decode cX5_collect 1 = .ok (.iconst 0, 1) := by decide +kernel
theorem dX5_collect_2 : decode cX5_collect 2 = .ok (.putfield 94, 3) := by decide +kernel
theorem dX5_collect_5 : decode cX5_collect 5 = .ok (.aload_n 0, 1) := by decide +kernel
theorem dX5_collect_6 : decode cX5_collect 6 = .ok (.iconst (-1), 1) := by decide +kernel
theorem dX5_collect_7 : decode cX5_collect 7 = .ok (.iconst 1, 1) := by decide +kernel
theorem dX5_collect_8 : decode cX5_collect 8 = .ok (.invokevirtual 112, 3) := by decide +kernel
theorem dX5_collect_11 : decode cX5_collect 11 = .ok (.istore_n 1, 1) := by decide +kernel
theorem dX5_collect_12 : decode cX5_collect 12 = .ok (.iload_n 1, 1) := by decide +kernel
theorem dX5_collect_13 : decode cX5_collect 13 = .ok (.iconst (-1), 1) := by decide +kernel
theorem dX5_collect_14 : decode cX5_collect 14 = .ok (.if_icmp .eq 36, 3) := by decide +kernel
theorem dX5_collect_17 : decode cX5_collect 17 = .ok (.aload_n 0, 1) := by decide +kernel
theorem dX5_collect_18 : decode cX5_collect 18 = .ok (.iload_n 1, 1) := by decide +kernel
theorem dX5_collect_19 : decode cX5_collect 19 = .ok (.aload_n 0, 1) := by decide +kernel
theorem dX5_collect_20 : decode cX5_collect 20 = .ok (.getfield 40, 3) := by decide +kernel
theorem dX5_collect_23 : decode cX5_collect 23 = .ok (.iload_n 1, 1) := by decide +kernel
theorem dX5_collect_24 : decode cX5_collect 24 = .ok (.iaload, 1) := by decide +kernel
theorem dX5_collect_25 : decode cX5_collect 25 = .ok (.aload_n 0, 1) := by decide +kernel
theorem dX5_collect_26 : decode cX5_collect 26 = .ok (.getfield 43, 3) := by decide +kernel
theorem dX5_collect_29 : decode cX5_collect 29 = .ok (.iload_n 1, 1) := by decide +kernel
theorem dX5_collect_30 : decode cX5_collect 30 = .ok (.iaload, 1) := by decide +kernel
theorem dX5_collect_31 : decode cX5_collect 31 = .ok (.aload_n 0, 1) := by decide +kernel
theorem dX5_collect_32 : decode cX5_collect 32 = .ok (.getfield 37, 3) := by decide +kernel
theorem dX5_collect_35 : decode cX5_collect 35 = .ok (.iload_n 1, 1) := by decide +kernel
theorem dX5_collect_36 : decode cX5_collect 36 = .ok (.iaload, 1) := by decide +kernel
theorem dX5_collect_37 : decode cX5_collect 37 = .ok (.invokevirtual 116, 3) := by decide +kernel
theorem dX5_collect_40 : decode cX5_collect 40 = .ok (.aload_n 0, 1) := by decide +kernel
theorem dX5_collect_41 : decode cX5_collect 41 = .ok (.iload_n 1, 1) := by decide +kernel
theorem dX5_collect_42 : decode cX5_collect 42 = .ok (.iconst 1, 1) := by decide +kernel
theorem dX5_collect_43 : decode cX5_collect 43 = .ok (.invokevirtual 112, 3) := by decide +kernel
theorem dX5_collect_46 : decode cX5_collect 46 = .ok (.istore_n 1, 1) := by decide +kernel
theorem dX5_collect_47 : decode cX5_collect 47 = .ok (.goto (-35), 3) := by decide +kernel
theorem dX5_collect_50 : decode cX5_collect 50 = .ok (.iconst 0, 1) := by decide +kernel
theorem dX5_collect_51 : decode cX5_collect 51 = .ok (.istore_n 1, 1) := by decide +kernel
theorem dX5_collect_52 : decode cX5_collect 52 = .ok (.iload_n 1, 1) := by decide +kernel
theorem dX5_collect_53 : decode cX5_collect 53 = .ok (.aload_n 0, 1) := by decide +kernel
theorem dX5_collect_54 : decode cX5_collect 54 = .ok (.getfield 91, 3) := by decide +kernel
theorem dX5_collect_57 : decode cX5_collect 57 = .ok (.if_icmp .ge 29, 3) := by decide +kernel
theorem dX5_collect_60 : decode cX5_collect 60 = .ok (.aload_n 0, 1) := by decide +kernel
theorem dX5_collect_61 : decode cX5_collect 61 = .ok (.getfield 65, 3) := by decide +kernel
theorem dX5_collect_64 : decode cX5_collect 64 = .ok (.iload_n 1, 1) := by decide +kernel
theorem dX5_collect_65 : decode cX5_collect 65 = .ok (.aload_n 0, 1) := by decide +kernel
theorem dX5_collect_66 : decode cX5_collect 66 = .ok (.getfield 31, 3) := by decide +kernel
theorem dX5_collect_69 : decode cX5_collect 69 = .ok (.iload_n 1, 1) := by decide +kernel
theorem dX5_collect_70 : decode cX5_collect 70 = .ok (.iaload, 1) := by decide +kernel
theorem dX5_collect_71 : decode cX5_collect 71 = .ok (.aload_n 0, 1) := by decide +kernel
theorem dX5_collect_72 : decode cX5_collect 72 = .ok (.getfield 34, 3) := by decide +kernel
theorem dX5_collect_75 : decode cX5_collect 75 = .ok (.iload_n 1, 1) := by decide +kernel
theorem dX5_collect_76 : decode cX5_collect 76 = .ok (.iaload, 1) := by decide +kernel
theorem dX5_collect_77 : decode cX5_collect 77 = .ok (.isub, 1) := by decide +kernel
theorem dX5_collect_78 : decode cX5_collect 78 = .ok (.i2l, 1) := by decide +kernel
theorem dX5_collect_79 : decode cX5_collect 79 = .ok (.lastore, 1) := by decide +kernel
theorem dX5_collect_80 : decode cX5_collect 80 = .ok (.iinc 1 1, 3) := by decide +kernel
theorem dX5_collect_83 : decode cX5_collect 83 = .ok (.goto (-31), 3) := by decide +kernel
end
section
theorem dX5_collect_86 : decode cX5_collect 86 = .ok (.return_, 1) := by decide +kernel
theorem dX5_slack_0 : decode cX5_slack 0 = .ok (.lconst 0, 1) := by decide +kernel
theorem dX5_slack_1 : decode cX5_slack 1 = .ok (.lstore_n 2, 1) := by decide +kernel
theorem dX5_slack_2 : decode cX5_slack 2 = .ok (.iconst 0, 1) := by decide +kernel
theorem dX5_slack_3 : decode cX5_slack 3 = .ok (.istore 4, 2) := by decide +kernel
theorem dX5_slack_5 : decode cX5_slack 5 = .ok (.iload 4, 2) := by decide +kernel
theorem dX5_slack_7 : decode cX5_slack 7 = .ok (.aload_n 0, 1) := by decide +kernel
theorem dX5_slack_8 : decode cX5_slack 8 = .ok (.getfield 91, 3) := by decide +kernel
theorem dX5_slack_11 : decode cX5_slack 11 = .ok (.if_icmp .ge 33, 3) := by decide +kernel
theorem dX5_slack_14 : decode cX5_slack 14 = .ok (.lload_n 2, 1) := by decide +kernel
theorem dX5_slack_15 : decode cX5_slack 15 = .ok (.iload_n 1, 1) := by decide +kernel
theorem dX5_slack_16 : decode cX5_slack 16 = .ok (.iload 4, 2) := by decide +kernel
theorem dX5_slack_18 : decode cX5_slack 18 = .ok (.ishr, 1) := by decide +kernel
theorem dX5_slack_19 : decode cX5_slack 19 = .ok (.iconst 1, 1) := by decide +kernel
theorem dX5_slack_20 : decode cX5_slack 20 = .ok (.iand, 1) := by decide +kernel
theorem dX5_slack_21 : decode cX5_slack 21 = .ok (.iconst 1, 1) := by decide +kernel
theorem dX5_slack_22 : decode cX5_slack 22 = .ok (.if_icmp .ne 13, 3) := by decide +kernel
theorem dX5_slack_25 : decode cX5_slack 25 = .ok (.aload_n 0, 1) := by decide +kernel
theorem dX5_slack_26 : decode cX5_slack 26 = .ok (.getfield 65, 3) := by decide +kernel
theorem dX5_slack_29 : decode cX5_slack 29 = .ok (.iload 4, 2) := by decide +kernel
theorem dX5_slack_31 : decode cX5_slack 31 = .ok (.laload, 1) := by decide +kernel
theorem dX5_slack_32 : decode cX5_slack 32 = .ok (.goto 4, 3) := by decide +kernel
theorem dX5_slack_35 : decode cX5_slack 35 = .ok (.lconst 0, 1) := by decide +kernel
theorem dX5_slack_36 : decode cX5_slack 36 = .ok (.ladd, 1) := by decide +kernel
theorem dX5_slack_37 : decode cX5_slack 37 = .ok (.lstore_n 2, 1) := by decide +kernel
theorem dX5_slack_38 : decode cX5_slack 38 = .ok (.iinc 4 1, 3) := by decide +kernel
theorem dX5_slack_41 : decode cX5_slack 41 = .ok (.goto (-36), 3) := by decide +kernel
theorem dX5_slack_44 : decode cX5_slack 44 = .ok (.iconst 0, 1) := by decide +kernel
theorem dX5_slack_45 : decode cX5_slack 45 = .ok (.istore 4, 2) := by decide +kernel
theorem dX5_slack_47 : decode cX5_slack 47 = .ok (.iload 4, 2) := by decide +kernel
theorem dX5_slack_49 : decode cX5_slack 49 = .ok (.aload_n 0, 1) := by decide +kernel
theorem dX5_slack_50 : decode cX5_slack 50 = .ok (.getfield 94, 3) := by decide +kernel
theorem dX5_slack_53 : decode cX5_slack 53 = .ok (.if_icmp .ge 37, 3) := by decide +kernel
theorem dX5_slack_56 : decode cX5_slack 56 = .ok (.lload_n 2, 1) := by decide +kernel
theorem dX5_slack_57 : decode cX5_slack 57 = .ok (.aload_n 0, 1) := by decide +kernel
theorem dX5_slack_58 : decode cX5_slack 58 = .ok (.getfield 62, 3) := by decide +kernel
theorem dX5_slack_61 : decode cX5_slack 61 = .ok (.iload 4, 2) := by decide +kernel
theorem dX5_slack_63 : decode cX5_slack 63 = .ok (.iaload, 1) := by decide +kernel
theorem dX5_slack_64 : decode cX5_slack 64 = .ok (.iload_n 1, 1) := by decide +kernel
theorem dX5_slack_65 : decode cX5_slack 65 = .ok (.iconst (-1), 1) := by decide +kernel
theorem dX5_slack_66 : decode cX5_slack 66 = .ok (.ixor, 1) := by decide +kernel
theorem dX5_slack_67 : decode cX5_slack 67 = .ok (.iand, 1) := by decide +kernel
theorem dX5_slack_68 : decode cX5_slack 68 = .ok (.ifCond .ne 13, 3) := by decide +kernel
theorem dX5_slack_71 : decode cX5_slack 71 = .ok (.aload_n 0, 1) := by decide +kernel
theorem dX5_slack_72 : decode cX5_slack 72 = .ok (.getfield 58, 3) := by decide +kernel
theorem dX5_slack_75 : decode cX5_slack 75 = .ok (.iload 4, 2) := by decide +kernel
theorem dX5_slack_77 : decode cX5_slack 77 = .ok (.laload, 1) := by decide +kernel
theorem dX5_slack_78 : decode cX5_slack 78 = .ok (.goto 4, 3) := by decide +kernel
theorem dX5_slack_81 : decode cX5_slack 81 = .ok (.lconst 0, 1) := by decide +kernel
theorem dX5_slack_82 : decode cX5_slack 82 = .ok (.lsub, 1) := by decide +kernel
theorem dX5_slack_83 : decode cX5_slack 83 = .ok (.lstore_n 2, 1) := by decide +kernel
theorem dX5_slack_84 : decode cX5_slack 84 = .ok (.iinc 4 1, 3) := by decide +kernel
theorem dX5_slack_87 : decode cX5_slack 87 = .ok (.goto (-40), 3) := by decide +kernel
theorem dX5_slack_90 : decode cX5_slack 90 = .ok (.lload_n 2, 1) := by decide +kernel
theorem dX5_slack_91 : decode cX5_slack 91 = .ok (.lreturn, 1) := by decide +kernel
theorem dX5_canBeMet_0 : decode cX5_canBeMet 0 = .ok (.iconst 0, 1) := by decide +kernel
theorem dX5_canBeMet_1 : decode cX5_canBeMet 1 = .ok (.istore_n 1, 1) := by decide +kernel
theorem dX5_canBeMet_2 : decode cX5_canBeMet 2 = .ok (.iload_n 1, 1) := by decide +kernel
theorem dX5_canBeMet_3 : decode cX5_canBeMet 3 = .ok (.iconst 1, 1) := by decide +kernel
theorem dX5_canBeMet_4 : decode cX5_canBeMet 4 = .ok (.aload_n 0, 1) := by decide +kernel
theorem dX5_canBeMet_5 : decode cX5_canBeMet 5 = .ok (.getfield 91, 3) := by decide +kernel
theorem dX5_canBeMet_8 : decode cX5_canBeMet 8 = .ok (.ishl, 1) := by decide +kernel
theorem dX5_canBeMet_9 : decode cX5_canBeMet 9 = .ok (.if_icmp .ge 21, 3) := by decide +kernel
theorem dX5_canBeMet_12 : decode cX5_canBeMet 12 = .ok (.aload_n 0, 1) := by decide +kernel
theorem dX5_canBeMet_13 : decode cX5_canBeMet 13 = .ok (.iload_n 1, 1) := by decide +kernel
theorem dX5_canBeMet_14 : decode cX5_canBeMet 14 = .ok (.invokevirtual 120, 3) := by decide +kernel
theorem dX5_canBeMet_17 : decode cX5_canBeMet 17 = .ok (.lconst 0, 1) := by decide +kernel
theorem dX5_canBeMet_18 : decode cX5_canBeMet 18 = .ok (.lcmp, 1) := by decide +kernel
theorem dX5_canBeMet_19 : decode cX5_canBeMet 19 = .ok (.ifCond .ge 5, 3) := by decide +kernel
theorem dX5_canBeMet_22 : decode cX5_canBeMet 22 = .ok (.iconst 0, 1) := by decide +kernel
theorem dX5_canBeMet_23 : decode cX5_canBeMet 23 = .ok (.ireturn, 1) := by decide +kernel
theorem dX5_canBeMet_24 : decode cX5_canBeMet 24 = .ok (.iinc 1 1, 3) := by decide +kernel
theorem dX5_canBeMet_27 : decode cX5_canBeMet 27 = .ok (.goto (-25), 3) := by decide +kernel
theorem dX5_canBeMet_30 : decode cX5_canBeMet 30 = .ok (.iconst 1, 1) := by decide +kernel
theorem dX5_canBeMet_31 : decode cX5_canBeMet 31 = .ok (.ireturn, 1) := by decide +kernel
theorem dX5_cover_0 : decode cX5_cover 0 = .ok (.aload_n 0, 1) := by decide +kernel
theorem dX5_cover_1 : decode cX5_cover 1 = .ok (.iconst 0, 1) := by decide +kernel
theorem dX5_cover_2 : decode cX5_cover 2 = .ok (.putfield 94, 3) := by decide +kernel
theorem dX5_cover_5 : decode cX5_cover 5 = .ok (.iconst 0, 1) := by decide +kernel
theorem dX5_cover_6 : decode cX5_cover 6 = .ok (.istore_n 1, 1) := by decide +kernel
theorem dX5_cover_7 : decode cX5_cover 7 = .ok (.iload_n 1, 1) := by decide +kernel
theorem dX5_cover_8 : decode cX5_cover 8 = .ok (.aload_n 0, 1) := by decide +kernel
theorem dX5_cover_9 : decode cX5_cover 9 = .ok (.getfield 91, 3) := by decide +kernel
theorem dX5_cover_12 : decode cX5_cover 12 = .ok (.if_icmp .ge 29, 3) := by decide +kernel
theorem dX5_cover_15 : decode cX5_cover 15 = .ok (.aload_n 0, 1) := by decide +kernel
theorem dX5_cover_16 : decode cX5_cover 16 = .ok (.getfield 65, 3) := by decide +kernel
theorem dX5_cover_19 : decode cX5_cover 19 = .ok (.iload_n 1, 1) := by decide +kernel
theorem dX5_cover_20 : decode cX5_cover 20 = .ok (.aload_n 0, 1) := by decide +kernel
theorem dX5_cover_21 : decode cX5_cover 21 = .ok (.getfield 31, 3) := by decide +kernel
theorem dX5_cover_24 : decode cX5_cover 24 = .ok (.iload_n 1, 1) := by decide +kernel
theorem dX5_cover_25 : decode cX5_cover 25 = .ok (.iaload, 1) := by decide +kernel
theorem dX5_cover_26 : decode cX5_cover 26 = .ok (.aload_n 0, 1) := by decide +kernel
theorem dX5_cover_27 : decode cX5_cover 27 = .ok (.getfield 34, 3) := by decide +kernel
theorem dX5_cover_30 : decode cX5_cover 30 = .ok (.iload_n 1, 1) := by decide +kernel
theorem dX5_cover_31 : decode cX5_cover 31 = .ok (.iaload, 1) := by decide +kernel
theorem dX5_cover_32 : decode cX5_cover 32 = .ok (.isub, 1) := by decide +kernel
theorem dX5_cover_33 : decode cX5_cover 33 = .ok (.i2l, 1) := by decide +kernel
theorem dX5_cover_34 : decode cX5_cover 34 = .ok (.lastore, 1) := by decide +kernel
theorem dX5_cover_35 : decode cX5_cover 35 = .ok (.iinc 1 1, 3) := by decide +kernel
theorem dX5_cover_38 : decode cX5_cover 38 = .ok (.goto (-31), 3) := by decide +kernel
theorem dX5_cover_41 : decode cX5_cover 41 = .ok (.iconst 0, 1) := by decide +kernel
theorem dX5_cover_42 : decode cX5_cover 42 = .ok (.istore_n 1, 1) := by decide +kernel
theorem dX5_cover_43 : decode cX5_cover 43 = .ok (.aload_n 0, 1) := by decide +kernel
theorem dX5_cover_44 : decode cX5_cover 44 = .ok (.iconst (-1), 1) := by decide +kernel
theorem dX5_cover_45 : decode cX5_cover 45 = .ok (.iconst 0, 1) := by decide +kernel
theorem dX5_cover_46 : decode cX5_cover 46 = .ok (.invokevirtual 112, 3) := by decide +kernel
theorem dX5_cover_49 : decode cX5_cover 49 = .ok (.istore_n 2, 1) := by decide +kernel
theorem dX5_cover_50 : decode cX5_cover 50 = .ok (.iload_n 2, 1) := by decide +kernel
theorem dX5_cover_51 : decode cX5_cover 51 = .ok (.iconst (-1), 1) := by decide +kernel
theorem dX5_cover_52 : decode cX5_cover 52 = .ok (.if_icmp .eq 93, 3) := by decide +kernel
theorem dX5_cover_55 : decode cX5_cover 55 = .ok (.aload_n 0, 1) := by decide +kernel
theorem dX5_cover_56 : decode cX5_cover 56 = .ok (.getfield 94, 3) := by decide +kernel
theorem dX5_cover_59 : decode cX5_cover 59 = .ok (.istore_n 3, 1) := by decide +kernel
theorem dX5_cover_60 : decode cX5_cover 60 = .ok (.aload_n 0, 1) := by decide +kernel
theorem dX5_cover_61 : decode cX5_cover 61 = .ok (.iload_n 2, 1) := by decide +kernel
theorem dX5_cover_62 : decode cX5_cover 62 = .ok (.aload_n 0, 1) := by decide +kernel
theorem dX5_cover_63 : decode cX5_cover 63 = .ok (.getfield 40, 3) := by decide +kernel
theorem dX5_cover_66 : decode cX5_cover 66 = .ok (.iload_n 2, 1) := by decide +kernel
theorem dX5_cover_67 : decode cX5_cover 67 = .ok (.iaload, 1) := by decide +kernel
theorem dX5_cover_68 : decode cX5_cover 68 = .ok (.aload_n 0, 1) := by decide +kernel
theorem dX5_cover_69 : decode cX5_cover 69 = .ok (.getfield 43, 3) := by decide +kernel
theorem dX5_cover_72 : decode cX5_cover 72 = .ok (.iload_n 2, 1) := by decide +kernel
theorem dX5_cover_73 : decode cX5_cover 73 = .ok (.iaload, 1) := by decide +kernel
theorem dX5_cover_74 : decode cX5_cover 74 = .ok (.aload_n 0, 1) := by decide +kernel
theorem dX5_cover_75 : decode cX5_cover 75 = .ok (.getfield 37, 3) := by decide +kernel
theorem dX5_cover_78 : decode cX5_cover 78 = .ok (.iload_n 2, 1) := by decide +kernel
theorem dX5_cover_79 : decode cX5_cover 79 = .ok (.iaload, 1) := by decide +kernel
theorem dX5_cover_80 : decode cX5_cover 80 = .ok (.invokevirtual 116, 3) := by decide +kernel
theorem dX5_cover_83 : decode cX5_cover 83 = .ok (.aload_n 0, 1) := by decide +kernel
theorem dX5_cover_84 : decode cX5_cover 84 = .ok (.invokevirtual 124, 3) := by decide +kernel
theorem dX5_cover_87 : decode cX5_cover 87 = .ok (.istore 4, 2) := by decide +kernel
theorem dX5_cover_89 : decode cX5_cover 89 = .ok (.aload_n 0, 1) := by decide +kernel
theorem dX5_cover_90 : decode cX5_cover 90 = .ok (.getfield 49, 3) := by decide +kernel
theorem dX5_cover_93 : decode cX5_cover 93 = .ok (.iload_n 2, 1) := by decide +kernel
theorem dX5_cover_94 : decode cX5_cover 94 = .ok (.iload 4, 2) := by decide +kernel
theorem dX5_cover_96 : decode cX5_cover 96 = .ok (.ifCond .eq 7, 3) := by decide +kernel
theorem dX5_cover_99 : decode cX5_cover 99 = .ok (.iconst 0, 1) := by decide +kernel
theorem dX5_cover_100 : decode cX5_cover 100 = .ok (.goto 4, 3) := by decide +kernel
theorem dX5_cover_103 : decode cX5_cover 103 = .ok (.iconst 1, 1) := by decide +kernel
theorem dX5_cover_104 : decode cX5_cover 104 = .ok (.iastore, 1) := by decide +kernel
theorem dX5_cover_105 : decode cX5_cover 105 = .ok (.aload_n 0, 1) := by decide +kernel
theorem dX5_cover_106 : decode cX5_cover 106 = .ok (.iload 4, 2) := by decide +kernel
theorem dX5_cover_108 : decode cX5_cover 108 = .ok (.ifCond .eq 10, 3) := by decide +kernel
theorem dX5_cover_111 : decode cX5_cover 111 = .ok (.aload_n 0, 1) := by decide +kernel
theorem dX5_cover_112 : decode cX5_cover 112 = .ok (.getfield 94, 3) := by decide +kernel
theorem dX5_cover_115 : decode cX5_cover 115 = .ok (.goto 4, 3) := by decide +kernel
theorem dX5_cover_118 : decode cX5_cover 118 = .ok (.iload_n 3, 1) := by decide +kernel
theorem dX5_cover_119 : decode cX5_cover 119 = .ok (.putfield 94, 3) := by decide +kernel
theorem dX5_cover_122 : decode cX5_cover 122 = .ok (.iload_n 1, 1) := by decide +kernel
theorem dX5_cover_123 : decode cX5_cover 123 = .ok (.iload 4, 2) := by decide +kernel
theorem dX5_cover_125 : decode cX5_cover 125 = .ok (.ifCond .eq 7, 3) := by decide +kernel
theorem dX5_cover_128 : decode cX5_cover 128 = .ok (.iconst 0, 1) := by decide +kernel
theorem dX5_cover_129 : decode cX5_cover 129 = .ok (.goto 4, 3) := by decide +kernel
theorem dX5_cover_132 : decode cX5_cover 132 = .ok (.iconst 1, 1) := by decide +kernel
theorem dX5_cover_133 : decode cX5_cover 133 = .ok (.iadd, 1) := by decide +kernel
theorem dX5_cover_134 : decode cX5_cover 134 = .ok (.istore_n 1, 1) := by decide +kernel
theorem dX5_cover_135 : decode cX5_cover 135 = .ok (.aload_n 0, 1) := by decide +kernel
theorem dX5_cover_136 : decode cX5_cover 136 = .ok (.iload_n 2, 1) := by decide +kernel
theorem dX5_cover_137 : decode cX5_cover 137 = .ok (.iconst 0, 1) := by decide +kernel
theorem dX5_cover_138 : decode cX5_cover 138 = .ok (.invokevirtual 112, 3) := by decide +kernel
theorem dX5_cover_141 : decode cX5_cover 141 = .ok (.istore_n 2, 1) := by decide +kernel
theorem dX5_cover_142 : decode cX5_cover 142 = .ok (.goto (-92), 3) := by decide +kernel
theorem dX5_cover_145 : decode cX5_cover 145 = .ok (.iload_n 1, 1) := by decide +kernel
theorem dX5_cover_146 : decode cX5_cover 146 = .ok (.ireturn, 1) := by decide +kernel
theorem dX5_isArrival_0 : decode cX5_isArrival 0 = .ok (.iload_n 1, 1) := by decide +kernel
theorem dX5_isArrival_1 : decode cX5_isArrival 1 = .ok (.iconst 0, 1) := by decide +kernel
theorem dX5_isArrival_2 : decode cX5_isArrival 2 = .ok (.aload_n 0, 1) := by decide +kernel
theorem dX5_isArrival_3 : decode cX5_isArrival 3 = .ok (.getfield 91, 3) := by decide +kernel
theorem dX5_isArrival_6 : decode cX5_isArrival 6 = .ok (.iconst 1, 1) := by decide +kernel
theorem dX5_isArrival_7 : decode cX5_isArrival 7 = .ok (.isub, 1) := by decide +kernel
theorem dX5_isArrival_8 : decode cX5_isArrival 8 = .ok (.invokestatic 87, 3) := by decide +kernel
theorem dX5_isArrival_11 : decode cX5_isArrival 11 = .ok (.ireturn, 1) := by decide +kernel
theorem dX5_arrival_0 : decode cX5_arrival 0 = .ok (.aload_n 0, 1) := by decide +kernel
theorem dX5_arrival_1 : decode cX5_arrival 1 = .ok (.iload_n 1, 1) := by decide +kernel
theorem dX5_arrival_2 : decode cX5_arrival 2 = .ok (.iconst 0, 1) := by decide +kernel
theorem dX5_arrival_3 : decode cX5_arrival 3 = .ok (.bipush 99, 2) := by decide +kernel
theorem dX5_arrival_5 : decode cX5_arrival 5 = .ok (.invokestatic 87, 3) := by decide +kernel
theorem dX5_arrival_8 : decode cX5_arrival 8 = .ok (.ifCond .eq 20, 3) := by decide +kernel
theorem dX5_arrival_11 : decode cX5_arrival 11 = .ok (.iload_n 2, 1) := by decide +kernel
theorem dX5_arrival_12 : decode cX5_arrival 12 = .ok (.invokestatic 128, 3) := by decide +kernel
theorem dX5_arrival_15 : decode cX5_arrival 15 = .ok (.ifCond .eq 13, 3) := by decide +kernel
theorem dX5_arrival_18 : decode cX5_arrival 18 = .ok (.iload_n 3, 1) := by decide +kernel
theorem dX5_arrival_19 : decode cX5_arrival 19 = .ok (.iconst 0, 1) := by decide +kernel
theorem dX5_arrival_20 : decode cX5_arrival 20 = .ok (.ldc 131, 2) := by decide +kernel
theorem dX5_arrival_22 : decode cX5_arrival 22 = .ok (.invokestatic 87, 3) := by decide +kernel
theorem dX5_arrival_25 : decode cX5_arrival 25 = .ok (.ifCond .ne 7, 3) := by decide +kernel
theorem dX5_arrival_28 : decode cX5_arrival 28 = .ok (.iconst 1, 1) := by decide +kernel
theorem dX5_arrival_29 : decode cX5_arrival 29 = .ok (.goto 29, 3) := by decide +kernel
theorem dX5_arrival_32 : decode cX5_arrival 32 = .ok (.aload_n 0, 1) := by decide +kernel
theorem dX5_arrival_33 : decode cX5_arrival 33 = .ok (.iload_n 2, 1) := by decide +kernel
theorem dX5_arrival_34 : decode cX5_arrival 34 = .ok (.invokevirtual 101, 3) := by decide +kernel
theorem dX5_arrival_37 : decode cX5_arrival 37 = .ok (.ifCond .eq 7, 3) := by decide +kernel
theorem dX5_arrival_40 : decode cX5_arrival 40 = .ok (.iconst 2, 1) := by decide +kernel
theorem dX5_arrival_41 : decode cX5_arrival 41 = .ok (.goto 17, 3) := by decide +kernel
theorem dX5_arrival_44 : decode cX5_arrival 44 = .ok (.aload_n 0, 1) := by decide +kernel
theorem dX5_arrival_45 : decode cX5_arrival 45 = .ok (.getfield 91, 3) := by decide +kernel
theorem dX5_arrival_48 : decode cX5_arrival 48 = .ok (.bipush 10, 2) := by decide +kernel
theorem dX5_arrival_50 : decode cX5_arrival 50 = .ok (.if_icmp .ne 7, 3) := by decide +kernel
theorem dX5_arrival_53 : decode cX5_arrival 53 = .ok (.iconst 3, 1) := by decide +kernel
theorem dX5_arrival_54 : decode cX5_arrival 54 = .ok (.goto 4, 3) := by decide +kernel
theorem dX5_arrival_57 : decode cX5_arrival 57 = .ok (.iconst 0, 1) := by decide +kernel
theorem dX5_arrival_58 : decode cX5_arrival 58 = .ok (.putfield 83, 3) := by decide +kernel
theorem dX5_arrival_61 : decode cX5_arrival 61 = .ok (.aload_n 0, 1) := by decide +kernel
theorem dX5_arrival_62 : decode cX5_arrival 62 = .ok (.getfield 83, 3) := by decide +kernel
theorem dX5_arrival_65 : decode cX5_arrival 65 = .ok (.ifCond .le 5, 3) := by decide +kernel
theorem dX5_arrival_68 : decode cX5_arrival 68 = .ok (.iconst 0, 1) := by decide +kernel
theorem dX5_arrival_69 : decode cX5_arrival 69 = .ok (.ireturn, 1) := by decide +kernel
theorem dX5_arrival_70 : decode cX5_arrival 70 = .ok (.aload_n 0, 1) := by decide +kernel
theorem dX5_arrival_71 : decode cX5_arrival 71 = .ok (.getfield 25, 3) := by decide +kernel
theorem dX5_arrival_74 : decode cX5_arrival 74 = .ok (.aload_n 0, 1) := by decide +kernel
theorem dX5_arrival_75 : decode cX5_arrival 75 = .ok (.getfield 91, 3) := by decide +kernel
theorem dX5_arrival_78 : decode cX5_arrival 78 = .ok (.iload_n 1, 1) := by decide +kernel
theorem dX5_arrival_79 : decode cX5_arrival 79 = .ok (.iastore, 1) := by decide +kernel
theorem dX5_arrival_80 : decode cX5_arrival 80 = .ok (.aload_n 0, 1) := by decide +kernel
theorem dX5_arrival_81 : decode cX5_arrival 81 = .ok (.getfield 28, 3) := by decide +kernel
theorem dX5_arrival_84 : decode cX5_arrival 84 = .ok (.aload_n 0, 1) := by decide +kernel
theorem dX5_arrival_85 : decode cX5_arrival 85 = .ok (.getfield 91, 3) := by decide +kernel
theorem dX5_arrival_88 : decode cX5_arrival 88 = .ok (.iload_n 2, 1) := by decide +kernel
theorem dX5_arrival_89 : decode cX5_arrival 89 = .ok (.iastore, 1) := by decide +kernel
theorem dX5_arrival_90 : decode cX5_arrival 90 = .ok (.aload_n 0, 1) := by decide +kernel
theorem dX5_arrival_91 : decode cX5_arrival 91 = .ok (.getfield 31, 3) := by decide +kernel
theorem dX5_arrival_94 : decode cX5_arrival 94 = .ok (.aload_n 0, 1) := by decide +kernel
theorem dX5_arrival_95 : decode cX5_arrival 95 = .ok (.getfield 91, 3) := by decide +kernel
theorem dX5_arrival_98 : decode cX5_arrival 98 = .ok (.iload_n 3, 1) := by decide +kernel
theorem dX5_arrival_99 : decode cX5_arrival 99 = .ok (.iastore, 1) := by decide +kernel
theorem dX5_arrival_100 : decode cX5_arrival 100 = .ok (.aload_n 0, 1) := by decide +kernel
theorem dX5_arrival_101 : decode cX5_arrival 101 = .ok (.getfield 34, 3) := by decide +kernel
theorem dX5_arrival_104 : decode cX5_arrival 104 = .ok (.aload_n 0, 1) := by decide +kernel
theorem dX5_arrival_105 : decode cX5_arrival 105 = .ok (.getfield 91, 3) := by decide +kernel
theorem dX5_arrival_108 : decode cX5_arrival 108 = .ok (.iconst 0, 1) := by decide +kernel
theorem dX5_arrival_109 : decode cX5_arrival 109 = .ok (.iastore, 1) := by decide +kernel
theorem dX5_arrival_110 : decode cX5_arrival 110 = .ok (.aload_n 0, 1) := by decide +kernel
theorem dX5_arrival_111 : decode cX5_arrival 111 = .ok (.dup, 1) := by decide +kernel
theorem dX5_arrival_112 : decode cX5_arrival 112 = .ok (.getfield 91, 3) := by decide +kernel
theorem dX5_arrival_115 : decode cX5_arrival 115 = .ok (.iconst 1, 1) := by decide +kernel
theorem dX5_arrival_116 : decode cX5_arrival 116 = .ok (.iadd, 1) := by decide +kernel
theorem dX5_arrival_117 : decode cX5_arrival 117 = .ok (.putfield 91, 3) := by decide +kernel
theorem dX5_arrival_120 : decode cX5_arrival 120 = .ok (.aload_n 0, 1) := by decide +kernel
theorem dX5_arrival_121 : decode cX5_arrival 121 = .ok (.invokevirtual 132, 3) := by decide +kernel
theorem dX5_arrival_124 : decode cX5_arrival 124 = .ok (.pop, 1) := by decide +kernel
theorem dX5_arrival_125 : decode cX5_arrival 125 = .ok (.aload_n 0, 1) := by decide +kernel
theorem dX5_arrival_126 : decode cX5_arrival 126 = .ok (.getfield 91, 3) := by decide +kernel
theorem dX5_arrival_129 : decode cX5_arrival 129 = .ok (.iconst 1, 1) := by decide +kernel
theorem dX5_arrival_130 : decode cX5_arrival 130 = .ok (.isub, 1) := by decide +kernel
theorem dX5_arrival_131 : decode cX5_arrival 131 = .ok (.ireturn, 1) := by decide +kernel
theorem dX5_change_0 : decode cX5_change 0 = .ok (.aload_n 0, 1) := by decide +kernel
theorem dX5_change_1 : decode cX5_change 1 = .ok (.aload_n 0, 1) := by decide +kernel
theorem dX5_change_2 : decode cX5_change 2 = .ok (.iload_n 1, 1) := by decide +kernel
theorem dX5_change_3 : decode cX5_change 3 = .ok (.invokevirtual 136, 3) := by decide +kernel
theorem dX5_change_6 : decode cX5_change 6 = .ok (.ifCond .ne 7, 3) := by decide +kernel
theorem dX5_change_9 : decode cX5_change 9 = .ok (.iconst 1, 1) := by decide +kernel
theorem dX5_change_10 : decode cX5_change 10 = .ok (.goto 42, 3) := by decide +kernel
theorem dX5_change_13 : decode cX5_change 13 = .ok (.iload_n 2, 1) := by decide +kernel
theorem dX5_change_14 : decode cX5_change 14 = .ok (.iconst 0, 1) := by decide +kernel
theorem dX5_change_15 : decode cX5_change 15 = .ok (.bipush 99, 2) := by decide +kernel
theorem dX5_change_17 : decode cX5_change 17 = .ok (.invokestatic 87, 3) := by decide +kernel
theorem dX5_change_20 : decode cX5_change 20 = .ok (.ifCond .eq 13, 3) := by decide +kernel
theorem dX5_change_23 : decode cX5_change 23 = .ok (.iload_n 3, 1) := by decide +kernel
theorem dX5_change_24 : decode cX5_change 24 = .ok (.iconst 0, 1) := by decide +kernel
theorem dX5_change_25 : decode cX5_change 25 = .ok (.ldc 131, 2) := by decide +kernel
theorem dX5_change_27 : decode cX5_change 27 = .ok (.invokestatic 87, 3) := by decide +kernel
theorem dX5_change_30 : decode cX5_change 30 = .ok (.ifCond .ne 7, 3) := by decide +kernel
theorem dX5_change_33 : decode cX5_change 33 = .ok (.iconst 2, 1) := by decide +kernel
theorem dX5_change_34 : decode cX5_change 34 = .ok (.goto 18, 3) := by decide +kernel
theorem dX5_change_37 : decode cX5_change 37 = .ok (.iload_n 3, 1) := by decide +kernel
theorem dX5_change_38 : decode cX5_change 38 = .ok (.aload_n 0, 1) := by decide +kernel
theorem dX5_change_39 : decode cX5_change 39 = .ok (.getfield 34, 3) := by decide +kernel
theorem dX5_change_42 : decode cX5_change 42 = .ok (.iload_n 1, 1) := by decide +kernel
theorem dX5_change_43 : decode cX5_change 43 = .ok (.iaload, 1) := by decide +kernel
theorem dX5_change_44 : decode cX5_change 44 = .ok (.if_icmp .ge 7, 3) := by decide +kernel
theorem dX5_change_47 : decode cX5_change 47 = .ok (.iconst 3, 1) := by decide +kernel
theorem dX5_change_48 : decode cX5_change 48 = .ok (.goto 4, 3) := by decide +kernel
theorem dX5_change_51 : decode cX5_change 51 = .ok (.iconst 0, 1) := by decide +kernel
theorem dX5_change_52 : decode cX5_change 52 = .ok (.putfield 83, 3) := by decide +kernel
theorem dX5_change_55 : decode cX5_change 55 = .ok (.aload_n 0, 1) := by decide +kernel
theorem dX5_change_56 : decode cX5_change 56 = .ok (.getfield 83, 3) := by decide +kernel
theorem dX5_change_59 : decode cX5_change 59 = .ok (.ifCond .le 5, 3) := by decide +kernel
theorem dX5_change_62 : decode cX5_change 62 = .ok (.iconst 0, 1) := by decide +kernel
theorem dX5_change_63 : decode cX5_change 63 = .ok (.ireturn, 1) := by decide +kernel
theorem dX5_change_64 : decode cX5_change 64 = .ok (.aload_n 0, 1) := by decide +kernel
theorem dX5_change_65 : decode cX5_change 65 = .ok (.getfield 25, 3) := by decide +kernel
theorem dX5_change_68 : decode cX5_change 68 = .ok (.iload_n 1, 1) := by decide +kernel
theorem dX5_change_69 : decode cX5_change 69 = .ok (.iload_n 2, 1) := by decide +kernel
theorem dX5_change_70 : decode cX5_change 70 = .ok (.iastore, 1) := by decide +kernel
theorem dX5_change_71 : decode cX5_change 71 = .ok (.aload_n 0, 1) := by decide +kernel
theorem dX5_change_72 : decode cX5_change 72 = .ok (.getfield 31, 3) := by decide +kernel
theorem dX5_change_75 : decode cX5_change 75 = .ok (.iload_n 1, 1) := by decide +kernel
theorem dX5_change_76 : decode cX5_change 76 = .ok (.iload_n 3, 1) := by decide +kernel
theorem dX5_change_77 : decode cX5_change 77 = .ok (.iastore, 1) := by decide +kernel
theorem dX5_change_78 : decode cX5_change 78 = .ok (.aload_n 0, 1) := by decide +kernel
theorem dX5_change_79 : decode cX5_change 79 = .ok (.invokevirtual 132, 3) := by decide +kernel
theorem dX5_change_82 : decode cX5_change 82 = .ok (.ireturn, 1) := by decide +kernel
theorem dX5_aside_0 : decode cX5_aside 0 = .ok (.aload_n 0, 1) := by decide +kernel
theorem dX5_aside_1 : decode cX5_aside 1 = .ok (.aload_n 0, 1) := by decide +kernel
theorem dX5_aside_2 : decode cX5_aside 2 = .ok (.iload_n 1, 1) := by decide +kernel
theorem dX5_aside_3 : decode cX5_aside 3 = .ok (.invokevirtual 136, 3) := by decide +kernel
theorem dX5_aside_6 : decode cX5_aside 6 = .ok (.ifCond .ne 7, 3) := by decide +kernel
theorem dX5_aside_9 : decode cX5_aside 9 = .ok (.iconst 1, 1) := by decide +kernel
theorem dX5_aside_10 : decode cX5_aside 10 = .ok (.goto 22, 3) := by decide +kernel
theorem dX5_aside_13 : decode cX5_aside 13 = .ok (.iload_n 2, 1) := by decide +kernel
theorem dX5_aside_14 : decode cX5_aside 14 = .ok (.iconst 0, 1) := by decide +kernel
theorem dX5_aside_15 : decode cX5_aside 15 = .ok (.aload_n 0, 1) := by decide +kernel
theorem dX5_aside_16 : decode cX5_aside 16 = .ok (.getfield 31, 3) := by decide +kernel
theorem dX5_aside_19 : decode cX5_aside 19 = .ok (.iload_n 1, 1) := by decide +kernel
theorem dX5_aside_20 : decode cX5_aside 20 = .ok (.iaload, 1) := by decide +kernel
theorem dX5_aside_21 : decode cX5_aside 21 = .ok (.invokestatic 87, 3) := by decide +kernel
theorem dX5_aside_24 : decode cX5_aside 24 = .ok (.ifCond .ne 7, 3) := by decide +kernel
theorem dX5_aside_27 : decode cX5_aside 27 = .ok (.iconst 2, 1) := by decide +kernel
theorem dX5_aside_28 : decode cX5_aside 28 = .ok (.goto 4, 3) := by decide +kernel
theorem dX5_aside_31 : decode cX5_aside 31 = .ok (.iconst 0, 1) := by decide +kernel
theorem dX5_aside_32 : decode cX5_aside 32 = .ok (.putfield 83, 3) := by decide +kernel
theorem dX5_aside_35 : decode cX5_aside 35 = .ok (.aload_n 0, 1) := by decide +kernel
theorem dX5_aside_36 : decode cX5_aside 36 = .ok (.getfield 83, 3) := by decide +kernel
theorem dX5_aside_39 : decode cX5_aside 39 = .ok (.ifCond .le 5, 3) := by decide +kernel
theorem dX5_aside_42 : decode cX5_aside 42 = .ok (.iconst 0, 1) := by decide +kernel
theorem dX5_aside_43 : decode cX5_aside 43 = .ok (.ireturn, 1) := by decide +kernel
theorem dX5_aside_44 : decode cX5_aside 44 = .ok (.aload_n 0, 1) := by decide +kernel
theorem dX5_aside_45 : decode cX5_aside 45 = .ok (.getfield 34, 3) := by decide +kernel
theorem dX5_aside_48 : decode cX5_aside 48 = .ok (.iload_n 1, 1) := by decide +kernel
theorem dX5_aside_49 : decode cX5_aside 49 = .ok (.iload_n 2, 1) := by decide +kernel
theorem dX5_aside_50 : decode cX5_aside 50 = .ok (.iastore, 1) := by decide +kernel
theorem dX5_aside_51 : decode cX5_aside 51 = .ok (.aload_n 0, 1) := by decide +kernel
theorem dX5_aside_52 : decode cX5_aside 52 = .ok (.invokevirtual 132, 3) := by decide +kernel
theorem dX5_aside_55 : decode cX5_aside 55 = .ok (.ireturn, 1) := by decide +kernel
theorem dX5_life_0 : decode cX5_life 0 = .ok (.aload_n 0, 1) := by decide +kernel
theorem dX5_life_1 : decode cX5_life 1 = .ok (.iload_n 1, 1) := by decide +kernel
theorem dX5_life_2 : decode cX5_life 2 = .ok (.invokestatic 128, 3) := by decide +kernel
theorem dX5_life_5 : decode cX5_life 5 = .ok (.ifCond .eq 17, 3) := by decide +kernel
theorem dX5_life_8 : decode cX5_life 8 = .ok (.iload_n 2, 1) := by decide +kernel
theorem dX5_life_9 : decode cX5_life 9 = .ok (.iconst 0, 1) := by decide +kernel
theorem dX5_life_10 : decode cX5_life 10 = .ok (.bipush 100, 2) := by decide +kernel
theorem dX5_life_12 : decode cX5_life 12 = .ok (.invokestatic 87, 3) := by decide +kernel
theorem dX5_life_15 : decode cX5_life 15 = .ok (.ifCond .eq 7, 3) := by decide +kernel
theorem dX5_life_18 : decode cX5_life 18 = .ok (.iconst 0, 1) := by decide +kernel
theorem dX5_life_19 : decode cX5_life 19 = .ok (.goto 4, 3) := by decide +kernel
theorem dX5_life_22 : decode cX5_life 22 = .ok (.iconst 1, 1) := by decide +kernel
theorem dX5_life_23 : decode cX5_life 23 = .ok (.putfield 83, 3) := by decide +kernel
theorem dX5_life_26 : decode cX5_life 26 = .ok (.aload_n 0, 1) := by decide +kernel
theorem dX5_life_27 : decode cX5_life 27 = .ok (.getfield 83, 3) := by decide +kernel
theorem dX5_life_30 : decode cX5_life 30 = .ok (.ifCond .le 5, 3) := by decide +kernel
theorem dX5_life_33 : decode cX5_life 33 = .ok (.iconst 0, 1) := by decide +kernel
theorem dX5_life_34 : decode cX5_life 34 = .ok (.ireturn, 1) := by decide +kernel
theorem dX5_life_35 : decode cX5_life 35 = .ok (.aload_n 0, 1) := by decide +kernel
theorem dX5_life_36 : decode cX5_life 36 = .ok (.getfield 9, 3) := by decide +kernel
theorem dX5_life_39 : decode cX5_life 39 = .ok (.iload_n 1, 1) := by decide +kernel
theorem dX5_life_40 : decode cX5_life 40 = .ok (.iload_n 2, 1) := by decide +kernel
theorem dX5_life_41 : decode cX5_life 41 = .ok (.iastore, 1) := by decide +kernel
theorem dX5_life_42 : decode cX5_life 42 = .ok (.aload_n 0, 1) := by decide +kernel
theorem dX5_life_43 : decode cX5_life 43 = .ok (.invokevirtual 132, 3) := by decide +kernel
theorem dX5_life_46 : decode cX5_life 46 = .ok (.ireturn, 1) := by decide +kernel
theorem dX5_standIn_0 : decode cX5_standIn 0 = .ok (.aload_n 0, 1) := by decide +kernel
theorem dX5_standIn_1 : decode cX5_standIn 1 = .ok (.iload_n 1, 1) := by decide +kernel
theorem dX5_standIn_2 : decode cX5_standIn 2 = .ok (.invokestatic 128, 3) := by decide +kernel
theorem dX5_standIn_5 : decode cX5_standIn 5 = .ok (.ifCond .eq 15, 3) := by decide +kernel
theorem dX5_standIn_8 : decode cX5_standIn 8 = .ok (.iload_n 2, 1) := by decide +kernel
theorem dX5_standIn_9 : decode cX5_standIn 9 = .ok (.invokestatic 128, 3) := by decide +kernel
theorem dX5_standIn_12 : decode cX5_standIn 12 = .ok (.ifCond .eq 8, 3) := by decide +kernel
theorem dX5_standIn_15 : decode cX5_standIn 15 = .ok (.iload_n 1, 1) := by decide +kernel
theorem dX5_standIn_16 : decode cX5_standIn 16 = .ok (.iload_n 2, 1) := by decide +kernel
theorem dX5_standIn_17 : decode cX5_standIn 17 = .ok (.if_icmp .ne 7, 3) := by decide +kernel
theorem dX5_standIn_20 : decode cX5_standIn 20 = .ok (.iconst 1, 1) := by decide +kernel
theorem dX5_standIn_21 : decode cX5_standIn 21 = .ok (.goto 46, 3) := by decide +kernel
theorem dX5_standIn_24 : decode cX5_standIn 24 = .ok (.aload_n 0, 1) := by decide +kernel
theorem dX5_standIn_25 : decode cX5_standIn 25 = .ok (.iload_n 1, 1) := by decide +kernel
theorem dX5_standIn_26 : decode cX5_standIn 26 = .ok (.invokevirtual 101, 3) := by decide +kernel
theorem dX5_standIn_29 : decode cX5_standIn 29 = .ok (.ifCond .ne 33, 3) := by decide +kernel
theorem dX5_standIn_32 : decode cX5_standIn 32 = .ok (.aload_n 0, 1) := by decide +kernel
theorem dX5_standIn_33 : decode cX5_standIn 33 = .ok (.iload_n 2, 1) := by decide +kernel
theorem dX5_standIn_34 : decode cX5_standIn 34 = .ok (.invokevirtual 101, 3) := by decide +kernel
theorem dX5_standIn_37 : decode cX5_standIn 37 = .ok (.ifCond .ne 25, 3) := by decide +kernel
theorem dX5_standIn_40 : decode cX5_standIn 40 = .ok (.aload_n 0, 1) := by decide +kernel
theorem dX5_standIn_41 : decode cX5_standIn 41 = .ok (.getfield 13, 3) := by decide +kernel
theorem dX5_standIn_44 : decode cX5_standIn 44 = .ok (.iload_n 2, 1) := by decide +kernel
theorem dX5_standIn_45 : decode cX5_standIn 45 = .ok (.iaload, 1) := by decide +kernel
theorem dX5_standIn_46 : decode cX5_standIn 46 = .ok (.iload_n 1, 1) := by decide +kernel
theorem dX5_standIn_47 : decode cX5_standIn 47 = .ok (.ishr, 1) := by decide +kernel
theorem dX5_standIn_48 : decode cX5_standIn 48 = .ok (.iconst 1, 1) := by decide +kernel
theorem dX5_standIn_49 : decode cX5_standIn 49 = .ok (.iand, 1) := by decide +kernel
theorem dX5_standIn_50 : decode cX5_standIn 50 = .ok (.iload_n 3, 1) := by decide +kernel
theorem dX5_standIn_51 : decode cX5_standIn 51 = .ok (.ifCond .eq 7, 3) := by decide +kernel
theorem dX5_standIn_54 : decode cX5_standIn 54 = .ok (.iconst 1, 1) := by decide +kernel
theorem dX5_standIn_55 : decode cX5_standIn 55 = .ok (.goto 4, 3) := by decide +kernel
theorem dX5_standIn_58 : decode cX5_standIn 58 = .ok (.iconst 0, 1) := by decide +kernel
theorem dX5_standIn_59 : decode cX5_standIn 59 = .ok (.if_icmp .ne 7, 3) := by decide +kernel
theorem dX5_standIn_62 : decode cX5_standIn 62 = .ok (.iconst 2, 1) := by decide +kernel
theorem dX5_standIn_63 : decode cX5_standIn 63 = .ok (.goto 4, 3) := by decide +kernel
theorem dX5_standIn_66 : decode cX5_standIn 66 = .ok (.iconst 0, 1) := by decide +kernel
theorem dX5_standIn_67 : decode cX5_standIn 67 = .ok (.putfield 83, 3) := by decide +kernel
theorem dX5_standIn_70 : decode cX5_standIn 70 = .ok (.aload_n 0, 1) := by decide +kernel
theorem dX5_standIn_71 : decode cX5_standIn 71 = .ok (.getfield 83, 3) := by decide +kernel
theorem dX5_standIn_74 : decode cX5_standIn 74 = .ok (.ifCond .le 5, 3) := by decide +kernel
theorem dX5_standIn_77 : decode cX5_standIn 77 = .ok (.iconst 0, 1) := by decide +kernel
theorem dX5_standIn_78 : decode cX5_standIn 78 = .ok (.ireturn, 1) := by decide +kernel
theorem dX5_standIn_79 : decode cX5_standIn 79 = .ok (.aload_n 0, 1) := by decide +kernel
theorem dX5_standIn_80 : decode cX5_standIn 80 = .ok (.getfield 13, 3) := by decide +kernel
theorem dX5_standIn_83 : decode cX5_standIn 83 = .ok (.iload_n 2, 1) := by decide +kernel
theorem dX5_standIn_84 : decode cX5_standIn 84 = .ok (.iload_n 3, 1) := by decide +kernel
theorem dX5_standIn_85 : decode cX5_standIn 85 = .ok (.ifCond .eq 16, 3) := by decide +kernel
theorem dX5_standIn_88 : decode cX5_standIn 88 = .ok (.aload_n 0, 1) := by decide +kernel
theorem dX5_standIn_89 : decode cX5_standIn 89 = .ok (.getfield 13, 3) := by decide +kernel
theorem dX5_standIn_92 : decode cX5_standIn 92 = .ok (.iload_n 2, 1) := by decide +kernel
theorem dX5_standIn_93 : decode cX5_standIn 93 = .ok (.iaload, 1) := by decide +kernel
theorem dX5_standIn_94 : decode cX5_standIn 94 = .ok (.iconst 1, 1) := by decide +kernel
theorem dX5_standIn_95 : decode cX5_standIn 95 = .ok (.iload_n 1, 1) := by decide +kernel
theorem dX5_standIn_96 : decode cX5_standIn 96 = .ok (.ishl, 1) := by decide +kernel
theorem dX5_standIn_97 : decode cX5_standIn 97 = .ok (.ior, 1) := by decide +kernel
theorem dX5_standIn_98 : decode cX5_standIn 98 = .ok (.goto 15, 3) := by decide +kernel
theorem dX5_standIn_101 : decode cX5_standIn 101 = .ok (.aload_n 0, 1) := by decide +kernel
theorem dX5_standIn_102 : decode cX5_standIn 102 = .ok (.getfield 13, 3) := by decide +kernel
theorem dX5_standIn_105 : decode cX5_standIn 105 = .ok (.iload_n 2, 1) := by decide +kernel
theorem dX5_standIn_106 : decode cX5_standIn 106 = .ok (.iaload, 1) := by decide +kernel
theorem dX5_standIn_107 : decode cX5_standIn 107 = .ok (.iconst 1, 1) := by decide +kernel
theorem dX5_standIn_108 : decode cX5_standIn 108 = .ok (.iload_n 1, 1) := by decide +kernel
theorem dX5_standIn_109 : decode cX5_standIn 109 = .ok (.ishl, 1) := by decide +kernel
theorem dX5_standIn_110 : decode cX5_standIn 110 = .ok (.iconst (-1), 1) := by decide +kernel
theorem dX5_standIn_111 : decode cX5_standIn 111 = .ok (.ixor, 1) := by decide +kernel
theorem dX5_standIn_112 : decode cX5_standIn 112 = .ok (.iand, 1) := by decide +kernel
theorem dX5_standIn_113 : decode cX5_standIn 113 = .ok (.iastore, 1) := by decide +kernel
theorem dX5_standIn_114 : decode cX5_standIn 114 = .ok (.aload_n 0, 1) := by decide +kernel
theorem dX5_standIn_115 : decode cX5_standIn 115 = .ok (.invokevirtual 132, 3) := by decide +kernel
theorem dX5_standIn_118 : decode cX5_standIn 118 = .ok (.ireturn, 1) := by decide +kernel
theorem dX5_isUsed_0 : decode cX5_isUsed 0 = .ok (.aload_n 0, 1) := by decide +kernel
theorem dX5_isUsed_1 : decode cX5_isUsed 1 = .ok (.getfield 13, 3) := by decide +kernel
theorem dX5_isUsed_4 : decode cX5_isUsed 4 = .ok (.iload_n 1, 1) := by decide +kernel
theorem dX5_isUsed_5 : decode cX5_isUsed 5 = .ok (.iaload, 1) := by decide +kernel
theorem dX5_isUsed_6 : decode cX5_isUsed 6 = .ok (.ifCond .eq 7, 3) := by decide +kernel
theorem dX5_isUsed_9 : decode cX5_isUsed 9 = .ok (.iconst 1, 1) := by decide +kernel
theorem dX5_isUsed_10 : decode cX5_isUsed 10 = .ok (.goto 4, 3) := by decide +kernel
theorem dX5_isUsed_13 : decode cX5_isUsed 13 = .ok (.iconst 0, 1) := by decide +kernel
theorem dX5_isUsed_14 : decode cX5_isUsed 14 = .ok (.istore_n 2, 1) := by decide +kernel
theorem dX5_isUsed_15 : decode cX5_isUsed 15 = .ok (.iconst 0, 1) := by decide +kernel
theorem dX5_isUsed_16 : decode cX5_isUsed 16 = .ok (.istore_n 3, 1) := by decide +kernel
theorem dX5_isUsed_17 : decode cX5_isUsed 17 = .ok (.iload_n 3, 1) := by decide +kernel
theorem dX5_isUsed_18 : decode cX5_isUsed 18 = .ok (.bipush 6, 2) := by decide +kernel
theorem dX5_isUsed_20 : decode cX5_isUsed 20 = .ok (.if_icmp .ge 33, 3) := by decide +kernel
theorem dX5_isUsed_23 : decode cX5_isUsed 23 = .ok (.iload_n 2, 1) := by decide +kernel
theorem dX5_isUsed_24 : decode cX5_isUsed 24 = .ok (.ifCond .ne 17, 3) := by decide +kernel
theorem dX5_isUsed_27 : decode cX5_isUsed 27 = .ok (.aload_n 0, 1) := by decide +kernel
theorem dX5_isUsed_28 : decode cX5_isUsed 28 = .ok (.getfield 13, 3) := by decide +kernel
theorem dX5_isUsed_31 : decode cX5_isUsed 31 = .ok (.iload_n 3, 1) := by decide +kernel
theorem dX5_isUsed_32 : decode cX5_isUsed 32 = .ok (.iaload, 1) := by decide +kernel
theorem dX5_isUsed_33 : decode cX5_isUsed 33 = .ok (.iload_n 1, 1) := by decide +kernel
theorem dX5_isUsed_34 : decode cX5_isUsed 34 = .ok (.ishr, 1) := by decide +kernel
theorem dX5_isUsed_35 : decode cX5_isUsed 35 = .ok (.iconst 1, 1) := by decide +kernel
theorem dX5_isUsed_36 : decode cX5_isUsed 36 = .ok (.iand, 1) := by decide +kernel
theorem dX5_isUsed_37 : decode cX5_isUsed 37 = .ok (.iconst 1, 1) := by decide +kernel
theorem dX5_isUsed_38 : decode cX5_isUsed 38 = .ok (.if_icmp .ne 7, 3) := by decide +kernel
theorem dX5_isUsed_41 : decode cX5_isUsed 41 = .ok (.iconst 1, 1) := by decide +kernel
theorem dX5_isUsed_42 : decode cX5_isUsed 42 = .ok (.goto 4, 3) := by decide +kernel
theorem dX5_isUsed_45 : decode cX5_isUsed 45 = .ok (.iconst 0, 1) := by decide +kernel
theorem dX5_isUsed_46 : decode cX5_isUsed 46 = .ok (.istore_n 2, 1) := by decide +kernel
theorem dX5_isUsed_47 : decode cX5_isUsed 47 = .ok (.iinc 3 1, 3) := by decide +kernel
theorem dX5_isUsed_50 : decode cX5_isUsed 50 = .ok (.goto (-33), 3) := by decide +kernel
theorem dX5_isUsed_53 : decode cX5_isUsed 53 = .ok (.iconst 0, 1) := by decide +kernel
theorem dX5_isUsed_54 : decode cX5_isUsed 54 = .ok (.istore_n 3, 1) := by decide +kernel
theorem dX5_isUsed_55 : decode cX5_isUsed 55 = .ok (.iload_n 3, 1) := by decide +kernel
theorem dX5_isUsed_56 : decode cX5_isUsed 56 = .ok (.aload_n 0, 1) := by decide +kernel
theorem dX5_isUsed_57 : decode cX5_isUsed 57 = .ok (.getfield 91, 3) := by decide +kernel
theorem dX5_isUsed_60 : decode cX5_isUsed 60 = .ok (.if_icmp .ge 29, 3) := by decide +kernel
theorem dX5_isUsed_63 : decode cX5_isUsed 63 = .ok (.iload_n 2, 1) := by decide +kernel
theorem dX5_isUsed_64 : decode cX5_isUsed 64 = .ok (.ifCond .ne 13, 3) := by decide +kernel
theorem dX5_isUsed_67 : decode cX5_isUsed 67 = .ok (.aload_n 0, 1) := by decide +kernel
theorem dX5_isUsed_68 : decode cX5_isUsed 68 = .ok (.getfield 28, 3) := by decide +kernel
theorem dX5_isUsed_71 : decode cX5_isUsed 71 = .ok (.iload_n 3, 1) := by decide +kernel
theorem dX5_isUsed_72 : decode cX5_isUsed 72 = .ok (.iaload, 1) := by decide +kernel
theorem dX5_isUsed_73 : decode cX5_isUsed 73 = .ok (.iload_n 1, 1) := by decide +kernel
theorem dX5_isUsed_74 : decode cX5_isUsed 74 = .ok (.if_icmp .ne 7, 3) := by decide +kernel
theorem dX5_isUsed_77 : decode cX5_isUsed 77 = .ok (.iconst 1, 1) := by decide +kernel
theorem dX5_isUsed_78 : decode cX5_isUsed 78 = .ok (.goto 4, 3) := by decide +kernel
theorem dX5_isUsed_81 : decode cX5_isUsed 81 = .ok (.iconst 0, 1) := by decide +kernel
theorem dX5_isUsed_82 : decode cX5_isUsed 82 = .ok (.istore_n 2, 1) := by decide +kernel
theorem dX5_isUsed_83 : decode cX5_isUsed 83 = .ok (.iinc 3 1, 3) := by decide +kernel
theorem dX5_isUsed_86 : decode cX5_isUsed 86 = .ok (.goto (-31), 3) := by decide +kernel
theorem dX5_isUsed_89 : decode cX5_isUsed 89 = .ok (.iconst 0, 1) := by decide +kernel
theorem dX5_isUsed_90 : decode cX5_isUsed 90 = .ok (.istore_n 3, 1) := by decide +kernel
theorem dX5_isUsed_91 : decode cX5_isUsed 91 = .ok (.iload_n 3, 1) := by decide +kernel
theorem dX5_isUsed_92 : decode cX5_isUsed 92 = .ok (.aload_n 0, 1) := by decide +kernel
theorem dX5_isUsed_93 : decode cX5_isUsed 93 = .ok (.getfield 109, 3) := by decide +kernel
theorem dX5_isUsed_96 : decode cX5_isUsed 96 = .ok (.if_icmp .ge 29, 3) := by decide +kernel
theorem dX5_isUsed_99 : decode cX5_isUsed 99 = .ok (.iload_n 2, 1) := by decide +kernel
theorem dX5_isUsed_100 : decode cX5_isUsed 100 = .ok (.ifCond .ne 13, 3) := by decide +kernel
theorem dX5_isUsed_103 : decode cX5_isUsed 103 = .ok (.aload_n 0, 1) := by decide +kernel
theorem dX5_isUsed_104 : decode cX5_isUsed 104 = .ok (.getfield 40, 3) := by decide +kernel
theorem dX5_isUsed_107 : decode cX5_isUsed 107 = .ok (.iload_n 3, 1) := by decide +kernel
theorem dX5_isUsed_108 : decode cX5_isUsed 108 = .ok (.iaload, 1) := by decide +kernel
theorem dX5_isUsed_109 : decode cX5_isUsed 109 = .ok (.iload_n 1, 1) := by decide +kernel
theorem dX5_isUsed_110 : decode cX5_isUsed 110 = .ok (.if_icmp .ne 7, 3) := by decide +kernel
theorem dX5_isUsed_113 : decode cX5_isUsed 113 = .ok (.iconst 1, 1) := by decide +kernel
theorem dX5_isUsed_114 : decode cX5_isUsed 114 = .ok (.goto 4, 3) := by decide +kernel
theorem dX5_isUsed_117 : decode cX5_isUsed 117 = .ok (.iconst 0, 1) := by decide +kernel
theorem dX5_isUsed_118 : decode cX5_isUsed 118 = .ok (.istore_n 2, 1) := by decide +kernel
theorem dX5_isUsed_119 : decode cX5_isUsed 119 = .ok (.iinc 3 1, 3) := by decide +kernel
theorem dX5_isUsed_122 : decode cX5_isUsed 122 = .ok (.goto (-31), 3) := by decide +kernel
theorem dX5_isUsed_125 : decode cX5_isUsed 125 = .ok (.iload_n 2, 1) := by decide +kernel
theorem dX5_isUsed_126 : decode cX5_isUsed 126 = .ok (.ireturn, 1) := by decide +kernel
theorem dX5_kit_0 : decode cX5_kit 0 = .ok (.aload_n 0, 1) := by decide +kernel
theorem dX5_kit_1 : decode cX5_kit 1 = .ok (.iload_n 1, 1) := by decide +kernel
theorem dX5_kit_2 : decode cX5_kit 2 = .ok (.invokestatic 128, 3) := by decide +kernel
theorem dX5_kit_5 : decode cX5_kit 5 = .ok (.ifCond .eq 20, 3) := by decide +kernel
theorem dX5_kit_8 : decode cX5_kit 8 = .ok (.iload_n 2, 1) := by decide +kernel
theorem dX5_kit_9 : decode cX5_kit 9 = .ok (.invokestatic 128, 3) := by decide +kernel
theorem dX5_kit_12 : decode cX5_kit 12 = .ok (.ifCond .eq 13, 3) := by decide +kernel
theorem dX5_kit_15 : decode cX5_kit 15 = .ok (.iload_n 3, 1) := by decide +kernel
theorem dX5_kit_16 : decode cX5_kit 16 = .ok (.iconst 1, 1) := by decide +kernel
theorem dX5_kit_17 : decode cX5_kit 17 = .ok (.bipush 100, 2) := by decide +kernel
theorem dX5_kit_19 : decode cX5_kit 19 = .ok (.invokestatic 87, 3) := by decide +kernel
theorem dX5_kit_22 : decode cX5_kit 22 = .ok (.ifCond .ne 7, 3) := by decide +kernel
theorem dX5_kit_25 : decode cX5_kit 25 = .ok (.iconst 1, 1) := by decide +kernel
theorem dX5_kit_26 : decode cX5_kit 26 = .ok (.goto 4, 3) := by decide +kernel
theorem dX5_kit_29 : decode cX5_kit 29 = .ok (.iconst 0, 1) := by decide +kernel
theorem dX5_kit_30 : decode cX5_kit 30 = .ok (.putfield 83, 3) := by decide +kernel
theorem dX5_kit_33 : decode cX5_kit 33 = .ok (.aload_n 0, 1) := by decide +kernel
theorem dX5_kit_34 : decode cX5_kit 34 = .ok (.getfield 83, 3) := by decide +kernel
theorem dX5_kit_37 : decode cX5_kit 37 = .ok (.ifCond .ne 37, 3) := by decide +kernel
theorem dX5_kit_40 : decode cX5_kit 40 = .ok (.aload_n 0, 1) := by decide +kernel
theorem dX5_kit_41 : decode cX5_kit 41 = .ok (.iload_n 2, 1) := by decide +kernel
theorem dX5_kit_42 : decode cX5_kit 42 = .ok (.invokevirtual 101, 3) := by decide +kernel
theorem dX5_kit_45 : decode cX5_kit 45 = .ok (.ifCond .ne 24, 3) := by decide +kernel
theorem dX5_kit_48 : decode cX5_kit 48 = .ok (.iload_n 2, 1) := by decide +kernel
theorem dX5_kit_49 : decode cX5_kit 49 = .ok (.iload_n 1, 1) := by decide +kernel
theorem dX5_kit_50 : decode cX5_kit 50 = .ok (.if_icmp .eq 19, 3) := by decide +kernel
theorem dX5_kit_53 : decode cX5_kit 53 = .ok (.aload_n 0, 1) := by decide +kernel
theorem dX5_kit_54 : decode cX5_kit 54 = .ok (.iload_n 1, 1) := by decide +kernel
theorem dX5_kit_55 : decode cX5_kit 55 = .ok (.invokevirtual 139, 3) := by decide +kernel
theorem dX5_kit_58 : decode cX5_kit 58 = .ok (.ifCond .ne 11, 3) := by decide +kernel
theorem dX5_kit_61 : decode cX5_kit 61 = .ok (.aload_n 0, 1) := by decide +kernel
theorem dX5_kit_62 : decode cX5_kit 62 = .ok (.iload_n 1, 1) := by decide +kernel
theorem dX5_kit_63 : decode cX5_kit 63 = .ok (.invokevirtual 142, 3) := by decide +kernel
theorem dX5_kit_66 : decode cX5_kit 66 = .ok (.ifCond .eq 8, 3) := by decide +kernel
theorem dX5_kit_69 : decode cX5_kit 69 = .ok (.aload_n 0, 1) := by decide +kernel
theorem dX5_kit_70 : decode cX5_kit 70 = .ok (.iconst 2, 1) := by decide +kernel
theorem dX5_kit_71 : decode cX5_kit 71 = .ok (.putfield 83, 3) := by decide +kernel
theorem dX5_kit_74 : decode cX5_kit 74 = .ok (.iconst 0, 1) := by decide +kernel
theorem dX5_kit_75 : decode cX5_kit 75 = .ok (.istore 4, 2) := by decide +kernel
theorem dX5_kit_77 : decode cX5_kit 77 = .ok (.aload_n 0, 1) := by decide +kernel
theorem dX5_kit_78 : decode cX5_kit 78 = .ok (.getfield 83, 3) := by decide +kernel
theorem dX5_kit_81 : decode cX5_kit 81 = .ok (.ifCond .ne 44, 3) := by decide +kernel
theorem dX5_kit_84 : decode cX5_kit 84 = .ok (.iload 4, 2) := by decide +kernel
theorem dX5_kit_86 : decode cX5_kit 86 = .ok (.aload_n 0, 1) := by decide +kernel
theorem dX5_kit_87 : decode cX5_kit 87 = .ok (.getfield 16, 3) := by decide +kernel
theorem dX5_kit_90 : decode cX5_kit 90 = .ok (.iload_n 1, 1) := by decide +kernel
theorem dX5_kit_91 : decode cX5_kit 91 = .ok (.iaload, 1) := by decide +kernel
theorem dX5_kit_92 : decode cX5_kit 92 = .ok (.if_icmp .ge 33, 3) := by decide +kernel
theorem dX5_kit_95 : decode cX5_kit 95 = .ok (.aload_n 0, 1) := by decide +kernel
theorem dX5_kit_96 : decode cX5_kit 96 = .ok (.aload_n 0, 1) := by decide +kernel
theorem dX5_kit_97 : decode cX5_kit 97 = .ok (.getfield 19, 3) := by decide +kernel
theorem dX5_kit_100 : decode cX5_kit 100 = .ok (.iconst 3, 1) := by decide +kernel
theorem dX5_kit_101 : decode cX5_kit 101 = .ok (.iload_n 1, 1) := by decide +kernel
theorem dX5_kit_102 : decode cX5_kit 102 = .ok (.imul, 1) := by decide +kernel
theorem dX5_kit_103 : decode cX5_kit 103 = .ok (.iload 4, 2) := by decide +kernel
theorem dX5_kit_105 : decode cX5_kit 105 = .ok (.iadd, 1) := by decide +kernel
theorem dX5_kit_106 : decode cX5_kit 106 = .ok (.iaload, 1) := by decide +kernel
theorem dX5_kit_107 : decode cX5_kit 107 = .ok (.iload_n 2, 1) := by decide +kernel
theorem dX5_kit_108 : decode cX5_kit 108 = .ok (.if_icmp .ne 7, 3) := by decide +kernel
theorem dX5_kit_111 : decode cX5_kit 111 = .ok (.iconst 2, 1) := by decide +kernel
theorem dX5_kit_112 : decode cX5_kit 112 = .ok (.goto 4, 3) := by decide +kernel
theorem dX5_kit_115 : decode cX5_kit 115 = .ok (.iconst 0, 1) := by decide +kernel
theorem dX5_kit_116 : decode cX5_kit 116 = .ok (.putfield 83, 3) := by decide +kernel
theorem dX5_kit_119 : decode cX5_kit 119 = .ok (.iinc 4 1, 3) := by decide +kernel
theorem dX5_kit_122 : decode cX5_kit 122 = .ok (.goto (-45), 3) := by decide +kernel
theorem dX5_kit_125 : decode cX5_kit 125 = .ok (.aload_n 0, 1) := by decide +kernel
theorem dX5_kit_126 : decode cX5_kit 126 = .ok (.getfield 83, 3) := by decide +kernel
theorem dX5_kit_129 : decode cX5_kit 129 = .ok (.ifCond .ne 18, 3) := by decide +kernel
theorem dX5_kit_132 : decode cX5_kit 132 = .ok (.aload_n 0, 1) := by decide +kernel
theorem dX5_kit_133 : decode cX5_kit 133 = .ok (.getfield 16, 3) := by decide +kernel
theorem dX5_kit_136 : decode cX5_kit 136 = .ok (.iload_n 1, 1) := by decide +kernel
theorem dX5_kit_137 : decode cX5_kit 137 = .ok (.iaload, 1) := by decide +kernel
theorem dX5_kit_138 : decode cX5_kit 138 = .ok (.iconst 3, 1) := by decide +kernel
theorem dX5_kit_139 : decode cX5_kit 139 = .ok (.if_icmp .ne 8, 3) := by decide +kernel
theorem dX5_kit_142 : decode cX5_kit 142 = .ok (.aload_n 0, 1) := by decide +kernel
theorem dX5_kit_143 : decode cX5_kit 143 = .ok (.iconst 3, 1) := by decide +kernel
theorem dX5_kit_144 : decode cX5_kit 144 = .ok (.putfield 83, 3) := by decide +kernel
theorem dX5_kit_147 : decode cX5_kit 147 = .ok (.aload_n 0, 1) := by decide +kernel
theorem dX5_kit_148 : decode cX5_kit 148 = .ok (.getfield 83, 3) := by decide +kernel
theorem dX5_kit_151 : decode cX5_kit 151 = .ok (.ifCond .le 5, 3) := by decide +kernel
theorem dX5_kit_154 : decode cX5_kit 154 = .ok (.iconst 0, 1) := by decide +kernel
theorem dX5_kit_155 : decode cX5_kit 155 = .ok (.ireturn, 1) := by decide +kernel
theorem dX5_kit_156 : decode cX5_kit 156 = .ok (.aload_n 0, 1) := by decide +kernel
theorem dX5_kit_157 : decode cX5_kit 157 = .ok (.getfield 19, 3) := by decide +kernel
theorem dX5_kit_160 : decode cX5_kit 160 = .ok (.iconst 3, 1) := by decide +kernel
theorem dX5_kit_161 : decode cX5_kit 161 = .ok (.iload_n 1, 1) := by decide +kernel
theorem dX5_kit_162 : decode cX5_kit 162 = .ok (.imul, 1) := by decide +kernel
theorem dX5_kit_163 : decode cX5_kit 163 = .ok (.aload_n 0, 1) := by decide +kernel
theorem dX5_kit_164 : decode cX5_kit 164 = .ok (.getfield 16, 3) := by decide +kernel
theorem dX5_kit_167 : decode cX5_kit 167 = .ok (.iload_n 1, 1) := by decide +kernel
theorem dX5_kit_168 : decode cX5_kit 168 = .ok (.iaload, 1) := by decide +kernel
theorem dX5_kit_169 : decode cX5_kit 169 = .ok (.iadd, 1) := by decide +kernel
theorem dX5_kit_170 : decode cX5_kit 170 = .ok (.iload_n 2, 1) := by decide +kernel
theorem dX5_kit_171 : decode cX5_kit 171 = .ok (.iastore, 1) := by decide +kernel
theorem dX5_kit_172 : decode cX5_kit 172 = .ok (.aload_n 0, 1) := by decide +kernel
theorem dX5_kit_173 : decode cX5_kit 173 = .ok (.getfield 22, 3) := by decide +kernel
theorem dX5_kit_176 : decode cX5_kit 176 = .ok (.iconst 3, 1) := by decide +kernel
theorem dX5_kit_177 : decode cX5_kit 177 = .ok (.iload_n 1, 1) := by decide +kernel
theorem dX5_kit_178 : decode cX5_kit 178 = .ok (.imul, 1) := by decide +kernel
theorem dX5_kit_179 : decode cX5_kit 179 = .ok (.aload_n 0, 1) := by decide +kernel
theorem dX5_kit_180 : decode cX5_kit 180 = .ok (.getfield 16, 3) := by decide +kernel
theorem dX5_kit_183 : decode cX5_kit 183 = .ok (.iload_n 1, 1) := by decide +kernel
theorem dX5_kit_184 : decode cX5_kit 184 = .ok (.iaload, 1) := by decide +kernel
theorem dX5_kit_185 : decode cX5_kit 185 = .ok (.iadd, 1) := by decide +kernel
theorem dX5_kit_186 : decode cX5_kit 186 = .ok (.iload_n 3, 1) := by decide +kernel
theorem dX5_kit_187 : decode cX5_kit 187 = .ok (.iastore, 1) := by decide +kernel
theorem dX5_kit_188 : decode cX5_kit 188 = .ok (.aload_n 0, 1) := by decide +kernel
theorem dX5_kit_189 : decode cX5_kit 189 = .ok (.getfield 16, 3) := by decide +kernel
theorem dX5_kit_192 : decode cX5_kit 192 = .ok (.iload_n 1, 1) := by decide +kernel
theorem dX5_kit_193 : decode cX5_kit 193 = .ok (.dup2, 1) := by decide +kernel
theorem dX5_kit_194 : decode cX5_kit 194 = .ok (.iaload, 1) := by decide +kernel
theorem dX5_kit_195 : decode cX5_kit 195 = .ok (.iconst 1, 1) := by decide +kernel
theorem dX5_kit_196 : decode cX5_kit 196 = .ok (.iadd, 1) := by decide +kernel
theorem dX5_kit_197 : decode cX5_kit 197 = .ok (.iastore, 1) := by decide +kernel
theorem dX5_kit_198 : decode cX5_kit 198 = .ok (.aload_n 0, 1) := by decide +kernel
theorem dX5_kit_199 : decode cX5_kit 199 = .ok (.getfield 16, 3) := by decide +kernel
theorem dX5_kit_202 : decode cX5_kit 202 = .ok (.iload_n 1, 1) := by decide +kernel
theorem dX5_kit_203 : decode cX5_kit 203 = .ok (.iaload, 1) := by decide +kernel
theorem dX5_kit_204 : decode cX5_kit 204 = .ok (.ireturn, 1) := by decide +kernel
theorem dX5_isOrder_0 : decode cX5_isOrder 0 = .ok (.iload_n 1, 1) := by decide +kernel
theorem dX5_isOrder_1 : decode cX5_isOrder 1 = .ok (.iconst 0, 1) := by decide +kernel
theorem dX5_isOrder_2 : decode cX5_isOrder 2 = .ok (.aload_n 0, 1) := by decide +kernel
theorem dX5_isOrder_3 : decode cX5_isOrder 3 = .ok (.getfield 109, 3) := by decide +kernel
theorem dX5_isOrder_6 : decode cX5_isOrder 6 = .ok (.iconst 1, 1) := by decide +kernel
theorem dX5_isOrder_7 : decode cX5_isOrder 7 = .ok (.isub, 1) := by decide +kernel
theorem dX5_isOrder_8 : decode cX5_isOrder 8 = .ok (.invokestatic 87, 3) := by decide +kernel
theorem dX5_isOrder_11 : decode cX5_isOrder 11 = .ok (.ireturn, 1) := by decide +kernel
theorem dX5_order_0 : decode cX5_order 0 = .ok (.aload_n 0, 1) := by decide +kernel
theorem dX5_order_1 : decode cX5_order 1 = .ok (.iload_n 1, 1) := by decide +kernel
theorem dX5_order_2 : decode cX5_order 2 = .ok (.iconst 0, 1) := by decide +kernel
theorem dX5_order_3 : decode cX5_order 3 = .ok (.bipush 99, 2) := by decide +kernel
theorem dX5_order_5 : decode cX5_order 5 = .ok (.invokestatic 87, 3) := by decide +kernel
theorem dX5_order_8 : decode cX5_order 8 = .ok (.ifCond .eq 32, 3) := by decide +kernel
theorem dX5_order_11 : decode cX5_order 11 = .ok (.iload_n 2, 1) := by decide +kernel
theorem dX5_order_12 : decode cX5_order 12 = .ok (.invokestatic 128, 3) := by decide +kernel
theorem dX5_order_15 : decode cX5_order 15 = .ok (.ifCond .eq 25, 3) := by decide +kernel
theorem dX5_order_18 : decode cX5_order 18 = .ok (.iload_n 3, 1) := by decide +kernel
theorem dX5_order_19 : decode cX5_order 19 = .ok (.iconst 1, 1) := by decide +kernel
theorem dX5_order_20 : decode cX5_order 20 = .ok (.sipush 10000, 3) := by decide +kernel
theorem dX5_order_23 : decode cX5_order 23 = .ok (.invokestatic 87, 3) := by decide +kernel
theorem dX5_order_26 : decode cX5_order 26 = .ok (.ifCond .eq 14, 3) := by decide +kernel
theorem dX5_order_29 : decode cX5_order 29 = .ok (.iload 4, 2) := by decide +kernel
theorem dX5_order_31 : decode cX5_order 31 = .ok (.iconst 1, 1) := by decide +kernel
theorem dX5_order_32 : decode cX5_order 32 = .ok (.bipush 9, 2) := by decide +kernel
theorem dX5_order_34 : decode cX5_order 34 = .ok (.invokestatic 87, 3) := by decide +kernel
theorem dX5_order_37 : decode cX5_order 37 = .ok (.ifCond .ne 7, 3) := by decide +kernel
theorem dX5_order_40 : decode cX5_order 40 = .ok (.iconst 1, 1) := by decide +kernel
theorem dX5_order_41 : decode cX5_order 41 = .ok (.goto 17, 3) := by decide +kernel
theorem dX5_order_44 : decode cX5_order 44 = .ok (.aload_n 0, 1) := by decide +kernel
theorem dX5_order_45 : decode cX5_order 45 = .ok (.getfield 109, 3) := by decide +kernel
theorem dX5_order_48 : decode cX5_order 48 = .ok (.bipush 10, 2) := by decide +kernel
theorem dX5_order_50 : decode cX5_order 50 = .ok (.if_icmp .ne 7, 3) := by decide +kernel
theorem dX5_order_53 : decode cX5_order 53 = .ok (.iconst 2, 1) := by decide +kernel
theorem dX5_order_54 : decode cX5_order 54 = .ok (.goto 4, 3) := by decide +kernel
theorem dX5_order_57 : decode cX5_order 57 = .ok (.iconst 0, 1) := by decide +kernel
theorem dX5_order_58 : decode cX5_order 58 = .ok (.putfield 83, 3) := by decide +kernel
theorem dX5_order_61 : decode cX5_order 61 = .ok (.aload_n 0, 1) := by decide +kernel
theorem dX5_order_62 : decode cX5_order 62 = .ok (.getfield 83, 3) := by decide +kernel
theorem dX5_order_65 : decode cX5_order 65 = .ok (.ifCond .le 5, 3) := by decide +kernel
theorem dX5_order_68 : decode cX5_order 68 = .ok (.iconst 0, 1) := by decide +kernel
theorem dX5_order_69 : decode cX5_order 69 = .ok (.ireturn, 1) := by decide +kernel
theorem dX5_order_70 : decode cX5_order 70 = .ok (.aload_n 0, 1) := by decide +kernel
theorem dX5_order_71 : decode cX5_order 71 = .ok (.invokevirtual 145, 3) := by decide +kernel
theorem dX5_order_74 : decode cX5_order 74 = .ok (.aload_n 0, 1) := by decide +kernel
theorem dX5_order_75 : decode cX5_order 75 = .ok (.aload_n 0, 1) := by decide +kernel
theorem dX5_order_76 : decode cX5_order 76 = .ok (.getfield 109, 3) := by decide +kernel
theorem dX5_order_79 : decode cX5_order 79 = .ok (.iload_n 2, 1) := by decide +kernel
theorem dX5_order_80 : decode cX5_order 80 = .ok (.iload_n 3, 1) := by decide +kernel
theorem dX5_order_81 : decode cX5_order 81 = .ok (.iload_n 1, 1) := by decide +kernel
theorem dX5_order_82 : decode cX5_order 82 = .ok (.invokevirtual 116, 3) := by decide +kernel
theorem dX5_order_85 : decode cX5_order 85 = .ok (.aload_n 0, 1) := by decide +kernel
theorem dX5_order_86 : decode cX5_order 86 = .ok (.invokevirtual 124, 3) := by decide +kernel
theorem dX5_order_89 : decode cX5_order 89 = .ok (.ifCond .ne 5, 3) := by decide +kernel
theorem dX5_order_92 : decode cX5_order 92 = .ok (.iconst (-1), 1) := by decide +kernel
theorem dX5_order_93 : decode cX5_order 93 = .ok (.ireturn, 1) := by decide +kernel
theorem dX5_order_94 : decode cX5_order 94 = .ok (.aload_n 0, 1) := by decide +kernel
theorem dX5_order_95 : decode cX5_order 95 = .ok (.getfield 37, 3) := by decide +kernel
theorem dX5_order_98 : decode cX5_order 98 = .ok (.aload_n 0, 1) := by decide +kernel
theorem dX5_order_99 : decode cX5_order 99 = .ok (.getfield 109, 3) := by decide +kernel
theorem dX5_order_102 : decode cX5_order 102 = .ok (.iload_n 1, 1) := by decide +kernel
theorem dX5_order_103 : decode cX5_order 103 = .ok (.iastore, 1) := by decide +kernel
theorem dX5_order_104 : decode cX5_order 104 = .ok (.aload_n 0, 1) := by decide +kernel
theorem dX5_order_105 : decode cX5_order 105 = .ok (.getfield 40, 3) := by decide +kernel
theorem dX5_order_108 : decode cX5_order 108 = .ok (.aload_n 0, 1) := by decide +kernel
theorem dX5_order_109 : decode cX5_order 109 = .ok (.getfield 109, 3) := by decide +kernel
theorem dX5_order_112 : decode cX5_order 112 = .ok (.iload_n 2, 1) := by decide +kernel
theorem dX5_order_113 : decode cX5_order 113 = .ok (.iastore, 1) := by decide +kernel
theorem dX5_order_114 : decode cX5_order 114 = .ok (.aload_n 0, 1) := by decide +kernel
theorem dX5_order_115 : decode cX5_order 115 = .ok (.getfield 43, 3) := by decide +kernel
theorem dX5_order_118 : decode cX5_order 118 = .ok (.aload_n 0, 1) := by decide +kernel
theorem dX5_order_119 : decode cX5_order 119 = .ok (.getfield 109, 3) := by decide +kernel
theorem dX5_order_122 : decode cX5_order 122 = .ok (.iload_n 3, 1) := by decide +kernel
theorem dX5_order_123 : decode cX5_order 123 = .ok (.iastore, 1) := by decide +kernel
theorem dX5_order_124 : decode cX5_order 124 = .ok (.aload_n 0, 1) := by decide +kernel
theorem dX5_order_125 : decode cX5_order 125 = .ok (.getfield 46, 3) := by decide +kernel
theorem dX5_order_128 : decode cX5_order 128 = .ok (.aload_n 0, 1) := by decide +kernel
theorem dX5_order_129 : decode cX5_order 129 = .ok (.getfield 109, 3) := by decide +kernel
theorem dX5_order_132 : decode cX5_order 132 = .ok (.iload 4, 2) := by decide +kernel
theorem dX5_order_134 : decode cX5_order 134 = .ok (.iastore, 1) := by decide +kernel
theorem dX5_order_135 : decode cX5_order 135 = .ok (.aload_n 0, 1) := by decide +kernel
theorem dX5_order_136 : decode cX5_order 136 = .ok (.getfield 49, 3) := by decide +kernel
theorem dX5_order_139 : decode cX5_order 139 = .ok (.aload_n 0, 1) := by decide +kernel
theorem dX5_order_140 : decode cX5_order 140 = .ok (.getfield 109, 3) := by decide +kernel
theorem dX5_order_143 : decode cX5_order 143 = .ok (.iconst 0, 1) := by decide +kernel
theorem dX5_order_144 : decode cX5_order 144 = .ok (.iastore, 1) := by decide +kernel
end
section
theorem dX5_order_145 : decode cX5_order 145 = .ok (.aload_n 0, 1) := by decide +kernel
theorem dX5_order_146 : decode cX5_order 146 = .ok (.dup, 1) := by decide +kernel
theorem dX5_order_147 : decode cX5_order 147 = .ok (.getfield 109, 3) := by decide +kernel
theorem dX5_order_150 : decode cX5_order 150 = .ok (.iconst 1, 1) := by decide +kernel
theorem dX5_order_151 : decode cX5_order 151 = .ok (.iadd, 1) := by decide +kernel
theorem dX5_order_152 : decode cX5_order 152 = .ok (.putfield 109, 3) := by decide +kernel
theorem dX5_order_155 : decode cX5_order 155 = .ok (.aload_n 0, 1) := by decide +kernel
theorem dX5_order_156 : decode cX5_order 156 = .ok (.getfield 109, 3) := by decide +kernel
theorem dX5_order_159 : decode cX5_order 159 = .ok (.iconst 1, 1) := by decide +kernel
theorem dX5_order_160 : decode cX5_order 160 = .ok (.isub, 1) := by decide +kernel
theorem dX5_order_161 : decode cX5_order 161 = .ok (.ireturn, 1) := by decide +kernel
theorem dX5_close_0 : decode cX5_close 0 = .ok (.aload_n 0, 1) := by decide +kernel
theorem dX5_close_1 : decode cX5_close 1 = .ok (.aload_n 0, 1) := by decide +kernel
theorem dX5_close_2 : decode cX5_close 2 = .ok (.iload_n 1, 1) := by decide +kernel
theorem dX5_close_3 : decode cX5_close 3 = .ok (.invokevirtual 148, 3) := by decide +kernel
theorem dX5_close_6 : decode cX5_close 6 = .ok (.ifCond .ne 7, 3) := by decide +kernel
theorem dX5_close_9 : decode cX5_close 9 = .ok (.iconst 1, 1) := by decide +kernel
theorem dX5_close_10 : decode cX5_close 10 = .ok (.goto 4, 3) := by decide +kernel
theorem dX5_close_13 : decode cX5_close 13 = .ok (.iconst 0, 1) := by decide +kernel
theorem dX5_close_14 : decode cX5_close 14 = .ok (.putfield 83, 3) := by decide +kernel
theorem dX5_close_17 : decode cX5_close 17 = .ok (.aload_n 0, 1) := by decide +kernel
theorem dX5_close_18 : decode cX5_close 18 = .ok (.getfield 83, 3) := by decide +kernel
theorem dX5_close_21 : decode cX5_close 21 = .ok (.ifCond .ne 22, 3) := by decide +kernel
theorem dX5_close_24 : decode cX5_close 24 = .ok (.aload_n 0, 1) := by decide +kernel
theorem dX5_close_25 : decode cX5_close 25 = .ok (.aload_n 0, 1) := by decide +kernel
theorem dX5_close_26 : decode cX5_close 26 = .ok (.getfield 49, 3) := by decide +kernel
theorem dX5_close_29 : decode cX5_close 29 = .ok (.iload_n 1, 1) := by decide +kernel
theorem dX5_close_30 : decode cX5_close 30 = .ok (.iaload, 1) := by decide +kernel
theorem dX5_close_31 : decode cX5_close 31 = .ok (.iconst 2, 1) := by decide +kernel
theorem dX5_close_32 : decode cX5_close 32 = .ok (.if_icmp .ne 7, 3) := by decide +kernel
theorem dX5_close_35 : decode cX5_close 35 = .ok (.iconst 2, 1) := by decide +kernel
theorem dX5_close_36 : decode cX5_close 36 = .ok (.goto 4, 3) := by decide +kernel
theorem dX5_close_39 : decode cX5_close 39 = .ok (.iconst 0, 1) := by decide +kernel
theorem dX5_close_40 : decode cX5_close 40 = .ok (.putfield 83, 3) := by decide +kernel
theorem dX5_close_43 : decode cX5_close 43 = .ok (.aload_n 0, 1) := by decide +kernel
theorem dX5_close_44 : decode cX5_close 44 = .ok (.getfield 83, 3) := by decide +kernel
theorem dX5_close_47 : decode cX5_close 47 = .ok (.ifCond .le 5, 3) := by decide +kernel
theorem dX5_close_50 : decode cX5_close 50 = .ok (.iconst 0, 1) := by decide +kernel
theorem dX5_close_51 : decode cX5_close 51 = .ok (.ireturn, 1) := by decide +kernel
theorem dX5_close_52 : decode cX5_close 52 = .ok (.aload_n 0, 1) := by decide +kernel
theorem dX5_close_53 : decode cX5_close 53 = .ok (.getfield 49, 3) := by decide +kernel
theorem dX5_close_56 : decode cX5_close 56 = .ok (.iload_n 1, 1) := by decide +kernel
theorem dX5_close_57 : decode cX5_close 57 = .ok (.iconst 2, 1) := by decide +kernel
theorem dX5_close_58 : decode cX5_close 58 = .ok (.iastore, 1) := by decide +kernel
theorem dX5_close_59 : decode cX5_close 59 = .ok (.aload_n 0, 1) := by decide +kernel
theorem dX5_close_60 : decode cX5_close 60 = .ok (.invokevirtual 132, 3) := by decide +kernel
theorem dX5_close_63 : decode cX5_close 63 = .ok (.ireturn, 1) := by decide +kernel
theorem dX5_greatest_0 : decode cX5_greatest 0 = .ok (.aload_n 0, 1) := by decide +kernel
theorem dX5_greatest_1 : decode cX5_greatest 1 = .ok (.invokevirtual 145, 3) := by decide +kernel
theorem dX5_greatest_4 : decode cX5_greatest 4 = .ok (.aload_n 0, 1) := by decide +kernel
theorem dX5_greatest_5 : decode cX5_greatest 5 = .ok (.getfield 94, 3) := by decide +kernel
theorem dX5_greatest_8 : decode cX5_greatest 8 = .ok (.istore_n 3, 1) := by decide +kernel
theorem dX5_greatest_9 : decode cX5_greatest 9 = .ok (.aload_n 0, 1) := by decide +kernel
theorem dX5_greatest_10 : decode cX5_greatest 10 = .ok (.iconst (-1), 1) := by decide +kernel
theorem dX5_greatest_11 : decode cX5_greatest 11 = .ok (.iload_n 1, 1) := by decide +kernel
theorem dX5_greatest_12 : decode cX5_greatest 12 = .ok (.iconst 0, 1) := by decide +kernel
theorem dX5_greatest_13 : decode cX5_greatest 13 = .ok (.iload_n 2, 1) := by decide +kernel
theorem dX5_greatest_14 : decode cX5_greatest 14 = .ok (.invokevirtual 116, 3) := by decide +kernel
theorem dX5_greatest_17 : decode cX5_greatest 17 = .ok (.ldc2_w 151, 3) := by decide +kernel
theorem dX5_greatest_20 : decode cX5_greatest 20 = .ok (.lstore 4, 2) := by decide +kernel
theorem dX5_greatest_22 : decode cX5_greatest 22 = .ok (.iconst 0, 1) := by decide +kernel
theorem dX5_greatest_23 : decode cX5_greatest 23 = .ok (.istore 6, 2) := by decide +kernel
theorem dX5_greatest_25 : decode cX5_greatest 25 = .ok (.iload 6, 2) := by decide +kernel
theorem dX5_greatest_27 : decode cX5_greatest 27 = .ok (.iconst 1, 1) := by decide +kernel
theorem dX5_greatest_28 : decode cX5_greatest 28 = .ok (.aload_n 0, 1) := by decide +kernel
theorem dX5_greatest_29 : decode cX5_greatest 29 = .ok (.getfield 91, 3) := by decide +kernel
theorem dX5_greatest_32 : decode cX5_greatest 32 = .ok (.ishl, 1) := by decide +kernel
theorem dX5_greatest_33 : decode cX5_greatest 33 = .ok (.if_icmp .ge 109, 3) := by decide +kernel
theorem dX5_greatest_36 : decode cX5_greatest 36 = .ok (.lconst 0, 1) := by decide +kernel
theorem dX5_greatest_37 : decode cX5_greatest 37 = .ok (.lstore 7, 2) := by decide +kernel
theorem dX5_greatest_39 : decode cX5_greatest 39 = .ok (.iload_n 3, 1) := by decide +kernel
theorem dX5_greatest_40 : decode cX5_greatest 40 = .ok (.istore 9, 2) := by decide +kernel
theorem dX5_greatest_42 : decode cX5_greatest 42 = .ok (.iload 9, 2) := by decide +kernel
theorem dX5_greatest_44 : decode cX5_greatest 44 = .ok (.aload_n 0, 1) := by decide +kernel
theorem dX5_greatest_45 : decode cX5_greatest 45 = .ok (.getfield 94, 3) := by decide +kernel
theorem dX5_greatest_48 : decode cX5_greatest 48 = .ok (.if_icmp .ge 55, 3) := by decide +kernel
theorem dX5_greatest_51 : decode cX5_greatest 51 = .ok (.aload_n 0, 1) := by decide +kernel
theorem dX5_greatest_52 : decode cX5_greatest 52 = .ok (.getfield 62, 3) := by decide +kernel
theorem dX5_greatest_55 : decode cX5_greatest 55 = .ok (.iload 9, 2) := by decide +kernel
theorem dX5_greatest_57 : decode cX5_greatest 57 = .ok (.iaload, 1) := by decide +kernel
theorem dX5_greatest_58 : decode cX5_greatest 58 = .ok (.iload 6, 2) := by decide +kernel
theorem dX5_greatest_60 : decode cX5_greatest 60 = .ok (.iconst (-1), 1) := by decide +kernel
theorem dX5_greatest_61 : decode cX5_greatest 61 = .ok (.ixor, 1) := by decide +kernel
theorem dX5_greatest_62 : decode cX5_greatest 62 = .ok (.iand, 1) := by decide +kernel
theorem dX5_greatest_63 : decode cX5_greatest 63 = .ok (.ifCond .ne 34, 3) := by decide +kernel
theorem dX5_greatest_66 : decode cX5_greatest 66 = .ok (.lload 7, 2) := by decide +kernel
theorem dX5_greatest_68 : decode cX5_greatest 68 = .ok (.aload_n 0, 1) := by decide +kernel
theorem dX5_greatest_69 : decode cX5_greatest 69 = .ok (.iload_n 1, 1) := by decide +kernel
theorem dX5_greatest_70 : decode cX5_greatest 70 = .ok (.invokevirtual 101, 3) := by decide +kernel
theorem dX5_greatest_73 : decode cX5_greatest 73 = .ok (.ifCond .eq 20, 3) := by decide +kernel
theorem dX5_greatest_76 : decode cX5_greatest 76 = .ok (.aload_n 0, 1) := by decide +kernel
theorem dX5_greatest_77 : decode cX5_greatest 77 = .ok (.getfield 22, 3) := by decide +kernel
theorem dX5_greatest_80 : decode cX5_greatest 80 = .ok (.iconst 3, 1) := by decide +kernel
theorem dX5_greatest_81 : decode cX5_greatest 81 = .ok (.iload_n 1, 1) := by decide +kernel
theorem dX5_greatest_82 : decode cX5_greatest 82 = .ok (.imul, 1) := by decide +kernel
theorem dX5_greatest_83 : decode cX5_greatest 83 = .ok (.iload 9, 2) := by decide +kernel
theorem dX5_greatest_85 : decode cX5_greatest 85 = .ok (.iadd, 1) := by decide +kernel
theorem dX5_greatest_86 : decode cX5_greatest 86 = .ok (.iload_n 3, 1) := by decide +kernel
theorem dX5_greatest_87 : decode cX5_greatest 87 = .ok (.isub, 1) := by decide +kernel
theorem dX5_greatest_88 : decode cX5_greatest 88 = .ok (.iaload, 1) := by decide +kernel
theorem dX5_greatest_89 : decode cX5_greatest 89 = .ok (.i2l, 1) := by decide +kernel
theorem dX5_greatest_90 : decode cX5_greatest 90 = .ok (.goto 4, 3) := by decide +kernel
theorem dX5_greatest_93 : decode cX5_greatest 93 = .ok (.lconst 1, 1) := by decide +kernel
theorem dX5_greatest_94 : decode cX5_greatest 94 = .ok (.ladd, 1) := by decide +kernel
theorem dX5_greatest_95 : decode cX5_greatest 95 = .ok (.lstore 7, 2) := by decide +kernel
theorem dX5_greatest_97 : decode cX5_greatest 97 = .ok (.iinc 9 1, 3) := by decide +kernel
theorem dX5_greatest_100 : decode cX5_greatest 100 = .ok (.goto (-58), 3) := by decide +kernel
theorem dX5_greatest_103 : decode cX5_greatest 103 = .ok (.lload 7, 2) := by decide +kernel
theorem dX5_greatest_105 : decode cX5_greatest 105 = .ok (.lconst 0, 1) := by decide +kernel
theorem dX5_greatest_106 : decode cX5_greatest 106 = .ok (.lcmp, 1) := by decide +kernel
theorem dX5_greatest_107 : decode cX5_greatest 107 = .ok (.ifCond .le 29, 3) := by decide +kernel
theorem dX5_greatest_110 : decode cX5_greatest 110 = .ok (.aload_n 0, 1) := by decide +kernel
theorem dX5_greatest_111 : decode cX5_greatest 111 = .ok (.iload 6, 2) := by decide +kernel
theorem dX5_greatest_113 : decode cX5_greatest 113 = .ok (.invokevirtual 120, 3) := by decide +kernel
theorem dX5_greatest_116 : decode cX5_greatest 116 = .ok (.lload 7, 2) := by decide +kernel
theorem dX5_greatest_118 : decode cX5_greatest 118 = .ok (.ldiv, 1) := by decide +kernel
theorem dX5_greatest_119 : decode cX5_greatest 119 = .ok (.lload 4, 2) := by decide +kernel
theorem dX5_greatest_121 : decode cX5_greatest 121 = .ok (.lcmp, 1) := by decide +kernel
theorem dX5_greatest_122 : decode cX5_greatest 122 = .ok (.ifCond .ge 14, 3) := by decide +kernel
theorem dX5_greatest_125 : decode cX5_greatest 125 = .ok (.aload_n 0, 1) := by decide +kernel
theorem dX5_greatest_126 : decode cX5_greatest 126 = .ok (.iload 6, 2) := by decide +kernel
theorem dX5_greatest_128 : decode cX5_greatest 128 = .ok (.invokevirtual 120, 3) := by decide +kernel
theorem dX5_greatest_131 : decode cX5_greatest 131 = .ok (.lload 7, 2) := by decide +kernel
theorem dX5_greatest_133 : decode cX5_greatest 133 = .ok (.ldiv, 1) := by decide +kernel
theorem dX5_greatest_134 : decode cX5_greatest 134 = .ok (.lstore 4, 2) := by decide +kernel
theorem dX5_greatest_136 : decode cX5_greatest 136 = .ok (.iinc 6 1, 3) := by decide +kernel
theorem dX5_greatest_139 : decode cX5_greatest 139 = .ok (.goto (-114), 3) := by decide +kernel
theorem dX5_greatest_142 : decode cX5_greatest 142 = .ok (.aload_n 0, 1) := by decide +kernel
theorem dX5_greatest_143 : decode cX5_greatest 143 = .ok (.iload_n 3, 1) := by decide +kernel
theorem dX5_greatest_144 : decode cX5_greatest 144 = .ok (.putfield 94, 3) := by decide +kernel
theorem dX5_greatest_147 : decode cX5_greatest 147 = .ok (.lload 4, 2) := by decide +kernel
theorem dX5_greatest_149 : decode cX5_greatest 149 = .ok (.l2i, 1) := by decide +kernel
theorem dX5_greatest_150 : decode cX5_greatest 150 = .ok (.ireturn, 1) := by decide +kernel
theorem dX5_promise_0 : decode cX5_promise 0 = .ok (.aload_n 0, 1) := by decide +kernel
theorem dX5_promise_1 : decode cX5_promise 1 = .ok (.iload_n 1, 1) := by decide +kernel
theorem dX5_promise_2 : decode cX5_promise 2 = .ok (.invokestatic 128, 3) := by decide +kernel
theorem dX5_promise_5 : decode cX5_promise 5 = .ok (.ifCond .eq 17, 3) := by decide +kernel
theorem dX5_promise_8 : decode cX5_promise 8 = .ok (.iload_n 2, 1) := by decide +kernel
theorem dX5_promise_9 : decode cX5_promise 9 = .ok (.iconst 0, 1) := by decide +kernel
theorem dX5_promise_10 : decode cX5_promise 10 = .ok (.bipush 99, 2) := by decide +kernel
theorem dX5_promise_12 : decode cX5_promise 12 = .ok (.invokestatic 87, 3) := by decide +kernel
theorem dX5_promise_15 : decode cX5_promise 15 = .ok (.ifCond .eq 7, 3) := by decide +kernel
theorem dX5_promise_18 : decode cX5_promise 18 = .ok (.iconst 0, 1) := by decide +kernel
theorem dX5_promise_19 : decode cX5_promise 19 = .ok (.goto 4, 3) := by decide +kernel
theorem dX5_promise_22 : decode cX5_promise 22 = .ok (.iconst 1, 1) := by decide +kernel
theorem dX5_promise_23 : decode cX5_promise 23 = .ok (.putfield 83, 3) := by decide +kernel
theorem dX5_promise_26 : decode cX5_promise 26 = .ok (.aload_n 0, 1) := by decide +kernel
theorem dX5_promise_27 : decode cX5_promise 27 = .ok (.getfield 83, 3) := by decide +kernel
theorem dX5_promise_30 : decode cX5_promise 30 = .ok (.ifCond .le 7, 3) := by decide +kernel
theorem dX5_promise_33 : decode cX5_promise 33 = .ok (.iconst 0, 1) := by decide +kernel
theorem dX5_promise_34 : decode cX5_promise 34 = .ok (.goto 9, 3) := by decide +kernel
theorem dX5_promise_37 : decode cX5_promise 37 = .ok (.aload_n 0, 1) := by decide +kernel
theorem dX5_promise_38 : decode cX5_promise 38 = .ok (.iload_n 1, 1) := by decide +kernel
theorem dX5_promise_39 : decode cX5_promise 39 = .ok (.iload_n 2, 1) := by decide +kernel
theorem dX5_promise_40 : decode cX5_promise 40 = .ok (.invokevirtual 153, 3) := by decide +kernel
theorem dX5_promise_43 : decode cX5_promise 43 = .ok (.ireturn, 1) := by decide +kernel
theorem dX5_share_0 : decode cX5_share 0 = .ok (.aload_n 0, 1) := by decide +kernel
theorem dX5_share_1 : decode cX5_share 1 = .ok (.iload_n 1, 1) := by decide +kernel
theorem dX5_share_2 : decode cX5_share 2 = .ok (.invokestatic 128, 3) := by decide +kernel
theorem dX5_share_5 : decode cX5_share 5 = .ok (.ifCond .eq 17, 3) := by decide +kernel
theorem dX5_share_8 : decode cX5_share 8 = .ok (.iload_n 2, 1) := by decide +kernel
theorem dX5_share_9 : decode cX5_share 9 = .ok (.iconst 0, 1) := by decide +kernel
theorem dX5_share_10 : decode cX5_share 10 = .ok (.bipush 99, 2) := by decide +kernel
theorem dX5_share_12 : decode cX5_share 12 = .ok (.invokestatic 87, 3) := by decide +kernel
theorem dX5_share_15 : decode cX5_share 15 = .ok (.ifCond .eq 7, 3) := by decide +kernel
theorem dX5_share_18 : decode cX5_share 18 = .ok (.iconst 0, 1) := by decide +kernel
theorem dX5_share_19 : decode cX5_share 19 = .ok (.goto 4, 3) := by decide +kernel
theorem dX5_share_22 : decode cX5_share 22 = .ok (.iconst 1, 1) := by decide +kernel
theorem dX5_share_23 : decode cX5_share 23 = .ok (.putfield 83, 3) := by decide +kernel
theorem dX5_share_26 : decode cX5_share 26 = .ok (.aload_n 0, 1) := by decide +kernel
theorem dX5_share_27 : decode cX5_share 27 = .ok (.getfield 83, 3) := by decide +kernel
theorem dX5_share_30 : decode cX5_share 30 = .ok (.ifCond .le 5, 3) := by decide +kernel
theorem dX5_share_33 : decode cX5_share 33 = .ok (.iconst 0, 1) := by decide +kernel
theorem dX5_share_34 : decode cX5_share 34 = .ok (.ireturn, 1) := by decide +kernel
theorem dX5_share_35 : decode cX5_share 35 = .ok (.lconst 0, 1) := by decide +kernel
theorem dX5_share_36 : decode cX5_share 36 = .ok (.lstore_n 3, 1) := by decide +kernel
theorem dX5_share_37 : decode cX5_share 37 = .ok (.aload_n 0, 1) := by decide +kernel
theorem dX5_share_38 : decode cX5_share 38 = .ok (.iload_n 1, 1) := by decide +kernel
theorem dX5_share_39 : decode cX5_share 39 = .ok (.invokevirtual 101, 3) := by decide +kernel
theorem dX5_share_42 : decode cX5_share 42 = .ok (.ifCond .eq 7, 3) := by decide +kernel
theorem dX5_share_45 : decode cX5_share 45 = .ok (.iconst 0, 1) := by decide +kernel
theorem dX5_share_46 : decode cX5_share 46 = .ok (.goto 9, 3) := by decide +kernel
theorem dX5_share_49 : decode cX5_share 49 = .ok (.aload_n 0, 1) := by decide +kernel
theorem dX5_share_50 : decode cX5_share 50 = .ok (.iload_n 1, 1) := by decide +kernel
theorem dX5_share_51 : decode cX5_share 51 = .ok (.iload_n 2, 1) := by decide +kernel
theorem dX5_share_52 : decode cX5_share 52 = .ok (.invokevirtual 97, 3) := by decide +kernel
theorem dX5_share_55 : decode cX5_share 55 = .ok (.istore 5, 2) := by decide +kernel
theorem dX5_share_57 : decode cX5_share 57 = .ok (.iconst 0, 1) := by decide +kernel
theorem dX5_share_58 : decode cX5_share 58 = .ok (.istore 6, 2) := by decide +kernel
theorem dX5_share_60 : decode cX5_share 60 = .ok (.iload 6, 2) := by decide +kernel
theorem dX5_share_62 : decode cX5_share 62 = .ok (.aload_n 0, 1) := by decide +kernel
theorem dX5_share_63 : decode cX5_share 63 = .ok (.getfield 91, 3) := by decide +kernel
theorem dX5_share_66 : decode cX5_share 66 = .ok (.if_icmp .ge 35, 3) := by decide +kernel
theorem dX5_share_69 : decode cX5_share 69 = .ok (.lload_n 3, 1) := by decide +kernel
theorem dX5_share_70 : decode cX5_share 70 = .ok (.iload 5, 2) := by decide +kernel
theorem dX5_share_72 : decode cX5_share 72 = .ok (.iload 6, 2) := by decide +kernel
theorem dX5_share_74 : decode cX5_share 74 = .ok (.ishr, 1) := by decide +kernel
theorem dX5_share_75 : decode cX5_share 75 = .ok (.iconst 1, 1) := by decide +kernel
theorem dX5_share_76 : decode cX5_share 76 = .ok (.iand, 1) := by decide +kernel
theorem dX5_share_77 : decode cX5_share 77 = .ok (.iconst 1, 1) := by decide +kernel
theorem dX5_share_78 : decode cX5_share 78 = .ok (.if_icmp .ne 14, 3) := by decide +kernel
theorem dX5_share_81 : decode cX5_share 81 = .ok (.aload_n 0, 1) := by decide +kernel
theorem dX5_share_82 : decode cX5_share 82 = .ok (.getfield 31, 3) := by decide +kernel
theorem dX5_share_85 : decode cX5_share 85 = .ok (.iload 6, 2) := by decide +kernel
theorem dX5_share_87 : decode cX5_share 87 = .ok (.iaload, 1) := by decide +kernel
theorem dX5_share_88 : decode cX5_share 88 = .ok (.i2l, 1) := by decide +kernel
theorem dX5_share_89 : decode cX5_share 89 = .ok (.goto 4, 3) := by decide +kernel
theorem dX5_share_92 : decode cX5_share 92 = .ok (.lconst 0, 1) := by decide +kernel
theorem dX5_share_93 : decode cX5_share 93 = .ok (.ladd, 1) := by decide +kernel
theorem dX5_share_94 : decode cX5_share 94 = .ok (.lstore_n 3, 1) := by decide +kernel
theorem dX5_share_95 : decode cX5_share 95 = .ok (.iinc 6 1, 3) := by decide +kernel
theorem dX5_share_98 : decode cX5_share 98 = .ok (.goto (-38), 3) := by decide +kernel
theorem dX5_share_101 : decode cX5_share 101 = .ok (.aload_n 0, 1) := by decide +kernel
theorem dX5_share_102 : decode cX5_share 102 = .ok (.lload_n 3, 1) := by decide +kernel
theorem dX5_share_103 : decode cX5_share 103 = .ok (.lconst 0, 1) := by decide +kernel
theorem dX5_share_104 : decode cX5_share 104 = .ok (.lcmp, 1) := by decide +kernel
theorem dX5_share_105 : decode cX5_share 105 = .ok (.ifCond .ne 7, 3) := by decide +kernel
theorem dX5_share_108 : decode cX5_share 108 = .ok (.iconst 2, 1) := by decide +kernel
theorem dX5_share_109 : decode cX5_share 109 = .ok (.goto 4, 3) := by decide +kernel
theorem dX5_share_112 : decode cX5_share 112 = .ok (.iconst 0, 1) := by decide +kernel
theorem dX5_share_113 : decode cX5_share 113 = .ok (.putfield 83, 3) := by decide +kernel
theorem dX5_share_116 : decode cX5_share 116 = .ok (.aload_n 0, 1) := by decide +kernel
theorem dX5_share_117 : decode cX5_share 117 = .ok (.getfield 83, 3) := by decide +kernel
theorem dX5_share_120 : decode cX5_share 120 = .ok (.ifCond .le 7, 3) := by decide +kernel
theorem dX5_share_123 : decode cX5_share 123 = .ok (.iconst 0, 1) := by decide +kernel
theorem dX5_share_124 : decode cX5_share 124 = .ok (.goto 17, 3) := by decide +kernel
theorem dX5_share_127 : decode cX5_share 127 = .ok (.ldc2_w 156, 3) := by decide +kernel
theorem dX5_share_130 : decode cX5_share 130 = .ok (.aload_n 0, 1) := by decide +kernel
theorem dX5_share_131 : decode cX5_share 131 = .ok (.iload_n 1, 1) := by decide +kernel
theorem dX5_share_132 : decode cX5_share 132 = .ok (.iload_n 2, 1) := by decide +kernel
theorem dX5_share_133 : decode cX5_share 133 = .ok (.invokevirtual 153, 3) := by decide +kernel
theorem dX5_share_136 : decode cX5_share 136 = .ok (.i2l, 1) := by decide +kernel
theorem dX5_share_137 : decode cX5_share 137 = .ok (.lmul, 1) := by decide +kernel
theorem dX5_share_138 : decode cX5_share 138 = .ok (.lload_n 3, 1) := by decide +kernel
theorem dX5_share_139 : decode cX5_share 139 = .ok (.ldiv, 1) := by decide +kernel
theorem dX5_share_140 : decode cX5_share 140 = .ok (.l2i, 1) := by decide +kernel
theorem dX5_share_141 : decode cX5_share 141 = .ok (.ireturn, 1) := by decide +kernel
theorem dX5_nextArrival_0 : decode cX5_nextArrival 0 = .ok (.iconst (-1), 1) := by decide +kernel
theorem dX5_nextArrival_1 : decode cX5_nextArrival 1 = .ok (.istore_n 3, 1) := by decide +kernel
theorem dX5_nextArrival_2 : decode cX5_nextArrival 2 = .ok (.iconst 0, 1) := by decide +kernel
theorem dX5_nextArrival_3 : decode cX5_nextArrival 3 = .ok (.istore 4, 2) := by decide +kernel
theorem dX5_nextArrival_5 : decode cX5_nextArrival 5 = .ok (.iload 4, 2) := by decide +kernel
theorem dX5_nextArrival_7 : decode cX5_nextArrival 7 = .ok (.aload_n 0, 1) := by decide +kernel
theorem dX5_nextArrival_8 : decode cX5_nextArrival 8 = .ok (.getfield 91, 3) := by decide +kernel
theorem dX5_nextArrival_11 : decode cX5_nextArrival 11 = .ok (.if_icmp .ge 100, 3) := by decide +kernel
theorem dX5_nextArrival_14 : decode cX5_nextArrival 14 = .ok (.iload_n 2, 1) := by decide +kernel
theorem dX5_nextArrival_15 : decode cX5_nextArrival 15 = .ok (.iload 4, 2) := by decide +kernel
theorem dX5_nextArrival_17 : decode cX5_nextArrival 17 = .ok (.ishr, 1) := by decide +kernel
theorem dX5_nextArrival_18 : decode cX5_nextArrival 18 = .ok (.iconst 1, 1) := by decide +kernel
theorem dX5_nextArrival_19 : decode cX5_nextArrival 19 = .ok (.iand, 1) := by decide +kernel
theorem dX5_nextArrival_20 : decode cX5_nextArrival 20 = .ok (.ifCond .ne 6, 3) := by decide +kernel
theorem dX5_nextArrival_23 : decode cX5_nextArrival 23 = .ok (.goto 82, 3) := by decide +kernel
theorem dX5_nextArrival_26 : decode cX5_nextArrival 26 = .ok (.iload_n 1, 1) := by decide +kernel
theorem dX5_nextArrival_27 : decode cX5_nextArrival 27 = .ok (.iconst (-1), 1) := by decide +kernel
theorem dX5_nextArrival_28 : decode cX5_nextArrival 28 = .ok (.if_icmp .eq 41, 3) := by decide +kernel
theorem dX5_nextArrival_31 : decode cX5_nextArrival 31 = .ok (.aload_n 0, 1) := by decide +kernel
theorem dX5_nextArrival_32 : decode cX5_nextArrival 32 = .ok (.getfield 25, 3) := by decide +kernel
theorem dX5_nextArrival_35 : decode cX5_nextArrival 35 = .ok (.iload 4, 2) := by decide +kernel
theorem dX5_nextArrival_37 : decode cX5_nextArrival 37 = .ok (.iaload, 1) := by decide +kernel
theorem dX5_nextArrival_38 : decode cX5_nextArrival 38 = .ok (.aload_n 0, 1) := by decide +kernel
theorem dX5_nextArrival_39 : decode cX5_nextArrival 39 = .ok (.getfield 25, 3) := by decide +kernel
theorem dX5_nextArrival_42 : decode cX5_nextArrival 42 = .ok (.iload_n 1, 1) := by decide +kernel
theorem dX5_nextArrival_43 : decode cX5_nextArrival 43 = .ok (.iaload, 1) := by decide +kernel
theorem dX5_nextArrival_44 : decode cX5_nextArrival 44 = .ok (.if_icmp .gt 25, 3) := by decide +kernel
theorem dX5_nextArrival_47 : decode cX5_nextArrival 47 = .ok (.aload_n 0, 1) := by decide +kernel
theorem dX5_nextArrival_48 : decode cX5_nextArrival 48 = .ok (.getfield 25, 3) := by decide +kernel
theorem dX5_nextArrival_51 : decode cX5_nextArrival 51 = .ok (.iload 4, 2) := by decide +kernel
theorem dX5_nextArrival_53 : decode cX5_nextArrival 53 = .ok (.iaload, 1) := by decide +kernel
theorem dX5_nextArrival_54 : decode cX5_nextArrival 54 = .ok (.aload_n 0, 1) := by decide +kernel
theorem dX5_nextArrival_55 : decode cX5_nextArrival 55 = .ok (.getfield 25, 3) := by decide +kernel
theorem dX5_nextArrival_58 : decode cX5_nextArrival 58 = .ok (.iload_n 1, 1) := by decide +kernel
theorem dX5_nextArrival_59 : decode cX5_nextArrival 59 = .ok (.iaload, 1) := by decide +kernel
theorem dX5_nextArrival_60 : decode cX5_nextArrival 60 = .ok (.if_icmp .ne 13, 3) := by decide +kernel
theorem dX5_nextArrival_63 : decode cX5_nextArrival 63 = .ok (.iload 4, 2) := by decide +kernel
theorem dX5_nextArrival_65 : decode cX5_nextArrival 65 = .ok (.iload_n 1, 1) := by decide +kernel
theorem dX5_nextArrival_66 : decode cX5_nextArrival 66 = .ok (.if_icmp .le 7, 3) := by decide +kernel
theorem dX5_nextArrival_69 : decode cX5_nextArrival 69 = .ok (.iconst 1, 1) := by decide +kernel
theorem dX5_nextArrival_70 : decode cX5_nextArrival 70 = .ok (.goto 4, 3) := by decide +kernel
theorem dX5_nextArrival_73 : decode cX5_nextArrival 73 = .ok (.iconst 0, 1) := by decide +kernel
theorem dX5_nextArrival_74 : decode cX5_nextArrival 74 = .ok (.istore 5, 2) := by decide +kernel
theorem dX5_nextArrival_76 : decode cX5_nextArrival 76 = .ok (.iload 5, 2) := by decide +kernel
theorem dX5_nextArrival_78 : decode cX5_nextArrival 78 = .ok (.ifCond .eq 27, 3) := by decide +kernel
theorem dX5_nextArrival_81 : decode cX5_nextArrival 81 = .ok (.iload_n 3, 1) := by decide +kernel
theorem dX5_nextArrival_82 : decode cX5_nextArrival 82 = .ok (.iconst (-1), 1) := by decide +kernel
theorem dX5_nextArrival_83 : decode cX5_nextArrival 83 = .ok (.if_icmp .eq 19, 3) := by decide +kernel
theorem dX5_nextArrival_86 : decode cX5_nextArrival 86 = .ok (.aload_n 0, 1) := by decide +kernel
theorem dX5_nextArrival_87 : decode cX5_nextArrival 87 = .ok (.getfield 25, 3) := by decide +kernel
theorem dX5_nextArrival_90 : decode cX5_nextArrival 90 = .ok (.iload 4, 2) := by decide +kernel
theorem dX5_nextArrival_92 : decode cX5_nextArrival 92 = .ok (.iaload, 1) := by decide +kernel
theorem dX5_nextArrival_93 : decode cX5_nextArrival 93 = .ok (.aload_n 0, 1) := by decide +kernel
theorem dX5_nextArrival_94 : decode cX5_nextArrival 94 = .ok (.getfield 25, 3) := by decide +kernel
theorem dX5_nextArrival_97 : decode cX5_nextArrival 97 = .ok (.iload_n 3, 1) := by decide +kernel
theorem dX5_nextArrival_98 : decode cX5_nextArrival 98 = .ok (.iaload, 1) := by decide +kernel
theorem dX5_nextArrival_99 : decode cX5_nextArrival 99 = .ok (.if_icmp .ge 6, 3) := by decide +kernel
theorem dX5_nextArrival_102 : decode cX5_nextArrival 102 = .ok (.iload 4, 2) := by decide +kernel
theorem dX5_nextArrival_104 : decode cX5_nextArrival 104 = .ok (.istore_n 3, 1) := by decide +kernel
theorem dX5_nextArrival_105 : decode cX5_nextArrival 105 = .ok (.iinc 4 1, 3) := by decide +kernel
theorem dX5_nextArrival_108 : decode cX5_nextArrival 108 = .ok (.goto (-103), 3) := by decide +kernel
theorem dX5_nextArrival_111 : decode cX5_nextArrival 111 = .ok (.iload_n 3, 1) := by decide +kernel
theorem dX5_nextArrival_112 : decode cX5_nextArrival 112 = .ok (.ireturn, 1) := by decide +kernel
theorem dX5_atMost_0 : decode cX5_atMost 0 = .ok (.aload_n 0, 1) := by decide +kernel
theorem dX5_atMost_1 : decode cX5_atMost 1 = .ok (.getfield 58, 3) := by decide +kernel
theorem dX5_atMost_4 : decode cX5_atMost 4 = .ok (.iload_n 1, 1) := by decide +kernel
theorem dX5_atMost_5 : decode cX5_atMost 5 = .ok (.laload, 1) := by decide +kernel
theorem dX5_atMost_6 : decode cX5_atMost 6 = .ok (.aload_n 0, 1) := by decide +kernel
theorem dX5_atMost_7 : decode cX5_atMost 7 = .ok (.getfield 65, 3) := by decide +kernel
theorem dX5_atMost_10 : decode cX5_atMost 10 = .ok (.iload_n 2, 1) := by decide +kernel
theorem dX5_atMost_11 : decode cX5_atMost 11 = .ok (.laload, 1) := by decide +kernel
theorem dX5_atMost_12 : decode cX5_atMost 12 = .ok (.lcmp, 1) := by decide +kernel
theorem dX5_atMost_13 : decode cX5_atMost 13 = .ok (.ifCond .ge 12, 3) := by decide +kernel
theorem dX5_atMost_16 : decode cX5_atMost 16 = .ok (.aload_n 0, 1) := by decide +kernel
theorem dX5_atMost_17 : decode cX5_atMost 17 = .ok (.getfield 58, 3) := by decide +kernel
theorem dX5_atMost_20 : decode cX5_atMost 20 = .ok (.iload_n 1, 1) := by decide +kernel
theorem dX5_atMost_21 : decode cX5_atMost 21 = .ok (.laload, 1) := by decide +kernel
theorem dX5_atMost_22 : decode cX5_atMost 22 = .ok (.goto 9, 3) := by decide +kernel
theorem dX5_atMost_25 : decode cX5_atMost 25 = .ok (.aload_n 0, 1) := by decide +kernel
theorem dX5_atMost_26 : decode cX5_atMost 26 = .ok (.getfield 65, 3) := by decide +kernel
theorem dX5_atMost_29 : decode cX5_atMost 29 = .ok (.iload_n 2, 1) := by decide +kernel
theorem dX5_atMost_30 : decode cX5_atMost 30 = .ok (.laload, 1) := by decide +kernel
theorem dX5_atMost_31 : decode cX5_atMost 31 = .ok (.lstore_n 3, 1) := by decide +kernel
theorem dX5_atMost_32 : decode cX5_atMost 32 = .ok (.iconst 0, 1) := by decide +kernel
theorem dX5_atMost_33 : decode cX5_atMost 33 = .ok (.istore 5, 2) := by decide +kernel
theorem dX5_atMost_35 : decode cX5_atMost 35 = .ok (.iload 5, 2) := by decide +kernel
theorem dX5_atMost_37 : decode cX5_atMost 37 = .ok (.iconst 1, 1) := by decide +kernel
theorem dX5_atMost_38 : decode cX5_atMost 38 = .ok (.aload_n 0, 1) := by decide +kernel
theorem dX5_atMost_39 : decode cX5_atMost 39 = .ok (.getfield 91, 3) := by decide +kernel
theorem dX5_atMost_42 : decode cX5_atMost 42 = .ok (.ishl, 1) := by decide +kernel
theorem dX5_atMost_43 : decode cX5_atMost 43 = .ok (.if_icmp .ge 57, 3) := by decide +kernel
theorem dX5_atMost_46 : decode cX5_atMost 46 = .ok (.iload 5, 2) := by decide +kernel
theorem dX5_atMost_48 : decode cX5_atMost 48 = .ok (.iload_n 2, 1) := by decide +kernel
theorem dX5_atMost_49 : decode cX5_atMost 49 = .ok (.ishr, 1) := by decide +kernel
theorem dX5_atMost_50 : decode cX5_atMost 50 = .ok (.iconst 1, 1) := by decide +kernel
theorem dX5_atMost_51 : decode cX5_atMost 51 = .ok (.iand, 1) := by decide +kernel
theorem dX5_atMost_52 : decode cX5_atMost 52 = .ok (.ifCond .eq 42, 3) := by decide +kernel
theorem dX5_atMost_55 : decode cX5_atMost 55 = .ok (.aload_n 0, 1) := by decide +kernel
theorem dX5_atMost_56 : decode cX5_atMost 56 = .ok (.getfield 62, 3) := by decide +kernel
theorem dX5_atMost_59 : decode cX5_atMost 59 = .ok (.iload_n 1, 1) := by decide +kernel
theorem dX5_atMost_60 : decode cX5_atMost 60 = .ok (.iaload, 1) := by decide +kernel
theorem dX5_atMost_61 : decode cX5_atMost 61 = .ok (.iload 5, 2) := by decide +kernel
theorem dX5_atMost_63 : decode cX5_atMost 63 = .ok (.iconst (-1), 1) := by decide +kernel
theorem dX5_atMost_64 : decode cX5_atMost 64 = .ok (.ixor, 1) := by decide +kernel
theorem dX5_atMost_65 : decode cX5_atMost 65 = .ok (.iand, 1) := by decide +kernel
theorem dX5_atMost_66 : decode cX5_atMost 66 = .ok (.ifCond .ne 6, 3) := by decide +kernel
theorem dX5_atMost_69 : decode cX5_atMost 69 = .ok (.goto 25, 3) := by decide +kernel
theorem dX5_atMost_72 : decode cX5_atMost 72 = .ok (.aload_n 0, 1) := by decide +kernel
theorem dX5_atMost_73 : decode cX5_atMost 73 = .ok (.iload 5, 2) := by decide +kernel
theorem dX5_atMost_75 : decode cX5_atMost 75 = .ok (.invokevirtual 120, 3) := by decide +kernel
theorem dX5_atMost_78 : decode cX5_atMost 78 = .ok (.lstore 6, 2) := by decide +kernel
theorem dX5_atMost_80 : decode cX5_atMost 80 = .ok (.lload 6, 2) := by decide +kernel
theorem dX5_atMost_82 : decode cX5_atMost 82 = .ok (.lload_n 3, 1) := by decide +kernel
theorem dX5_atMost_83 : decode cX5_atMost 83 = .ok (.lcmp, 1) := by decide +kernel
theorem dX5_atMost_84 : decode cX5_atMost 84 = .ok (.ifCond .ge 8, 3) := by decide +kernel
theorem dX5_atMost_87 : decode cX5_atMost 87 = .ok (.lload 6, 2) := by decide +kernel
theorem dX5_atMost_89 : decode cX5_atMost 89 = .ok (.goto 4, 3) := by decide +kernel
theorem dX5_atMost_92 : decode cX5_atMost 92 = .ok (.lload_n 3, 1) := by decide +kernel
theorem dX5_atMost_93 : decode cX5_atMost 93 = .ok (.lstore_n 3, 1) := by decide +kernel
theorem dX5_atMost_94 : decode cX5_atMost 94 = .ok (.iinc 5 1, 3) := by decide +kernel
theorem dX5_atMost_97 : decode cX5_atMost 97 = .ok (.goto (-62), 3) := by decide +kernel
theorem dX5_atMost_100 : decode cX5_atMost 100 = .ok (.lload_n 3, 1) := by decide +kernel
theorem dX5_atMost_101 : decode cX5_atMost 101 = .ok (.lreturn, 1) := by decide +kernel
theorem dX5_plan_0 : decode cX5_plan 0 = .ok (.aload_n 0, 1) := by decide +kernel
theorem dX5_plan_1 : decode cX5_plan 1 = .ok (.invokevirtual 145, 3) := by decide +kernel
theorem dX5_plan_4 : decode cX5_plan 4 = .ok (.aload_n 0, 1) := by decide +kernel
theorem dX5_plan_5 : decode cX5_plan 5 = .ok (.iconst 0, 1) := by decide +kernel
theorem dX5_plan_6 : decode cX5_plan 6 = .ok (.putfield 158, 3) := by decide +kernel
theorem dX5_plan_9 : decode cX5_plan 9 = .ok (.iconst 0, 1) := by decide +kernel
theorem dX5_plan_10 : decode cX5_plan 10 = .ok (.istore_n 1, 1) := by decide +kernel
theorem dX5_plan_11 : decode cX5_plan 11 = .ok (.iload_n 1, 1) := by decide +kernel
theorem dX5_plan_12 : decode cX5_plan 12 = .ok (.aload_n 0, 1) := by decide +kernel
theorem dX5_plan_13 : decode cX5_plan 13 = .ok (.getfield 94, 3) := by decide +kernel
theorem dX5_plan_16 : decode cX5_plan 16 = .ok (.if_icmp .ge 148, 3) := by decide +kernel
theorem dX5_plan_19 : decode cX5_plan 19 = .ok (.aload_n 0, 1) := by decide +kernel
theorem dX5_plan_20 : decode cX5_plan 20 = .ok (.iconst (-1), 1) := by decide +kernel
theorem dX5_plan_21 : decode cX5_plan 21 = .ok (.aload_n 0, 1) := by decide +kernel
theorem dX5_plan_22 : decode cX5_plan 22 = .ok (.getfield 62, 3) := by decide +kernel
theorem dX5_plan_25 : decode cX5_plan 25 = .ok (.iload_n 1, 1) := by decide +kernel
theorem dX5_plan_26 : decode cX5_plan 26 = .ok (.iaload, 1) := by decide +kernel
theorem dX5_plan_27 : decode cX5_plan 27 = .ok (.invokevirtual 161, 3) := by decide +kernel
theorem dX5_plan_30 : decode cX5_plan 30 = .ok (.istore_n 2, 1) := by decide +kernel
theorem dX5_plan_31 : decode cX5_plan 31 = .ok (.iload_n 2, 1) := by decide +kernel
theorem dX5_plan_32 : decode cX5_plan 32 = .ok (.iconst (-1), 1) := by decide +kernel
theorem dX5_plan_33 : decode cX5_plan 33 = .ok (.if_icmp .eq 125, 3) := by decide +kernel
theorem dX5_plan_36 : decode cX5_plan 36 = .ok (.aload_n 0, 1) := by decide +kernel
theorem dX5_plan_37 : decode cX5_plan 37 = .ok (.iload_n 1, 1) := by decide +kernel
theorem dX5_plan_38 : decode cX5_plan 38 = .ok (.iload_n 2, 1) := by decide +kernel
theorem dX5_plan_39 : decode cX5_plan 39 = .ok (.invokevirtual 164, 3) := by decide +kernel
theorem dX5_plan_42 : decode cX5_plan 42 = .ok (.lstore_n 3, 1) := by decide +kernel
theorem dX5_plan_43 : decode cX5_plan 43 = .ok (.lload_n 3, 1) := by decide +kernel
theorem dX5_plan_44 : decode cX5_plan 44 = .ok (.lconst 0, 1) := by decide +kernel
theorem dX5_plan_45 : decode cX5_plan 45 = .ok (.lcmp, 1) := by decide +kernel
theorem dX5_plan_46 : decode cX5_plan 46 = .ok (.ifCond .ne 6, 3) := by decide +kernel
theorem dX5_plan_49 : decode cX5_plan 49 = .ok (.goto 94, 3) := by decide +kernel
theorem dX5_plan_52 : decode cX5_plan 52 = .ok (.aload_n 0, 1) := by decide +kernel
theorem dX5_plan_53 : decode cX5_plan 53 = .ok (.getfield 65, 3) := by decide +kernel
theorem dX5_plan_56 : decode cX5_plan 56 = .ok (.iload_n 2, 1) := by decide +kernel
theorem dX5_plan_57 : decode cX5_plan 57 = .ok (.dup2, 1) := by decide +kernel
theorem dX5_plan_58 : decode cX5_plan 58 = .ok (.laload, 1) := by decide +kernel
theorem dX5_plan_59 : decode cX5_plan 59 = .ok (.lload_n 3, 1) := by decide +kernel
theorem dX5_plan_60 : decode cX5_plan 60 = .ok (.lsub, 1) := by decide +kernel
theorem dX5_plan_61 : decode cX5_plan 61 = .ok (.lastore, 1) := by decide +kernel
theorem dX5_plan_62 : decode cX5_plan 62 = .ok (.aload_n 0, 1) := by decide +kernel
theorem dX5_plan_63 : decode cX5_plan 63 = .ok (.getfield 58, 3) := by decide +kernel
theorem dX5_plan_66 : decode cX5_plan 66 = .ok (.iload_n 1, 1) := by decide +kernel
theorem dX5_plan_67 : decode cX5_plan 67 = .ok (.dup2, 1) := by decide +kernel
theorem dX5_plan_68 : decode cX5_plan 68 = .ok (.laload, 1) := by decide +kernel
theorem dX5_plan_69 : decode cX5_plan 69 = .ok (.lload_n 3, 1) := by decide +kernel
theorem dX5_plan_70 : decode cX5_plan 70 = .ok (.lsub, 1) := by decide +kernel
theorem dX5_plan_71 : decode cX5_plan 71 = .ok (.lastore, 1) := by decide +kernel
theorem dX5_plan_72 : decode cX5_plan 72 = .ok (.aload_n 0, 1) := by decide +kernel
theorem dX5_plan_73 : decode cX5_plan 73 = .ok (.getfield 68, 3) := by decide +kernel
theorem dX5_plan_76 : decode cX5_plan 76 = .ok (.aload_n 0, 1) := by decide +kernel
theorem dX5_plan_77 : decode cX5_plan 77 = .ok (.getfield 158, 3) := by decide +kernel
theorem dX5_plan_80 : decode cX5_plan 80 = .ok (.aload_n 0, 1) := by decide +kernel
theorem dX5_plan_81 : decode cX5_plan 81 = .ok (.getfield 52, 3) := by decide +kernel
theorem dX5_plan_84 : decode cX5_plan 84 = .ok (.iload_n 1, 1) := by decide +kernel
theorem dX5_plan_85 : decode cX5_plan 85 = .ok (.iaload, 1) := by decide +kernel
theorem dX5_plan_86 : decode cX5_plan 86 = .ok (.iastore, 1) := by decide +kernel
theorem dX5_plan_87 : decode cX5_plan 87 = .ok (.aload_n 0, 1) := by decide +kernel
theorem dX5_plan_88 : decode cX5_plan 88 = .ok (.getfield 71, 3) := by decide +kernel
theorem dX5_plan_91 : decode cX5_plan 91 = .ok (.aload_n 0, 1) := by decide +kernel
theorem dX5_plan_92 : decode cX5_plan 92 = .ok (.getfield 158, 3) := by decide +kernel
theorem dX5_plan_95 : decode cX5_plan 95 = .ok (.iload_n 1, 1) := by decide +kernel
theorem dX5_plan_96 : decode cX5_plan 96 = .ok (.iastore, 1) := by decide +kernel
theorem dX5_plan_97 : decode cX5_plan 97 = .ok (.aload_n 0, 1) := by decide +kernel
theorem dX5_plan_98 : decode cX5_plan 98 = .ok (.getfield 74, 3) := by decide +kernel
theorem dX5_plan_101 : decode cX5_plan 101 = .ok (.aload_n 0, 1) := by decide +kernel
theorem dX5_plan_102 : decode cX5_plan 102 = .ok (.getfield 158, 3) := by decide +kernel
theorem dX5_plan_105 : decode cX5_plan 105 = .ok (.aload_n 0, 1) := by decide +kernel
theorem dX5_plan_106 : decode cX5_plan 106 = .ok (.getfield 55, 3) := by decide +kernel
theorem dX5_plan_109 : decode cX5_plan 109 = .ok (.iload_n 1, 1) := by decide +kernel
theorem dX5_plan_110 : decode cX5_plan 110 = .ok (.iaload, 1) := by decide +kernel
theorem dX5_plan_111 : decode cX5_plan 111 = .ok (.iastore, 1) := by decide +kernel
theorem dX5_plan_112 : decode cX5_plan 112 = .ok (.aload_n 0, 1) := by decide +kernel
theorem dX5_plan_113 : decode cX5_plan 113 = .ok (.getfield 77, 3) := by decide +kernel
theorem dX5_plan_116 : decode cX5_plan 116 = .ok (.aload_n 0, 1) := by decide +kernel
theorem dX5_plan_117 : decode cX5_plan 117 = .ok (.getfield 158, 3) := by decide +kernel
theorem dX5_plan_120 : decode cX5_plan 120 = .ok (.iload_n 2, 1) := by decide +kernel
theorem dX5_plan_121 : decode cX5_plan 121 = .ok (.iastore, 1) := by decide +kernel
theorem dX5_plan_122 : decode cX5_plan 122 = .ok (.aload_n 0, 1) := by decide +kernel
theorem dX5_plan_123 : decode cX5_plan 123 = .ok (.getfield 80, 3) := by decide +kernel
theorem dX5_plan_126 : decode cX5_plan 126 = .ok (.aload_n 0, 1) := by decide +kernel
theorem dX5_plan_127 : decode cX5_plan 127 = .ok (.getfield 158, 3) := by decide +kernel
theorem dX5_plan_130 : decode cX5_plan 130 = .ok (.lload_n 3, 1) := by decide +kernel
theorem dX5_plan_131 : decode cX5_plan 131 = .ok (.l2i, 1) := by decide +kernel
theorem dX5_plan_132 : decode cX5_plan 132 = .ok (.iastore, 1) := by decide +kernel
theorem dX5_plan_133 : decode cX5_plan 133 = .ok (.aload_n 0, 1) := by decide +kernel
theorem dX5_plan_134 : decode cX5_plan 134 = .ok (.dup, 1) := by decide +kernel
theorem dX5_plan_135 : decode cX5_plan 135 = .ok (.getfield 158, 3) := by decide +kernel
theorem dX5_plan_138 : decode cX5_plan 138 = .ok (.iconst 1, 1) := by decide +kernel
theorem dX5_plan_139 : decode cX5_plan 139 = .ok (.iadd, 1) := by decide +kernel
theorem dX5_plan_140 : decode cX5_plan 140 = .ok (.putfield 158, 3) := by decide +kernel
theorem dX5_plan_143 : decode cX5_plan 143 = .ok (.aload_n 0, 1) := by decide +kernel
theorem dX5_plan_144 : decode cX5_plan 144 = .ok (.iload_n 2, 1) := by decide +kernel
theorem dX5_plan_145 : decode cX5_plan 145 = .ok (.aload_n 0, 1) := by decide +kernel
theorem dX5_plan_146 : decode cX5_plan 146 = .ok (.getfield 62, 3) := by decide +kernel
theorem dX5_plan_149 : decode cX5_plan 149 = .ok (.iload_n 1, 1) := by decide +kernel
theorem dX5_plan_150 : decode cX5_plan 150 = .ok (.iaload, 1) := by decide +kernel
theorem dX5_plan_151 : decode cX5_plan 151 = .ok (.invokevirtual 161, 3) := by decide +kernel
theorem dX5_plan_154 : decode cX5_plan 154 = .ok (.istore_n 2, 1) := by decide +kernel
theorem dX5_plan_155 : decode cX5_plan 155 = .ok (.goto (-124), 3) := by decide +kernel
theorem dX5_plan_158 : decode cX5_plan 158 = .ok (.iinc 1 1, 3) := by decide +kernel
theorem dX5_plan_161 : decode cX5_plan 161 = .ok (.goto (-150), 3) := by decide +kernel
theorem dX5_plan_164 : decode cX5_plan 164 = .ok (.return_, 1) := by decide +kernel
theorem dX5_bars_0 : decode cX5_bars 0 = .ok (.aload_n 0, 1) := by decide +kernel
theorem dX5_bars_1 : decode cX5_bars 1 = .ok (.iload_n 1, 1) := by decide +kernel
theorem dX5_bars_2 : decode cX5_bars 2 = .ok (.invokestatic 128, 3) := by decide +kernel
theorem dX5_bars_5 : decode cX5_bars 5 = .ok (.ifCond .eq 17, 3) := by decide +kernel
theorem dX5_bars_8 : decode cX5_bars 8 = .ok (.iload_n 2, 1) := by decide +kernel
theorem dX5_bars_9 : decode cX5_bars 9 = .ok (.iconst 0, 1) := by decide +kernel
theorem dX5_bars_10 : decode cX5_bars 10 = .ok (.bipush 99, 2) := by decide +kernel
theorem dX5_bars_12 : decode cX5_bars 12 = .ok (.invokestatic 87, 3) := by decide +kernel
theorem dX5_bars_15 : decode cX5_bars 15 = .ok (.ifCond .eq 7, 3) := by decide +kernel
theorem dX5_bars_18 : decode cX5_bars 18 = .ok (.iload_n 3, 1) := by decide +kernel
theorem dX5_bars_19 : decode cX5_bars 19 = .ok (.ifCond .ge 7, 3) := by decide +kernel
theorem dX5_bars_22 : decode cX5_bars 22 = .ok (.iconst 1, 1) := by decide +kernel
theorem dX5_bars_23 : decode cX5_bars 23 = .ok (.goto 16, 3) := by decide +kernel
theorem dX5_bars_26 : decode cX5_bars 26 = .ok (.aload_n 0, 1) := by decide +kernel
theorem dX5_bars_27 : decode cX5_bars 27 = .ok (.iload_n 1, 1) := by decide +kernel
theorem dX5_bars_28 : decode cX5_bars 28 = .ok (.invokevirtual 101, 3) := by decide +kernel
theorem dX5_bars_31 : decode cX5_bars 31 = .ok (.ifCond .eq 7, 3) := by decide +kernel
theorem dX5_bars_34 : decode cX5_bars 34 = .ok (.iconst 2, 1) := by decide +kernel
theorem dX5_bars_35 : decode cX5_bars 35 = .ok (.goto 4, 3) := by decide +kernel
theorem dX5_bars_38 : decode cX5_bars 38 = .ok (.iconst 0, 1) := by decide +kernel
theorem dX5_bars_39 : decode cX5_bars 39 = .ok (.putfield 83, 3) := by decide +kernel
theorem dX5_bars_42 : decode cX5_bars 42 = .ok (.aload_n 0, 1) := by decide +kernel
theorem dX5_bars_43 : decode cX5_bars 43 = .ok (.getfield 83, 3) := by decide +kernel
theorem dX5_bars_46 : decode cX5_bars 46 = .ok (.ifCond .le 5, 3) := by decide +kernel
theorem dX5_bars_49 : decode cX5_bars 49 = .ok (.iconst 0, 1) := by decide +kernel
theorem dX5_bars_50 : decode cX5_bars 50 = .ok (.ireturn, 1) := by decide +kernel
theorem dX5_bars_51 : decode cX5_bars 51 = .ok (.aload_n 0, 1) := by decide +kernel
theorem dX5_bars_52 : decode cX5_bars 52 = .ok (.invokevirtual 168, 3) := by decide +kernel
theorem dX5_bars_55 : decode cX5_bars 55 = .ok (.aload_n 0, 1) := by decide +kernel
theorem dX5_bars_56 : decode cX5_bars 56 = .ok (.iload_n 1, 1) := by decide +kernel
theorem dX5_bars_57 : decode cX5_bars 57 = .ok (.iload_n 2, 1) := by decide +kernel
theorem dX5_bars_58 : decode cX5_bars 58 = .ok (.invokevirtual 97, 3) := by decide +kernel
theorem dX5_bars_61 : decode cX5_bars 61 = .ok (.istore 4, 2) := by decide +kernel
theorem dX5_bars_63 : decode cX5_bars 63 = .ok (.iconst 0, 1) := by decide +kernel
theorem dX5_bars_64 : decode cX5_bars 64 = .ok (.istore 5, 2) := by decide +kernel
theorem dX5_bars_66 : decode cX5_bars 66 = .ok (.iconst 0, 1) := by decide +kernel
theorem dX5_bars_67 : decode cX5_bars 67 = .ok (.istore 6, 2) := by decide +kernel
theorem dX5_bars_69 : decode cX5_bars 69 = .ok (.iload 6, 2) := by decide +kernel
theorem dX5_bars_71 : decode cX5_bars 71 = .ok (.bipush 10, 2) := by decide +kernel
theorem dX5_bars_73 : decode cX5_bars 73 = .ok (.if_icmp .gt 76, 3) := by decide +kernel
theorem dX5_bars_76 : decode cX5_bars 76 = .ok (.iconst 0, 1) := by decide +kernel
theorem dX5_bars_77 : decode cX5_bars 77 = .ok (.istore 7, 2) := by decide +kernel
theorem dX5_bars_79 : decode cX5_bars 79 = .ok (.iload 7, 2) := by decide +kernel
theorem dX5_bars_81 : decode cX5_bars 81 = .ok (.aload_n 0, 1) := by decide +kernel
theorem dX5_bars_82 : decode cX5_bars 82 = .ok (.getfield 158, 3) := by decide +kernel
theorem dX5_bars_85 : decode cX5_bars 85 = .ok (.if_icmp .ge 58, 3) := by decide +kernel
theorem dX5_bars_88 : decode cX5_bars 88 = .ok (.iload 4, 2) := by decide +kernel
theorem dX5_bars_90 : decode cX5_bars 90 = .ok (.aload_n 0, 1) := by decide +kernel
theorem dX5_bars_91 : decode cX5_bars 91 = .ok (.getfield 77, 3) := by decide +kernel
theorem dX5_bars_94 : decode cX5_bars 94 = .ok (.iload 7, 2) := by decide +kernel
theorem dX5_bars_96 : decode cX5_bars 96 = .ok (.iaload, 1) := by decide +kernel
theorem dX5_bars_97 : decode cX5_bars 97 = .ok (.ishr, 1) := by decide +kernel
theorem dX5_bars_98 : decode cX5_bars 98 = .ok (.iconst 1, 1) := by decide +kernel
theorem dX5_bars_99 : decode cX5_bars 99 = .ok (.iand, 1) := by decide +kernel
theorem dX5_bars_100 : decode cX5_bars 100 = .ok (.ifCond .ne 6, 3) := by decide +kernel
theorem dX5_bars_103 : decode cX5_bars 103 = .ok (.goto 34, 3) := by decide +kernel
theorem dX5_bars_106 : decode cX5_bars 106 = .ok (.iload 4, 2) := by decide +kernel
theorem dX5_bars_108 : decode cX5_bars 108 = .ok (.aload_n 0, 1) := by decide +kernel
theorem dX5_bars_109 : decode cX5_bars 109 = .ok (.getfield 62, 3) := by decide +kernel
theorem dX5_bars_112 : decode cX5_bars 112 = .ok (.aload_n 0, 1) := by decide +kernel
theorem dX5_bars_113 : decode cX5_bars 113 = .ok (.getfield 71, 3) := by decide +kernel
theorem dX5_bars_116 : decode cX5_bars 116 = .ok (.iload 7, 2) := by decide +kernel
theorem dX5_bars_118 : decode cX5_bars 118 = .ok (.iaload, 1) := by decide +kernel
theorem dX5_bars_119 : decode cX5_bars 119 = .ok (.iaload, 1) := by decide +kernel
theorem dX5_bars_120 : decode cX5_bars 120 = .ok (.ior, 1) := by decide +kernel
theorem dX5_bars_121 : decode cX5_bars 121 = .ok (.istore 4, 2) := by decide +kernel
theorem dX5_bars_123 : decode cX5_bars 123 = .ok (.iload 5, 2) := by decide +kernel
theorem dX5_bars_125 : decode cX5_bars 125 = .ok (.iconst 1, 1) := by decide +kernel
theorem dX5_bars_126 : decode cX5_bars 126 = .ok (.aload_n 0, 1) := by decide +kernel
theorem dX5_bars_127 : decode cX5_bars 127 = .ok (.getfield 68, 3) := by decide +kernel
theorem dX5_bars_130 : decode cX5_bars 130 = .ok (.iload 7, 2) := by decide +kernel
theorem dX5_bars_132 : decode cX5_bars 132 = .ok (.iaload, 1) := by decide +kernel
theorem dX5_bars_133 : decode cX5_bars 133 = .ok (.ishl, 1) := by decide +kernel
theorem dX5_bars_134 : decode cX5_bars 134 = .ok (.ior, 1) := by decide +kernel
theorem dX5_bars_135 : decode cX5_bars 135 = .ok (.istore 5, 2) := by decide +kernel
theorem dX5_bars_137 : decode cX5_bars 137 = .ok (.iinc 7 1, 3) := by decide +kernel
theorem dX5_bars_140 : decode cX5_bars 140 = .ok (.goto (-61), 3) := by decide +kernel
theorem dX5_bars_143 : decode cX5_bars 143 = .ok (.iinc 6 1, 3) := by decide +kernel
theorem dX5_bars_146 : decode cX5_bars 146 = .ok (.goto (-77), 3) := by decide +kernel
theorem dX5_bars_149 : decode cX5_bars 149 = .ok (.iload_n 3, 1) := by decide +kernel
theorem dX5_bars_150 : decode cX5_bars 150 = .ok (.istore 6, 2) := by decide +kernel
theorem dX5_bars_152 : decode cX5_bars 152 = .ok (.iconst 0, 1) := by decide +kernel
theorem dX5_bars_153 : decode cX5_bars 153 = .ok (.istore 7, 2) := by decide +kernel
theorem dX5_bars_155 : decode cX5_bars 155 = .ok (.iload 7, 2) := by decide +kernel
theorem dX5_bars_157 : decode cX5_bars 157 = .ok (.aload_n 0, 1) := by decide +kernel
theorem dX5_bars_158 : decode cX5_bars 158 = .ok (.getfield 109, 3) := by decide +kernel
theorem dX5_bars_161 : decode cX5_bars 161 = .ok (.if_icmp .ge 33, 3) := by decide +kernel
theorem dX5_bars_164 : decode cX5_bars 164 = .ok (.iload 5, 2) := by decide +kernel
theorem dX5_bars_166 : decode cX5_bars 166 = .ok (.iload 7, 2) := by decide +kernel
theorem dX5_bars_168 : decode cX5_bars 168 = .ok (.ishr, 1) := by decide +kernel
theorem dX5_bars_169 : decode cX5_bars 169 = .ok (.iconst 1, 1) := by decide +kernel
theorem dX5_bars_170 : decode cX5_bars 170 = .ok (.iand, 1) := by decide +kernel
theorem dX5_bars_171 : decode cX5_bars 171 = .ok (.ifCond .ne 6, 3) := by decide +kernel
theorem dX5_bars_174 : decode cX5_bars 174 = .ok (.goto 14, 3) := by decide +kernel
theorem dX5_bars_177 : decode cX5_bars 177 = .ok (.iload 6, 2) := by decide +kernel
theorem dX5_bars_179 : decode cX5_bars 179 = .ok (.ifCond .ne 6, 3) := by decide +kernel
theorem dX5_bars_182 : decode cX5_bars 182 = .ok (.iload 7, 2) := by decide +kernel
theorem dX5_bars_184 : decode cX5_bars 184 = .ok (.ireturn, 1) := by decide +kernel
theorem dX5_bars_185 : decode cX5_bars 185 = .ok (.iinc 6 (-1), 3) := by decide +kernel
theorem dX5_bars_188 : decode cX5_bars 188 = .ok (.iinc 7 1, 3) := by decide +kernel
theorem dX5_bars_191 : decode cX5_bars 191 = .ok (.goto (-36), 3) := by decide +kernel
theorem dX5_bars_194 : decode cX5_bars 194 = .ok (.iconst (-1), 1) := by decide +kernel
theorem dX5_bars_195 : decode cX5_bars 195 = .ok (.ireturn, 1) := by decide +kernel
theorem dX5_flow_0 : decode cX5_flow 0 = .ok (.aload_n 0, 1) := by decide +kernel
theorem dX5_flow_1 : decode cX5_flow 1 = .ok (.aload_n 0, 1) := by decide +kernel
theorem dX5_flow_2 : decode cX5_flow 2 = .ok (.iload_n 1, 1) := by decide +kernel
theorem dX5_flow_3 : decode cX5_flow 3 = .ok (.invokevirtual 148, 3) := by decide +kernel
theorem dX5_flow_6 : decode cX5_flow 6 = .ok (.ifCond .ne 7, 3) := by decide +kernel
theorem dX5_flow_9 : decode cX5_flow 9 = .ok (.iconst 1, 1) := by decide +kernel
theorem dX5_flow_10 : decode cX5_flow 10 = .ok (.goto 21, 3) := by decide +kernel
theorem dX5_flow_13 : decode cX5_flow 13 = .ok (.iload_n 2, 1) := by decide +kernel
theorem dX5_flow_14 : decode cX5_flow 14 = .ok (.ifCond .lt 12, 3) := by decide +kernel
theorem dX5_flow_17 : decode cX5_flow 17 = .ok (.iload_n 3, 1) := by decide +kernel
theorem dX5_flow_18 : decode cX5_flow 18 = .ok (.iconst 0, 1) := by decide +kernel
theorem dX5_flow_19 : decode cX5_flow 19 = .ok (.iconst 2, 1) := by decide +kernel
theorem dX5_flow_20 : decode cX5_flow 20 = .ok (.invokestatic 87, 3) := by decide +kernel
theorem dX5_flow_23 : decode cX5_flow 23 = .ok (.ifCond .ne 7, 3) := by decide +kernel
theorem dX5_flow_26 : decode cX5_flow 26 = .ok (.iconst 2, 1) := by decide +kernel
theorem dX5_flow_27 : decode cX5_flow 27 = .ok (.goto 4, 3) := by decide +kernel
theorem dX5_flow_30 : decode cX5_flow 30 = .ok (.iconst 0, 1) := by decide +kernel
theorem dX5_flow_31 : decode cX5_flow 31 = .ok (.putfield 83, 3) := by decide +kernel
theorem dX5_flow_34 : decode cX5_flow 34 = .ok (.aload_n 0, 1) := by decide +kernel
theorem dX5_flow_35 : decode cX5_flow 35 = .ok (.getfield 83, 3) := by decide +kernel
theorem dX5_flow_38 : decode cX5_flow 38 = .ok (.ifCond .ne 21, 3) := by decide +kernel
theorem dX5_flow_41 : decode cX5_flow 41 = .ok (.aload_n 0, 1) := by decide +kernel
theorem dX5_flow_42 : decode cX5_flow 42 = .ok (.aload_n 0, 1) := by decide +kernel
theorem dX5_flow_43 : decode cX5_flow 43 = .ok (.getfield 49, 3) := by decide +kernel
theorem dX5_flow_46 : decode cX5_flow 46 = .ok (.iload_n 1, 1) := by decide +kernel
theorem dX5_flow_47 : decode cX5_flow 47 = .ok (.iaload, 1) := by decide +kernel
theorem dX5_flow_48 : decode cX5_flow 48 = .ok (.ifCond .eq 7, 3) := by decide +kernel
theorem dX5_flow_51 : decode cX5_flow 51 = .ok (.iconst 3, 1) := by decide +kernel
theorem dX5_flow_52 : decode cX5_flow 52 = .ok (.goto 4, 3) := by decide +kernel
theorem dX5_flow_55 : decode cX5_flow 55 = .ok (.iconst 0, 1) := by decide +kernel
theorem dX5_flow_56 : decode cX5_flow 56 = .ok (.putfield 83, 3) := by decide +kernel
theorem dX5_flow_59 : decode cX5_flow 59 = .ok (.aload_n 0, 1) := by decide +kernel
theorem dX5_flow_60 : decode cX5_flow 60 = .ok (.getfield 83, 3) := by decide +kernel
theorem dX5_flow_63 : decode cX5_flow 63 = .ok (.ifCond .le 5, 3) := by decide +kernel
theorem dX5_flow_66 : decode cX5_flow 66 = .ok (.iconst 0, 1) := by decide +kernel
theorem dX5_flow_67 : decode cX5_flow 67 = .ok (.ireturn, 1) := by decide +kernel
theorem dX5_flow_68 : decode cX5_flow 68 = .ok (.aload_n 0, 1) := by decide +kernel
theorem dX5_flow_69 : decode cX5_flow 69 = .ok (.invokevirtual 168, 3) := by decide +kernel
theorem dX5_flow_72 : decode cX5_flow 72 = .ok (.iload_n 2, 1) := by decide +kernel
theorem dX5_flow_73 : decode cX5_flow 73 = .ok (.istore 4, 2) := by decide +kernel
theorem dX5_flow_75 : decode cX5_flow 75 = .ok (.iconst 0, 1) := by decide +kernel
theorem dX5_flow_76 : decode cX5_flow 76 = .ok (.istore 5, 2) := by decide +kernel
theorem dX5_flow_78 : decode cX5_flow 78 = .ok (.iload 5, 2) := by decide +kernel
theorem dX5_flow_80 : decode cX5_flow 80 = .ok (.aload_n 0, 1) := by decide +kernel
theorem dX5_flow_81 : decode cX5_flow 81 = .ok (.getfield 158, 3) := by decide +kernel
theorem dX5_flow_84 : decode cX5_flow 84 = .ok (.if_icmp .ge 68, 3) := by decide +kernel
theorem dX5_flow_87 : decode cX5_flow 87 = .ok (.aload_n 0, 1) := by decide +kernel
theorem dX5_flow_88 : decode cX5_flow 88 = .ok (.getfield 68, 3) := by decide +kernel
theorem dX5_flow_91 : decode cX5_flow 91 = .ok (.iload 5, 2) := by decide +kernel
theorem dX5_flow_93 : decode cX5_flow 93 = .ok (.iaload, 1) := by decide +kernel
theorem dX5_flow_94 : decode cX5_flow 94 = .ok (.iload_n 1, 1) := by decide +kernel
theorem dX5_flow_95 : decode cX5_flow 95 = .ok (.if_icmp .eq 6, 3) := by decide +kernel
theorem dX5_flow_98 : decode cX5_flow 98 = .ok (.goto 48, 3) := by decide +kernel
theorem dX5_flow_101 : decode cX5_flow 101 = .ok (.iload 4, 2) := by decide +kernel
theorem dX5_flow_103 : decode cX5_flow 103 = .ok (.ifCond .ne 40, 3) := by decide +kernel
theorem dX5_flow_106 : decode cX5_flow 106 = .ok (.iload_n 3, 1) := by decide +kernel
theorem dX5_flow_107 : decode cX5_flow 107 = .ok (.ifCond .ne 13, 3) := by decide +kernel
theorem dX5_flow_110 : decode cX5_flow 110 = .ok (.aload_n 0, 1) := by decide +kernel
theorem dX5_flow_111 : decode cX5_flow 111 = .ok (.getfield 77, 3) := by decide +kernel
theorem dX5_flow_114 : decode cX5_flow 114 = .ok (.iload 5, 2) := by decide +kernel
theorem dX5_flow_116 : decode cX5_flow 116 = .ok (.iaload, 1) := by decide +kernel
theorem dX5_flow_117 : decode cX5_flow 117 = .ok (.goto 25, 3) := by decide +kernel
theorem dX5_flow_120 : decode cX5_flow 120 = .ok (.iload_n 3, 1) := by decide +kernel
theorem dX5_flow_121 : decode cX5_flow 121 = .ok (.iconst 1, 1) := by decide +kernel
theorem dX5_flow_122 : decode cX5_flow 122 = .ok (.if_icmp .ne 13, 3) := by decide +kernel
theorem dX5_flow_125 : decode cX5_flow 125 = .ok (.aload_n 0, 1) := by decide +kernel
theorem dX5_flow_126 : decode cX5_flow 126 = .ok (.getfield 74, 3) := by decide +kernel
theorem dX5_flow_129 : decode cX5_flow 129 = .ok (.iload 5, 2) := by decide +kernel
theorem dX5_flow_131 : decode cX5_flow 131 = .ok (.iaload, 1) := by decide +kernel
theorem dX5_flow_132 : decode cX5_flow 132 = .ok (.goto 10, 3) := by decide +kernel
theorem dX5_flow_135 : decode cX5_flow 135 = .ok (.aload_n 0, 1) := by decide +kernel
theorem dX5_flow_136 : decode cX5_flow 136 = .ok (.getfield 80, 3) := by decide +kernel
theorem dX5_flow_139 : decode cX5_flow 139 = .ok (.iload 5, 2) := by decide +kernel
theorem dX5_flow_141 : decode cX5_flow 141 = .ok (.iaload, 1) := by decide +kernel
theorem dX5_flow_142 : decode cX5_flow 142 = .ok (.ireturn, 1) := by decide +kernel
theorem dX5_flow_143 : decode cX5_flow 143 = .ok (.iinc 4 (-1), 3) := by decide +kernel
theorem dX5_flow_146 : decode cX5_flow 146 = .ok (.iinc 5 1, 3) := by decide +kernel
theorem dX5_flow_149 : decode cX5_flow 149 = .ok (.goto (-71), 3) := by decide +kernel
theorem dX5_flow_152 : decode cX5_flow 152 = .ok (.iconst (-1), 1) := by decide +kernel
theorem dX5_flow_153 : decode cX5_flow 153 = .ok (.ireturn, 1) := by decide +kernel
theorem dX5_state_0 : decode cX5_state 0 = .ok (.aload_n 0, 1) := by decide +kernel
theorem dX5_state_1 : decode cX5_state 1 = .ok (.aload_n 0, 1) := by decide +kernel
theorem dX5_state_2 : decode cX5_state 2 = .ok (.iload_n 1, 1) := by decide +kernel
theorem dX5_state_3 : decode cX5_state 3 = .ok (.invokevirtual 148, 3) := by decide +kernel
theorem dX5_state_6 : decode cX5_state 6 = .ok (.ifCond .eq 7, 3) := by decide +kernel
theorem dX5_state_9 : decode cX5_state 9 = .ok (.iconst 0, 1) := by decide +kernel
theorem dX5_state_10 : decode cX5_state 10 = .ok (.goto 4, 3) := by decide +kernel
theorem dX5_state_13 : decode cX5_state 13 = .ok (.iconst 1, 1) := by decide +kernel
theorem dX5_state_14 : decode cX5_state 14 = .ok (.putfield 83, 3) := by decide +kernel
theorem dX5_state_17 : decode cX5_state 17 = .ok (.aload_n 0, 1) := by decide +kernel
theorem dX5_state_18 : decode cX5_state 18 = .ok (.getfield 83, 3) := by decide +kernel
theorem dX5_state_21 : decode cX5_state 21 = .ok (.ifCond .le 7, 3) := by decide +kernel
theorem dX5_state_24 : decode cX5_state 24 = .ok (.iconst 0, 1) := by decide +kernel
theorem dX5_state_25 : decode cX5_state 25 = .ok (.goto 9, 3) := by decide +kernel
theorem dX5_state_28 : decode cX5_state 28 = .ok (.aload_n 0, 1) := by decide +kernel
theorem dX5_state_29 : decode cX5_state 29 = .ok (.getfield 49, 3) := by decide +kernel
theorem dX5_state_32 : decode cX5_state 32 = .ok (.iload_n 1, 1) := by decide +kernel
theorem dX5_state_33 : decode cX5_state 33 = .ok (.iaload, 1) := by decide +kernel
theorem dX5_state_34 : decode cX5_state 34 = .ok (.ireturn, 1) := by decide +kernel
theorem dX5_left_0 : decode cX5_left 0 = .ok (.aload_n 0, 1) := by decide +kernel
theorem dX5_left_1 : decode cX5_left 1 = .ok (.aload_n 0, 1) := by decide +kernel
theorem dX5_left_2 : decode cX5_left 2 = .ok (.iload_n 1, 1) := by decide +kernel
theorem dX5_left_3 : decode cX5_left 3 = .ok (.invokevirtual 136, 3) := by decide +kernel
theorem dX5_left_6 : decode cX5_left 6 = .ok (.ifCond .eq 7, 3) := by decide +kernel
theorem dX5_left_9 : decode cX5_left 9 = .ok (.iconst 0, 1) := by decide +kernel
theorem dX5_left_10 : decode cX5_left 10 = .ok (.goto 4, 3) := by decide +kernel
theorem dX5_left_13 : decode cX5_left 13 = .ok (.iconst 1, 1) := by decide +kernel
theorem dX5_left_14 : decode cX5_left 14 = .ok (.putfield 83, 3) := by decide +kernel
theorem dX5_left_17 : decode cX5_left 17 = .ok (.aload_n 0, 1) := by decide +kernel
theorem dX5_left_18 : decode cX5_left 18 = .ok (.getfield 83, 3) := by decide +kernel
theorem dX5_left_21 : decode cX5_left 21 = .ok (.ifCond .le 5, 3) := by decide +kernel
theorem dX5_left_24 : decode cX5_left 24 = .ok (.iconst 0, 1) := by decide +kernel
theorem dX5_left_25 : decode cX5_left 25 = .ok (.ireturn, 1) := by decide +kernel
theorem dX5_left_26 : decode cX5_left 26 = .ok (.aload_n 0, 1) := by decide +kernel
theorem dX5_left_27 : decode cX5_left 27 = .ok (.invokevirtual 168, 3) := by decide +kernel
theorem dX5_left_30 : decode cX5_left 30 = .ok (.aload_n 0, 1) := by decide +kernel
theorem dX5_left_31 : decode cX5_left 31 = .ok (.getfield 65, 3) := by decide +kernel
theorem dX5_left_34 : decode cX5_left 34 = .ok (.iload_n 1, 1) := by decide +kernel
theorem dX5_left_35 : decode cX5_left 35 = .ok (.laload, 1) := by decide +kernel
theorem dX5_left_36 : decode cX5_left 36 = .ok (.l2i, 1) := by decide +kernel
theorem dX5_left_37 : decode cX5_left 37 = .ok (.ireturn, 1) := by decide +kernel
theorem dX5_count_0 : decode cX5_count 0 = .ok (.aload_n 0, 1) := by decide +kernel
theorem dX5_count_1 : decode cX5_count 1 = .ok (.iconst 0, 1) := by decide +kernel
theorem dX5_count_2 : decode cX5_count 2 = .ok (.putfield 83, 3) := by decide +kernel
theorem dX5_count_5 : decode cX5_count 5 = .ok (.iload_n 1, 1) := by decide +kernel
theorem dX5_count_6 : decode cX5_count 6 = .ok (.ifCond .ne 8, 3) := by decide +kernel
theorem dX5_count_9 : decode cX5_count 9 = .ok (.aload_n 0, 1) := by decide +kernel
theorem dX5_count_10 : decode cX5_count 10 = .ok (.getfield 91, 3) := by decide +kernel
theorem dX5_count_13 : decode cX5_count 13 = .ok (.ireturn, 1) := by decide +kernel
theorem dX5_count_14 : decode cX5_count 14 = .ok (.iload_n 1, 1) := by decide +kernel
theorem dX5_count_15 : decode cX5_count 15 = .ok (.iconst 1, 1) := by decide +kernel
theorem dX5_count_16 : decode cX5_count 16 = .ok (.if_icmp .ne 8, 3) := by decide +kernel
theorem dX5_count_19 : decode cX5_count 19 = .ok (.aload_n 0, 1) := by decide +kernel
theorem dX5_count_20 : decode cX5_count 20 = .ok (.getfield 109, 3) := by decide +kernel
end
section
theorem dX5_count_23 : decode cX5_count 23 = .ok (.ireturn, 1) := by decide +kernel
theorem dX5_count_24 : decode cX5_count 24 = .ok (.iload_n 1, 1) := by decide +kernel
theorem dX5_count_25 : decode cX5_count 25 = .ok (.iconst 2, 1) := by decide +kernel
theorem dX5_count_26 : decode cX5_count 26 = .ok (.iconst 5, 1) := by decide +kernel
theorem dX5_count_27 : decode cX5_count 27 = .ok (.invokestatic 87, 3) := by decide +kernel
theorem dX5_count_30 : decode cX5_count 30 = .ok (.ifCond .ne 5, 3) := by decide +kernel
theorem dX5_count_33 : decode cX5_count 33 = .ok (.iconst (-1), 1) := by decide +kernel
theorem dX5_count_34 : decode cX5_count 34 = .ok (.ireturn, 1) := by decide +kernel
theorem dX5_count_35 : decode cX5_count 35 = .ok (.lconst 0, 1) := by decide +kernel
theorem dX5_count_36 : decode cX5_count 36 = .ok (.lstore_n 2, 1) := by decide +kernel
theorem dX5_count_37 : decode cX5_count 37 = .ok (.iconst 0, 1) := by decide +kernel
theorem dX5_count_38 : decode cX5_count 38 = .ok (.istore 4, 2) := by decide +kernel
theorem dX5_count_40 : decode cX5_count 40 = .ok (.iload 4, 2) := by decide +kernel
theorem dX5_count_42 : decode cX5_count 42 = .ok (.aload_n 0, 1) := by decide +kernel
theorem dX5_count_43 : decode cX5_count 43 = .ok (.getfield 109, 3) := by decide +kernel
theorem dX5_count_46 : decode cX5_count 46 = .ok (.if_icmp .ge 35, 3) := by decide +kernel
theorem dX5_count_49 : decode cX5_count 49 = .ok (.iload_n 1, 1) := by decide +kernel
theorem dX5_count_50 : decode cX5_count 50 = .ok (.iconst 4, 1) := by decide +kernel
theorem dX5_count_51 : decode cX5_count 51 = .ok (.if_icmp .ge 30, 3) := by decide +kernel
theorem dX5_count_54 : decode cX5_count 54 = .ok (.lload_n 2, 1) := by decide +kernel
theorem dX5_count_55 : decode cX5_count 55 = .ok (.aload_n 0, 1) := by decide +kernel
theorem dX5_count_56 : decode cX5_count 56 = .ok (.getfield 49, 3) := by decide +kernel
theorem dX5_count_59 : decode cX5_count 59 = .ok (.iload 4, 2) := by decide +kernel
theorem dX5_count_61 : decode cX5_count 61 = .ok (.iaload, 1) := by decide +kernel
theorem dX5_count_62 : decode cX5_count 62 = .ok (.iload_n 1, 1) := by decide +kernel
theorem dX5_count_63 : decode cX5_count 63 = .ok (.iconst 2, 1) := by decide +kernel
theorem dX5_count_64 : decode cX5_count 64 = .ok (.isub, 1) := by decide +kernel
theorem dX5_count_65 : decode cX5_count 65 = .ok (.if_icmp .ne 7, 3) := by decide +kernel
theorem dX5_count_68 : decode cX5_count 68 = .ok (.lconst 1, 1) := by decide +kernel
theorem dX5_count_69 : decode cX5_count 69 = .ok (.goto 4, 3) := by decide +kernel
theorem dX5_count_72 : decode cX5_count 72 = .ok (.lconst 0, 1) := by decide +kernel
theorem dX5_count_73 : decode cX5_count 73 = .ok (.ladd, 1) := by decide +kernel
theorem dX5_count_74 : decode cX5_count 74 = .ok (.lstore_n 2, 1) := by decide +kernel
theorem dX5_count_75 : decode cX5_count 75 = .ok (.iinc 4 1, 3) := by decide +kernel
theorem dX5_count_78 : decode cX5_count 78 = .ok (.goto (-38), 3) := by decide +kernel
theorem dX5_count_81 : decode cX5_count 81 = .ok (.iconst 0, 1) := by decide +kernel
theorem dX5_count_82 : decode cX5_count 82 = .ok (.istore 4, 2) := by decide +kernel
theorem dX5_count_84 : decode cX5_count 84 = .ok (.iload 4, 2) := by decide +kernel
theorem dX5_count_86 : decode cX5_count 86 = .ok (.aload_n 0, 1) := by decide +kernel
theorem dX5_count_87 : decode cX5_count 87 = .ok (.getfield 91, 3) := by decide +kernel
theorem dX5_count_90 : decode cX5_count 90 = .ok (.if_icmp .ge 33, 3) := by decide +kernel
theorem dX5_count_93 : decode cX5_count 93 = .ok (.iload_n 1, 1) := by decide +kernel
theorem dX5_count_94 : decode cX5_count 94 = .ok (.iconst 4, 1) := by decide +kernel
theorem dX5_count_95 : decode cX5_count 95 = .ok (.if_icmp .ne 28, 3) := by decide +kernel
theorem dX5_count_98 : decode cX5_count 98 = .ok (.lload_n 2, 1) := by decide +kernel
theorem dX5_count_99 : decode cX5_count 99 = .ok (.aload_n 0, 1) := by decide +kernel
theorem dX5_count_100 : decode cX5_count 100 = .ok (.getfield 31, 3) := by decide +kernel
theorem dX5_count_103 : decode cX5_count 103 = .ok (.iload 4, 2) := by decide +kernel
theorem dX5_count_105 : decode cX5_count 105 = .ok (.iaload, 1) := by decide +kernel
theorem dX5_count_106 : decode cX5_count 106 = .ok (.aload_n 0, 1) := by decide +kernel
theorem dX5_count_107 : decode cX5_count 107 = .ok (.getfield 34, 3) := by decide +kernel
theorem dX5_count_110 : decode cX5_count 110 = .ok (.iload 4, 2) := by decide +kernel
theorem dX5_count_112 : decode cX5_count 112 = .ok (.iaload, 1) := by decide +kernel
theorem dX5_count_113 : decode cX5_count 113 = .ok (.isub, 1) := by decide +kernel
theorem dX5_count_114 : decode cX5_count 114 = .ok (.i2l, 1) := by decide +kernel
theorem dX5_count_115 : decode cX5_count 115 = .ok (.ladd, 1) := by decide +kernel
theorem dX5_count_116 : decode cX5_count 116 = .ok (.lstore_n 2, 1) := by decide +kernel
theorem dX5_count_117 : decode cX5_count 117 = .ok (.iinc 4 1, 3) := by decide +kernel
theorem dX5_count_120 : decode cX5_count 120 = .ok (.goto (-36), 3) := by decide +kernel
theorem dX5_count_123 : decode cX5_count 123 = .ok (.iload_n 1, 1) := by decide +kernel
theorem dX5_count_124 : decode cX5_count 124 = .ok (.iconst 5, 1) := by decide +kernel
theorem dX5_count_125 : decode cX5_count 125 = .ok (.if_icmp .ne 35, 3) := by decide +kernel
theorem dX5_count_128 : decode cX5_count 128 = .ok (.aload_n 0, 1) := by decide +kernel
theorem dX5_count_129 : decode cX5_count 129 = .ok (.invokevirtual 145, 3) := by decide +kernel
theorem dX5_count_132 : decode cX5_count 132 = .ok (.iconst 0, 1) := by decide +kernel
theorem dX5_count_133 : decode cX5_count 133 = .ok (.istore 4, 2) := by decide +kernel
theorem dX5_count_135 : decode cX5_count 135 = .ok (.iload 4, 2) := by decide +kernel
theorem dX5_count_137 : decode cX5_count 137 = .ok (.aload_n 0, 1) := by decide +kernel
theorem dX5_count_138 : decode cX5_count 138 = .ok (.getfield 94, 3) := by decide +kernel
theorem dX5_count_141 : decode cX5_count 141 = .ok (.if_icmp .ge 19, 3) := by decide +kernel
theorem dX5_count_144 : decode cX5_count 144 = .ok (.lload_n 2, 1) := by decide +kernel
theorem dX5_count_145 : decode cX5_count 145 = .ok (.aload_n 0, 1) := by decide +kernel
theorem dX5_count_146 : decode cX5_count 146 = .ok (.getfield 58, 3) := by decide +kernel
theorem dX5_count_149 : decode cX5_count 149 = .ok (.iload 4, 2) := by decide +kernel
theorem dX5_count_151 : decode cX5_count 151 = .ok (.laload, 1) := by decide +kernel
theorem dX5_count_152 : decode cX5_count 152 = .ok (.ladd, 1) := by decide +kernel
theorem dX5_count_153 : decode cX5_count 153 = .ok (.lstore_n 2, 1) := by decide +kernel
theorem dX5_count_154 : decode cX5_count 154 = .ok (.iinc 4 1, 3) := by decide +kernel
theorem dX5_count_157 : decode cX5_count 157 = .ok (.goto (-22), 3) := by decide +kernel
theorem dX5_count_160 : decode cX5_count 160 = .ok (.lload_n 2, 1) := by decide +kernel
theorem dX5_count_161 : decode cX5_count 161 = .ok (.l2i, 1) := by decide +kernel
theorem dX5_count_162 : decode cX5_count 162 = .ok (.ireturn, 1) := by decide +kernel
theorem dX0_init_0 : decode cX0_init 0 = .ok (.aload_n 0, 1) := by decide +kernel
theorem dX0_init_1 : decode cX0_init 1 = .ok (.invokespecial 3, 3) := by decide +kernel
theorem dX0_init_4 : decode cX0_init 4 = .ok (.aload_n 0, 1) := by decide +kernel
theorem dX0_init_5 : decode cX0_init 5 = .ok (.iconst 0, 1) := by decide +kernel
theorem dX0_init_6 : decode cX0_init 6 = .ok (.putfield 9, 3) := by decide +kernel
theorem dX0_init_9 : decode cX0_init 9 = .ok (.aload_n 0, 1) := by decide +kernel
theorem dX0_init_10 : decode cX0_init 10 = .ok (.bipush 10, 2) := by decide +kernel
theorem dX0_init_12 : decode cX0_init 12 = .ok (.newarray .int, 2) := by decide +kernel
theorem dX0_init_14 : decode cX0_init 14 = .ok (.putfield 15, 3) := by decide +kernel
theorem dX0_init_17 : decode cX0_init 17 = .ok (.aload_n 0, 1) := by decide +kernel
theorem dX0_init_18 : decode cX0_init 18 = .ok (.bipush 10, 2) := by decide +kernel
theorem dX0_init_20 : decode cX0_init 20 = .ok (.newarray .int, 2) := by decide +kernel
theorem dX0_init_22 : decode cX0_init 22 = .ok (.putfield 19, 3) := by decide +kernel
theorem dX0_init_25 : decode cX0_init 25 = .ok (.aload_n 0, 1) := by decide +kernel
theorem dX0_init_26 : decode cX0_init 26 = .ok (.bipush 10, 2) := by decide +kernel
theorem dX0_init_28 : decode cX0_init 28 = .ok (.newarray .int, 2) := by decide +kernel
theorem dX0_init_30 : decode cX0_init 30 = .ok (.putfield 22, 3) := by decide +kernel
theorem dX0_init_33 : decode cX0_init 33 = .ok (.aload_n 0, 1) := by decide +kernel
theorem dX0_init_34 : decode cX0_init 34 = .ok (.bipush 10, 2) := by decide +kernel
theorem dX0_init_36 : decode cX0_init 36 = .ok (.newarray .int, 2) := by decide +kernel
theorem dX0_init_38 : decode cX0_init 38 = .ok (.putfield 25, 3) := by decide +kernel
theorem dX0_init_41 : decode cX0_init 41 = .ok (.return_, 1) := by decide +kernel
theorem dX0_add_0 : decode cX0_add 0 = .ok (.aload_n 0, 1) := by decide +kernel
theorem dX0_add_1 : decode cX0_add 1 = .ok (.getfield 15, 3) := by decide +kernel
theorem dX0_add_4 : decode cX0_add 4 = .ok (.aload_n 0, 1) := by decide +kernel
theorem dX0_add_5 : decode cX0_add 5 = .ok (.getfield 9, 3) := by decide +kernel
theorem dX0_add_8 : decode cX0_add 8 = .ok (.iload_n 1, 1) := by decide +kernel
theorem dX0_add_9 : decode cX0_add 9 = .ok (.iastore, 1) := by decide +kernel
theorem dX0_add_10 : decode cX0_add 10 = .ok (.aload_n 0, 1) := by decide +kernel
theorem dX0_add_11 : decode cX0_add 11 = .ok (.getfield 19, 3) := by decide +kernel
theorem dX0_add_14 : decode cX0_add 14 = .ok (.aload_n 0, 1) := by decide +kernel
theorem dX0_add_15 : decode cX0_add 15 = .ok (.getfield 9, 3) := by decide +kernel
theorem dX0_add_18 : decode cX0_add 18 = .ok (.iload_n 2, 1) := by decide +kernel
theorem dX0_add_19 : decode cX0_add 19 = .ok (.iastore, 1) := by decide +kernel
theorem dX0_add_20 : decode cX0_add 20 = .ok (.aload_n 0, 1) := by decide +kernel
theorem dX0_add_21 : decode cX0_add 21 = .ok (.getfield 22, 3) := by decide +kernel
theorem dX0_add_24 : decode cX0_add 24 = .ok (.aload_n 0, 1) := by decide +kernel
theorem dX0_add_25 : decode cX0_add 25 = .ok (.getfield 9, 3) := by decide +kernel
theorem dX0_add_28 : decode cX0_add 28 = .ok (.iload_n 3, 1) := by decide +kernel
theorem dX0_add_29 : decode cX0_add 29 = .ok (.iastore, 1) := by decide +kernel
theorem dX0_add_30 : decode cX0_add 30 = .ok (.aload_n 0, 1) := by decide +kernel
theorem dX0_add_31 : decode cX0_add 31 = .ok (.dup, 1) := by decide +kernel
theorem dX0_add_32 : decode cX0_add 32 = .ok (.getfield 9, 3) := by decide +kernel
theorem dX0_add_35 : decode cX0_add 35 = .ok (.iconst 1, 1) := by decide +kernel
theorem dX0_add_36 : decode cX0_add 36 = .ok (.iadd, 1) := by decide +kernel
theorem dX0_add_37 : decode cX0_add 37 = .ok (.putfield 9, 3) := by decide +kernel
theorem dX0_add_40 : decode cX0_add 40 = .ok (.aload_n 0, 1) := by decide +kernel
theorem dX0_add_41 : decode cX0_add 41 = .ok (.getfield 9, 3) := by decide +kernel
theorem dX0_add_44 : decode cX0_add 44 = .ok (.iconst 1, 1) := by decide +kernel
theorem dX0_add_45 : decode cX0_add 45 = .ok (.isub, 1) := by decide +kernel
theorem dX0_add_46 : decode cX0_add 46 = .ok (.ireturn, 1) := by decide +kernel
theorem dX0_has_0 : decode cX0_has 0 = .ok (.iconst 0, 1) := by decide +kernel
theorem dX0_has_1 : decode cX0_has 1 = .ok (.istore_n 2, 1) := by decide +kernel
theorem dX0_has_2 : decode cX0_has 2 = .ok (.iload_n 2, 1) := by decide +kernel
theorem dX0_has_3 : decode cX0_has 3 = .ok (.aload_n 0, 1) := by decide +kernel
theorem dX0_has_4 : decode cX0_has 4 = .ok (.getfield 9, 3) := by decide +kernel
theorem dX0_has_7 : decode cX0_has 7 = .ok (.if_icmp .ge 21, 3) := by decide +kernel
theorem dX0_has_10 : decode cX0_has 10 = .ok (.aload_n 0, 1) := by decide +kernel
theorem dX0_has_11 : decode cX0_has 11 = .ok (.getfield 19, 3) := by decide +kernel
theorem dX0_has_14 : decode cX0_has 14 = .ok (.iload_n 2, 1) := by decide +kernel
theorem dX0_has_15 : decode cX0_has 15 = .ok (.iaload, 1) := by decide +kernel
theorem dX0_has_16 : decode cX0_has 16 = .ok (.iload_n 1, 1) := by decide +kernel
theorem dX0_has_17 : decode cX0_has 17 = .ok (.if_icmp .ne 5, 3) := by decide +kernel
theorem dX0_has_20 : decode cX0_has 20 = .ok (.iconst 1, 1) := by decide +kernel
theorem dX0_has_21 : decode cX0_has 21 = .ok (.ireturn, 1) := by decide +kernel
theorem dX0_has_22 : decode cX0_has 22 = .ok (.iinc 2 1, 3) := by decide +kernel
theorem dX0_has_25 : decode cX0_has 25 = .ok (.goto (-23), 3) := by decide +kernel
theorem dX0_has_28 : decode cX0_has 28 = .ok (.iconst 0, 1) := by decide +kernel
theorem dX0_has_29 : decode cX0_has 29 = .ok (.ireturn, 1) := by decide +kernel
theorem dX0_free_0 : decode cX0_free 0 = .ok (.aload_n 0, 1) := by decide +kernel
theorem dX0_free_1 : decode cX0_free 1 = .ok (.getfield 22, 3) := by decide +kernel
theorem dX0_free_4 : decode cX0_free 4 = .ok (.iload_n 1, 1) := by decide +kernel
theorem dX0_free_5 : decode cX0_free 5 = .ok (.iaload, 1) := by decide +kernel
theorem dX0_free_6 : decode cX0_free 6 = .ok (.aload_n 0, 1) := by decide +kernel
theorem dX0_free_7 : decode cX0_free 7 = .ok (.getfield 25, 3) := by decide +kernel
theorem dX0_free_10 : decode cX0_free 10 = .ok (.iload_n 1, 1) := by decide +kernel
theorem dX0_free_11 : decode cX0_free 11 = .ok (.iaload, 1) := by decide +kernel
theorem dX0_free_12 : decode cX0_free 12 = .ok (.isub, 1) := by decide +kernel
theorem dX0_free_13 : decode cX0_free 13 = .ok (.ireturn, 1) := by decide +kernel
theorem dX0_allFree_0 : decode cX0_allFree 0 = .ok (.iconst 0, 1) := by decide +kernel
theorem dX0_allFree_1 : decode cX0_allFree 1 = .ok (.istore_n 1, 1) := by decide +kernel
theorem dX0_allFree_2 : decode cX0_allFree 2 = .ok (.iconst 0, 1) := by decide +kernel
theorem dX0_allFree_3 : decode cX0_allFree 3 = .ok (.istore_n 2, 1) := by decide +kernel
theorem dX0_allFree_4 : decode cX0_allFree 4 = .ok (.iload_n 2, 1) := by decide +kernel
theorem dX0_allFree_5 : decode cX0_allFree 5 = .ok (.aload_n 0, 1) := by decide +kernel
theorem dX0_allFree_6 : decode cX0_allFree 6 = .ok (.getfield 9, 3) := by decide +kernel
theorem dX0_allFree_9 : decode cX0_allFree 9 = .ok (.if_icmp .ge 17, 3) := by decide +kernel
theorem dX0_allFree_12 : decode cX0_allFree 12 = .ok (.iload_n 1, 1) := by decide +kernel
theorem dX0_allFree_13 : decode cX0_allFree 13 = .ok (.aload_n 0, 1) := by decide +kernel
theorem dX0_allFree_14 : decode cX0_allFree 14 = .ok (.iload_n 2, 1) := by decide +kernel
theorem dX0_allFree_15 : decode cX0_allFree 15 = .ok (.invokevirtual 28, 3) := by decide +kernel
theorem dX0_allFree_18 : decode cX0_allFree 18 = .ok (.iadd, 1) := by decide +kernel
theorem dX0_allFree_19 : decode cX0_allFree 19 = .ok (.istore_n 1, 1) := by decide +kernel
theorem dX0_allFree_20 : decode cX0_allFree 20 = .ok (.iinc 2 1, 3) := by decide +kernel
theorem dX0_allFree_23 : decode cX0_allFree 23 = .ok (.goto (-19), 3) := by decide +kernel
theorem dX0_allFree_26 : decode cX0_allFree 26 = .ok (.iload_n 1, 1) := by decide +kernel
theorem dX0_allFree_27 : decode cX0_allFree 27 = .ok (.ireturn, 1) := by decide +kernel
theorem dX0_broughtBy_0 : decode cX0_broughtBy 0 = .ok (.iconst 0, 1) := by decide +kernel
theorem dX0_broughtBy_1 : decode cX0_broughtBy 1 = .ok (.istore_n 2, 1) := by decide +kernel
theorem dX0_broughtBy_2 : decode cX0_broughtBy 2 = .ok (.iconst 0, 1) := by decide +kernel
theorem dX0_broughtBy_3 : decode cX0_broughtBy 3 = .ok (.istore_n 3, 1) := by decide +kernel
theorem dX0_broughtBy_4 : decode cX0_broughtBy 4 = .ok (.iload_n 3, 1) := by decide +kernel
theorem dX0_broughtBy_5 : decode cX0_broughtBy 5 = .ok (.aload_n 0, 1) := by decide +kernel
theorem dX0_broughtBy_6 : decode cX0_broughtBy 6 = .ok (.getfield 9, 3) := by decide +kernel
theorem dX0_broughtBy_9 : decode cX0_broughtBy 9 = .ok (.if_icmp .ge 26, 3) := by decide +kernel
theorem dX0_broughtBy_12 : decode cX0_broughtBy 12 = .ok (.iload_n 1, 1) := by decide +kernel
theorem dX0_broughtBy_13 : decode cX0_broughtBy 13 = .ok (.iload_n 3, 1) := by decide +kernel
theorem dX0_broughtBy_14 : decode cX0_broughtBy 14 = .ok (.invokestatic 32, 3) := by decide +kernel
theorem dX0_broughtBy_17 : decode cX0_broughtBy 17 = .ok (.ifCond .eq 12, 3) := by decide +kernel
theorem dX0_broughtBy_20 : decode cX0_broughtBy 20 = .ok (.iload_n 2, 1) := by decide +kernel
theorem dX0_broughtBy_21 : decode cX0_broughtBy 21 = .ok (.aload_n 0, 1) := by decide +kernel
theorem dX0_broughtBy_22 : decode cX0_broughtBy 22 = .ok (.getfield 22, 3) := by decide +kernel
theorem dX0_broughtBy_25 : decode cX0_broughtBy 25 = .ok (.iload_n 3, 1) := by decide +kernel
theorem dX0_broughtBy_26 : decode cX0_broughtBy 26 = .ok (.iaload, 1) := by decide +kernel
theorem dX0_broughtBy_27 : decode cX0_broughtBy 27 = .ok (.iadd, 1) := by decide +kernel
theorem dX0_broughtBy_28 : decode cX0_broughtBy 28 = .ok (.istore_n 2, 1) := by decide +kernel
theorem dX0_broughtBy_29 : decode cX0_broughtBy 29 = .ok (.iinc 3 1, 3) := by decide +kernel
theorem dX0_broughtBy_32 : decode cX0_broughtBy 32 = .ok (.goto (-28), 3) := by decide +kernel
theorem dX0_broughtBy_35 : decode cX0_broughtBy 35 = .ok (.iload_n 2, 1) := by decide +kernel
theorem dX0_broughtBy_36 : decode cX0_broughtBy 36 = .ok (.ireturn, 1) := by decide +kernel
theorem dX0_sortByTime_0 : decode cX0_sortByTime 0 = .ok (.iconst 0, 1) := by decide +kernel
theorem dX0_sortByTime_1 : decode cX0_sortByTime 1 = .ok (.istore_n 2, 1) := by decide +kernel
theorem dX0_sortByTime_2 : decode cX0_sortByTime 2 = .ok (.iload_n 2, 1) := by decide +kernel
theorem dX0_sortByTime_3 : decode cX0_sortByTime 3 = .ok (.aload_n 0, 1) := by decide +kernel
theorem dX0_sortByTime_4 : decode cX0_sortByTime 4 = .ok (.getfield 9, 3) := by decide +kernel
theorem dX0_sortByTime_7 : decode cX0_sortByTime 7 = .ok (.if_icmp .ge 52, 3) := by decide +kernel
theorem dX0_sortByTime_10 : decode cX0_sortByTime 10 = .ok (.iload_n 2, 1) := by decide +kernel
theorem dX0_sortByTime_11 : decode cX0_sortByTime 11 = .ok (.istore_n 3, 1) := by decide +kernel
theorem dX0_sortByTime_12 : decode cX0_sortByTime 12 = .ok (.iload_n 3, 1) := by decide +kernel
theorem dX0_sortByTime_13 : decode cX0_sortByTime 13 = .ok (.ifCond .le 36, 3) := by decide +kernel
theorem dX0_sortByTime_16 : decode cX0_sortByTime 16 = .ok (.aload_n 0, 1) := by decide +kernel
theorem dX0_sortByTime_17 : decode cX0_sortByTime 17 = .ok (.getfield 15, 3) := by decide +kernel
theorem dX0_sortByTime_20 : decode cX0_sortByTime 20 = .ok (.aload_n 1, 1) := by decide +kernel
theorem dX0_sortByTime_21 : decode cX0_sortByTime 21 = .ok (.iload_n 3, 1) := by decide +kernel
theorem dX0_sortByTime_22 : decode cX0_sortByTime 22 = .ok (.iconst 1, 1) := by decide +kernel
theorem dX0_sortByTime_23 : decode cX0_sortByTime 23 = .ok (.isub, 1) := by decide +kernel
theorem dX0_sortByTime_24 : decode cX0_sortByTime 24 = .ok (.iaload, 1) := by decide +kernel
theorem dX0_sortByTime_25 : decode cX0_sortByTime 25 = .ok (.iaload, 1) := by decide +kernel
theorem dX0_sortByTime_26 : decode cX0_sortByTime 26 = .ok (.aload_n 0, 1) := by decide +kernel
theorem dX0_sortByTime_27 : decode cX0_sortByTime 27 = .ok (.getfield 15, 3) := by decide +kernel
theorem dX0_sortByTime_30 : decode cX0_sortByTime 30 = .ok (.iload_n 2, 1) := by decide +kernel
theorem dX0_sortByTime_31 : decode cX0_sortByTime 31 = .ok (.iaload, 1) := by decide +kernel
theorem dX0_sortByTime_32 : decode cX0_sortByTime 32 = .ok (.if_icmp .le 17, 3) := by decide +kernel
theorem dX0_sortByTime_35 : decode cX0_sortByTime 35 = .ok (.aload_n 1, 1) := by decide +kernel
theorem dX0_sortByTime_36 : decode cX0_sortByTime 36 = .ok (.iload_n 3, 1) := by decide +kernel
theorem dX0_sortByTime_37 : decode cX0_sortByTime 37 = .ok (.aload_n 1, 1) := by decide +kernel
theorem dX0_sortByTime_38 : decode cX0_sortByTime 38 = .ok (.iload_n 3, 1) := by decide +kernel
theorem dX0_sortByTime_39 : decode cX0_sortByTime 39 = .ok (.iconst 1, 1) := by decide +kernel
theorem dX0_sortByTime_40 : decode cX0_sortByTime 40 = .ok (.isub, 1) := by decide +kernel
theorem dX0_sortByTime_41 : decode cX0_sortByTime 41 = .ok (.iaload, 1) := by decide +kernel
theorem dX0_sortByTime_42 : decode cX0_sortByTime 42 = .ok (.iastore, 1) := by decide +kernel
theorem dX0_sortByTime_43 : decode cX0_sortByTime 43 = .ok (.iinc 3 (-1), 3) := by decide +kernel
theorem dX0_sortByTime_46 : decode cX0_sortByTime 46 = .ok (.goto (-34), 3) := by decide +kernel
theorem dX0_sortByTime_49 : decode cX0_sortByTime 49 = .ok (.aload_n 1, 1) := by decide +kernel
theorem dX0_sortByTime_50 : decode cX0_sortByTime 50 = .ok (.iload_n 3, 1) := by decide +kernel
theorem dX0_sortByTime_51 : decode cX0_sortByTime 51 = .ok (.iload_n 2, 1) := by decide +kernel
theorem dX0_sortByTime_52 : decode cX0_sortByTime 52 = .ok (.iastore, 1) := by decide +kernel
theorem dX0_sortByTime_53 : decode cX0_sortByTime 53 = .ok (.iinc 2 1, 3) := by decide +kernel
theorem dX0_sortByTime_56 : decode cX0_sortByTime 56 = .ok (.goto (-54), 3) := by decide +kernel
theorem dX0_sortByTime_59 : decode cX0_sortByTime 59 = .ok (.return_, 1) := by decide +kernel
theorem dX1_init_0 : decode cX1_init 0 = .ok (.aload_n 0, 1) := by decide +kernel
theorem dX1_init_1 : decode cX1_init 1 = .ok (.invokespecial 3, 3) := by decide +kernel
theorem dX1_init_4 : decode cX1_init 4 = .ok (.aload_n 0, 1) := by decide +kernel
theorem dX1_init_5 : decode cX1_init 5 = .ok (.bipush 6, 2) := by decide +kernel
theorem dX1_init_7 : decode cX1_init 7 = .ok (.newarray .int, 2) := by decide +kernel
theorem dX1_init_9 : decode cX1_init 9 = .ok (.putfield 9, 3) := by decide +kernel
theorem dX1_init_12 : decode cX1_init 12 = .ok (.aload_n 0, 1) := by decide +kernel
theorem dX1_init_13 : decode cX1_init 13 = .ok (.bipush 36, 2) := by decide +kernel
theorem dX1_init_15 : decode cX1_init 15 = .ok (.newarray .boolean, 2) := by decide +kernel
theorem dX1_init_17 : decode cX1_init 17 = .ok (.putfield 15, 3) := by decide +kernel
theorem dX1_init_20 : decode cX1_init 20 = .ok (.aload_n 0, 1) := by decide +kernel
theorem dX1_init_21 : decode cX1_init 21 = .ok (.bipush 6, 2) := by decide +kernel
theorem dX1_init_23 : decode cX1_init 23 = .ok (.newarray .int, 2) := by decide +kernel
theorem dX1_init_25 : decode cX1_init 25 = .ok (.putfield 19, 3) := by decide +kernel
theorem dX1_init_28 : decode cX1_init 28 = .ok (.aload_n 0, 1) := by decide +kernel
theorem dX1_init_29 : decode cX1_init 29 = .ok (.bipush 18, 2) := by decide +kernel
theorem dX1_init_31 : decode cX1_init 31 = .ok (.newarray .int, 2) := by decide +kernel
theorem dX1_init_33 : decode cX1_init 33 = .ok (.putfield 22, 3) := by decide +kernel
theorem dX1_init_36 : decode cX1_init 36 = .ok (.aload_n 0, 1) := by decide +kernel
theorem dX1_init_37 : decode cX1_init 37 = .ok (.bipush 18, 2) := by decide +kernel
theorem dX1_init_39 : decode cX1_init 39 = .ok (.newarray .int, 2) := by decide +kernel
theorem dX1_init_41 : decode cX1_init 41 = .ok (.putfield 25, 3) := by decide +kernel
theorem dX1_init_44 : decode cX1_init 44 = .ok (.iconst 0, 1) := by decide +kernel
theorem dX1_init_45 : decode cX1_init 45 = .ok (.istore_n 1, 1) := by decide +kernel
theorem dX1_init_46 : decode cX1_init 46 = .ok (.iload_n 1, 1) := by decide +kernel
theorem dX1_init_47 : decode cX1_init 47 = .ok (.bipush 6, 2) := by decide +kernel
theorem dX1_init_49 : decode cX1_init 49 = .ok (.if_icmp .ge 17, 3) := by decide +kernel
theorem dX1_init_52 : decode cX1_init 52 = .ok (.aload_n 0, 1) := by decide +kernel
theorem dX1_init_53 : decode cX1_init 53 = .ok (.getfield 9, 3) := by decide +kernel
theorem dX1_init_56 : decode cX1_init 56 = .ok (.iload_n 1, 1) := by decide +kernel
theorem dX1_init_57 : decode cX1_init 57 = .ok (.bipush 100, 2) := by decide +kernel
theorem dX1_init_59 : decode cX1_init 59 = .ok (.iastore, 1) := by decide +kernel
theorem dX1_init_60 : decode cX1_init 60 = .ok (.iinc 1 1, 3) := by decide +kernel
theorem dX1_init_63 : decode cX1_init 63 = .ok (.goto (-17), 3) := by decide +kernel
theorem dX1_init_66 : decode cX1_init 66 = .ok (.return_, 1) := by decide +kernel
theorem dX1_standsInFor_0 : decode cX1_standsInFor 0 = .ok (.aload_n 0, 1) := by decide +kernel
theorem dX1_standsInFor_1 : decode cX1_standsInFor 1 = .ok (.getfield 15, 3) := by decide +kernel
theorem dX1_standsInFor_4 : decode cX1_standsInFor 4 = .ok (.iload_n 1, 1) := by decide +kernel
theorem dX1_standsInFor_5 : decode cX1_standsInFor 5 = .ok (.bipush 6, 2) := by decide +kernel
theorem dX1_standsInFor_7 : decode cX1_standsInFor 7 = .ok (.imul, 1) := by decide +kernel
theorem dX1_standsInFor_8 : decode cX1_standsInFor 8 = .ok (.iload_n 2, 1) := by decide +kernel
theorem dX1_standsInFor_9 : decode cX1_standsInFor 9 = .ok (.iadd, 1) := by decide +kernel
theorem dX1_standsInFor_10 : decode cX1_standsInFor 10 = .ok (.baload, 1) := by decide +kernel
theorem dX1_standsInFor_11 : decode cX1_standsInFor 11 = .ok (.ireturn, 1) := by decide +kernel
theorem dX1_letStandIn_0 : decode cX1_letStandIn 0 = .ok (.aload_n 0, 1) := by decide +kernel
theorem dX1_letStandIn_1 : decode cX1_letStandIn 1 = .ok (.getfield 15, 3) := by decide +kernel
theorem dX1_letStandIn_4 : decode cX1_letStandIn 4 = .ok (.iload_n 1, 1) := by decide +kernel
theorem dX1_letStandIn_5 : decode cX1_letStandIn 5 = .ok (.bipush 6, 2) := by decide +kernel
theorem dX1_letStandIn_7 : decode cX1_letStandIn 7 = .ok (.imul, 1) := by decide +kernel
theorem dX1_letStandIn_8 : decode cX1_letStandIn 8 = .ok (.iload_n 2, 1) := by decide +kernel
theorem dX1_letStandIn_9 : decode cX1_letStandIn 9 = .ok (.iadd, 1) := by decide +kernel
theorem dX1_letStandIn_10 : decode cX1_letStandIn 10 = .ok (.iload_n 3, 1) := by decide +kernel
theorem dX1_letStandIn_11 : decode cX1_letStandIn 11 = .ok (.bastore, 1) := by decide +kernel
theorem dX1_letStandIn_12 : decode cX1_letStandIn 12 = .ok (.return_, 1) := by decide +kernel
theorem dX1_meets_0 : decode cX1_meets 0 = .ok (.iload_n 1, 1) := by decide +kernel
theorem dX1_meets_1 : decode cX1_meets 1 = .ok (.iload_n 2, 1) := by decide +kernel
theorem dX1_meets_2 : decode cX1_meets 2 = .ok (.if_icmp .eq 12, 3) := by decide +kernel
theorem dX1_meets_5 : decode cX1_meets 5 = .ok (.aload_n 0, 1) := by decide +kernel
theorem dX1_meets_6 : decode cX1_meets 6 = .ok (.iload_n 1, 1) := by decide +kernel
theorem dX1_meets_7 : decode cX1_meets 7 = .ok (.iload_n 2, 1) := by decide +kernel
theorem dX1_meets_8 : decode cX1_meets 8 = .ok (.invokevirtual 28, 3) := by decide +kernel
theorem dX1_meets_11 : decode cX1_meets 11 = .ok (.ifCond .eq 7, 3) := by decide +kernel
theorem dX1_meets_14 : decode cX1_meets 14 = .ok (.iconst 1, 1) := by decide +kernel
theorem dX1_meets_15 : decode cX1_meets 15 = .ok (.goto 4, 3) := by decide +kernel
theorem dX1_meets_18 : decode cX1_meets 18 = .ok (.iconst 0, 1) := by decide +kernel
theorem dX1_meets_19 : decode cX1_meets 19 = .ok (.ireturn, 1) := by decide +kernel
theorem dX1_isInStandIn_0 : decode cX1_isInStandIn 0 = .ok (.iconst 0, 1) := by decide +kernel
theorem dX1_isInStandIn_1 : decode cX1_isInStandIn 1 = .ok (.istore_n 2, 1) := by decide +kernel
theorem dX1_isInStandIn_2 : decode cX1_isInStandIn 2 = .ok (.iload_n 2, 1) := by decide +kernel
theorem dX1_isInStandIn_3 : decode cX1_isInStandIn 3 = .ok (.bipush 6, 2) := by decide +kernel
theorem dX1_isInStandIn_5 : decode cX1_isInStandIn 5 = .ok (.if_icmp .ge 29, 3) := by decide +kernel
theorem dX1_isInStandIn_8 : decode cX1_isInStandIn 8 = .ok (.aload_n 0, 1) := by decide +kernel
theorem dX1_isInStandIn_9 : decode cX1_isInStandIn 9 = .ok (.iload_n 1, 1) := by decide +kernel
theorem dX1_isInStandIn_10 : decode cX1_isInStandIn 10 = .ok (.iload_n 2, 1) := by decide +kernel
theorem dX1_isInStandIn_11 : decode cX1_isInStandIn 11 = .ok (.invokevirtual 28, 3) := by decide +kernel
theorem dX1_isInStandIn_14 : decode cX1_isInStandIn 14 = .ok (.ifCond .ne 12, 3) := by decide +kernel
theorem dX1_isInStandIn_17 : decode cX1_isInStandIn 17 = .ok (.aload_n 0, 1) := by decide +kernel
theorem dX1_isInStandIn_18 : decode cX1_isInStandIn 18 = .ok (.iload_n 2, 1) := by decide +kernel
theorem dX1_isInStandIn_19 : decode cX1_isInStandIn 19 = .ok (.iload_n 1, 1) := by decide +kernel
theorem dX1_isInStandIn_20 : decode cX1_isInStandIn 20 = .ok (.invokevirtual 28, 3) := by decide +kernel
theorem dX1_isInStandIn_23 : decode cX1_isInStandIn 23 = .ok (.ifCond .eq 5, 3) := by decide +kernel
theorem dX1_isInStandIn_26 : decode cX1_isInStandIn 26 = .ok (.iconst 1, 1) := by decide +kernel
theorem dX1_isInStandIn_27 : decode cX1_isInStandIn 27 = .ok (.ireturn, 1) := by decide +kernel
theorem dX1_isInStandIn_28 : decode cX1_isInStandIn 28 = .ok (.iinc 2 1, 3) := by decide +kernel
theorem dX1_isInStandIn_31 : decode cX1_isInStandIn 31 = .ok (.goto (-29), 3) := by decide +kernel
theorem dX1_isInStandIn_34 : decode cX1_isInStandIn 34 = .ok (.iconst 0, 1) := by decide +kernel
theorem dX1_isInStandIn_35 : decode cX1_isInStandIn 35 = .ok (.ireturn, 1) := by decide +kernel
theorem dX1_isKit_0 : decode cX1_isKit 0 = .ok (.aload_n 0, 1) := by decide +kernel
theorem dX1_isKit_1 : decode cX1_isKit 1 = .ok (.getfield 19, 3) := by decide +kernel
theorem dX1_isKit_4 : decode cX1_isKit 4 = .ok (.iload_n 1, 1) := by decide +kernel
theorem dX1_isKit_5 : decode cX1_isKit 5 = .ok (.iaload, 1) := by decide +kernel
theorem dX1_isKit_6 : decode cX1_isKit 6 = .ok (.ifCond .le 7, 3) := by decide +kernel
theorem dX1_isKit_9 : decode cX1_isKit 9 = .ok (.iconst 1, 1) := by decide +kernel
theorem dX1_isKit_10 : decode cX1_isKit 10 = .ok (.goto 4, 3) := by decide +kernel
theorem dX1_isKit_13 : decode cX1_isKit 13 = .ok (.iconst 0, 1) := by decide +kernel
theorem dX1_isKit_14 : decode cX1_isKit 14 = .ok (.ireturn, 1) := by decide +kernel
theorem dX1_hasPart_0 : decode cX1_hasPart 0 = .ok (.iconst 0, 1) := by decide +kernel
theorem dX1_hasPart_1 : decode cX1_hasPart 1 = .ok (.istore_n 3, 1) := by decide +kernel
theorem dX1_hasPart_2 : decode cX1_hasPart 2 = .ok (.iload_n 3, 1) := by decide +kernel
theorem dX1_hasPart_3 : decode cX1_hasPart 3 = .ok (.aload_n 0, 1) := by decide +kernel
theorem dX1_hasPart_4 : decode cX1_hasPart 4 = .ok (.getfield 19, 3) := by decide +kernel
theorem dX1_hasPart_7 : decode cX1_hasPart 7 = .ok (.iload_n 1, 1) := by decide +kernel
theorem dX1_hasPart_8 : decode cX1_hasPart 8 = .ok (.iaload, 1) := by decide +kernel
theorem dX1_hasPart_9 : decode cX1_hasPart 9 = .ok (.if_icmp .ge 25, 3) := by decide +kernel
theorem dX1_hasPart_12 : decode cX1_hasPart 12 = .ok (.aload_n 0, 1) := by decide +kernel
theorem dX1_hasPart_13 : decode cX1_hasPart 13 = .ok (.getfield 22, 3) := by decide +kernel
theorem dX1_hasPart_16 : decode cX1_hasPart 16 = .ok (.iload_n 1, 1) := by decide +kernel
theorem dX1_hasPart_17 : decode cX1_hasPart 17 = .ok (.iconst 3, 1) := by decide +kernel
theorem dX1_hasPart_18 : decode cX1_hasPart 18 = .ok (.imul, 1) := by decide +kernel
theorem dX1_hasPart_19 : decode cX1_hasPart 19 = .ok (.iload_n 3, 1) := by decide +kernel
theorem dX1_hasPart_20 : decode cX1_hasPart 20 = .ok (.iadd, 1) := by decide +kernel
theorem dX1_hasPart_21 : decode cX1_hasPart 21 = .ok (.iaload, 1) := by decide +kernel
theorem dX1_hasPart_22 : decode cX1_hasPart 22 = .ok (.iload_n 2, 1) := by decide +kernel
theorem dX1_hasPart_23 : decode cX1_hasPart 23 = .ok (.if_icmp .ne 5, 3) := by decide +kernel
theorem dX1_hasPart_26 : decode cX1_hasPart 26 = .ok (.iconst 1, 1) := by decide +kernel
theorem dX1_hasPart_27 : decode cX1_hasPart 27 = .ok (.ireturn, 1) := by decide +kernel
theorem dX1_hasPart_28 : decode cX1_hasPart 28 = .ok (.iinc 3 1, 3) := by decide +kernel
theorem dX1_hasPart_31 : decode cX1_hasPart 31 = .ok (.goto (-29), 3) := by decide +kernel
theorem dX1_hasPart_34 : decode cX1_hasPart 34 = .ok (.iconst 0, 1) := by decide +kernel
theorem dX1_hasPart_35 : decode cX1_hasPart 35 = .ok (.ireturn, 1) := by decide +kernel
theorem dX1_isPart_0 : decode cX1_isPart 0 = .ok (.iconst 0, 1) := by decide +kernel
theorem dX1_isPart_1 : decode cX1_isPart 1 = .ok (.istore_n 2, 1) := by decide +kernel
theorem dX1_isPart_2 : decode cX1_isPart 2 = .ok (.iload_n 2, 1) := by decide +kernel
theorem dX1_isPart_3 : decode cX1_isPart 3 = .ok (.bipush 6, 2) := by decide +kernel
theorem dX1_isPart_5 : decode cX1_isPart 5 = .ok (.if_icmp .ge 20, 3) := by decide +kernel
theorem dX1_isPart_8 : decode cX1_isPart 8 = .ok (.aload_n 0, 1) := by decide +kernel
theorem dX1_isPart_9 : decode cX1_isPart 9 = .ok (.iload_n 2, 1) := by decide +kernel
theorem dX1_isPart_10 : decode cX1_isPart 10 = .ok (.iload_n 1, 1) := by decide +kernel
theorem dX1_isPart_11 : decode cX1_isPart 11 = .ok (.invokevirtual 32, 3) := by decide +kernel
theorem dX1_isPart_14 : decode cX1_isPart 14 = .ok (.ifCond .eq 5, 3) := by decide +kernel
theorem dX1_isPart_17 : decode cX1_isPart 17 = .ok (.iconst 1, 1) := by decide +kernel
theorem dX1_isPart_18 : decode cX1_isPart 18 = .ok (.ireturn, 1) := by decide +kernel
theorem dX1_isPart_19 : decode cX1_isPart 19 = .ok (.iinc 2 1, 3) := by decide +kernel
theorem dX1_isPart_22 : decode cX1_isPart 22 = .ok (.goto (-20), 3) := by decide +kernel
theorem dX1_isPart_25 : decode cX1_isPart 25 = .ok (.iconst 0, 1) := by decide +kernel
theorem dX1_isPart_26 : decode cX1_isPart 26 = .ok (.ireturn, 1) := by decide +kernel
theorem dX1_addPart_0 : decode cX1_addPart 0 = .ok (.iload_n 1, 1) := by decide +kernel
theorem dX1_addPart_1 : decode cX1_addPart 1 = .ok (.iconst 3, 1) := by decide +kernel
theorem dX1_addPart_2 : decode cX1_addPart 2 = .ok (.imul, 1) := by decide +kernel
theorem dX1_addPart_3 : decode cX1_addPart 3 = .ok (.aload_n 0, 1) := by decide +kernel
theorem dX1_addPart_4 : decode cX1_addPart 4 = .ok (.getfield 19, 3) := by decide +kernel
theorem dX1_addPart_7 : decode cX1_addPart 7 = .ok (.iload_n 1, 1) := by decide +kernel
theorem dX1_addPart_8 : decode cX1_addPart 8 = .ok (.iaload, 1) := by decide +kernel
theorem dX1_addPart_9 : decode cX1_addPart 9 = .ok (.iadd, 1) := by decide +kernel
theorem dX1_addPart_10 : decode cX1_addPart 10 = .ok (.istore 4, 2) := by decide +kernel
theorem dX1_addPart_12 : decode cX1_addPart 12 = .ok (.aload_n 0, 1) := by decide +kernel
theorem dX1_addPart_13 : decode cX1_addPart 13 = .ok (.getfield 22, 3) := by decide +kernel
theorem dX1_addPart_16 : decode cX1_addPart 16 = .ok (.iload 4, 2) := by decide +kernel
theorem dX1_addPart_18 : decode cX1_addPart 18 = .ok (.iload_n 2, 1) := by decide +kernel
theorem dX1_addPart_19 : decode cX1_addPart 19 = .ok (.iastore, 1) := by decide +kernel
theorem dX1_addPart_20 : decode cX1_addPart 20 = .ok (.aload_n 0, 1) := by decide +kernel
theorem dX1_addPart_21 : decode cX1_addPart 21 = .ok (.getfield 25, 3) := by decide +kernel
theorem dX1_addPart_24 : decode cX1_addPart 24 = .ok (.iload 4, 2) := by decide +kernel
theorem dX1_addPart_26 : decode cX1_addPart 26 = .ok (.iload_n 3, 1) := by decide +kernel
theorem dX1_addPart_27 : decode cX1_addPart 27 = .ok (.iastore, 1) := by decide +kernel
theorem dX1_addPart_28 : decode cX1_addPart 28 = .ok (.aload_n 0, 1) := by decide +kernel
theorem dX1_addPart_29 : decode cX1_addPart 29 = .ok (.getfield 19, 3) := by decide +kernel
theorem dX1_addPart_32 : decode cX1_addPart 32 = .ok (.iload_n 1, 1) := by decide +kernel
theorem dX1_addPart_33 : decode cX1_addPart 33 = .ok (.dup2, 1) := by decide +kernel
theorem dX1_addPart_34 : decode cX1_addPart 34 = .ok (.iaload, 1) := by decide +kernel
theorem dX1_addPart_35 : decode cX1_addPart 35 = .ok (.iconst 1, 1) := by decide +kernel
theorem dX1_addPart_36 : decode cX1_addPart 36 = .ok (.iadd, 1) := by decide +kernel
theorem dX1_addPart_37 : decode cX1_addPart 37 = .ok (.iastore, 1) := by decide +kernel
theorem dX1_addPart_38 : decode cX1_addPart 38 = .ok (.aload_n 0, 1) := by decide +kernel
theorem dX1_addPart_39 : decode cX1_addPart 39 = .ok (.getfield 19, 3) := by decide +kernel
theorem dX1_addPart_42 : decode cX1_addPart 42 = .ok (.iload_n 1, 1) := by decide +kernel
theorem dX1_addPart_43 : decode cX1_addPart 43 = .ok (.iaload, 1) := by decide +kernel
theorem dX1_addPart_44 : decode cX1_addPart 44 = .ok (.ireturn, 1) := by decide +kernel
theorem dX1_demandsOf_0 : decode cX1_demandsOf 0 = .ok (.aload_n 0, 1) := by decide +kernel
theorem dX1_demandsOf_1 : decode cX1_demandsOf 1 = .ok (.iload_n 1, 1) := by decide +kernel
theorem dX1_demandsOf_2 : decode cX1_demandsOf 2 = .ok (.invokevirtual 35, 3) := by decide +kernel
theorem dX1_demandsOf_5 : decode cX1_demandsOf 5 = .ok (.ifCond .eq 12, 3) := by decide +kernel
theorem dX1_demandsOf_8 : decode cX1_demandsOf 8 = .ok (.aload_n 0, 1) := by decide +kernel
theorem dX1_demandsOf_9 : decode cX1_demandsOf 9 = .ok (.getfield 19, 3) := by decide +kernel
theorem dX1_demandsOf_12 : decode cX1_demandsOf 12 = .ok (.iload_n 1, 1) := by decide +kernel
theorem dX1_demandsOf_13 : decode cX1_demandsOf 13 = .ok (.iaload, 1) := by decide +kernel
theorem dX1_demandsOf_14 : decode cX1_demandsOf 14 = .ok (.goto 4, 3) := by decide +kernel
theorem dX1_demandsOf_17 : decode cX1_demandsOf 17 = .ok (.iconst 1, 1) := by decide +kernel
theorem dX1_demandsOf_18 : decode cX1_demandsOf 18 = .ok (.ireturn, 1) := by decide +kernel
theorem dX1_demandGood_0 : decode cX1_demandGood 0 = .ok (.aload_n 0, 1) := by decide +kernel
theorem dX1_demandGood_1 : decode cX1_demandGood 1 = .ok (.iload_n 1, 1) := by decide +kernel
theorem dX1_demandGood_2 : decode cX1_demandGood 2 = .ok (.invokevirtual 35, 3) := by decide +kernel
theorem dX1_demandGood_5 : decode cX1_demandGood 5 = .ok (.ifCond .eq 16, 3) := by decide +kernel
theorem dX1_demandGood_8 : decode cX1_demandGood 8 = .ok (.aload_n 0, 1) := by decide +kernel
theorem dX1_demandGood_9 : decode cX1_demandGood 9 = .ok (.getfield 22, 3) := by decide +kernel
theorem dX1_demandGood_12 : decode cX1_demandGood 12 = .ok (.iload_n 1, 1) := by decide +kernel
theorem dX1_demandGood_13 : decode cX1_demandGood 13 = .ok (.iconst 3, 1) := by decide +kernel
theorem dX1_demandGood_14 : decode cX1_demandGood 14 = .ok (.imul, 1) := by decide +kernel
theorem dX1_demandGood_15 : decode cX1_demandGood 15 = .ok (.iload_n 2, 1) := by decide +kernel
theorem dX1_demandGood_16 : decode cX1_demandGood 16 = .ok (.iadd, 1) := by decide +kernel
theorem dX1_demandGood_17 : decode cX1_demandGood 17 = .ok (.iaload, 1) := by decide +kernel
theorem dX1_demandGood_18 : decode cX1_demandGood 18 = .ok (.goto 4, 3) := by decide +kernel
theorem dX1_demandGood_21 : decode cX1_demandGood 21 = .ok (.iload_n 1, 1) := by decide +kernel
theorem dX1_demandGood_22 : decode cX1_demandGood 22 = .ok (.ireturn, 1) := by decide +kernel
theorem dX1_numberForOne_0 : decode cX1_numberForOne 0 = .ok (.aload_n 0, 1) := by decide +kernel
theorem dX1_numberForOne_1 : decode cX1_numberForOne 1 = .ok (.iload_n 1, 1) := by decide +kernel
theorem dX1_numberForOne_2 : decode cX1_numberForOne 2 = .ok (.invokevirtual 35, 3) := by decide +kernel
theorem dX1_numberForOne_5 : decode cX1_numberForOne 5 = .ok (.ifCond .eq 16, 3) := by decide +kernel
theorem dX1_numberForOne_8 : decode cX1_numberForOne 8 = .ok (.aload_n 0, 1) := by decide +kernel
theorem dX1_numberForOne_9 : decode cX1_numberForOne 9 = .ok (.getfield 25, 3) := by decide +kernel
theorem dX1_numberForOne_12 : decode cX1_numberForOne 12 = .ok (.iload_n 1, 1) := by decide +kernel
theorem dX1_numberForOne_13 : decode cX1_numberForOne 13 = .ok (.iconst 3, 1) := by decide +kernel
theorem dX1_numberForOne_14 : decode cX1_numberForOne 14 = .ok (.imul, 1) := by decide +kernel
theorem dX1_numberForOne_15 : decode cX1_numberForOne 15 = .ok (.iload_n 2, 1) := by decide +kernel
theorem dX1_numberForOne_16 : decode cX1_numberForOne 16 = .ok (.iadd, 1) := by decide +kernel
theorem dX1_numberForOne_17 : decode cX1_numberForOne 17 = .ok (.iaload, 1) := by decide +kernel
theorem dX1_numberForOne_18 : decode cX1_numberForOne 18 = .ok (.goto 4, 3) := by decide +kernel
theorem dX1_numberForOne_21 : decode cX1_numberForOne 21 = .ok (.iconst 1, 1) := by decide +kernel
theorem dX1_numberForOne_22 : decode cX1_numberForOne 22 = .ok (.ireturn, 1) := by decide +kernel
theorem dX2_init_0 : decode cX2_init 0 = .ok (.aload_n 0, 1) := by decide +kernel
theorem dX2_init_1 : decode cX2_init 1 = .ok (.invokespecial 3, 3) := by decide +kernel
theorem dX2_init_4 : decode cX2_init 4 = .ok (.aload_n 0, 1) := by decide +kernel
theorem dX2_init_5 : decode cX2_init 5 = .ok (.iconst 0, 1) := by decide +kernel
theorem dX2_init_6 : decode cX2_init 6 = .ok (.putfield 9, 3) := by decide +kernel
theorem dX2_init_9 : decode cX2_init 9 = .ok (.aload_n 0, 1) := by decide +kernel
theorem dX2_init_10 : decode cX2_init 10 = .ok (.bipush 10, 2) := by decide +kernel
theorem dX2_init_12 : decode cX2_init 12 = .ok (.newarray .int, 2) := by decide +kernel
theorem dX2_init_14 : decode cX2_init 14 = .ok (.putfield 15, 3) := by decide +kernel
theorem dX2_init_17 : decode cX2_init 17 = .ok (.aload_n 0, 1) := by decide +kernel
theorem dX2_init_18 : decode cX2_init 18 = .ok (.bipush 10, 2) := by decide +kernel
theorem dX2_init_20 : decode cX2_init 20 = .ok (.newarray .int, 2) := by decide +kernel
theorem dX2_init_22 : decode cX2_init 22 = .ok (.putfield 19, 3) := by decide +kernel
theorem dX2_init_25 : decode cX2_init 25 = .ok (.aload_n 0, 1) := by decide +kernel
theorem dX2_init_26 : decode cX2_init 26 = .ok (.bipush 10, 2) := by decide +kernel
theorem dX2_init_28 : decode cX2_init 28 = .ok (.newarray .int, 2) := by decide +kernel
theorem dX2_init_30 : decode cX2_init 30 = .ok (.putfield 22, 3) := by decide +kernel
theorem dX2_init_33 : decode cX2_init 33 = .ok (.aload_n 0, 1) := by decide +kernel
theorem dX2_init_34 : decode cX2_init 34 = .ok (.bipush 10, 2) := by decide +kernel
theorem dX2_init_36 : decode cX2_init 36 = .ok (.newarray .int, 2) := by decide +kernel
theorem dX2_init_38 : decode cX2_init 38 = .ok (.putfield 25, 3) := by decide +kernel
theorem dX2_init_41 : decode cX2_init 41 = .ok (.aload_n 0, 1) := by decide +kernel
theorem dX2_init_42 : decode cX2_init 42 = .ok (.bipush 10, 2) := by decide +kernel
theorem dX2_init_44 : decode cX2_init 44 = .ok (.newarray .int, 2) := by decide +kernel
theorem dX2_init_46 : decode cX2_init 46 = .ok (.putfield 28, 3) := by decide +kernel
theorem dX2_init_49 : decode cX2_init 49 = .ok (.aload_n 0, 1) := by decide +kernel
theorem dX2_init_50 : decode cX2_init 50 = .ok (.bipush 10, 2) := by decide +kernel
theorem dX2_init_52 : decode cX2_init 52 = .ok (.newarray .int, 2) := by decide +kernel
theorem dX2_init_54 : decode cX2_init 54 = .ok (.putfield 31, 3) := by decide +kernel
theorem dX2_init_57 : decode cX2_init 57 = .ok (.return_, 1) := by decide +kernel
theorem dX2_write_0 : decode cX2_write 0 = .ok (.aload_n 0, 1) := by decide +kernel
theorem dX2_write_1 : decode cX2_write 1 = .ok (.getfield 15, 3) := by decide +kernel
theorem dX2_write_4 : decode cX2_write 4 = .ok (.aload_n 0, 1) := by decide +kernel
theorem dX2_write_5 : decode cX2_write 5 = .ok (.getfield 9, 3) := by decide +kernel
theorem dX2_write_8 : decode cX2_write 8 = .ok (.iload_n 1, 1) := by decide +kernel
theorem dX2_write_9 : decode cX2_write 9 = .ok (.iastore, 1) := by decide +kernel
theorem dX2_write_10 : decode cX2_write 10 = .ok (.aload_n 0, 1) := by decide +kernel
theorem dX2_write_11 : decode cX2_write 11 = .ok (.getfield 19, 3) := by decide +kernel
theorem dX2_write_14 : decode cX2_write 14 = .ok (.aload_n 0, 1) := by decide +kernel
theorem dX2_write_15 : decode cX2_write 15 = .ok (.getfield 9, 3) := by decide +kernel
theorem dX2_write_18 : decode cX2_write 18 = .ok (.iload_n 2, 1) := by decide +kernel
theorem dX2_write_19 : decode cX2_write 19 = .ok (.iastore, 1) := by decide +kernel
theorem dX2_write_20 : decode cX2_write 20 = .ok (.aload_n 0, 1) := by decide +kernel
theorem dX2_write_21 : decode cX2_write 21 = .ok (.getfield 22, 3) := by decide +kernel
theorem dX2_write_24 : decode cX2_write 24 = .ok (.aload_n 0, 1) := by decide +kernel
theorem dX2_write_25 : decode cX2_write 25 = .ok (.getfield 9, 3) := by decide +kernel
theorem dX2_write_28 : decode cX2_write 28 = .ok (.iload_n 3, 1) := by decide +kernel
theorem dX2_write_29 : decode cX2_write 29 = .ok (.iastore, 1) := by decide +kernel
theorem dX2_write_30 : decode cX2_write 30 = .ok (.aload_n 0, 1) := by decide +kernel
theorem dX2_write_31 : decode cX2_write 31 = .ok (.getfield 25, 3) := by decide +kernel
theorem dX2_write_34 : decode cX2_write 34 = .ok (.aload_n 0, 1) := by decide +kernel
theorem dX2_write_35 : decode cX2_write 35 = .ok (.getfield 9, 3) := by decide +kernel
theorem dX2_write_38 : decode cX2_write 38 = .ok (.iload 4, 2) := by decide +kernel
theorem dX2_write_40 : decode cX2_write 40 = .ok (.iastore, 1) := by decide +kernel
theorem dX2_write_41 : decode cX2_write 41 = .ok (.aload_n 0, 1) := by decide +kernel
theorem dX2_write_42 : decode cX2_write 42 = .ok (.getfield 9, 3) := by decide +kernel
theorem dX2_write_45 : decode cX2_write 45 = .ok (.ireturn, 1) := by decide +kernel
theorem dX2_admit_0 : decode cX2_admit 0 = .ok (.aload_n 0, 1) := by decide +kernel
theorem dX2_admit_1 : decode cX2_admit 1 = .ok (.getfield 9, 3) := by decide +kernel
theorem dX2_admit_4 : decode cX2_admit 4 = .ok (.istore_n 1, 1) := by decide +kernel
theorem dX2_admit_5 : decode cX2_admit 5 = .ok (.iload_n 1, 1) := by decide +kernel
theorem dX2_admit_6 : decode cX2_admit 6 = .ok (.ifCond .le 48, 3) := by decide +kernel
theorem dX2_admit_9 : decode cX2_admit 9 = .ok (.aload_n 0, 1) := by decide +kernel
theorem dX2_admit_10 : decode cX2_admit 10 = .ok (.getfield 25, 3) := by decide +kernel
theorem dX2_admit_13 : decode cX2_admit 13 = .ok (.aload_n 0, 1) := by decide +kernel
theorem dX2_admit_14 : decode cX2_admit 14 = .ok (.getfield 31, 3) := by decide +kernel
theorem dX2_admit_17 : decode cX2_admit 17 = .ok (.iload_n 1, 1) := by decide +kernel
theorem dX2_admit_18 : decode cX2_admit 18 = .ok (.iconst 1, 1) := by decide +kernel
theorem dX2_admit_19 : decode cX2_admit 19 = .ok (.isub, 1) := by decide +kernel
theorem dX2_admit_20 : decode cX2_admit 20 = .ok (.iaload, 1) := by decide +kernel
theorem dX2_admit_21 : decode cX2_admit 21 = .ok (.iaload, 1) := by decide +kernel
theorem dX2_admit_22 : decode cX2_admit 22 = .ok (.aload_n 0, 1) := by decide +kernel
theorem dX2_admit_23 : decode cX2_admit 23 = .ok (.getfield 25, 3) := by decide +kernel
theorem dX2_admit_26 : decode cX2_admit 26 = .ok (.aload_n 0, 1) := by decide +kernel
theorem dX2_admit_27 : decode cX2_admit 27 = .ok (.getfield 9, 3) := by decide +kernel
theorem dX2_admit_30 : decode cX2_admit 30 = .ok (.iaload, 1) := by decide +kernel
theorem dX2_admit_31 : decode cX2_admit 31 = .ok (.if_icmp .le 23, 3) := by decide +kernel
theorem dX2_admit_34 : decode cX2_admit 34 = .ok (.aload_n 0, 1) := by decide +kernel
theorem dX2_admit_35 : decode cX2_admit 35 = .ok (.getfield 31, 3) := by decide +kernel
theorem dX2_admit_38 : decode cX2_admit 38 = .ok (.iload_n 1, 1) := by decide +kernel
theorem dX2_admit_39 : decode cX2_admit 39 = .ok (.aload_n 0, 1) := by decide +kernel
theorem dX2_admit_40 : decode cX2_admit 40 = .ok (.getfield 31, 3) := by decide +kernel
theorem dX2_admit_43 : decode cX2_admit 43 = .ok (.iload_n 1, 1) := by decide +kernel
theorem dX2_admit_44 : decode cX2_admit 44 = .ok (.iconst 1, 1) := by decide +kernel
theorem dX2_admit_45 : decode cX2_admit 45 = .ok (.isub, 1) := by decide +kernel
theorem dX2_admit_46 : decode cX2_admit 46 = .ok (.iaload, 1) := by decide +kernel
theorem dX2_admit_47 : decode cX2_admit 47 = .ok (.iastore, 1) := by decide +kernel
theorem dX2_admit_48 : decode cX2_admit 48 = .ok (.iinc 1 (-1), 3) := by decide +kernel
theorem dX2_admit_51 : decode cX2_admit 51 = .ok (.goto (-46), 3) := by decide +kernel
theorem dX2_admit_54 : decode cX2_admit 54 = .ok (.aload_n 0, 1) := by decide +kernel
theorem dX2_admit_55 : decode cX2_admit 55 = .ok (.getfield 31, 3) := by decide +kernel
theorem dX2_admit_58 : decode cX2_admit 58 = .ok (.iload_n 1, 1) := by decide +kernel
theorem dX2_admit_59 : decode cX2_admit 59 = .ok (.aload_n 0, 1) := by decide +kernel
theorem dX2_admit_60 : decode cX2_admit 60 = .ok (.getfield 9, 3) := by decide +kernel
theorem dX2_admit_63 : decode cX2_admit 63 = .ok (.iastore, 1) := by decide +kernel
theorem dX2_admit_64 : decode cX2_admit 64 = .ok (.aload_n 0, 1) := by decide +kernel
theorem dX2_admit_65 : decode cX2_admit 65 = .ok (.getfield 28, 3) := by decide +kernel
theorem dX2_admit_68 : decode cX2_admit 68 = .ok (.aload_n 0, 1) := by decide +kernel
theorem dX2_admit_69 : decode cX2_admit 69 = .ok (.getfield 9, 3) := by decide +kernel
theorem dX2_admit_72 : decode cX2_admit 72 = .ok (.iconst 0, 1) := by decide +kernel
theorem dX2_admit_73 : decode cX2_admit 73 = .ok (.iastore, 1) := by decide +kernel
theorem dX2_admit_74 : decode cX2_admit 74 = .ok (.aload_n 0, 1) := by decide +kernel
theorem dX2_admit_75 : decode cX2_admit 75 = .ok (.dup, 1) := by decide +kernel
theorem dX2_admit_76 : decode cX2_admit 76 = .ok (.getfield 9, 3) := by decide +kernel
theorem dX2_admit_79 : decode cX2_admit 79 = .ok (.iconst 1, 1) := by decide +kernel
theorem dX2_admit_80 : decode cX2_admit 80 = .ok (.iadd, 1) := by decide +kernel
theorem dX2_admit_81 : decode cX2_admit 81 = .ok (.putfield 9, 3) := by decide +kernel
theorem dX2_admit_84 : decode cX2_admit 84 = .ok (.return_, 1) := by decide +kernel
theorem dX2_has_0 : decode cX2_has 0 = .ok (.iconst 0, 1) := by decide +kernel
theorem dX2_has_1 : decode cX2_has 1 = .ok (.istore_n 2, 1) := by decide +kernel
theorem dX2_has_2 : decode cX2_has 2 = .ok (.iload_n 2, 1) := by decide +kernel
theorem dX2_has_3 : decode cX2_has 3 = .ok (.aload_n 0, 1) := by decide +kernel
theorem dX2_has_4 : decode cX2_has 4 = .ok (.getfield 9, 3) := by decide +kernel
theorem dX2_has_7 : decode cX2_has 7 = .ok (.if_icmp .ge 21, 3) := by decide +kernel
theorem dX2_has_10 : decode cX2_has 10 = .ok (.aload_n 0, 1) := by decide +kernel
theorem dX2_has_11 : decode cX2_has 11 = .ok (.getfield 19, 3) := by decide +kernel
theorem dX2_has_14 : decode cX2_has 14 = .ok (.iload_n 2, 1) := by decide +kernel
theorem dX2_has_15 : decode cX2_has 15 = .ok (.iaload, 1) := by decide +kernel
theorem dX2_has_16 : decode cX2_has 16 = .ok (.iload_n 1, 1) := by decide +kernel
theorem dX2_has_17 : decode cX2_has 17 = .ok (.if_icmp .ne 5, 3) := by decide +kernel
theorem dX2_has_20 : decode cX2_has 20 = .ok (.iconst 1, 1) := by decide +kernel
theorem dX2_has_21 : decode cX2_has 21 = .ok (.ireturn, 1) := by decide +kernel
theorem dX2_has_22 : decode cX2_has 22 = .ok (.iinc 2 1, 3) := by decide +kernel
theorem dX2_has_25 : decode cX2_has 25 = .ok (.goto (-23), 3) := by decide +kernel
theorem dX2_has_28 : decode cX2_has 28 = .ok (.iconst 0, 1) := by decide +kernel
theorem dX2_has_29 : decode cX2_has 29 = .ok (.ireturn, 1) := by decide +kernel
theorem dX2_numberIn_0 : decode cX2_numberIn 0 = .ok (.iconst 0, 1) := by decide +kernel
theorem dX2_numberIn_1 : decode cX2_numberIn 1 = .ok (.istore_n 2, 1) := by decide +kernel
theorem dX2_numberIn_2 : decode cX2_numberIn 2 = .ok (.iconst 0, 1) := by decide +kernel
theorem dX2_numberIn_3 : decode cX2_numberIn 3 = .ok (.istore_n 3, 1) := by decide +kernel
theorem dX2_numberIn_4 : decode cX2_numberIn 4 = .ok (.iload_n 3, 1) := by decide +kernel
theorem dX2_numberIn_5 : decode cX2_numberIn 5 = .ok (.aload_n 0, 1) := by decide +kernel
theorem dX2_numberIn_6 : decode cX2_numberIn 6 = .ok (.getfield 9, 3) := by decide +kernel
theorem dX2_numberIn_9 : decode cX2_numberIn 9 = .ok (.if_icmp .ge 22, 3) := by decide +kernel
theorem dX2_numberIn_12 : decode cX2_numberIn 12 = .ok (.aload_n 0, 1) := by decide +kernel
theorem dX2_numberIn_13 : decode cX2_numberIn 13 = .ok (.getfield 28, 3) := by decide +kernel
theorem dX2_numberIn_16 : decode cX2_numberIn 16 = .ok (.iload_n 3, 1) := by decide +kernel
theorem dX2_numberIn_17 : decode cX2_numberIn 17 = .ok (.iaload, 1) := by decide +kernel
theorem dX2_numberIn_18 : decode cX2_numberIn 18 = .ok (.iload_n 1, 1) := by decide +kernel
theorem dX2_numberIn_19 : decode cX2_numberIn 19 = .ok (.if_icmp .ne 6, 3) := by decide +kernel
theorem dX2_numberIn_22 : decode cX2_numberIn 22 = .ok (.iinc 2 1, 3) := by decide +kernel
theorem dX2_numberIn_25 : decode cX2_numberIn 25 = .ok (.iinc 3 1, 3) := by decide +kernel
theorem dX2_numberIn_28 : decode cX2_numberIn 28 = .ok (.goto (-24), 3) := by decide +kernel
theorem dX2_numberIn_31 : decode cX2_numberIn 31 = .ok (.iload_n 2, 1) := by decide +kernel
theorem dX2_numberIn_32 : decode cX2_numberIn 32 = .ok (.ireturn, 1) := by decide +kernel
theorem dX3_init_0 : decode cX3_init 0 = .ok (.aload_n 0, 1) := by decide +kernel
theorem dX3_init_1 : decode cX3_init 1 = .ok (.invokespecial 3, 3) := by decide +kernel
theorem dX3_init_4 : decode cX3_init 4 = .ok (.aload_n 0, 1) := by decide +kernel
theorem dX3_init_5 : decode cX3_init 5 = .ok (.iconst 0, 1) := by decide +kernel
theorem dX3_init_6 : decode cX3_init 6 = .ok (.putfield 9, 3) := by decide +kernel
theorem dX3_init_9 : decode cX3_init 9 = .ok (.aload_n 0, 1) := by decide +kernel
theorem dX3_init_10 : decode cX3_init 10 = .ok (.bipush 10, 2) := by decide +kernel
theorem dX3_init_12 : decode cX3_init 12 = .ok (.newarray .int, 2) := by decide +kernel
theorem dX3_init_14 : decode cX3_init 14 = .ok (.putfield 15, 3) := by decide +kernel
theorem dX3_init_17 : decode cX3_init 17 = .ok (.aload_n 0, 1) := by decide +kernel
theorem dX3_init_18 : decode cX3_init 18 = .ok (.bipush 10, 2) := by decide +kernel
theorem dX3_init_20 : decode cX3_init 20 = .ok (.newarray .int, 2) := by decide +kernel
theorem dX3_init_22 : decode cX3_init 22 = .ok (.putfield 19, 3) := by decide +kernel
theorem dX3_init_25 : decode cX3_init 25 = .ok (.aload_n 0, 1) := by decide +kernel
theorem dX3_init_26 : decode cX3_init 26 = .ok (.sipush 310, 3) := by decide +kernel
theorem dX3_init_29 : decode cX3_init 29 = .ok (.newarray .int, 2) := by decide +kernel
theorem dX3_init_31 : decode cX3_init 31 = .ok (.putfield 22, 3) := by decide +kernel
theorem dX3_init_34 : decode cX3_init 34 = .ok (.aload_n 0, 1) := by decide +kernel
theorem dX3_init_35 : decode cX3_init 35 = .ok (.bipush 31, 2) := by decide +kernel
theorem dX3_init_37 : decode cX3_init 37 = .ok (.newarray .int, 2) := by decide +kernel
theorem dX3_init_39 : decode cX3_init 39 = .ok (.putfield 25, 3) := by decide +kernel
theorem dX3_init_42 : decode cX3_init 42 = .ok (.aload_n 0, 1) := by decide +kernel
theorem dX3_init_43 : decode cX3_init 43 = .ok (.bipush 10, 2) := by decide +kernel
theorem dX3_init_45 : decode cX3_init 45 = .ok (.newarray .int, 2) := by decide +kernel
theorem dX3_init_47 : decode cX3_init 47 = .ok (.putfield 28, 3) := by decide +kernel
theorem dX3_init_50 : decode cX3_init 50 = .ok (.aload_n 0, 1) := by decide +kernel
theorem dX3_init_51 : decode cX3_init 51 = .ok (.sipush 310, 3) := by decide +kernel
theorem dX3_init_54 : decode cX3_init 54 = .ok (.newarray .int, 2) := by decide +kernel
theorem dX3_init_56 : decode cX3_init 56 = .ok (.putfield 31, 3) := by decide +kernel
theorem dX3_init_59 : decode cX3_init 59 = .ok (.aload_n 0, 1) := by decide +kernel
theorem dX3_init_60 : decode cX3_init 60 = .ok (.bipush 10, 2) := by decide +kernel
theorem dX3_init_62 : decode cX3_init 62 = .ok (.newarray .int, 2) := by decide +kernel
theorem dX3_init_64 : decode cX3_init 64 = .ok (.putfield 34, 3) := by decide +kernel
theorem dX3_init_67 : decode cX3_init 67 = .ok (.aload_n 0, 1) := by decide +kernel
theorem dX3_init_68 : decode cX3_init 68 = .ok (.bipush 10, 2) := by decide +kernel
theorem dX3_init_70 : decode cX3_init 70 = .ok (.newarray .int, 2) := by decide +kernel
theorem dX3_init_72 : decode cX3_init 72 = .ok (.putfield 37, 3) := by decide +kernel
theorem dX3_init_75 : decode cX3_init 75 = .ok (.aload_n 0, 1) := by decide +kernel
theorem dX3_init_76 : decode cX3_init 76 = .ok (.bipush 10, 2) := by decide +kernel
theorem dX3_init_78 : decode cX3_init 78 = .ok (.newarray .int, 2) := by decide +kernel
theorem dX3_init_80 : decode cX3_init 80 = .ok (.putfield 40, 3) := by decide +kernel
theorem dX3_init_83 : decode cX3_init 83 = .ok (.return_, 1) := by decide +kernel
theorem dX3_clear_0 : decode cX3_clear 0 = .ok (.aload_n 0, 1) := by decide +kernel
theorem dX3_clear_1 : decode cX3_clear 1 = .ok (.aload_n 1, 1) := by decide +kernel
theorem dX3_clear_2 : decode cX3_clear 2 = .ok (.getfield 43, 3) := by decide +kernel
theorem dX3_clear_5 : decode cX3_clear 5 = .ok (.putfield 9, 3) := by decide +kernel
theorem dX3_clear_8 : decode cX3_clear 8 = .ok (.aload_n 1, 1) := by decide +kernel
theorem dX3_clear_9 : decode cX3_clear 9 = .ok (.aload_n 0, 1) := by decide +kernel
theorem dX3_clear_10 : decode cX3_clear 10 = .ok (.getfield 15, 3) := by decide +kernel
theorem dX3_clear_13 : decode cX3_clear 13 = .ok (.invokevirtual 48, 3) := by decide +kernel
theorem dX3_clear_16 : decode cX3_clear 16 = .ok (.iconst 0, 1) := by decide +kernel
theorem dX3_clear_17 : decode cX3_clear 17 = .ok (.istore_n 2, 1) := by decide +kernel
theorem dX3_clear_18 : decode cX3_clear 18 = .ok (.iload_n 2, 1) := by decide +kernel
theorem dX3_clear_19 : decode cX3_clear 19 = .ok (.aload_n 0, 1) := by decide +kernel
theorem dX3_clear_20 : decode cX3_clear 20 = .ok (.getfield 9, 3) := by decide +kernel
theorem dX3_clear_23 : decode cX3_clear 23 = .ok (.if_icmp .ge 20, 3) := by decide +kernel
theorem dX3_clear_26 : decode cX3_clear 26 = .ok (.aload_n 0, 1) := by decide +kernel
theorem dX3_clear_27 : decode cX3_clear 27 = .ok (.getfield 19, 3) := by decide +kernel
theorem dX3_clear_30 : decode cX3_clear 30 = .ok (.iload_n 2, 1) := by decide +kernel
theorem dX3_clear_31 : decode cX3_clear 31 = .ok (.aload_n 1, 1) := by decide +kernel
theorem dX3_clear_32 : decode cX3_clear 32 = .ok (.iload_n 2, 1) := by decide +kernel
theorem dX3_clear_33 : decode cX3_clear 33 = .ok (.invokevirtual 52, 3) := by decide +kernel
theorem dX3_clear_36 : decode cX3_clear 36 = .ok (.iastore, 1) := by decide +kernel
theorem dX3_clear_37 : decode cX3_clear 37 = .ok (.iinc 2 1, 3) := by decide +kernel
theorem dX3_clear_40 : decode cX3_clear 40 = .ok (.goto (-22), 3) := by decide +kernel
theorem dX3_clear_43 : decode cX3_clear 43 = .ok (.iconst 0, 1) := by decide +kernel
theorem dX3_clear_44 : decode cX3_clear 44 = .ok (.istore_n 2, 1) := by decide +kernel
theorem dX3_clear_45 : decode cX3_clear 45 = .ok (.iload_n 2, 1) := by decide +kernel
theorem dX3_clear_46 : decode cX3_clear 46 = .ok (.aload_n 0, 1) := by decide +kernel
theorem dX3_clear_47 : decode cX3_clear 47 = .ok (.getfield 22, 3) := by decide +kernel
theorem dX3_clear_50 : decode cX3_clear 50 = .ok (.arraylength, 1) := by decide +kernel
theorem dX3_clear_51 : decode cX3_clear 51 = .ok (.if_icmp .ge 16, 3) := by decide +kernel
theorem dX3_clear_54 : decode cX3_clear 54 = .ok (.aload_n 0, 1) := by decide +kernel
theorem dX3_clear_55 : decode cX3_clear 55 = .ok (.getfield 22, 3) := by decide +kernel
theorem dX3_clear_58 : decode cX3_clear 58 = .ok (.iload_n 2, 1) := by decide +kernel
theorem dX3_clear_59 : decode cX3_clear 59 = .ok (.iconst 0, 1) := by decide +kernel
theorem dX3_clear_60 : decode cX3_clear 60 = .ok (.iastore, 1) := by decide +kernel
theorem dX3_clear_61 : decode cX3_clear 61 = .ok (.iinc 2 1, 3) := by decide +kernel
theorem dX3_clear_64 : decode cX3_clear 64 = .ok (.goto (-19), 3) := by decide +kernel
theorem dX3_clear_67 : decode cX3_clear 67 = .ok (.return_, 1) := by decide +kernel
theorem dX3_save_0 : decode cX3_save 0 = .ok (.aload_n 0, 1) := by decide +kernel
theorem dX3_save_1 : decode cX3_save 1 = .ok (.getfield 19, 3) := by decide +kernel
theorem dX3_save_4 : decode cX3_save 4 = .ok (.iconst 0, 1) := by decide +kernel
theorem dX3_save_5 : decode cX3_save 5 = .ok (.aload_n 0, 1) := by decide +kernel
theorem dX3_save_6 : decode cX3_save 6 = .ok (.getfield 28, 3) := by decide +kernel
theorem dX3_save_9 : decode cX3_save 9 = .ok (.iconst 0, 1) := by decide +kernel
theorem dX3_save_10 : decode cX3_save 10 = .ok (.bipush 10, 2) := by decide +kernel
theorem dX3_save_12 : decode cX3_save 12 = .ok (.invokestatic 56, 3) := by decide +kernel
theorem dX3_save_15 : decode cX3_save 15 = .ok (.aload_n 0, 1) := by decide +kernel
theorem dX3_save_16 : decode cX3_save 16 = .ok (.getfield 22, 3) := by decide +kernel
theorem dX3_save_19 : decode cX3_save 19 = .ok (.iconst 0, 1) := by decide +kernel
theorem dX3_save_20 : decode cX3_save 20 = .ok (.aload_n 0, 1) := by decide +kernel
theorem dX3_save_21 : decode cX3_save 21 = .ok (.getfield 31, 3) := by decide +kernel
theorem dX3_save_24 : decode cX3_save 24 = .ok (.iconst 0, 1) := by decide +kernel
theorem dX3_save_25 : decode cX3_save 25 = .ok (.sipush 310, 3) := by decide +kernel
theorem dX3_save_28 : decode cX3_save 28 = .ok (.invokestatic 56, 3) := by decide +kernel
theorem dX3_save_31 : decode cX3_save 31 = .ok (.return_, 1) := by decide +kernel
theorem dX3_restore_0 : decode cX3_restore 0 = .ok (.aload_n 0, 1) := by decide +kernel
theorem dX3_restore_1 : decode cX3_restore 1 = .ok (.getfield 28, 3) := by decide +kernel
theorem dX3_restore_4 : decode cX3_restore 4 = .ok (.iconst 0, 1) := by decide +kernel
theorem dX3_restore_5 : decode cX3_restore 5 = .ok (.aload_n 0, 1) := by decide +kernel
theorem dX3_restore_6 : decode cX3_restore 6 = .ok (.getfield 19, 3) := by decide +kernel
theorem dX3_restore_9 : decode cX3_restore 9 = .ok (.iconst 0, 1) := by decide +kernel
theorem dX3_restore_10 : decode cX3_restore 10 = .ok (.bipush 10, 2) := by decide +kernel
end
section
theorem dX3_restore_12 : decode cX3_restore 12 = .ok (.invokestatic 56, 3) := by decide +kernel
theorem dX3_restore_15 : decode cX3_restore 15 = .ok (.aload_n 0, 1) := by decide +kernel
theorem dX3_restore_16 : decode cX3_restore 16 = .ok (.getfield 31, 3) := by decide +kernel
theorem dX3_restore_19 : decode cX3_restore 19 = .ok (.iconst 0, 1) := by decide +kernel
theorem dX3_restore_20 : decode cX3_restore 20 = .ok (.aload_n 0, 1) := by decide +kernel
theorem dX3_restore_21 : decode cX3_restore 21 = .ok (.getfield 22, 3) := by decide +kernel
theorem dX3_restore_24 : decode cX3_restore 24 = .ok (.iconst 0, 1) := by decide +kernel
theorem dX3_restore_25 : decode cX3_restore 25 = .ok (.sipush 310, 3) := by decide +kernel
theorem dX3_restore_28 : decode cX3_restore 28 = .ok (.invokestatic 56, 3) := by decide +kernel
theorem dX3_restore_31 : decode cX3_restore 31 = .ok (.return_, 1) := by decide +kernel
theorem dX3_giveBack_0 : decode cX3_giveBack 0 = .ok (.iconst 0, 1) := by decide +kernel
theorem dX3_giveBack_1 : decode cX3_giveBack 1 = .ok (.istore_n 2, 1) := by decide +kernel
theorem dX3_giveBack_2 : decode cX3_giveBack 2 = .ok (.iload_n 2, 1) := by decide +kernel
theorem dX3_giveBack_3 : decode cX3_giveBack 3 = .ok (.aload_n 0, 1) := by decide +kernel
theorem dX3_giveBack_4 : decode cX3_giveBack 4 = .ok (.getfield 9, 3) := by decide +kernel
theorem dX3_giveBack_7 : decode cX3_giveBack 7 = .ok (.if_icmp .ge 41, 3) := by decide +kernel
theorem dX3_giveBack_10 : decode cX3_giveBack 10 = .ok (.aload_n 0, 1) := by decide +kernel
theorem dX3_giveBack_11 : decode cX3_giveBack 11 = .ok (.getfield 19, 3) := by decide +kernel
theorem dX3_giveBack_14 : decode cX3_giveBack 14 = .ok (.iload_n 2, 1) := by decide +kernel
theorem dX3_giveBack_15 : decode cX3_giveBack 15 = .ok (.dup2, 1) := by decide +kernel
theorem dX3_giveBack_16 : decode cX3_giveBack 16 = .ok (.iaload, 1) := by decide +kernel
theorem dX3_giveBack_17 : decode cX3_giveBack 17 = .ok (.aload_n 0, 1) := by decide +kernel
theorem dX3_giveBack_18 : decode cX3_giveBack 18 = .ok (.getfield 22, 3) := by decide +kernel
theorem dX3_giveBack_21 : decode cX3_giveBack 21 = .ok (.iload_n 1, 1) := by decide +kernel
theorem dX3_giveBack_22 : decode cX3_giveBack 22 = .ok (.bipush 10, 2) := by decide +kernel
theorem dX3_giveBack_24 : decode cX3_giveBack 24 = .ok (.imul, 1) := by decide +kernel
theorem dX3_giveBack_25 : decode cX3_giveBack 25 = .ok (.iload_n 2, 1) := by decide +kernel
theorem dX3_giveBack_26 : decode cX3_giveBack 26 = .ok (.iadd, 1) := by decide +kernel
theorem dX3_giveBack_27 : decode cX3_giveBack 27 = .ok (.iaload, 1) := by decide +kernel
theorem dX3_giveBack_28 : decode cX3_giveBack 28 = .ok (.iadd, 1) := by decide +kernel
theorem dX3_giveBack_29 : decode cX3_giveBack 29 = .ok (.iastore, 1) := by decide +kernel
theorem dX3_giveBack_30 : decode cX3_giveBack 30 = .ok (.aload_n 0, 1) := by decide +kernel
theorem dX3_giveBack_31 : decode cX3_giveBack 31 = .ok (.getfield 22, 3) := by decide +kernel
theorem dX3_giveBack_34 : decode cX3_giveBack 34 = .ok (.iload_n 1, 1) := by decide +kernel
theorem dX3_giveBack_35 : decode cX3_giveBack 35 = .ok (.bipush 10, 2) := by decide +kernel
theorem dX3_giveBack_37 : decode cX3_giveBack 37 = .ok (.imul, 1) := by decide +kernel
theorem dX3_giveBack_38 : decode cX3_giveBack 38 = .ok (.iload_n 2, 1) := by decide +kernel
theorem dX3_giveBack_39 : decode cX3_giveBack 39 = .ok (.iadd, 1) := by decide +kernel
theorem dX3_giveBack_40 : decode cX3_giveBack 40 = .ok (.iconst 0, 1) := by decide +kernel
theorem dX3_giveBack_41 : decode cX3_giveBack 41 = .ok (.iastore, 1) := by decide +kernel
theorem dX3_giveBack_42 : decode cX3_giveBack 42 = .ok (.iinc 2 1, 3) := by decide +kernel
theorem dX3_giveBack_45 : decode cX3_giveBack 45 = .ok (.goto (-43), 3) := by decide +kernel
theorem dX3_giveBack_48 : decode cX3_giveBack 48 = .ok (.return_, 1) := by decide +kernel
theorem dX3_mostFrom_0 : decode cX3_mostFrom 0 = .ok (.aload_n 0, 1) := by decide +kernel
theorem dX3_mostFrom_1 : decode cX3_mostFrom 1 = .ok (.invokevirtual 62, 3) := by decide +kernel
theorem dX3_mostFrom_4 : decode cX3_mostFrom 4 = .ok (.aload_n 0, 1) := by decide +kernel
theorem dX3_mostFrom_5 : decode cX3_mostFrom 5 = .ok (.getfield 25, 3) := by decide +kernel
theorem dX3_mostFrom_8 : decode cX3_mostFrom 8 = .ok (.bipush 30, 2) := by decide +kernel
theorem dX3_mostFrom_10 : decode cX3_mostFrom 10 = .ok (.iload_n 1, 1) := by decide +kernel
theorem dX3_mostFrom_11 : decode cX3_mostFrom 11 = .ok (.iastore, 1) := by decide +kernel
theorem dX3_mostFrom_12 : decode cX3_mostFrom 12 = .ok (.ldc 65, 2) := by decide +kernel
theorem dX3_mostFrom_14 : decode cX3_mostFrom 14 = .ok (.aload_n 0, 1) := by decide +kernel
theorem dX3_mostFrom_15 : decode cX3_mostFrom 15 = .ok (.bipush 30, 2) := by decide +kernel
theorem dX3_mostFrom_17 : decode cX3_mostFrom 17 = .ok (.ldc 65, 2) := by decide +kernel
theorem dX3_mostFrom_19 : decode cX3_mostFrom 19 = .ok (.iconst (-1), 1) := by decide +kernel
theorem dX3_mostFrom_20 : decode cX3_mostFrom 20 = .ok (.invokevirtual 66, 3) := by decide +kernel
theorem dX3_mostFrom_23 : decode cX3_mostFrom 23 = .ok (.isub, 1) := by decide +kernel
theorem dX3_mostFrom_24 : decode cX3_mostFrom 24 = .ok (.istore_n 2, 1) := by decide +kernel
theorem dX3_mostFrom_25 : decode cX3_mostFrom 25 = .ok (.aload_n 0, 1) := by decide +kernel
theorem dX3_mostFrom_26 : decode cX3_mostFrom 26 = .ok (.invokevirtual 70, 3) := by decide +kernel
theorem dX3_mostFrom_29 : decode cX3_mostFrom 29 = .ok (.iload_n 2, 1) := by decide +kernel
theorem dX3_mostFrom_30 : decode cX3_mostFrom 30 = .ok (.ireturn, 1) := by decide +kernel
theorem dX3_take_0 : decode cX3_take 0 = .ok (.iload_n 3, 1) := by decide +kernel
theorem dX3_take_1 : decode cX3_take 1 = .ok (.iconst 1, 1) := by decide +kernel
theorem dX3_take_2 : decode cX3_take 2 = .ok (.iload_n 1, 1) := by decide +kernel
theorem dX3_take_3 : decode cX3_take 3 = .ok (.ishl, 1) := by decide +kernel
theorem dX3_take_4 : decode cX3_take 4 = .ok (.iconst (-1), 1) := by decide +kernel
theorem dX3_take_5 : decode cX3_take 5 = .ok (.ixor, 1) := by decide +kernel
theorem dX3_take_6 : decode cX3_take 6 = .ok (.iand, 1) := by decide +kernel
theorem dX3_take_7 : decode cX3_take 7 = .ok (.istore 4, 2) := by decide +kernel
theorem dX3_take_9 : decode cX3_take 9 = .ok (.iload_n 2, 1) := by decide +kernel
theorem dX3_take_10 : decode cX3_take 10 = .ok (.istore 5, 2) := by decide +kernel
theorem dX3_take_12 : decode cX3_take 12 = .ok (.iconst 0, 1) := by decide +kernel
theorem dX3_take_13 : decode cX3_take 13 = .ok (.istore 6, 2) := by decide +kernel
theorem dX3_take_15 : decode cX3_take 15 = .ok (.iload 6, 2) := by decide +kernel
theorem dX3_take_17 : decode cX3_take 17 = .ok (.aload_n 0, 1) := by decide +kernel
theorem dX3_take_18 : decode cX3_take 18 = .ok (.getfield 9, 3) := by decide +kernel
theorem dX3_take_21 : decode cX3_take 21 = .ok (.if_icmp .ge 50, 3) := by decide +kernel
theorem dX3_take_24 : decode cX3_take 24 = .ok (.iload 5, 2) := by decide +kernel
theorem dX3_take_26 : decode cX3_take 26 = .ok (.ifCond .le 45, 3) := by decide +kernel
theorem dX3_take_29 : decode cX3_take 29 = .ok (.aload_n 0, 1) := by decide +kernel
theorem dX3_take_30 : decode cX3_take 30 = .ok (.getfield 15, 3) := by decide +kernel
theorem dX3_take_33 : decode cX3_take 33 = .ok (.iload 6, 2) := by decide +kernel
theorem dX3_take_35 : decode cX3_take 35 = .ok (.iaload, 1) := by decide +kernel
theorem dX3_take_36 : decode cX3_take 36 = .ok (.istore 7, 2) := by decide +kernel
theorem dX3_take_38 : decode cX3_take 38 = .ok (.aload_n 0, 1) := by decide +kernel
theorem dX3_take_39 : decode cX3_take 39 = .ok (.getfield 25, 3) := by decide +kernel
theorem dX3_take_42 : decode cX3_take 42 = .ok (.iload_n 1, 1) := by decide +kernel
theorem dX3_take_43 : decode cX3_take 43 = .ok (.iaload, 1) := by decide +kernel
theorem dX3_take_44 : decode cX3_take 44 = .ok (.iload 7, 2) := by decide +kernel
theorem dX3_take_46 : decode cX3_take 46 = .ok (.invokestatic 73, 3) := by decide +kernel
theorem dX3_take_49 : decode cX3_take 49 = .ok (.ifCond .eq 16, 3) := by decide +kernel
theorem dX3_take_52 : decode cX3_take 52 = .ok (.aload_n 0, 1) := by decide +kernel
theorem dX3_take_53 : decode cX3_take 53 = .ok (.iload_n 1, 1) := by decide +kernel
theorem dX3_take_54 : decode cX3_take 54 = .ok (.iload 7, 2) := by decide +kernel
theorem dX3_take_56 : decode cX3_take 56 = .ok (.iload 5, 2) := by decide +kernel
theorem dX3_take_58 : decode cX3_take 58 = .ok (.iload 4, 2) := by decide +kernel
theorem dX3_take_60 : decode cX3_take 60 = .ok (.invokevirtual 77, 3) := by decide +kernel
theorem dX3_take_63 : decode cX3_take 63 = .ok (.istore 5, 2) := by decide +kernel
theorem dX3_take_65 : decode cX3_take 65 = .ok (.iinc 6 1, 3) := by decide +kernel
theorem dX3_take_68 : decode cX3_take 68 = .ok (.goto (-53), 3) := by decide +kernel
theorem dX3_take_71 : decode cX3_take 71 = .ok (.iload 5, 2) := by decide +kernel
theorem dX3_take_73 : decode cX3_take 73 = .ok (.ireturn, 1) := by decide +kernel
theorem dX3_takeFrom_0 : decode cX3_takeFrom 0 = .ok (.iload_n 3, 1) := by decide +kernel
theorem dX3_takeFrom_1 : decode cX3_takeFrom 1 = .ok (.istore 5, 2) := by decide +kernel
theorem dX3_takeFrom_3 : decode cX3_takeFrom 3 = .ok (.iconst 0, 1) := by decide +kernel
theorem dX3_takeFrom_4 : decode cX3_takeFrom 4 = .ok (.istore 6, 2) := by decide +kernel
theorem dX3_takeFrom_6 : decode cX3_takeFrom 6 = .ok (.iload 6, 2) := by decide +kernel
theorem dX3_takeFrom_8 : decode cX3_takeFrom 8 = .ok (.ldc 81, 2) := by decide +kernel
theorem dX3_takeFrom_10 : decode cX3_takeFrom 10 = .ok (.if_icmp .ge 84, 3) := by decide +kernel
theorem dX3_takeFrom_13 : decode cX3_takeFrom 13 = .ok (.iload 5, 2) := by decide +kernel
theorem dX3_takeFrom_15 : decode cX3_takeFrom 15 = .ok (.ifCond .le 79, 3) := by decide +kernel
theorem dX3_takeFrom_18 : decode cX3_takeFrom 18 = .ok (.aload_n 0, 1) := by decide +kernel
theorem dX3_takeFrom_19 : decode cX3_takeFrom 19 = .ok (.getfield 19, 3) := by decide +kernel
theorem dX3_takeFrom_22 : decode cX3_takeFrom 22 = .ok (.iload_n 2, 1) := by decide +kernel
theorem dX3_takeFrom_23 : decode cX3_takeFrom 23 = .ok (.iaload, 1) := by decide +kernel
theorem dX3_takeFrom_24 : decode cX3_takeFrom 24 = .ok (.ifCond .le 7, 3) := by decide +kernel
theorem dX3_takeFrom_27 : decode cX3_takeFrom 27 = .ok (.iload_n 2, 1) := by decide +kernel
theorem dX3_takeFrom_28 : decode cX3_takeFrom 28 = .ok (.goto 16, 3) := by decide +kernel
theorem dX3_takeFrom_31 : decode cX3_takeFrom 31 = .ok (.aload_n 0, 1) := by decide +kernel
theorem dX3_takeFrom_32 : decode cX3_takeFrom 32 = .ok (.aload_n 0, 1) := by decide +kernel
theorem dX3_takeFrom_33 : decode cX3_takeFrom 33 = .ok (.iconst 1, 1) := by decide +kernel
theorem dX3_takeFrom_34 : decode cX3_takeFrom 34 = .ok (.iload_n 2, 1) := by decide +kernel
theorem dX3_takeFrom_35 : decode cX3_takeFrom 35 = .ok (.ishl, 1) := by decide +kernel
theorem dX3_takeFrom_36 : decode cX3_takeFrom 36 = .ok (.iload 4, 2) := by decide +kernel
theorem dX3_takeFrom_38 : decode cX3_takeFrom 38 = .ok (.invokevirtual 82, 3) := by decide +kernel
theorem dX3_takeFrom_41 : decode cX3_takeFrom 41 = .ok (.invokevirtual 86, 3) := by decide +kernel
theorem dX3_takeFrom_44 : decode cX3_takeFrom 44 = .ok (.istore 7, 2) := by decide +kernel
theorem dX3_takeFrom_46 : decode cX3_takeFrom 46 = .ok (.iload 7, 2) := by decide +kernel
theorem dX3_takeFrom_48 : decode cX3_takeFrom 48 = .ok (.ifCond .ge 6, 3) := by decide +kernel
theorem dX3_takeFrom_51 : decode cX3_takeFrom 51 = .ok (.iload 5, 2) := by decide +kernel
theorem dX3_takeFrom_53 : decode cX3_takeFrom 53 = .ok (.ireturn, 1) := by decide +kernel
theorem dX3_takeFrom_54 : decode cX3_takeFrom 54 = .ok (.aload_n 0, 1) := by decide +kernel
theorem dX3_takeFrom_55 : decode cX3_takeFrom 55 = .ok (.iload_n 2, 1) := by decide +kernel
theorem dX3_takeFrom_56 : decode cX3_takeFrom 56 = .ok (.iload 7, 2) := by decide +kernel
theorem dX3_takeFrom_58 : decode cX3_takeFrom 58 = .ok (.iload 5, 2) := by decide +kernel
theorem dX3_takeFrom_60 : decode cX3_takeFrom 60 = .ok (.invokevirtual 89, 3) := by decide +kernel
theorem dX3_takeFrom_63 : decode cX3_takeFrom 63 = .ok (.istore 8, 2) := by decide +kernel
theorem dX3_takeFrom_65 : decode cX3_takeFrom 65 = .ok (.aload_n 0, 1) := by decide +kernel
theorem dX3_takeFrom_66 : decode cX3_takeFrom 66 = .ok (.getfield 22, 3) := by decide +kernel
theorem dX3_takeFrom_69 : decode cX3_takeFrom 69 = .ok (.iload_n 1, 1) := by decide +kernel
theorem dX3_takeFrom_70 : decode cX3_takeFrom 70 = .ok (.bipush 10, 2) := by decide +kernel
theorem dX3_takeFrom_72 : decode cX3_takeFrom 72 = .ok (.imul, 1) := by decide +kernel
theorem dX3_takeFrom_73 : decode cX3_takeFrom 73 = .ok (.iload_n 2, 1) := by decide +kernel
theorem dX3_takeFrom_74 : decode cX3_takeFrom 74 = .ok (.iadd, 1) := by decide +kernel
theorem dX3_takeFrom_75 : decode cX3_takeFrom 75 = .ok (.dup2, 1) := by decide +kernel
theorem dX3_takeFrom_76 : decode cX3_takeFrom 76 = .ok (.iaload, 1) := by decide +kernel
theorem dX3_takeFrom_77 : decode cX3_takeFrom 77 = .ok (.iload 8, 2) := by decide +kernel
theorem dX3_takeFrom_79 : decode cX3_takeFrom 79 = .ok (.iadd, 1) := by decide +kernel
theorem dX3_takeFrom_80 : decode cX3_takeFrom 80 = .ok (.iastore, 1) := by decide +kernel
theorem dX3_takeFrom_81 : decode cX3_takeFrom 81 = .ok (.iload 5, 2) := by decide +kernel
theorem dX3_takeFrom_83 : decode cX3_takeFrom 83 = .ok (.iload 8, 2) := by decide +kernel
theorem dX3_takeFrom_85 : decode cX3_takeFrom 85 = .ok (.isub, 1) := by decide +kernel
theorem dX3_takeFrom_86 : decode cX3_takeFrom 86 = .ok (.istore 5, 2) := by decide +kernel
theorem dX3_takeFrom_88 : decode cX3_takeFrom 88 = .ok (.iinc 6 1, 3) := by decide +kernel
theorem dX3_takeFrom_91 : decode cX3_takeFrom 91 = .ok (.goto (-85), 3) := by decide +kernel
theorem dX3_takeFrom_94 : decode cX3_takeFrom 94 = .ok (.iload 5, 2) := by decide +kernel
theorem dX3_takeFrom_96 : decode cX3_takeFrom 96 = .ok (.ireturn, 1) := by decide +kernel
theorem dX3_nearestRoom_0 : decode cX3_nearestRoom 0 = .ok (.iload_n 1, 1) := by decide +kernel
theorem dX3_nearestRoom_1 : decode cX3_nearestRoom 1 = .ok (.invokestatic 92, 3) := by decide +kernel
theorem dX3_nearestRoom_4 : decode cX3_nearestRoom 4 = .ok (.istore_n 2, 1) := by decide +kernel
theorem dX3_nearestRoom_5 : decode cX3_nearestRoom 5 = .ok (.iconst 0, 1) := by decide +kernel
theorem dX3_nearestRoom_6 : decode cX3_nearestRoom 6 = .ok (.istore_n 3, 1) := by decide +kernel
theorem dX3_nearestRoom_7 : decode cX3_nearestRoom 7 = .ok (.iload_n 3, 1) := by decide +kernel
theorem dX3_nearestRoom_8 : decode cX3_nearestRoom 8 = .ok (.iload_n 2, 1) := by decide +kernel
theorem dX3_nearestRoom_9 : decode cX3_nearestRoom 9 = .ok (.if_icmp .ge 36, 3) := by decide +kernel
theorem dX3_nearestRoom_12 : decode cX3_nearestRoom 12 = .ok (.iload_n 3, 1) := by decide +kernel
theorem dX3_nearestRoom_13 : decode cX3_nearestRoom 13 = .ok (.bipush 10, 2) := by decide +kernel
theorem dX3_nearestRoom_15 : decode cX3_nearestRoom 15 = .ok (.if_icmp .ge 30, 3) := by decide +kernel
theorem dX3_nearestRoom_18 : decode cX3_nearestRoom 18 = .ok (.aload_n 0, 1) := by decide +kernel
theorem dX3_nearestRoom_19 : decode cX3_nearestRoom 19 = .ok (.getfield 19, 3) := by decide +kernel
theorem dX3_nearestRoom_22 : decode cX3_nearestRoom 22 = .ok (.aload_n 0, 1) := by decide +kernel
theorem dX3_nearestRoom_23 : decode cX3_nearestRoom 23 = .ok (.getfield 34, 3) := by decide +kernel
theorem dX3_nearestRoom_26 : decode cX3_nearestRoom 26 = .ok (.iload_n 3, 1) := by decide +kernel
theorem dX3_nearestRoom_27 : decode cX3_nearestRoom 27 = .ok (.iaload, 1) := by decide +kernel
theorem dX3_nearestRoom_28 : decode cX3_nearestRoom 28 = .ok (.iaload, 1) := by decide +kernel
theorem dX3_nearestRoom_29 : decode cX3_nearestRoom 29 = .ok (.ifCond .le 10, 3) := by decide +kernel
theorem dX3_nearestRoom_32 : decode cX3_nearestRoom 32 = .ok (.aload_n 0, 1) := by decide +kernel
theorem dX3_nearestRoom_33 : decode cX3_nearestRoom 33 = .ok (.getfield 34, 3) := by decide +kernel
theorem dX3_nearestRoom_36 : decode cX3_nearestRoom 36 = .ok (.iload_n 3, 1) := by decide +kernel
theorem dX3_nearestRoom_37 : decode cX3_nearestRoom 37 = .ok (.iaload, 1) := by decide +kernel
theorem dX3_nearestRoom_38 : decode cX3_nearestRoom 38 = .ok (.ireturn, 1) := by decide +kernel
theorem dX3_nearestRoom_39 : decode cX3_nearestRoom 39 = .ok (.iinc 3 1, 3) := by decide +kernel
theorem dX3_nearestRoom_42 : decode cX3_nearestRoom 42 = .ok (.goto (-35), 3) := by decide +kernel
theorem dX3_nearestRoom_45 : decode cX3_nearestRoom 45 = .ok (.iconst (-1), 1) := by decide +kernel
theorem dX3_nearestRoom_46 : decode cX3_nearestRoom 46 = .ok (.ireturn, 1) := by decide +kernel
theorem dX3_spread_0 : decode cX3_spread 0 = .ok (.iload_n 1, 1) := by decide +kernel
theorem dX3_spread_1 : decode cX3_spread 1 = .ok (.istore_n 3, 1) := by decide +kernel
theorem dX3_spread_2 : decode cX3_spread 2 = .ok (.aload_n 0, 1) := by decide +kernel
theorem dX3_spread_3 : decode cX3_spread 3 = .ok (.iload_n 1, 1) := by decide +kernel
theorem dX3_spread_4 : decode cX3_spread 4 = .ok (.iconst 0, 1) := by decide +kernel
theorem dX3_spread_5 : decode cX3_spread 5 = .ok (.iconst (-1), 1) := by decide +kernel
theorem dX3_spread_6 : decode cX3_spread 6 = .ok (.iconst (-1), 1) := by decide +kernel
theorem dX3_spread_7 : decode cX3_spread 7 = .ok (.invokevirtual 97, 3) := by decide +kernel
theorem dX3_spread_10 : decode cX3_spread 10 = .ok (.istore 4, 2) := by decide +kernel
theorem dX3_spread_12 : decode cX3_spread 12 = .ok (.iconst 0, 1) := by decide +kernel
theorem dX3_spread_13 : decode cX3_spread 13 = .ok (.istore 5, 2) := by decide +kernel
theorem dX3_spread_15 : decode cX3_spread 15 = .ok (.iload 5, 2) := by decide +kernel
theorem dX3_spread_17 : decode cX3_spread 17 = .ok (.iload 4, 2) := by decide +kernel
theorem dX3_spread_19 : decode cX3_spread 19 = .ok (.if_icmp .ge 103, 3) := by decide +kernel
theorem dX3_spread_22 : decode cX3_spread 22 = .ok (.iload 5, 2) := by decide +kernel
theorem dX3_spread_24 : decode cX3_spread 24 = .ok (.bipush 10, 2) := by decide +kernel
theorem dX3_spread_26 : decode cX3_spread 26 = .ok (.if_icmp .ge 96, 3) := by decide +kernel
theorem dX3_spread_29 : decode cX3_spread 29 = .ok (.aload_n 0, 1) := by decide +kernel
theorem dX3_spread_30 : decode cX3_spread 30 = .ok (.getfield 34, 3) := by decide +kernel
theorem dX3_spread_33 : decode cX3_spread 33 = .ok (.iload 5, 2) := by decide +kernel
theorem dX3_spread_35 : decode cX3_spread 35 = .ok (.iaload, 1) := by decide +kernel
theorem dX3_spread_36 : decode cX3_spread 36 = .ok (.istore 6, 2) := by decide +kernel
theorem dX3_spread_38 : decode cX3_spread 38 = .ok (.iconst 0, 1) := by decide +kernel
theorem dX3_spread_39 : decode cX3_spread 39 = .ok (.istore 7, 2) := by decide +kernel
theorem dX3_spread_41 : decode cX3_spread 41 = .ok (.iload 7, 2) := by decide +kernel
theorem dX3_spread_43 : decode cX3_spread 43 = .ok (.bipush 31, 2) := by decide +kernel
theorem dX3_spread_45 : decode cX3_spread 45 = .ok (.if_icmp .ge 71, 3) := by decide +kernel
theorem dX3_spread_48 : decode cX3_spread 48 = .ok (.aload_n 0, 1) := by decide +kernel
theorem dX3_spread_49 : decode cX3_spread 49 = .ok (.getfield 25, 3) := by decide +kernel
theorem dX3_spread_52 : decode cX3_spread 52 = .ok (.iload 7, 2) := by decide +kernel
theorem dX3_spread_54 : decode cX3_spread 54 = .ok (.iaload, 1) := by decide +kernel
theorem dX3_spread_55 : decode cX3_spread 55 = .ok (.iload_n 3, 1) := by decide +kernel
theorem dX3_spread_56 : decode cX3_spread 56 = .ok (.iconst (-1), 1) := by decide +kernel
theorem dX3_spread_57 : decode cX3_spread 57 = .ok (.ixor, 1) := by decide +kernel
theorem dX3_spread_58 : decode cX3_spread 58 = .ok (.iand, 1) := by decide +kernel
theorem dX3_spread_59 : decode cX3_spread 59 = .ok (.istore 8, 2) := by decide +kernel
theorem dX3_spread_61 : decode cX3_spread 61 = .ok (.iload 8, 2) := by decide +kernel
theorem dX3_spread_63 : decode cX3_spread 63 = .ok (.ifCond .eq 47, 3) := by decide +kernel
theorem dX3_spread_66 : decode cX3_spread 66 = .ok (.iload_n 2, 1) := by decide +kernel
theorem dX3_spread_67 : decode cX3_spread 67 = .ok (.iload 7, 2) := by decide +kernel
theorem dX3_spread_69 : decode cX3_spread 69 = .ok (.invokestatic 73, 3) := by decide +kernel
theorem dX3_spread_72 : decode cX3_spread 72 = .ok (.ifCond .eq 38, 3) := by decide +kernel
theorem dX3_spread_75 : decode cX3_spread 75 = .ok (.aload_n 0, 1) := by decide +kernel
theorem dX3_spread_76 : decode cX3_spread 76 = .ok (.getfield 22, 3) := by decide +kernel
theorem dX3_spread_79 : decode cX3_spread 79 = .ok (.iload 7, 2) := by decide +kernel
theorem dX3_spread_81 : decode cX3_spread 81 = .ok (.bipush 10, 2) := by decide +kernel
theorem dX3_spread_83 : decode cX3_spread 83 = .ok (.imul, 1) := by decide +kernel
theorem dX3_spread_84 : decode cX3_spread 84 = .ok (.iload 6, 2) := by decide +kernel
theorem dX3_spread_86 : decode cX3_spread 86 = .ok (.iadd, 1) := by decide +kernel
theorem dX3_spread_87 : decode cX3_spread 87 = .ok (.iaload, 1) := by decide +kernel
theorem dX3_spread_88 : decode cX3_spread 88 = .ok (.ifCond .le 22, 3) := by decide +kernel
theorem dX3_spread_91 : decode cX3_spread 91 = .ok (.aload_n 0, 1) := by decide +kernel
theorem dX3_spread_92 : decode cX3_spread 92 = .ok (.iload 8, 2) := by decide +kernel
theorem dX3_spread_94 : decode cX3_spread 94 = .ok (.iload 4, 2) := by decide +kernel
theorem dX3_spread_96 : decode cX3_spread 96 = .ok (.iload 6, 2) := by decide +kernel
theorem dX3_spread_98 : decode cX3_spread 98 = .ok (.iload 7, 2) := by decide +kernel
theorem dX3_spread_100 : decode cX3_spread 100 = .ok (.invokevirtual 97, 3) := by decide +kernel
theorem dX3_spread_103 : decode cX3_spread 103 = .ok (.istore 4, 2) := by decide +kernel
theorem dX3_spread_105 : decode cX3_spread 105 = .ok (.iload_n 3, 1) := by decide +kernel
theorem dX3_spread_106 : decode cX3_spread 106 = .ok (.iload 8, 2) := by decide +kernel
theorem dX3_spread_108 : decode cX3_spread 108 = .ok (.ior, 1) := by decide +kernel
theorem dX3_spread_109 : decode cX3_spread 109 = .ok (.istore_n 3, 1) := by decide +kernel
theorem dX3_spread_110 : decode cX3_spread 110 = .ok (.iinc 7 1, 3) := by decide +kernel
theorem dX3_spread_113 : decode cX3_spread 113 = .ok (.goto (-72), 3) := by decide +kernel
theorem dX3_spread_116 : decode cX3_spread 116 = .ok (.iinc 5 1, 3) := by decide +kernel
theorem dX3_spread_119 : decode cX3_spread 119 = .ok (.goto (-104), 3) := by decide +kernel
theorem dX3_spread_122 : decode cX3_spread 122 = .ok (.iload_n 3, 1) := by decide +kernel
theorem dX3_spread_123 : decode cX3_spread 123 = .ok (.ireturn, 1) := by decide +kernel
theorem dX3_reach_0 : decode cX3_reach 0 = .ok (.iload_n 2, 1) := by decide +kernel
theorem dX3_reach_1 : decode cX3_reach 1 = .ok (.istore 5, 2) := by decide +kernel
theorem dX3_reach_3 : decode cX3_reach 3 = .ok (.iconst 0, 1) := by decide +kernel
theorem dX3_reach_4 : decode cX3_reach 4 = .ok (.istore 6, 2) := by decide +kernel
theorem dX3_reach_6 : decode cX3_reach 6 = .ok (.iload 6, 2) := by decide +kernel
theorem dX3_reach_8 : decode cX3_reach 8 = .ok (.aload_n 0, 1) := by decide +kernel
theorem dX3_reach_9 : decode cX3_reach 9 = .ok (.getfield 9, 3) := by decide +kernel
theorem dX3_reach_12 : decode cX3_reach 12 = .ok (.if_icmp .ge 54, 3) := by decide +kernel
theorem dX3_reach_15 : decode cX3_reach 15 = .ok (.iload_n 1, 1) := by decide +kernel
theorem dX3_reach_16 : decode cX3_reach 16 = .ok (.iload 6, 2) := by decide +kernel
theorem dX3_reach_18 : decode cX3_reach 18 = .ok (.ishr, 1) := by decide +kernel
theorem dX3_reach_19 : decode cX3_reach 19 = .ok (.iconst 1, 1) := by decide +kernel
theorem dX3_reach_20 : decode cX3_reach 20 = .ok (.iand, 1) := by decide +kernel
theorem dX3_reach_21 : decode cX3_reach 21 = .ok (.ifCond .eq 39, 3) := by decide +kernel
theorem dX3_reach_24 : decode cX3_reach 24 = .ok (.iload 5, 2) := by decide +kernel
theorem dX3_reach_26 : decode cX3_reach 26 = .ok (.bipush 10, 2) := by decide +kernel
theorem dX3_reach_28 : decode cX3_reach 28 = .ok (.if_icmp .ge 32, 3) := by decide +kernel
theorem dX3_reach_31 : decode cX3_reach 31 = .ok (.aload_n 0, 1) := by decide +kernel
theorem dX3_reach_32 : decode cX3_reach 32 = .ok (.getfield 34, 3) := by decide +kernel
theorem dX3_reach_35 : decode cX3_reach 35 = .ok (.iload 5, 2) := by decide +kernel
theorem dX3_reach_37 : decode cX3_reach 37 = .ok (.iload 6, 2) := by decide +kernel
theorem dX3_reach_39 : decode cX3_reach 39 = .ok (.iastore, 1) := by decide +kernel
theorem dX3_reach_40 : decode cX3_reach 40 = .ok (.aload_n 0, 1) := by decide +kernel
theorem dX3_reach_41 : decode cX3_reach 41 = .ok (.getfield 37, 3) := by decide +kernel
theorem dX3_reach_44 : decode cX3_reach 44 = .ok (.iload 6, 2) := by decide +kernel
theorem dX3_reach_46 : decode cX3_reach 46 = .ok (.iload_n 3, 1) := by decide +kernel
theorem dX3_reach_47 : decode cX3_reach 47 = .ok (.iastore, 1) := by decide +kernel
theorem dX3_reach_48 : decode cX3_reach 48 = .ok (.aload_n 0, 1) := by decide +kernel
theorem dX3_reach_49 : decode cX3_reach 49 = .ok (.getfield 40, 3) := by decide +kernel
theorem dX3_reach_52 : decode cX3_reach 52 = .ok (.iload 6, 2) := by decide +kernel
theorem dX3_reach_54 : decode cX3_reach 54 = .ok (.iload 4, 2) := by decide +kernel
theorem dX3_reach_56 : decode cX3_reach 56 = .ok (.iastore, 1) := by decide +kernel
theorem dX3_reach_57 : decode cX3_reach 57 = .ok (.iinc 5 1, 3) := by decide +kernel
theorem dX3_reach_60 : decode cX3_reach 60 = .ok (.iinc 6 1, 3) := by decide +kernel
theorem dX3_reach_63 : decode cX3_reach 63 = .ok (.goto (-57), 3) := by decide +kernel
theorem dX3_reach_66 : decode cX3_reach 66 = .ok (.iload 5, 2) := by decide +kernel
theorem dX3_reach_68 : decode cX3_reach 68 = .ok (.ireturn, 1) := by decide +kernel
theorem dX3_shift_0 : decode cX3_shift 0 = .ok (.iload_n 3, 1) := by decide +kernel
theorem dX3_shift_1 : decode cX3_shift 1 = .ok (.aload_n 0, 1) := by decide +kernel
theorem dX3_shift_2 : decode cX3_shift 2 = .ok (.getfield 19, 3) := by decide +kernel
theorem dX3_shift_5 : decode cX3_shift 5 = .ok (.iload_n 2, 1) := by decide +kernel
theorem dX3_shift_6 : decode cX3_shift 6 = .ok (.iaload, 1) := by decide +kernel
theorem dX3_shift_7 : decode cX3_shift 7 = .ok (.invokestatic 100, 3) := by decide +kernel
theorem dX3_shift_10 : decode cX3_shift 10 = .ok (.istore 4, 2) := by decide +kernel
theorem dX3_shift_12 : decode cX3_shift 12 = .ok (.iload_n 2, 1) := by decide +kernel
theorem dX3_shift_13 : decode cX3_shift 13 = .ok (.istore 5, 2) := by decide +kernel
theorem dX3_shift_15 : decode cX3_shift 15 = .ok (.iconst 0, 1) := by decide +kernel
theorem dX3_shift_16 : decode cX3_shift 16 = .ok (.istore 6, 2) := by decide +kernel
theorem dX3_shift_18 : decode cX3_shift 18 = .ok (.iload 6, 2) := by decide +kernel
theorem dX3_shift_20 : decode cX3_shift 20 = .ok (.bipush 10, 2) := by decide +kernel
theorem dX3_shift_22 : decode cX3_shift 22 = .ok (.if_icmp .ge 54, 3) := by decide +kernel
theorem dX3_shift_25 : decode cX3_shift 25 = .ok (.iload 5, 2) := by decide +kernel
theorem dX3_shift_27 : decode cX3_shift 27 = .ok (.iload_n 1, 1) := by decide +kernel
theorem dX3_shift_28 : decode cX3_shift 28 = .ok (.if_icmp .eq 48, 3) := by decide +kernel
theorem dX3_shift_31 : decode cX3_shift 31 = .ok (.iload 4, 2) := by decide +kernel
theorem dX3_shift_33 : decode cX3_shift 33 = .ok (.aload_n 0, 1) := by decide +kernel
theorem dX3_shift_34 : decode cX3_shift 34 = .ok (.getfield 22, 3) := by decide +kernel
theorem dX3_shift_37 : decode cX3_shift 37 = .ok (.aload_n 0, 1) := by decide +kernel
theorem dX3_shift_38 : decode cX3_shift 38 = .ok (.getfield 40, 3) := by decide +kernel
theorem dX3_shift_41 : decode cX3_shift 41 = .ok (.iload 5, 2) := by decide +kernel
theorem dX3_shift_43 : decode cX3_shift 43 = .ok (.iaload, 1) := by decide +kernel
theorem dX3_shift_44 : decode cX3_shift 44 = .ok (.bipush 10, 2) := by decide +kernel
theorem dX3_shift_46 : decode cX3_shift 46 = .ok (.imul, 1) := by decide +kernel
theorem dX3_shift_47 : decode cX3_shift 47 = .ok (.aload_n 0, 1) := by decide +kernel
theorem dX3_shift_48 : decode cX3_shift 48 = .ok (.getfield 37, 3) := by decide +kernel
theorem dX3_shift_51 : decode cX3_shift 51 = .ok (.iload 5, 2) := by decide +kernel
theorem dX3_shift_53 : decode cX3_shift 53 = .ok (.iaload, 1) := by decide +kernel
theorem dX3_shift_54 : decode cX3_shift 54 = .ok (.iadd, 1) := by decide +kernel
theorem dX3_shift_55 : decode cX3_shift 55 = .ok (.iaload, 1) := by decide +kernel
theorem dX3_shift_56 : decode cX3_shift 56 = .ok (.invokestatic 100, 3) := by decide +kernel
theorem dX3_shift_59 : decode cX3_shift 59 = .ok (.istore 4, 2) := by decide +kernel
theorem dX3_shift_61 : decode cX3_shift 61 = .ok (.aload_n 0, 1) := by decide +kernel
theorem dX3_shift_62 : decode cX3_shift 62 = .ok (.getfield 37, 3) := by decide +kernel
theorem dX3_shift_65 : decode cX3_shift 65 = .ok (.iload 5, 2) := by decide +kernel
theorem dX3_shift_67 : decode cX3_shift 67 = .ok (.iaload, 1) := by decide +kernel
theorem dX3_shift_68 : decode cX3_shift 68 = .ok (.istore 5, 2) := by decide +kernel
theorem dX3_shift_70 : decode cX3_shift 70 = .ok (.iinc 6 1, 3) := by decide +kernel
theorem dX3_shift_73 : decode cX3_shift 73 = .ok (.goto (-55), 3) := by decide +kernel
theorem dX3_shift_76 : decode cX3_shift 76 = .ok (.aload_n 0, 1) := by decide +kernel
theorem dX3_shift_77 : decode cX3_shift 77 = .ok (.getfield 19, 3) := by decide +kernel
theorem dX3_shift_80 : decode cX3_shift 80 = .ok (.iload_n 2, 1) := by decide +kernel
theorem dX3_shift_81 : decode cX3_shift 81 = .ok (.dup2, 1) := by decide +kernel
theorem dX3_shift_82 : decode cX3_shift 82 = .ok (.iaload, 1) := by decide +kernel
theorem dX3_shift_83 : decode cX3_shift 83 = .ok (.iload 4, 2) := by decide +kernel
theorem dX3_shift_85 : decode cX3_shift 85 = .ok (.isub, 1) := by decide +kernel
theorem dX3_shift_86 : decode cX3_shift 86 = .ok (.iastore, 1) := by decide +kernel
theorem dX3_shift_87 : decode cX3_shift 87 = .ok (.iload_n 2, 1) := by decide +kernel
theorem dX3_shift_88 : decode cX3_shift 88 = .ok (.istore 5, 2) := by decide +kernel
theorem dX3_shift_90 : decode cX3_shift 90 = .ok (.iconst 0, 1) := by decide +kernel
theorem dX3_shift_91 : decode cX3_shift 91 = .ok (.istore 6, 2) := by decide +kernel
theorem dX3_shift_93 : decode cX3_shift 93 = .ok (.iload 6, 2) := by decide +kernel
theorem dX3_shift_95 : decode cX3_shift 95 = .ok (.bipush 10, 2) := by decide +kernel
theorem dX3_shift_97 : decode cX3_shift 97 = .ok (.if_icmp .ge 75, 3) := by decide +kernel
theorem dX3_shift_100 : decode cX3_shift 100 = .ok (.iload 5, 2) := by decide +kernel
theorem dX3_shift_102 : decode cX3_shift 102 = .ok (.iload_n 1, 1) := by decide +kernel
theorem dX3_shift_103 : decode cX3_shift 103 = .ok (.if_icmp .eq 69, 3) := by decide +kernel
theorem dX3_shift_106 : decode cX3_shift 106 = .ok (.aload_n 0, 1) := by decide +kernel
theorem dX3_shift_107 : decode cX3_shift 107 = .ok (.getfield 22, 3) := by decide +kernel
theorem dX3_shift_110 : decode cX3_shift 110 = .ok (.aload_n 0, 1) := by decide +kernel
theorem dX3_shift_111 : decode cX3_shift 111 = .ok (.getfield 40, 3) := by decide +kernel
theorem dX3_shift_114 : decode cX3_shift 114 = .ok (.iload 5, 2) := by decide +kernel
theorem dX3_shift_116 : decode cX3_shift 116 = .ok (.iaload, 1) := by decide +kernel
theorem dX3_shift_117 : decode cX3_shift 117 = .ok (.bipush 10, 2) := by decide +kernel
theorem dX3_shift_119 : decode cX3_shift 119 = .ok (.imul, 1) := by decide +kernel
theorem dX3_shift_120 : decode cX3_shift 120 = .ok (.iload 5, 2) := by decide +kernel
theorem dX3_shift_122 : decode cX3_shift 122 = .ok (.iadd, 1) := by decide +kernel
theorem dX3_shift_123 : decode cX3_shift 123 = .ok (.dup2, 1) := by decide +kernel
theorem dX3_shift_124 : decode cX3_shift 124 = .ok (.iaload, 1) := by decide +kernel
theorem dX3_shift_125 : decode cX3_shift 125 = .ok (.iload 4, 2) := by decide +kernel
theorem dX3_shift_127 : decode cX3_shift 127 = .ok (.iadd, 1) := by decide +kernel
theorem dX3_shift_128 : decode cX3_shift 128 = .ok (.iastore, 1) := by decide +kernel
theorem dX3_shift_129 : decode cX3_shift 129 = .ok (.aload_n 0, 1) := by decide +kernel
theorem dX3_shift_130 : decode cX3_shift 130 = .ok (.getfield 22, 3) := by decide +kernel
theorem dX3_shift_133 : decode cX3_shift 133 = .ok (.aload_n 0, 1) := by decide +kernel
theorem dX3_shift_134 : decode cX3_shift 134 = .ok (.getfield 40, 3) := by decide +kernel
theorem dX3_shift_137 : decode cX3_shift 137 = .ok (.iload 5, 2) := by decide +kernel
theorem dX3_shift_139 : decode cX3_shift 139 = .ok (.iaload, 1) := by decide +kernel
theorem dX3_shift_140 : decode cX3_shift 140 = .ok (.bipush 10, 2) := by decide +kernel
theorem dX3_shift_142 : decode cX3_shift 142 = .ok (.imul, 1) := by decide +kernel
theorem dX3_shift_143 : decode cX3_shift 143 = .ok (.aload_n 0, 1) := by decide +kernel
theorem dX3_shift_144 : decode cX3_shift 144 = .ok (.getfield 37, 3) := by decide +kernel
theorem dX3_shift_147 : decode cX3_shift 147 = .ok (.iload 5, 2) := by decide +kernel
theorem dX3_shift_149 : decode cX3_shift 149 = .ok (.iaload, 1) := by decide +kernel
theorem dX3_shift_150 : decode cX3_shift 150 = .ok (.iadd, 1) := by decide +kernel
theorem dX3_shift_151 : decode cX3_shift 151 = .ok (.dup2, 1) := by decide +kernel
theorem dX3_shift_152 : decode cX3_shift 152 = .ok (.iaload, 1) := by decide +kernel
theorem dX3_shift_153 : decode cX3_shift 153 = .ok (.iload 4, 2) := by decide +kernel
theorem dX3_shift_155 : decode cX3_shift 155 = .ok (.isub, 1) := by decide +kernel
theorem dX3_shift_156 : decode cX3_shift 156 = .ok (.iastore, 1) := by decide +kernel
theorem dX3_shift_157 : decode cX3_shift 157 = .ok (.aload_n 0, 1) := by decide +kernel
theorem dX3_shift_158 : decode cX3_shift 158 = .ok (.getfield 37, 3) := by decide +kernel
theorem dX3_shift_161 : decode cX3_shift 161 = .ok (.iload 5, 2) := by decide +kernel
theorem dX3_shift_163 : decode cX3_shift 163 = .ok (.iaload, 1) := by decide +kernel
theorem dX3_shift_164 : decode cX3_shift 164 = .ok (.istore 5, 2) := by decide +kernel
theorem dX3_shift_166 : decode cX3_shift 166 = .ok (.iinc 6 1, 3) := by decide +kernel
theorem dX3_shift_169 : decode cX3_shift 169 = .ok (.goto (-76), 3) := by decide +kernel
theorem dX3_shift_172 : decode cX3_shift 172 = .ok (.iload 4, 2) := by decide +kernel
theorem dX3_shift_174 : decode cX3_shift 174 = .ok (.ireturn, 1) := by decide +kernel
theorem dX3_takesFrom_0 : decode cX3_takesFrom 0 = .ok (.iconst 0, 1) := by decide +kernel
theorem dX3_takesFrom_1 : decode cX3_takesFrom 1 = .ok (.istore_n 3, 1) := by decide +kernel
theorem dX3_takesFrom_2 : decode cX3_takesFrom 2 = .ok (.iload_n 3, 1) := by decide +kernel
theorem dX3_takesFrom_3 : decode cX3_takesFrom 3 = .ok (.aload_n 0, 1) := by decide +kernel
theorem dX3_takesFrom_4 : decode cX3_takesFrom 4 = .ok (.getfield 9, 3) := by decide +kernel
theorem dX3_takesFrom_7 : decode cX3_takesFrom 7 = .ok (.if_icmp .ge 33, 3) := by decide +kernel
theorem dX3_takesFrom_10 : decode cX3_takesFrom 10 = .ok (.iload_n 2, 1) := by decide +kernel
theorem dX3_takesFrom_11 : decode cX3_takesFrom 11 = .ok (.iload_n 3, 1) := by decide +kernel
theorem dX3_takesFrom_12 : decode cX3_takesFrom 12 = .ok (.invokestatic 73, 3) := by decide +kernel
theorem dX3_takesFrom_15 : decode cX3_takesFrom 15 = .ok (.ifCond .eq 19, 3) := by decide +kernel
theorem dX3_takesFrom_18 : decode cX3_takesFrom 18 = .ok (.aload_n 0, 1) := by decide +kernel
theorem dX3_takesFrom_19 : decode cX3_takesFrom 19 = .ok (.getfield 22, 3) := by decide +kernel
theorem dX3_takesFrom_22 : decode cX3_takesFrom 22 = .ok (.iload_n 1, 1) := by decide +kernel
theorem dX3_takesFrom_23 : decode cX3_takesFrom 23 = .ok (.bipush 10, 2) := by decide +kernel
theorem dX3_takesFrom_25 : decode cX3_takesFrom 25 = .ok (.imul, 1) := by decide +kernel
theorem dX3_takesFrom_26 : decode cX3_takesFrom 26 = .ok (.iload_n 3, 1) := by decide +kernel
theorem dX3_takesFrom_27 : decode cX3_takesFrom 27 = .ok (.iadd, 1) := by decide +kernel
theorem dX3_takesFrom_28 : decode cX3_takesFrom 28 = .ok (.iaload, 1) := by decide +kernel
theorem dX3_takesFrom_29 : decode cX3_takesFrom 29 = .ok (.ifCond .le 5, 3) := by decide +kernel
theorem dX3_takesFrom_32 : decode cX3_takesFrom 32 = .ok (.iconst 1, 1) := by decide +kernel
theorem dX3_takesFrom_33 : decode cX3_takesFrom 33 = .ok (.ireturn, 1) := by decide +kernel
theorem dX3_takesFrom_34 : decode cX3_takesFrom 34 = .ok (.iinc 3 1, 3) := by decide +kernel
theorem dX3_takesFrom_37 : decode cX3_takesFrom 37 = .ok (.goto (-35), 3) := by decide +kernel
theorem dX3_takesFrom_40 : decode cX3_takesFrom 40 = .ok (.iconst 0, 1) := by decide +kernel
theorem dX3_takesFrom_41 : decode cX3_takesFrom 41 = .ok (.ireturn, 1) := by decide +kernel
theorem dX3_partsOf_0 : decode cX3_partsOf 0 = .ok (.iconst 0, 1) := by decide +kernel
theorem dX3_partsOf_1 : decode cX3_partsOf 1 = .ok (.istore_n 2, 1) := by decide +kernel
theorem dX3_partsOf_2 : decode cX3_partsOf 2 = .ok (.iconst 0, 1) := by decide +kernel
theorem dX3_partsOf_3 : decode cX3_partsOf 3 = .ok (.istore_n 3, 1) := by decide +kernel
theorem dX3_partsOf_4 : decode cX3_partsOf 4 = .ok (.iload_n 3, 1) := by decide +kernel
theorem dX3_partsOf_5 : decode cX3_partsOf 5 = .ok (.aload_n 0, 1) := by decide +kernel
theorem dX3_partsOf_6 : decode cX3_partsOf 6 = .ok (.getfield 9, 3) := by decide +kernel
theorem dX3_partsOf_9 : decode cX3_partsOf 9 = .ok (.if_icmp .ge 26, 3) := by decide +kernel
theorem dX3_partsOf_12 : decode cX3_partsOf 12 = .ok (.aload_n 0, 1) := by decide +kernel
theorem dX3_partsOf_13 : decode cX3_partsOf 13 = .ok (.getfield 22, 3) := by decide +kernel
theorem dX3_partsOf_16 : decode cX3_partsOf 16 = .ok (.iload_n 1, 1) := by decide +kernel
theorem dX3_partsOf_17 : decode cX3_partsOf 17 = .ok (.bipush 10, 2) := by decide +kernel
theorem dX3_partsOf_19 : decode cX3_partsOf 19 = .ok (.imul, 1) := by decide +kernel
theorem dX3_partsOf_20 : decode cX3_partsOf 20 = .ok (.iload_n 3, 1) := by decide +kernel
theorem dX3_partsOf_21 : decode cX3_partsOf 21 = .ok (.iadd, 1) := by decide +kernel
theorem dX3_partsOf_22 : decode cX3_partsOf 22 = .ok (.iaload, 1) := by decide +kernel
theorem dX3_partsOf_23 : decode cX3_partsOf 23 = .ok (.ifCond .le 6, 3) := by decide +kernel
theorem dX3_partsOf_26 : decode cX3_partsOf 26 = .ok (.iinc 2 1, 3) := by decide +kernel
theorem dX3_partsOf_29 : decode cX3_partsOf 29 = .ok (.iinc 3 1, 3) := by decide +kernel
theorem dX3_partsOf_32 : decode cX3_partsOf 32 = .ok (.goto (-28), 3) := by decide +kernel
theorem dX3_partsOf_35 : decode cX3_partsOf 35 = .ok (.iload_n 2, 1) := by decide +kernel
theorem dX3_partsOf_36 : decode cX3_partsOf 36 = .ok (.ireturn, 1) := by decide +kernel
theorem dX3_partOf_0 : decode cX3_partOf 0 = .ok (.iconst 0, 1) := by decide +kernel
theorem dX3_partOf_1 : decode cX3_partOf 1 = .ok (.istore 4, 2) := by decide +kernel
theorem dX3_partOf_3 : decode cX3_partOf 3 = .ok (.iconst 0, 1) := by decide +kernel
theorem dX3_partOf_4 : decode cX3_partOf 4 = .ok (.istore 5, 2) := by decide +kernel
theorem dX3_partOf_6 : decode cX3_partOf 6 = .ok (.iload 5, 2) := by decide +kernel
theorem dX3_partOf_8 : decode cX3_partOf 8 = .ok (.aload_n 0, 1) := by decide +kernel
theorem dX3_partOf_9 : decode cX3_partOf 9 = .ok (.getfield 9, 3) := by decide +kernel
theorem dX3_partOf_12 : decode cX3_partOf 12 = .ok (.if_icmp .ge 58, 3) := by decide +kernel
theorem dX3_partOf_15 : decode cX3_partOf 15 = .ok (.aload_n 0, 1) := by decide +kernel
theorem dX3_partOf_16 : decode cX3_partOf 16 = .ok (.getfield 15, 3) := by decide +kernel
theorem dX3_partOf_19 : decode cX3_partOf 19 = .ok (.iload 5, 2) := by decide +kernel
theorem dX3_partOf_21 : decode cX3_partOf 21 = .ok (.iaload, 1) := by decide +kernel
theorem dX3_partOf_22 : decode cX3_partOf 22 = .ok (.istore 6, 2) := by decide +kernel
theorem dX3_partOf_24 : decode cX3_partOf 24 = .ok (.aload_n 0, 1) := by decide +kernel
theorem dX3_partOf_25 : decode cX3_partOf 25 = .ok (.getfield 22, 3) := by decide +kernel
theorem dX3_partOf_28 : decode cX3_partOf 28 = .ok (.iload_n 1, 1) := by decide +kernel
theorem dX3_partOf_29 : decode cX3_partOf 29 = .ok (.bipush 10, 2) := by decide +kernel
theorem dX3_partOf_31 : decode cX3_partOf 31 = .ok (.imul, 1) := by decide +kernel
theorem dX3_partOf_32 : decode cX3_partOf 32 = .ok (.iload 6, 2) := by decide +kernel
theorem dX3_partOf_34 : decode cX3_partOf 34 = .ok (.iadd, 1) := by decide +kernel
theorem dX3_partOf_35 : decode cX3_partOf 35 = .ok (.iaload, 1) := by decide +kernel
theorem dX3_partOf_36 : decode cX3_partOf 36 = .ok (.istore 7, 2) := by decide +kernel
theorem dX3_partOf_38 : decode cX3_partOf 38 = .ok (.iload 7, 2) := by decide +kernel
theorem dX3_partOf_40 : decode cX3_partOf 40 = .ok (.ifCond .le 24, 3) := by decide +kernel
theorem dX3_partOf_43 : decode cX3_partOf 43 = .ok (.iload 4, 2) := by decide +kernel
theorem dX3_partOf_45 : decode cX3_partOf 45 = .ok (.iload_n 2, 1) := by decide +kernel
theorem dX3_partOf_46 : decode cX3_partOf 46 = .ok (.if_icmp .ne 15, 3) := by decide +kernel
theorem dX3_partOf_49 : decode cX3_partOf 49 = .ok (.iload_n 3, 1) := by decide +kernel
theorem dX3_partOf_50 : decode cX3_partOf 50 = .ok (.ifCond .eq 8, 3) := by decide +kernel
theorem dX3_partOf_53 : decode cX3_partOf 53 = .ok (.iload 6, 2) := by decide +kernel
theorem dX3_partOf_55 : decode cX3_partOf 55 = .ok (.goto 5, 3) := by decide +kernel
theorem dX3_partOf_58 : decode cX3_partOf 58 = .ok (.iload 7, 2) := by decide +kernel
theorem dX3_partOf_60 : decode cX3_partOf 60 = .ok (.ireturn, 1) := by decide +kernel
theorem dX3_partOf_61 : decode cX3_partOf 61 = .ok (.iinc 4 1, 3) := by decide +kernel
theorem dX3_partOf_64 : decode cX3_partOf 64 = .ok (.iinc 5 1, 3) := by decide +kernel
theorem dX3_partOf_67 : decode cX3_partOf 67 = .ok (.goto (-61), 3) := by decide +kernel
theorem dX3_partOf_70 : decode cX3_partOf 70 = .ok (.iconst (-1), 1) := by decide +kernel
theorem dX3_partOf_71 : decode cX3_partOf 71 = .ok (.ireturn, 1) := by decide +kernel
theorem dL_arrival_0 : decode cL_arrival 0 = .ok (.aload 4, 2) := by decide +kernel
theorem dL_arrival_2 : decode cL_arrival 2 = .ok (.iconst 0, 1) := by decide +kernel
theorem dL_arrival_3 : decode cL_arrival 3 = .ok (.aload_n 0, 1) := by decide +kernel
theorem dL_arrival_4 : decode cL_arrival 4 = .ok (.iload_n 1, 1) := by decide +kernel
theorem dL_arrival_5 : decode cL_arrival 5 = .ok (.iload_n 2, 1) := by decide +kernel
theorem dL_arrival_6 : decode cL_arrival 6 = .ok (.iload_n 3, 1) := by decide +kernel
theorem dL_arrival_7 : decode cL_arrival 7 = .ok (.invokevirtual 7, 3) := by decide +kernel
theorem dL_arrival_10 : decode cL_arrival 10 = .ok (.i2l, 1) := by decide +kernel
theorem dL_arrival_11 : decode cL_arrival 11 = .ok (.lastore, 1) := by decide +kernel
theorem dL_arrival_12 : decode cL_arrival 12 = .ok (.goto 15, 3) := by decide +kernel
theorem dL_arrival_15 : decode cL_arrival 15 = .ok (.astore 5, 2) := by decide +kernel
theorem dL_arrival_17 : decode cL_arrival 17 = .ok (.iconst 1, 1) := by decide +kernel
theorem dL_arrival_18 : decode cL_arrival 18 = .ok (.ireturn, 1) := by decide +kernel
theorem dL_arrival_19 : decode cL_arrival 19 = .ok (.astore 5, 2) := by decide +kernel
theorem dL_arrival_21 : decode cL_arrival 21 = .ok (.iconst 2, 1) := by decide +kernel
theorem dL_arrival_22 : decode cL_arrival 22 = .ok (.ireturn, 1) := by decide +kernel
theorem dL_arrival_23 : decode cL_arrival 23 = .ok (.astore 5, 2) := by decide +kernel
theorem dL_arrival_25 : decode cL_arrival 25 = .ok (.iconst 3, 1) := by decide +kernel
theorem dL_arrival_26 : decode cL_arrival 26 = .ok (.ireturn, 1) := by decide +kernel
theorem dL_arrival_27 : decode cL_arrival 27 = .ok (.iconst 0, 1) := by decide +kernel
theorem dL_arrival_28 : decode cL_arrival 28 = .ok (.ireturn, 1) := by decide +kernel
theorem dL_change_0 : decode cL_change 0 = .ok (.aload 4, 2) := by decide +kernel
theorem dL_change_2 : decode cL_change 2 = .ok (.iconst 0, 1) := by decide +kernel
theorem dL_change_3 : decode cL_change 3 = .ok (.aload_n 0, 1) := by decide +kernel
theorem dL_change_4 : decode cL_change 4 = .ok (.iload_n 1, 1) := by decide +kernel
theorem dL_change_5 : decode cL_change 5 = .ok (.iload_n 2, 1) := by decide +kernel
theorem dL_change_6 : decode cL_change 6 = .ok (.iload_n 3, 1) := by decide +kernel
theorem dL_change_7 : decode cL_change 7 = .ok (.invokevirtual 19, 3) := by decide +kernel
theorem dL_change_10 : decode cL_change 10 = .ok (.i2l, 1) := by decide +kernel
theorem dL_change_11 : decode cL_change 11 = .ok (.lastore, 1) := by decide +kernel
theorem dL_change_12 : decode cL_change 12 = .ok (.goto 15, 3) := by decide +kernel
theorem dL_change_15 : decode cL_change 15 = .ok (.astore 5, 2) := by decide +kernel
theorem dL_change_17 : decode cL_change 17 = .ok (.iconst 1, 1) := by decide +kernel
theorem dL_change_18 : decode cL_change 18 = .ok (.ireturn, 1) := by decide +kernel
theorem dL_change_19 : decode cL_change 19 = .ok (.astore 5, 2) := by decide +kernel
theorem dL_change_21 : decode cL_change 21 = .ok (.iconst 2, 1) := by decide +kernel
theorem dL_change_22 : decode cL_change 22 = .ok (.ireturn, 1) := by decide +kernel
theorem dL_change_23 : decode cL_change 23 = .ok (.astore 5, 2) := by decide +kernel
theorem dL_change_25 : decode cL_change 25 = .ok (.iconst 3, 1) := by decide +kernel
theorem dL_change_26 : decode cL_change 26 = .ok (.ireturn, 1) := by decide +kernel
theorem dL_change_27 : decode cL_change 27 = .ok (.iconst 0, 1) := by decide +kernel
theorem dL_change_28 : decode cL_change 28 = .ok (.ireturn, 1) := by decide +kernel
theorem dL_aside_0 : decode cL_aside 0 = .ok (.aload_n 3, 1) := by decide +kernel
theorem dL_aside_1 : decode cL_aside 1 = .ok (.iconst 0, 1) := by decide +kernel
theorem dL_aside_2 : decode cL_aside 2 = .ok (.aload_n 0, 1) := by decide +kernel
theorem dL_aside_3 : decode cL_aside 3 = .ok (.iload_n 1, 1) := by decide +kernel
theorem dL_aside_4 : decode cL_aside 4 = .ok (.iload_n 2, 1) := by decide +kernel
theorem dL_aside_5 : decode cL_aside 5 = .ok (.invokevirtual 24, 3) := by decide +kernel
theorem dL_aside_8 : decode cL_aside 8 = .ok (.i2l, 1) := by decide +kernel
theorem dL_aside_9 : decode cL_aside 9 = .ok (.lastore, 1) := by decide +kernel
theorem dL_aside_10 : decode cL_aside 10 = .ok (.goto 11, 3) := by decide +kernel
theorem dL_aside_13 : decode cL_aside 13 = .ok (.astore 4, 2) := by decide +kernel
theorem dL_aside_15 : decode cL_aside 15 = .ok (.iconst 1, 1) := by decide +kernel
theorem dL_aside_16 : decode cL_aside 16 = .ok (.ireturn, 1) := by decide +kernel
theorem dL_aside_17 : decode cL_aside 17 = .ok (.astore 4, 2) := by decide +kernel
theorem dL_aside_19 : decode cL_aside 19 = .ok (.iconst 2, 1) := by decide +kernel
theorem dL_aside_20 : decode cL_aside 20 = .ok (.ireturn, 1) := by decide +kernel
theorem dL_aside_21 : decode cL_aside 21 = .ok (.iconst 0, 1) := by decide +kernel
theorem dL_aside_22 : decode cL_aside 22 = .ok (.ireturn, 1) := by decide +kernel
theorem dL_life_0 : decode cL_life 0 = .ok (.aload_n 3, 1) := by decide +kernel
theorem dL_life_1 : decode cL_life 1 = .ok (.iconst 0, 1) := by decide +kernel
theorem dL_life_2 : decode cL_life 2 = .ok (.aload_n 0, 1) := by decide +kernel
theorem dL_life_3 : decode cL_life 3 = .ok (.iload_n 1, 1) := by decide +kernel
theorem dL_life_4 : decode cL_life 4 = .ok (.iload_n 2, 1) := by decide +kernel
theorem dL_life_5 : decode cL_life 5 = .ok (.invokevirtual 28, 3) := by decide +kernel
theorem dL_life_8 : decode cL_life 8 = .ok (.i2l, 1) := by decide +kernel
theorem dL_life_9 : decode cL_life 9 = .ok (.lastore, 1) := by decide +kernel
theorem dL_life_10 : decode cL_life 10 = .ok (.goto 7, 3) := by decide +kernel
theorem dL_life_13 : decode cL_life 13 = .ok (.astore 4, 2) := by decide +kernel
theorem dL_life_15 : decode cL_life 15 = .ok (.iconst 1, 1) := by decide +kernel
theorem dL_life_16 : decode cL_life 16 = .ok (.ireturn, 1) := by decide +kernel
theorem dL_life_17 : decode cL_life 17 = .ok (.iconst 0, 1) := by decide +kernel
theorem dL_life_18 : decode cL_life 18 = .ok (.ireturn, 1) := by decide +kernel
theorem dL_standIn_0 : decode cL_standIn 0 = .ok (.aload 4, 2) := by decide +kernel
theorem dL_standIn_2 : decode cL_standIn 2 = .ok (.iconst 0, 1) := by decide +kernel
theorem dL_standIn_3 : decode cL_standIn 3 = .ok (.aload_n 0, 1) := by decide +kernel
theorem dL_standIn_4 : decode cL_standIn 4 = .ok (.iload_n 1, 1) := by decide +kernel
theorem dL_standIn_5 : decode cL_standIn 5 = .ok (.iload_n 2, 1) := by decide +kernel
theorem dL_standIn_6 : decode cL_standIn 6 = .ok (.iload_n 3, 1) := by decide +kernel
theorem dL_standIn_7 : decode cL_standIn 7 = .ok (.invokevirtual 31, 3) := by decide +kernel
theorem dL_standIn_10 : decode cL_standIn 10 = .ok (.i2l, 1) := by decide +kernel
theorem dL_standIn_11 : decode cL_standIn 11 = .ok (.lastore, 1) := by decide +kernel
theorem dL_standIn_12 : decode cL_standIn 12 = .ok (.goto 11, 3) := by decide +kernel
theorem dL_standIn_15 : decode cL_standIn 15 = .ok (.astore 5, 2) := by decide +kernel
theorem dL_standIn_17 : decode cL_standIn 17 = .ok (.iconst 1, 1) := by decide +kernel
theorem dL_standIn_18 : decode cL_standIn 18 = .ok (.ireturn, 1) := by decide +kernel
theorem dL_standIn_19 : decode cL_standIn 19 = .ok (.astore 5, 2) := by decide +kernel
theorem dL_standIn_21 : decode cL_standIn 21 = .ok (.iconst 2, 1) := by decide +kernel
theorem dL_standIn_22 : decode cL_standIn 22 = .ok (.ireturn, 1) := by decide +kernel
theorem dL_standIn_23 : decode cL_standIn 23 = .ok (.iconst 0, 1) := by decide +kernel
theorem dL_standIn_24 : decode cL_standIn 24 = .ok (.ireturn, 1) := by decide +kernel
theorem dL_kit_0 : decode cL_kit 0 = .ok (.aload 4, 2) := by decide +kernel
theorem dL_kit_2 : decode cL_kit 2 = .ok (.iconst 0, 1) := by decide +kernel
theorem dL_kit_3 : decode cL_kit 3 = .ok (.aload_n 0, 1) := by decide +kernel
theorem dL_kit_4 : decode cL_kit 4 = .ok (.iload_n 1, 1) := by decide +kernel
theorem dL_kit_5 : decode cL_kit 5 = .ok (.iload_n 2, 1) := by decide +kernel
theorem dL_kit_6 : decode cL_kit 6 = .ok (.iload_n 3, 1) := by decide +kernel
theorem dL_kit_7 : decode cL_kit 7 = .ok (.invokevirtual 35, 3) := by decide +kernel
theorem dL_kit_10 : decode cL_kit 10 = .ok (.i2l, 1) := by decide +kernel
theorem dL_kit_11 : decode cL_kit 11 = .ok (.lastore, 1) := by decide +kernel
theorem dL_kit_12 : decode cL_kit 12 = .ok (.goto 15, 3) := by decide +kernel
theorem dL_kit_15 : decode cL_kit 15 = .ok (.astore 5, 2) := by decide +kernel
theorem dL_kit_17 : decode cL_kit 17 = .ok (.iconst 1, 1) := by decide +kernel
theorem dL_kit_18 : decode cL_kit 18 = .ok (.ireturn, 1) := by decide +kernel
theorem dL_kit_19 : decode cL_kit 19 = .ok (.astore 5, 2) := by decide +kernel
theorem dL_kit_21 : decode cL_kit 21 = .ok (.iconst 2, 1) := by decide +kernel
theorem dL_kit_22 : decode cL_kit 22 = .ok (.ireturn, 1) := by decide +kernel
theorem dL_kit_23 : decode cL_kit 23 = .ok (.astore 5, 2) := by decide +kernel
theorem dL_kit_25 : decode cL_kit 25 = .ok (.iconst 3, 1) := by decide +kernel
theorem dL_kit_26 : decode cL_kit 26 = .ok (.ireturn, 1) := by decide +kernel
theorem dL_kit_27 : decode cL_kit 27 = .ok (.iconst 0, 1) := by decide +kernel
theorem dL_kit_28 : decode cL_kit 28 = .ok (.ireturn, 1) := by decide +kernel
theorem dL_order_0 : decode cL_order 0 = .ok (.aload 5, 2) := by decide +kernel
theorem dL_order_2 : decode cL_order 2 = .ok (.iconst 0, 1) := by decide +kernel
theorem dL_order_3 : decode cL_order 3 = .ok (.aload_n 0, 1) := by decide +kernel
theorem dL_order_4 : decode cL_order 4 = .ok (.iload_n 1, 1) := by decide +kernel
theorem dL_order_5 : decode cL_order 5 = .ok (.iload_n 2, 1) := by decide +kernel
theorem dL_order_6 : decode cL_order 6 = .ok (.iload_n 3, 1) := by decide +kernel
theorem dL_order_7 : decode cL_order 7 = .ok (.iload 4, 2) := by decide +kernel
theorem dL_order_9 : decode cL_order 9 = .ok (.invokevirtual 38, 3) := by decide +kernel
theorem dL_order_12 : decode cL_order 12 = .ok (.i2l, 1) := by decide +kernel
theorem dL_order_13 : decode cL_order 13 = .ok (.lastore, 1) := by decide +kernel
theorem dL_order_14 : decode cL_order 14 = .ok (.goto 11, 3) := by decide +kernel
theorem dL_order_17 : decode cL_order 17 = .ok (.astore 6, 2) := by decide +kernel
theorem dL_order_19 : decode cL_order 19 = .ok (.iconst 1, 1) := by decide +kernel
theorem dL_order_20 : decode cL_order 20 = .ok (.ireturn, 1) := by decide +kernel
theorem dL_order_21 : decode cL_order 21 = .ok (.astore 6, 2) := by decide +kernel
theorem dL_order_23 : decode cL_order 23 = .ok (.iconst 2, 1) := by decide +kernel
theorem dL_order_24 : decode cL_order 24 = .ok (.ireturn, 1) := by decide +kernel
theorem dL_order_25 : decode cL_order 25 = .ok (.iconst 0, 1) := by decide +kernel
theorem dL_order_26 : decode cL_order 26 = .ok (.ireturn, 1) := by decide +kernel
theorem dL_close_0 : decode cL_close 0 = .ok (.aload_n 2, 1) := by decide +kernel
theorem dL_close_1 : decode cL_close 1 = .ok (.iconst 0, 1) := by decide +kernel
theorem dL_close_2 : decode cL_close 2 = .ok (.aload_n 0, 1) := by decide +kernel
theorem dL_close_3 : decode cL_close 3 = .ok (.iload_n 1, 1) := by decide +kernel
theorem dL_close_4 : decode cL_close 4 = .ok (.invokevirtual 42, 3) := by decide +kernel
theorem dL_close_7 : decode cL_close 7 = .ok (.i2l, 1) := by decide +kernel
theorem dL_close_8 : decode cL_close 8 = .ok (.lastore, 1) := by decide +kernel
theorem dL_close_9 : decode cL_close 9 = .ok (.goto 9, 3) := by decide +kernel
theorem dL_close_12 : decode cL_close 12 = .ok (.astore_n 3, 1) := by decide +kernel
theorem dL_close_13 : decode cL_close 13 = .ok (.iconst 1, 1) := by decide +kernel
theorem dL_close_14 : decode cL_close 14 = .ok (.ireturn, 1) := by decide +kernel
theorem dL_close_15 : decode cL_close 15 = .ok (.astore_n 3, 1) := by decide +kernel
theorem dL_close_16 : decode cL_close 16 = .ok (.iconst 2, 1) := by decide +kernel
theorem dL_close_17 : decode cL_close 17 = .ok (.ireturn, 1) := by decide +kernel
theorem dL_close_18 : decode cL_close 18 = .ok (.iconst 0, 1) := by decide +kernel
theorem dL_close_19 : decode cL_close 19 = .ok (.ireturn, 1) := by decide +kernel
theorem dL_promise_0 : decode cL_promise 0 = .ok (.aload_n 3, 1) := by decide +kernel
theorem dL_promise_1 : decode cL_promise 1 = .ok (.iconst 0, 1) := by decide +kernel
theorem dL_promise_2 : decode cL_promise 2 = .ok (.aload_n 0, 1) := by decide +kernel
theorem dL_promise_3 : decode cL_promise 3 = .ok (.iload_n 1, 1) := by decide +kernel
theorem dL_promise_4 : decode cL_promise 4 = .ok (.iload_n 2, 1) := by decide +kernel
theorem dL_promise_5 : decode cL_promise 5 = .ok (.invokevirtual 46, 3) := by decide +kernel
theorem dL_promise_8 : decode cL_promise 8 = .ok (.i2l, 1) := by decide +kernel
theorem dL_promise_9 : decode cL_promise 9 = .ok (.lastore, 1) := by decide +kernel
theorem dL_promise_10 : decode cL_promise 10 = .ok (.goto 7, 3) := by decide +kernel
theorem dL_promise_13 : decode cL_promise 13 = .ok (.astore 4, 2) := by decide +kernel
theorem dL_promise_15 : decode cL_promise 15 = .ok (.iconst 1, 1) := by decide +kernel
theorem dL_promise_16 : decode cL_promise 16 = .ok (.ireturn, 1) := by decide +kernel
theorem dL_promise_17 : decode cL_promise 17 = .ok (.iconst 0, 1) := by decide +kernel
theorem dL_promise_18 : decode cL_promise 18 = .ok (.ireturn, 1) := by decide +kernel
theorem dL_share_0 : decode cL_share 0 = .ok (.aload_n 3, 1) := by decide +kernel
theorem dL_share_1 : decode cL_share 1 = .ok (.iconst 0, 1) := by decide +kernel
theorem dL_share_2 : decode cL_share 2 = .ok (.aload_n 0, 1) := by decide +kernel
theorem dL_share_3 : decode cL_share 3 = .ok (.iload_n 1, 1) := by decide +kernel
theorem dL_share_4 : decode cL_share 4 = .ok (.iload_n 2, 1) := by decide +kernel
theorem dL_share_5 : decode cL_share 5 = .ok (.invokevirtual 49, 3) := by decide +kernel
theorem dL_share_8 : decode cL_share 8 = .ok (.i2l, 1) := by decide +kernel
theorem dL_share_9 : decode cL_share 9 = .ok (.lastore, 1) := by decide +kernel
theorem dL_share_10 : decode cL_share 10 = .ok (.goto 11, 3) := by decide +kernel
theorem dL_share_13 : decode cL_share 13 = .ok (.astore 4, 2) := by decide +kernel
theorem dL_share_15 : decode cL_share 15 = .ok (.iconst 1, 1) := by decide +kernel
theorem dL_share_16 : decode cL_share 16 = .ok (.ireturn, 1) := by decide +kernel
theorem dL_share_17 : decode cL_share 17 = .ok (.astore 4, 2) := by decide +kernel
theorem dL_share_19 : decode cL_share 19 = .ok (.iconst 2, 1) := by decide +kernel
theorem dL_share_20 : decode cL_share 20 = .ok (.ireturn, 1) := by decide +kernel
theorem dL_share_21 : decode cL_share 21 = .ok (.iconst 0, 1) := by decide +kernel
theorem dL_share_22 : decode cL_share 22 = .ok (.ireturn, 1) := by decide +kernel
theorem dL_bars_0 : decode cL_bars 0 = .ok (.aload 4, 2) := by decide +kernel
theorem dL_bars_2 : decode cL_bars 2 = .ok (.iconst 0, 1) := by decide +kernel
theorem dL_bars_3 : decode cL_bars 3 = .ok (.aload_n 0, 1) := by decide +kernel
theorem dL_bars_4 : decode cL_bars 4 = .ok (.iload_n 1, 1) := by decide +kernel
theorem dL_bars_5 : decode cL_bars 5 = .ok (.iload_n 2, 1) := by decide +kernel
theorem dL_bars_6 : decode cL_bars 6 = .ok (.iload_n 3, 1) := by decide +kernel
theorem dL_bars_7 : decode cL_bars 7 = .ok (.invokevirtual 54, 3) := by decide +kernel
theorem dL_bars_10 : decode cL_bars 10 = .ok (.i2l, 1) := by decide +kernel
theorem dL_bars_11 : decode cL_bars 11 = .ok (.lastore, 1) := by decide +kernel
theorem dL_bars_12 : decode cL_bars 12 = .ok (.goto 11, 3) := by decide +kernel
theorem dL_bars_15 : decode cL_bars 15 = .ok (.astore 5, 2) := by decide +kernel
theorem dL_bars_17 : decode cL_bars 17 = .ok (.iconst 1, 1) := by decide +kernel
theorem dL_bars_18 : decode cL_bars 18 = .ok (.ireturn, 1) := by decide +kernel
theorem dL_bars_19 : decode cL_bars 19 = .ok (.astore 5, 2) := by decide +kernel
theorem dL_bars_21 : decode cL_bars 21 = .ok (.iconst 2, 1) := by decide +kernel
theorem dL_bars_22 : decode cL_bars 22 = .ok (.ireturn, 1) := by decide +kernel
theorem dL_bars_23 : decode cL_bars 23 = .ok (.iconst 0, 1) := by decide +kernel
theorem dL_bars_24 : decode cL_bars 24 = .ok (.ireturn, 1) := by decide +kernel
theorem dL_flow_0 : decode cL_flow 0 = .ok (.aload 4, 2) := by decide +kernel
theorem dL_flow_2 : decode cL_flow 2 = .ok (.iconst 0, 1) := by decide +kernel
theorem dL_flow_3 : decode cL_flow 3 = .ok (.aload_n 0, 1) := by decide +kernel
theorem dL_flow_4 : decode cL_flow 4 = .ok (.iload_n 1, 1) := by decide +kernel
theorem dL_flow_5 : decode cL_flow 5 = .ok (.iload_n 2, 1) := by decide +kernel
theorem dL_flow_6 : decode cL_flow 6 = .ok (.iload_n 3, 1) := by decide +kernel
theorem dL_flow_7 : decode cL_flow 7 = .ok (.invokevirtual 57, 3) := by decide +kernel
theorem dL_flow_10 : decode cL_flow 10 = .ok (.i2l, 1) := by decide +kernel
theorem dL_flow_11 : decode cL_flow 11 = .ok (.lastore, 1) := by decide +kernel
theorem dL_flow_12 : decode cL_flow 12 = .ok (.goto 15, 3) := by decide +kernel
theorem dL_flow_15 : decode cL_flow 15 = .ok (.astore 5, 2) := by decide +kernel
theorem dL_flow_17 : decode cL_flow 17 = .ok (.iconst 1, 1) := by decide +kernel
theorem dL_flow_18 : decode cL_flow 18 = .ok (.ireturn, 1) := by decide +kernel
theorem dL_flow_19 : decode cL_flow 19 = .ok (.astore 5, 2) := by decide +kernel
theorem dL_flow_21 : decode cL_flow 21 = .ok (.iconst 2, 1) := by decide +kernel
theorem dL_flow_22 : decode cL_flow 22 = .ok (.ireturn, 1) := by decide +kernel
theorem dL_flow_23 : decode cL_flow 23 = .ok (.astore 5, 2) := by decide +kernel
theorem dL_flow_25 : decode cL_flow 25 = .ok (.iconst 3, 1) := by decide +kernel
theorem dL_flow_26 : decode cL_flow 26 = .ok (.ireturn, 1) := by decide +kernel
theorem dL_flow_27 : decode cL_flow 27 = .ok (.iconst 0, 1) := by decide +kernel
theorem dL_flow_28 : decode cL_flow 28 = .ok (.ireturn, 1) := by decide +kernel
theorem dL_state_0 : decode cL_state 0 = .ok (.aload_n 2, 1) := by decide +kernel
theorem dL_state_1 : decode cL_state 1 = .ok (.iconst 0, 1) := by decide +kernel
theorem dL_state_2 : decode cL_state 2 = .ok (.aload_n 0, 1) := by decide +kernel
theorem dL_state_3 : decode cL_state 3 = .ok (.iload_n 1, 1) := by decide +kernel
theorem dL_state_4 : decode cL_state 4 = .ok (.invokevirtual 60, 3) := by decide +kernel
theorem dL_state_7 : decode cL_state 7 = .ok (.i2l, 1) := by decide +kernel
end
section
theorem dL_state_8 : decode cL_state 8 = .ok (.lastore, 1) := by decide +kernel
theorem dL_state_9 : decode cL_state 9 = .ok (.goto 6, 3) := by decide +kernel
theorem dL_state_12 : decode cL_state 12 = .ok (.astore_n 3, 1) := by decide +kernel
theorem dL_state_13 : decode cL_state 13 = .ok (.iconst 1, 1) := by decide +kernel
theorem dL_state_14 : decode cL_state 14 = .ok (.ireturn, 1) := by decide +kernel
theorem dL_state_15 : decode cL_state 15 = .ok (.iconst 0, 1) := by decide +kernel
theorem dL_state_16 : decode cL_state 16 = .ok (.ireturn, 1) := by decide +kernel
theorem dL_left_0 : decode cL_left 0 = .ok (.aload_n 2, 1) := by decide +kernel
theorem dL_left_1 : decode cL_left 1 = .ok (.iconst 0, 1) := by decide +kernel
theorem dL_left_2 : decode cL_left 2 = .ok (.aload_n 0, 1) := by decide +kernel
theorem dL_left_3 : decode cL_left 3 = .ok (.iload_n 1, 1) := by decide +kernel
theorem dL_left_4 : decode cL_left 4 = .ok (.invokevirtual 63, 3) := by decide +kernel
theorem dL_left_7 : decode cL_left 7 = .ok (.i2l, 1) := by decide +kernel
theorem dL_left_8 : decode cL_left 8 = .ok (.lastore, 1) := by decide +kernel
theorem dL_left_9 : decode cL_left 9 = .ok (.goto 6, 3) := by decide +kernel
theorem dL_left_12 : decode cL_left 12 = .ok (.astore_n 3, 1) := by decide +kernel
theorem dL_left_13 : decode cL_left 13 = .ok (.iconst 1, 1) := by decide +kernel
theorem dL_left_14 : decode cL_left 14 = .ok (.ireturn, 1) := by decide +kernel
theorem dL_left_15 : decode cL_left 15 = .ok (.iconst 0, 1) := by decide +kernel
theorem dL_left_16 : decode cL_left 16 = .ok (.ireturn, 1) := by decide +kernel
end
section
/-! Generic rows: the whole world of a class by one list, numbers as nI of a Nat, one list of words for every method. -/
abbrev gw_G : Type := va_G × ClassId × ClassId × ClassId
abbrev gw_ty (G : gw_G) : List (ClassId × FieldType) := [(G.2.1, .int), (G.2.2.1, .boolean), (G.2.2.2, .long)]
def gw_C (p : Program) (s : State) (m : MethodId) (args : Array Value) (meth : Method) (c : Code) (G : gw_G) (own : String) (cc : ByteArray) (nL : Nat) (ret : Option FieldType) : Prop :=
  p.tables.exec = Jvm.exec ∧ c.code = cc ∧ meth.sig.returnType = ret ∧ c.maxLocals = nL ∧ s.vm.findClass own = some m.cls ∧ (∀ w ∈ pf_tb, w.before args s = true) ∧ meth.locks = false ∧ va_K G.1 vcl (gw_ty G) s ∧ pf_X s
def gw_H (G : gw_G) (A : Nat → Prop) (s : State) (ws : va_W) (H : Heap) (locs : List Loc) : Prop := va_P G.1 vcl ws H ∧ va_D A ws ∧ va_S A s.heap H locs ∧ ∀ q : Nat, s.heap.size ≤ q → A q
def gw_pre (G : gw_G) (ws : va_W) (sz : Nat) : State → Prop := fun U => U.heap.size = sz ∧ va_P G.1 vcl ws U.heap ∧ va_K G.1 vcl (gw_ty G) U ∧ va_D (fun _ => True) ws ∧ pf_X U
def gw_at {S : Type} (G : gw_G) (A : Nat → Prop) (w : S → va_W) (u : S) (t : State) : Prop := va_P G.1 vcl (w u) t.heap ∧ va_K G.1 vcl (gw_ty G) t ∧ va_D A (w u)
abbrev gw_rm (fr lo : Nat) : Room := { frames := fr, cells := 0, slots := 0, locals := lo }
/-- a method that answers an int or a boolean, makes nothing and doesn't throw -/
def gw_MI {S : Type} (l : Launch) (y : MethodName) (cc : ByteArray) (mL : Nat) (ret : Option FieldType) (fr lo : Nat) (argv : List Value) (G : gw_G) (w : S → va_W) (u : S) (post : Int32 → S → Prop) : Prop :=
  ∀ sz : Nat, Met l y (Cond.code y cc mL ret :: pf_tb) (gw_rm fr lo) (va_Pc argv (gw_pre G (w u) sz)) (va_Qi post (gw_at G (va_A (w u) sz) w) (va_A (w u) sz)) 0 0 (va_A (w u) sz)
def gw_MV {S : Type} (l : Launch) (y : MethodName) (cc : ByteArray) (mL : Nat) (ret : Option FieldType) (fr lo : Nat) (argv : List Value) (G : gw_G) (w : S → va_W) (u : S) (post : S → Prop) : Prop :=
  ∀ sz : Nat, Met l y (Cond.code y cc mL ret :: pf_tb) (gw_rm fr lo) (va_Pc argv (gw_pre G (w u) sz)) (va_Qv post (gw_at G (va_A (w u) sz) w) (va_A (w u) sz)) 0 0 (va_A (w u) sz)
def gw_ML {S : Type} (l : Launch) (y : MethodName) (cc : ByteArray) (mL : Nat) (ret : Option FieldType) (fr lo : Nat) (argv : List Value) (G : gw_G) (w : S → va_W) (u : S) (post : Int64 → S → Prop) : Prop :=
  ∀ sz : Nat, Met l y (Cond.code y cc mL ret :: pf_tb) (gw_rm fr lo) (va_Pc argv (gw_pre G (w u) sz)) (va_Ql post (gw_at G (va_A (w u) sz) w) (va_A (w u) sz)) 0 0 (va_A (w u) sz)
section GWA
variable {p : Program} {l : Launch} {e : Env} {R : Room} {s : State} {m : MethodId} {args : Array Value} {below : List Frame} {meth : Method} {c : Code} {H : Heap} {locs : List Loc} {cells slots : Nat} {Q : State → Prop}
variable {cc : ByteArray} {pc : Nat} {ls : Array Slot} {rest : List Value} {G : gw_G} {A : Nat → Prop} {own : String} {nL : Nat} {ret : Option FieldType} {ws ws' : va_W} {a : Nat}
theorem gw_C.ts (C : gw_C p s m args meth c G own cc nL ret) {w : Cond} (h : w ∈ pf_tb) : w.before args s = true := C.2.2.2.2.2.1 w h
theorem gw_C.cl (C : gw_C p s m args meth c G own cc nL ret) : s.vm.findClass own = some m.cls := C.2.2.2.2.1
theorem gw_C.lk (C : gw_C p s m args meth c G own cc nL ret) : meth.locks = false := C.2.2.2.2.2.2.1
theorem gw_C.K (C : gw_C p s m args meth c G own cc nL ret) : va_K G.1 vcl (gw_ty G) s := C.2.2.2.2.2.2.2.1
theorem gw_C.X (C : gw_C p s m args meth c G own cc nL ret) : pf_X s := C.2.2.2.2.2.2.2.2
theorem gw_C.nw (C : gw_C p s m args meth c G own cc nL ret) {w : Cond} (h : w ∈ pf_nest) : va_Nw w s := C.X w h
/-! entries -/
theorem gw_entryI {S : Type} {y : MethodName} {mL fr lo : Nat} {argv : List Value} {w : S → va_W} {u : S} {post : Int32 → S → Prop} (hy : plainName y.cls = true) (hown : y.cls = own) (hlen : (lg_sl argv).length ≤ mL)
    (body : ∀ (p : Program) (e : Env) (s : State) (m : MethodId) (args : Array Value) (below : List Frame) (meth : Method) (c : Code) (A : Nat → Prop) (ls : Array Slot), gw_C p s m args meth c G own cc mL ret → gw_H G A s (w u) s.heap [] → lv_has ls mL (lv_args 0 argv) →
      W p l e (gw_rm fr lo) s m args below meth c s.heap [] 0 0 (MQ below (va_Qi post (gw_at G A w) A) args s 0 0 A) (F0 m 0 ls [])) : gw_MI l y cc mL ret fr lo argv G w u post := by
  intro sz
  refine Met.ofW (cc := cc) (maxL := mL) (ret := ret) hy rfl ?_
  intro p e s m args below meth c s₁ B hml hv
  obtain ⟨rfl, hsz, hP, hK, hD0, hX⟩ := hv
  subst hsz
  have hts := atoms_spec (ws := Cond.code y cc mL ret :: pf_tb) B.pre
  have hown' : s.vm.findClass y.cls = some m.cls := findClass_of_methodNamed B.named
  have hl := lv_entry argv (n := mL) hlen
  rw [lg_entry_eq]
  exact body p e s m _ below meth c _ _ ⟨B.exec, B.bytes, B.returns, hml, by rw [← hown]; exact hown', fun w hw => hts w (List.mem_cons_of_mem _ hw), B.notSynchronized, hK, hX⟩ ⟨hP, hD0.self (sz := s.heap.size), va_S.rf, fun q h => Or.inr h⟩ hl
theorem gw_entryV {S : Type} {y : MethodName} {mL fr lo : Nat} {argv : List Value} {w : S → va_W} {u : S} {post : S → Prop} (hy : plainName y.cls = true) (hown : y.cls = own) (hlen : (lg_sl argv).length ≤ mL)
    (body : ∀ (p : Program) (e : Env) (s : State) (m : MethodId) (args : Array Value) (below : List Frame) (meth : Method) (c : Code) (A : Nat → Prop) (ls : Array Slot), gw_C p s m args meth c G own cc mL ret → gw_H G A s (w u) s.heap [] → lv_has ls mL (lv_args 0 argv) →
      W p l e (gw_rm fr lo) s m args below meth c s.heap [] 0 0 (MQ below (va_Qv post (gw_at G A w) A) args s 0 0 A) (F0 m 0 ls [])) : gw_MV l y cc mL ret fr lo argv G w u post := by
  intro sz
  refine Met.ofW (cc := cc) (maxL := mL) (ret := ret) hy rfl ?_
  intro p e s m args below meth c s₁ B hml hv
  obtain ⟨rfl, hsz, hP, hK, hD0, hX⟩ := hv
  subst hsz
  have hts := atoms_spec (ws := Cond.code y cc mL ret :: pf_tb) B.pre
  have hown' : s.vm.findClass y.cls = some m.cls := findClass_of_methodNamed B.named
  have hl := lv_entry argv (n := mL) hlen
  rw [lg_entry_eq]
  exact body p e s m _ below meth c _ _ ⟨B.exec, B.bytes, B.returns, hml, by rw [← hown]; exact hown', fun w hw => hts w (List.mem_cons_of_mem _ hw), B.notSynchronized, hK, hX⟩ ⟨hP, hD0.self (sz := s.heap.size), va_S.rf, fun q h => Or.inr h⟩ hl
theorem gw_entryL {S : Type} {y : MethodName} {mL fr lo : Nat} {argv : List Value} {w : S → va_W} {u : S} {post : Int64 → S → Prop} (hy : plainName y.cls = true) (hown : y.cls = own) (hlen : (lg_sl argv).length ≤ mL)
    (body : ∀ (p : Program) (e : Env) (s : State) (m : MethodId) (args : Array Value) (below : List Frame) (meth : Method) (c : Code) (A : Nat → Prop) (ls : Array Slot), gw_C p s m args meth c G own cc mL ret → gw_H G A s (w u) s.heap [] → lv_has ls mL (lv_args 0 argv) →
      W p l e (gw_rm fr lo) s m args below meth c s.heap [] 0 0 (MQ below (va_Ql post (gw_at G A w) A) args s 0 0 A) (F0 m 0 ls [])) : gw_ML l y cc mL ret fr lo argv G w u post := by
  intro sz
  refine Met.ofW (cc := cc) (maxL := mL) (ret := ret) hy rfl ?_
  intro p e s m args below meth c s₁ B hml hv
  obtain ⟨rfl, hsz, hP, hK, hD0, hX⟩ := hv
  subst hsz
  have hts := atoms_spec (ws := Cond.code y cc mL ret :: pf_tb) B.pre
  have hown' : s.vm.findClass y.cls = some m.cls := findClass_of_methodNamed B.named
  have hl := lv_entry argv (n := mL) hlen
  rw [lg_entry_eq]
  exact body p e s m _ below meth c _ _ ⟨B.exec, B.bytes, B.returns, hml, by rw [← hown]; exact hown', fun w hw => hts w (List.mem_cons_of_mem _ hw), B.notSynchronized, hK, hX⟩ ⟨hP, hD0.self (sz := s.heap.size), va_S.rf, fun q h => Or.inr h⟩ hl
/-! ends -/
theorem gw_iret {S : Type} {w : S → va_W} {u : S} {post : Int32 → S → Prop} {x : Int32} (C : gw_C p s m args meth c G own cc nL (some .int)) (Hh : gw_H G A s (w u) H locs) (hdg : decode cc pc = .ok (.ireturn, 1)) (hp : post x u) :
    W p l e R s m args below meth c H locs 0 0 (MQ below (va_Qi post (gw_at G A w) A) args s 0 0 A) (F0 m pc ls [.int x]) :=
  W.iret (v := x) C.1 C.2.1 C.2.2.1 (fun t ht hW => ⟨⟨x, u, rfl, hp, by rw [ht]; exact Hh.1, va_K.moved hW.alike C.K, Hh.2.1⟩, Hh.2.2.1.F ht⟩) Hh.2.2.1.2.2 hdg C.lk
theorem gw_nar01 {x : Nat} (h : x ≤ 1) : narrow .boolean (.int (nI x)) = .int (nI x) := by
  have : x = 0 ∨ x = 1 := by omega
  rcases this with rfl | rfl <;> decide +kernel
theorem gw_zret {S : Type} {w : S → va_W} {u : S} {post : Int32 → S → Prop} {x : Nat} (C : gw_C p s m args meth c G own cc nL (some .boolean)) (Hh : gw_H G A s (w u) H locs) (hdg : decode cc pc = .ok (.ireturn, 1)) (hx : x ≤ 1) (hp : post (nI x) u) :
    W p l e R s m args below meth c H locs 0 0 (MQ below (va_Qi post (gw_at G A w) A) args s 0 0 A) (F0 m pc ls [.int (nI x)]) :=
  W.zret (v := nI x) C.1 C.2.1 C.2.2.1 (gw_nar01 hx) (fun t ht hW => ⟨⟨nI x, u, rfl, hp, by rw [ht]; exact Hh.1, va_K.moved hW.alike C.K, Hh.2.1⟩, Hh.2.2.1.F ht⟩) Hh.2.2.1.2.2 hdg C.lk
theorem gw_vret {S : Type} {w : S → va_W} {u : S} {post : S → Prop} (C : gw_C p s m args meth c G own cc nL none) (Hh : gw_H G A s (w u) H locs) (hdg : decode cc pc = .ok (.return_, 1)) (hp : post u) :
    W p l e R s m args below meth c H locs 0 0 (MQ below (va_Qv post (gw_at G A w) A) args s 0 0 A) (F0 m pc ls []) :=
  W.vret C.1 C.2.1 C.2.2.1 (fun t ht hW => ⟨⟨u, rfl, hp, by rw [ht]; exact Hh.1, va_K.moved hW.alike C.K, Hh.2.1⟩, Hh.2.2.1.F ht⟩) Hh.2.2.1.2.2 hdg C.lk
theorem gw_lret {S : Type} {w : S → va_W} {u : S} {post : Int64 → S → Prop} {x : Int64} (C : gw_C p s m args meth c G own cc nL (some .long)) (Hh : gw_H G A s (w u) H locs) (hdg : decode cc pc = .ok (.lreturn, 1)) (hp : post x u) :
    W p l e R s m args below meth c H locs 0 0 (MQ below (va_Ql post (gw_at G A w) A) args s 0 0 A) (F0 m pc ls [.long x]) :=
  W.lret (v := x) C.1 C.2.1 C.2.2.1 (fun t ht hW => ⟨⟨x, u, rfl, hp, by rw [ht]; exact Hh.1, va_K.moved hW.alike C.K, Hh.2.1⟩, Hh.2.2.1.F ht⟩) Hh.2.2.1.2.2 hdg C.lk
/-! arrays -/
theorem gw_ld {len x : Nat} {F : Nat → Nat} (C : gw_C p s m args meth c G own cc nL ret) (Hh : gw_H G A s ws H locs) (k : Nat) (hk : ws[k]? = some (a, .inl (G.2.1, len, .inl (fun j => nI (F j))))) (hl : len < 2 ^ 31) (hdg : decode cc pc = .ok (.iaload, 1)) (hx : x < len)
    (kk : W p l e R s m args below meth c H locs cells slots Q (F0 m (pc + 1) ls (.int (nI (F x)) :: rest))) : W p l e R s m args below meth c H locs cells slots Q (F0 m pc ls (.int (nI x) :: .ref a :: rest)) := by
  refine va_iald C.1 C.2.1 C.K Hh.1 k 0 hk rfl (vp_in_nI hx hl) hdg ?_
  rw [nI_clamp (Nat.lt_trans hx hl)]
  exact kk
theorem gw_zld {len x : Nat} {F : Nat → Nat} (C : gw_C p s m args meth c G own cc nL ret) (Hh : gw_H G A s ws H locs) (k : Nat) (hk : ws[k]? = some (a, .inl (G.2.2.1, len, .inl (fun j => nI (F j))))) (hl : len < 2 ^ 31) (hdg : decode cc pc = .ok (.baload, 1)) (hx : x < len)
    (kk : W p l e R s m args below meth c H locs cells slots Q (F0 m (pc + 1) ls (.int (nI (F x)) :: rest))) : W p l e R s m args below meth c H locs cells slots Q (F0 m pc ls (.int (nI x) :: .ref a :: rest)) := by
  refine va_zald C.1 C.2.1 C.K Hh.1 k 1 hk rfl (vp_in_nI hx hl) hdg ?_
  rw [nI_clamp (Nat.lt_trans hx hl)]
  exact kk
theorem gw_lld {len x : Nat} {F : Nat → Int} (C : gw_C p s m args meth c G own cc nL ret) (Hh : gw_H G A s ws H locs) (k : Nat) (hk : ws[k]? = some (a, .inl (G.2.2.2, len, .inr (.inl (fun j => Int64.ofInt (F j)))))) (hl : len < 2 ^ 31) (hdg : decode cc pc = .ok (.laload, 1)) (hx : x < len)
    (kk : W p l e R s m args below meth c H locs cells slots Q (F0 m (pc + 1) ls (.long (Int64.ofInt (F x)) :: rest))) : W p l e R s m args below meth c H locs cells slots Q (F0 m pc ls (.int (nI x) :: .ref a :: rest)) := by
  refine va_lald C.1 C.2.1 C.K Hh.1 k 2 hk rfl (vp_in_nI hx hl) hdg ?_
  rw [nI_clamp (Nat.lt_trans hx hl)]
  exact kk
theorem gw_upd {F : Nat → Nat} {x v : Nat} : upd (fun j => nI (F j)) x (nI v) = fun j => nI (if j = x then v else F j) := by
  funext j
  by_cases h : j = x <;> simp [upd, h]
theorem gw_updL {F : Nat → Int} {x : Nat} {v : Int} : vp_updL (fun j => Int64.ofInt (F j)) x (Int64.ofInt v) = fun j => Int64.ofInt (if j = x then v else F j) := by
  funext j
  by_cases h : j = x <;> simp [vp_updL, h]
theorem gw_st {len x v : Nat} {F : Nat → Nat} (C : gw_C p s m args meth c G own cc nL ret) (Hh : gw_H G A s ws H locs) (k : Nat) (hk : ws[k]? = some (a, .inl (G.2.1, len, .inl (fun j => nI (F j))))) (hl : len < 2 ^ 31) (hs : ws.set k (a, .inl (G.2.1, len, .inl (fun j => nI (if j = x then v else F j)))) = ws') (hdg : decode cc pc = .ok (.iastore, 1)) (hx : x < len)
    (kk : ∀ (H1 : Heap) (locs1 : List Loc), gw_H G A s ws' H1 locs1 → W p l e R s m args below meth c H1 locs1 cells slots Q (F0 m (pc + 1) ls rest)) : W p l e R s m args below meth c H locs cells slots Q (F0 m pc ls (.int (nI v) :: .int (nI x) :: .ref a :: rest)) := by
  refine va_iast C.1 C.2.1 C.K Hh.1 Hh.2.1 Hh.2.2.1 k 0 hk rfl (vp_in_nI hx hl) hdg (fun H1 locs1 hP hD hS => ?_)
  rw [nI_clamp (Nat.lt_trans hx hl), gw_upd, hs] at hP hD
  exact kk H1 locs1 ⟨hP, hD, hS, Hh.2.2.2⟩
theorem gw_zst {len x v : Nat} {F : Nat → Nat} (C : gw_C p s m args meth c G own cc nL ret) (Hh : gw_H G A s ws H locs) (k : Nat) (hk : ws[k]? = some (a, .inl (G.2.2.1, len, .inl (fun j => nI (F j))))) (hl : len < 2 ^ 31) (hs : ws.set k (a, .inl (G.2.2.1, len, .inl (fun j => nI (if j = x then v else F j)))) = ws') (hdg : decode cc pc = .ok (.bastore, 1)) (hx : x < len) (hv : v ≤ 1)
    (kk : ∀ (H1 : Heap) (locs1 : List Loc), gw_H G A s ws' H1 locs1 → W p l e R s m args below meth c H1 locs1 cells slots Q (F0 m (pc + 1) ls rest)) : W p l e R s m args below meth c H locs cells slots Q (F0 m pc ls (.int (nI v) :: .int (nI x) :: .ref a :: rest)) := by
  refine va_zast C.1 C.2.1 C.K Hh.1 Hh.2.1 Hh.2.2.1 k 1 hk rfl (vp_in_nI hx hl) hdg (fun H1 locs1 hP hD hS => ?_)
  have hn : vp_nar .boolean (nI v) = nI v := by
    unfold vp_nar
    rw [gw_nar01 hv]
  rw [hn, nI_clamp (Nat.lt_trans hx hl), gw_upd, hs] at hP hD
  exact kk H1 locs1 ⟨hP, hD, hS, Hh.2.2.2⟩
theorem gw_lst {len x : Nat} {v : Int} {F : Nat → Int} (C : gw_C p s m args meth c G own cc nL ret) (Hh : gw_H G A s ws H locs) (k : Nat) (hk : ws[k]? = some (a, .inl (G.2.2.2, len, .inr (.inl (fun j => Int64.ofInt (F j)))))) (hl : len < 2 ^ 31) (hs : ws.set k (a, .inl (G.2.2.2, len, .inr (.inl (fun j => Int64.ofInt (if j = x then v else F j))))) = ws') (hdg : decode cc pc = .ok (.lastore, 1)) (hx : x < len)
    (kk : ∀ (H1 : Heap) (locs1 : List Loc), gw_H G A s ws' H1 locs1 → W p l e R s m args below meth c H1 locs1 cells slots Q (F0 m (pc + 1) ls rest)) : W p l e R s m args below meth c H locs cells slots Q (F0 m pc ls (.long (Int64.ofInt v) :: .int (nI x) :: .ref a :: rest)) := by
  refine va_last C.1 C.2.1 C.K Hh.1 Hh.2.1 Hh.2.2.1 k 2 hk rfl (vp_in_nI hx hl) hdg (fun H1 locs1 hP hD hS => ?_)
  rw [nI_clamp (Nat.lt_trans hx hl), gw_updL, hs] at hP hD
  exact kk H1 locs1 ⟨hP, hD, hS, Hh.2.2.2⟩
theorem gw_len {len : Nat} {x : vp_A} {t0 : Nat} {cA : ClassId} {ty : FieldType} (C : gw_C p s m args meth c G own cc nL ret) (Hh : gw_H G A s ws H locs) (k : Nat) (hk : ws[k]? = some (a, .inl (cA, x))) (ht : (gw_ty G)[t0]? = some (cA, ty)) (hn : x.1 = len) (hdg : decode cc pc = .ok (.arraylength, 1))
    (kk : W p l e R s m args below meth c H locs cells slots Q (F0 m (pc + 1) ls (.int (nI len) :: rest))) : W p l e R s m args below meth c H locs cells slots Q (F0 m pc ls (.ref a :: rest)) :=
  va_alen C.1 C.2.1 C.K Hh.1 k t0 hk ht (by rw [hn]; rfl) hdg kk
/-! fields -/
theorem gw_get {ci N idx : Nat} {Cn : String} {T : u_T} {fs : List Value} {v : Value} (C : gw_C p s m args meth c G own cc nL ret) (Hh : gw_H G A s ws H locs) (i : Nat) (he : ws[i]? = some (a, .inr (ci, fs))) (hc : vcl[ci]? = some (Cn, T, N)) (hin : ∀ w ∈ u_ws Cn T N, w ∈ pf_tb) (k : Nat) (hk : k < N) (hT : (T k).1 = Cn) (hw : Cond.fieldLink own idx Cn (T k).2.1 (T k).2.2.1 ∈ pf_tb) (hv : fs[k]? = some v) (hdg : decode cc pc = .ok (.getfield idx, 3))
    (kk : W p l e R s m args below meth c H locs cells slots Q (F0 m (pc + 3) ls (v :: rest))) : W p l e R s m args below meth c H locs cells slots Q (F0 m pc ls (.ref a :: rest)) :=
  va_get C.1 C.2.1 C.2.2.2.2.2.1 hin C.cl C.K Hh.1 i he hc k hk (C.ts hw) (fun x h => by rw [hT] at h; exact h) hv hdg kk
theorem gw_getN {ci N idx : Nat} {Cn host : String} {T : u_T} {fs : List Value} {v : Value} (C : gw_C p s m args meth c G own cc nL ret) (Hh : gw_H G A s ws H locs) (i : Nat) (he : ws[i]? = some (a, .inr (ci, fs))) (hc : vcl[ci]? = some (Cn, T, N)) (hin : ∀ w ∈ u_ws Cn T N, w ∈ pf_tb) (k : Nat) (hk : k < N) (hT : (T k).1 = Cn) (hw : Cond.fieldLinkNest own idx Cn (T k).2.1 (T k).2.2.1 host ∈ pf_nest) (hv : fs[k]? = some v) (hdg : decode cc pc = .ok (.getfield idx, 3))
    (kk : W p l e R s m args below meth c H locs cells slots Q (F0 m (pc + 3) ls (v :: rest))) : W p l e R s m args below meth c H locs cells slots Q (F0 m pc ls (.ref a :: rest)) :=
  va_getN C.1 C.2.1 C.2.2.2.2.2.1 hin C.cl C.K Hh.1 i he hc k hk (va_Nw.use rfl (C.nw hw)) (fun x h => by rw [hT] at h; exact h) hv hdg kk
theorem gw_put {ci N idx : Nat} {Cn : String} {T : u_T} {ty0 : Nat → FieldType} {fs : List Value} {v : Int32} (C : gw_C p s m args meth c G own cc nL ret) (Hh : gw_H G A s ws H locs) (i : Nat) (he : ws[i]? = some (a, .inr (ci, fs))) (hc : vcl[ci]? = some (Cn, T, N)) (hin : ∀ w ∈ u_ws Cn T N, w ∈ pf_tb) (hty : ∀ k, k < N → parseFieldDescriptor (T k).2.2.1 = some (ty0 k)) (hnm : ∀ a, a < N → ∀ b, b < N → a ≠ b → (T a).2.1 ≠ (T b).2.1) (k : Nat) (hk : k < N) (hT : (T k).1 = Cn) (hw : Cond.fieldLink own idx Cn (T k).2.1 (T k).2.2.1 ∈ pf_tb) (hfin : (T k).2.2.2 = false) (hd : parseFieldDescriptor (T k).2.2.1 = some .int) (hl : k < fs.length) (hs : ws.set i (a, .inr (ci, fs.set k (.int v))) = ws') (hdg : decode cc pc = .ok (.putfield idx, 3))
    (kk : ∀ (H1 : Heap) (locs1 : List Loc), gw_H G A s ws' H1 locs1 → W p l e R s m args below meth c H1 locs1 cells slots Q (F0 m (pc + 3) ls rest)) : W p l e R s m args below meth c H locs cells slots Q (F0 m pc ls (.int v :: .ref a :: rest)) := by
  refine va_put (ty := .int) C.1 C.2.1 C.2.2.2.2.2.1 hin ty0 hty hnm C.cl C.K Hh.1 Hh.2.1 Hh.2.2.1 i he hc k hk (C.ts hw) (fun x h => by rw [hT] at h; exact h) hfin hd rfl rfl hl hdg (fun H1 locs1 hP hD hS => ?_)
  rw [hs] at hP hD
  exact kk H1 locs1 ⟨hP, hD, hS, Hh.2.2.2⟩
/-! numbers -/
theorem gw_iadd {x y : Nat} (C : gw_C p s m args meth c G own cc nL ret) (hdg : decode cc pc = .ok (.iadd, 1)) (kk : W p l e R s m args below meth c H locs cells slots Q (F0 m (pc + 1) ls (.int (nI (x + y)) :: rest))) : W p l e R s m args below meth c H locs cells slots Q (F0 m pc ls (.int (nI y) :: .int (nI x) :: rest)) :=
  lv_iadd C.1 C.2.1 hdg (by rw [nI_add]; exact kk)
theorem gw_imul {x y : Nat} (C : gw_C p s m args meth c G own cc nL ret) (hdg : decode cc pc = .ok (.imul, 1)) (kk : W p l e R s m args below meth c H locs cells slots Q (F0 m (pc + 1) ls (.int (nI (x * y)) :: rest))) : W p l e R s m args below meth c H locs cells slots Q (F0 m pc ls (.int (nI y) :: .int (nI x) :: rest)) :=
  lv_imul C.1 C.2.1 hdg (by rw [pk_mul]; exact kk)
theorem gw_isub {x y : Nat} (C : gw_C p s m args meth c G own cc nL ret) (hdg : decode cc pc = .ok (.isub, 1)) (h : y ≤ x) (kk : W p l e R s m args below meth c H locs cells slots Q (F0 m (pc + 1) ls (.int (nI (x - y)) :: rest))) : W p l e R s m args below meth c H locs cells slots Q (F0 m pc ls (.int (nI y) :: .int (nI x) :: rest)) :=
  lv_isub C.1 C.2.1 hdg (by rw [pk_sub h]; exact kk)
theorem gw_icmp_eq {x y tgt : Nat} {off : Int} (C : gw_C p s m args meth c G own cc nL ret) (hdg : decode cc pc = .ok (.if_icmp .eq off, 3)) (ht : (pc : Int) + off = (tgt : Int)) (hx : x < 2 ^ 31) (hy : y < 2 ^ 31) (kt : x = y → W p l e R s m args below meth c H locs cells slots Q (F0 m tgt ls rest)) (kf : x ≠ y → W p l e R s m args below meth c H locs cells slots Q (F0 m (pc + 3) ls rest)) : W p l e R s m args below meth c H locs cells slots Q (F0 m pc ls (.int (nI y) :: .int (nI x) :: rest)) :=
  lv_icmp_eq C.1 C.2.1 hdg ht (fun h => kt ((nI_eq hx hy).mp h)) (fun h => kf (fun q => h ((nI_eq hx hy).mpr q)))
theorem gw_icmp_ne {x y tgt : Nat} {off : Int} (C : gw_C p s m args meth c G own cc nL ret) (hdg : decode cc pc = .ok (.if_icmp .ne off, 3)) (ht : (pc : Int) + off = (tgt : Int)) (hx : x < 2 ^ 31) (hy : y < 2 ^ 31) (kt : x ≠ y → W p l e R s m args below meth c H locs cells slots Q (F0 m tgt ls rest)) (kf : x = y → W p l e R s m args below meth c H locs cells slots Q (F0 m (pc + 3) ls rest)) : W p l e R s m args below meth c H locs cells slots Q (F0 m pc ls (.int (nI y) :: .int (nI x) :: rest)) :=
  lv_icmp_ne C.1 C.2.1 hdg ht (fun h => kt (fun q => h ((nI_eq hx hy).mpr q))) (fun h => kf ((nI_eq hx hy).mp h))
theorem gw_icmp_lt {x y tgt : Nat} {off : Int} (C : gw_C p s m args meth c G own cc nL ret) (hdg : decode cc pc = .ok (.if_icmp .lt off, 3)) (ht : (pc : Int) + off = (tgt : Int)) (hx : x < 2 ^ 31) (hy : y < 2 ^ 31) (kt : x < y → W p l e R s m args below meth c H locs cells slots Q (F0 m tgt ls rest)) (kf : y ≤ x → W p l e R s m args below meth c H locs cells slots Q (F0 m (pc + 3) ls rest)) : W p l e R s m args below meth c H locs cells slots Q (F0 m pc ls (.int (nI y) :: .int (nI x) :: rest)) :=
  lv_icmp_lt C.1 C.2.1 hdg ht (fun h => kt ((nI_ltI hx hy).mp h)) (fun h => kf (Nat.le_of_not_lt (fun q => h ((nI_ltI hx hy).mpr q))))
theorem gw_icmp_ge {x y tgt : Nat} {off : Int} (C : gw_C p s m args meth c G own cc nL ret) (hdg : decode cc pc = .ok (.if_icmp .ge off, 3)) (ht : (pc : Int) + off = (tgt : Int)) (hx : x < 2 ^ 31) (hy : y < 2 ^ 31) (kt : y ≤ x → W p l e R s m args below meth c H locs cells slots Q (F0 m tgt ls rest)) (kf : x < y → W p l e R s m args below meth c H locs cells slots Q (F0 m (pc + 3) ls rest)) : W p l e R s m args below meth c H locs cells slots Q (F0 m pc ls (.int (nI y) :: .int (nI x) :: rest)) :=
  lv_icmp_ge C.1 C.2.1 hdg ht (fun h => kt ((nI_leI hy hx).mp h)) (fun h => kf (Nat.lt_of_not_le (fun q => h ((nI_leI hy hx).mpr q))))
theorem gw_icmp_gt {x y tgt : Nat} {off : Int} (C : gw_C p s m args meth c G own cc nL ret) (hdg : decode cc pc = .ok (.if_icmp .gt off, 3)) (ht : (pc : Int) + off = (tgt : Int)) (hx : x < 2 ^ 31) (hy : y < 2 ^ 31) (kt : y < x → W p l e R s m args below meth c H locs cells slots Q (F0 m tgt ls rest)) (kf : x ≤ y → W p l e R s m args below meth c H locs cells slots Q (F0 m (pc + 3) ls rest)) : W p l e R s m args below meth c H locs cells slots Q (F0 m pc ls (.int (nI y) :: .int (nI x) :: rest)) :=
  lv_icmp_gt C.1 C.2.1 hdg ht (fun h => kt ((nI_ltI hy hx).mp h)) (fun h => kf (Nat.le_of_not_lt (fun q => h ((nI_ltI hy hx).mpr q))))
theorem gw_icmp_le {x y tgt : Nat} {off : Int} (C : gw_C p s m args meth c G own cc nL ret) (hdg : decode cc pc = .ok (.if_icmp .le off, 3)) (ht : (pc : Int) + off = (tgt : Int)) (hx : x < 2 ^ 31) (hy : y < 2 ^ 31) (kt : x ≤ y → W p l e R s m args below meth c H locs cells slots Q (F0 m tgt ls rest)) (kf : y < x → W p l e R s m args below meth c H locs cells slots Q (F0 m (pc + 3) ls rest)) : W p l e R s m args below meth c H locs cells slots Q (F0 m pc ls (.int (nI y) :: .int (nI x) :: rest)) :=
  lv_icmp_le C.1 C.2.1 hdg ht (fun h => kt ((nI_leI hx hy).mp h)) (fun h => kf (Nat.lt_of_not_le (fun q => h ((nI_leI hx hy).mpr q))))
theorem gw_if_eq {x tgt : Nat} {off : Int} (C : gw_C p s m args meth c G own cc nL ret) (hdg : decode cc pc = .ok (.ifCond .eq off, 3)) (ht : (pc : Int) + off = (tgt : Int)) (hx : x < 2 ^ 31) (kt : x = 0 → W p l e R s m args below meth c H locs cells slots Q (F0 m tgt ls rest)) (kf : 0 < x → W p l e R s m args below meth c H locs cells slots Q (F0 m (pc + 3) ls rest)) : W p l e R s m args below meth c H locs cells slots Q (F0 m pc ls (.int (nI x) :: rest)) :=
  lv_if_eq C.1 C.2.1 hdg ht (fun h => kt ((nI_eq hx (by decide)).mp (h.trans nI_0.symm))) (fun h => kf (Nat.pos_of_ne_zero fun q => h (by rw [q, nI_0])))
theorem gw_if_ne {x tgt : Nat} {off : Int} (C : gw_C p s m args meth c G own cc nL ret) (hdg : decode cc pc = .ok (.ifCond .ne off, 3)) (ht : (pc : Int) + off = (tgt : Int)) (hx : x < 2 ^ 31) (kt : 0 < x → W p l e R s m args below meth c H locs cells slots Q (F0 m tgt ls rest)) (kf : x = 0 → W p l e R s m args below meth c H locs cells slots Q (F0 m (pc + 3) ls rest)) : W p l e R s m args below meth c H locs cells slots Q (F0 m pc ls (.int (nI x) :: rest)) :=
  lv_if_ne C.1 C.2.1 hdg ht (fun h => kt (Nat.pos_of_ne_zero fun q => h (by rw [q, nI_0]))) (fun h => kf ((nI_eq hx (by decide)).mp (h.trans nI_0.symm)))
theorem gw_if_le {x tgt : Nat} {off : Int} (C : gw_C p s m args meth c G own cc nL ret) (hdg : decode cc pc = .ok (.ifCond .le off, 3)) (ht : (pc : Int) + off = (tgt : Int)) (hx : x < 2 ^ 31) (kt : x = 0 → W p l e R s m args below meth c H locs cells slots Q (F0 m tgt ls rest)) (kf : 0 < x → W p l e R s m args below meth c H locs cells slots Q (F0 m (pc + 3) ls rest)) : W p l e R s m args below meth c H locs cells slots Q (F0 m pc ls (.int (nI x) :: rest)) :=
  lv_if_le C.1 C.2.1 hdg ht (fun h => kt (Nat.le_zero.mp ((nI_leI hx (by decide : 0 < 2 ^ 31)).mp (by rw [nI_0]; exact h)))) (fun h => kf (Nat.pos_of_ne_zero fun q => h (by rw [q, nI_0]; decide)))
theorem gw_if_gt {x tgt : Nat} {off : Int} (C : gw_C p s m args meth c G own cc nL ret) (hdg : decode cc pc = .ok (.ifCond .gt off, 3)) (ht : (pc : Int) + off = (tgt : Int)) (hx : x < 2 ^ 31) (kt : 0 < x → W p l e R s m args below meth c H locs cells slots Q (F0 m tgt ls rest)) (kf : x = 0 → W p l e R s m args below meth c H locs cells slots Q (F0 m (pc + 3) ls rest)) : W p l e R s m args below meth c H locs cells slots Q (F0 m pc ls (.int (nI x) :: rest)) :=
  lv_if_gt C.1 C.2.1 hdg ht (fun h => kt ((nI_ltI (by decide : 0 < 2 ^ 31) hx).mp (by rw [nI_0]; exact h))) (fun h => kf (Nat.le_zero.mp (Nat.le_of_not_lt fun q => h (by rw [← nI_0]; exact nI_lt q hx))))
theorem gw_if_lt {x tgt : Nat} {off : Int} (C : gw_C p s m args meth c G own cc nL ret) (hdg : decode cc pc = .ok (.ifCond .lt off, 3)) (ht : (pc : Int) + off = (tgt : Int)) (hx : x < 2 ^ 31) (kf : W p l e R s m args below meth c H locs cells slots Q (F0 m (pc + 3) ls rest)) : W p l e R s m args below meth c H locs cells slots Q (F0 m pc ls (.int (nI x) :: rest)) :=
  lv_if_lt C.1 C.2.1 hdg ht (fun h => absurd h (nI_pos hx)) (fun _ => kf)
theorem gw_if_ge {x tgt : Nat} {off : Int} (C : gw_C p s m args meth c G own cc nL ret) (hdg : decode cc pc = .ok (.ifCond .ge off, 3)) (ht : (pc : Int) + off = (tgt : Int)) (hx : x < 2 ^ 31) (kt : W p l e R s m args below meth c H locs cells slots Q (F0 m tgt ls rest)) : W p l e R s m args below meth c H locs cells slots Q (F0 m pc ls (.int (nI x) :: rest)) :=
  lv_if_ge C.1 C.2.1 hdg ht (fun _ => kt) (fun h => absurd (nI_pos' hx) h)
/-! calls over the whole world -/
theorem gw_free (Hh : gw_H G A s ws H locs) : ∀ q, va_A ws H.size q → A q := by
  intro q h
  rcases h with ⟨k, e, h⟩ | h
  · exact Hh.2.1.2 k (q, e) h
  · exact Hh.2.2.2 q (Nat.le_trans Hh.2.2.1.1 h)
theorem gw_blind {argv : List Value} {sz : Nat} : FrameBlind (va_Pc argv (gw_pre G ws sz)) := fun a U g mk q => by
  obtain ⟨q0, q1, qP, qK, qD, qX⟩ := q
  exact ⟨q0, q1, qP, va_K.moved (u := U) (U := U.calling g mk a) (Vm.Alike.refl U.vm) qK, qD, pf_X_same (u := U) (U := U.calling g mk a) rfl qX⟩
theorem gw_give (C : gw_C p s m args meth c G own cc nL ret) (Hh : gw_H G A s ws H locs) {argv : List Value} : ∀ U : State, U.heap = H → s.WarmedH U.vm → va_Pc argv (gw_pre G ws H.size) argv.toArray U := fun U hU hW =>
  ⟨rfl, by rw [hU], by rw [hU]; exact Hh.1, va_K.moved hW.alike C.K, Hh.2.1.weaken (fun _ _ _ _ => trivial), pf_X_warm hW C.X⟩
theorem gw_good {y : MethodName} {c1 : ByteArray} {mL : Nat} {r1 : Option FieldType} (h : Cond.code y c1 mL r1 ∈ pf_tb) : GoodIn pf_tb (Cond.code y c1 mL r1 :: pf_tb) := by
  intro w hw
  rcases List.mem_cons.mp hw with rfl | hw
  · exact ⟨h, good_of_word (List.mem_filter.mp h).2⟩
  · exact ⟨hw, good_of_word (List.mem_filter.mp hw).2⟩
theorem gw_goodV {y : MethodName} {C1 : String} {idx : Nat} {ws : List Cond} (h1 : Cond.methodLink own idx y ∈ pf_tb) (h2 : Cond.instanceMethod y ∈ pf_tb) (h3 : Cond.selects C1 y y ∈ pf_tb) (h4 : Cond.initialized C1 ∈ pf_tb) (hg : GoodIn pf_tb ws) : GoodIn pf_tb (wsV own idx C1 y ws) := by
  intro w hw
  unfold wsV at hw
  have g : ∀ w, w ∈ pf_tb → w ∈ pf_tb ∧ ((w.onTables && w.keeps) = true ∨ ∃ ty, w = .arrayClass ty) := fun w h => ⟨h, good_of_word (List.mem_filter.mp h).2⟩
  simp only [List.cons_append, List.nil_append, List.mem_cons] at hw
  rcases hw with rfl | rfl | rfl | rfl | hw
  · exact g _ h1
  · exact g _ h2
  · exact g _ h3
  · exact g _ h4
  · exact hg w hw
theorem gw_goodS {y : MethodName} {idx : Nat} {ws : List Cond} (h1 : Cond.methodLink own idx y ∈ pf_tb) (h2 : Cond.static y ∈ pf_tb) (h4 : Cond.initialized own ∈ pf_tb) (hg : GoodIn pf_tb ws) : GoodIn pf_tb (wsS own idx y ws) := by
  intro w hw
  unfold wsS at hw
  have g : ∀ w, w ∈ pf_tb → w ∈ pf_tb ∧ ((w.onTables && w.keeps) = true ∨ ∃ ty, w = .arrayClass ty) := fun w h => ⟨h, good_of_word (List.mem_filter.mp h).2⟩
  simp only [List.cons_append, List.nil_append, List.mem_cons] at hw
  rcases hw with rfl | rfl | rfl | hw
  · exact g _ h1
  · exact g _ h2
  · exact g _ h4
  · exact hg w hw
end GWA
end
section
/-! Calls over the whole world: the callee's world is the caller's. -/
section GWB
variable {p : Program} {l : Launch} {e : Env} {R : Room} {s : State} {m : MethodId} {args : Array Value} {below : List Frame} {meth : Method} {c : Code} {H : Heap} {locs : List Loc} {cells slots : Nat} {Q : State → Prop}
variable {cc : ByteArray} {pc : Nat} {ls : Array Slot} {rest st0 : List Value} {G : gw_G} {A : Nat → Prop} {own : String} {nL : Nat} {ret : Option FieldType} {ws : va_W} {b : Nat}
theorem gw_fromI {S : Type} {w : S → va_W} {u : S} {post : Int32 → S → Prop} {a' : Array Value} (C : gw_C p s m args meth c G own cc nL ret) (Hh : gw_H G A s (w u) H locs)
    (hr : va_Run p l e R s m args below meth c H locs cells slots 0 0 (F0 m pc ls st0) rest (va_Qi post (gw_at G (va_A (w u) H.size) w) (va_A (w u) H.size) a') (va_A (w u) H.size))
    (kk : ∀ (r : Int32) (u1 : S) (H1 : Heap) (locs1 : List Loc), post r u1 → gw_H G A s (w u1) H1 locs1 → W p l e R s m args below meth c H1 locs1 cells slots Q (F0 m (pc + 3) ls (.int r :: rest))) : W p l e R s m args below meth c H locs cells slots Q (F0 m pc ls st0) :=
  va_calli hr Hh.2.2.1 (fun q _ h => gw_free Hh q h) (gw_free Hh) (fun r u1 t H1 locs1 ht hvm hw hB hz hk hS => kk r u1 H1 locs1 hw ⟨by rw [← ht]; exact hB.1, hB.2.2.weaken (fun _ q _ h => gw_free Hh q.1 h), hS, Hh.2.2.2⟩)
theorem gw_fromV {S : Type} {w : S → va_W} {u : S} {post : S → Prop} {a' : Array Value} (C : gw_C p s m args meth c G own cc nL ret) (Hh : gw_H G A s (w u) H locs)
    (hr : va_Run p l e R s m args below meth c H locs cells slots 0 0 (F0 m pc ls st0) rest (va_Qv post (gw_at G (va_A (w u) H.size) w) (va_A (w u) H.size) a') (va_A (w u) H.size))
    (kk : ∀ (u1 : S) (H1 : Heap) (locs1 : List Loc), post u1 → gw_H G A s (w u1) H1 locs1 → W p l e R s m args below meth c H1 locs1 cells slots Q (F0 m (pc + 3) ls rest)) : W p l e R s m args below meth c H locs cells slots Q (F0 m pc ls st0) :=
  va_callv hr Hh.2.2.1 (fun q _ h => gw_free Hh q h) (gw_free Hh) (fun u1 t H1 locs1 ht hvm hw hB hz hk hS => kk u1 H1 locs1 hw ⟨by rw [← ht]; exact hB.1, hB.2.2.weaken (fun _ q _ h => gw_free Hh q.1 h), hS, Hh.2.2.2⟩)
theorem gw_fromL {S : Type} {w : S → va_W} {u : S} {post : Int64 → S → Prop} {a' : Array Value} (C : gw_C p s m args meth c G own cc nL ret) (Hh : gw_H G A s (w u) H locs)
    (hr : va_Run p l e R s m args below meth c H locs cells slots 0 0 (F0 m pc ls st0) rest (va_Ql post (gw_at G (va_A (w u) H.size) w) (va_A (w u) H.size) a') (va_A (w u) H.size))
    (kk : ∀ (r : Int64) (u1 : S) (H1 : Heap) (locs1 : List Loc), post r u1 → gw_H G A s (w u1) H1 locs1 → W p l e R s m args below meth c H1 locs1 cells slots Q (F0 m (pc + 3) ls (.long r :: rest))) : W p l e R s m args below meth c H locs cells slots Q (F0 m pc ls st0) :=
  va_calll hr Hh.2.2.1 (fun q _ h => gw_free Hh q h) (gw_free Hh) (fun r u1 t H1 locs1 ht hvm hw hB hz hk hS => kk r u1 H1 locs1 hw ⟨by rw [← ht]; exact hB.1, hB.2.2.weaken (fun _ q _ h => gw_free Hh q.1 h), hS, Hh.2.2.2⟩)
variable {y : MethodName} {c1 : ByteArray} {mL fr lo idx n ci N : Nat} {r1 : Option FieldType} {C1 : String} {T : u_T} {fs : List Value} {Qc : Array Value → State → Outcome → State → Prop}
theorem gw_runV (As : List Value) (C : gw_C p s m args meth c G own cc nL ret) (Hh : gw_H G A s ws H locs) (hM : Met l y (Cond.code y c1 mL r1 :: pf_tb) (gw_rm fr lo) (va_Pc (.ref b :: As) (gw_pre G ws H.size)) Qc 0 0 (va_A ws H.size))
    (t1 : Cond.methodLink own idx y ∈ pf_tb) (t2 : Cond.instanceMethod y ∈ pf_tb) (t3 : Cond.selects C1 y y ∈ pf_tb) (t4 : Cond.initialized C1 ∈ pf_tb) (t5 : Cond.code y c1 mL r1 ∈ pf_tb)
    (hd : y.cls = C1 ∧ y.cls ≠ "java/lang/invoke/MethodHandle" ∧ y.cls ≠ "java/lang/invoke/VarHandle" ∧ (parseMethodDescriptor y.desc).map (fun d => d.parameters.length) = some n) (hR : fr + 1 ≤ R.frames ∧ 8 + (mL + 11) + lo ≤ R.locals)
    (k : Nat) (he : ws[k]? = some (b, .inr (ci, fs))) (hc : vcl[ci]? = some (C1, T, N)) (hn : As.length = n) (hls : ls.size = nL) (hst : (rest.map fun v => v.category).sum ≤ 8) (hdg : decode cc pc = .ok (.invokevirtual idx, 3)) (h0 : cells ≤ R.cells ∧ slots ≤ R.slots) :
    va_Run p l e R s m args below meth c H locs cells slots 0 0 (F0 m pc ls (As.reverse ++ .ref b :: rest)) rest (Qc (Value.ref b :: As).toArray) (va_A ws H.size) :=
  va_runV (As := As) (rest := rest) ⟨C.1, C.2.1, C.2.2.2.1, C.cl, C.2.2.2.2.2.1⟩ hM (cwV n C.2.2.2.2.2.1 (gw_goodV t1 t2 t3 t4 (gw_good t5)) rfl rfl rfl hd hR) ⟨gw_blind, va_recv C.K Hh.1 hc he, gw_give C Hh⟩ rfl hn hls rfl (lv_room hst) hdg h0
theorem gw_runVN {host : String} (As : List Value) (C : gw_C p s m args meth c G own cc nL ret) (Hh : gw_H G A s ws H locs) (hM : Met l y (Cond.code y c1 mL r1 :: pf_tb) (gw_rm fr lo) (va_Pc (.ref b :: As) (gw_pre G ws H.size)) Qc 0 0 (va_A ws H.size))
    (t1 : Cond.methodLinkNest own idx y host ∈ pf_nest) (t2 : Cond.instanceMethod y ∈ pf_tb) (t3 : Cond.selects C1 y y ∈ pf_tb) (t4 : Cond.initialized C1 ∈ pf_tb) (t5 : Cond.code y c1 mL r1 ∈ pf_tb)
    (hd : y.cls = C1 ∧ y.cls ≠ "java/lang/invoke/MethodHandle" ∧ y.cls ≠ "java/lang/invoke/VarHandle" ∧ (parseMethodDescriptor y.desc).map (fun d => d.parameters.length) = some n) (hR : fr + 1 ≤ R.frames ∧ 8 + (mL + 11) + lo ≤ R.locals)
    (k : Nat) (he : ws[k]? = some (b, .inr (ci, fs))) (hc : vcl[ci]? = some (C1, T, N)) (hn : As.length = n) (hls : ls.size = nL) (hst : (rest.map fun v => v.category).sum ≤ 8) (hdg : decode cc pc = .ok (.invokevirtual idx, 3)) (h0 : cells ≤ R.cells ∧ slots ≤ R.slots) :
    va_Run p l e R s m args below meth c H locs cells slots 0 0 (F0 m pc ls (As.reverse ++ .ref b :: rest)) rest (Qc (Value.ref b :: As).toArray) (va_A ws H.size) :=
  va_runVN (As := As) (rest := rest) ⟨C.1, C.2.1, C.2.2.2.1, C.cl, C.2.2.2.2.2.1⟩ hM ⟨va_cnB n C.2.2.2.2.2.1 (gw_good t5) rfl rfl rfl (C.nw t1) (by rw [hd.1]; exact C.ts t4) hd.2 hR, C.ts t2, C.ts t3⟩ ⟨gw_blind, va_recv C.K Hh.1 hc he, gw_give C Hh⟩ rfl hn hls rfl (lv_room hst) hdg h0
theorem gw_runS (As : List Value) (C : gw_C p s m args meth c G own cc nL ret) (Hh : gw_H G A s ws H locs) (hM : Met l y (Cond.code y c1 mL r1 :: pf_tb) (gw_rm fr lo) (va_Pc As (gw_pre G ws H.size)) Qc 0 0 (va_A ws H.size))
    (t1 : Cond.methodLink own idx y ∈ pf_tb) (t2 : Cond.static y ∈ pf_tb) (t4 : Cond.initialized own ∈ pf_tb) (t5 : Cond.code y c1 mL r1 ∈ pf_tb)
    (hd : y.cls = own ∧ y.cls ≠ "java/lang/invoke/MethodHandle" ∧ y.cls ≠ "java/lang/invoke/VarHandle" ∧ (parseMethodDescriptor y.desc).map (fun d => d.parameters.length) = some n) (hR : fr + 1 ≤ R.frames ∧ 8 + (mL + 11) + lo ≤ R.locals)
    (hn : As.length = n) (hls : ls.size = nL) (hst : (rest.map fun v => v.category).sum ≤ 8) (hdg : decode cc pc = .ok (.invokestatic idx, 3)) (h0 : cells ≤ R.cells ∧ slots ≤ R.slots) :
    va_Run p l e R s m args below meth c H locs cells slots 0 0 (F0 m pc ls (As.reverse ++ rest)) rest (Qc As.toArray) (va_A ws H.size) :=
  va_runS (As := As) (rest := rest) ⟨C.1, C.2.1, C.2.2.2.1, C.cl, C.2.2.2.2.2.1⟩ hM (cwS n C.2.2.2.2.2.1 (gw_goodS t1 t2 t4 (gw_good t5)) rfl rfl rfl hd hR) ⟨gw_blind, gw_give C Hh⟩ rfl hn hls rfl (lv_room hst) hdg h0
theorem gw_runSN {host : String} (As : List Value) (C : gw_C p s m args meth c G own cc nL ret) (Hh : gw_H G A s ws H locs) (hM : Met l y (Cond.code y c1 mL r1 :: pf_tb) (gw_rm fr lo) (va_Pc As (gw_pre G ws H.size)) Qc 0 0 (va_A ws H.size))
    (t1 : Cond.methodLinkNest own idx y host ∈ pf_nest) (t2 : Cond.static y ∈ pf_tb) (t4 : Cond.initialized y.cls ∈ pf_tb) (t5 : Cond.code y c1 mL r1 ∈ pf_tb)
    (hd : y.cls ≠ "java/lang/invoke/MethodHandle" ∧ y.cls ≠ "java/lang/invoke/VarHandle" ∧ (parseMethodDescriptor y.desc).map (fun d => d.parameters.length) = some n) (hR : fr + 1 ≤ R.frames ∧ 8 + (mL + 11) + lo ≤ R.locals)
    (hn : As.length = n) (hls : ls.size = nL) (hst : (rest.map fun v => v.category).sum ≤ 8) (hdg : decode cc pc = .ok (.invokestatic idx, 3)) (h0 : cells ≤ R.cells ∧ slots ≤ R.slots) :
    va_Run p l e R s m args below meth c H locs cells slots 0 0 (F0 m pc ls (As.reverse ++ rest)) rest (Qc As.toArray) (va_A ws H.size) :=
  va_runSN (As := As) (rest := rest) ⟨C.1, C.2.1, C.2.2.2.1, C.cl, C.2.2.2.2.2.1⟩ hM ⟨va_cnB n C.2.2.2.2.2.1 (gw_good t5) rfl rfl rfl (C.nw t1) (C.ts t4) hd hR, C.ts t2, trivial⟩ ⟨gw_blind, gw_give C Hh⟩ rfl hn hls rfl (lv_room hst) hdg h0
end GWB
end
section
/-! The two worlds: the class's cells (0 the object, 1 goods, 2 arrivals, 3 orders, 4 takings, 5.. their arrays), the reference's cells (0 the object, 1.. its arrays). -/
def up1 (n : Nat → Nat) (k v : Nat) : Nat → Nat := fun a => if a = k then v else n a
def up2 (f : Nat → Nat → Nat) (k x v : Nat) : Nat → Nat → Nat := fun a b => if a = k then (if b = x then v else f k b) else f a b
def up3 (f : Nat → Nat → Int) (k x : Nat) (v : Int) : Nat → Nat → Int := fun a b => if a = k then (if b = x then v else f k b) else f a b
abbrev pf_S : Type := (Nat → Nat) × (Nat → Nat → Nat)
abbrev md_S : Type := (Nat → Nat) × (Nat → Nat → Nat) × (Nat → Nat → Int)
def pw (G : gw_G) (q : Nat → Nat) (u : pf_S) : va_W := [(q 0, .inr (4, [.ref (q 1), .ref (q 2), .ref (q 3), .ref (q 4)])), (q 1, .inr (1, [.ref (q 5), .ref (q 6), .ref (q 7), .ref (q 8), .ref (q 9)])), (q 2, .inr (0, [.int (nI (u.1 0)), .ref (q 10), .ref (q 11), .ref (q 12), .ref (q 13)])), (q 3, .inr (2, [.int (nI (u.1 1)), .ref (q 14), .ref (q 15), .ref (q 16), .ref (q 17), .ref (q 18), .ref (q 19)])), (q 4, .inr (3, [.int (nI (u.1 2)), .ref (q 20), .ref (q 21), .ref (q 22), .ref (q 23), .ref (q 24), .ref (q 25), .ref (q 26), .ref (q 27), .ref (q 28)])), (q 5, .inl (G.2.1, 6, .inl (fun j => nI (u.2 5 j)))), (q 6, .inl (G.2.2.1, 36, .inl (fun j => nI (u.2 6 j)))), (q 7, .inl (G.2.1, 6, .inl (fun j => nI (u.2 7 j)))), (q 8, .inl (G.2.1, 18, .inl (fun j => nI (u.2 8 j)))), (q 9, .inl (G.2.1, 18, .inl (fun j => nI (u.2 9 j)))), (q 10, .inl (G.2.1, 10, .inl (fun j => nI (u.2 10 j)))), (q 11, .inl (G.2.1, 10, .inl (fun j => nI (u.2 11 j)))), (q 12, .inl (G.2.1, 10, .inl (fun j => nI (u.2 12 j)))), (q 13, .inl (G.2.1, 10, .inl (fun j => nI (u.2 13 j)))), (q 14, .inl (G.2.1, 10, .inl (fun j => nI (u.2 14 j)))), (q 15, .inl (G.2.1, 10, .inl (fun j => nI (u.2 15 j)))), (q 16, .inl (G.2.1, 10, .inl (fun j => nI (u.2 16 j)))), (q 17, .inl (G.2.1, 10, .inl (fun j => nI (u.2 17 j)))), (q 18, .inl (G.2.1, 10, .inl (fun j => nI (u.2 18 j)))), (q 19, .inl (G.2.1, 10, .inl (fun j => nI (u.2 19 j)))), (q 20, .inl (G.2.1, 10, .inl (fun j => nI (u.2 20 j)))), (q 21, .inl (G.2.1, 10, .inl (fun j => nI (u.2 21 j)))), (q 22, .inl (G.2.1, 310, .inl (fun j => nI (u.2 22 j)))), (q 23, .inl (G.2.1, 31, .inl (fun j => nI (u.2 23 j)))), (q 24, .inl (G.2.1, 10, .inl (fun j => nI (u.2 24 j)))), (q 25, .inl (G.2.1, 310, .inl (fun j => nI (u.2 25 j)))), (q 26, .inl (G.2.1, 10, .inl (fun j => nI (u.2 26 j)))), (q 27, .inl (G.2.1, 10, .inl (fun j => nI (u.2 27 j)))), (q 28, .inl (G.2.1, 10, .inl (fun j => nI (u.2 28 j))))]
def mw (G : gw_G) (q : Nat → Nat) (u : md_S) : va_W := [(q 0, .inr (5, [.int (nI (u.1 0)), .ref (q 1), .ref (q 2), .ref (q 3), .ref (q 4), .ref (q 5), .int (nI (u.1 1)), .ref (q 6), .ref (q 7), .ref (q 8), .ref (q 9), .int (nI (u.1 2)), .ref (q 10), .ref (q 11), .ref (q 12), .ref (q 13), .ref (q 14), .int (nI (u.1 3)), .ref (q 15), .ref (q 16), .ref (q 17), .ref (q 18), .ref (q 19), .int (nI (u.1 4)), .ref (q 20), .ref (q 21), .ref (q 22), .ref (q 23), .ref (q 24)])), (q 1, .inl (G.2.1, 6, .inl (fun j => nI (u.2.1 1 j)))), (q 2, .inl (G.2.1, 6, .inl (fun j => nI (u.2.1 2 j)))), (q 3, .inl (G.2.1, 6, .inl (fun j => nI (u.2.1 3 j)))), (q 4, .inl (G.2.1, 18, .inl (fun j => nI (u.2.1 4 j)))), (q 5, .inl (G.2.1, 18, .inl (fun j => nI (u.2.1 5 j)))), (q 6, .inl (G.2.1, 10, .inl (fun j => nI (u.2.1 6 j)))), (q 7, .inl (G.2.1, 10, .inl (fun j => nI (u.2.1 7 j)))), (q 8, .inl (G.2.1, 10, .inl (fun j => nI (u.2.1 8 j)))), (q 9, .inl (G.2.1, 10, .inl (fun j => nI (u.2.1 9 j)))), (q 10, .inl (G.2.1, 10, .inl (fun j => nI (u.2.1 10 j)))), (q 11, .inl (G.2.1, 10, .inl (fun j => nI (u.2.1 11 j)))), (q 12, .inl (G.2.1, 10, .inl (fun j => nI (u.2.1 12 j)))), (q 13, .inl (G.2.1, 10, .inl (fun j => nI (u.2.1 13 j)))), (q 14, .inl (G.2.1, 10, .inl (fun j => nI (u.2.1 14 j)))), (q 15, .inl (G.2.1, 40, .inl (fun j => nI (u.2.1 15 j)))), (q 16, .inl (G.2.1, 40, .inl (fun j => nI (u.2.1 16 j)))), (q 17, .inl (G.2.2.2, 40, .inr (.inl (fun j => Int64.ofInt (u.2.2 17 j))))), (q 18, .inl (G.2.1, 40, .inl (fun j => nI (u.2.1 18 j)))), (q 19, .inl (G.2.2.2, 10, .inr (.inl (fun j => Int64.ofInt (u.2.2 19 j))))), (q 20, .inl (G.2.1, 400, .inl (fun j => nI (u.2.1 20 j)))), (q 21, .inl (G.2.1, 400, .inl (fun j => nI (u.2.1 21 j)))), (q 22, .inl (G.2.1, 400, .inl (fun j => nI (u.2.1 22 j)))), (q 23, .inl (G.2.1, 400, .inl (fun j => nI (u.2.1 23 j)))), (q 24, .inl (G.2.1, 400, .inl (fun j => nI (u.2.1 24 j))))]
section WRL
variable {G : gw_G} {q : Nat → Nat} {u : pf_S} {x v : Nat}
theorem pw_at0 : (pw G q u)[0]? = some (q 0, .inr (4, [.ref (q 1), .ref (q 2), .ref (q 3), .ref (q 4)])) := rfl
theorem pw_at1 : (pw G q u)[1]? = some (q 1, .inr (1, [.ref (q 5), .ref (q 6), .ref (q 7), .ref (q 8), .ref (q 9)])) := rfl
theorem pw_at2 : (pw G q u)[2]? = some (q 2, .inr (0, [.int (nI (u.1 0)), .ref (q 10), .ref (q 11), .ref (q 12), .ref (q 13)])) := rfl
theorem pw_at3 : (pw G q u)[3]? = some (q 3, .inr (2, [.int (nI (u.1 1)), .ref (q 14), .ref (q 15), .ref (q 16), .ref (q 17), .ref (q 18), .ref (q 19)])) := rfl
theorem pw_at4 : (pw G q u)[4]? = some (q 4, .inr (3, [.int (nI (u.1 2)), .ref (q 20), .ref (q 21), .ref (q 22), .ref (q 23), .ref (q 24), .ref (q 25), .ref (q 26), .ref (q 27), .ref (q 28)])) := rfl
theorem pw_at5 : (pw G q u)[5]? = some (q 5, .inl (G.2.1, 6, .inl (fun j => nI (u.2 5 j)))) := rfl
theorem pw_set5 : (pw G q u).set 5 (q 5, .inl (G.2.1, 6, .inl (fun j => nI (if j = x then v else u.2 5 j)))) = pw G q (u.1, up2 u.2 5 x v) := rfl
theorem pw_at6 : (pw G q u)[6]? = some (q 6, .inl (G.2.2.1, 36, .inl (fun j => nI (u.2 6 j)))) := rfl
theorem pw_set6 : (pw G q u).set 6 (q 6, .inl (G.2.2.1, 36, .inl (fun j => nI (if j = x then v else u.2 6 j)))) = pw G q (u.1, up2 u.2 6 x v) := rfl
theorem pw_at7 : (pw G q u)[7]? = some (q 7, .inl (G.2.1, 6, .inl (fun j => nI (u.2 7 j)))) := rfl
theorem pw_set7 : (pw G q u).set 7 (q 7, .inl (G.2.1, 6, .inl (fun j => nI (if j = x then v else u.2 7 j)))) = pw G q (u.1, up2 u.2 7 x v) := rfl
theorem pw_at8 : (pw G q u)[8]? = some (q 8, .inl (G.2.1, 18, .inl (fun j => nI (u.2 8 j)))) := rfl
theorem pw_set8 : (pw G q u).set 8 (q 8, .inl (G.2.1, 18, .inl (fun j => nI (if j = x then v else u.2 8 j)))) = pw G q (u.1, up2 u.2 8 x v) := rfl
theorem pw_at9 : (pw G q u)[9]? = some (q 9, .inl (G.2.1, 18, .inl (fun j => nI (u.2 9 j)))) := rfl
theorem pw_set9 : (pw G q u).set 9 (q 9, .inl (G.2.1, 18, .inl (fun j => nI (if j = x then v else u.2 9 j)))) = pw G q (u.1, up2 u.2 9 x v) := rfl
theorem pw_at10 : (pw G q u)[10]? = some (q 10, .inl (G.2.1, 10, .inl (fun j => nI (u.2 10 j)))) := rfl
theorem pw_set10 : (pw G q u).set 10 (q 10, .inl (G.2.1, 10, .inl (fun j => nI (if j = x then v else u.2 10 j)))) = pw G q (u.1, up2 u.2 10 x v) := rfl
theorem pw_at11 : (pw G q u)[11]? = some (q 11, .inl (G.2.1, 10, .inl (fun j => nI (u.2 11 j)))) := rfl
theorem pw_set11 : (pw G q u).set 11 (q 11, .inl (G.2.1, 10, .inl (fun j => nI (if j = x then v else u.2 11 j)))) = pw G q (u.1, up2 u.2 11 x v) := rfl
theorem pw_at12 : (pw G q u)[12]? = some (q 12, .inl (G.2.1, 10, .inl (fun j => nI (u.2 12 j)))) := rfl
theorem pw_set12 : (pw G q u).set 12 (q 12, .inl (G.2.1, 10, .inl (fun j => nI (if j = x then v else u.2 12 j)))) = pw G q (u.1, up2 u.2 12 x v) := rfl
theorem pw_at13 : (pw G q u)[13]? = some (q 13, .inl (G.2.1, 10, .inl (fun j => nI (u.2 13 j)))) := rfl
theorem pw_set13 : (pw G q u).set 13 (q 13, .inl (G.2.1, 10, .inl (fun j => nI (if j = x then v else u.2 13 j)))) = pw G q (u.1, up2 u.2 13 x v) := rfl
theorem pw_at14 : (pw G q u)[14]? = some (q 14, .inl (G.2.1, 10, .inl (fun j => nI (u.2 14 j)))) := rfl
theorem pw_set14 : (pw G q u).set 14 (q 14, .inl (G.2.1, 10, .inl (fun j => nI (if j = x then v else u.2 14 j)))) = pw G q (u.1, up2 u.2 14 x v) := rfl
theorem pw_at15 : (pw G q u)[15]? = some (q 15, .inl (G.2.1, 10, .inl (fun j => nI (u.2 15 j)))) := rfl
theorem pw_set15 : (pw G q u).set 15 (q 15, .inl (G.2.1, 10, .inl (fun j => nI (if j = x then v else u.2 15 j)))) = pw G q (u.1, up2 u.2 15 x v) := rfl
theorem pw_at16 : (pw G q u)[16]? = some (q 16, .inl (G.2.1, 10, .inl (fun j => nI (u.2 16 j)))) := rfl
theorem pw_set16 : (pw G q u).set 16 (q 16, .inl (G.2.1, 10, .inl (fun j => nI (if j = x then v else u.2 16 j)))) = pw G q (u.1, up2 u.2 16 x v) := rfl
theorem pw_at17 : (pw G q u)[17]? = some (q 17, .inl (G.2.1, 10, .inl (fun j => nI (u.2 17 j)))) := rfl
theorem pw_set17 : (pw G q u).set 17 (q 17, .inl (G.2.1, 10, .inl (fun j => nI (if j = x then v else u.2 17 j)))) = pw G q (u.1, up2 u.2 17 x v) := rfl
theorem pw_at18 : (pw G q u)[18]? = some (q 18, .inl (G.2.1, 10, .inl (fun j => nI (u.2 18 j)))) := rfl
theorem pw_set18 : (pw G q u).set 18 (q 18, .inl (G.2.1, 10, .inl (fun j => nI (if j = x then v else u.2 18 j)))) = pw G q (u.1, up2 u.2 18 x v) := rfl
theorem pw_at19 : (pw G q u)[19]? = some (q 19, .inl (G.2.1, 10, .inl (fun j => nI (u.2 19 j)))) := rfl
theorem pw_set19 : (pw G q u).set 19 (q 19, .inl (G.2.1, 10, .inl (fun j => nI (if j = x then v else u.2 19 j)))) = pw G q (u.1, up2 u.2 19 x v) := rfl
theorem pw_at20 : (pw G q u)[20]? = some (q 20, .inl (G.2.1, 10, .inl (fun j => nI (u.2 20 j)))) := rfl
theorem pw_set20 : (pw G q u).set 20 (q 20, .inl (G.2.1, 10, .inl (fun j => nI (if j = x then v else u.2 20 j)))) = pw G q (u.1, up2 u.2 20 x v) := rfl
theorem pw_at21 : (pw G q u)[21]? = some (q 21, .inl (G.2.1, 10, .inl (fun j => nI (u.2 21 j)))) := rfl
theorem pw_set21 : (pw G q u).set 21 (q 21, .inl (G.2.1, 10, .inl (fun j => nI (if j = x then v else u.2 21 j)))) = pw G q (u.1, up2 u.2 21 x v) := rfl
theorem pw_at22 : (pw G q u)[22]? = some (q 22, .inl (G.2.1, 310, .inl (fun j => nI (u.2 22 j)))) := rfl
theorem pw_set22 : (pw G q u).set 22 (q 22, .inl (G.2.1, 310, .inl (fun j => nI (if j = x then v else u.2 22 j)))) = pw G q (u.1, up2 u.2 22 x v) := rfl
theorem pw_at23 : (pw G q u)[23]? = some (q 23, .inl (G.2.1, 31, .inl (fun j => nI (u.2 23 j)))) := rfl
theorem pw_set23 : (pw G q u).set 23 (q 23, .inl (G.2.1, 31, .inl (fun j => nI (if j = x then v else u.2 23 j)))) = pw G q (u.1, up2 u.2 23 x v) := rfl
theorem pw_at24 : (pw G q u)[24]? = some (q 24, .inl (G.2.1, 10, .inl (fun j => nI (u.2 24 j)))) := rfl
theorem pw_set24 : (pw G q u).set 24 (q 24, .inl (G.2.1, 10, .inl (fun j => nI (if j = x then v else u.2 24 j)))) = pw G q (u.1, up2 u.2 24 x v) := rfl
theorem pw_at25 : (pw G q u)[25]? = some (q 25, .inl (G.2.1, 310, .inl (fun j => nI (u.2 25 j)))) := rfl
theorem pw_set25 : (pw G q u).set 25 (q 25, .inl (G.2.1, 310, .inl (fun j => nI (if j = x then v else u.2 25 j)))) = pw G q (u.1, up2 u.2 25 x v) := rfl
theorem pw_at26 : (pw G q u)[26]? = some (q 26, .inl (G.2.1, 10, .inl (fun j => nI (u.2 26 j)))) := rfl
theorem pw_set26 : (pw G q u).set 26 (q 26, .inl (G.2.1, 10, .inl (fun j => nI (if j = x then v else u.2 26 j)))) = pw G q (u.1, up2 u.2 26 x v) := rfl
theorem pw_at27 : (pw G q u)[27]? = some (q 27, .inl (G.2.1, 10, .inl (fun j => nI (u.2 27 j)))) := rfl
theorem pw_set27 : (pw G q u).set 27 (q 27, .inl (G.2.1, 10, .inl (fun j => nI (if j = x then v else u.2 27 j)))) = pw G q (u.1, up2 u.2 27 x v) := rfl
theorem pw_at28 : (pw G q u)[28]? = some (q 28, .inl (G.2.1, 10, .inl (fun j => nI (u.2 28 j)))) := rfl
theorem pw_set28 : (pw G q u).set 28 (q 28, .inl (G.2.1, 10, .inl (fun j => nI (if j = x then v else u.2 28 j)))) = pw G q (u.1, up2 u.2 28 x v) := rfl
theorem pw_num0 : (pw G q u).set 2 (q 2, .inr (0, [.int (nI (u.1 0)), .ref (q 10), .ref (q 11), .ref (q 12), .ref (q 13)].set 0 (.int (nI v)))) = pw G q (up1 u.1 0 v, u.2) := rfl
theorem pw_num1 : (pw G q u).set 3 (q 3, .inr (2, [.int (nI (u.1 1)), .ref (q 14), .ref (q 15), .ref (q 16), .ref (q 17), .ref (q 18), .ref (q 19)].set 0 (.int (nI v)))) = pw G q (up1 u.1 1 v, u.2) := rfl
theorem pw_num2 : (pw G q u).set 4 (q 4, .inr (3, [.int (nI (u.1 2)), .ref (q 20), .ref (q 21), .ref (q 22), .ref (q 23), .ref (q 24), .ref (q 25), .ref (q 26), .ref (q 27), .ref (q 28)].set 0 (.int (nI v)))) = pw G q (up1 u.1 2 v, u.2) := rfl
end WRL
section WRM
variable {G : gw_G} {q : Nat → Nat} {u : md_S} {x v : Nat} {z : Int}
theorem mw_at0 : (mw G q u)[0]? = some (q 0, .inr (5, [.int (nI (u.1 0)), .ref (q 1), .ref (q 2), .ref (q 3), .ref (q 4), .ref (q 5), .int (nI (u.1 1)), .ref (q 6), .ref (q 7), .ref (q 8), .ref (q 9), .int (nI (u.1 2)), .ref (q 10), .ref (q 11), .ref (q 12), .ref (q 13), .ref (q 14), .int (nI (u.1 3)), .ref (q 15), .ref (q 16), .ref (q 17), .ref (q 18), .ref (q 19), .int (nI (u.1 4)), .ref (q 20), .ref (q 21), .ref (q 22), .ref (q 23), .ref (q 24)])) := rfl
theorem mw_at1 : (mw G q u)[1]? = some (q 1, .inl (G.2.1, 6, .inl (fun j => nI (u.2.1 1 j)))) := rfl
theorem mw_set1 : (mw G q u).set 1 (q 1, .inl (G.2.1, 6, .inl (fun j => nI (if j = x then v else u.2.1 1 j)))) = mw G q (u.1, up2 u.2.1 1 x v, u.2.2) := rfl
theorem mw_at2 : (mw G q u)[2]? = some (q 2, .inl (G.2.1, 6, .inl (fun j => nI (u.2.1 2 j)))) := rfl
theorem mw_set2 : (mw G q u).set 2 (q 2, .inl (G.2.1, 6, .inl (fun j => nI (if j = x then v else u.2.1 2 j)))) = mw G q (u.1, up2 u.2.1 2 x v, u.2.2) := rfl
theorem mw_at3 : (mw G q u)[3]? = some (q 3, .inl (G.2.1, 6, .inl (fun j => nI (u.2.1 3 j)))) := rfl
theorem mw_set3 : (mw G q u).set 3 (q 3, .inl (G.2.1, 6, .inl (fun j => nI (if j = x then v else u.2.1 3 j)))) = mw G q (u.1, up2 u.2.1 3 x v, u.2.2) := rfl
theorem mw_at4 : (mw G q u)[4]? = some (q 4, .inl (G.2.1, 18, .inl (fun j => nI (u.2.1 4 j)))) := rfl
theorem mw_set4 : (mw G q u).set 4 (q 4, .inl (G.2.1, 18, .inl (fun j => nI (if j = x then v else u.2.1 4 j)))) = mw G q (u.1, up2 u.2.1 4 x v, u.2.2) := rfl
theorem mw_at5 : (mw G q u)[5]? = some (q 5, .inl (G.2.1, 18, .inl (fun j => nI (u.2.1 5 j)))) := rfl
theorem mw_set5 : (mw G q u).set 5 (q 5, .inl (G.2.1, 18, .inl (fun j => nI (if j = x then v else u.2.1 5 j)))) = mw G q (u.1, up2 u.2.1 5 x v, u.2.2) := rfl
theorem mw_at6 : (mw G q u)[6]? = some (q 6, .inl (G.2.1, 10, .inl (fun j => nI (u.2.1 6 j)))) := rfl
theorem mw_set6 : (mw G q u).set 6 (q 6, .inl (G.2.1, 10, .inl (fun j => nI (if j = x then v else u.2.1 6 j)))) = mw G q (u.1, up2 u.2.1 6 x v, u.2.2) := rfl
theorem mw_at7 : (mw G q u)[7]? = some (q 7, .inl (G.2.1, 10, .inl (fun j => nI (u.2.1 7 j)))) := rfl
theorem mw_set7 : (mw G q u).set 7 (q 7, .inl (G.2.1, 10, .inl (fun j => nI (if j = x then v else u.2.1 7 j)))) = mw G q (u.1, up2 u.2.1 7 x v, u.2.2) := rfl
theorem mw_at8 : (mw G q u)[8]? = some (q 8, .inl (G.2.1, 10, .inl (fun j => nI (u.2.1 8 j)))) := rfl
theorem mw_set8 : (mw G q u).set 8 (q 8, .inl (G.2.1, 10, .inl (fun j => nI (if j = x then v else u.2.1 8 j)))) = mw G q (u.1, up2 u.2.1 8 x v, u.2.2) := rfl
theorem mw_at9 : (mw G q u)[9]? = some (q 9, .inl (G.2.1, 10, .inl (fun j => nI (u.2.1 9 j)))) := rfl
theorem mw_set9 : (mw G q u).set 9 (q 9, .inl (G.2.1, 10, .inl (fun j => nI (if j = x then v else u.2.1 9 j)))) = mw G q (u.1, up2 u.2.1 9 x v, u.2.2) := rfl
theorem mw_at10 : (mw G q u)[10]? = some (q 10, .inl (G.2.1, 10, .inl (fun j => nI (u.2.1 10 j)))) := rfl
theorem mw_set10 : (mw G q u).set 10 (q 10, .inl (G.2.1, 10, .inl (fun j => nI (if j = x then v else u.2.1 10 j)))) = mw G q (u.1, up2 u.2.1 10 x v, u.2.2) := rfl
theorem mw_at11 : (mw G q u)[11]? = some (q 11, .inl (G.2.1, 10, .inl (fun j => nI (u.2.1 11 j)))) := rfl
theorem mw_set11 : (mw G q u).set 11 (q 11, .inl (G.2.1, 10, .inl (fun j => nI (if j = x then v else u.2.1 11 j)))) = mw G q (u.1, up2 u.2.1 11 x v, u.2.2) := rfl
theorem mw_at12 : (mw G q u)[12]? = some (q 12, .inl (G.2.1, 10, .inl (fun j => nI (u.2.1 12 j)))) := rfl
theorem mw_set12 : (mw G q u).set 12 (q 12, .inl (G.2.1, 10, .inl (fun j => nI (if j = x then v else u.2.1 12 j)))) = mw G q (u.1, up2 u.2.1 12 x v, u.2.2) := rfl
theorem mw_at13 : (mw G q u)[13]? = some (q 13, .inl (G.2.1, 10, .inl (fun j => nI (u.2.1 13 j)))) := rfl
theorem mw_set13 : (mw G q u).set 13 (q 13, .inl (G.2.1, 10, .inl (fun j => nI (if j = x then v else u.2.1 13 j)))) = mw G q (u.1, up2 u.2.1 13 x v, u.2.2) := rfl
theorem mw_at14 : (mw G q u)[14]? = some (q 14, .inl (G.2.1, 10, .inl (fun j => nI (u.2.1 14 j)))) := rfl
theorem mw_set14 : (mw G q u).set 14 (q 14, .inl (G.2.1, 10, .inl (fun j => nI (if j = x then v else u.2.1 14 j)))) = mw G q (u.1, up2 u.2.1 14 x v, u.2.2) := rfl
theorem mw_at15 : (mw G q u)[15]? = some (q 15, .inl (G.2.1, 40, .inl (fun j => nI (u.2.1 15 j)))) := rfl
theorem mw_set15 : (mw G q u).set 15 (q 15, .inl (G.2.1, 40, .inl (fun j => nI (if j = x then v else u.2.1 15 j)))) = mw G q (u.1, up2 u.2.1 15 x v, u.2.2) := rfl
theorem mw_at16 : (mw G q u)[16]? = some (q 16, .inl (G.2.1, 40, .inl (fun j => nI (u.2.1 16 j)))) := rfl
theorem mw_set16 : (mw G q u).set 16 (q 16, .inl (G.2.1, 40, .inl (fun j => nI (if j = x then v else u.2.1 16 j)))) = mw G q (u.1, up2 u.2.1 16 x v, u.2.2) := rfl
theorem mw_at17 : (mw G q u)[17]? = some (q 17, .inl (G.2.2.2, 40, .inr (.inl (fun j => Int64.ofInt (u.2.2 17 j))))) := rfl
theorem mw_set17 : (mw G q u).set 17 (q 17, .inl (G.2.2.2, 40, .inr (.inl (fun j => Int64.ofInt (if j = x then z else u.2.2 17 j))))) = mw G q (u.1, u.2.1, up3 u.2.2 17 x z) := rfl
theorem mw_at18 : (mw G q u)[18]? = some (q 18, .inl (G.2.1, 40, .inl (fun j => nI (u.2.1 18 j)))) := rfl
theorem mw_set18 : (mw G q u).set 18 (q 18, .inl (G.2.1, 40, .inl (fun j => nI (if j = x then v else u.2.1 18 j)))) = mw G q (u.1, up2 u.2.1 18 x v, u.2.2) := rfl
theorem mw_at19 : (mw G q u)[19]? = some (q 19, .inl (G.2.2.2, 10, .inr (.inl (fun j => Int64.ofInt (u.2.2 19 j))))) := rfl
theorem mw_set19 : (mw G q u).set 19 (q 19, .inl (G.2.2.2, 10, .inr (.inl (fun j => Int64.ofInt (if j = x then z else u.2.2 19 j))))) = mw G q (u.1, u.2.1, up3 u.2.2 19 x z) := rfl
theorem mw_at20 : (mw G q u)[20]? = some (q 20, .inl (G.2.1, 400, .inl (fun j => nI (u.2.1 20 j)))) := rfl
theorem mw_set20 : (mw G q u).set 20 (q 20, .inl (G.2.1, 400, .inl (fun j => nI (if j = x then v else u.2.1 20 j)))) = mw G q (u.1, up2 u.2.1 20 x v, u.2.2) := rfl
theorem mw_at21 : (mw G q u)[21]? = some (q 21, .inl (G.2.1, 400, .inl (fun j => nI (u.2.1 21 j)))) := rfl
theorem mw_set21 : (mw G q u).set 21 (q 21, .inl (G.2.1, 400, .inl (fun j => nI (if j = x then v else u.2.1 21 j)))) = mw G q (u.1, up2 u.2.1 21 x v, u.2.2) := rfl
theorem mw_at22 : (mw G q u)[22]? = some (q 22, .inl (G.2.1, 400, .inl (fun j => nI (u.2.1 22 j)))) := rfl
theorem mw_set22 : (mw G q u).set 22 (q 22, .inl (G.2.1, 400, .inl (fun j => nI (if j = x then v else u.2.1 22 j)))) = mw G q (u.1, up2 u.2.1 22 x v, u.2.2) := rfl
theorem mw_at23 : (mw G q u)[23]? = some (q 23, .inl (G.2.1, 400, .inl (fun j => nI (u.2.1 23 j)))) := rfl
theorem mw_set23 : (mw G q u).set 23 (q 23, .inl (G.2.1, 400, .inl (fun j => nI (if j = x then v else u.2.1 23 j)))) = mw G q (u.1, up2 u.2.1 23 x v, u.2.2) := rfl
theorem mw_at24 : (mw G q u)[24]? = some (q 24, .inl (G.2.1, 400, .inl (fun j => nI (u.2.1 24 j)))) := rfl
theorem mw_set24 : (mw G q u).set 24 (q 24, .inl (G.2.1, 400, .inl (fun j => nI (if j = x then v else u.2.1 24 j)))) = mw G q (u.1, up2 u.2.1 24 x v, u.2.2) := rfl
theorem mw_num0 : (mw G q u).set 0 (q 0, .inr (5, [.int (nI (u.1 0)), .ref (q 1), .ref (q 2), .ref (q 3), .ref (q 4), .ref (q 5), .int (nI (u.1 1)), .ref (q 6), .ref (q 7), .ref (q 8), .ref (q 9), .int (nI (u.1 2)), .ref (q 10), .ref (q 11), .ref (q 12), .ref (q 13), .ref (q 14), .int (nI (u.1 3)), .ref (q 15), .ref (q 16), .ref (q 17), .ref (q 18), .ref (q 19), .int (nI (u.1 4)), .ref (q 20), .ref (q 21), .ref (q 22), .ref (q 23), .ref (q 24)].set 0 (.int (nI v)))) = mw G q (up1 u.1 0 v, u.2) := rfl
theorem mw_num1 : (mw G q u).set 0 (q 0, .inr (5, [.int (nI (u.1 0)), .ref (q 1), .ref (q 2), .ref (q 3), .ref (q 4), .ref (q 5), .int (nI (u.1 1)), .ref (q 6), .ref (q 7), .ref (q 8), .ref (q 9), .int (nI (u.1 2)), .ref (q 10), .ref (q 11), .ref (q 12), .ref (q 13), .ref (q 14), .int (nI (u.1 3)), .ref (q 15), .ref (q 16), .ref (q 17), .ref (q 18), .ref (q 19), .int (nI (u.1 4)), .ref (q 20), .ref (q 21), .ref (q 22), .ref (q 23), .ref (q 24)].set 6 (.int (nI v)))) = mw G q (up1 u.1 1 v, u.2) := rfl
theorem mw_num2 : (mw G q u).set 0 (q 0, .inr (5, [.int (nI (u.1 0)), .ref (q 1), .ref (q 2), .ref (q 3), .ref (q 4), .ref (q 5), .int (nI (u.1 1)), .ref (q 6), .ref (q 7), .ref (q 8), .ref (q 9), .int (nI (u.1 2)), .ref (q 10), .ref (q 11), .ref (q 12), .ref (q 13), .ref (q 14), .int (nI (u.1 3)), .ref (q 15), .ref (q 16), .ref (q 17), .ref (q 18), .ref (q 19), .int (nI (u.1 4)), .ref (q 20), .ref (q 21), .ref (q 22), .ref (q 23), .ref (q 24)].set 11 (.int (nI v)))) = mw G q (up1 u.1 2 v, u.2) := rfl
theorem mw_num3 : (mw G q u).set 0 (q 0, .inr (5, [.int (nI (u.1 0)), .ref (q 1), .ref (q 2), .ref (q 3), .ref (q 4), .ref (q 5), .int (nI (u.1 1)), .ref (q 6), .ref (q 7), .ref (q 8), .ref (q 9), .int (nI (u.1 2)), .ref (q 10), .ref (q 11), .ref (q 12), .ref (q 13), .ref (q 14), .int (nI (u.1 3)), .ref (q 15), .ref (q 16), .ref (q 17), .ref (q 18), .ref (q 19), .int (nI (u.1 4)), .ref (q 20), .ref (q 21), .ref (q 22), .ref (q 23), .ref (q 24)].set 17 (.int (nI v)))) = mw G q (up1 u.1 3 v, u.2) := rfl
theorem mw_num4 : (mw G q u).set 0 (q 0, .inr (5, [.int (nI (u.1 0)), .ref (q 1), .ref (q 2), .ref (q 3), .ref (q 4), .ref (q 5), .int (nI (u.1 1)), .ref (q 6), .ref (q 7), .ref (q 8), .ref (q 9), .int (nI (u.1 2)), .ref (q 10), .ref (q 11), .ref (q 12), .ref (q 13), .ref (q 14), .int (nI (u.1 3)), .ref (q 15), .ref (q 16), .ref (q 17), .ref (q 18), .ref (q 19), .int (nI (u.1 4)), .ref (q 20), .ref (q 21), .ref (q 22), .ref (q 23), .ref (q 24)].set 23 (.int (nI v)))) = mw G q (up1 u.1 4 v, u.2) := rfl
end WRM
end
section
def bt (x : Int32) (i : Nat) : Bool := x.toBitVec.getLsbD i
theorem b_ext {x y : Int32} (h : ∀ i, i < 32 → bt x i = bt y i) : x = y := Int32.toBitVec_inj.mp (BitVec.eq_of_getLsbD_eq (fun i hi => h i hi))
theorem b_or (x y : Int32) (i : Nat) : bt (x ||| y) i = (bt x i || bt y i) := by unfold bt; rw [Int32.toBitVec_or, BitVec.getLsbD_or]
theorem b_and (x y : Int32) (i : Nat) : bt (x &&& y) i = (bt x i && bt y i) := by unfold bt; rw [Int32.toBitVec_and, BitVec.getLsbD_and]
theorem b_xor (x y : Int32) (i : Nat) : bt (x ^^^ y) i = (bt x i ^^ bt y i) := by unfold bt; rw [Int32.toBitVec_xor, BitVec.getLsbD_xor]
theorem b_big {x : Int32} {i : Nat} (h : 32 ≤ i) : bt x i = false := BitVec.getLsbD_of_ge _ _ h
theorem b_255 (i : Nat) : bt 255 i = decide (i < 8) := by
  rcases Nat.lt_or_ge i 32 with h | h
  · exact (by decide +kernel : ∀ i, i < 32 → bt 255 i = decide (i < 8)) i h
  · rw [b_big h, decide_eq_false (by omega)]
theorem b_65535 (i : Nat) : bt 65535 i = decide (i < 16) := by
  rcases Nat.lt_or_ge i 32 with h | h
  · exact (by decide +kernel : ∀ i, i < 32 → bt 65535 i = decide (i < 16)) i h
  · rw [b_big h, decide_eq_false (by omega)]
theorem b_m1 : ∀ i, i < 32 → bt (-1) i = true := by decide +kernel
theorem b_0 (i : Nat) : bt 0 i = false := BitVec.getLsbD_zero
theorem s_l : ∀ n, n < 32 → ((nI n &&& 31).toBitVec.smod 32).toNat = n := by decide +kernel
theorem s_u : ∀ n, n < 32 → (((nI n).toUInt32 &&& Int32.toUInt32 31).toBitVec % 32).toNat = n := by decide +kernel
theorem b_shl (n : Nat) (hn : n < 32) (x : Int32) {i : Nat} (hi : i < 32) : bt (x <<< (nI n &&& 31)) i = (decide (n ≤ i) && bt x (i - n)) := by
  unfold bt
  rw [Int32.toBitVec_shiftLeft]
  show (x.toBitVec <<< ((nI n &&& 31).toBitVec.smod 32).toNat).getLsbD i = _
  rw [s_l n hn, BitVec.getLsbD_shiftLeft]
  rcases Nat.lt_or_ge i n with h | h
  · simp [h, Nat.not_le.mpr h]
  · simp [hi, h, Nat.not_lt.mpr h]
theorem b_ushr (n : Nat) (hn : n < 32) (x : Int32) (i : Nat) : bt ((x.toUInt32 >>> ((nI n).toUInt32 &&& Int32.toUInt32 31)).toInt32) i = bt x (n + i) := by
  show (x.toUInt32 >>> ((nI n).toUInt32 &&& Int32.toUInt32 31)).toBitVec.getLsbD i = x.toUInt32.toBitVec.getLsbD (n + i)
  rw [UInt32.toBitVec_shiftRight]
  show (x.toUInt32.toBitVec >>> (((nI n).toUInt32 &&& Int32.toUInt32 31).toBitVec % 32).toNat).getLsbD i = _
  rw [s_u n hn, BitVec.getLsbD_ushiftRight]
theorem b_sshr (n : Nat) (hn : n < 32) (x : Int32) {i : Nat} (hi : i < 32) : bt (x >>> (nI n &&& 31)) i = if n + i < 32 then bt x (n + i) else bt x 31 := by
  unfold bt
  rw [Int32.toBitVec_shiftRight]
  show (x.toBitVec.sshiftRight ((nI n &&& 31).toBitVec.smod 32).toNat).getLsbD i = _
  rw [s_l n hn, BitVec.getLsbD_sshiftRight, BitVec.msb_eq_getLsbD_last]
  simp [hi]
theorem b_shl8 (x : Int32) {i : Nat} (hi : i < 32) : bt (x <<< ((8 : Int32) &&& 31)) i = (decide (8 ≤ i) && bt x (i - 8)) := b_shl 8 (by omega) x hi
theorem b_shl16 (x : Int32) {i : Nat} (hi : i < 32) : bt (x <<< ((16 : Int32) &&& 31)) i = (decide (16 ≤ i) && bt x (i - 16)) := b_shl 16 (by omega) x hi
theorem b_shl24 (x : Int32) {i : Nat} (hi : i < 32) : bt (x <<< ((24 : Int32) &&& 31)) i = (decide (24 ≤ i) && bt x (i - 24)) := b_shl 24 (by omega) x hi
theorem b_sshr8 (x : Int32) {i : Nat} (hi : i < 32) : bt (x >>> ((8 : Int32) &&& 31)) i = if 8 + i < 32 then bt x (8 + i) else bt x 31 := b_sshr 8 (by omega) x hi
theorem nx_and (a b : Nat) : nI a &&& nI b = nI (a &&& b) := by
  apply Int32.toBitVec_inj.1
  show BitVec.ofNat 32 a &&& BitVec.ofNat 32 b = BitVec.ofNat 32 (a &&& b)
  apply BitVec.eq_of_getLsbD_eq
  intro i hi
  simp [hi]
theorem nx_xor (a b : Nat) : nI a ^^^ nI b = nI (a ^^^ b) := by
  apply Int32.toBitVec_inj.1
  show BitVec.ofNat 32 a ^^^ BitVec.ofNat 32 b = BitVec.ofNat 32 (a ^^^ b)
  apply BitVec.eq_of_getLsbD_eq
  intro i hi
  simp [hi]
theorem bt_nI (b : Nat) {i : Nat} (hi : i < 32) : bt (nI b) i = b.testBit i := by
  show (BitVec.ofNat 32 b).getLsbD i = _
  rw [BitVec.getLsbD_ofNat]
  simp [hi]
theorem nx_or (a b : Nat) : nI a ||| nI b = nI (a ||| b) := by
  apply Int32.toBitVec_inj.1
  show BitVec.ofNat 32 a ||| BitVec.ofNat 32 b = BitVec.ofNat 32 (a ||| b)
  apply BitVec.eq_of_getLsbD_eq
  intro i hi
  simp [hi]
def tbit (b i : Nat) : Nat := if b.testBit i then 1 else 0
theorem tbit_le (b i : Nat) : tbit b i ≤ 1 := by
  unfold tbit
  split <;> omega
theorem gw_bit (b : Nat) {i : Nat} (hi : i < 32) : (nI b >>> (nI i &&& 31)) &&& nI 1 = nI (tbit b i) := by
  refine b_ext fun j hj => ?_
  rw [b_and, b_sshr i hi _ hj, bt_nI 1 hj, bt_nI _ hj]
  by_cases h0 : j = 0
  · subst h0
    rw [if_pos (by omega), bt_nI b (by omega)]
    unfold tbit
    by_cases h : b.testBit i <;> simp [h]
  · have e1 : (1 : Nat).testBit j = false := by
      rw [Bool.eq_false_iff]
      exact fun h => h0 (Nat.testBit_one_eq_true_iff_self_eq_zero.mp h)
    have e2 : (tbit b i).testBit j = false := by
      unfold tbit
      by_cases h : b.testBit i <;> simp [h, e1]
    rw [e1, e2, Bool.and_false]
theorem nx_shl (x : Nat) {i : Nat} (hi : i < 32) : nI x <<< (nI i &&& 31) = nI (x <<< i) := by
  refine b_ext fun j hj => ?_
  rw [b_shl i hi _ hj, bt_nI _ hj, Nat.testBit_shiftLeft]
  rcases Nat.lt_or_ge j i with h | h
  · simp [Nat.not_le.mpr h]
  · rw [bt_nI x (by omega)]
section GWC
variable {p : Program} {l : Launch} {e : Env} {R : Room} {s : State} {m : MethodId} {args : Array Value} {below : List Frame} {meth : Method} {c : Code} {H : Heap} {locs : List Loc} {cells slots : Nat} {Q : State → Prop}
variable {cc : ByteArray} {pc : Nat} {ls : Array Slot} {rest : List Value} {G : gw_G} {A : Nat → Prop} {own : String} {nL : Nat} {ret : Option FieldType} {ws ws' : va_W} {a : Nat}
theorem gw_iand {x y : Nat} (C : gw_C p s m args meth c G own cc nL ret) (hdg : decode cc pc = .ok (.iand, 1)) (kk : W p l e R s m args below meth c H locs cells slots Q (F0 m (pc + 1) ls (.int (nI (x &&& y)) :: rest))) : W p l e R s m args below meth c H locs cells slots Q (F0 m pc ls (.int (nI y) :: .int (nI x) :: rest)) :=
  lv_iand C.1 C.2.1 hdg (by rw [nx_and]; exact kk)
theorem gw_ior {x y : Nat} (C : gw_C p s m args meth c G own cc nL ret) (hdg : decode cc pc = .ok (.ior, 1)) (kk : W p l e R s m args below meth c H locs cells slots Q (F0 m (pc + 1) ls (.int (nI (x ||| y)) :: rest))) : W p l e R s m args below meth c H locs cells slots Q (F0 m pc ls (.int (nI y) :: .int (nI x) :: rest)) :=
  lv_ior C.1 C.2.1 hdg (by rw [nx_or]; exact kk)
theorem gw_ixor {x y : Nat} (C : gw_C p s m args meth c G own cc nL ret) (hdg : decode cc pc = .ok (.ixor, 1)) (kk : W p l e R s m args below meth c H locs cells slots Q (F0 m (pc + 1) ls (.int (nI (x ^^^ y)) :: rest))) : W p l e R s m args below meth c H locs cells slots Q (F0 m pc ls (.int (nI y) :: .int (nI x) :: rest)) :=
  lv_ixor C.1 C.2.1 hdg (by rw [nx_xor]; exact kk)
theorem gw_ishl {x y : Nat} (C : gw_C p s m args meth c G own cc nL ret) (hdg : decode cc pc = .ok (.ishl, 1)) (hy : y < 32) (kk : W p l e R s m args below meth c H locs cells slots Q (F0 m (pc + 1) ls (.int (nI (x <<< y)) :: rest))) : W p l e R s m args below meth c H locs cells slots Q (F0 m pc ls (.int (nI y) :: .int (nI x) :: rest)) :=
  lv_ishl C.1 C.2.1 hdg (by rw [nx_shl x hy]; exact kk)
theorem gw_and1 {x y : Nat} (C : gw_C p s m args meth c G own cc nL ret) (hdg : decode cc pc = .ok (.iand, 1)) (hy : y < 32) (kk : W p l e R s m args below meth c H locs cells slots Q (F0 m (pc + 1) ls (.int (nI (tbit x y)) :: rest))) : W p l e R s m args below meth c H locs cells slots Q (F0 m pc ls (.int (nI 1) :: .int (nI x >>> (nI y &&& 31)) :: rest)) :=
  lv_iand C.1 C.2.1 hdg (by rw [gw_bit x hy]; exact kk)
theorem gw_min {x y idx : Nat} (C : gw_C p s m args meth c G own cc nL ret) (hml : ls.size = nL) (t1 : Cond.methodLink own idx Lib.Math.min.name ∈ pf_tb) (t2 : Cond.static Lib.Math.min.name ∈ pf_tb) (t3 : Cond.initialized "java/lang/Math" ∈ pf_tb) (t4 : Cond.code Lib.Math.min.name Lib.Math.min.code 2 (some .int) ∈ pf_tb) (hdg : decode cc pc = .ok (.invokestatic idx, 3)) (hx : x < 2 ^ 31) (hy : y < 2 ^ 31) (hfr : 1 ≤ R.frames) (hlo : (rest.map fun v => v.category).sum + 13 ≤ R.locals) (hc : cells ≤ R.cells) (hs : slots ≤ R.slots)
    (kk : W p l e R s m args below meth c H locs cells slots Q (F0 m (pc + 3) ls (.int (nI (Nat.min x y)) :: rest))) : W p l e R s m args below meth c H locs cells slots Q (F0 m pc ls (.int (nI y) :: .int (nI x) :: rest)) := by
  refine va_mmin C.1 C.2.1 (C.2.2.2.1.trans hml.symm) C.cl (C.ts t1) (C.ts t2) (C.ts t3) (C.ts t4) hfr hlo hc hs hdg ?_
  have e1 : (if nI y < nI x then nI y else nI x) = nI (Nat.min x y) := by
    rcases Nat.lt_or_ge y x with h | h
    · rw [if_pos (nI_lt h hx), show Nat.min x y = y from Nat.min_eq_right (Nat.le_of_lt h)]
    · rw [if_neg (nI_nlt h hy), show Nat.min x y = x from Nat.min_eq_left h]
  rw [e1]
  exact kk
theorem gw_copy {len idx a0 : Nat} {F K : Nat → Nat} (C : gw_C p s m args meth c G own cc nL ret) (Hh : gw_H G A s ws H locs) (hml : ls.size = nL) (t1 : Cond.methodLink own idx arraycopyName ∈ pf_tb) (t2 : Cond.native arraycopyName ∈ pf_tb) (t3 : Cond.static arraycopyName ∈ pf_tb) (t4 : Cond.initialized "java/lang/System" ∈ pf_tb) (k0 k1 : Nat)
    (h0 : ws[k0]? = some (a0, .inl (G.2.1, len, .inl (fun j => nI (F j))))) (h1 : ws[k1]? = some (a, .inl (G.2.1, len, .inl (fun j => nI (K j))))) (hlen : len < 2 ^ 31) (hs : ws.set k1 (a, .inl (G.2.1, len, .inl (fun j => nI (if j < len then F j else K j)))) = ws') (hfr : 1 ≤ R.frames) (hlo : (rest.map fun v => v.category).sum + (nativeFrameWords "java/lang/System" "arraycopy" 5 + 11) ≤ R.locals) (hdg : decode cc pc = .ok (.invokestatic idx, 3))
    (kk : ∀ (H1 : Heap) (locs1 : List Loc), gw_H G A s ws' H1 locs1 → W p l e R s m args below meth c H1 locs1 cells slots Q (F0 m (pc + 3) ls rest)) : W p l e R s m args below meth c H locs cells slots Q (F0 m pc ls (.int (nI len) :: .int (nI 0) :: .ref a :: .int (nI 0) :: .ref a0 :: rest)) := by
  have z0 : (nI 0).toNatClampNeg = 0 := nI_clamp (by decide)
  have zl : (nI len).toNatClampNeg = len := nI_clamp hlen
  refine va_copyi (ty := .int) C.1 C.2.1 (C.2.2.2.1.trans hml.symm) C.cl (C.ts t1) (C.ts t2) (C.ts t3) (C.ts t4) C.K Hh.1 Hh.2.1 Hh.2.2.1 k0 k1 0 0 h0 h1 rfl rfl rfl (nI_pos (by decide)) (nI_pos (by decide)) (nI_pos hlen) (by rw [z0, zl]; omega) (by rw [z0, zl]; omega) (fun i _ => rfl) hfr hlo hdg (fun H1 locs1 hP hD hS => ?_)
  have e1 : va_cpy (fun j => nI (F j)) (fun j => nI (K j)) (nI 0).toNatClampNeg (nI 0).toNatClampNeg (nI len).toNatClampNeg = fun j => nI (if j < len then F j else K j) := by
    rw [z0, zl]
    funext j
    unfold va_cpy
    by_cases h : j < len
    · rw [if_pos ⟨Nat.zero_le _, by omega⟩, if_pos h, Nat.zero_add, Nat.sub_zero]
    · rw [if_neg (fun q => h (by omega)), if_neg h]
  rw [e1, hs] at hP hD
  exact kk H1 locs1 ⟨hP, hD, hS, Hh.2.2.2⟩
end GWC
def upA (f : Nat → Nat → Nat) (k : Nat) (g : Nat → Nat) : Nat → Nat → Nat := fun a b => if a = k then g b else f a b
section WRC
variable {G : gw_G} {q : Nat → Nat} {u : pf_S} {g : Nat → Nat}
theorem pw_cpy21 : (pw G q u).set 21 (q 21, .inl (G.2.1, 10, .inl (fun j => nI (g j)))) = pw G q (u.1, upA u.2 21 g) := rfl
theorem pw_cpy22 : (pw G q u).set 22 (q 22, .inl (G.2.1, 310, .inl (fun j => nI (g j)))) = pw G q (u.1, upA u.2 22 g) := rfl
theorem pw_cpy24 : (pw G q u).set 24 (q 24, .inl (G.2.1, 10, .inl (fun j => nI (g j)))) = pw G q (u.1, upA u.2 24 g) := rfl
theorem pw_cpy25 : (pw G q u).set 25 (q 25, .inl (G.2.1, 310, .inl (fun j => nI (g j)))) = pw G q (u.1, upA u.2 25 g) := rfl
end WRC
end
section
/-! Sums over the first n places, and the cut of a flow. -/
def fl_sum (f : Nat → Nat) : Nat → Nat
  | 0 => 0
  | n + 1 => fl_sum f n + f n
theorem fl_sum_congr {f g : Nat → Nat} : ∀ {n : Nat}, (∀ k, k < n → f k = g k) → fl_sum f n = fl_sum g n
  | 0, _ => rfl
  | n + 1, h => by
    show fl_sum f n + f n = fl_sum g n + g n
    rw [fl_sum_congr (fun k hk => h k (Nat.lt_succ_of_lt hk)), h n (Nat.lt_succ_self n)]
theorem fl_sum_le {f g : Nat → Nat} : ∀ {n : Nat}, (∀ k, k < n → f k ≤ g k) → fl_sum f n ≤ fl_sum g n
  | 0, _ => Nat.le_refl _
  | n + 1, h => Nat.add_le_add (fl_sum_le (fun k hk => h k (Nat.lt_succ_of_lt hk))) (h n (Nat.lt_succ_self n))
theorem fl_sum_add (f g : Nat → Nat) : ∀ n, fl_sum (fun k => f k + g k) n = fl_sum f n + fl_sum g n
  | 0 => rfl
  | n + 1 => by
    show fl_sum (fun k => f k + g k) n + (f n + g n) = fl_sum f n + f n + (fl_sum g n + g n)
    rw [fl_sum_add f g n]
    omega
theorem fl_sum_zero : ∀ n, fl_sum (fun _ => 0) n = 0
  | 0 => rfl
  | n + 1 => by
    show fl_sum (fun _ => 0) n + 0 = 0
    rw [fl_sum_zero n]
theorem fl_sum_zero_of {f : Nat → Nat} {n : Nat} (h : ∀ k, k < n → f k = 0) : fl_sum f n = 0 := by
  rw [fl_sum_congr (g := fun _ => 0) h, fl_sum_zero]
theorem fl_sum_swap (f : Nat → Nat → Nat) (m : Nat) : ∀ n, fl_sum (fun i => fl_sum (f i) m) n = fl_sum (fun j => fl_sum (fun i => f i j) n) m
  | 0 => by
    show 0 = fl_sum (fun _ => 0) m
    rw [fl_sum_zero]
  | n + 1 => by
    show fl_sum (fun i => fl_sum (f i) m) n + fl_sum (f n) m = fl_sum (fun j => fl_sum (fun i => f i j) n + f n j) m
    rw [fl_sum_swap f m n, fl_sum_add]
theorem fl_sum_one (f : Nat → Nat) : ∀ {n k : Nat}, k < n → f k ≤ fl_sum f n
  | 0, _, h => absurd h (Nat.not_lt_zero _)
  | n + 1, k, h => by
    show f k ≤ fl_sum f n + f n
    rcases Nat.lt_or_ge k n with h1 | h1
    · exact Nat.le_trans (fl_sum_one f h1) (Nat.le_add_right _ _)
    · have : k = n := by omega
      subst this
      exact Nat.le_add_left _ _
theorem fl_sum_pos {f : Nat → Nat} : ∀ {n : Nat}, 0 < fl_sum f n → ∃ k, k < n ∧ 0 < f k
  | 0, h => absurd h (Nat.lt_irrefl 0)
  | n + 1, h => by
    have h : 0 < fl_sum f n + f n := h
    rcases Nat.eq_zero_or_pos (f n) with h1 | h1
    · obtain ⟨k, h2, h3⟩ := fl_sum_pos (f := f) (n := n) (by omega)
      exact ⟨k, by omega, h3⟩
    · exact ⟨n, Nat.lt_succ_self n, h1⟩
theorem fl_sum_rest_le {f g : Nat → Nat} {k : Nat} : ∀ {n : Nat}, k < n → (∀ j, j < n → j ≠ k → f j ≤ g j) → fl_sum f n + g k ≤ fl_sum g n + f k
  | 0, h, _ => absurd h (Nat.not_lt_zero _)
  | n + 1, h, hj => by
    show fl_sum f n + f n + g k ≤ fl_sum g n + g n + f k
    rcases Nat.lt_or_ge k n with h1 | h1
    · have h2 := fl_sum_rest_le (f := f) (g := g) h1 (fun j h3 h4 => hj j (by omega) h4)
      have h3 := hj n (Nat.lt_succ_self n) (by omega)
      omega
    · have h2 : k = n := by omega
      subst h2
      have h3 := fl_sum_le (f := f) (g := g) (n := k) (fun j h3 => hj j (by omega) (by omega))
      omega
theorem fl_sum_rest {f g : Nat → Nat} {k n : Nat} (h : k < n) (hj : ∀ j, j < n → j ≠ k → f j = g j) : fl_sum f n + g k = fl_sum g n + f k :=
  Nat.le_antisymm (fl_sum_rest_le h (fun j h1 h2 => Nat.le_of_eq (hj j h1 h2))) (fl_sum_rest_le h (fun j h1 h2 => Nat.le_of_eq (hj j h1 h2).symm))
/-- what a row sums to in a set of places -/
def fl_in (R : Nat → Bool) (f : Nat → Nat) : Nat → Nat := fun a => if R a then f a else 0
theorem fl_in_le {R : Nat → Bool} {f : Nat → Nat} {n : Nat} : fl_sum (fl_in R f) n ≤ fl_sum f n := fl_sum_le fun k _ => by
  unfold fl_in
  split <;> omega
theorem fl_in_all {R : Nat → Bool} {f : Nat → Nat} {n : Nat} (h : ∀ k, k < n → 0 < f k → R k = true) : fl_sum (fl_in R f) n = fl_sum f n := fl_sum_congr fun k hk => by
  unfold fl_in
  split
  · rfl
  · rcases Nat.eq_zero_or_pos (f k) with h1 | h1
    · exact h1.symm
    · rename_i h2
      exact absurd (h k hk h1) h2
/-- a set of arrivals that is full, and out of which no loose demand that takes there can go: whoever else meets all demands takes no more there for d0 -/
theorem fl_cut {nA nD : Nat} {fr : Nat → Nat} {us : Nat → Nat → Prop} {x y : Nat → Nat → Nat} {R : Nat → Bool} {L : Nat → Prop} {d0 : Nat} (hd0 : d0 < nD)
    (hyu : ∀ d, d < nD → L d → ∀ a, a < nA → 0 < y d a → us d a)
    (hyf : ∀ a, a < nA → R a = true → fl_sum (fun d => y d a) nD ≤ fr a)
    (hsat : ∀ a, a < nA → R a = true → fr a ≤ fl_sum (fun d => x d a) nD)
    (hcl : ∀ d, d < nD → d ≠ d0 → L d → ∀ r, r < nA → R r = true → 0 < x d r → ∀ a, a < nA → us d a → R a = true)
    (hw : ∀ d, d < nD → d ≠ d0 → L d → fl_sum (x d) nA ≤ fl_sum (y d) nA)
    (hfix : ∀ d, d < nD → d ≠ d0 → ¬ L d → ∀ a, a < nA → R a = true → x d a ≤ y d a) :
    fl_sum (fl_in R (y d0)) nA ≤ fl_sum (fl_in R (x d0)) nA := by
  have h1 : ∀ d, d < nD → d ≠ d0 → fl_sum (fl_in R (x d)) nA ≤ fl_sum (fl_in R (y d)) nA := by
    intro d hd hne
    by_cases hl : L d
    · by_cases ht : ∃ r, r < nA ∧ R r = true ∧ 0 < x d r
      · obtain ⟨r, h2, h3, h4⟩ := ht
        rw [fl_in_all (f := y d) (fun a ha hy => hcl d hd hne hl r h2 h3 h4 a ha (hyu d hd hl a ha hy))]
        exact Nat.le_trans fl_in_le (hw d hd hne hl)
      · have h0 : fl_sum (fl_in R (x d)) nA = 0 := fl_sum_zero_of fun a ha => by
          unfold fl_in
          split
          · rename_i h2
            rcases Nat.eq_zero_or_pos (x d a) with h3 | h3
            · exact h3
            · exact absurd ⟨a, ha, h2, h3⟩ ht
          · rfl
        rw [h0]
        exact Nat.zero_le _
    · refine fl_sum_le fun a ha => ?_
      unfold fl_in
      split
      · rename_i h2
        exact hfix d hd hne hl a ha h2
      · exact Nat.le_refl _
  have h2 : fl_sum (fun d => fl_sum (fl_in R (y d)) nA) nD ≤ fl_sum (fun d => fl_sum (fl_in R (x d)) nA) nD := by
    rw [fl_sum_swap (fun d => fl_in R (y d)) nA nD, fl_sum_swap (fun d => fl_in R (x d)) nA nD]
    refine fl_sum_le fun a ha => ?_
    by_cases hR : R a = true
    · have e1 : ∀ z : Nat → Nat → Nat, fl_sum (fun d => fl_in R (z d) a) nD = fl_sum (fun d => z d a) nD := fun z => fl_sum_congr fun d _ => by
        unfold fl_in
        rw [if_pos hR]
      rw [e1, e1]
      exact Nat.le_trans (hyf a ha hR) (hsat a ha hR)
    · have e1 : fl_sum (fun d => fl_in R (y d) a) nD = 0 := fl_sum_zero_of fun d _ => by
        unfold fl_in
        rw [if_neg hR]
      rw [e1]
      exact Nat.zero_le _
  have h3 := fl_sum_rest_le (f := fun d => fl_sum (fl_in R (x d)) nA) (g := fun d => fl_sum (fl_in R (y d)) nA) hd0 h1
  have h3 : fl_sum (fun d => fl_sum (fl_in R (x d)) nA) nD + fl_sum (fl_in R (y d0)) nA ≤ fl_sum (fun d => fl_sum (fl_in R (y d)) nA) nD + fl_sum (fl_in R (x d0)) nA := h3
  omega
end
section
/-- what holds of the goods' arrays: lives, stand-ins, recipes -/
def gd_ok (u : pf_S) : Prop := (∀ g, g < 6 → u.2 7 g ≤ 3) ∧ (∀ j, j < 36 → u.2 6 j ≤ 1) ∧ (∀ j, j < 18 → u.2 8 j < 6) ∧ (∀ j, j < 18 → u.2 9 j ≤ 100) ∧ ∀ g, g < 6 → u.2 5 g ≤ 100
/-- how many demands a good has, of which goods, and how many for one -/
def gd_dn (u : pf_S) (g : Nat) : Nat := if 0 < u.2 7 g then u.2 7 g else 1
def gd_dg (u : pf_S) (g x : Nat) : Nat := if 0 < u.2 7 g then u.2 8 (g * 3 + x) else g
def gd_d1 (u : pf_S) (g x : Nat) : Nat := if 0 < u.2 7 g then u.2 9 (g * 3 + x) else 1
set_option maxHeartbeats 4000000 in
set_option maxRecDepth 100000 in
theorem c_X1_standsInFor (l : Launch) (G : gw_G) (q : Nat → Nat) (u : pf_S) (o : Nat) (g : Nat) (hok : gd_ok u) (ho : o < 6) (hg : g < 6) : gw_MI l yX1_standsInFor cX1_standsInFor 3 (some .boolean) 0 0 [.ref (q 1), .int (nI (o)), .int (nI (g))] G (pw G q) u (fun r u1 => ∃ k : Nat, r = nI k ∧ (k = u.2 6 (o * 6 + g) ∧ u1 = u)) := by
  refine gw_entryI (own := RX1) (by decide) rfl (Nat.le_of_ble_eq_true rfl) ?_
  intro p e s m args below meth c A ls C Hh hl
  have hl : lv_has ls 3 [(0, .ref (q 1)), (1, .int (nI (o))), (2, .int (nI (g)))] := hl
  refine lv_aload_n C.1 C.2.1 dX1_standsInFor_0 rfl (lv_at hl 0 rfl) ?_
  refine gw_get (Cn := RX1) (T := TX1) (N := 5) C Hh 1 pw_at1 rfl uwX1 1 (by decide) rfl tw_99 rfl dX1_standsInFor_1 ?_
  refine lv_iload_n C.1 C.2.1 dX1_standsInFor_4 rfl (lv_at hl 1 rfl) ?_
  refine lv_bipush (v := nI 6) C.1 C.2.1 dX1_standsInFor_5 (by decide +kernel) ?_
  refine gw_imul C dX1_standsInFor_7 ?_
  refine lv_iload_n C.1 C.2.1 dX1_standsInFor_8 rfl (lv_at hl 2 rfl) ?_
  refine gw_iadd C dX1_standsInFor_9 ?_
  refine gw_zld C Hh 6 pw_at6 (by decide) dX1_standsInFor_10 (by omega) ?_
  exact gw_zret (w := pw G q) (u := u) C Hh dX1_standsInFor_11 (by exact hok.2.1 _ (by omega)) ⟨_, rfl, by refine ⟨?_, rfl⟩; first | rfl | omega | (split <;> omega)⟩
set_option maxHeartbeats 4000000 in
set_option maxRecDepth 100000 in
theorem c_X1_letStandIn (l : Launch) (G : gw_G) (q : Nat → Nat) (u : pf_S) (o : Nat) (g : Nat) (b : Nat) (ho : o < 6) (hg : g < 6) (hb : b ≤ 1) : gw_MV l yX1_letStandIn cX1_letStandIn 4 none 0 0 [.ref (q 1), .int (nI (o)), .int (nI (g)), .int (nI (b))] G (pw G q) u (fun u1 => u1 = (u.1, up2 u.2 6 (o * 6 + g) b)) := by
  refine gw_entryV (own := RX1) (by decide) rfl (Nat.le_of_ble_eq_true rfl) ?_
  intro p e s m args below meth c A ls C Hh hl
  have hl : lv_has ls 4 [(0, .ref (q 1)), (1, .int (nI (o))), (2, .int (nI (g))), (3, .int (nI (b)))] := hl
  refine lv_aload_n C.1 C.2.1 dX1_letStandIn_0 rfl (lv_at hl 0 rfl) ?_
  refine gw_get (Cn := RX1) (T := TX1) (N := 5) C Hh 1 pw_at1 rfl uwX1 1 (by decide) rfl tw_99 rfl dX1_letStandIn_1 ?_
  refine lv_iload_n C.1 C.2.1 dX1_letStandIn_4 rfl (lv_at hl 1 rfl) ?_
  refine lv_bipush (v := nI 6) C.1 C.2.1 dX1_letStandIn_5 (by decide +kernel) ?_
  refine gw_imul C dX1_letStandIn_7 ?_
  refine lv_iload_n C.1 C.2.1 dX1_letStandIn_8 rfl (lv_at hl 2 rfl) ?_
  refine gw_iadd C dX1_letStandIn_9 ?_
  refine lv_iload_n C.1 C.2.1 dX1_letStandIn_10 rfl (lv_at hl 3 rfl) ?_
  refine gw_zst C Hh 6 pw_at6 (by decide) pw_set6 dX1_letStandIn_11 (by omega) (by omega) (fun H locs Hh => ?_)
  have Hh : gw_H G A s (pw G q (u.1, up2 u.2 6 ((o * 6) + g) (b))) H locs := Hh
  exact gw_vret (w := pw G q) (u := (u.1, up2 u.2 6 ((o * 6) + g) (b))) C Hh dX1_letStandIn_12 (by rfl)
set_option maxHeartbeats 4000000 in
set_option maxRecDepth 100000 in
theorem c_X1_meets (l : Launch) (G : gw_G) (q : Nat → Nat) (u : pf_S) (o : Nat) (g : Nat) (hok : gd_ok u) (ho : o < 6) (hg : g < 6) : gw_MI l yX1_meets cX1_meets 3 (some .boolean) 1 22 [.ref (q 1), .int (nI (o)), .int (nI (g))] G (pw G q) u (fun r u1 => ∃ k : Nat, r = nI k ∧ (k = (if o = g then 1 else u.2 6 (o * 6 + g)) ∧ u1 = u)) := by
  refine gw_entryI (own := RX1) (by decide) rfl (Nat.le_of_ble_eq_true rfl) ?_
  intro p e s m args below meth c A ls C Hh hl
  have hl : lv_has ls 3 [(0, .ref (q 1)), (1, .int (nI (o))), (2, .int (nI (g)))] := hl
  refine lv_iload_n C.1 C.2.1 dX1_meets_0 rfl (lv_at hl 1 rfl) ?_
  refine lv_iload_n C.1 C.2.1 dX1_meets_1 rfl (lv_at hl 2 rfl) ?_
  refine gw_icmp_eq (tgt := 14) C dX1_meets_2 (by decide) (by omega) (by omega) (fun hc_2 => ?_) (fun hc_2 => ?_)
  · skip
    refine lv_iconst (v := nI 1) C.1 C.2.1 dX1_meets_14 (by decide +kernel) ?_
    refine lv_goto (tgt := 19) C.1 C.2.1 dX1_meets_15 (by decide) ?_
    exact gw_zret (w := pw G q) (u := u) C Hh dX1_meets_19 (by omega) ⟨_, rfl, by refine ⟨?_, rfl⟩; first | rfl | omega | (split <;> omega)⟩
  · skip
    refine lv_aload_n C.1 C.2.1 dX1_meets_5 rfl (lv_at hl 0 rfl) ?_
    refine lv_iload_n C.1 C.2.1 dX1_meets_6 rfl (lv_at hl 1 rfl) ?_
    refine lv_iload_n C.1 C.2.1 dX1_meets_7 rfl (lv_at hl 2 rfl) ?_
    refine gw_fromI (w := pw G q) (u := u) C Hh (gw_runV (n := 2) (C1 := RX1) [.int (nI (o)), .int (nI (g))] C Hh (c_X1_standsInFor l G q (u) (o) (g) (by first | assumption | omega) (by first | assumption | omega) (by first | assumption | omega) _) tw_441 tw_443 tw_20 tw_67 tw_444 (by decide +kernel) ⟨Nat.le_of_ble_eq_true rfl, Nat.le_of_ble_eq_true rfl⟩ 1 pw_at1 rfl rfl hl.1 (Nat.le_of_ble_eq_true rfl) dX1_meets_8 ⟨Nat.zero_le _, Nat.zero_le _⟩) (fun rc_8 uc_8 H locs hp_8 Hh => ?_)
    obtain ⟨kc_8, rfl, hp_8⟩ := hp_8
    obtain ⟨hk_8, hu_8⟩ := hp_8
    rw [hu_8] at Hh
    clear hu_8
    have h6 := hok.2.1 (o * 6 + g) (by omega)
    refine gw_if_eq (tgt := 18) C dX1_meets_11 (by decide) (by omega) (fun hc_11 => ?_) (fun hc_11 => ?_)
    · skip
      refine lv_iconst (v := nI 0) C.1 C.2.1 dX1_meets_18 (by decide +kernel) ?_
      exact gw_zret (w := pw G q) (u := u) C Hh dX1_meets_19 (by omega) ⟨_, rfl, by refine ⟨?_, rfl⟩; first | rfl | omega | (split <;> omega)⟩
    · skip
      refine lv_iconst (v := nI 1) C.1 C.2.1 dX1_meets_14 (by decide +kernel) ?_
      refine lv_goto (tgt := 19) C.1 C.2.1 dX1_meets_15 (by decide) ?_
      exact gw_zret (w := pw G q) (u := u) C Hh dX1_meets_19 (by omega) ⟨_, rfl, by refine ⟨?_, rfl⟩; first | rfl | omega | (split <;> omega)⟩
set_option maxHeartbeats 4000000 in
set_option maxRecDepth 100000 in
theorem c_X1_isInStandIn (l : Launch) (G : gw_G) (q : Nat → Nat) (u : pf_S) (g : Nat) (hok : gd_ok u) (hg : g < 6) : gw_MI l yX1_isInStandIn cX1_isInStandIn 3 (some .boolean) 1 22 [.ref (q 1), .int (nI (g))] G (pw G q) u (fun r u1 => ∃ k : Nat, r = nI k ∧ (((k = 1 ∧ ∃ o, o < 6 ∧ (0 < u.2 6 (g * 6 + o) ∨ 0 < u.2 6 (o * 6 + g))) ∨ (k = 0 ∧ ∀ o, o < 6 → u.2 6 (g * 6 + o) = 0 ∧ u.2 6 (o * 6 + g) = 0)) ∧ u1 = u)) := by
  refine gw_entryI (own := RX1) (by decide) rfl (Nat.le_of_ble_eq_true rfl) ?_
  intro p e s m args below meth c A ls C Hh hl
  have hl : lv_has ls 3 [(0, .ref (q 1)), (1, .int (nI (g)))] := hl
  refine lv_iconst (v := nI 0) C.1 C.2.1 dX1_isInStandIn_0 (by decide +kernel) ?_
  refine lv_istore_n (lv' := [(2, .int (nI (0))), (0, .ref (q 1)), (1, .int (nI (g)))]) C.1 C.2.1 dX1_isInStandIn_1 rfl hl (by decide) rfl (fun ls hl => ?_)
  have loop_2 : ∀ (fu : Nat) (i : Nat) (H : Heap) (locs : List Loc) (ls : Array Slot), (i ≤ 6) → (∀ o, o < i → u.2 6 (g * 6 + o) = 0 ∧ u.2 6 (o * 6 + g) = 0) → 6 - i < fu → gw_H G A s (pw G q u) H locs → lv_has ls 3 [(0, .ref (q 1)), (1, .int (nI (g))), (2, .int (nI (i)))] → W p l e (gw_rm 1 22) s m args below meth c H locs 0 0 (MQ below (va_Qi (fun r u1 => ∃ k : Nat, r = nI k ∧ (((k = 1 ∧ ∃ o, o < 6 ∧ (0 < u.2 6 (g * 6 + o) ∨ 0 < u.2 6 (o * 6 + g))) ∨ (k = 0 ∧ ∀ o, o < 6 → u.2 6 (g * 6 + o) = 0 ∧ u.2 6 (o * 6 + g) = 0)) ∧ u1 = u)) (gw_at G A (pw G q)) A) args s 0 0 A) (F0 m 2 ls []) := by
    intro fu
    induction fu with
    | zero =>
      intro i  H locs ls hi hno hmf
      exact absurd hmf (Nat.not_lt_zero _)
    | succ fu ih_2 =>
      intro i  H locs ls hi hno hmf Hh hl
      refine lv_iload_n C.1 C.2.1 dX1_isInStandIn_2 rfl (lv_at hl 2 rfl) ?_
      refine lv_bipush (v := nI 6) C.1 C.2.1 dX1_isInStandIn_3 (by decide +kernel) ?_
      refine gw_icmp_ge (tgt := 34) C dX1_isInStandIn_5 (by decide) (by omega) (by omega) (fun hc_5 => ?_) (fun hc_5 => ?_)
      · skip
        refine lv_iconst (v := nI 0) C.1 C.2.1 dX1_isInStandIn_34 (by decide +kernel) ?_
        exact gw_zret (w := pw G q) (u := u) C Hh dX1_isInStandIn_35 (by omega) ⟨_, rfl, by exact ⟨Or.inr ⟨rfl, fun o h => hno o (by omega)⟩, rfl⟩⟩
      · skip
        refine lv_aload_n C.1 C.2.1 dX1_isInStandIn_8 rfl (lv_at hl 0 rfl) ?_
        refine lv_iload_n C.1 C.2.1 dX1_isInStandIn_9 rfl (lv_at hl 1 rfl) ?_
        refine lv_iload_n C.1 C.2.1 dX1_isInStandIn_10 rfl (lv_at hl 2 rfl) ?_
        refine gw_fromI (w := pw G q) (u := u) C Hh (gw_runV (n := 2) (C1 := RX1) [.int (nI (g)), .int (nI (i))] C Hh (c_X1_standsInFor l G q (u) (g) (i) (by first | assumption | omega) (by first | assumption | omega) (by first | assumption | omega) _) tw_441 tw_443 tw_20 tw_67 tw_444 (by decide +kernel) ⟨Nat.le_of_ble_eq_true rfl, Nat.le_of_ble_eq_true rfl⟩ 1 pw_at1 rfl rfl hl.1 (Nat.le_of_ble_eq_true rfl) dX1_isInStandIn_11 ⟨Nat.zero_le _, Nat.zero_le _⟩) (fun rc_11 uc_11 H locs hp_11 Hh => ?_)
        obtain ⟨kc_11, rfl, hp_11⟩ := hp_11
        obtain ⟨hk_11, hu_11⟩ := hp_11
        rw [hu_11] at Hh
        clear hu_11
        have h6 := hok.2.1 (g * 6 + i) (by omega)
        refine gw_if_ne (tgt := 26) C dX1_isInStandIn_14 (by decide) (by omega) (fun hc_14 => ?_) (fun hc_14 => ?_)
        · skip
          refine lv_iconst (v := nI 1) C.1 C.2.1 dX1_isInStandIn_26 (by decide +kernel) ?_
          exact gw_zret (w := pw G q) (u := u) C Hh dX1_isInStandIn_27 (by omega) ⟨_, rfl, by exact ⟨Or.inl ⟨rfl, i, by omega, by omega⟩, rfl⟩⟩
        · skip
          refine lv_aload_n C.1 C.2.1 dX1_isInStandIn_17 rfl (lv_at hl 0 rfl) ?_
          refine lv_iload_n C.1 C.2.1 dX1_isInStandIn_18 rfl (lv_at hl 2 rfl) ?_
          refine lv_iload_n C.1 C.2.1 dX1_isInStandIn_19 rfl (lv_at hl 1 rfl) ?_
          refine gw_fromI (w := pw G q) (u := u) C Hh (gw_runV (n := 2) (C1 := RX1) [.int (nI (i)), .int (nI (g))] C Hh (c_X1_standsInFor l G q (u) (i) (g) (by first | assumption | omega) (by first | assumption | omega) (by first | assumption | omega) _) tw_441 tw_443 tw_20 tw_67 tw_444 (by decide +kernel) ⟨Nat.le_of_ble_eq_true rfl, Nat.le_of_ble_eq_true rfl⟩ 1 pw_at1 rfl rfl hl.1 (Nat.le_of_ble_eq_true rfl) dX1_isInStandIn_20 ⟨Nat.zero_le _, Nat.zero_le _⟩) (fun rc_20 uc_20 H locs hp_20 Hh => ?_)
          obtain ⟨kc_20, rfl, hp_20⟩ := hp_20
          obtain ⟨hk_20, hu_20⟩ := hp_20
          rw [hu_20] at Hh
          clear hu_20
          have h6b := hok.2.1 (i * 6 + g) (by omega)
          refine gw_if_eq (tgt := 28) C dX1_isInStandIn_23 (by decide) (by omega) (fun hc_23 => ?_) (fun hc_23 => ?_)
          · skip
            refine lv_iinc (v := nI (i + 1)) (lv' := [(2, .int (nI (i + 1))), (0, .ref (q 1)), (1, .int (nI (g)))]) C.1 C.2.1 dX1_isInStandIn_28 hl (k := 2) rfl (nI_add _ 1) (by decide) rfl (fun ls hl => ?_)
            refine lv_goto (tgt := 2) C.1 C.2.1 dX1_isInStandIn_31 (by decide) ?_
            exact ih_2 (i + 1)  _ _ _ (by first | assumption | omega) (by intro o h; by_cases h1 : o = i; (subst h1; omega); exact hno o (by omega)) (by omega) Hh (lv_sub hl [1, 2, 0] rfl)
          · skip
            refine lv_iconst (v := nI 1) C.1 C.2.1 dX1_isInStandIn_26 (by decide +kernel) ?_
            exact gw_zret (w := pw G q) (u := u) C Hh dX1_isInStandIn_27 (by omega) ⟨_, rfl, by exact ⟨Or.inl ⟨rfl, i, by omega, by omega⟩, rfl⟩⟩
  exact loop_2 _ (0)  _ _ _ (by first | assumption | omega) (by intro o h; omega) (Nat.lt_succ_self _) Hh (lv_sub hl [1, 2, 0] rfl)
set_option maxHeartbeats 4000000 in
set_option maxRecDepth 100000 in
theorem c_X1_isKit (l : Launch) (G : gw_G) (q : Nat → Nat) (u : pf_S) (g : Nat) (hok : gd_ok u) (hg : g < 6) : gw_MI l yX1_isKit cX1_isKit 2 (some .boolean) 0 0 [.ref (q 1), .int (nI (g))] G (pw G q) u (fun r u1 => ∃ k : Nat, r = nI k ∧ (k = (if 0 < u.2 7 g then 1 else 0) ∧ u1 = u)) := by
  refine gw_entryI (own := RX1) (by decide) rfl (Nat.le_of_ble_eq_true rfl) ?_
  intro p e s m args below meth c A ls C Hh hl
  have hl : lv_has ls 2 [(0, .ref (q 1)), (1, .int (nI (g)))] := hl
  have h7 := hok.1 g hg
  refine lv_aload_n C.1 C.2.1 dX1_isKit_0 rfl (lv_at hl 0 rfl) ?_
  refine gw_get (Cn := RX1) (T := TX1) (N := 5) C Hh 1 pw_at1 rfl uwX1 2 (by decide) rfl tw_100 rfl dX1_isKit_1 ?_
  refine lv_iload_n C.1 C.2.1 dX1_isKit_4 rfl (lv_at hl 1 rfl) ?_
  refine gw_ld C Hh 7 pw_at7 (by decide) dX1_isKit_5 (by omega) ?_
  refine gw_if_le (tgt := 13) C dX1_isKit_6 (by decide) (by omega) (fun hc_6 => ?_) (fun hc_6 => ?_)
  · skip
    refine lv_iconst (v := nI 0) C.1 C.2.1 dX1_isKit_13 (by decide +kernel) ?_
    exact gw_zret (w := pw G q) (u := u) C Hh dX1_isKit_14 (by omega) ⟨_, rfl, by refine ⟨?_, rfl⟩; first | rfl | omega | (split <;> omega)⟩
  · skip
    refine lv_iconst (v := nI 1) C.1 C.2.1 dX1_isKit_9 (by decide +kernel) ?_
    refine lv_goto (tgt := 14) C.1 C.2.1 dX1_isKit_10 (by decide) ?_
    exact gw_zret (w := pw G q) (u := u) C Hh dX1_isKit_14 (by omega) ⟨_, rfl, by refine ⟨?_, rfl⟩; first | rfl | omega | (split <;> omega)⟩
set_option maxHeartbeats 4000000 in
set_option maxRecDepth 100000 in
theorem c_X1_hasPart (l : Launch) (G : gw_G) (q : Nat → Nat) (u : pf_S) (g : Nat) (x : Nat) (hok : gd_ok u) (hg : g < 6) (hx : x < 6) : gw_MI l yX1_hasPart cX1_hasPart 4 (some .boolean) 0 0 [.ref (q 1), .int (nI (g)), .int (nI (x))] G (pw G q) u (fun r u1 => ∃ k : Nat, r = nI k ∧ (((k = 1 ∧ ∃ j, j < u.2 7 g ∧ u.2 8 (g * 3 + j) = x) ∨ (k = 0 ∧ ∀ j, j < u.2 7 g → u.2 8 (g * 3 + j) ≠ x)) ∧ u1 = u)) := by
  refine gw_entryI (own := RX1) (by decide) rfl (Nat.le_of_ble_eq_true rfl) ?_
  intro p e s m args below meth c A ls C Hh hl
  have hl : lv_has ls 4 [(0, .ref (q 1)), (1, .int (nI (g))), (2, .int (nI (x)))] := hl
  have h7 := hok.1 g hg
  refine lv_iconst (v := nI 0) C.1 C.2.1 dX1_hasPart_0 (by decide +kernel) ?_
  refine lv_istore_n (lv' := [(3, .int (nI (0))), (0, .ref (q 1)), (1, .int (nI (g))), (2, .int (nI (x)))]) C.1 C.2.1 dX1_hasPart_1 rfl hl (by decide) rfl (fun ls hl => ?_)
  have loop_2 : ∀ (fu : Nat) (i : Nat) (H : Heap) (locs : List Loc) (ls : Array Slot), (i ≤ u.2 7 g) → (∀ j, j < i → u.2 8 (g * 3 + j) ≠ x) → u.2 7 g - i < fu → gw_H G A s (pw G q u) H locs → lv_has ls 4 [(0, .ref (q 1)), (1, .int (nI (g))), (2, .int (nI (x))), (3, .int (nI (i)))] → W p l e (gw_rm 0 0) s m args below meth c H locs 0 0 (MQ below (va_Qi (fun r u1 => ∃ k : Nat, r = nI k ∧ (((k = 1 ∧ ∃ j, j < u.2 7 g ∧ u.2 8 (g * 3 + j) = x) ∨ (k = 0 ∧ ∀ j, j < u.2 7 g → u.2 8 (g * 3 + j) ≠ x)) ∧ u1 = u)) (gw_at G A (pw G q)) A) args s 0 0 A) (F0 m 2 ls []) := by
    intro fu
    induction fu with
    | zero =>
      intro i  H locs ls hi hno hmf
      exact absurd hmf (Nat.not_lt_zero _)
    | succ fu ih_2 =>
      intro i  H locs ls hi hno hmf Hh hl
      refine lv_iload_n C.1 C.2.1 dX1_hasPart_2 rfl (lv_at hl 3 rfl) ?_
      refine lv_aload_n C.1 C.2.1 dX1_hasPart_3 rfl (lv_at hl 0 rfl) ?_
      refine gw_get (Cn := RX1) (T := TX1) (N := 5) C Hh 1 pw_at1 rfl uwX1 2 (by decide) rfl tw_100 rfl dX1_hasPart_4 ?_
      refine lv_iload_n C.1 C.2.1 dX1_hasPart_7 rfl (lv_at hl 1 rfl) ?_
      refine gw_ld C Hh 7 pw_at7 (by decide) dX1_hasPart_8 (by omega) ?_
      refine gw_icmp_ge (tgt := 34) C dX1_hasPart_9 (by decide) (by omega) (by omega) (fun hc_9 => ?_) (fun hc_9 => ?_)
      · skip
        refine lv_iconst (v := nI 0) C.1 C.2.1 dX1_hasPart_34 (by decide +kernel) ?_
        exact gw_zret (w := pw G q) (u := u) C Hh dX1_hasPart_35 (by omega) ⟨_, rfl, by exact ⟨Or.inr ⟨rfl, fun j h => hno j (by omega)⟩, rfl⟩⟩
      · skip
        refine lv_aload_n C.1 C.2.1 dX1_hasPart_12 rfl (lv_at hl 0 rfl) ?_
        refine gw_get (Cn := RX1) (T := TX1) (N := 5) C Hh 1 pw_at1 rfl uwX1 3 (by decide) rfl tw_102 rfl dX1_hasPart_13 ?_
        refine lv_iload_n C.1 C.2.1 dX1_hasPart_16 rfl (lv_at hl 1 rfl) ?_
        refine lv_iconst (v := nI 3) C.1 C.2.1 dX1_hasPart_17 (by decide +kernel) ?_
        refine gw_imul C dX1_hasPart_18 ?_
        refine lv_iload_n C.1 C.2.1 dX1_hasPart_19 rfl (lv_at hl 3 rfl) ?_
        refine gw_iadd C dX1_hasPart_20 ?_
        refine gw_ld C Hh 8 pw_at8 (by decide) dX1_hasPart_21 (by omega) ?_
        have h8 := hok.2.2.1 (g * 3 + i) (by omega)
        refine lv_iload_n C.1 C.2.1 dX1_hasPart_22 rfl (lv_at hl 2 rfl) ?_
        refine gw_icmp_ne (tgt := 28) C dX1_hasPart_23 (by decide) (by omega) (by omega) (fun hc_23 => ?_) (fun hc_23 => ?_)
        · skip
          refine lv_iinc (v := nI (i + 1)) (lv' := [(3, .int (nI (i + 1))), (0, .ref (q 1)), (1, .int (nI (g))), (2, .int (nI (x)))]) C.1 C.2.1 dX1_hasPart_28 hl (k := 3) rfl (nI_add _ 1) (by decide) rfl (fun ls hl => ?_)
          refine lv_goto (tgt := 2) C.1 C.2.1 dX1_hasPart_31 (by decide) ?_
          exact ih_2 (i + 1)  _ _ _ (by first | assumption | omega) (by intro o h; by_cases h1 : o = i; (subst h1; omega); exact hno o (by omega)) (by omega) Hh (lv_sub hl [1, 2, 3, 0] rfl)
        · skip
          refine lv_iconst (v := nI 1) C.1 C.2.1 dX1_hasPart_26 (by decide +kernel) ?_
          exact gw_zret (w := pw G q) (u := u) C Hh dX1_hasPart_27 (by omega) ⟨_, rfl, by exact ⟨Or.inl ⟨rfl, i, by omega, by omega⟩, rfl⟩⟩
  exact loop_2 _ (0)  _ _ _ (by first | assumption | omega) (by intro o h; omega) (Nat.lt_succ_self _) Hh (lv_sub hl [1, 2, 3, 0] rfl)
set_option maxHeartbeats 4000000 in
set_option maxRecDepth 100000 in
theorem c_X1_isPart (l : Launch) (G : gw_G) (q : Nat → Nat) (u : pf_S) (x : Nat) (hok : gd_ok u) (hx : x < 6) : gw_MI l yX1_isPart cX1_isPart 3 (some .boolean) 1 23 [.ref (q 1), .int (nI (x))] G (pw G q) u (fun r u1 => ∃ k : Nat, r = nI k ∧ (((k = 1 ∧ ∃ g, g < 6 ∧ ∃ j, j < u.2 7 g ∧ u.2 8 (g * 3 + j) = x) ∨ (k = 0 ∧ ∀ g, g < 6 → ∀ j, j < u.2 7 g → u.2 8 (g * 3 + j) ≠ x)) ∧ u1 = u)) := by
  refine gw_entryI (own := RX1) (by decide) rfl (Nat.le_of_ble_eq_true rfl) ?_
  intro p e s m args below meth c A ls C Hh hl
  have hl : lv_has ls 3 [(0, .ref (q 1)), (1, .int (nI (x)))] := hl
  refine lv_iconst (v := nI 0) C.1 C.2.1 dX1_isPart_0 (by decide +kernel) ?_
  refine lv_istore_n (lv' := [(2, .int (nI (0))), (0, .ref (q 1)), (1, .int (nI (x)))]) C.1 C.2.1 dX1_isPart_1 rfl hl (by decide) rfl (fun ls hl => ?_)
  have loop_2 : ∀ (fu : Nat) (i : Nat) (H : Heap) (locs : List Loc) (ls : Array Slot), (i ≤ 6) → (∀ g, g < i → ∀ j, j < u.2 7 g → u.2 8 (g * 3 + j) ≠ x) → 6 - i < fu → gw_H G A s (pw G q u) H locs → lv_has ls 3 [(0, .ref (q 1)), (1, .int (nI (x))), (2, .int (nI (i)))] → W p l e (gw_rm 1 23) s m args below meth c H locs 0 0 (MQ below (va_Qi (fun r u1 => ∃ k : Nat, r = nI k ∧ (((k = 1 ∧ ∃ g, g < 6 ∧ ∃ j, j < u.2 7 g ∧ u.2 8 (g * 3 + j) = x) ∨ (k = 0 ∧ ∀ g, g < 6 → ∀ j, j < u.2 7 g → u.2 8 (g * 3 + j) ≠ x)) ∧ u1 = u)) (gw_at G A (pw G q)) A) args s 0 0 A) (F0 m 2 ls []) := by
    intro fu
    induction fu with
    | zero =>
      intro i  H locs ls hi hno hmf
      exact absurd hmf (Nat.not_lt_zero _)
    | succ fu ih_2 =>
      intro i  H locs ls hi hno hmf Hh hl
      refine lv_iload_n C.1 C.2.1 dX1_isPart_2 rfl (lv_at hl 2 rfl) ?_
      refine lv_bipush (v := nI 6) C.1 C.2.1 dX1_isPart_3 (by decide +kernel) ?_
      refine gw_icmp_ge (tgt := 25) C dX1_isPart_5 (by decide) (by omega) (by omega) (fun hc_5 => ?_) (fun hc_5 => ?_)
      · skip
        refine lv_iconst (v := nI 0) C.1 C.2.1 dX1_isPart_25 (by decide +kernel) ?_
        exact gw_zret (w := pw G q) (u := u) C Hh dX1_isPart_26 (by omega) ⟨_, rfl, by exact ⟨Or.inr ⟨rfl, fun j h => hno j (by omega)⟩, rfl⟩⟩
      · skip
        refine lv_aload_n C.1 C.2.1 dX1_isPart_8 rfl (lv_at hl 0 rfl) ?_
        refine lv_iload_n C.1 C.2.1 dX1_isPart_9 rfl (lv_at hl 2 rfl) ?_
        refine lv_iload_n C.1 C.2.1 dX1_isPart_10 rfl (lv_at hl 1 rfl) ?_
        refine gw_fromI (w := pw G q) (u := u) C Hh (gw_runV (n := 2) (C1 := RX1) [.int (nI (i)), .int (nI (x))] C Hh (c_X1_hasPart l G q (u) (i) (x) (by first | assumption | omega) (by first | assumption | omega) (by first | assumption | omega) _) tw_567 tw_560 tw_32 tw_67 tw_561 (by decide +kernel) ⟨Nat.le_of_ble_eq_true rfl, Nat.le_of_ble_eq_true rfl⟩ 1 pw_at1 rfl rfl hl.1 (Nat.le_of_ble_eq_true rfl) dX1_isPart_11 ⟨Nat.zero_le _, Nat.zero_le _⟩) (fun rc_11 uc_11 H locs hp_11 Hh => ?_)
        obtain ⟨kc_11, rfl, hp_11⟩ := hp_11
        obtain ⟨hk_11, hu_11⟩ := hp_11
        rw [hu_11] at Hh
        clear hu_11
        refine gw_if_eq (tgt := 19) C dX1_isPart_14 (by decide) (by omega) (fun hc_14 => ?_) (fun hc_14 => ?_)
        · skip
          refine lv_iinc (v := nI (i + 1)) (lv' := [(2, .int (nI (i + 1))), (0, .ref (q 1)), (1, .int (nI (x)))]) C.1 C.2.1 dX1_isPart_19 hl (k := 2) rfl (nI_add _ 1) (by decide) rfl (fun ls hl => ?_)
          refine lv_goto (tgt := 2) C.1 C.2.1 dX1_isPart_22 (by decide) ?_
          exact ih_2 (i + 1)  _ _ _ (by first | assumption | omega) (by intro o h; by_cases h1 : o = i; (subst h1; rcases hk_11 with ⟨h2, h3⟩ | ⟨h2, h3⟩; (omega); exact h3); exact hno o (by omega)) (by omega) Hh (lv_sub hl [1, 2, 0] rfl)
        · skip
          refine lv_iconst (v := nI 1) C.1 C.2.1 dX1_isPart_17 (by decide +kernel) ?_
          exact gw_zret (w := pw G q) (u := u) C Hh dX1_isPart_18 (by omega) ⟨_, rfl, by exact ⟨Or.inl ⟨rfl, i, by omega, by rcases hk_11 with ⟨h2, h3⟩ | ⟨h2, h3⟩; (exact h3); omega⟩, rfl⟩⟩
  exact loop_2 _ (0)  _ _ _ (by first | assumption | omega) (by intro o h; omega) (Nat.lt_succ_self _) Hh (lv_sub hl [1, 2, 0] rfl)
set_option maxHeartbeats 4000000 in
set_option maxRecDepth 100000 in
theorem c_X1_addPart (l : Launch) (G : gw_G) (q : Nat → Nat) (u : pf_S) (g : Nat) (x : Nat) (n : Nat) (hok : gd_ok u) (hg : g < 6) (hx : x < 6) (hl3 : u.2 7 g < 3) : gw_MI l yX1_addPart cX1_addPart 5 (some .int) 0 0 [.ref (q 1), .int (nI (g)), .int (nI (x)), .int (nI (n))] G (pw G q) u (fun r u1 => ∃ k : Nat, r = nI k ∧ (k = u.2 7 g + 1 ∧ u1 = (u.1, up2 (up2 (up2 u.2 8 (g * 3 + u.2 7 g) x) 9 (g * 3 + u.2 7 g) n) 7 g (u.2 7 g + 1)))) := by
  refine gw_entryI (own := RX1) (by decide) rfl (Nat.le_of_ble_eq_true rfl) ?_
  intro p e s m args below meth c A ls C Hh hl
  have hl : lv_has ls 5 [(0, .ref (q 1)), (1, .int (nI (g))), (2, .int (nI (x))), (3, .int (nI (n)))] := hl
  refine lv_iload_n C.1 C.2.1 dX1_addPart_0 rfl (lv_at hl 1 rfl) ?_
  refine lv_iconst (v := nI 3) C.1 C.2.1 dX1_addPart_1 (by decide +kernel) ?_
  refine gw_imul C dX1_addPart_2 ?_
  refine lv_aload_n C.1 C.2.1 dX1_addPart_3 rfl (lv_at hl 0 rfl) ?_
  refine gw_get (Cn := RX1) (T := TX1) (N := 5) C Hh 1 pw_at1 rfl uwX1 2 (by decide) rfl tw_100 rfl dX1_addPart_4 ?_
  refine lv_iload_n C.1 C.2.1 dX1_addPart_7 rfl (lv_at hl 1 rfl) ?_
  refine gw_ld C Hh 7 pw_at7 (by decide) dX1_addPart_8 (by omega) ?_
  refine gw_iadd C dX1_addPart_9 ?_
  refine lv_istore (lv' := [(4, .int (nI ((g * 3) + (u.2 7 (g))))), (0, .ref (q 1)), (1, .int (nI (g))), (2, .int (nI (x))), (3, .int (nI (n)))]) C.1 C.2.1 dX1_addPart_10 hl (by decide) rfl (fun ls hl => ?_)
  refine lv_aload_n C.1 C.2.1 dX1_addPart_12 rfl (lv_at hl 1 rfl) ?_
  refine gw_get (Cn := RX1) (T := TX1) (N := 5) C Hh 1 pw_at1 rfl uwX1 3 (by decide) rfl tw_102 rfl dX1_addPart_13 ?_
  refine lv_iload C.1 C.2.1 dX1_addPart_16 (lv_at hl 0 rfl) ?_
  refine lv_iload_n C.1 C.2.1 dX1_addPart_18 rfl (lv_at hl 3 rfl) ?_
  refine gw_st C Hh 8 pw_at8 (by decide) pw_set8 dX1_addPart_19 (by omega) (fun H locs Hh => ?_)
  have Hh : gw_H G A s (pw G q (u.1, up2 u.2 8 ((g * 3) + (u.2 7 (g))) (x))) H locs := Hh
  refine lv_aload_n C.1 C.2.1 dX1_addPart_20 rfl (lv_at hl 1 rfl) ?_
  refine gw_get (Cn := RX1) (T := TX1) (N := 5) C Hh 1 pw_at1 rfl uwX1 4 (by decide) rfl tw_103 rfl dX1_addPart_21 ?_
  refine lv_iload C.1 C.2.1 dX1_addPart_24 (lv_at hl 0 rfl) ?_
  refine lv_iload_n C.1 C.2.1 dX1_addPart_26 rfl (lv_at hl 4 rfl) ?_
  refine gw_st C Hh 9 pw_at9 (by decide) pw_set9 dX1_addPart_27 (by omega) (fun H locs Hh => ?_)
  have Hh : gw_H G A s (pw G q (u.1, up2 (up2 u.2 8 ((g * 3) + (u.2 7 (g))) (x)) 9 ((g * 3) + (u.2 7 (g))) (n))) H locs := Hh
  refine lv_aload_n C.1 C.2.1 dX1_addPart_28 rfl (lv_at hl 1 rfl) ?_
  refine gw_get (Cn := RX1) (T := TX1) (N := 5) C Hh 1 pw_at1 rfl uwX1 2 (by decide) rfl tw_100 rfl dX1_addPart_29 ?_
  refine lv_iload_n C.1 C.2.1 dX1_addPart_32 rfl (lv_at hl 2 rfl) ?_
  refine lv_dup2_11 C.1 C.2.1 dX1_addPart_33 rfl rfl ?_
  refine gw_ld C Hh 7 pw_at7 (by decide) dX1_addPart_34 (by omega) ?_
  refine W.eq (g2 := F0 m 35 ls [.int (nI (u.2 7 (g))), .int (nI (g)), .ref (q 7)]) rfl ?_
  refine lv_iconst (v := nI 1) C.1 C.2.1 dX1_addPart_35 (by decide +kernel) ?_
  refine gw_iadd C dX1_addPart_36 ?_
  refine gw_st C Hh 7 pw_at7 (by decide) pw_set7 dX1_addPart_37 (by omega) (fun H locs Hh => ?_)
  have Hh : gw_H G A s (pw G q (u.1, up2 (up2 (up2 u.2 8 ((g * 3) + (u.2 7 (g))) (x)) 9 ((g * 3) + (u.2 7 (g))) (n)) 7 (g) ((u.2 7 (g)) + 1))) H locs := Hh
  refine lv_aload_n C.1 C.2.1 dX1_addPart_38 rfl (lv_at hl 1 rfl) ?_
  refine gw_get (Cn := RX1) (T := TX1) (N := 5) C Hh 1 pw_at1 rfl uwX1 2 (by decide) rfl tw_100 rfl dX1_addPart_39 ?_
  refine lv_iload_n C.1 C.2.1 dX1_addPart_42 rfl (lv_at hl 2 rfl) ?_
  refine gw_ld C Hh 7 pw_at7 (by decide) dX1_addPart_43 (by omega) ?_
  refine W.eq (g2 := F0 m 44 ls [.int (nI ((up2 u.2 7 (g) ((u.2 7 (g)) + 1)) 7 (g)))]) rfl ?_
  exact gw_iret (w := pw G q) (u := (u.1, up2 (up2 (up2 u.2 8 ((g * 3) + (u.2 7 (g))) (x)) 9 ((g * 3) + (u.2 7 (g))) (n)) 7 (g) ((u.2 7 (g)) + 1))) C Hh dX1_addPart_44 ⟨_, rfl, by exact ⟨by simp [up2], rfl⟩⟩
set_option maxHeartbeats 4000000 in
set_option maxRecDepth 100000 in
theorem c_X1_demandsOf (l : Launch) (G : gw_G) (q : Nat → Nat) (u : pf_S) (g : Nat) (hok : gd_ok u) (hg : g < 6) : gw_MI l yX1_demandsOf cX1_demandsOf 2 (some .int) 1 21 [.ref (q 1), .int (nI (g))] G (pw G q) u (fun r u1 => ∃ k : Nat, r = nI k ∧ (k = gd_dn u g ∧ u1 = u)) := by
  refine gw_entryI (own := RX1) (by decide) rfl (Nat.le_of_ble_eq_true rfl) ?_
  intro p e s m args below meth c A ls C Hh hl
  have hl : lv_has ls 2 [(0, .ref (q 1)), (1, .int (nI (g)))] := hl
  refine lv_aload_n C.1 C.2.1 dX1_demandsOf_0 rfl (lv_at hl 0 rfl) ?_
  refine lv_iload_n C.1 C.2.1 dX1_demandsOf_1 rfl (lv_at hl 1 rfl) ?_
  refine gw_fromI (w := pw G q) (u := u) C Hh (gw_runV (n := 1) (C1 := RX1) [.int (nI (g))] C Hh (c_X1_isKit l G q (u) (g) (by first | assumption | omega) (by first | assumption | omega) _) tw_259 tw_261 tw_6 tw_67 tw_262 (by decide +kernel) ⟨Nat.le_of_ble_eq_true rfl, Nat.le_of_ble_eq_true rfl⟩ 1 pw_at1 rfl rfl hl.1 (Nat.le_of_ble_eq_true rfl) dX1_demandsOf_2 ⟨Nat.zero_le _, Nat.zero_le _⟩) (fun rc_2 uc_2 H locs hp_2 Hh => ?_)
  obtain ⟨kc_2, rfl, hp_2⟩ := hp_2
  obtain ⟨hk_2, hu_2⟩ := hp_2
  rw [hu_2] at Hh
  clear hu_2
  have h7 := hok.1 g hg
  refine gw_if_eq (tgt := 17) C dX1_demandsOf_5 (by decide) (by split at hk_2 <;> omega) (fun hc_5 => ?_) (fun hc_5 => ?_)
  · skip
    refine lv_iconst (v := nI 1) C.1 C.2.1 dX1_demandsOf_17 (by decide +kernel) ?_
    exact gw_iret (w := pw G q) (u := u) C Hh dX1_demandsOf_18 ⟨_, rfl, by refine ⟨?_, rfl⟩; unfold gd_dn; split at hk_2 <;> split <;> omega⟩
  · skip
    refine lv_aload_n C.1 C.2.1 dX1_demandsOf_8 rfl (lv_at hl 0 rfl) ?_
    refine gw_get (Cn := RX1) (T := TX1) (N := 5) C Hh 1 pw_at1 rfl uwX1 2 (by decide) rfl tw_100 rfl dX1_demandsOf_9 ?_
    refine lv_iload_n C.1 C.2.1 dX1_demandsOf_12 rfl (lv_at hl 1 rfl) ?_
    refine gw_ld C Hh 7 pw_at7 (by decide) dX1_demandsOf_13 (by omega) ?_
    refine lv_goto (tgt := 18) C.1 C.2.1 dX1_demandsOf_14 (by decide) ?_
    exact gw_iret (w := pw G q) (u := u) C Hh dX1_demandsOf_18 ⟨_, rfl, by refine ⟨?_, rfl⟩; unfold gd_dn; split at hk_2 <;> split <;> omega⟩
set_option maxHeartbeats 4000000 in
set_option maxRecDepth 100000 in
theorem c_X1_demandGood (l : Launch) (G : gw_G) (q : Nat → Nat) (u : pf_S) (g : Nat) (x : Nat) (hok : gd_ok u) (hg : g < 6) (hx : x < 3) : gw_MI l yX1_demandGood cX1_demandGood 3 (some .int) 1 21 [.ref (q 1), .int (nI (g)), .int (nI (x))] G (pw G q) u (fun r u1 => ∃ k : Nat, r = nI k ∧ (k = gd_dg u g x ∧ u1 = u)) := by
  refine gw_entryI (own := RX1) (by decide) rfl (Nat.le_of_ble_eq_true rfl) ?_
  intro p e s m args below meth c A ls C Hh hl
  have hl : lv_has ls 3 [(0, .ref (q 1)), (1, .int (nI (g))), (2, .int (nI (x)))] := hl
  refine lv_aload_n C.1 C.2.1 dX1_demandGood_0 rfl (lv_at hl 0 rfl) ?_
  refine lv_iload_n C.1 C.2.1 dX1_demandGood_1 rfl (lv_at hl 1 rfl) ?_
  refine gw_fromI (w := pw G q) (u := u) C Hh (gw_runV (n := 1) (C1 := RX1) [.int (nI (g))] C Hh (c_X1_isKit l G q (u) (g) (by first | assumption | omega) (by first | assumption | omega) _) tw_259 tw_261 tw_6 tw_67 tw_262 (by decide +kernel) ⟨Nat.le_of_ble_eq_true rfl, Nat.le_of_ble_eq_true rfl⟩ 1 pw_at1 rfl rfl hl.1 (Nat.le_of_ble_eq_true rfl) dX1_demandGood_2 ⟨Nat.zero_le _, Nat.zero_le _⟩) (fun rc_2 uc_2 H locs hp_2 Hh => ?_)
  obtain ⟨kc_2, rfl, hp_2⟩ := hp_2
  obtain ⟨hk_2, hu_2⟩ := hp_2
  rw [hu_2] at Hh
  clear hu_2
  have h7 := hok.1 g hg
  refine gw_if_eq (tgt := 21) C dX1_demandGood_5 (by decide) (by split at hk_2 <;> omega) (fun hc_5 => ?_) (fun hc_5 => ?_)
  · skip
    refine lv_iload_n C.1 C.2.1 dX1_demandGood_21 rfl (lv_at hl 1 rfl) ?_
    exact gw_iret (w := pw G q) (u := u) C Hh dX1_demandGood_22 ⟨_, rfl, by refine ⟨?_, rfl⟩; unfold gd_dg; split at hk_2 <;> split <;> omega⟩
  · skip
    refine lv_aload_n C.1 C.2.1 dX1_demandGood_8 rfl (lv_at hl 0 rfl) ?_
    refine gw_get (Cn := RX1) (T := TX1) (N := 5) C Hh 1 pw_at1 rfl uwX1 3 (by decide) rfl tw_102 rfl dX1_demandGood_9 ?_
    refine lv_iload_n C.1 C.2.1 dX1_demandGood_12 rfl (lv_at hl 1 rfl) ?_
    refine lv_iconst (v := nI 3) C.1 C.2.1 dX1_demandGood_13 (by decide +kernel) ?_
    refine gw_imul C dX1_demandGood_14 ?_
    refine lv_iload_n C.1 C.2.1 dX1_demandGood_15 rfl (lv_at hl 2 rfl) ?_
    refine gw_iadd C dX1_demandGood_16 ?_
    refine gw_ld C Hh 8 pw_at8 (by decide) dX1_demandGood_17 (by omega) ?_
    refine lv_goto (tgt := 22) C.1 C.2.1 dX1_demandGood_18 (by decide) ?_
    exact gw_iret (w := pw G q) (u := u) C Hh dX1_demandGood_22 ⟨_, rfl, by refine ⟨?_, rfl⟩; unfold gd_dg; split at hk_2 <;> split <;> omega⟩
set_option maxHeartbeats 4000000 in
set_option maxRecDepth 100000 in
theorem c_X1_numberForOne (l : Launch) (G : gw_G) (q : Nat → Nat) (u : pf_S) (g : Nat) (x : Nat) (hok : gd_ok u) (hg : g < 6) (hx : x < 3) : gw_MI l yX1_numberForOne cX1_numberForOne 3 (some .int) 1 21 [.ref (q 1), .int (nI (g)), .int (nI (x))] G (pw G q) u (fun r u1 => ∃ k : Nat, r = nI k ∧ (k = gd_d1 u g x ∧ u1 = u)) := by
  refine gw_entryI (own := RX1) (by decide) rfl (Nat.le_of_ble_eq_true rfl) ?_
  intro p e s m args below meth c A ls C Hh hl
  have hl : lv_has ls 3 [(0, .ref (q 1)), (1, .int (nI (g))), (2, .int (nI (x)))] := hl
  refine lv_aload_n C.1 C.2.1 dX1_numberForOne_0 rfl (lv_at hl 0 rfl) ?_
  refine lv_iload_n C.1 C.2.1 dX1_numberForOne_1 rfl (lv_at hl 1 rfl) ?_
  refine gw_fromI (w := pw G q) (u := u) C Hh (gw_runV (n := 1) (C1 := RX1) [.int (nI (g))] C Hh (c_X1_isKit l G q (u) (g) (by first | assumption | omega) (by first | assumption | omega) _) tw_259 tw_261 tw_6 tw_67 tw_262 (by decide +kernel) ⟨Nat.le_of_ble_eq_true rfl, Nat.le_of_ble_eq_true rfl⟩ 1 pw_at1 rfl rfl hl.1 (Nat.le_of_ble_eq_true rfl) dX1_numberForOne_2 ⟨Nat.zero_le _, Nat.zero_le _⟩) (fun rc_2 uc_2 H locs hp_2 Hh => ?_)
  obtain ⟨kc_2, rfl, hp_2⟩ := hp_2
  obtain ⟨hk_2, hu_2⟩ := hp_2
  rw [hu_2] at Hh
  clear hu_2
  have h7 := hok.1 g hg
  refine gw_if_eq (tgt := 21) C dX1_numberForOne_5 (by decide) (by split at hk_2 <;> omega) (fun hc_5 => ?_) (fun hc_5 => ?_)
  · skip
    refine lv_iconst (v := nI 1) C.1 C.2.1 dX1_numberForOne_21 (by decide +kernel) ?_
    exact gw_iret (w := pw G q) (u := u) C Hh dX1_numberForOne_22 ⟨_, rfl, by refine ⟨?_, rfl⟩; unfold gd_d1; split at hk_2 <;> split <;> omega⟩
  · skip
    refine lv_aload_n C.1 C.2.1 dX1_numberForOne_8 rfl (lv_at hl 0 rfl) ?_
    refine gw_get (Cn := RX1) (T := TX1) (N := 5) C Hh 1 pw_at1 rfl uwX1 4 (by decide) rfl tw_103 rfl dX1_numberForOne_9 ?_
    refine lv_iload_n C.1 C.2.1 dX1_numberForOne_12 rfl (lv_at hl 1 rfl) ?_
    refine lv_iconst (v := nI 3) C.1 C.2.1 dX1_numberForOne_13 (by decide +kernel) ?_
    refine gw_imul C dX1_numberForOne_14 ?_
    refine lv_iload_n C.1 C.2.1 dX1_numberForOne_15 rfl (lv_at hl 2 rfl) ?_
    refine gw_iadd C dX1_numberForOne_16 ?_
    refine gw_ld C Hh 9 pw_at9 (by decide) dX1_numberForOne_17 (by omega) ?_
    refine lv_goto (tgt := 22) C.1 C.2.1 dX1_numberForOne_18 (by decide) ?_
    exact gw_iret (w := pw G q) (u := u) C Hh dX1_numberForOne_22 ⟨_, rfl, by refine ⟨?_, rfl⟩; unfold gd_d1; split at hk_2 <;> split <;> omega⟩
end
section
theorem up2_ne (f : Nat → Nat → Nat) {k k' x v : Nat} (h : k' ≠ k) : up2 f k x v k' = f k' := by
  funext b
  simp [up2, h]
theorem up2_at (f : Nat → Nat → Nat) (k x v : Nat) : up2 f k x v k = fun b => if b = x then v else f k b := by
  funext b
  simp [up2]
theorem upA_ne (f : Nat → Nat → Nat) {k k' : Nat} {g : Nat → Nat} (h : k' ≠ k) : upA f k g k' = f k' := by
  funext b
  simp [upA, h]
theorem upA_at (f : Nat → Nat → Nat) (k : Nat) (g : Nat → Nat) : upA f k g k = g := by
  funext b
  simp [upA]
def ar_ok (u : pf_S) : Prop := u.1 0 ≤ 10 ∧ (∀ a, a < 10 → u.2 10 a < 100) ∧ (∀ a, a < 10 → u.2 11 a < 6) ∧ (∀ a, a < 10 → u.2 12 a ≤ 1000000) ∧ ∀ a, a < 10 → u.2 13 a ≤ u.2 12 a
/-- the order by a key (an arrival's time, an order's rank), of equal ones by number -/
def kx_lt (K : Nat → Nat) (a b : Nat) : Prop := K a < K b ∨ (K a = K b ∧ a < b)
/-- the first n in their order -/
def kx_row (K : Nat → Nat) (n : Nat) (b : Nat → Nat) : Prop := (∀ i, i < n → b i < n) ∧ ∀ i j, i < j → j < n → kx_lt K (b i) (b j)
/-- one array of the state apart, two states are the same -/
def st_but (k : Nat) (u v : pf_S) : Prop := v.1 = u.1 ∧ ∀ j, j ≠ k → v.2 j = u.2 j
theorem st_but.rf {k : Nat} {u : pf_S} : st_but k u u := ⟨rfl, fun _ _ => rfl⟩
theorem st_but.up {k x y : Nat} {u v : pf_S} (h : st_but k u v) : st_but k u (v.1, up2 v.2 k x y) := ⟨h.1, fun j hj => (up2_ne v.2 hj).trans (h.2 j hj)⟩
def so_in (K : Nat → Nat) (a t : Nat) (b : Nat → Nat) : Prop := (∀ i j, i < j → j ≤ a → i ≠ t → j ≠ t → kx_lt K (b i) (b j)) ∧ (∀ i, i ≤ a → i ≠ t → b i < a) ∧ ∀ j, t < j → j ≤ a → K a < K (b j)
theorem so_start {K : Nat → Nat} {a : Nat} {b : Nat → Nat} (h : kx_row K a b) : so_in K a a b := ⟨fun i j h1 h2 _ h4 => h.2 i j h1 (by omega), fun i h1 h2 => h.1 i (by omega), fun j h1 h2 => by omega⟩
theorem so_step {K : Nat → Nat} {a t : Nat} {b : Nat → Nat} (h : so_in K a t b) (h0 : 0 < t) (ht : t ≤ a) (hc : K a < K (b (t - 1))) : so_in K a (t - 1) (fun j => if j = t then b (t - 1) else b j) := by
  refine ⟨fun i j h1 h2 h3 h4 => ?_, fun i h1 h2 => ?_, fun j h1 h2 => ?_⟩ <;> dsimp only
  · by_cases hi : i = t
    · subst hi
      rw [if_pos rfl, if_neg (by omega)]
      exact h.1 (i - 1) j (by omega) h2 (by omega) (by omega)
    · rw [if_neg hi]
      by_cases hj : j = t
      · subst hj
        rw [if_pos rfl]
        exact h.1 i (j - 1) (by omega) (by omega) hi (by omega)
      · rw [if_neg hj]
        exact h.1 i j h1 h2 hi hj
  · by_cases hi : i = t
    · rw [if_pos hi]
      exact h.2.1 (t - 1) (by omega) (by omega)
    · rw [if_neg hi]
      exact h.2.1 i h1 hi
  · by_cases hj : j = t
    · rw [if_pos hj]
      exact hc
    · rw [if_neg hj]
      exact h.2.2 j (by omega) h2
theorem so_end {K : Nat → Nat} {a t : Nat} {b : Nat → Nat} (h : so_in K a t b) (ht : t ≤ a) (hc : t = 0 ∨ K (b (t - 1)) ≤ K a) : kx_row K (a + 1) (fun j => if j = t then a else b j) := by
  have hle : ∀ i, i < t → K (b i) ≤ K a := by
    intro i hi
    rcases hc with hc | hc
    · omega
    · by_cases h1 : i = t - 1
      · rw [h1]; exact hc
      · have := h.1 i (t - 1) (by omega) (by omega) (by omega) (by omega)
        unfold kx_lt at this
        omega
  refine ⟨fun i hi => ?_, fun i j h1 h2 => ?_⟩ <;> dsimp only
  · by_cases h1 : i = t
    · rw [if_pos h1]; omega
    · rw [if_neg h1]
      have := h.2.1 i (by omega) h1
      omega
  · by_cases hi : i = t
    · rw [if_pos hi, if_neg (by omega)]
      exact Or.inl (h.2.2 j (by omega) (by omega))
    · rw [if_neg hi]
      by_cases hj : j = t
      · rw [if_pos hj]
        have e1 := hle i (by omega)
        have e2 := h.2.1 i (by omega) hi
        unfold kx_lt
        omega
      · rw [if_neg hj]
        exact h.1 i j h1 (by omega) hi hj
set_option maxHeartbeats 4000000 in
set_option maxRecDepth 100000 in
theorem c_X4_hasBit (l : Launch) (G : gw_G) (q : Nat → Nat) (u : pf_S) (b : Nat) (i : Nat) (hi : i < 32) : gw_MI l yX4_hasBit cX4_hasBit 2 (some .boolean) 0 0 [.int (nI (b)), .int (nI (i))] G (pw G q) u (fun r u1 => ∃ k : Nat, r = nI k ∧ (k = tbit b i ∧ u1 = u)) := by
  refine gw_entryI (own := RX4) (by decide) rfl (Nat.le_of_ble_eq_true rfl) ?_
  intro p e s m args below meth c A ls C Hh hl
  have hl : lv_has ls 2 [(0, .int (nI (b))), (1, .int (nI (i)))] := hl
  refine lv_iload_n C.1 C.2.1 dX4_hasBit_0 rfl (lv_at hl 0 rfl) ?_
  refine lv_iload_n C.1 C.2.1 dX4_hasBit_1 rfl (lv_at hl 1 rfl) ?_
  refine lv_ishr C.1 C.2.1 dX4_hasBit_2 ?_
  refine lv_iconst (v := nI 1) C.1 C.2.1 dX4_hasBit_3 (by decide +kernel) ?_
  refine gw_and1 C dX4_hasBit_4 (by omega) ?_
  have hb := tbit_le b i
  refine gw_if_eq (tgt := 12) C dX4_hasBit_5 (by decide) (by omega) (fun hc_5 => ?_) (fun hc_5 => ?_)
  · skip
    refine lv_iconst (v := nI 0) C.1 C.2.1 dX4_hasBit_12 (by decide +kernel) ?_
    exact gw_zret (w := pw G q) (u := u) C Hh dX4_hasBit_13 (by omega) ⟨_, rfl, by refine ⟨?_, rfl⟩; first | rfl | omega | (split <;> omega)⟩
  · skip
    refine lv_iconst (v := nI 1) C.1 C.2.1 dX4_hasBit_8 (by decide +kernel) ?_
    refine lv_goto (tgt := 13) C.1 C.2.1 dX4_hasBit_9 (by decide) ?_
    exact gw_zret (w := pw G q) (u := u) C Hh dX4_hasBit_13 (by omega) ⟨_, rfl, by refine ⟨?_, rfl⟩; first | rfl | omega | (split <;> omega)⟩
set_option maxHeartbeats 4000000 in
set_option maxRecDepth 100000 in
theorem c_X4_demandAt (l : Launch) (G : gw_G) (q : Nat → Nat) (u : pf_S) (o : Nat) (x : Nat)  : gw_MI l yX4_demandAt cX4_demandAt 2 (some .int) 0 0 [.int (nI (o)), .int (nI (x))] G (pw G q) u (fun r u1 => ∃ k : Nat, r = nI k ∧ (k = o * 3 + x ∧ u1 = u)) := by
  refine gw_entryI (own := RX4) (by decide) rfl (Nat.le_of_ble_eq_true rfl) ?_
  intro p e s m args below meth c A ls C Hh hl
  have hl : lv_has ls 2 [(0, .int (nI (o))), (1, .int (nI (x)))] := hl
  refine lv_iload_n C.1 C.2.1 dX4_demandAt_0 rfl (lv_at hl 0 rfl) ?_
  refine lv_iconst (v := nI 3) C.1 C.2.1 dX4_demandAt_1 (by decide +kernel) ?_
  refine gw_imul C dX4_demandAt_2 ?_
  refine lv_iload_n C.1 C.2.1 dX4_demandAt_3 rfl (lv_at hl 1 rfl) ?_
  refine gw_iadd C dX4_demandAt_4 ?_
  exact gw_iret (w := pw G q) (u := u) C Hh dX4_demandAt_5 ⟨_, rfl, by refine ⟨?_, rfl⟩; first | rfl | omega | (split <;> omega)⟩
set_option maxHeartbeats 4000000 in
set_option maxRecDepth 100000 in
theorem c_X0_add (l : Launch) (G : gw_G) (q : Nat → Nat) (u : pf_S) (t : Nat) (g : Nat) (n : Nat) (hn : u.1 0 < 10) : gw_MI l yX0_add cX0_add 4 (some .int) 0 0 [.ref (q 2), .int (nI (t)), .int (nI (g)), .int (nI (n))] G (pw G q) u (fun r u1 => ∃ k : Nat, r = nI k ∧ (k = u.1 0 ∧ u1 = (up1 u.1 0 (u.1 0 + 1), up2 (up2 (up2 u.2 10 (u.1 0) t) 11 (u.1 0) g) 12 (u.1 0) n))) := by
  refine gw_entryI (own := RX0) (by decide) rfl (Nat.le_of_ble_eq_true rfl) ?_
  intro p e s m args below meth c A ls C Hh hl
  have hl : lv_has ls 4 [(0, .ref (q 2)), (1, .int (nI (t))), (2, .int (nI (g))), (3, .int (nI (n)))] := hl
  refine lv_aload_n C.1 C.2.1 dX0_add_0 rfl (lv_at hl 0 rfl) ?_
  refine gw_get (Cn := RX0) (T := TX0) (N := 5) C Hh 2 pw_at2 rfl uwX0 1 (by decide) rfl tw_126 rfl dX0_add_1 ?_
  refine lv_aload_n C.1 C.2.1 dX0_add_4 rfl (lv_at hl 0 rfl) ?_
  refine gw_get (Cn := RX0) (T := TX0) (N := 5) C Hh 2 pw_at2 rfl uwX0 0 (by decide) rfl tw_123 rfl dX0_add_5 ?_
  refine lv_iload_n C.1 C.2.1 dX0_add_8 rfl (lv_at hl 1 rfl) ?_
  refine gw_st C Hh 10 pw_at10 (by decide) pw_set10 dX0_add_9 (by omega) (fun H locs Hh => ?_)
  have Hh : gw_H G A s (pw G q (u.1, up2 u.2 10 (u.1 0) (t))) H locs := Hh
  refine lv_aload_n C.1 C.2.1 dX0_add_10 rfl (lv_at hl 0 rfl) ?_
  refine gw_get (Cn := RX0) (T := TX0) (N := 5) C Hh 2 pw_at2 rfl uwX0 2 (by decide) rfl tw_128 rfl dX0_add_11 ?_
  refine lv_aload_n C.1 C.2.1 dX0_add_14 rfl (lv_at hl 0 rfl) ?_
  refine gw_get (Cn := RX0) (T := TX0) (N := 5) C Hh 2 pw_at2 rfl uwX0 0 (by decide) rfl tw_123 rfl dX0_add_15 ?_
  refine W.eq (g2 := F0 m 18 ls [.int (nI (u.1 0)), .ref (q 11)]) rfl ?_
  refine lv_iload_n C.1 C.2.1 dX0_add_18 rfl (lv_at hl 2 rfl) ?_
  refine gw_st C Hh 11 pw_at11 (by decide) pw_set11 dX0_add_19 (by omega) (fun H locs Hh => ?_)
  have Hh : gw_H G A s (pw G q (u.1, up2 (up2 u.2 10 (u.1 0) (t)) 11 (u.1 0) (g))) H locs := Hh
  refine lv_aload_n C.1 C.2.1 dX0_add_20 rfl (lv_at hl 0 rfl) ?_
  refine gw_get (Cn := RX0) (T := TX0) (N := 5) C Hh 2 pw_at2 rfl uwX0 3 (by decide) rfl tw_130 rfl dX0_add_21 ?_
  refine lv_aload_n C.1 C.2.1 dX0_add_24 rfl (lv_at hl 0 rfl) ?_
  refine gw_get (Cn := RX0) (T := TX0) (N := 5) C Hh 2 pw_at2 rfl uwX0 0 (by decide) rfl tw_123 rfl dX0_add_25 ?_
  refine W.eq (g2 := F0 m 28 ls [.int (nI (u.1 0)), .ref (q 12)]) rfl ?_
  refine lv_iload_n C.1 C.2.1 dX0_add_28 rfl (lv_at hl 3 rfl) ?_
  refine gw_st C Hh 12 pw_at12 (by decide) pw_set12 dX0_add_29 (by omega) (fun H locs Hh => ?_)
  have Hh : gw_H G A s (pw G q (u.1, up2 (up2 (up2 u.2 10 (u.1 0) (t)) 11 (u.1 0) (g)) 12 (u.1 0) (n))) H locs := Hh
  refine lv_aload_n C.1 C.2.1 dX0_add_30 rfl (lv_at hl 0 rfl) ?_
  refine lv_dup C.1 C.2.1 dX0_add_31 rfl ?_
  refine gw_get (Cn := RX0) (T := TX0) (N := 5) C Hh 2 pw_at2 rfl uwX0 0 (by decide) rfl tw_123 rfl dX0_add_32 ?_
  refine W.eq (g2 := F0 m 35 ls [.int (nI (u.1 0)), .ref (q 2)]) rfl ?_
  refine lv_iconst (v := nI 1) C.1 C.2.1 dX0_add_35 (by decide +kernel) ?_
  refine gw_iadd C dX0_add_36 ?_
  refine gw_put (Cn := RX0) (T := TX0) (N := 5) (ty0 := tyX0) (v := nI ((u.1 0) + 1)) C Hh 2 pw_at2 rfl uwX0 tyX0_ok nmX0 0 (by decide) rfl tw_123 rfl (by decide +kernel) (Nat.le_of_ble_eq_true rfl) pw_num0 dX0_add_37 (fun H locs Hh => ?_)
  refine lv_aload_n C.1 C.2.1 dX0_add_40 rfl (lv_at hl 0 rfl) ?_
  refine gw_get (Cn := RX0) (T := TX0) (N := 5) C Hh 2 pw_at2 rfl uwX0 0 (by decide) rfl tw_123 rfl dX0_add_41 ?_
  refine W.eq (g2 := F0 m 44 ls [.int (nI ((u.1 0) + 1))]) rfl ?_
  refine lv_iconst (v := nI 1) C.1 C.2.1 dX0_add_44 (by decide +kernel) ?_
  refine gw_isub C dX0_add_45 (by omega) ?_
  exact gw_iret (w := pw G q) (u := (up1 u.1 0 ((u.1 0) + 1), up2 (up2 (up2 u.2 10 (u.1 0) (t)) 11 (u.1 0) (g)) 12 (u.1 0) (n))) C Hh dX0_add_46 ⟨_, rfl, by refine ⟨?_, rfl⟩; first | rfl | omega | (split <;> omega)⟩
set_option maxHeartbeats 4000000 in
set_option maxRecDepth 100000 in
theorem c_X0_has (l : Launch) (G : gw_G) (q : Nat → Nat) (u : pf_S) (g : Nat) (hok : ar_ok u) (hg : g < 6) : gw_MI l yX0_has cX0_has 3 (some .boolean) 0 0 [.ref (q 2), .int (nI (g))] G (pw G q) u (fun r u1 => ∃ k : Nat, r = nI k ∧ (((k = 1 ∧ ∃ a, a < u.1 0 ∧ u.2 11 a = g) ∨ (k = 0 ∧ ∀ a, a < u.1 0 → u.2 11 a ≠ g)) ∧ u1 = u)) := by
  refine gw_entryI (own := RX0) (by decide) rfl (Nat.le_of_ble_eq_true rfl) ?_
  intro p e s m args below meth c A ls C Hh hl
  have hl : lv_has ls 3 [(0, .ref (q 2)), (1, .int (nI (g)))] := hl
  have h0 := hok.1
  refine lv_iconst (v := nI 0) C.1 C.2.1 dX0_has_0 (by decide +kernel) ?_
  refine lv_istore_n (lv' := [(2, .int (nI (0))), (0, .ref (q 2)), (1, .int (nI (g)))]) C.1 C.2.1 dX0_has_1 rfl hl (by decide) rfl (fun ls hl => ?_)
  have loop_2 : ∀ (fu : Nat) (i : Nat) (H : Heap) (locs : List Loc) (ls : Array Slot), (i ≤ u.1 0) → (∀ j, j < i → u.2 11 j ≠ g) → u.1 0 - i < fu → gw_H G A s (pw G q u) H locs → lv_has ls 3 [(0, .ref (q 2)), (1, .int (nI (g))), (2, .int (nI (i)))] → W p l e (gw_rm 0 0) s m args below meth c H locs 0 0 (MQ below (va_Qi (fun r u1 => ∃ k : Nat, r = nI k ∧ (((k = 1 ∧ ∃ a, a < u.1 0 ∧ u.2 11 a = g) ∨ (k = 0 ∧ ∀ a, a < u.1 0 → u.2 11 a ≠ g)) ∧ u1 = u)) (gw_at G A (pw G q)) A) args s 0 0 A) (F0 m 2 ls []) := by
    intro fu
    induction fu with
    | zero =>
      intro i  H locs ls hi hno hmf
      exact absurd hmf (Nat.not_lt_zero _)
    | succ fu ih_2 =>
      intro i  H locs ls hi hno hmf Hh hl
      refine lv_iload_n C.1 C.2.1 dX0_has_2 rfl (lv_at hl 2 rfl) ?_
      refine lv_aload_n C.1 C.2.1 dX0_has_3 rfl (lv_at hl 0 rfl) ?_
      refine gw_get (Cn := RX0) (T := TX0) (N := 5) C Hh 2 pw_at2 rfl uwX0 0 (by decide) rfl tw_123 rfl dX0_has_4 ?_
      refine gw_icmp_ge (tgt := 28) C dX0_has_7 (by decide) (by omega) (by omega) (fun hc_7 => ?_) (fun hc_7 => ?_)
      · skip
        refine lv_iconst (v := nI 0) C.1 C.2.1 dX0_has_28 (by decide +kernel) ?_
        exact gw_zret (w := pw G q) (u := u) C Hh dX0_has_29 (by omega) ⟨_, rfl, by exact ⟨Or.inr ⟨rfl, fun j h => hno j (by omega)⟩, rfl⟩⟩
      · skip
        refine lv_aload_n C.1 C.2.1 dX0_has_10 rfl (lv_at hl 0 rfl) ?_
        refine gw_get (Cn := RX0) (T := TX0) (N := 5) C Hh 2 pw_at2 rfl uwX0 2 (by decide) rfl tw_128 rfl dX0_has_11 ?_
        refine lv_iload_n C.1 C.2.1 dX0_has_14 rfl (lv_at hl 2 rfl) ?_
        refine gw_ld C Hh 11 pw_at11 (by decide) dX0_has_15 (by omega) ?_
        have h8 := hok.2.2.1 i (by omega)
        refine lv_iload_n C.1 C.2.1 dX0_has_16 rfl (lv_at hl 1 rfl) ?_
        refine gw_icmp_ne (tgt := 22) C dX0_has_17 (by decide) (by omega) (by omega) (fun hc_17 => ?_) (fun hc_17 => ?_)
        · skip
          refine lv_iinc (v := nI (i + 1)) (lv' := [(2, .int (nI (i + 1))), (0, .ref (q 2)), (1, .int (nI (g)))]) C.1 C.2.1 dX0_has_22 hl (k := 2) rfl (nI_add _ 1) (by decide) rfl (fun ls hl => ?_)
          refine lv_goto (tgt := 2) C.1 C.2.1 dX0_has_25 (by decide) ?_
          exact ih_2 (i + 1)  _ _ _ (by first | assumption | omega) (by intro o h; by_cases h1 : o = i; (subst h1; omega); exact hno o (by omega)) (by omega) Hh (lv_sub hl [1, 2, 0] rfl)
        · skip
          refine lv_iconst (v := nI 1) C.1 C.2.1 dX0_has_20 (by decide +kernel) ?_
          exact gw_zret (w := pw G q) (u := u) C Hh dX0_has_21 (by omega) ⟨_, rfl, by exact ⟨Or.inl ⟨rfl, i, by omega, by omega⟩, rfl⟩⟩
  exact loop_2 _ (0)  _ _ _ (by first | assumption | omega) (by intro o h; omega) (Nat.lt_succ_self _) Hh (lv_sub hl [1, 2, 0] rfl)
set_option maxHeartbeats 4000000 in
set_option maxRecDepth 100000 in
theorem c_X0_free (l : Launch) (G : gw_G) (q : Nat → Nat) (u : pf_S) (a : Nat) (hok : ar_ok u) (ha : a < 10) : gw_MI l yX0_free cX0_free 2 (some .int) 0 0 [.ref (q 2), .int (nI (a))] G (pw G q) u (fun r u1 => ∃ k : Nat, r = nI k ∧ (k = u.2 12 a - u.2 13 a ∧ u1 = u)) := by
  refine gw_entryI (own := RX0) (by decide) rfl (Nat.le_of_ble_eq_true rfl) ?_
  intro p e s m args below meth c A ls C Hh hl
  have hl : lv_has ls 2 [(0, .ref (q 2)), (1, .int (nI (a)))] := hl
  refine lv_aload_n C.1 C.2.1 dX0_free_0 rfl (lv_at hl 0 rfl) ?_
  refine gw_get (Cn := RX0) (T := TX0) (N := 5) C Hh 2 pw_at2 rfl uwX0 3 (by decide) rfl tw_130 rfl dX0_free_1 ?_
  refine lv_iload_n C.1 C.2.1 dX0_free_4 rfl (lv_at hl 1 rfl) ?_
  refine gw_ld C Hh 12 pw_at12 (by decide) dX0_free_5 (by omega) ?_
  refine lv_aload_n C.1 C.2.1 dX0_free_6 rfl (lv_at hl 0 rfl) ?_
  refine gw_get (Cn := RX0) (T := TX0) (N := 5) C Hh 2 pw_at2 rfl uwX0 4 (by decide) rfl tw_132 rfl dX0_free_7 ?_
  refine lv_iload_n C.1 C.2.1 dX0_free_10 rfl (lv_at hl 1 rfl) ?_
  refine gw_ld C Hh 13 pw_at13 (by decide) dX0_free_11 (by omega) ?_
  refine gw_isub C dX0_free_12 (by exact hok.2.2.2.2 a ha) ?_
  exact gw_iret (w := pw G q) (u := u) C Hh dX0_free_13 ⟨_, rfl, by refine ⟨?_, rfl⟩; first | rfl | omega | (split <;> omega)⟩
set_option maxHeartbeats 4000000 in
set_option maxRecDepth 100000 in
theorem c_X0_allFree (l : Launch) (G : gw_G) (q : Nat → Nat) (u : pf_S)  (hok : ar_ok u) : gw_MI l yX0_allFree cX0_allFree 3 (some .int) 1 21 [.ref (q 2)] G (pw G q) u (fun r u1 => ∃ k : Nat, r = nI k ∧ (k = fl_sum (fun a => u.2 12 a - u.2 13 a) (u.1 0) ∧ u1 = u)) := by
  refine gw_entryI (own := RX0) (by decide) rfl (Nat.le_of_ble_eq_true rfl) ?_
  intro p e s m args below meth c A ls C Hh hl
  have hl : lv_has ls 3 [(0, .ref (q 2))] := hl
  have h0 := hok.1
  refine lv_iconst (v := nI 0) C.1 C.2.1 dX0_allFree_0 (by decide +kernel) ?_
  refine lv_istore_n (lv' := [(1, .int (nI (0))), (0, .ref (q 2))]) C.1 C.2.1 dX0_allFree_1 rfl hl (by decide) rfl (fun ls hl => ?_)
  refine lv_iconst (v := nI 0) C.1 C.2.1 dX0_allFree_2 (by decide +kernel) ?_
  refine lv_istore_n (lv' := [(2, .int (nI (0))), (1, .int (nI (0))), (0, .ref (q 2))]) C.1 C.2.1 dX0_allFree_3 rfl hl (by decide) rfl (fun ls hl => ?_)
  have loop_4 : ∀ (fu : Nat) (i : Nat) (z : Nat) (H : Heap) (locs : List Loc) (ls : Array Slot), (i ≤ u.1 0) → (z = fl_sum (fun a => u.2 12 a - u.2 13 a) i) → u.1 0 - i < fu → gw_H G A s (pw G q u) H locs → lv_has ls 3 [(0, .ref (q 2)), (1, .int (nI (z))), (2, .int (nI (i)))] → W p l e (gw_rm 1 21) s m args below meth c H locs 0 0 (MQ below (va_Qi (fun r u1 => ∃ k : Nat, r = nI k ∧ (k = fl_sum (fun a => u.2 12 a - u.2 13 a) (u.1 0) ∧ u1 = u)) (gw_at G A (pw G q)) A) args s 0 0 A) (F0 m 4 ls []) := by
    intro fu
    induction fu with
    | zero =>
      intro i z  H locs ls hi hz hmf
      exact absurd hmf (Nat.not_lt_zero _)
    | succ fu ih_4 =>
      intro i z  H locs ls hi hz hmf Hh hl
      refine lv_iload_n C.1 C.2.1 dX0_allFree_4 rfl (lv_at hl 2 rfl) ?_
      refine lv_aload_n C.1 C.2.1 dX0_allFree_5 rfl (lv_at hl 0 rfl) ?_
      refine gw_get (Cn := RX0) (T := TX0) (N := 5) C Hh 2 pw_at2 rfl uwX0 0 (by decide) rfl tw_123 rfl dX0_allFree_6 ?_
      refine gw_icmp_ge (tgt := 26) C dX0_allFree_9 (by decide) (by omega) (by omega) (fun hc_9 => ?_) (fun hc_9 => ?_)
      · skip
        refine lv_iload_n C.1 C.2.1 dX0_allFree_26 rfl (lv_at hl 1 rfl) ?_
        exact gw_iret (w := pw G q) (u := u) C Hh dX0_allFree_27 ⟨_, rfl, by refine ⟨?_, rfl⟩; rw [hz, show i = u.1 0 by omega]⟩
      · skip
        refine lv_iload_n C.1 C.2.1 dX0_allFree_12 rfl (lv_at hl 1 rfl) ?_
        refine lv_aload_n C.1 C.2.1 dX0_allFree_13 rfl (lv_at hl 0 rfl) ?_
        refine lv_iload_n C.1 C.2.1 dX0_allFree_14 rfl (lv_at hl 2 rfl) ?_
        refine gw_fromI (w := pw G q) (u := u) C Hh (gw_runV (n := 1) (C1 := RX0) [.int (nI (i))] C Hh (c_X0_free l G q (u) (i) (by first | assumption | omega) (by first | assumption | omega) _) tw_243 tw_245 tw_2 tw_68 tw_246 (by decide +kernel) ⟨Nat.le_of_ble_eq_true rfl, Nat.le_of_ble_eq_true rfl⟩ 2 pw_at2 rfl rfl hl.1 (Nat.le_of_ble_eq_true rfl) dX0_allFree_15 ⟨Nat.zero_le _, Nat.zero_le _⟩) (fun rc_15 uc_15 H locs hp_15 Hh => ?_)
        obtain ⟨kc_15, rfl, hp_15⟩ := hp_15
        obtain ⟨hk_15, hu_15⟩ := hp_15
        rw [hu_15] at Hh
        clear hu_15
        refine gw_iadd C dX0_allFree_18 ?_
        refine lv_istore_n (lv' := [(1, .int (nI (z + kc_15))), (0, .ref (q 2)), (2, .int (nI (i)))]) C.1 C.2.1 dX0_allFree_19 rfl hl (by decide) rfl (fun ls hl => ?_)
        refine lv_iinc (v := nI (i + 1)) (lv' := [(2, .int (nI (i + 1))), (1, .int (nI (z + kc_15))), (0, .ref (q 2))]) C.1 C.2.1 dX0_allFree_20 hl (k := 2) rfl (nI_add _ 1) (by decide) rfl (fun ls hl => ?_)
        refine lv_goto (tgt := 4) C.1 C.2.1 dX0_allFree_23 (by decide) ?_
        exact ih_4 (i + 1) (z + kc_15)  _ _ _ (by first | assumption | omega) (by rw [hz, hk_15]; rfl) (by omega) Hh (lv_sub hl [2, 1, 0] rfl)
  exact loop_4 _ (0) (0)  _ _ _ (by first | assumption | omega) (by rfl) (Nat.lt_succ_self _) Hh (lv_sub hl [2, 1, 0] rfl)
set_option maxHeartbeats 4000000 in
set_option maxRecDepth 100000 in
theorem c_X0_broughtBy (l : Launch) (G : gw_G) (q : Nat → Nat) (u : pf_S) (b : Nat) (hok : ar_ok u) : gw_MI l yX0_broughtBy cX0_broughtBy 4 (some .int) 1 21 [.ref (q 2), .int (nI (b))] G (pw G q) u (fun r u1 => ∃ k : Nat, r = nI k ∧ (k = fl_sum (fun a => if b.testBit a then u.2 12 a else 0) (u.1 0) ∧ u1 = u)) := by
  refine gw_entryI (own := RX0) (by decide) rfl (Nat.le_of_ble_eq_true rfl) ?_
  intro p e s m args below meth c A ls C Hh hl
  have hl : lv_has ls 4 [(0, .ref (q 2)), (1, .int (nI (b)))] := hl
  have h0 := hok.1
  refine lv_iconst (v := nI 0) C.1 C.2.1 dX0_broughtBy_0 (by decide +kernel) ?_
  refine lv_istore_n (lv' := [(2, .int (nI (0))), (0, .ref (q 2)), (1, .int (nI (b)))]) C.1 C.2.1 dX0_broughtBy_1 rfl hl (by decide) rfl (fun ls hl => ?_)
  refine lv_iconst (v := nI 0) C.1 C.2.1 dX0_broughtBy_2 (by decide +kernel) ?_
  refine lv_istore_n (lv' := [(3, .int (nI (0))), (2, .int (nI (0))), (0, .ref (q 2)), (1, .int (nI (b)))]) C.1 C.2.1 dX0_broughtBy_3 rfl hl (by decide) rfl (fun ls hl => ?_)
  have loop_4 : ∀ (fu : Nat) (i : Nat) (z : Nat) (H : Heap) (locs : List Loc) (ls : Array Slot), (i ≤ u.1 0) → (z = fl_sum (fun a => if b.testBit a then u.2 12 a else 0) i) → u.1 0 - i < fu → gw_H G A s (pw G q u) H locs → lv_has ls 4 [(0, .ref (q 2)), (1, .int (nI (b))), (2, .int (nI (z))), (3, .int (nI (i)))] → W p l e (gw_rm 1 21) s m args below meth c H locs 0 0 (MQ below (va_Qi (fun r u1 => ∃ k : Nat, r = nI k ∧ (k = fl_sum (fun a => if b.testBit a then u.2 12 a else 0) (u.1 0) ∧ u1 = u)) (gw_at G A (pw G q)) A) args s 0 0 A) (F0 m 4 ls []) := by
    intro fu
    induction fu with
    | zero =>
      intro i z  H locs ls hi hz hmf
      exact absurd hmf (Nat.not_lt_zero _)
    | succ fu ih_4 =>
      intro i z  H locs ls hi hz hmf Hh hl
      refine lv_iload_n C.1 C.2.1 dX0_broughtBy_4 rfl (lv_at hl 3 rfl) ?_
      refine lv_aload_n C.1 C.2.1 dX0_broughtBy_5 rfl (lv_at hl 0 rfl) ?_
      refine gw_get (Cn := RX0) (T := TX0) (N := 5) C Hh 2 pw_at2 rfl uwX0 0 (by decide) rfl tw_123 rfl dX0_broughtBy_6 ?_
      refine gw_icmp_ge (tgt := 35) C dX0_broughtBy_9 (by decide) (by omega) (by omega) (fun hc_9 => ?_) (fun hc_9 => ?_)
      · skip
        refine lv_iload_n C.1 C.2.1 dX0_broughtBy_35 rfl (lv_at hl 2 rfl) ?_
        exact gw_iret (w := pw G q) (u := u) C Hh dX0_broughtBy_36 ⟨_, rfl, by refine ⟨?_, rfl⟩; rw [hz, show i = u.1 0 by omega]⟩
      · skip
        refine lv_iload_n C.1 C.2.1 dX0_broughtBy_12 rfl (lv_at hl 1 rfl) ?_
        refine lv_iload_n C.1 C.2.1 dX0_broughtBy_13 rfl (lv_at hl 3 rfl) ?_
        refine gw_fromI (w := pw G q) (u := u) C Hh (gw_runSN (n := 2) [.int (nI (b)), .int (nI (i))] C Hh (c_X4_hasBit l G q (u) (b) (i) (by first | assumption | omega) _) tw_649 tw_450 tw_66 tw_451 (by decide +kernel) ⟨Nat.le_of_ble_eq_true rfl, Nat.le_of_ble_eq_true rfl⟩ rfl hl.1 (Nat.le_of_ble_eq_true rfl) dX0_broughtBy_14 ⟨Nat.zero_le _, Nat.zero_le _⟩) (fun rc_14 uc_14 H locs hp_14 Hh => ?_)
        obtain ⟨kc_14, rfl, hp_14⟩ := hp_14
        obtain ⟨hk_14, hu_14⟩ := hp_14
        rw [hu_14] at Hh
        clear hu_14
        have join_29 : ∀ (z2 : Nat) (H : Heap) (locs : List Loc) (ls : Array Slot), (z2 = fl_sum (fun a => if b.testBit a then u.2 12 a else 0) (i + 1)) → gw_H G A s (pw G q u) H locs → lv_has ls 4 [(0, .ref (q 2)), (1, .int (nI (b))), (2, .int (nI (z2))), (3, .int (nI (i)))] → W p l e (gw_rm 1 21) s m args below meth c H locs 0 0 (MQ below (va_Qi (fun r u1 => ∃ k : Nat, r = nI k ∧ (k = fl_sum (fun a => if b.testBit a then u.2 12 a else 0) (u.1 0) ∧ u1 = u)) (gw_at G A (pw G q)) A) args s 0 0 A) (F0 m 29 ls []) := by
          intro z2  H locs ls hz2 Hh hl
          refine lv_iinc (v := nI (i + 1)) (lv' := [(3, .int (nI (i + 1))), (0, .ref (q 2)), (1, .int (nI (b))), (2, .int (nI (z2)))]) C.1 C.2.1 dX0_broughtBy_29 hl (k := 3) rfl (nI_add _ 1) (by decide) rfl (fun ls hl => ?_)
          refine lv_goto (tgt := 4) C.1 C.2.1 dX0_broughtBy_32 (by decide) ?_
          exact ih_4 (i + 1) (z2)  _ _ _ (by first | assumption | omega) (by exact hz2) (by omega) Hh (lv_sub hl [1, 2, 3, 0] rfl)
        have hb := tbit_le b i
        refine gw_if_eq (tgt := 29) C dX0_broughtBy_17 (by decide) (by omega) (fun hc_17 => ?_) (fun hc_17 => ?_)
        · skip
          exact join_29 (z)  _ _ _ (by rw [hz]; show _ = _ + (if b.testBit i = true then u.2 12 i else 0); rw [if_neg (by unfold tbit at hk_14; split at hk_14 <;> first | omega | assumption)]; rfl) Hh (lv_sub hl [0, 1, 2, 3] rfl)
        · skip
          refine lv_iload_n C.1 C.2.1 dX0_broughtBy_20 rfl (lv_at hl 2 rfl) ?_
          refine lv_aload_n C.1 C.2.1 dX0_broughtBy_21 rfl (lv_at hl 0 rfl) ?_
          refine gw_get (Cn := RX0) (T := TX0) (N := 5) C Hh 2 pw_at2 rfl uwX0 3 (by decide) rfl tw_130 rfl dX0_broughtBy_22 ?_
          refine lv_iload_n C.1 C.2.1 dX0_broughtBy_25 rfl (lv_at hl 3 rfl) ?_
          refine gw_ld C Hh 12 pw_at12 (by decide) dX0_broughtBy_26 (by omega) ?_
          refine gw_iadd C dX0_broughtBy_27 ?_
          refine lv_istore_n (lv' := [(2, .int (nI (z + (u.2 12 (i))))), (0, .ref (q 2)), (1, .int (nI (b))), (3, .int (nI (i)))]) C.1 C.2.1 dX0_broughtBy_28 rfl hl (by decide) rfl (fun ls hl => ?_)
          exact join_29 (z + u.2 12 i)  _ _ _ (by rw [hz]; show _ = _ + (if b.testBit i = true then u.2 12 i else 0); rw [if_pos (by unfold tbit at hk_14; split at hk_14 <;> first | omega | assumption)]) Hh (lv_sub hl [1, 2, 0, 3] rfl)
  exact loop_4 _ (0) (0)  _ _ _ (by first | assumption | omega) (by rfl) (Nat.lt_succ_self _) Hh (lv_sub hl [2, 3, 1, 0] rfl)
set_option maxHeartbeats 4000000 in
set_option maxRecDepth 100000 in
theorem c_X0_sortByTime (l : Launch) (G : gw_G) (q : Nat → Nat) (u : pf_S)  (hok : ar_ok u) : gw_MV l yX0_sortByTime cX0_sortByTime 4 none 0 0 [.ref (q 2), .ref (q 20)] G (pw G q) u (fun u1 => st_but 20 u u1 ∧ kx_row (u.2 10) (u.1 0) (u1.2 20)) := by
  refine gw_entryV (own := RX0) (by decide) rfl (Nat.le_of_ble_eq_true rfl) ?_
  intro p e s m args below meth c A ls C Hh hl
  have hl : lv_has ls 4 [(0, .ref (q 2)), (1, .ref (q 20))] := hl
  refine lv_iconst (v := nI 0) C.1 C.2.1 dX0_sortByTime_0 (by decide +kernel) ?_
  refine lv_istore_n (lv' := [(2, .int (nI (0))), (0, .ref (q 2)), (1, .ref (q 20))]) C.1 C.2.1 dX0_sortByTime_1 rfl hl (by decide) rfl (fun ls hl => ?_)
  have loop_2 : ∀ (fu : Nat) (a : Nat) (uc : pf_S) (H : Heap) (locs : List Loc) (ls : Array Slot), (a ≤ u.1 0) → (st_but 20 u uc) → (kx_row (u.2 10) a (uc.2 20)) → u.1 0 - a < fu → gw_H G A s (pw G q uc) H locs → lv_has ls 4 [(0, .ref (q 2)), (1, .ref (q 20)), (2, .int (nI (a)))] → W p l e (gw_rm 0 0) s m args below meth c H locs 0 0 (MQ below (va_Qv (fun u1 => st_but 20 u u1 ∧ kx_row (u.2 10) (u.1 0) (u1.2 20)) (gw_at G A (pw G q)) A) args s 0 0 A) (F0 m 2 ls []) := by
    intro fu
    induction fu with
    | zero =>
      intro a uc H locs ls hi hfr hrow hmf
      exact absurd hmf (Nat.not_lt_zero _)
    | succ fu ih_2 =>
      intro a uc H locs ls hi hfr hrow hmf Hh hl
      have h0 := hok.1
      have hn0 : uc.1 0 = u.1 0 := by rw [hfr.1]
      refine lv_iload_n C.1 C.2.1 dX0_sortByTime_2 rfl (lv_at hl 2 rfl) ?_
      refine lv_aload_n C.1 C.2.1 dX0_sortByTime_3 rfl (lv_at hl 0 rfl) ?_
      refine gw_get (Cn := RX0) (T := TX0) (N := 5) C Hh 2 pw_at2 rfl uwX0 0 (by decide) rfl tw_123 rfl dX0_sortByTime_4 ?_
      refine gw_icmp_ge (tgt := 59) C dX0_sortByTime_7 (by decide) (by omega) (by omega) (fun hc_7 => ?_) (fun hc_7 => ?_)
      · skip
        exact gw_vret (w := pw G q) (u := uc) C Hh dX0_sortByTime_59 (by exact ⟨hfr, by rw [show u.1 0 = a by omega]; exact hrow⟩)
      · skip
        refine lv_iload_n C.1 C.2.1 dX0_sortByTime_10 rfl (lv_at hl 2 rfl) ?_
        refine lv_istore_n (lv' := [(3, .int (nI (a))), (0, .ref (q 2)), (1, .ref (q 20)), (2, .int (nI (a)))]) C.1 C.2.1 dX0_sortByTime_11 rfl hl (by decide) rfl (fun ls hl => ?_)
        have loop_12 : ∀ (fu : Nat) (t : Nat) (ud : pf_S) (H : Heap) (locs : List Loc) (ls : Array Slot), (t ≤ a) → (st_but 20 u ud) → (so_in (u.2 10) a t (ud.2 20)) → t < fu → gw_H G A s (pw G q ud) H locs → lv_has ls 4 [(0, .ref (q 2)), (1, .ref (q 20)), (2, .int (nI (a))), (3, .int (nI (t)))] → W p l e (gw_rm 0 0) s m args below meth c H locs 0 0 (MQ below (va_Qv (fun u1 => st_but 20 u u1 ∧ kx_row (u.2 10) (u.1 0) (u1.2 20)) (gw_at G A (pw G q)) A) args s 0 0 A) (F0 m 12 ls []) := by
          intro fu
          induction fu with
          | zero =>
            intro t ud H locs ls ht hfr2 hso hmf
            exact absurd hmf (Nat.not_lt_zero _)
          | succ fu ih_12 =>
            intro t ud H locs ls ht hfr2 hso hmf Hh hl
            have h10 : ud.2 10 = u.2 10 := hfr2.2 10 (by decide)
            have hta := hok.2.1 a (by omega)
            refine lv_iload_n C.1 C.2.1 dX0_sortByTime_12 rfl (lv_at hl 3 rfl) ?_
            refine gw_if_le (tgt := 49) C dX0_sortByTime_13 (by decide) (by omega) (fun hc_13 => ?_) (fun hc_13 => ?_)
            · skip
              refine lv_aload_n C.1 C.2.1 dX0_sortByTime_49 rfl (lv_at hl 1 rfl) ?_
              refine lv_iload_n C.1 C.2.1 dX0_sortByTime_50 rfl (lv_at hl 3 rfl) ?_
              refine lv_iload_n C.1 C.2.1 dX0_sortByTime_51 rfl (lv_at hl 2 rfl) ?_
              refine gw_st C Hh 20 pw_at20 (by decide) pw_set20 dX0_sortByTime_52 (by omega) (fun H locs Hh => ?_)
              have Hh : gw_H G A s (pw G q (ud.1, up2 ud.2 20 (t) (a))) H locs := Hh
              refine lv_iinc (v := nI (a + 1)) (lv' := [(2, .int (nI (a + 1))), (0, .ref (q 2)), (1, .ref (q 20)), (3, .int (nI (t)))]) C.1 C.2.1 dX0_sortByTime_53 hl (k := 2) rfl (nI_add _ 1) (by decide) rfl (fun ls hl => ?_)
              refine lv_goto (tgt := 2) C.1 C.2.1 dX0_sortByTime_56 (by decide) ?_
              exact ih_2 (a + 1) ((ud.1, up2 ud.2 20 (t) (a))) _ _ _ (by first | assumption | omega) (by exact hfr2.up) (by show kx_row (u.2 10) (a + 1) (up2 ud.2 20 t a 20); rw [up2_at]; exact so_end hso (by omega) (by first | omega | (right; rw [h10] at hc_32; exact hc_32))) (by omega) Hh (lv_sub hl [1, 2, 0] rfl)
            · skip
              refine lv_aload_n C.1 C.2.1 dX0_sortByTime_16 rfl (lv_at hl 0 rfl) ?_
              refine gw_get (Cn := RX0) (T := TX0) (N := 5) C Hh 2 pw_at2 rfl uwX0 1 (by decide) rfl tw_126 rfl dX0_sortByTime_17 ?_
              refine lv_aload_n C.1 C.2.1 dX0_sortByTime_20 rfl (lv_at hl 1 rfl) ?_
              refine lv_iload_n C.1 C.2.1 dX0_sortByTime_21 rfl (lv_at hl 3 rfl) ?_
              refine lv_iconst (v := nI 1) C.1 C.2.1 dX0_sortByTime_22 (by decide +kernel) ?_
              refine gw_isub C dX0_sortByTime_23 (by omega) ?_
              have hb := hso.2.1 (t - 1) (by omega) (by omega)
              refine gw_ld C Hh 20 pw_at20 (by decide) dX0_sortByTime_24 (by omega) ?_
              refine gw_ld C Hh 10 pw_at10 (by decide) dX0_sortByTime_25 (by omega) ?_
              refine lv_aload_n C.1 C.2.1 dX0_sortByTime_26 rfl (lv_at hl 0 rfl) ?_
              refine gw_get (Cn := RX0) (T := TX0) (N := 5) C Hh 2 pw_at2 rfl uwX0 1 (by decide) rfl tw_126 rfl dX0_sortByTime_27 ?_
              refine lv_iload_n C.1 C.2.1 dX0_sortByTime_30 rfl (lv_at hl 2 rfl) ?_
              refine gw_ld C Hh 10 pw_at10 (by decide) dX0_sortByTime_31 (by omega) ?_
              have htb := hok.2.1 (ud.2 20 (t - 1)) (by omega)
              refine gw_icmp_le (tgt := 49) C dX0_sortByTime_32 (by decide) (by rw [h10]; omega) (by rw [h10]; omega) (fun hc_32 => ?_) (fun hc_32 => ?_)
              · skip
                refine lv_aload_n C.1 C.2.1 dX0_sortByTime_49 rfl (lv_at hl 1 rfl) ?_
                refine lv_iload_n C.1 C.2.1 dX0_sortByTime_50 rfl (lv_at hl 3 rfl) ?_
                refine lv_iload_n C.1 C.2.1 dX0_sortByTime_51 rfl (lv_at hl 2 rfl) ?_
                refine gw_st C Hh 20 pw_at20 (by decide) pw_set20 dX0_sortByTime_52 (by omega) (fun H locs Hh => ?_)
                have Hh : gw_H G A s (pw G q (ud.1, up2 ud.2 20 (t) (a))) H locs := Hh
                refine lv_iinc (v := nI (a + 1)) (lv' := [(2, .int (nI (a + 1))), (0, .ref (q 2)), (1, .ref (q 20)), (3, .int (nI (t)))]) C.1 C.2.1 dX0_sortByTime_53 hl (k := 2) rfl (nI_add _ 1) (by decide) rfl (fun ls hl => ?_)
                refine lv_goto (tgt := 2) C.1 C.2.1 dX0_sortByTime_56 (by decide) ?_
                exact ih_2 (a + 1) ((ud.1, up2 ud.2 20 (t) (a))) _ _ _ (by first | assumption | omega) (by exact hfr2.up) (by show kx_row (u.2 10) (a + 1) (up2 ud.2 20 t a 20); rw [up2_at]; exact so_end hso (by omega) (by first | omega | (right; rw [h10] at hc_32; exact hc_32))) (by omega) Hh (lv_sub hl [1, 2, 0] rfl)
              · skip
                refine lv_aload_n C.1 C.2.1 dX0_sortByTime_35 rfl (lv_at hl 1 rfl) ?_
                refine lv_iload_n C.1 C.2.1 dX0_sortByTime_36 rfl (lv_at hl 3 rfl) ?_
                refine lv_aload_n C.1 C.2.1 dX0_sortByTime_37 rfl (lv_at hl 1 rfl) ?_
                refine lv_iload_n C.1 C.2.1 dX0_sortByTime_38 rfl (lv_at hl 3 rfl) ?_
                refine lv_iconst (v := nI 1) C.1 C.2.1 dX0_sortByTime_39 (by decide +kernel) ?_
                refine gw_isub C dX0_sortByTime_40 (by omega) ?_
                refine gw_ld C Hh 20 pw_at20 (by decide) dX0_sortByTime_41 (by omega) ?_
                refine gw_st C Hh 20 pw_at20 (by decide) pw_set20 dX0_sortByTime_42 (by omega) (fun H locs Hh => ?_)
                have Hh : gw_H G A s (pw G q (ud.1, up2 ud.2 20 (t) (ud.2 20 (t - 1)))) H locs := Hh
                refine lv_iinc (v := nI (t - 1)) (lv' := [(3, .int (nI (t - 1))), (0, .ref (q 2)), (1, .ref (q 20)), (2, .int (nI (a)))]) C.1 C.2.1 dX0_sortByTime_43 hl (k := 3) rfl (sb_m1 (by omega)) (by decide) rfl (fun ls hl => ?_)
                refine lv_goto (tgt := 12) C.1 C.2.1 dX0_sortByTime_46 (by decide) ?_
                exact ih_12 (t - 1) ((ud.1, up2 ud.2 20 (t) (ud.2 20 (t - 1)))) _ _ _ (by first | assumption | omega) (by exact hfr2.up) (by show so_in (u.2 10) a (t - 1) (up2 ud.2 20 t (ud.2 20 (t - 1)) 20); rw [up2_at]; exact so_step hso (by omega) ht (by rw [h10] at hc_32; omega)) (by omega) Hh (lv_sub hl [1, 2, 3, 0] rfl)
        exact loop_12 _ (a) (uc) _ _ _ (by first | assumption | omega) (by exact hfr) (by exact so_start hrow) (Nat.lt_succ_self _) Hh (lv_sub hl [1, 2, 3, 0] rfl)
  exact loop_2 _ (0) (u) _ _ _ (by first | assumption | omega) (by exact st_but.rf) (by exact ⟨fun i h => by omega, fun i j _ h => by omega⟩) (Nat.lt_succ_self _) Hh (lv_sub hl [1, 2, 0] rfl)
end
section
def od_ok (u : pf_S) : Prop := u.1 1 ≤ 10 ∧ (∀ a, a < 10 → u.2 14 a < 100) ∧ (∀ a, a < 10 → u.2 15 a < 6) ∧ (∀ a, a < 10 → u.2 16 a ≤ 10000) ∧ (∀ a, a < 10 → u.2 17 a ≤ 9) ∧ (∀ a, a < 10 → u.2 18 a ≤ 2) ∧ kx_row (u.2 17) (u.1 1) (u.2 19)
theorem fl_sum_succ (f : Nat → Nat) (n : Nat) : fl_sum f (n + 1) = fl_sum f n + f n := rfl
theorem fl_sum_cnt {f : Nat → Nat} (h : ∀ k, f k ≤ 1) : ∀ n, fl_sum f n ≤ n
  | 0 => Nat.le_refl _
  | n + 1 => by
    have := fl_sum_cnt h n
    have := h n
    rw [fl_sum_succ]
    omega
theorem so_put {u v : pf_S} {k t a : Nat} (h : st_but k u v) : up2 v.2 k t a = upA u.2 k (fun j => if j = t then a else v.2 k j) := by
  funext x y
  by_cases hx : x = k
  · simp [up2, upA, hx]
  · simp [up2, upA, hx, h.2 x hx]
set_option maxHeartbeats 4000000 in
set_option maxRecDepth 100000 in
theorem c_X2_write (l : Launch) (G : gw_G) (q : Nat → Nat) (u : pf_S) (d : Nat) (g : Nat) (n : Nat) (rk : Nat) (hn : u.1 1 < 10) : gw_MI l yX2_write cX2_write 5 (some .int) 0 0 [.ref (q 3), .int (nI (d)), .int (nI (g)), .int (nI (n)), .int (nI (rk))] G (pw G q) u (fun r u1 => ∃ k : Nat, r = nI k ∧ (k = u.1 1 ∧ u1 = (u.1, up2 (up2 (up2 (up2 u.2 14 (u.1 1) d) 15 (u.1 1) g) 16 (u.1 1) n) 17 (u.1 1) rk))) := by
  refine gw_entryI (own := RX2) (by decide) rfl (Nat.le_of_ble_eq_true rfl) ?_
  intro p e s m args below meth c A ls C Hh hl
  have hl : lv_has ls 5 [(0, .ref (q 3)), (1, .int (nI (d))), (2, .int (nI (g))), (3, .int (nI (n))), (4, .int (nI (rk)))] := hl
  refine lv_aload_n C.1 C.2.1 dX2_write_0 rfl (lv_at hl 0 rfl) ?_
  refine gw_get (Cn := RX2) (T := TX2) (N := 7) C Hh 3 pw_at3 rfl uwX2 1 (by decide) rfl tw_153 rfl dX2_write_1 ?_
  refine lv_aload_n C.1 C.2.1 dX2_write_4 rfl (lv_at hl 0 rfl) ?_
  refine gw_get (Cn := RX2) (T := TX2) (N := 7) C Hh 3 pw_at3 rfl uwX2 0 (by decide) rfl tw_151 rfl dX2_write_5 ?_
  refine lv_iload_n C.1 C.2.1 dX2_write_8 rfl (lv_at hl 1 rfl) ?_
  refine gw_st C Hh 14 pw_at14 (by decide) pw_set14 dX2_write_9 (by omega) (fun H locs Hh => ?_)
  have Hh : gw_H G A s (pw G q (u.1, up2 u.2 14 (u.1 1) (d))) H locs := Hh
  refine lv_aload_n C.1 C.2.1 dX2_write_10 rfl (lv_at hl 0 rfl) ?_
  refine gw_get (Cn := RX2) (T := TX2) (N := 7) C Hh 3 pw_at3 rfl uwX2 2 (by decide) rfl tw_155 rfl dX2_write_11 ?_
  refine lv_aload_n C.1 C.2.1 dX2_write_14 rfl (lv_at hl 0 rfl) ?_
  refine gw_get (Cn := RX2) (T := TX2) (N := 7) C Hh 3 pw_at3 rfl uwX2 0 (by decide) rfl tw_151 rfl dX2_write_15 ?_
  refine W.eq (g2 := F0 m 18 ls [.int (nI (u.1 1)), .ref (q 15)]) rfl ?_
  refine lv_iload_n C.1 C.2.1 dX2_write_18 rfl (lv_at hl 2 rfl) ?_
  refine gw_st C Hh 15 pw_at15 (by decide) pw_set15 dX2_write_19 (by omega) (fun H locs Hh => ?_)
  have Hh : gw_H G A s (pw G q (u.1, up2 (up2 u.2 14 (u.1 1) (d)) 15 (u.1 1) (g))) H locs := Hh
  refine lv_aload_n C.1 C.2.1 dX2_write_20 rfl (lv_at hl 0 rfl) ?_
  refine gw_get (Cn := RX2) (T := TX2) (N := 7) C Hh 3 pw_at3 rfl uwX2 3 (by decide) rfl tw_157 rfl dX2_write_21 ?_
  refine lv_aload_n C.1 C.2.1 dX2_write_24 rfl (lv_at hl 0 rfl) ?_
  refine gw_get (Cn := RX2) (T := TX2) (N := 7) C Hh 3 pw_at3 rfl uwX2 0 (by decide) rfl tw_151 rfl dX2_write_25 ?_
  refine W.eq (g2 := F0 m 28 ls [.int (nI (u.1 1)), .ref (q 16)]) rfl ?_
  refine lv_iload_n C.1 C.2.1 dX2_write_28 rfl (lv_at hl 3 rfl) ?_
  refine gw_st C Hh 16 pw_at16 (by decide) pw_set16 dX2_write_29 (by omega) (fun H locs Hh => ?_)
  have Hh : gw_H G A s (pw G q (u.1, up2 (up2 (up2 u.2 14 (u.1 1) (d)) 15 (u.1 1) (g)) 16 (u.1 1) (n))) H locs := Hh
  refine lv_aload_n C.1 C.2.1 dX2_write_30 rfl (lv_at hl 0 rfl) ?_
  refine gw_get (Cn := RX2) (T := TX2) (N := 7) C Hh 3 pw_at3 rfl uwX2 4 (by decide) rfl tw_159 rfl dX2_write_31 ?_
  refine lv_aload_n C.1 C.2.1 dX2_write_34 rfl (lv_at hl 0 rfl) ?_
  refine gw_get (Cn := RX2) (T := TX2) (N := 7) C Hh 3 pw_at3 rfl uwX2 0 (by decide) rfl tw_151 rfl dX2_write_35 ?_
  refine W.eq (g2 := F0 m 38 ls [.int (nI (u.1 1)), .ref (q 17)]) rfl ?_
  refine lv_iload C.1 C.2.1 dX2_write_38 (lv_at hl 4 rfl) ?_
  refine gw_st C Hh 17 pw_at17 (by decide) pw_set17 dX2_write_40 (by omega) (fun H locs Hh => ?_)
  have Hh : gw_H G A s (pw G q (u.1, up2 (up2 (up2 (up2 u.2 14 (u.1 1) (d)) 15 (u.1 1) (g)) 16 (u.1 1) (n)) 17 (u.1 1) (rk))) H locs := Hh
  refine lv_aload_n C.1 C.2.1 dX2_write_41 rfl (lv_at hl 0 rfl) ?_
  refine gw_get (Cn := RX2) (T := TX2) (N := 7) C Hh 3 pw_at3 rfl uwX2 0 (by decide) rfl tw_151 rfl dX2_write_42 ?_
  refine W.eq (g2 := F0 m 45 ls [.int (nI (u.1 1))]) rfl ?_
  exact gw_iret (w := pw G q) (u := (u.1, up2 (up2 (up2 (up2 u.2 14 (u.1 1) (d)) 15 (u.1 1) (g)) 16 (u.1 1) (n)) 17 (u.1 1) (rk))) C Hh dX2_write_45 ⟨_, rfl, by refine ⟨?_, rfl⟩; first | rfl | omega | (split <;> omega)⟩
set_option maxHeartbeats 4000000 in
set_option maxRecDepth 100000 in
theorem c_X2_has (l : Launch) (G : gw_G) (q : Nat → Nat) (u : pf_S) (g : Nat) (hok : od_ok u) (hg : g < 6) : gw_MI l yX2_has cX2_has 3 (some .boolean) 0 0 [.ref (q 3), .int (nI (g))] G (pw G q) u (fun r u1 => ∃ k : Nat, r = nI k ∧ (((k = 1 ∧ ∃ a, a < u.1 1 ∧ u.2 15 a = g) ∨ (k = 0 ∧ ∀ a, a < u.1 1 → u.2 15 a ≠ g)) ∧ u1 = u)) := by
  refine gw_entryI (own := RX2) (by decide) rfl (Nat.le_of_ble_eq_true rfl) ?_
  intro p e s m args below meth c A ls C Hh hl
  have hl : lv_has ls 3 [(0, .ref (q 3)), (1, .int (nI (g)))] := hl
  have h0 := hok.1
  refine lv_iconst (v := nI 0) C.1 C.2.1 dX2_has_0 (by decide +kernel) ?_
  refine lv_istore_n (lv' := [(2, .int (nI (0))), (0, .ref (q 3)), (1, .int (nI (g)))]) C.1 C.2.1 dX2_has_1 rfl hl (by decide) rfl (fun ls hl => ?_)
  have loop_2 : ∀ (fu : Nat) (i : Nat) (H : Heap) (locs : List Loc) (ls : Array Slot), (i ≤ u.1 1) → (∀ j, j < i → u.2 15 j ≠ g) → u.1 1 - i < fu → gw_H G A s (pw G q u) H locs → lv_has ls 3 [(0, .ref (q 3)), (1, .int (nI (g))), (2, .int (nI (i)))] → W p l e (gw_rm 0 0) s m args below meth c H locs 0 0 (MQ below (va_Qi (fun r u1 => ∃ k : Nat, r = nI k ∧ (((k = 1 ∧ ∃ a, a < u.1 1 ∧ u.2 15 a = g) ∨ (k = 0 ∧ ∀ a, a < u.1 1 → u.2 15 a ≠ g)) ∧ u1 = u)) (gw_at G A (pw G q)) A) args s 0 0 A) (F0 m 2 ls []) := by
    intro fu
    induction fu with
    | zero =>
      intro i  H locs ls hi hno hmf
      exact absurd hmf (Nat.not_lt_zero _)
    | succ fu ih_2 =>
      intro i  H locs ls hi hno hmf Hh hl
      refine lv_iload_n C.1 C.2.1 dX2_has_2 rfl (lv_at hl 2 rfl) ?_
      refine lv_aload_n C.1 C.2.1 dX2_has_3 rfl (lv_at hl 0 rfl) ?_
      refine gw_get (Cn := RX2) (T := TX2) (N := 7) C Hh 3 pw_at3 rfl uwX2 0 (by decide) rfl tw_151 rfl dX2_has_4 ?_
      refine gw_icmp_ge (tgt := 28) C dX2_has_7 (by decide) (by omega) (by omega) (fun hc_7 => ?_) (fun hc_7 => ?_)
      · skip
        refine lv_iconst (v := nI 0) C.1 C.2.1 dX2_has_28 (by decide +kernel) ?_
        exact gw_zret (w := pw G q) (u := u) C Hh dX2_has_29 (by omega) ⟨_, rfl, by exact ⟨Or.inr ⟨rfl, fun j h => hno j (by omega)⟩, rfl⟩⟩
      · skip
        refine lv_aload_n C.1 C.2.1 dX2_has_10 rfl (lv_at hl 0 rfl) ?_
        refine gw_get (Cn := RX2) (T := TX2) (N := 7) C Hh 3 pw_at3 rfl uwX2 2 (by decide) rfl tw_155 rfl dX2_has_11 ?_
        refine lv_iload_n C.1 C.2.1 dX2_has_14 rfl (lv_at hl 2 rfl) ?_
        refine gw_ld C Hh 15 pw_at15 (by decide) dX2_has_15 (by omega) ?_
        have h8 := hok.2.2.1 i (by omega)
        refine lv_iload_n C.1 C.2.1 dX2_has_16 rfl (lv_at hl 1 rfl) ?_
        refine gw_icmp_ne (tgt := 22) C dX2_has_17 (by decide) (by omega) (by omega) (fun hc_17 => ?_) (fun hc_17 => ?_)
        · skip
          refine lv_iinc (v := nI (i + 1)) (lv' := [(2, .int (nI (i + 1))), (0, .ref (q 3)), (1, .int (nI (g)))]) C.1 C.2.1 dX2_has_22 hl (k := 2) rfl (nI_add _ 1) (by decide) rfl (fun ls hl => ?_)
          refine lv_goto (tgt := 2) C.1 C.2.1 dX2_has_25 (by decide) ?_
          exact ih_2 (i + 1)  _ _ _ (by first | assumption | omega) (by intro o h; by_cases h1 : o = i; (subst h1; omega); exact hno o (by omega)) (by omega) Hh (lv_sub hl [1, 2, 0] rfl)
        · skip
          refine lv_iconst (v := nI 1) C.1 C.2.1 dX2_has_20 (by decide +kernel) ?_
          exact gw_zret (w := pw G q) (u := u) C Hh dX2_has_21 (by omega) ⟨_, rfl, by exact ⟨Or.inl ⟨rfl, i, by omega, by omega⟩, rfl⟩⟩
  exact loop_2 _ (0)  _ _ _ (by first | assumption | omega) (by intro o h; omega) (Nat.lt_succ_self _) Hh (lv_sub hl [1, 2, 0] rfl)
set_option maxHeartbeats 4000000 in
set_option maxRecDepth 100000 in
theorem c_X2_numberIn (l : Launch) (G : gw_G) (q : Nat → Nat) (u : pf_S) (x : Nat) (hok : od_ok u) (hx : x ≤ 2) : gw_MI l yX2_numberIn cX2_numberIn 4 (some .int) 0 0 [.ref (q 3), .int (nI (x))] G (pw G q) u (fun r u1 => ∃ k : Nat, r = nI k ∧ (k = fl_sum (fun a => if u.2 18 a = x then 1 else 0) (u.1 1) ∧ u1 = u)) := by
  refine gw_entryI (own := RX2) (by decide) rfl (Nat.le_of_ble_eq_true rfl) ?_
  intro p e s m args below meth c A ls C Hh hl
  have hl : lv_has ls 4 [(0, .ref (q 3)), (1, .int (nI (x)))] := hl
  have h0 := hok.1
  refine lv_iconst (v := nI 0) C.1 C.2.1 dX2_numberIn_0 (by decide +kernel) ?_
  refine lv_istore_n (lv' := [(2, .int (nI (0))), (0, .ref (q 3)), (1, .int (nI (x)))]) C.1 C.2.1 dX2_numberIn_1 rfl hl (by decide) rfl (fun ls hl => ?_)
  refine lv_iconst (v := nI 0) C.1 C.2.1 dX2_numberIn_2 (by decide +kernel) ?_
  refine lv_istore_n (lv' := [(3, .int (nI (0))), (2, .int (nI (0))), (0, .ref (q 3)), (1, .int (nI (x)))]) C.1 C.2.1 dX2_numberIn_3 rfl hl (by decide) rfl (fun ls hl => ?_)
  have loop_4 : ∀ (fu : Nat) (i : Nat) (z : Nat) (H : Heap) (locs : List Loc) (ls : Array Slot), (i ≤ u.1 1) → (z = fl_sum (fun a => if u.2 18 a = x then 1 else 0) i) → u.1 1 - i < fu → gw_H G A s (pw G q u) H locs → lv_has ls 4 [(0, .ref (q 3)), (1, .int (nI (x))), (2, .int (nI (z))), (3, .int (nI (i)))] → W p l e (gw_rm 0 0) s m args below meth c H locs 0 0 (MQ below (va_Qi (fun r u1 => ∃ k : Nat, r = nI k ∧ (k = fl_sum (fun a => if u.2 18 a = x then 1 else 0) (u.1 1) ∧ u1 = u)) (gw_at G A (pw G q)) A) args s 0 0 A) (F0 m 4 ls []) := by
    intro fu
    induction fu with
    | zero =>
      intro i z  H locs ls hi hz hmf
      exact absurd hmf (Nat.not_lt_zero _)
    | succ fu ih_4 =>
      intro i z  H locs ls hi hz hmf Hh hl
      refine lv_iload_n C.1 C.2.1 dX2_numberIn_4 rfl (lv_at hl 3 rfl) ?_
      refine lv_aload_n C.1 C.2.1 dX2_numberIn_5 rfl (lv_at hl 0 rfl) ?_
      refine gw_get (Cn := RX2) (T := TX2) (N := 7) C Hh 3 pw_at3 rfl uwX2 0 (by decide) rfl tw_151 rfl dX2_numberIn_6 ?_
      refine gw_icmp_ge (tgt := 31) C dX2_numberIn_9 (by decide) (by omega) (by omega) (fun hc_9 => ?_) (fun hc_9 => ?_)
      · skip
        refine lv_iload_n C.1 C.2.1 dX2_numberIn_31 rfl (lv_at hl 2 rfl) ?_
        exact gw_iret (w := pw G q) (u := u) C Hh dX2_numberIn_32 ⟨_, rfl, by refine ⟨?_, rfl⟩; rw [hz, show i = u.1 1 by omega]⟩
      · skip
        refine lv_aload_n C.1 C.2.1 dX2_numberIn_12 rfl (lv_at hl 0 rfl) ?_
        refine gw_get (Cn := RX2) (T := TX2) (N := 7) C Hh 3 pw_at3 rfl uwX2 5 (by decide) rfl tw_160 rfl dX2_numberIn_13 ?_
        refine lv_iload_n C.1 C.2.1 dX2_numberIn_16 rfl (lv_at hl 3 rfl) ?_
        refine gw_ld C Hh 18 pw_at18 (by decide) dX2_numberIn_17 (by omega) ?_
        have h8 := hok.2.2.2.2.2.1 i (by omega)
        refine lv_iload_n C.1 C.2.1 dX2_numberIn_18 rfl (lv_at hl 1 rfl) ?_
        have join_25 : ∀ (z2 : Nat) (H : Heap) (locs : List Loc) (ls : Array Slot), (z2 = fl_sum (fun a => if u.2 18 a = x then 1 else 0) (i + 1)) → gw_H G A s (pw G q u) H locs → lv_has ls 4 [(0, .ref (q 3)), (1, .int (nI (x))), (2, .int (nI (z2))), (3, .int (nI (i)))] → W p l e (gw_rm 0 0) s m args below meth c H locs 0 0 (MQ below (va_Qi (fun r u1 => ∃ k : Nat, r = nI k ∧ (k = fl_sum (fun a => if u.2 18 a = x then 1 else 0) (u.1 1) ∧ u1 = u)) (gw_at G A (pw G q)) A) args s 0 0 A) (F0 m 25 ls []) := by
          intro z2  H locs ls hz2 Hh hl
          refine lv_iinc (v := nI (i + 1)) (lv' := [(3, .int (nI (i + 1))), (0, .ref (q 3)), (1, .int (nI (x))), (2, .int (nI (z2)))]) C.1 C.2.1 dX2_numberIn_25 hl (k := 3) rfl (nI_add _ 1) (by decide) rfl (fun ls hl => ?_)
          refine lv_goto (tgt := 4) C.1 C.2.1 dX2_numberIn_28 (by decide) ?_
          exact ih_4 (i + 1) (z2)  _ _ _ (by first | assumption | omega) (by exact hz2) (by omega) Hh (lv_sub hl [1, 2, 3, 0] rfl)
        refine gw_icmp_ne (tgt := 25) C dX2_numberIn_19 (by decide) (by omega) (by omega) (fun hc_19 => ?_) (fun hc_19 => ?_)
        · skip
          exact join_25 (z)  _ _ _ (by rw [hz, fl_sum_succ]; rw [if_neg hc_19]; rfl) Hh (lv_sub hl [0, 1, 2, 3] rfl)
        · skip
          refine lv_iinc (v := nI (z + 1)) (lv' := [(2, .int (nI (z + 1))), (0, .ref (q 3)), (1, .int (nI (x))), (3, .int (nI (i)))]) C.1 C.2.1 dX2_numberIn_22 hl (k := 2) rfl (nI_add _ 1) (by decide) rfl (fun ls hl => ?_)
          exact join_25 (z + 1)  _ _ _ (by rw [hz, fl_sum_succ]; rw [if_pos hc_19]) Hh (lv_sub hl [1, 2, 0, 3] rfl)
  exact loop_4 _ (0) (0)  _ _ _ (by first | assumption | omega) (by rfl) (Nat.lt_succ_self _) Hh (lv_sub hl [2, 3, 1, 0] rfl)
set_option maxHeartbeats 4000000 in
set_option maxRecDepth 100000 in
theorem c_X2_admit (l : Launch) (G : gw_G) (q : Nat → Nat) (u : pf_S)  (h0 : u.1 1 < 10) (hrk : ∀ a, a < 10 → u.2 17 a ≤ 9) (hrow : kx_row (u.2 17) (u.1 1) (u.2 19)) : gw_MV l yX2_admit cX2_admit 2 none 0 0 [.ref (q 3)] G (pw G q) u (fun u1 => ∃ b, kx_row (u.2 17) (u.1 1 + 1) b ∧ u1 = (up1 u.1 1 (u.1 1 + 1), up2 (upA u.2 19 b) 18 (u.1 1) 0)) := by
  refine gw_entryV (own := RX2) (by decide) rfl (Nat.le_of_ble_eq_true rfl) ?_
  intro p e s m args below meth c A ls C Hh hl
  have hl : lv_has ls 2 [(0, .ref (q 3))] := hl
  refine lv_aload_n C.1 C.2.1 dX2_admit_0 rfl (lv_at hl 0 rfl) ?_
  refine gw_get (Cn := RX2) (T := TX2) (N := 7) C Hh 3 pw_at3 rfl uwX2 0 (by decide) rfl tw_151 rfl dX2_admit_1 ?_
  refine lv_istore_n (lv' := [(1, .int (nI (u.1 1))), (0, .ref (q 3))]) C.1 C.2.1 dX2_admit_4 rfl hl (by decide) rfl (fun ls hl => ?_)
  have loop_5 : ∀ (fu : Nat) (t : Nat) (ud : pf_S) (H : Heap) (locs : List Loc) (ls : Array Slot), (t ≤ u.1 1) → (st_but 19 u ud) → (so_in (u.2 17) (u.1 1) t (ud.2 19)) → t < fu → gw_H G A s (pw G q ud) H locs → lv_has ls 2 [(0, .ref (q 3)), (1, .int (nI (t)))] → W p l e (gw_rm 0 0) s m args below meth c H locs 0 0 (MQ below (va_Qv (fun u1 => ∃ b, kx_row (u.2 17) (u.1 1 + 1) b ∧ u1 = (up1 u.1 1 (u.1 1 + 1), up2 (upA u.2 19 b) 18 (u.1 1) 0)) (gw_at G A (pw G q)) A) args s 0 0 A) (F0 m 5 ls []) := by
    intro fu
    induction fu with
    | zero =>
      intro t ud H locs ls ht hfr2 hso hmf
      exact absurd hmf (Nat.not_lt_zero _)
    | succ fu ih_5 =>
      intro t ud H locs ls ht hfr2 hso hmf Hh hl
      have h10 : ud.2 17 = u.2 17 := hfr2.2 17 (by decide)
      have hn1 : ud.1 1 = u.1 1 := by rw [hfr2.1]
      have hta := hrk (u.1 1) (by omega)
      refine lv_iload_n C.1 C.2.1 dX2_admit_5 rfl (lv_at hl 1 rfl) ?_
      refine gw_if_le (tgt := 54) C dX2_admit_6 (by decide) (by omega) (fun hc_6 => ?_) (fun hc_6 => ?_)
      · skip
        refine lv_aload_n C.1 C.2.1 dX2_admit_54 rfl (lv_at hl 0 rfl) ?_
        refine gw_get (Cn := RX2) (T := TX2) (N := 7) C Hh 3 pw_at3 rfl uwX2 6 (by decide) rfl tw_162 rfl dX2_admit_55 ?_
        refine lv_iload_n C.1 C.2.1 dX2_admit_58 rfl (lv_at hl 1 rfl) ?_
        refine lv_aload_n C.1 C.2.1 dX2_admit_59 rfl (lv_at hl 0 rfl) ?_
        refine gw_get (Cn := RX2) (T := TX2) (N := 7) C Hh 3 pw_at3 rfl uwX2 0 (by decide) rfl tw_151 rfl dX2_admit_60 ?_
        refine gw_st C Hh 19 pw_at19 (by decide) pw_set19 dX2_admit_63 (by omega) (fun H locs Hh => ?_)
        have Hh : gw_H G A s (pw G q (ud.1, up2 ud.2 19 (t) (ud.1 1))) H locs := Hh
        refine lv_aload_n C.1 C.2.1 dX2_admit_64 rfl (lv_at hl 0 rfl) ?_
        refine gw_get (Cn := RX2) (T := TX2) (N := 7) C Hh 3 pw_at3 rfl uwX2 5 (by decide) rfl tw_160 rfl dX2_admit_65 ?_
        refine lv_aload_n C.1 C.2.1 dX2_admit_68 rfl (lv_at hl 0 rfl) ?_
        refine gw_get (Cn := RX2) (T := TX2) (N := 7) C Hh 3 pw_at3 rfl uwX2 0 (by decide) rfl tw_151 rfl dX2_admit_69 ?_
        refine W.eq (g2 := F0 m 72 ls [.int (nI (ud.1 1)), .ref (q 18)]) rfl ?_
        refine lv_iconst (v := nI 0) C.1 C.2.1 dX2_admit_72 (by decide +kernel) ?_
        refine gw_st C Hh 18 pw_at18 (by decide) pw_set18 dX2_admit_73 (by omega) (fun H locs Hh => ?_)
        have Hh : gw_H G A s (pw G q (ud.1, up2 (up2 ud.2 19 (t) (ud.1 1)) 18 (ud.1 1) (0))) H locs := Hh
        refine lv_aload_n C.1 C.2.1 dX2_admit_74 rfl (lv_at hl 0 rfl) ?_
        refine lv_dup C.1 C.2.1 dX2_admit_75 rfl ?_
        refine gw_get (Cn := RX2) (T := TX2) (N := 7) C Hh 3 pw_at3 rfl uwX2 0 (by decide) rfl tw_151 rfl dX2_admit_76 ?_
        refine W.eq (g2 := F0 m 79 ls [.int (nI (ud.1 1)), .ref (q 3)]) rfl ?_
        refine lv_iconst (v := nI 1) C.1 C.2.1 dX2_admit_79 (by decide +kernel) ?_
        refine gw_iadd C dX2_admit_80 ?_
        refine gw_put (Cn := RX2) (T := TX2) (N := 7) (ty0 := tyX2) (v := nI ((ud.1 1) + 1)) C Hh 3 pw_at3 rfl uwX2 tyX2_ok nmX2 0 (by decide) rfl tw_151 rfl (by decide +kernel) (Nat.le_of_ble_eq_true rfl) pw_num1 dX2_admit_81 (fun H locs Hh => ?_)
        exact gw_vret (w := pw G q) (u := (up1 ud.1 1 ((ud.1 1) + 1), up2 (up2 ud.2 19 (t) (ud.1 1)) 18 (ud.1 1) (0))) C Hh dX2_admit_84 (by exact ⟨_, so_end hso (by omega) (by first | omega | (right; rw [h10, hn1] at hc_31; exact hc_31)), by rw [hn1, so_put hfr2, hfr2.1]⟩)
      · skip
        refine lv_aload_n C.1 C.2.1 dX2_admit_9 rfl (lv_at hl 0 rfl) ?_
        refine gw_get (Cn := RX2) (T := TX2) (N := 7) C Hh 3 pw_at3 rfl uwX2 4 (by decide) rfl tw_159 rfl dX2_admit_10 ?_
        refine lv_aload_n C.1 C.2.1 dX2_admit_13 rfl (lv_at hl 0 rfl) ?_
        refine gw_get (Cn := RX2) (T := TX2) (N := 7) C Hh 3 pw_at3 rfl uwX2 6 (by decide) rfl tw_162 rfl dX2_admit_14 ?_
        refine lv_iload_n C.1 C.2.1 dX2_admit_17 rfl (lv_at hl 1 rfl) ?_
        refine lv_iconst (v := nI 1) C.1 C.2.1 dX2_admit_18 (by decide +kernel) ?_
        refine gw_isub C dX2_admit_19 (by omega) ?_
        have hb := hso.2.1 (t - 1) (by omega) (by omega)
        refine gw_ld C Hh 19 pw_at19 (by decide) dX2_admit_20 (by omega) ?_
        refine gw_ld C Hh 17 pw_at17 (by decide) dX2_admit_21 (by omega) ?_
        refine lv_aload_n C.1 C.2.1 dX2_admit_22 rfl (lv_at hl 0 rfl) ?_
        refine gw_get (Cn := RX2) (T := TX2) (N := 7) C Hh 3 pw_at3 rfl uwX2 4 (by decide) rfl tw_159 rfl dX2_admit_23 ?_
        refine lv_aload_n C.1 C.2.1 dX2_admit_26 rfl (lv_at hl 0 rfl) ?_
        refine gw_get (Cn := RX2) (T := TX2) (N := 7) C Hh 3 pw_at3 rfl uwX2 0 (by decide) rfl tw_151 rfl dX2_admit_27 ?_
        refine gw_ld C Hh 17 pw_at17 (by decide) dX2_admit_30 (by omega) ?_
        have htb := hrk (ud.2 19 (t - 1)) (by omega)
        refine gw_icmp_le (tgt := 54) C dX2_admit_31 (by decide) (by rw [h10]; omega) (by rw [h10, hn1]; omega) (fun hc_31 => ?_) (fun hc_31 => ?_)
        · skip
          refine lv_aload_n C.1 C.2.1 dX2_admit_54 rfl (lv_at hl 0 rfl) ?_
          refine gw_get (Cn := RX2) (T := TX2) (N := 7) C Hh 3 pw_at3 rfl uwX2 6 (by decide) rfl tw_162 rfl dX2_admit_55 ?_
          refine lv_iload_n C.1 C.2.1 dX2_admit_58 rfl (lv_at hl 1 rfl) ?_
          refine lv_aload_n C.1 C.2.1 dX2_admit_59 rfl (lv_at hl 0 rfl) ?_
          refine gw_get (Cn := RX2) (T := TX2) (N := 7) C Hh 3 pw_at3 rfl uwX2 0 (by decide) rfl tw_151 rfl dX2_admit_60 ?_
          refine gw_st C Hh 19 pw_at19 (by decide) pw_set19 dX2_admit_63 (by omega) (fun H locs Hh => ?_)
          have Hh : gw_H G A s (pw G q (ud.1, up2 ud.2 19 (t) (ud.1 1))) H locs := Hh
          refine lv_aload_n C.1 C.2.1 dX2_admit_64 rfl (lv_at hl 0 rfl) ?_
          refine gw_get (Cn := RX2) (T := TX2) (N := 7) C Hh 3 pw_at3 rfl uwX2 5 (by decide) rfl tw_160 rfl dX2_admit_65 ?_
          refine lv_aload_n C.1 C.2.1 dX2_admit_68 rfl (lv_at hl 0 rfl) ?_
          refine gw_get (Cn := RX2) (T := TX2) (N := 7) C Hh 3 pw_at3 rfl uwX2 0 (by decide) rfl tw_151 rfl dX2_admit_69 ?_
          refine W.eq (g2 := F0 m 72 ls [.int (nI (ud.1 1)), .ref (q 18)]) rfl ?_
          refine lv_iconst (v := nI 0) C.1 C.2.1 dX2_admit_72 (by decide +kernel) ?_
          refine gw_st C Hh 18 pw_at18 (by decide) pw_set18 dX2_admit_73 (by omega) (fun H locs Hh => ?_)
          have Hh : gw_H G A s (pw G q (ud.1, up2 (up2 ud.2 19 (t) (ud.1 1)) 18 (ud.1 1) (0))) H locs := Hh
          refine lv_aload_n C.1 C.2.1 dX2_admit_74 rfl (lv_at hl 0 rfl) ?_
          refine lv_dup C.1 C.2.1 dX2_admit_75 rfl ?_
          refine gw_get (Cn := RX2) (T := TX2) (N := 7) C Hh 3 pw_at3 rfl uwX2 0 (by decide) rfl tw_151 rfl dX2_admit_76 ?_
          refine W.eq (g2 := F0 m 79 ls [.int (nI (ud.1 1)), .ref (q 3)]) rfl ?_
          refine lv_iconst (v := nI 1) C.1 C.2.1 dX2_admit_79 (by decide +kernel) ?_
          refine gw_iadd C dX2_admit_80 ?_
          refine gw_put (Cn := RX2) (T := TX2) (N := 7) (ty0 := tyX2) (v := nI ((ud.1 1) + 1)) C Hh 3 pw_at3 rfl uwX2 tyX2_ok nmX2 0 (by decide) rfl tw_151 rfl (by decide +kernel) (Nat.le_of_ble_eq_true rfl) pw_num1 dX2_admit_81 (fun H locs Hh => ?_)
          exact gw_vret (w := pw G q) (u := (up1 ud.1 1 ((ud.1 1) + 1), up2 (up2 ud.2 19 (t) (ud.1 1)) 18 (ud.1 1) (0))) C Hh dX2_admit_84 (by exact ⟨_, so_end hso (by omega) (by first | omega | (right; rw [h10, hn1] at hc_31; exact hc_31)), by rw [hn1, so_put hfr2, hfr2.1]⟩)
        · skip
          refine lv_aload_n C.1 C.2.1 dX2_admit_34 rfl (lv_at hl 0 rfl) ?_
          refine gw_get (Cn := RX2) (T := TX2) (N := 7) C Hh 3 pw_at3 rfl uwX2 6 (by decide) rfl tw_162 rfl dX2_admit_35 ?_
          refine lv_iload_n C.1 C.2.1 dX2_admit_38 rfl (lv_at hl 1 rfl) ?_
          refine lv_aload_n C.1 C.2.1 dX2_admit_39 rfl (lv_at hl 0 rfl) ?_
          refine gw_get (Cn := RX2) (T := TX2) (N := 7) C Hh 3 pw_at3 rfl uwX2 6 (by decide) rfl tw_162 rfl dX2_admit_40 ?_
          refine lv_iload_n C.1 C.2.1 dX2_admit_43 rfl (lv_at hl 1 rfl) ?_
          refine lv_iconst (v := nI 1) C.1 C.2.1 dX2_admit_44 (by decide +kernel) ?_
          refine gw_isub C dX2_admit_45 (by omega) ?_
          refine gw_ld C Hh 19 pw_at19 (by decide) dX2_admit_46 (by omega) ?_
          refine gw_st C Hh 19 pw_at19 (by decide) pw_set19 dX2_admit_47 (by omega) (fun H locs Hh => ?_)
          have Hh : gw_H G A s (pw G q (ud.1, up2 ud.2 19 (t) (ud.2 19 (t - 1)))) H locs := Hh
          refine lv_iinc (v := nI (t - 1)) (lv' := [(1, .int (nI (t - 1))), (0, .ref (q 3))]) C.1 C.2.1 dX2_admit_48 hl (k := 1) rfl (sb_m1 (by omega)) (by decide) rfl (fun ls hl => ?_)
          refine lv_goto (tgt := 5) C.1 C.2.1 dX2_admit_51 (by decide) ?_
          exact ih_5 (t - 1) ((ud.1, up2 ud.2 19 (t) (ud.2 19 (t - 1)))) _ _ _ (by first | assumption | omega) (by exact hfr2.up) (by show so_in (u.2 17) (u.1 1) (t - 1) (up2 ud.2 19 t (ud.2 19 (t - 1)) 19); rw [up2_at]; exact so_step hso (by omega) ht (by rw [h10, hn1] at hc_31; omega)) (by omega) Hh (lv_sub hl [1, 0] rfl)
  exact loop_5 _ (u.1 1) (u) _ _ _ (by first | assumption | omega) (by exact st_but.rf) (by exact so_start hrow) (Nat.lt_succ_self _) Hh (lv_sub hl [1, 0] rfl)
end
section
section GWD
variable {p : Program} {l : Launch} {e : Env} {R : Room} {s : State} {m : MethodId} {args : Array Value} {below : List Frame} {meth : Method} {c : Code} {H : Heap} {locs : List Loc} {cells slots : Nat} {Q : State → Prop}
variable {cc : ByteArray} {pc : Nat} {ls : Array Slot} {rest : List Value} {G : gw_G} {A : Nat → Prop} {own : String} {nL : Nat} {ret : Option FieldType} {ws ws' : va_W} {a : Nat}
theorem gw_neg {x : Nat} (h : 2 ^ 31 ≤ x) (h2 : x < 2 ^ 32) : nI x < 0 := by
  rw [Int32.lt_iff_toInt_lt]
  show (Int32.ofNat x).toInt < 0
  rw [Int32.toInt_ofNat']
  simp only [Int.bmod, show (Int32.size : Int) = 4294967296 from rfl]
  omega
theorem gw_if_geN {x tgt : Nat} {off : Int} (C : gw_C p s m args meth c G own cc nL ret) (hdg : decode cc pc = .ok (.ifCond .ge off, 3)) (ht : (pc : Int) + off = (tgt : Int)) (hx : 2 ^ 31 ≤ x) (hx2 : x < 2 ^ 32) (kf : W p l e R s m args below meth c H locs cells slots Q (F0 m (pc + 3) ls rest)) : W p l e R s m args below meth c H locs cells slots Q (F0 m pc ls (.int (nI x) :: rest)) :=
  lv_if_ge C.1 C.2.1 hdg ht (fun h => absurd (gw_neg hx hx2) (Int32.not_lt.mpr h)) (fun _ => kf)
variable {y : MethodName} {c1 : ByteArray} {mL fr lo idx n : Nat} {r1 : Option FieldType} {Qc : Array Value → State → Outcome → State → Prop}
theorem gw_runSO (As : List Value) (C : gw_C p s m args meth c G own cc nL ret) (Hh : gw_H G A s ws H locs) (hM : Met l y (Cond.code y c1 mL r1 :: pf_tb) (gw_rm fr lo) (va_Pc As (gw_pre G ws H.size)) Qc 0 0 (va_A ws H.size))
    (t1 : Cond.methodLink own idx y ∈ pf_tb) (t2 : Cond.static y ∈ pf_tb) (t4 : Cond.initialized y.cls ∈ pf_tb) (t5 : Cond.code y c1 mL r1 ∈ pf_tb)
    (hd : y.cls ≠ "java/lang/invoke/MethodHandle" ∧ y.cls ≠ "java/lang/invoke/VarHandle" ∧ (parseMethodDescriptor y.desc).map (fun d => d.parameters.length) = some n) (hR : fr + 1 ≤ R.frames ∧ 8 + (mL + 11) + lo ≤ R.locals)
    (hn : As.length = n) (hls : ls.size = nL) (hst : (rest.map fun v => v.category).sum ≤ 8) (hdg : decode cc pc = .ok (.invokestatic idx, 3)) (h0 : cells ≤ R.cells ∧ slots ≤ R.slots) :
    va_Run p l e R s m args below meth c H locs cells slots 0 0 (F0 m pc ls (As.reverse ++ rest)) rest (Qc As.toArray) (va_A ws H.size) :=
  va_runS (As := As) (rest := rest) ⟨C.1, C.2.1, C.2.2.2.1, C.cl, C.2.2.2.2.2.1⟩ hM ⟨callB_of n C.2.2.2.2.2.1 (gw_good t5) rfl rfl rfl (C.ts t4) (C.ts t1) hd hR, C.ts t2⟩ ⟨gw_blind, gw_give C Hh⟩ rfl hn hls rfl (lv_room hst) hdg h0
end GWD
/-- what demand d takes from arrival a -/
def tk_x (u : pf_S) (d a : Nat) : Nat := u.2 22 (d * 10 + a)
def tk_cap (u : pf_S) : Prop := u.1 2 ≤ 10 ∧ ∀ a, a < u.1 2 → u.2 21 a + fl_sum (fun d => tk_x u d a) 31 ≤ 1000000
theorem tk_cap.x {u : pf_S} (h : tk_cap u) {d a : Nat} (hd : d < 31) (ha : a < u.1 2) : u.2 22 (d * 10 + a) ≤ 1000000 := by
  have h1 := h.2 a ha
  have h2 := fl_sum_one (fun d => tk_x u d a) hd
  unfold tk_x at h1 h2
  omega
/-- arrays of a set apart, two states are the same -/
def st_buts (ks : List Nat) (u v : pf_S) : Prop := v.1 = u.1 ∧ ∀ j, j ∉ ks → v.2 j = u.2 j
theorem st_buts.rf {ks : List Nat} {u : pf_S} : st_buts ks u u := ⟨rfl, fun _ _ => rfl⟩
theorem st_buts.up {ks : List Nat} {k x y : Nat} {u v : pf_S} (h : st_buts ks u v) (hk : k ∈ ks) : st_buts ks u (v.1, up2 v.2 k x y) := ⟨h.1, fun j hj => (up2_ne v.2 (fun e => hj (by rw [e]; exact hk))).trans (h.2 j hj)⟩
set_option maxHeartbeats 4000000 in
set_option maxRecDepth 100000 in
theorem c_X3_save (l : Launch) (G : gw_G) (q : Nat → Nat) (u : pf_S)   : gw_MV l yX3_save cX3_save 1 none 1 60 [.ref (q 4)] G (pw G q) u (fun u1 => st_buts [24, 25] u u1 ∧ (∀ j, j < 10 → u1.2 24 j = u.2 21 j) ∧ ∀ j, j < 310 → u1.2 25 j = u.2 22 j) := by
  refine gw_entryV (own := RX3) (by decide) rfl (Nat.le_of_ble_eq_true rfl) ?_
  intro p e s m args below meth c A ls C Hh hl
  have hl : lv_has ls 1 [(0, .ref (q 4))] := hl
  refine lv_aload_n C.1 C.2.1 dX3_save_0 rfl (lv_at hl 0 rfl) ?_
  refine gw_get (Cn := RX3) (T := TX3) (N := 10) C Hh 4 pw_at4 rfl uwX3 2 (by decide) rfl tw_187 rfl dX3_save_1 ?_
  refine lv_iconst (v := nI 0) C.1 C.2.1 dX3_save_4 (by decide +kernel) ?_
  refine lv_aload_n C.1 C.2.1 dX3_save_5 rfl (lv_at hl 0 rfl) ?_
  refine gw_get (Cn := RX3) (T := TX3) (N := 10) C Hh 4 pw_at4 rfl uwX3 5 (by decide) rfl tw_192 rfl dX3_save_6 ?_
  refine lv_iconst (v := nI 0) C.1 C.2.1 dX3_save_9 (by decide +kernel) ?_
  refine lv_bipush (v := nI 10) C.1 C.2.1 dX3_save_10 (by decide +kernel) ?_
  refine gw_copy C Hh hl.1 tw_423 tw_425 tw_424 tw_78 21 24 pw_at21 pw_at24 (by decide) pw_cpy24 (by decide) (by decide) dX3_save_12 (fun H locs Hh => ?_)
  have Hh : gw_H G A s (pw G q (u.1, upA u.2 24 (fun j => if j < 10 then u.2 21 (j) else u.2 24 (j)))) H locs := Hh
  refine lv_aload_n C.1 C.2.1 dX3_save_15 rfl (lv_at hl 0 rfl) ?_
  refine gw_get (Cn := RX3) (T := TX3) (N := 10) C Hh 4 pw_at4 rfl uwX3 3 (by decide) rfl tw_189 rfl dX3_save_16 ?_
  refine lv_iconst (v := nI 0) C.1 C.2.1 dX3_save_19 (by decide +kernel) ?_
  refine lv_aload_n C.1 C.2.1 dX3_save_20 rfl (lv_at hl 0 rfl) ?_
  refine gw_get (Cn := RX3) (T := TX3) (N := 10) C Hh 4 pw_at4 rfl uwX3 6 (by decide) rfl tw_193 rfl dX3_save_21 ?_
  refine lv_iconst (v := nI 0) C.1 C.2.1 dX3_save_24 (by decide +kernel) ?_
  refine lv_sipush (v := nI 310) C.1 C.2.1 dX3_save_25 (by decide +kernel) ?_
  refine gw_copy C Hh hl.1 tw_423 tw_425 tw_424 tw_78 22 25 pw_at22 pw_at25 (by decide) pw_cpy25 (by decide) (by decide) dX3_save_28 (fun H locs Hh => ?_)
  have Hh : gw_H G A s (pw G q (u.1, upA (upA u.2 24 (fun j => if j < 10 then u.2 21 (j) else u.2 24 (j))) 25 (fun j => if j < 310 then u.2 22 (j) else u.2 25 (j)))) H locs := Hh
  exact gw_vret (w := pw G q) (u := (u.1, upA (upA u.2 24 (fun j => if j < 10 then u.2 21 (j) else u.2 24 (j))) 25 (fun j => if j < 310 then u.2 22 (j) else u.2 25 (j)))) C Hh dX3_save_31 (by refine ⟨⟨rfl, fun j hj => ?_⟩, fun j hj => ?_, fun j hj => ?_⟩ <;> simp only [List.mem_cons, List.not_mem_nil, or_false, not_or] at * <;> first | (show upA (upA _ _ _) _ _ j = _; rw [upA_ne _ hj.2, upA_ne _ hj.1]) | (show upA (upA _ _ _) _ _ _ j = _; rw [upA_ne _ (by decide), upA_at, if_pos hj]) | (show upA (upA _ _ _) _ _ _ j = _; rw [upA_at, if_pos hj]))
set_option maxHeartbeats 4000000 in
set_option maxRecDepth 100000 in
theorem c_X3_restore (l : Launch) (G : gw_G) (q : Nat → Nat) (u : pf_S)   : gw_MV l yX3_restore cX3_restore 1 none 1 60 [.ref (q 4)] G (pw G q) u (fun u1 => st_buts [21, 22] u u1 ∧ (∀ j, j < 10 → u1.2 21 j = u.2 24 j) ∧ ∀ j, j < 310 → u1.2 22 j = u.2 25 j) := by
  refine gw_entryV (own := RX3) (by decide) rfl (Nat.le_of_ble_eq_true rfl) ?_
  intro p e s m args below meth c A ls C Hh hl
  have hl : lv_has ls 1 [(0, .ref (q 4))] := hl
  refine lv_aload_n C.1 C.2.1 dX3_restore_0 rfl (lv_at hl 0 rfl) ?_
  refine gw_get (Cn := RX3) (T := TX3) (N := 10) C Hh 4 pw_at4 rfl uwX3 5 (by decide) rfl tw_192 rfl dX3_restore_1 ?_
  refine lv_iconst (v := nI 0) C.1 C.2.1 dX3_restore_4 (by decide +kernel) ?_
  refine lv_aload_n C.1 C.2.1 dX3_restore_5 rfl (lv_at hl 0 rfl) ?_
  refine gw_get (Cn := RX3) (T := TX3) (N := 10) C Hh 4 pw_at4 rfl uwX3 2 (by decide) rfl tw_187 rfl dX3_restore_6 ?_
  refine lv_iconst (v := nI 0) C.1 C.2.1 dX3_restore_9 (by decide +kernel) ?_
  refine lv_bipush (v := nI 10) C.1 C.2.1 dX3_restore_10 (by decide +kernel) ?_
  refine gw_copy C Hh hl.1 tw_423 tw_425 tw_424 tw_78 24 21 pw_at24 pw_at21 (by decide) pw_cpy21 (by decide) (by decide) dX3_restore_12 (fun H locs Hh => ?_)
  have Hh : gw_H G A s (pw G q (u.1, upA u.2 21 (fun j => if j < 10 then u.2 24 (j) else u.2 21 (j)))) H locs := Hh
  refine lv_aload_n C.1 C.2.1 dX3_restore_15 rfl (lv_at hl 0 rfl) ?_
  refine gw_get (Cn := RX3) (T := TX3) (N := 10) C Hh 4 pw_at4 rfl uwX3 6 (by decide) rfl tw_193 rfl dX3_restore_16 ?_
  refine lv_iconst (v := nI 0) C.1 C.2.1 dX3_restore_19 (by decide +kernel) ?_
  refine lv_aload_n C.1 C.2.1 dX3_restore_20 rfl (lv_at hl 0 rfl) ?_
  refine gw_get (Cn := RX3) (T := TX3) (N := 10) C Hh 4 pw_at4 rfl uwX3 3 (by decide) rfl tw_189 rfl dX3_restore_21 ?_
  refine lv_iconst (v := nI 0) C.1 C.2.1 dX3_restore_24 (by decide +kernel) ?_
  refine lv_sipush (v := nI 310) C.1 C.2.1 dX3_restore_25 (by decide +kernel) ?_
  refine gw_copy C Hh hl.1 tw_423 tw_425 tw_424 tw_78 25 22 pw_at25 pw_at22 (by decide) pw_cpy22 (by decide) (by decide) dX3_restore_28 (fun H locs Hh => ?_)
  have Hh : gw_H G A s (pw G q (u.1, upA (upA u.2 21 (fun j => if j < 10 then u.2 24 (j) else u.2 21 (j))) 22 (fun j => if j < 310 then u.2 25 (j) else u.2 22 (j)))) H locs := Hh
  exact gw_vret (w := pw G q) (u := (u.1, upA (upA u.2 21 (fun j => if j < 10 then u.2 24 (j) else u.2 21 (j))) 22 (fun j => if j < 310 then u.2 25 (j) else u.2 22 (j)))) C Hh dX3_restore_31 (by refine ⟨⟨rfl, fun j hj => ?_⟩, fun j hj => ?_, fun j hj => ?_⟩ <;> simp only [List.mem_cons, List.not_mem_nil, or_false, not_or] at * <;> first | (show upA (upA _ _ _) _ _ j = _; rw [upA_ne _ hj.2, upA_ne _ hj.1]) | (show upA (upA _ _ _) _ _ _ j = _; rw [upA_ne _ (by decide), upA_at, if_pos hj]) | (show upA (upA _ _ _) _ _ _ j = _; rw [upA_at, if_pos hj]))
def gb_inv (u : pf_S) (d i : Nat) (v : pf_S) : Prop := st_buts [21, 22] u v ∧ (∀ a, a < i → v.2 21 a = u.2 21 a + tk_x u d a ∧ tk_x v d a = 0) ∧ (∀ a, i ≤ a → a < 10 → v.2 21 a = u.2 21 a ∧ tk_x v d a = tk_x u d a) ∧ ∀ e a, e ≠ d → a < 10 → tk_x v e a = tk_x u e a
theorem gb_step {u v : pf_S} {d i : Nat} (h : gb_inv u d i v) (hi : i < 10) : gb_inv u d (i + 1) (v.1, up2 (up2 v.2 21 i (v.2 21 i + v.2 22 (d * 10 + i))) 22 (d * 10 + i) 0) := by
  obtain ⟨h1, h2, h3, h4⟩ := h
  obtain ⟨e1, e2⟩ := h3 i (Nat.le_refl _) hi
  refine ⟨(h1.up (by decide)).up (k := 22) (by decide), fun a ha => ?_, fun a ha hb => ?_, fun e a he ha => ?_⟩
  · by_cases hai : a = i
    · subst hai
      unfold tk_x at e2 ⊢
      simp [up2, e1, e2]
    · obtain ⟨g1, g2⟩ := h2 a (by omega)
      unfold tk_x at g2 ⊢
      have hne : ¬ d * 10 + a = d * 10 + i := by omega
      simp [up2, hai, g1, g2, tk_x]
  · obtain ⟨g1, g2⟩ := h3 a (by omega) hb
    unfold tk_x at g2 ⊢
    have hne : ¬ a = i := by omega
    simp [up2, hne, g1, g2]
  · have g := h4 e a he ha
    unfold tk_x at g ⊢
    have hne : ¬ e * 10 + a = d * 10 + i := by omega
    simp [up2, hne, g]
set_option maxHeartbeats 4000000 in
set_option maxRecDepth 100000 in
theorem c_X3_giveBack (l : Launch) (G : gw_G) (q : Nat → Nat) (u : pf_S) (d : Nat) (hcap : tk_cap u) (hd : d < 31) : gw_MV l yX3_giveBack cX3_giveBack 3 none 0 0 [.ref (q 4), .int (nI (d))] G (pw G q) u (fun u1 => gb_inv u d (u.1 2) u1) := by
  refine gw_entryV (own := RX3) (by decide) rfl (Nat.le_of_ble_eq_true rfl) ?_
  intro p e s m args below meth c A ls C Hh hl
  have hl : lv_has ls 3 [(0, .ref (q 4)), (1, .int (nI (d)))] := hl
  refine lv_iconst (v := nI 0) C.1 C.2.1 dX3_giveBack_0 (by decide +kernel) ?_
  refine lv_istore_n (lv' := [(2, .int (nI (0))), (0, .ref (q 4)), (1, .int (nI (d)))]) C.1 C.2.1 dX3_giveBack_1 rfl hl (by decide) rfl (fun ls hl => ?_)
  have loop_2 : ∀ (fu : Nat) (i : Nat) (uc : pf_S) (H : Heap) (locs : List Loc) (ls : Array Slot), (i ≤ u.1 2) → (gb_inv u d i uc) → u.1 2 - i < fu → gw_H G A s (pw G q uc) H locs → lv_has ls 3 [(0, .ref (q 4)), (1, .int (nI (d))), (2, .int (nI (i)))] → W p l e (gw_rm 0 0) s m args below meth c H locs 0 0 (MQ below (va_Qv (fun u1 => gb_inv u d (u.1 2) u1) (gw_at G A (pw G q)) A) args s 0 0 A) (F0 m 2 ls []) := by
    intro fu
    induction fu with
    | zero =>
      intro i uc H locs ls hi hv hmf
      exact absurd hmf (Nat.not_lt_zero _)
    | succ fu ih_2 =>
      intro i uc H locs ls hi hv hmf Hh hl
      have h0 := hcap.1
      have hn : uc.1 2 = u.1 2 := by rw [hv.1.1]
      refine lv_iload_n C.1 C.2.1 dX3_giveBack_2 rfl (lv_at hl 2 rfl) ?_
      refine lv_aload_n C.1 C.2.1 dX3_giveBack_3 rfl (lv_at hl 0 rfl) ?_
      refine gw_get (Cn := RX3) (T := TX3) (N := 10) C Hh 4 pw_at4 rfl uwX3 0 (by decide) rfl tw_185 rfl dX3_giveBack_4 ?_
      refine gw_icmp_ge (tgt := 48) C dX3_giveBack_7 (by decide) (by omega) (by omega) (fun hc_7 => ?_) (fun hc_7 => ?_)
      · skip
        exact gw_vret (w := pw G q) (u := uc) C Hh dX3_giveBack_48 (by rw [show u.1 2 = i by omega]; exact hv)
      · skip
        refine lv_aload_n C.1 C.2.1 dX3_giveBack_10 rfl (lv_at hl 0 rfl) ?_
        refine gw_get (Cn := RX3) (T := TX3) (N := 10) C Hh 4 pw_at4 rfl uwX3 2 (by decide) rfl tw_187 rfl dX3_giveBack_11 ?_
        refine lv_iload_n C.1 C.2.1 dX3_giveBack_14 rfl (lv_at hl 2 rfl) ?_
        refine lv_dup2_11 C.1 C.2.1 dX3_giveBack_15 rfl rfl ?_
        refine gw_ld C Hh 21 pw_at21 (by decide) dX3_giveBack_16 (by omega) ?_
        refine lv_aload_n C.1 C.2.1 dX3_giveBack_17 rfl (lv_at hl 0 rfl) ?_
        refine gw_get (Cn := RX3) (T := TX3) (N := 10) C Hh 4 pw_at4 rfl uwX3 3 (by decide) rfl tw_189 rfl dX3_giveBack_18 ?_
        refine lv_iload_n C.1 C.2.1 dX3_giveBack_21 rfl (lv_at hl 1 rfl) ?_
        refine lv_bipush (v := nI 10) C.1 C.2.1 dX3_giveBack_22 (by decide +kernel) ?_
        refine gw_imul C dX3_giveBack_24 ?_
        refine lv_iload_n C.1 C.2.1 dX3_giveBack_25 rfl (lv_at hl 2 rfl) ?_
        refine gw_iadd C dX3_giveBack_26 ?_
        refine gw_ld C Hh 22 pw_at22 (by decide) dX3_giveBack_27 (by omega) ?_
        refine gw_iadd C dX3_giveBack_28 ?_
        refine gw_st C Hh 21 pw_at21 (by decide) pw_set21 dX3_giveBack_29 (by omega) (fun H locs Hh => ?_)
        have Hh : gw_H G A s (pw G q (uc.1, up2 uc.2 21 (i) ((uc.2 21 (i)) + (uc.2 22 ((d * 10) + i))))) H locs := Hh
        refine lv_aload_n C.1 C.2.1 dX3_giveBack_30 rfl (lv_at hl 0 rfl) ?_
        refine gw_get (Cn := RX3) (T := TX3) (N := 10) C Hh 4 pw_at4 rfl uwX3 3 (by decide) rfl tw_189 rfl dX3_giveBack_31 ?_
        refine lv_iload_n C.1 C.2.1 dX3_giveBack_34 rfl (lv_at hl 1 rfl) ?_
        refine lv_bipush (v := nI 10) C.1 C.2.1 dX3_giveBack_35 (by decide +kernel) ?_
        refine gw_imul C dX3_giveBack_37 ?_
        refine lv_iload_n C.1 C.2.1 dX3_giveBack_38 rfl (lv_at hl 2 rfl) ?_
        refine gw_iadd C dX3_giveBack_39 ?_
        refine lv_iconst (v := nI 0) C.1 C.2.1 dX3_giveBack_40 (by decide +kernel) ?_
        refine gw_st C Hh 22 pw_at22 (by decide) pw_set22 dX3_giveBack_41 (by omega) (fun H locs Hh => ?_)
        have Hh : gw_H G A s (pw G q (uc.1, up2 (up2 uc.2 21 (i) ((uc.2 21 (i)) + (uc.2 22 ((d * 10) + i)))) 22 ((d * 10) + i) (0))) H locs := Hh
        refine lv_iinc (v := nI (i + 1)) (lv' := [(2, .int (nI (i + 1))), (0, .ref (q 4)), (1, .int (nI (d)))]) C.1 C.2.1 dX3_giveBack_42 hl (k := 2) rfl (nI_add _ 1) (by decide) rfl (fun ls hl => ?_)
        refine lv_goto (tgt := 2) C.1 C.2.1 dX3_giveBack_45 (by decide) ?_
        exact ih_2 (i + 1) ((uc.1, up2 (up2 uc.2 21 (i) ((uc.2 21 (i)) + (uc.2 22 ((d * 10) + i)))) 22 ((d * 10) + i) (0))) _ _ _ (by first | assumption | omega) (by exact gb_step hv (by omega)) (by omega) Hh (lv_sub hl [1, 2, 0] rfl)
  exact loop_2 _ (0) (u) _ _ _ (by first | assumption | omega) (by exact ⟨st_buts.rf, fun a h => by omega, fun a _ _ => ⟨rfl, rfl⟩, fun _ _ _ _ => rfl⟩) (Nat.lt_succ_self _) Hh (lv_sub hl [1, 2, 0] rfl)
def cl_inv (u v : pf_S) : Prop := v.1 = up1 u.1 2 (u.1 0) ∧ (∀ k, k ∉ [20, 21, 22] → v.2 k = u.2 k) ∧ kx_row (u.2 10) (u.1 0) (v.2 20)
theorem cl_inv.up {u v : pf_S} {k x y : Nat} (h : cl_inv u v) (hk : k ∈ [21, 22]) : cl_inv u (v.1, up2 v.2 k x y) := by
  refine ⟨h.1, fun j hj => ?_, ?_⟩
  · show up2 v.2 k x y j = _
    rw [up2_ne v.2 (fun e => hj (by subst e; simp at hk ⊢; omega))]
    exact h.2.1 j hj
  · show kx_row (u.2 10) (u.1 0) (up2 v.2 k x y 20)
    rw [up2_ne v.2 (by simp at hk; omega)]
    exact h.2.2
set_option maxHeartbeats 4000000 in
set_option maxRecDepth 100000 in
theorem c_X3_clear (l : Launch) (G : gw_G) (q : Nat → Nat) (u : pf_S)  (hok : ar_ok u) : gw_MV l yX3_clear cX3_clear 3 none 1 23 [.ref (q 4), .ref (q 2)] G (pw G q) u (fun u1 => cl_inv u u1 ∧ (∀ a, a < u.1 0 → u1.2 21 a = u.2 12 a - u.2 13 a) ∧ ∀ j, j < 310 → u1.2 22 j = 0) := by
  refine gw_entryV (own := RX3) (by decide) rfl (Nat.le_of_ble_eq_true rfl) ?_
  intro p e s m args below meth c A ls C Hh hl
  have hl : lv_has ls 3 [(0, .ref (q 4)), (1, .ref (q 2))] := hl
  refine lv_aload_n C.1 C.2.1 dX3_clear_0 rfl (lv_at hl 0 rfl) ?_
  refine lv_aload_n C.1 C.2.1 dX3_clear_1 rfl (lv_at hl 1 rfl) ?_
  refine gw_getN (Cn := RX0) (T := TX0) (N := 5) C Hh 2 pw_at2 rfl uwX0 0 (by decide) rfl tw_124 rfl dX3_clear_2 ?_
  refine gw_put (Cn := RX3) (T := TX3) (N := 10) (ty0 := tyX3) (v := nI (u.1 0)) C Hh 4 pw_at4 rfl uwX3 tyX3_ok nmX3 0 (by decide) rfl tw_185 rfl (by decide +kernel) (Nat.le_of_ble_eq_true rfl) pw_num2 dX3_clear_5 (fun H locs Hh => ?_)
  refine lv_aload_n C.1 C.2.1 dX3_clear_8 rfl (lv_at hl 1 rfl) ?_
  refine lv_aload_n C.1 C.2.1 dX3_clear_9 rfl (lv_at hl 0 rfl) ?_
  refine gw_get (Cn := RX3) (T := TX3) (N := 10) C Hh 4 pw_at4 rfl uwX3 1 (by decide) rfl tw_186 rfl dX3_clear_10 ?_
  refine gw_fromV (w := pw G q) (u := (up1 u.1 2 (u.1 0), u.2)) C Hh (gw_runVN (n := 1) (C1 := RX0) [.ref (q 20)] C Hh (c_X0_sortByTime l G q ((up1 u.1 2 (u.1 0), u.2))  (by exact hok) _) tw_410 tw_412 tw_14 tw_68 tw_413 (by decide +kernel) ⟨Nat.le_of_ble_eq_true rfl, Nat.le_of_ble_eq_true rfl⟩ 2 pw_at2 rfl rfl hl.1 (Nat.le_of_ble_eq_true rfl) dX3_clear_13 ⟨Nat.zero_le _, Nat.zero_le _⟩) (fun uc_13 H locs hp_13 Hh => ?_)
  have hcl : cl_inv u uc_13 := ⟨hp_13.1.1, fun k hk => hp_13.1.2 k (fun e => hk (by rw [e]; decide)), hp_13.2⟩
  refine lv_iconst (v := nI 0) C.1 C.2.1 dX3_clear_16 (by decide +kernel) ?_
  refine lv_istore_n (lv' := [(2, .int (nI (0))), (0, .ref (q 4)), (1, .ref (q 2))]) C.1 C.2.1 dX3_clear_17 rfl hl (by decide) rfl (fun ls hl => ?_)
  have loop_18 : ∀ (fu : Nat) (i : Nat) (uc : pf_S) (H : Heap) (locs : List Loc) (ls : Array Slot), (i ≤ u.1 0) → (cl_inv u uc) → (∀ a, a < i → uc.2 21 a = u.2 12 a - u.2 13 a) → u.1 0 - i < fu → gw_H G A s (pw G q uc) H locs → lv_has ls 3 [(0, .ref (q 4)), (1, .ref (q 2)), (2, .int (nI (i)))] → W p l e (gw_rm 1 23) s m args below meth c H locs 0 0 (MQ below (va_Qv (fun u1 => cl_inv u u1 ∧ (∀ a, a < u.1 0 → u1.2 21 a = u.2 12 a - u.2 13 a) ∧ ∀ j, j < 310 → u1.2 22 j = 0) (gw_at G A (pw G q)) A) args s 0 0 A) (F0 m 18 ls []) := by
    intro fu
    induction fu with
    | zero =>
      intro i uc H locs ls hi hv hr hmf
      exact absurd hmf (Nat.not_lt_zero _)
    | succ fu ih_18 =>
      intro i uc H locs ls hi hv hr hmf Hh hl
      have h0 := hok.1
      have hn : uc.1 2 = u.1 0 := by rw [hv.1]; rfl
      refine lv_iload_n C.1 C.2.1 dX3_clear_18 rfl (lv_at hl 2 rfl) ?_
      refine lv_aload_n C.1 C.2.1 dX3_clear_19 rfl (lv_at hl 0 rfl) ?_
      refine gw_get (Cn := RX3) (T := TX3) (N := 10) C Hh 4 pw_at4 rfl uwX3 0 (by decide) rfl tw_185 rfl dX3_clear_20 ?_
      refine gw_icmp_ge (tgt := 43) C dX3_clear_23 (by decide) (by omega) (by omega) (fun hc_23 => ?_) (fun hc_23 => ?_)
      · skip
        refine lv_iconst (v := nI 0) C.1 C.2.1 dX3_clear_43 (by decide +kernel) ?_
        refine lv_istore_n (lv' := [(2, .int (nI (0))), (0, .ref (q 4)), (1, .ref (q 2))]) C.1 C.2.1 dX3_clear_44 rfl hl (by decide) rfl (fun ls hl => ?_)
        have loop_45 : ∀ (fu : Nat) (j : Nat) (ud : pf_S) (H : Heap) (locs : List Loc) (ls : Array Slot), (j ≤ 310) → (cl_inv u ud) → (∀ a, a < u.1 0 → ud.2 21 a = u.2 12 a - u.2 13 a) → (∀ i, i < j → ud.2 22 i = 0) → 310 - j < fu → gw_H G A s (pw G q ud) H locs → lv_has ls 3 [(0, .ref (q 4)), (1, .ref (q 2)), (2, .int (nI (j)))] → W p l e (gw_rm 1 23) s m args below meth c H locs 0 0 (MQ below (va_Qv (fun u1 => cl_inv u u1 ∧ (∀ a, a < u.1 0 → u1.2 21 a = u.2 12 a - u.2 13 a) ∧ ∀ j, j < 310 → u1.2 22 j = 0) (gw_at G A (pw G q)) A) args s 0 0 A) (F0 m 45 ls []) := by
          intro fu
          induction fu with
          | zero =>
            intro j ud H locs ls hj hv2 hr2 hz hmf
            exact absurd hmf (Nat.not_lt_zero _)
          | succ fu ih_45 =>
            intro j ud H locs ls hj hv2 hr2 hz hmf Hh hl
            refine lv_iload_n C.1 C.2.1 dX3_clear_45 rfl (lv_at hl 2 rfl) ?_
            refine lv_aload_n C.1 C.2.1 dX3_clear_46 rfl (lv_at hl 0 rfl) ?_
            refine gw_get (Cn := RX3) (T := TX3) (N := 10) C Hh 4 pw_at4 rfl uwX3 3 (by decide) rfl tw_189 rfl dX3_clear_47 ?_
            refine gw_len (len := 310) C Hh 22 pw_at22 (t0 := 0) rfl rfl dX3_clear_50 ?_
            refine gw_icmp_ge (tgt := 67) C dX3_clear_51 (by decide) (by omega) (by omega) (fun hc_51 => ?_) (fun hc_51 => ?_)
            · skip
              exact gw_vret (w := pw G q) (u := ud) C Hh dX3_clear_67 (by exact ⟨hv2, hr2, fun i h => hz i (by omega)⟩)
            · skip
              refine lv_aload_n C.1 C.2.1 dX3_clear_54 rfl (lv_at hl 0 rfl) ?_
              refine gw_get (Cn := RX3) (T := TX3) (N := 10) C Hh 4 pw_at4 rfl uwX3 3 (by decide) rfl tw_189 rfl dX3_clear_55 ?_
              refine lv_iload_n C.1 C.2.1 dX3_clear_58 rfl (lv_at hl 2 rfl) ?_
              refine lv_iconst (v := nI 0) C.1 C.2.1 dX3_clear_59 (by decide +kernel) ?_
              refine gw_st C Hh 22 pw_at22 (by decide) pw_set22 dX3_clear_60 (by omega) (fun H locs Hh => ?_)
              have Hh : gw_H G A s (pw G q (ud.1, up2 ud.2 22 (j) (0))) H locs := Hh
              refine lv_iinc (v := nI (j + 1)) (lv' := [(2, .int (nI (j + 1))), (0, .ref (q 4)), (1, .ref (q 2))]) C.1 C.2.1 dX3_clear_61 hl (k := 2) rfl (nI_add _ 1) (by decide) rfl (fun ls hl => ?_)
              refine lv_goto (tgt := 45) C.1 C.2.1 dX3_clear_64 (by decide) ?_
              exact ih_45 (j + 1) ((ud.1, up2 ud.2 22 (j) (0))) _ _ _ (by first | assumption | omega) (by exact hv2.up (by decide)) (by intro a h; show up2 ud.2 22 j 0 21 a = _; rw [up2_ne _ (by decide)]; exact hr2 a h) (by intro a h; show up2 ud.2 22 j 0 22 a = 0; rw [up2_at]; dsimp only; by_cases h1 : a = j; (rw [if_pos h1]); (rw [if_neg h1]; exact hz a (by omega))) (by omega) Hh (lv_sub hl [1, 2, 0] rfl)
        exact loop_45 _ (0) (uc) _ _ _ (by first | assumption | omega) (by exact hv) (by intro a h; exact hr a (by omega)) (by intro a h; omega) (Nat.lt_succ_self _) Hh (lv_sub hl [1, 2, 0] rfl)
      · skip
        refine lv_aload_n C.1 C.2.1 dX3_clear_26 rfl (lv_at hl 0 rfl) ?_
        refine gw_get (Cn := RX3) (T := TX3) (N := 10) C Hh 4 pw_at4 rfl uwX3 2 (by decide) rfl tw_187 rfl dX3_clear_27 ?_
        refine lv_iload_n C.1 C.2.1 dX3_clear_30 rfl (lv_at hl 2 rfl) ?_
        refine lv_aload_n C.1 C.2.1 dX3_clear_31 rfl (lv_at hl 1 rfl) ?_
        refine lv_iload_n C.1 C.2.1 dX3_clear_32 rfl (lv_at hl 2 rfl) ?_
        refine gw_fromI (w := pw G q) (u := uc) C Hh (gw_runVN (n := 1) (C1 := RX0) [.int (nI (i))] C Hh (c_X0_free l G q (uc) (i) (by exact ⟨by rw [hv.1]; exact h0, by rw [hv.2.1 10 (by decide)]; exact hok.2.1, by rw [hv.2.1 11 (by decide)]; exact hok.2.2.1, by rw [hv.2.1 12 (by decide)]; exact hok.2.2.2.1, by rw [hv.2.1 12 (by decide), hv.2.1 13 (by decide)]; exact hok.2.2.2.2⟩) (by first | assumption | omega) _) tw_414 tw_245 tw_2 tw_68 tw_246 (by decide +kernel) ⟨Nat.le_of_ble_eq_true rfl, Nat.le_of_ble_eq_true rfl⟩ 2 pw_at2 rfl rfl hl.1 (Nat.le_of_ble_eq_true rfl) dX3_clear_33 ⟨Nat.zero_le _, Nat.zero_le _⟩) (fun rc_33 uc_33 H locs hp_33 Hh => ?_)
        obtain ⟨kc_33, rfl, hp_33⟩ := hp_33
        obtain ⟨hk_33, hu_33⟩ := hp_33
        rw [hu_33] at Hh
        clear hu_33
        refine gw_st C Hh 21 pw_at21 (by decide) pw_set21 dX3_clear_36 (by omega) (fun H locs Hh => ?_)
        have Hh : gw_H G A s (pw G q (uc.1, up2 uc.2 21 (i) (kc_33))) H locs := Hh
        refine lv_iinc (v := nI (i + 1)) (lv' := [(2, .int (nI (i + 1))), (0, .ref (q 4)), (1, .ref (q 2))]) C.1 C.2.1 dX3_clear_37 hl (k := 2) rfl (nI_add _ 1) (by decide) rfl (fun ls hl => ?_)
        refine lv_goto (tgt := 18) C.1 C.2.1 dX3_clear_40 (by decide) ?_
        exact ih_18 (i + 1) ((uc.1, up2 uc.2 21 (i) (kc_33))) _ _ _ (by first | assumption | omega) (by exact hv.up (by decide)) (by intro a h; show up2 uc.2 21 i kc_33 21 a = _; rw [up2_at]; dsimp only; by_cases h1 : a = i; (rw [if_pos h1, hk_33, h1, hv.2.1 12 (by decide), hv.2.1 13 (by decide)]); (rw [if_neg h1]; exact hr a (by omega))) (by omega) Hh (lv_sub hl [1, 2, 0] rfl)
  exact loop_18 _ (0) (uc_13) _ _ _ (by first | assumption | omega) (by exact hcl) (by intro a h; omega) (Nat.lt_succ_self _) Hh (lv_sub hl [1, 2, 0] rfl)
end
section
theorem tbit_1 {S a : Nat} (h : S.testBit a = true) : tbit S a = 1 := by simp [tbit, h]
theorem tbit_0 {S a : Nat} (h : S.testBit a = false) : tbit S a = 0 := by simp [tbit, h]
theorem tbit_pos {S a : Nat} (h : 0 < tbit S a) : S.testBit a = true := by
  unfold tbit at h
  split at h
  · assumption
  · omega
theorem tbit_zero {S a : Nat} (h : tbit S a = 0) : S.testBit a = false := by
  unfold tbit at h
  split at h
  · omega
  · rename_i h1
    exact Bool.eq_false_iff.mpr h1
theorem fl_sum_mono (f : Nat → Nat) {i j : Nat} (h : i ≤ j) : fl_sum f i ≤ fl_sum f j := by
  induction h with
  | refl => exact Nat.le_refl _
  | step _ ih => exact Nat.le_trans ih (Nat.le_add_right _ _)
theorem fl_tb_lt {S a b : Nat} (h : S.testBit a = true) (hab : a < b) : fl_sum (tbit S) a < fl_sum (tbit S) b := by
  have h1 := fl_sum_mono (tbit S) (show a + 1 ≤ b from hab)
  rw [fl_sum_succ, tbit_1 h] at h1
  omega
def rc_inv (u v : pf_S) (S L F B i : Nat) : Prop := st_buts [26, 27, 28] u v ∧ (∀ j, j < L → v.2 26 j = u.2 26 j) ∧ (∀ a, a < i → S.testBit a = true → v.2 26 (L + fl_sum (tbit S) a) = a ∧ v.2 27 a = F ∧ v.2 28 a = B) ∧ ∀ a, (i ≤ a ∨ S.testBit a = false) → v.2 27 a = u.2 27 a ∧ v.2 28 a = u.2 28 a
theorem rc_skip {u v : pf_S} {S L F B i : Nat} (h : rc_inv u v S L F B i) (hs : S.testBit i = false) : rc_inv u v S L F B (i + 1) := by
  refine ⟨h.1, h.2.1, fun a ha hb => ?_, fun a ha => h.2.2.2 a (by rcases ha with h1 | h1; (left; omega); (right; exact h1))⟩
  by_cases hai : a = i
  · subst hai
    rw [hs] at hb
    cases hb
  · exact h.2.2.1 a (by omega) hb
theorem rc_add {u v : pf_S} {S L F B i : Nat} (h : rc_inv u v S L F B i) (hs : S.testBit i = true) : rc_inv u (v.1, up2 (up2 (up2 v.2 26 (L + fl_sum (tbit S) i) i) 27 i F) 28 i B) S L F B (i + 1) := by
  refine ⟨((h.1.up (by decide)).up (k := 27) (by decide)).up (k := 28) (by decide), fun j hj => ?_, fun a ha hb => ?_, fun a ha => ?_⟩
  · have hne : ¬ j = L + fl_sum (tbit S) i := by omega
    simp [up2, hne, h.2.1 j hj]
  · by_cases hai : a = i
    · subst hai
      simp [up2]
    · obtain ⟨g1, g2, g3⟩ := h.2.2.1 a (by omega) hb
      have := fl_tb_lt hb (show a < i by omega)
      have hne : ¬ L + fl_sum (tbit S) a = L + fl_sum (tbit S) i := by omega
      have hne2 : ¬ fl_sum (tbit S) a = fl_sum (tbit S) i := by omega
      simp [up2, hne2, hai, g1, g2, g3]
  · have hne : ¬ a = i := by
      rintro rfl
      rcases ha with h1 | h1
      · omega
      · rw [hs] at h1; cases h1
    obtain ⟨g1, g2⟩ := h.2.2.2 a (by rcases ha with h1 | h1; (left; omega); (right; exact h1))
    simp [up2, hne, g1, g2]
set_option maxHeartbeats 4000000 in
set_option maxRecDepth 100000 in
theorem c_X3_reach (l : Launch) (G : gw_G) (q : Nat → Nat) (u : pf_S) (S : Nat) (L : Nat) (F : Nat) (B : Nat) (hn : u.1 2 ≤ 10) (hb : L + fl_sum (tbit S) (u.1 2) ≤ 10) : gw_MI l yX3_reach cX3_reach 7 (some .int) 0 0 [.ref (q 4), .int (nI (S)), .int (nI (L)), .int (nI (F)), .int (nI (B))] G (pw G q) u (fun r u1 => ∃ k : Nat, r = nI k ∧ (k = L + fl_sum (tbit S) (u.1 2) ∧ rc_inv u u1 S L F B (u.1 2))) := by
  refine gw_entryI (own := RX3) (by decide) rfl (Nat.le_of_ble_eq_true rfl) ?_
  intro p e s m args below meth c A ls C Hh hl
  have hl : lv_has ls 7 [(0, .ref (q 4)), (1, .int (nI (S))), (2, .int (nI (L))), (3, .int (nI (F))), (4, .int (nI (B)))] := hl
  refine lv_iload_n C.1 C.2.1 dX3_reach_0 rfl (lv_at hl 2 rfl) ?_
  refine lv_istore (lv' := [(5, .int (nI (L))), (0, .ref (q 4)), (1, .int (nI (S))), (2, .int (nI (L))), (3, .int (nI (F))), (4, .int (nI (B)))]) C.1 C.2.1 dX3_reach_1 hl (by decide) rfl (fun ls hl => ?_)
  refine lv_iconst (v := nI 0) C.1 C.2.1 dX3_reach_3 (by decide +kernel) ?_
  refine lv_istore (lv' := [(6, .int (nI (0))), (5, .int (nI (L))), (0, .ref (q 4)), (1, .int (nI (S))), (2, .int (nI (L))), (3, .int (nI (F))), (4, .int (nI (B)))]) C.1 C.2.1 dX3_reach_4 hl (by decide) rfl (fun ls hl => ?_)
  have loop_6 : ∀ (fu : Nat) (i : Nat) (tt : Nat) (uc : pf_S) (H : Heap) (locs : List Loc) (ls : Array Slot), (i ≤ u.1 2) → (tt = L + fl_sum (tbit S) i) → (rc_inv u uc S L F B i) → u.1 2 - i < fu → gw_H G A s (pw G q uc) H locs → lv_has ls 7 [(0, .ref (q 4)), (1, .int (nI (S))), (2, .int (nI (L))), (3, .int (nI (F))), (4, .int (nI (B))), (5, .int (nI (tt))), (6, .int (nI (i)))] → W p l e (gw_rm 0 0) s m args below meth c H locs 0 0 (MQ below (va_Qi (fun r u1 => ∃ k : Nat, r = nI k ∧ (k = L + fl_sum (tbit S) (u.1 2) ∧ rc_inv u u1 S L F B (u.1 2))) (gw_at G A (pw G q)) A) args s 0 0 A) (F0 m 6 ls []) := by
    intro fu
    induction fu with
    | zero =>
      intro i tt uc H locs ls hi htt hv hmf
      exact absurd hmf (Nat.not_lt_zero _)
    | succ fu ih_6 =>
      intro i tt uc H locs ls hi htt hv hmf Hh hl
      have hnn : uc.1 2 = u.1 2 := by rw [hv.1.1]
      have hmm := fl_sum_mono (tbit S) hi
      refine lv_iload C.1 C.2.1 dX3_reach_6 (lv_at hl 6 rfl) ?_
      refine lv_aload_n C.1 C.2.1 dX3_reach_8 rfl (lv_at hl 0 rfl) ?_
      refine gw_get (Cn := RX3) (T := TX3) (N := 10) C Hh 4 pw_at4 rfl uwX3 0 (by decide) rfl tw_185 rfl dX3_reach_9 ?_
      refine gw_icmp_ge (tgt := 66) C dX3_reach_12 (by decide) (by omega) (by omega) (fun hc_12 => ?_) (fun hc_12 => ?_)
      · skip
        refine lv_iload C.1 C.2.1 dX3_reach_66 (lv_at hl 5 rfl) ?_
        exact gw_iret (w := pw G q) (u := uc) C Hh dX3_reach_68 ⟨_, rfl, by have hin : i = u.1 2 := (by omega); exact ⟨by rw [htt, hin], by rw [← hin]; exact hv⟩⟩
      · skip
        refine lv_iload_n C.1 C.2.1 dX3_reach_15 rfl (lv_at hl 1 rfl) ?_
        refine lv_iload C.1 C.2.1 dX3_reach_16 (lv_at hl 6 rfl) ?_
        refine lv_ishr C.1 C.2.1 dX3_reach_18 ?_
        refine lv_iconst (v := nI 1) C.1 C.2.1 dX3_reach_19 (by decide +kernel) ?_
        refine gw_and1 C dX3_reach_20 (by omega) ?_
        have join_60 : ∀ (tt2 : Nat) (ud : pf_S) (H : Heap) (locs : List Loc) (ls : Array Slot), (tt2 = L + fl_sum (tbit S) (i + 1)) → (rc_inv u ud S L F B (i + 1)) → gw_H G A s (pw G q ud) H locs → lv_has ls 7 [(0, .ref (q 4)), (1, .int (nI (S))), (2, .int (nI (L))), (3, .int (nI (F))), (4, .int (nI (B))), (5, .int (nI (tt2))), (6, .int (nI (i)))] → W p l e (gw_rm 0 0) s m args below meth c H locs 0 0 (MQ below (va_Qi (fun r u1 => ∃ k : Nat, r = nI k ∧ (k = L + fl_sum (tbit S) (u.1 2) ∧ rc_inv u u1 S L F B (u.1 2))) (gw_at G A (pw G q)) A) args s 0 0 A) (F0 m 60 ls []) := by
          intro tt2 ud H locs ls htt2 hv2 Hh hl
          refine lv_iinc (v := nI (i + 1)) (lv' := [(6, .int (nI (i + 1))), (0, .ref (q 4)), (1, .int (nI (S))), (2, .int (nI (L))), (3, .int (nI (F))), (4, .int (nI (B))), (5, .int (nI (tt2)))]) C.1 C.2.1 dX3_reach_60 hl (k := 6) rfl (nI_add _ 1) (by decide) rfl (fun ls hl => ?_)
          refine lv_goto (tgt := 6) C.1 C.2.1 dX3_reach_63 (by decide) ?_
          exact ih_6 (i + 1) (tt2) (ud) _ _ _ (by omega) (by exact htt2) (by exact hv2) (by omega) Hh (lv_sub hl [1, 2, 3, 4, 5, 6, 0] rfl)
        have htl := tbit_le S i
        refine gw_if_eq (tgt := 60) C dX3_reach_21 (by decide) (by omega) (fun hc_21 => ?_) (fun hc_21 => ?_)
        · skip
          exact join_60 (tt) (uc) _ _ _ (by rw [htt, fl_sum_succ, hc_21]; rfl) (by exact rc_skip hv (tbit_zero hc_21)) Hh (lv_sub hl [0, 1, 2, 3, 4, 5, 6] rfl)
        · skip
          have hlt := fl_tb_lt (tbit_pos hc_21) (show i < u.1 2 by omega)
          refine lv_iload C.1 C.2.1 dX3_reach_24 (lv_at hl 5 rfl) ?_
          refine lv_bipush (v := nI 10) C.1 C.2.1 dX3_reach_26 (by decide +kernel) ?_
          refine gw_icmp_ge (tgt := 60) C dX3_reach_28 (by decide) (by omega) (by omega) (fun hc_28 => ?_) (fun hc_28 => ?_)
          · skip
            exact absurd hc_28 (by omega)
          · skip
            refine lv_aload_n C.1 C.2.1 dX3_reach_31 rfl (lv_at hl 0 rfl) ?_
            refine gw_get (Cn := RX3) (T := TX3) (N := 10) C Hh 4 pw_at4 rfl uwX3 7 (by decide) rfl tw_194 rfl dX3_reach_32 ?_
            refine lv_iload C.1 C.2.1 dX3_reach_35 (lv_at hl 5 rfl) ?_
            refine lv_iload C.1 C.2.1 dX3_reach_37 (lv_at hl 6 rfl) ?_
            refine gw_st C Hh 26 pw_at26 (by decide) pw_set26 dX3_reach_39 (by omega) (fun H locs Hh => ?_)
            have Hh : gw_H G A s (pw G q (uc.1, up2 uc.2 26 (tt) (i))) H locs := Hh
            refine lv_aload_n C.1 C.2.1 dX3_reach_40 rfl (lv_at hl 0 rfl) ?_
            refine gw_get (Cn := RX3) (T := TX3) (N := 10) C Hh 4 pw_at4 rfl uwX3 8 (by decide) rfl tw_195 rfl dX3_reach_41 ?_
            refine lv_iload C.1 C.2.1 dX3_reach_44 (lv_at hl 6 rfl) ?_
            refine lv_iload_n C.1 C.2.1 dX3_reach_46 rfl (lv_at hl 3 rfl) ?_
            refine gw_st C Hh 27 pw_at27 (by decide) pw_set27 dX3_reach_47 (by omega) (fun H locs Hh => ?_)
            have Hh : gw_H G A s (pw G q (uc.1, up2 (up2 uc.2 26 (tt) (i)) 27 (i) (F))) H locs := Hh
            refine lv_aload_n C.1 C.2.1 dX3_reach_48 rfl (lv_at hl 0 rfl) ?_
            refine gw_get (Cn := RX3) (T := TX3) (N := 10) C Hh 4 pw_at4 rfl uwX3 9 (by decide) rfl tw_196 rfl dX3_reach_49 ?_
            refine lv_iload C.1 C.2.1 dX3_reach_52 (lv_at hl 6 rfl) ?_
            refine lv_iload C.1 C.2.1 dX3_reach_54 (lv_at hl 4 rfl) ?_
            refine gw_st C Hh 28 pw_at28 (by decide) pw_set28 dX3_reach_56 (by omega) (fun H locs Hh => ?_)
            have Hh : gw_H G A s (pw G q (uc.1, up2 (up2 (up2 uc.2 26 (tt) (i)) 27 (i) (F)) 28 (i) (B))) H locs := Hh
            refine lv_iinc (v := nI (tt + 1)) (lv' := [(5, .int (nI (tt + 1))), (0, .ref (q 4)), (1, .int (nI (S))), (2, .int (nI (L))), (3, .int (nI (F))), (4, .int (nI (B))), (6, .int (nI (i)))]) C.1 C.2.1 dX3_reach_57 hl (k := 5) rfl (nI_add _ 1) (by decide) rfl (fun ls hl => ?_)
            exact join_60 (tt + 1) ((uc.1, up2 (up2 (up2 uc.2 26 (tt) (i)) 27 (i) (F)) 28 (i) (B))) _ _ _ (by rw [htt, fl_sum_succ, tbit_1 (tbit_pos hc_21)]; rfl) (by subst htt; exact rc_add hv (tbit_pos hc_21)) Hh (lv_sub hl [1, 2, 3, 4, 5, 0, 6] rfl)
  exact loop_6 _ (0) (L) (u) _ _ _ (by first | assumption | omega) (by rfl) (by exact ⟨st_buts.rf, fun _ _ => rfl, fun a h => by omega, fun _ _ => ⟨rfl, rfl⟩⟩) (Nat.lt_succ_self _) Hh (lv_sub hl [2, 3, 4, 5, 6, 1, 0] rfl)
end
section
abbrev cI_bitCount : ByteArray := prog_12_method_49_code
def yI_bitCount : MethodName := ⟨"java/lang/Integer", "bitCount", "(I)I"⟩
theorem dI_bitCount_0 : decode cI_bitCount 0 = .ok (.iload_n 0, 1) := by decide +kernel
theorem dI_bitCount_1 : decode cI_bitCount 1 = .ok (.iload_n 0, 1) := by decide +kernel
theorem dI_bitCount_2 : decode cI_bitCount 2 = .ok (.iconst 1, 1) := by decide +kernel
theorem dI_bitCount_3 : decode cI_bitCount 3 = .ok (.iushr, 1) := by decide +kernel
theorem dI_bitCount_4 : decode cI_bitCount 4 = .ok (.ldc_w 265, 3) := by decide +kernel
theorem dI_bitCount_7 : decode cI_bitCount 7 = .ok (.iand, 1) := by decide +kernel
theorem dI_bitCount_8 : decode cI_bitCount 8 = .ok (.isub, 1) := by decide +kernel
theorem dI_bitCount_9 : decode cI_bitCount 9 = .ok (.istore_n 0, 1) := by decide +kernel
theorem dI_bitCount_10 : decode cI_bitCount 10 = .ok (.iload_n 0, 1) := by decide +kernel
theorem dI_bitCount_11 : decode cI_bitCount 11 = .ok (.ldc_w 266, 3) := by decide +kernel
theorem dI_bitCount_14 : decode cI_bitCount 14 = .ok (.iand, 1) := by decide +kernel
theorem dI_bitCount_15 : decode cI_bitCount 15 = .ok (.iload_n 0, 1) := by decide +kernel
theorem dI_bitCount_16 : decode cI_bitCount 16 = .ok (.iconst 2, 1) := by decide +kernel
theorem dI_bitCount_17 : decode cI_bitCount 17 = .ok (.iushr, 1) := by decide +kernel
theorem dI_bitCount_18 : decode cI_bitCount 18 = .ok (.ldc_w 266, 3) := by decide +kernel
theorem dI_bitCount_21 : decode cI_bitCount 21 = .ok (.iand, 1) := by decide +kernel
theorem dI_bitCount_22 : decode cI_bitCount 22 = .ok (.iadd, 1) := by decide +kernel
theorem dI_bitCount_23 : decode cI_bitCount 23 = .ok (.istore_n 0, 1) := by decide +kernel
theorem dI_bitCount_24 : decode cI_bitCount 24 = .ok (.iload_n 0, 1) := by decide +kernel
theorem dI_bitCount_25 : decode cI_bitCount 25 = .ok (.iload_n 0, 1) := by decide +kernel
theorem dI_bitCount_26 : decode cI_bitCount 26 = .ok (.iconst 4, 1) := by decide +kernel
theorem dI_bitCount_27 : decode cI_bitCount 27 = .ok (.iushr, 1) := by decide +kernel
theorem dI_bitCount_28 : decode cI_bitCount 28 = .ok (.iadd, 1) := by decide +kernel
theorem dI_bitCount_29 : decode cI_bitCount 29 = .ok (.ldc_w 267, 3) := by decide +kernel
theorem dI_bitCount_32 : decode cI_bitCount 32 = .ok (.iand, 1) := by decide +kernel
theorem dI_bitCount_33 : decode cI_bitCount 33 = .ok (.istore_n 0, 1) := by decide +kernel
theorem dI_bitCount_34 : decode cI_bitCount 34 = .ok (.iload_n 0, 1) := by decide +kernel
theorem dI_bitCount_35 : decode cI_bitCount 35 = .ok (.iload_n 0, 1) := by decide +kernel
theorem dI_bitCount_36 : decode cI_bitCount 36 = .ok (.bipush 8, 2) := by decide +kernel
theorem dI_bitCount_38 : decode cI_bitCount 38 = .ok (.iushr, 1) := by decide +kernel
theorem dI_bitCount_39 : decode cI_bitCount 39 = .ok (.iadd, 1) := by decide +kernel
theorem dI_bitCount_40 : decode cI_bitCount 40 = .ok (.istore_n 0, 1) := by decide +kernel
theorem dI_bitCount_41 : decode cI_bitCount 41 = .ok (.iload_n 0, 1) := by decide +kernel
theorem dI_bitCount_42 : decode cI_bitCount 42 = .ok (.iload_n 0, 1) := by decide +kernel
theorem dI_bitCount_43 : decode cI_bitCount 43 = .ok (.bipush 16, 2) := by decide +kernel
theorem dI_bitCount_45 : decode cI_bitCount 45 = .ok (.iushr, 1) := by decide +kernel
theorem dI_bitCount_46 : decode cI_bitCount 46 = .ok (.iadd, 1) := by decide +kernel
theorem dI_bitCount_47 : decode cI_bitCount 47 = .ok (.istore_n 0, 1) := by decide +kernel
theorem dI_bitCount_48 : decode cI_bitCount 48 = .ok (.iload_n 0, 1) := by decide +kernel
theorem dI_bitCount_49 : decode cI_bitCount 49 = .ok (.bipush 63, 2) := by decide +kernel
theorem dI_bitCount_51 : decode cI_bitCount 51 = .ok (.iand, 1) := by decide +kernel
theorem dI_bitCount_52 : decode cI_bitCount 52 = .ok (.ireturn, 1) := by decide +kernel
def bc_1 (x : Int32) : Int32 := (x - (((x : Int32).toUInt32 >>> ((1 : Int32).toUInt32 &&& Int32.toUInt32 31)).toInt32 &&& 1431655765))
def bc_2 (x : Int32) : Int32 := ((x &&& 858993459) + (((x : Int32).toUInt32 >>> ((2 : Int32).toUInt32 &&& Int32.toUInt32 31)).toInt32 &&& 858993459))
def bc_3 (x : Int32) : Int32 := ((x + ((x : Int32).toUInt32 >>> ((4 : Int32).toUInt32 &&& Int32.toUInt32 31)).toInt32) &&& 252645135)
def bc_4 (x : Int32) : Int32 := (x + ((x : Int32).toUInt32 >>> ((8 : Int32).toUInt32 &&& Int32.toUInt32 31)).toInt32)
def bc_5 (x : Int32) : Int32 := (x + ((x : Int32).toUInt32 >>> ((16 : Int32).toUInt32 &&& Int32.toUInt32 31)).toInt32)
theorem bc_all : ∀ b, b < 1024 → bc_5 (bc_4 (bc_3 (bc_2 (bc_1 (nI b))))) &&& 63 = nI (fl_sum (tbit b) 10) := by decide +kernel
set_option maxRecDepth 100000 in
theorem c_I_bitCount (l : Launch) (G : gw_G) (q : Nat → Nat) (u : pf_S) (b : Nat) (hb : b < 1024) : gw_MI l yI_bitCount cI_bitCount 1 (some .int) 0 0 [.int (nI (b))] G (pw G q) u (fun r u1 => ∃ k : Nat, r = nI k ∧ (k = fl_sum (tbit b) 10 ∧ u1 = u)) := by
  refine gw_entryI (own := "java/lang/Integer") (by decide) rfl (Nat.le_of_ble_eq_true rfl) ?_
  intro p e s m args below meth c A ls C Hh hl
  have hl : lv_has ls 1 [(0, .int (nI b))] := hl
  refine lv_iload_n C.1 C.2.1 dI_bitCount_0 rfl (lv_at hl 0 rfl) ?_
  refine lv_iload_n C.1 C.2.1 dI_bitCount_1 rfl (lv_at hl 0 rfl) ?_
  refine lv_iconst (v := 1) C.1 C.2.1 dI_bitCount_2 (by decide) ?_
  refine lv_iushr C.1 C.2.1 dI_bitCount_3 rfl ?_
  refine lv_ldcw (v := 1431655765) C.1 C.2.1 C.cl (C.ts tw_472) dI_bitCount_4 ?_
  refine lv_iand C.1 C.2.1 dI_bitCount_7 ?_
  refine lv_isub C.1 C.2.1 dI_bitCount_8 ?_
  refine lv_topi (fun y_1 ey_1 => ?_)
  refine lv_istore_n (lv' := [(0, .int y_1)]) C.1 C.2.1 dI_bitCount_9 rfl hl (by decide) rfl (fun ls hl => ?_)
  refine lv_iload_n C.1 C.2.1 dI_bitCount_10 rfl (lv_at hl 0 rfl) ?_
  refine lv_ldcw (v := 858993459) C.1 C.2.1 C.cl (C.ts tw_473) dI_bitCount_11 ?_
  refine lv_iand C.1 C.2.1 dI_bitCount_14 ?_
  refine lv_iload_n C.1 C.2.1 dI_bitCount_15 rfl (lv_at hl 0 rfl) ?_
  refine lv_iconst (v := 2) C.1 C.2.1 dI_bitCount_16 (by decide) ?_
  refine lv_iushr C.1 C.2.1 dI_bitCount_17 rfl ?_
  refine lv_ldcw (v := 858993459) C.1 C.2.1 C.cl (C.ts tw_473) dI_bitCount_18 ?_
  refine lv_iand C.1 C.2.1 dI_bitCount_21 ?_
  refine lv_iadd C.1 C.2.1 dI_bitCount_22 ?_
  refine lv_topi (fun y_2 ey_2 => ?_)
  refine lv_istore_n (lv' := [(0, .int y_2)]) C.1 C.2.1 dI_bitCount_23 rfl hl (by decide) rfl (fun ls hl => ?_)
  refine lv_iload_n C.1 C.2.1 dI_bitCount_24 rfl (lv_at hl 0 rfl) ?_
  refine lv_iload_n C.1 C.2.1 dI_bitCount_25 rfl (lv_at hl 0 rfl) ?_
  refine lv_iconst (v := 4) C.1 C.2.1 dI_bitCount_26 (by decide) ?_
  refine lv_iushr C.1 C.2.1 dI_bitCount_27 rfl ?_
  refine lv_iadd C.1 C.2.1 dI_bitCount_28 ?_
  refine lv_ldcw (v := 252645135) C.1 C.2.1 C.cl (C.ts tw_474) dI_bitCount_29 ?_
  refine lv_iand C.1 C.2.1 dI_bitCount_32 ?_
  refine lv_topi (fun y_3 ey_3 => ?_)
  refine lv_istore_n (lv' := [(0, .int y_3)]) C.1 C.2.1 dI_bitCount_33 rfl hl (by decide) rfl (fun ls hl => ?_)
  refine lv_iload_n C.1 C.2.1 dI_bitCount_34 rfl (lv_at hl 0 rfl) ?_
  refine lv_iload_n C.1 C.2.1 dI_bitCount_35 rfl (lv_at hl 0 rfl) ?_
  refine lv_bipush (v := 8) C.1 C.2.1 dI_bitCount_36 (by decide) ?_
  refine lv_iushr C.1 C.2.1 dI_bitCount_38 rfl ?_
  refine lv_iadd C.1 C.2.1 dI_bitCount_39 ?_
  refine lv_topi (fun y_4 ey_4 => ?_)
  refine lv_istore_n (lv' := [(0, .int y_4)]) C.1 C.2.1 dI_bitCount_40 rfl hl (by decide) rfl (fun ls hl => ?_)
  refine lv_iload_n C.1 C.2.1 dI_bitCount_41 rfl (lv_at hl 0 rfl) ?_
  refine lv_iload_n C.1 C.2.1 dI_bitCount_42 rfl (lv_at hl 0 rfl) ?_
  refine lv_bipush (v := 16) C.1 C.2.1 dI_bitCount_43 (by decide) ?_
  refine lv_iushr C.1 C.2.1 dI_bitCount_45 rfl ?_
  refine lv_iadd C.1 C.2.1 dI_bitCount_46 ?_
  refine lv_topi (fun y_5 ey_5 => ?_)
  refine lv_istore_n (lv' := [(0, .int y_5)]) C.1 C.2.1 dI_bitCount_47 rfl hl (by decide) rfl (fun ls hl => ?_)
  refine lv_iload_n C.1 C.2.1 dI_bitCount_48 rfl (lv_at hl 0 rfl) ?_
  refine lv_bipush (v := 63) C.1 C.2.1 dI_bitCount_49 (by decide) ?_
  refine lv_iand C.1 C.2.1 dI_bitCount_51 ?_
  refine gw_iret (w := pw G q) (u := u) C Hh dI_bitCount_52 ⟨fl_sum (tbit b) 10, ?_, rfl, rfl⟩
  have e1 : y_1 = bc_1 (nI b) := ey_1
  have e2 : y_2 = bc_2 y_1 := ey_2
  have e3 : y_3 = bc_3 y_2 := ey_3
  have e4 : y_4 = bc_4 y_3 := ey_4
  have e5 : y_5 = bc_5 y_4 := ey_5
  rw [e5, e4, e3, e2, e1]
  exact bc_all b hb
set_option maxHeartbeats 4000000 in
set_option maxRecDepth 100000 in
theorem c_X3_nearestRoom (l : Launch) (G : gw_G) (q : Nat → Nat) (u : pf_S) (b : Nat) (hcap : tk_cap u) (hb : b < 1024) (hrt : ∀ i, i < fl_sum (tbit b) 10 → u.2 26 i < u.1 2) : gw_MI l yX3_nearestRoom cX3_nearestRoom 4 (some .int) 1 20 [.ref (q 4), .int (nI (b))] G (pw G q) u (fun r u1 => ∃ k : Nat, r = nI k ∧ (((k = 4294967295 ∧ ∀ i, i < fl_sum (tbit b) 10 → u.2 21 (u.2 26 i) = 0) ∨ ∃ i, i < fl_sum (tbit b) 10 ∧ k = u.2 26 i ∧ 0 < u.2 21 (u.2 26 i)) ∧ u1 = u)) := by
  refine gw_entryI (own := RX3) (by decide) rfl (Nat.le_of_ble_eq_true rfl) ?_
  intro p e s m args below meth c A ls C Hh hl
  have hl : lv_has ls 4 [(0, .ref (q 4)), (1, .int (nI (b)))] := hl
  refine lv_iload_n C.1 C.2.1 dX3_nearestRoom_0 rfl (lv_at hl 1 rfl) ?_
  refine gw_fromI (w := pw G q) (u := u) C Hh (gw_runSO (n := 1) [.int (nI (b))] C Hh (c_I_bitCount l G q (u) (b) (by first | assumption | omega) _) tw_469 tw_470 tw_79 tw_471 (by decide +kernel) ⟨Nat.le_of_ble_eq_true rfl, Nat.le_of_ble_eq_true rfl⟩ rfl hl.1 (Nat.le_of_ble_eq_true rfl) dX3_nearestRoom_1 ⟨Nat.zero_le _, Nat.zero_le _⟩) (fun rc_1 uc_1 H locs hp_1 Hh => ?_)
  obtain ⟨kc_1, rfl, hp_1⟩ := hp_1
  obtain ⟨hk_1, hu_1⟩ := hp_1
  rw [hu_1] at Hh
  clear hu_1
  have hcn := fl_sum_cnt (tbit_le b) 10
  have h0 := hcap.1
  refine lv_istore_n (lv' := [(2, .int (nI (kc_1))), (0, .ref (q 4)), (1, .int (nI (b)))]) C.1 C.2.1 dX3_nearestRoom_4 rfl hl (by decide) rfl (fun ls hl => ?_)
  refine lv_iconst (v := nI 0) C.1 C.2.1 dX3_nearestRoom_5 (by decide +kernel) ?_
  refine lv_istore_n (lv' := [(3, .int (nI (0))), (2, .int (nI (kc_1))), (0, .ref (q 4)), (1, .int (nI (b)))]) C.1 C.2.1 dX3_nearestRoom_6 rfl hl (by decide) rfl (fun ls hl => ?_)
  have loop_7 : ∀ (fu : Nat) (i : Nat) (H : Heap) (locs : List Loc) (ls : Array Slot), (i ≤ fl_sum (tbit b) 10) → (∀ j, j < i → u.2 21 (u.2 26 j) = 0) → 10 - i < fu → gw_H G A s (pw G q u) H locs → lv_has ls 4 [(0, .ref (q 4)), (1, .int (nI (b))), (2, .int (nI (kc_1))), (3, .int (nI (i)))] → W p l e (gw_rm 1 20) s m args below meth c H locs 0 0 (MQ below (va_Qi (fun r u1 => ∃ k : Nat, r = nI k ∧ (((k = 4294967295 ∧ ∀ i, i < fl_sum (tbit b) 10 → u.2 21 (u.2 26 i) = 0) ∨ ∃ i, i < fl_sum (tbit b) 10 ∧ k = u.2 26 i ∧ 0 < u.2 21 (u.2 26 i)) ∧ u1 = u)) (gw_at G A (pw G q)) A) args s 0 0 A) (F0 m 7 ls []) := by
    intro fu
    induction fu with
    | zero =>
      intro i  H locs ls hi hno hmf
      exact absurd hmf (Nat.not_lt_zero _)
    | succ fu ih_7 =>
      intro i  H locs ls hi hno hmf Hh hl
      refine lv_iload_n C.1 C.2.1 dX3_nearestRoom_7 rfl (lv_at hl 3 rfl) ?_
      refine lv_iload_n C.1 C.2.1 dX3_nearestRoom_8 rfl (lv_at hl 2 rfl) ?_
      refine gw_icmp_ge (tgt := 45) C dX3_nearestRoom_9 (by decide) (by omega) (by omega) (fun hc_9 => ?_) (fun hc_9 => ?_)
      · skip
        refine lv_iconst (v := nI 4294967295) C.1 C.2.1 dX3_nearestRoom_45 (by decide +kernel) ?_
        exact gw_iret (w := pw G q) (u := u) C Hh dX3_nearestRoom_46 ⟨_, rfl, by exact ⟨Or.inl ⟨rfl, fun j h => hno j (by omega)⟩, rfl⟩⟩
      · skip
        refine lv_iload_n C.1 C.2.1 dX3_nearestRoom_12 rfl (lv_at hl 3 rfl) ?_
        refine lv_bipush (v := nI 10) C.1 C.2.1 dX3_nearestRoom_13 (by decide +kernel) ?_
        refine gw_icmp_ge (tgt := 45) C dX3_nearestRoom_15 (by decide) (by omega) (by omega) (fun hc_15 => ?_) (fun hc_15 => ?_)
        · skip
          refine lv_iconst (v := nI 4294967295) C.1 C.2.1 dX3_nearestRoom_45 (by decide +kernel) ?_
          exact gw_iret (w := pw G q) (u := u) C Hh dX3_nearestRoom_46 ⟨_, rfl, by exact ⟨Or.inl ⟨rfl, fun j h => hno j (by omega)⟩, rfl⟩⟩
        · skip
          refine lv_aload_n C.1 C.2.1 dX3_nearestRoom_18 rfl (lv_at hl 0 rfl) ?_
          refine gw_get (Cn := RX3) (T := TX3) (N := 10) C Hh 4 pw_at4 rfl uwX3 2 (by decide) rfl tw_187 rfl dX3_nearestRoom_19 ?_
          refine lv_aload_n C.1 C.2.1 dX3_nearestRoom_22 rfl (lv_at hl 0 rfl) ?_
          refine gw_get (Cn := RX3) (T := TX3) (N := 10) C Hh 4 pw_at4 rfl uwX3 7 (by decide) rfl tw_194 rfl dX3_nearestRoom_23 ?_
          refine lv_iload_n C.1 C.2.1 dX3_nearestRoom_26 rfl (lv_at hl 3 rfl) ?_
          refine gw_ld C Hh 26 pw_at26 (by decide) dX3_nearestRoom_27 (by omega) ?_
          have hr := hrt i (by omega)
          have hc := hcap.2 _ hr
          refine gw_ld C Hh 21 pw_at21 (by decide) dX3_nearestRoom_28 (by omega) ?_
          refine gw_if_le (tgt := 39) C dX3_nearestRoom_29 (by decide) (by omega) (fun hc_29 => ?_) (fun hc_29 => ?_)
          · skip
            refine lv_iinc (v := nI (i + 1)) (lv' := [(3, .int (nI (i + 1))), (0, .ref (q 4)), (1, .int (nI (b))), (2, .int (nI (kc_1)))]) C.1 C.2.1 dX3_nearestRoom_39 hl (k := 3) rfl (nI_add _ 1) (by decide) rfl (fun ls hl => ?_)
            refine lv_goto (tgt := 7) C.1 C.2.1 dX3_nearestRoom_42 (by decide) ?_
            exact ih_7 (i + 1)  _ _ _ (by first | assumption | omega) (by intro o h; by_cases h1 : o = i; (subst h1; omega); exact hno o (by omega)) (by omega) Hh (lv_sub hl [1, 2, 3, 0] rfl)
          · skip
            refine lv_aload_n C.1 C.2.1 dX3_nearestRoom_32 rfl (lv_at hl 0 rfl) ?_
            refine gw_get (Cn := RX3) (T := TX3) (N := 10) C Hh 4 pw_at4 rfl uwX3 7 (by decide) rfl tw_194 rfl dX3_nearestRoom_33 ?_
            refine lv_iload_n C.1 C.2.1 dX3_nearestRoom_36 rfl (lv_at hl 3 rfl) ?_
            refine gw_ld C Hh 26 pw_at26 (by decide) dX3_nearestRoom_37 (by omega) ?_
            exact gw_iret (w := pw G q) (u := u) C Hh dX3_nearestRoom_38 ⟨_, rfl, by exact ⟨Or.inr ⟨i, by omega, rfl, by omega⟩, rfl⟩⟩
  exact loop_7 _ (0)  _ _ _ (by first | assumption | omega) (by intro o h; omega) (Nat.lt_succ_self _) Hh (lv_sub hl [2, 3, 1, 0] rfl)
end
section
/-! the spread over arrivals: what is reached, in turn, from where and by which demand -/
def sp_inv (n S lo : Nat) (x : Nat → Nat → Nat) (us : Nat → Nat) (R len : Nat) (v : pf_S) : Prop :=
  (∀ a, R.testBit a = true → a < n) ∧ len = fl_sum (tbit R) n ∧ (∀ i, i < len → R.testBit (v.2 26 i) = true) ∧ (∀ a, R.testBit a = true → ∃ i, i < len ∧ v.2 26 i = a) ∧ (∀ i j, i < j → j < len → v.2 26 i ≠ v.2 26 j) ∧
  (∀ i, i < len → S.testBit (v.2 26 i) = true ∨ ∃ j, j < i ∧ v.2 27 (v.2 26 i) = v.2 26 j ∧ v.2 28 (v.2 26 i) < 31 ∧ lo.testBit (v.2 28 (v.2 26 i)) = true ∧ 0 < x (v.2 28 (v.2 26 i)) (v.2 26 j) ∧ (us (v.2 28 (v.2 26 i))).testBit (v.2 26 i) = true) ∧ ∀ a, S.testBit a = true → R.testBit a = true
def sp_cl (lo : Nat) (x : Nat → Nat → Nat) (us : Nat → Nat) (R : Nat) (v : pf_S) (i d : Nat) : Prop :=
  (∀ j, j < i → ∀ z, z < 31 → lo.testBit z = true → 0 < x z (v.2 26 j) → ∀ b, (us z).testBit b = true → R.testBit b = true) ∧ ∀ z, z < d → lo.testBit z = true → 0 < x z (v.2 26 i) → ∀ b, (us z).testBit b = true → R.testBit b = true
/-- the places of a set's bits, counted -/
theorem rc_place {S n : Nat} : ∀ {i : Nat}, i < fl_sum (tbit S) n → ∃ a, a < n ∧ S.testBit a = true ∧ fl_sum (tbit S) a = i := by
  induction n with
  | zero => intro i h; exact absurd h (Nat.not_lt_zero _)
  | succ n ih =>
    intro i h
    rw [fl_sum_succ] at h
    by_cases h1 : i < fl_sum (tbit S) n
    · obtain ⟨a, h2, h3⟩ := ih h1
      exact ⟨a, by omega, h3⟩
    · have h2 := tbit_le S n
      exact ⟨n, Nat.lt_succ_self n, tbit_pos (by omega), by omega⟩
theorem sp_start {u v : pf_S} {n S lo B : Nat} {x : Nat → Nat → Nat} {us : Nat → Nat} (hS : ∀ a, S.testBit a = true → a < n) (h : rc_inv u v S 0 B B n) : sp_inv n S lo x us S (0 + fl_sum (tbit S) n) v := by
  have hp : ∀ a, S.testBit a = true → v.2 26 (fl_sum (tbit S) a) = a := fun a ha => by
    have := (h.2.2.1 a (hS a ha) ha).1
    rwa [Nat.zero_add] at this
  have hq : ∀ i, i < 0 + fl_sum (tbit S) n → S.testBit (v.2 26 i) = true := by
    intro i hi
    obtain ⟨a, h1, h2, h3⟩ := rc_place (S := S) (n := n) (i := i) (by omega)
    rw [← h3, hp a h2]
    exact h2
  refine ⟨hS, Nat.zero_add _, hq, fun a ha => ⟨fl_sum (tbit S) a, ?_, hp a ha⟩, fun i j hij hj => ?_, fun i hi => Or.inl (hq i hi), fun a ha => ha⟩
  · rw [Nat.zero_add]
    exact fl_tb_lt ha (hS a ha)
  · obtain ⟨a, h1, h2, h3⟩ := rc_place (S := S) (n := n) (i := i) (by omega)
    obtain ⟨b, g1, g2, g3⟩ := rc_place (S := S) (n := n) (i := j) (by omega)
    rw [← h3, ← g3, hp a h2, hp b g2]
    rintro rfl
    omega
theorem mk_bit {U R b : Nat} (hb : b < 32) : (U &&& (R ^^^ 4294967295)).testBit b = (U.testBit b && !R.testBit b) := by
  rw [Nat.testBit_and, Nat.testBit_xor, show (4294967295 : Nat) = 2 ^ 32 - 1 from rfl, Nat.testBit_two_pow_sub_one]
  simp [hb]
theorem mk_or {R M a : Nat} (h : M.testBit a = true → R.testBit a = false) : tbit (R ||| M) a = tbit R a + tbit M a := by
  unfold tbit
  rw [Nat.testBit_or]
  cases h1 : R.testBit a <;> cases h2 : M.testBit a <;> simp_all
theorem mk_sum {R M n : Nat} (h : ∀ a, M.testBit a = true → R.testBit a = false) : fl_sum (tbit (R ||| M)) n = fl_sum (tbit R) n + fl_sum (tbit M) n := by
  rw [← fl_sum_add]
  exact fl_sum_congr fun a _ => mk_or (h a)
theorem sp_add {n S lo R len L' d i : Nat} {x : Nat → Nat → Nat} {us : Nat → Nat} {v w : pf_S} {M : Nat} (h : sp_inv n S lo x us R len v) (hi : i < len) (hd : d < 31) (hlo : lo.testBit d = true) (hx : 0 < x d (v.2 26 i)) (hM : ∀ a, M.testBit a = true → a < n ∧ R.testBit a = false ∧ (us d).testBit a = true)
    (hr : rc_inv v w M len (v.2 26 i) d n) (hL : L' = len + fl_sum (tbit M) n) : sp_inv n S lo x us (R ||| M) L' w := by
  subst hL
  obtain ⟨h1, h2, h3, h4, h5, h6, h7⟩ := h
  have hnew : ∀ a, M.testBit a = true → w.2 26 (len + fl_sum (tbit M) a) = a := fun a ha => (hr.2.2.1 a (hM a ha).1 ha).1
  have hold : ∀ j, j < len → w.2 26 j = v.2 26 j := hr.2.1
  have hq : ∀ j, ¬ j < len → j < len + fl_sum (tbit M) n → ∃ a, a < n ∧ M.testBit a = true ∧ j = len + fl_sum (tbit M) a ∧ w.2 26 j = a := by
    intro j hj1 hj2
    obtain ⟨a, g1, g2, g3⟩ := rc_place (S := M) (n := n) (i := j - len) (by omega)
    have e1 : j = len + fl_sum (tbit M) a := by omega
    exact ⟨a, g1, g2, e1, by rw [e1, hnew a g2]⟩
  refine ⟨fun a ha => ?_, ?_, fun j hj => ?_, fun a ha => ?_, fun j k hjk hk => ?_, fun j hj => ?_, fun a ha => ?_⟩
  · rw [Nat.testBit_or, Bool.or_eq_true] at ha
    rcases ha with ha | ha
    · exact h1 a ha
    · exact (hM a ha).1
  · rw [mk_sum (fun a ha => (hM a ha).2.1), ← h2]
  · rw [Nat.testBit_or, Bool.or_eq_true]
    by_cases hjl : j < len
    · left
      rw [hold j hjl]
      exact h3 j hjl
    · obtain ⟨a, -, g2, -, g4⟩ := hq j hjl hj
      right
      rw [g4]
      exact g2
  · rw [Nat.testBit_or, Bool.or_eq_true] at ha
    rcases ha with ha | ha
    · obtain ⟨j, g1, g2⟩ := h4 a ha
      exact ⟨j, by omega, by rw [hold j g1]; exact g2⟩
    · exact ⟨len + fl_sum (tbit M) a, by have := fl_tb_lt ha (hM a ha).1; omega, hnew a ha⟩
  · by_cases hjl : j < len
    · by_cases hkl : k < len
      · rw [hold j hjl, hold k hkl]
        exact h5 j k hjk hkl
      · obtain ⟨a, -, g2, -, g4⟩ := hq k hkl hk
        rw [hold j hjl, g4]
        intro e
        have := h3 j hjl
        rw [e, (hM a g2).2.1] at this
        cases this
    · obtain ⟨a, -, g2, g3, g4⟩ := hq j hjl (by omega)
      obtain ⟨b, -, f2, f3, f4⟩ := hq k (by omega) hk
      rw [g4, f4]
      rintro rfl
      omega
  · by_cases hjl : j < len
    · rw [hold j hjl]
      rcases h6 j hjl with g | ⟨k, g1, g2, g3, g4, g5, g6⟩
      · exact Or.inl g
      · right
        have hnM : M.testBit (v.2 26 j) = false := by
          cases hc : M.testBit (v.2 26 j)
          · rfl
          · have := (hM _ hc).2.1
            rw [h3 j hjl] at this
            cases this
        obtain ⟨e1, e2⟩ := hr.2.2.2 (v.2 26 j) (Or.inr hnM)
        rw [e1, e2]
        exact ⟨k, g1, by rw [hold k (by omega)]; exact g2, g3, g4, by rw [hold k (by omega)]; exact g5, g6⟩
    · obtain ⟨a, g1, g2, g3, g4⟩ := hq j hjl hj
      obtain ⟨-, e1, e2⟩ := hr.2.2.1 a g1 g2
      right
      rw [g4, e1, e2]
      exact ⟨i, by omega, by rw [hold i hi], hd, hlo, by rw [hold i hi]; exact hx, (hM a g2).2.2⟩
  · rw [Nat.testBit_or, h7 a ha, Bool.true_or]
/-- closed so far: another demand of the same arrival, with nothing to add -/
theorem sp_cl_skip {lo R i d : Nat} {x : Nat → Nat → Nat} {us : Nat → Nat} {v : pf_S} (h : sp_cl lo x us R v i d) (hs : lo.testBit d = true → 0 < x d (v.2 26 i) → ∀ b, (us d).testBit b = true → R.testBit b = true) : sp_cl lo x us R v i (d + 1) := by
  refine ⟨h.1, fun z hz => ?_⟩
  by_cases e : z = d
  · subst e
    exact hs
  · exact h.2 z (by omega)
theorem sp_cl_mono {lo R M i d len : Nat} {x : Nat → Nat → Nat} {us : Nat → Nat} {v w : pf_S} (h : sp_cl lo x us R v i d) (hi : i < len) (hw : ∀ j, j < len → w.2 26 j = v.2 26 j) : sp_cl lo x us (R ||| M) w i d := by
  refine ⟨fun j hj z hz h1 h2 b hb => ?_, fun z hz h1 h2 b hb => ?_⟩
  · rw [hw j (by omega)] at h2
    rw [Nat.testBit_or, h.1 j hj z hz h1 h2 b hb, Bool.true_or]
  · rw [hw i hi] at h2
    rw [Nat.testBit_or, h.2 z hz h1 h2 b hb, Bool.true_or]
theorem sp_cl_next {lo R i : Nat} {x : Nat → Nat → Nat} {us : Nat → Nat} {v : pf_S} (h : sp_cl lo x us R v i 31) : sp_cl lo x us R v (i + 1) 0 := by
  refine ⟨fun j hj => ?_, fun z hz => by omega⟩
  by_cases e : j = i
  · subst e
    exact h.2
  · exact h.1 j (by omega)
theorem lt_1024 {S n : Nat} (hn : n ≤ 10) (h : ∀ a, S.testBit a = true → a < n) : S < 1024 := by
  refine Nat.lt_pow_two_of_testBit (n := 10) S (fun a ha => ?_)
  cases hc : S.testBit a
  · rfl
  · have := h a hc
    omega
theorem st_buts.tr {ks : List Nat} {u v w : pf_S} (h : st_buts ks u v) (g : st_buts ks v w) : st_buts ks u w := ⟨g.1.trans h.1, fun j hj => (g.2 j hj).trans (h.2 j hj)⟩
def us_ok (u : pf_S) : Prop := ∀ d, d < 31 → ∀ a, (u.2 23 d).testBit a = true → a < u.1 2
/-- what spread leaves: reached is closed under the shifts of loose demands -/
def sp_post (u u1 : pf_S) (S lo R : Nat) : Prop := st_buts [26, 27, 28] u u1 ∧ sp_inv (u.1 2) S lo (tk_x u) (u.2 23) R (fl_sum (tbit R) (u.1 2)) u1 ∧ ∀ a, R.testBit a = true → ∀ d, d < 31 → lo.testBit d = true → 0 < tk_x u d a → ∀ b, (u.2 23 d).testBit b = true → R.testBit b = true
set_option maxHeartbeats 4000000 in
set_option maxRecDepth 100000 in
theorem c_X3_spread (l : Launch) (G : gw_G) (q : Nat → Nat) (u : pf_S) (S : Nat) (lo : Nat) (hcap : tk_cap u) (hus : us_ok u) (hS : ∀ a, S.testBit a = true → a < u.1 2) : gw_MI l yX3_spread cX3_spread 9 (some .int) 1 26 [.ref (q 4), .int (nI (S)), .int (nI (lo))] G (pw G q) u (fun r u1 => ∃ k : Nat, r = nI k ∧ (sp_post u u1 S lo k)) := by
  refine gw_entryI (own := RX3) (by decide) rfl (Nat.le_of_ble_eq_true rfl) ?_
  intro p e s m args below meth c A ls C Hh hl
  have hl : lv_has ls 9 [(0, .ref (q 4)), (1, .int (nI (S))), (2, .int (nI (lo)))] := hl
  refine lv_iload_n C.1 C.2.1 dX3_spread_0 rfl (lv_at hl 1 rfl) ?_
  refine lv_istore_n (lv' := [(3, .int (nI (S))), (0, .ref (q 4)), (1, .int (nI (S))), (2, .int (nI (lo)))]) C.1 C.2.1 dX3_spread_1 rfl hl (by decide) rfl (fun ls hl => ?_)
  refine lv_aload_n C.1 C.2.1 dX3_spread_2 rfl (lv_at hl 1 rfl) ?_
  refine lv_iload_n C.1 C.2.1 dX3_spread_3 rfl (lv_at hl 2 rfl) ?_
  refine lv_iconst (v := nI 0) C.1 C.2.1 dX3_spread_4 (by decide +kernel) ?_
  refine lv_iconst (v := nI 4294967295) C.1 C.2.1 dX3_spread_5 (by decide +kernel) ?_
  refine lv_iconst (v := nI 4294967295) C.1 C.2.1 dX3_spread_6 (by decide +kernel) ?_
  refine gw_fromI (w := pw G q) (u := u) C Hh (gw_runV (n := 4) (C1 := RX3) [.int (nI (S)), .int (nI (0)), .int (nI (4294967295)), .int (nI (4294967295))] C Hh (c_X3_reach l G q (u) (S) (0) (4294967295) (4294967295) (by exact hcap.1) (by rw [Nat.zero_add]; exact Nat.le_trans (fl_sum_cnt (tbit_le S) _) hcap.1) _) tw_461 tw_463 tw_24 tw_70 tw_464 (by decide +kernel) ⟨Nat.le_of_ble_eq_true rfl, Nat.le_of_ble_eq_true rfl⟩ 4 pw_at4 rfl rfl hl.1 (Nat.le_of_ble_eq_true rfl) dX3_spread_7 ⟨Nat.zero_le _, Nat.zero_le _⟩) (fun rc_7 uc_7 H locs hp_7 Hh => ?_)
  obtain ⟨kc_7, rfl, hp_7⟩ := hp_7
  refine lv_istore (lv' := [(4, .int (nI (kc_7))), (3, .int (nI (S))), (0, .ref (q 4)), (1, .int (nI (S))), (2, .int (nI (lo)))]) C.1 C.2.1 dX3_spread_10 hl (by decide) rfl (fun ls hl => ?_)
  refine lv_iconst (v := nI 0) C.1 C.2.1 dX3_spread_12 (by decide +kernel) ?_
  refine lv_istore (lv' := [(5, .int (nI (0))), (4, .int (nI (kc_7))), (3, .int (nI (S))), (0, .ref (q 4)), (1, .int (nI (S))), (2, .int (nI (lo)))]) C.1 C.2.1 dX3_spread_13 hl (by decide) rfl (fun ls hl => ?_)
  have loop_15 : ∀ (fu : Nat) (i : Nat) (R : Nat) (len : Nat) (uc : pf_S) (H : Heap) (locs : List Loc) (ls : Array Slot), (i ≤ len) → (st_buts [26, 27, 28] u uc) → (sp_inv (u.1 2) S lo (tk_x u) (u.2 23) R len uc) → (sp_cl lo (tk_x u) (u.2 23) R uc i 0) → 10 - i < fu → gw_H G A s (pw G q uc) H locs → lv_has ls 9 [(0, .ref (q 4)), (1, .int (nI (S))), (2, .int (nI (lo))), (3, .int (nI (R))), (4, .int (nI (len))), (5, .int (nI (i)))] → W p l e (gw_rm 1 26) s m args below meth c H locs 0 0 (MQ below (va_Qi (fun r u1 => ∃ k : Nat, r = nI k ∧ (sp_post u u1 S lo k)) (gw_at G A (pw G q)) A) args s 0 0 A) (F0 m 15 ls []) := by
    intro fu
    induction fu with
    | zero =>
      intro i R len uc H locs ls hi hfr hv hcl hmf
      exact absurd hmf (Nat.not_lt_zero _)
    | succ fu ih_15 =>
      intro i R len uc H locs ls hi hfr hv hcl hmf Hh hl
      have h0 := hcap.1
      have hlen := fl_sum_cnt (tbit_le R) (u.1 2)
      have hle := hv.2.1
      refine lv_iload C.1 C.2.1 dX3_spread_15 (lv_at hl 5 rfl) ?_
      refine lv_iload C.1 C.2.1 dX3_spread_17 (lv_at hl 4 rfl) ?_
      refine gw_icmp_ge (tgt := 122) C dX3_spread_19 (by decide) (by omega) (by omega) (fun hc_19 => ?_) (fun hc_19 => ?_)
      · skip
        refine lv_iload_n C.1 C.2.1 dX3_spread_122 rfl (lv_at hl 3 rfl) ?_
        exact gw_iret (w := pw G q) (u := uc) C Hh dX3_spread_123 ⟨_, rfl, by have hin : i = len := (by omega); subst hin; refine ⟨hfr, (by rw [← hle]; exact hv), fun a ha d hd h1 h2 b hb => ?_⟩; obtain ⟨j, g1, g2⟩ := hv.2.2.2.1 a ha; exact hcl.1 j g1 d hd h1 (by rw [g2]; exact h2) b hb⟩
      · skip
        refine lv_iload C.1 C.2.1 dX3_spread_22 (lv_at hl 5 rfl) ?_
        refine lv_bipush (v := nI 10) C.1 C.2.1 dX3_spread_24 (by decide +kernel) ?_
        refine gw_icmp_ge (tgt := 122) C dX3_spread_26 (by decide) (by omega) (by omega) (fun hc_26 => ?_) (fun hc_26 => ?_)
        · skip
          refine lv_iload_n C.1 C.2.1 dX3_spread_122 rfl (lv_at hl 3 rfl) ?_
          exact gw_iret (w := pw G q) (u := uc) C Hh dX3_spread_123 ⟨_, rfl, by have hin : i = len := (by omega); subst hin; refine ⟨hfr, (by rw [← hle]; exact hv), fun a ha d hd h1 h2 b hb => ?_⟩; obtain ⟨j, g1, g2⟩ := hv.2.2.2.1 a ha; exact hcl.1 j g1 d hd h1 (by rw [g2]; exact h2) b hb⟩
        · skip
          refine lv_aload_n C.1 C.2.1 dX3_spread_29 rfl (lv_at hl 0 rfl) ?_
          refine gw_get (Cn := RX3) (T := TX3) (N := 10) C Hh 4 pw_at4 rfl uwX3 7 (by decide) rfl tw_194 rfl dX3_spread_30 ?_
          refine lv_iload C.1 C.2.1 dX3_spread_33 (lv_at hl 5 rfl) ?_
          refine gw_ld C Hh 26 pw_at26 (by decide) dX3_spread_35 (by omega) ?_
          have hlt : uc.2 26 i < u.1 2 := hv.1 _ (hv.2.2.1 i (by omega))
          obtain ⟨ar, hare⟩ : ∃ z, uc.2 26 i = z := ⟨_, rfl⟩
          rw [hare] at hlt ⊢
          refine lv_istore (lv' := [(6, .int (nI (ar))), (0, .ref (q 4)), (1, .int (nI (S))), (2, .int (nI (lo))), (3, .int (nI (R))), (4, .int (nI (len))), (5, .int (nI (i)))]) C.1 C.2.1 dX3_spread_36 hl (by decide) rfl (fun ls hl => ?_)
          refine lv_iconst (v := nI 0) C.1 C.2.1 dX3_spread_38 (by decide +kernel) ?_
          refine lv_istore (lv' := [(7, .int (nI (0))), (6, .int (nI (ar))), (0, .ref (q 4)), (1, .int (nI (S))), (2, .int (nI (lo))), (3, .int (nI (R))), (4, .int (nI (len))), (5, .int (nI (i)))]) C.1 C.2.1 dX3_spread_39 hl (by decide) rfl (fun ls hl => ?_)
          have loop_41 : ∀ (fu : Nat) (d : Nat) (R2 : Nat) (len2 : Nat) (ud : pf_S) (H : Heap) (locs : List Loc) (ls : Array Slot), (d ≤ 31) → (i < len2) → (ud.2 26 i = ar) → (st_buts [26, 27, 28] u ud) → (sp_inv (u.1 2) S lo (tk_x u) (u.2 23) R2 len2 ud) → (sp_cl lo (tk_x u) (u.2 23) R2 ud i d) → 31 - d < fu → gw_H G A s (pw G q ud) H locs → lv_has ls 9 [(0, .ref (q 4)), (1, .int (nI (S))), (2, .int (nI (lo))), (3, .int (nI (R2))), (4, .int (nI (len2))), (5, .int (nI (i))), (6, .int (nI (ar))), (7, .int (nI (d)))] → W p l e (gw_rm 1 26) s m args below meth c H locs 0 0 (MQ below (va_Qi (fun r u1 => ∃ k : Nat, r = nI k ∧ (sp_post u u1 S lo k)) (gw_at G A (pw G q)) A) args s 0 0 A) (F0 m 41 ls []) := by
            intro fu
            induction fu with
            | zero =>
              intro d R2 len2 ud H locs ls hd hi2 har hfr2 hv2 hcl2 hmf
              exact absurd hmf (Nat.not_lt_zero _)
            | succ fu ih_41 =>
              intro d R2 len2 ud H locs ls hd hi2 har hfr2 hv2 hcl2 hmf Hh hl
              have h22 : ud.2 22 = u.2 22 := hfr2.2 22 (by decide)
              have h23 : ud.2 23 = u.2 23 := hfr2.2 23 (by decide)
              have hn2 : ud.1 2 = u.1 2 := by rw [hfr2.1]
              have hlen2 := fl_sum_cnt (tbit_le R2) (u.1 2)
              have hle2 := hv2.2.1
              refine lv_iload C.1 C.2.1 dX3_spread_41 (lv_at hl 7 rfl) ?_
              refine lv_bipush (v := nI 31) C.1 C.2.1 dX3_spread_43 (by decide +kernel) ?_
              refine gw_icmp_ge (tgt := 116) C dX3_spread_45 (by decide) (by omega) (by omega) (fun hc_45 => ?_) (fun hc_45 => ?_)
              · skip
                refine lv_iinc (v := nI (i + 1)) (lv' := [(5, .int (nI (i + 1))), (0, .ref (q 4)), (1, .int (nI (S))), (2, .int (nI (lo))), (3, .int (nI (R2))), (4, .int (nI (len2))), (6, .int (nI (ar))), (7, .int (nI (d)))]) C.1 C.2.1 dX3_spread_116 hl (k := 5) rfl (nI_add _ 1) (by decide) rfl (fun ls hl => ?_)
                refine lv_goto (tgt := 15) C.1 C.2.1 dX3_spread_119 (by decide) ?_
                exact ih_15 (i + 1) (R2) (len2) (ud) _ _ _ (by first | assumption | omega) (by exact hfr2) (by exact hv2) (by exact sp_cl_next (by rw [show (31 : Nat) = d by omega]; exact hcl2)) (by omega) Hh (lv_sub hl [1, 2, 3, 4, 5, 0] rfl)
              · skip
                refine lv_aload_n C.1 C.2.1 dX3_spread_48 rfl (lv_at hl 0 rfl) ?_
                refine gw_get (Cn := RX3) (T := TX3) (N := 10) C Hh 4 pw_at4 rfl uwX3 4 (by decide) rfl tw_190 rfl dX3_spread_49 ?_
                refine lv_iload C.1 C.2.1 dX3_spread_52 (lv_at hl 7 rfl) ?_
                refine gw_ld C Hh 23 pw_at23 (by decide) dX3_spread_54 (by omega) ?_
                refine lv_iload_n C.1 C.2.1 dX3_spread_55 rfl (lv_at hl 3 rfl) ?_
                refine lv_iconst (v := nI 4294967295) C.1 C.2.1 dX3_spread_56 (by decide +kernel) ?_
                refine gw_ixor C dX3_spread_57 ?_
                refine gw_iand C dX3_spread_58 ?_
                obtain ⟨M, hM⟩ : ∃ z, u.2 23 d &&& (R2 ^^^ 4294967295) = z := ⟨_, rfl⟩
                have hU := lt_1024 hcap.1 (hus d (by omega))
                have hMl : M < 1024 := by rw [← hM]; exact Nat.lt_of_le_of_lt Nat.and_le_left hU
                have hMb : ∀ b, b < 32 → M.testBit b = ((u.2 23 d).testBit b && !R2.testBit b) := fun b hb => by rw [← hM]; exact mk_bit hb
                have hMs : ∀ a, M.testBit a = true → a < u.1 2 ∧ R2.testBit a = false ∧ (u.2 23 d).testBit a = true := fun a ha => by have h1 : (u.2 23 d).testBit a = true := (by rw [← hM, Nat.testBit_and, Bool.and_eq_true] at ha; exact ha.1); have h2 := hus d (by omega) a h1; have h3 := hMb a (by omega); rw [ha, h1] at h3; exact ⟨h2, (by cases hR : R2.testBit a; (rfl); (rw [hR] at h3; simp at h3)), h1⟩
                have hMn : fl_sum (tbit R2) (u.1 2) + fl_sum (tbit M) (u.1 2) ≤ u.1 2 := by rw [← mk_sum (fun a ha => (hMs a ha).2.1)]; exact fl_sum_cnt (tbit_le _) _
                rw [h23, hM]
                refine lv_istore (lv' := [(8, .int (nI (M))), (0, .ref (q 4)), (1, .int (nI (S))), (2, .int (nI (lo))), (3, .int (nI (R2))), (4, .int (nI (len2))), (5, .int (nI (i))), (6, .int (nI (ar))), (7, .int (nI (d)))]) C.1 C.2.1 dX3_spread_59 hl (by decide) rfl (fun ls hl => ?_)
                refine lv_iload C.1 C.2.1 dX3_spread_61 (lv_at hl 0 rfl) ?_
                have join_110 : ∀ (R3 : Nat) (len3 : Nat) (ue : pf_S) (H : Heap) (locs : List Loc) (ls : Array Slot), (i < len3) → (ue.2 26 i = ar) → (st_buts [26, 27, 28] u ue) → (sp_inv (u.1 2) S lo (tk_x u) (u.2 23) R3 len3 ue) → (sp_cl lo (tk_x u) (u.2 23) R3 ue i (d + 1)) → gw_H G A s (pw G q ue) H locs → lv_has ls 9 [(0, .ref (q 4)), (1, .int (nI (S))), (2, .int (nI (lo))), (3, .int (nI (R3))), (4, .int (nI (len3))), (5, .int (nI (i))), (6, .int (nI (ar))), (7, .int (nI (d)))] → W p l e (gw_rm 1 26) s m args below meth c H locs 0 0 (MQ below (va_Qi (fun r u1 => ∃ k : Nat, r = nI k ∧ (sp_post u u1 S lo k)) (gw_at G A (pw G q)) A) args s 0 0 A) (F0 m 110 ls []) := by
                  intro R3 len3 ue H locs ls hi3 har3 hfr3 hv3 hcl3 Hh hl
                  refine lv_iinc (v := nI (d + 1)) (lv' := [(7, .int (nI (d + 1))), (0, .ref (q 4)), (1, .int (nI (S))), (2, .int (nI (lo))), (3, .int (nI (R3))), (4, .int (nI (len3))), (5, .int (nI (i))), (6, .int (nI (ar)))]) C.1 C.2.1 dX3_spread_110 hl (k := 7) rfl (nI_add _ 1) (by decide) rfl (fun ls hl => ?_)
                  refine lv_goto (tgt := 41) C.1 C.2.1 dX3_spread_113 (by decide) ?_
                  exact ih_41 (d + 1) (R3) (len3) (ue) _ _ _ (by first | assumption | omega) (by exact hi3) (by exact har3) (by exact hfr3) (by exact hv3) (by exact hcl3) (by omega) Hh (lv_sub hl [1, 2, 3, 4, 5, 6, 7, 0] rfl)
                refine gw_if_eq (tgt := 110) C dX3_spread_63 (by decide) (by omega) (fun hc_63 => ?_) (fun hc_63 => ?_)
                · skip
                  exact join_110 (R2) (len2) (ud) _ _ _ (by exact hi2) (by exact har) (by exact hfr2) (by exact hv2) (by refine sp_cl_skip hcl2 (fun _ _ b hb => ?_); have hb1 := hus d (by omega) b hb; have e0 := hMb b (by omega); rw [hc_63, hb] at e0; cases hR : R2.testBit b; (rw [hR] at e0; simp at e0); rfl) Hh (lv_sub hl [1, 2, 3, 4, 5, 6, 7, 8] rfl)
                · skip
                  refine lv_iload_n C.1 C.2.1 dX3_spread_66 rfl (lv_at hl 3 rfl) ?_
                  refine lv_iload C.1 C.2.1 dX3_spread_67 (lv_at hl 8 rfl) ?_
                  refine gw_fromI (w := pw G q) (u := ud) C Hh (gw_runSN (n := 2) [.int (nI (lo)), .int (nI (d))] C Hh (c_X4_hasBit l G q (ud) (lo) (d) (by first | assumption | omega) _) tw_449 tw_450 tw_66 tw_451 (by decide +kernel) ⟨Nat.le_of_ble_eq_true rfl, Nat.le_of_ble_eq_true rfl⟩ rfl hl.1 (Nat.le_of_ble_eq_true rfl) dX3_spread_69 ⟨Nat.zero_le _, Nat.zero_le _⟩) (fun rc_69 uc_69 H locs hp_69 Hh => ?_)
                  obtain ⟨kc_69, rfl, hp_69⟩ := hp_69
                  obtain ⟨hk_69, hu_69⟩ := hp_69
                  rw [hu_69] at Hh
                  clear hu_69
                  have htl := tbit_le lo d
                  refine gw_if_eq (tgt := 110) C dX3_spread_72 (by decide) (by omega) (fun hc_72 => ?_) (fun hc_72 => ?_)
                  · skip
                    exact join_110 (R2) (len2) (ud) _ _ _ (by exact hi2) (by exact har) (by exact hfr2) (by exact hv2) (by refine sp_cl_skip hcl2 (fun h1 _ b hb => ?_); rw [hk_69] at hc_72; rw [tbit_zero hc_72] at h1; cases h1) Hh (lv_sub hl [1, 2, 3, 4, 5, 6, 7, 8] rfl)
                  · skip
                    refine lv_aload_n C.1 C.2.1 dX3_spread_75 rfl (lv_at hl 1 rfl) ?_
                    refine gw_get (Cn := RX3) (T := TX3) (N := 10) C Hh 4 pw_at4 rfl uwX3 3 (by decide) rfl tw_189 rfl dX3_spread_76 ?_
                    refine lv_iload C.1 C.2.1 dX3_spread_79 (lv_at hl 8 rfl) ?_
                    refine lv_bipush (v := nI 10) C.1 C.2.1 dX3_spread_81 (by decide +kernel) ?_
                    refine gw_imul C dX3_spread_83 ?_
                    refine lv_iload C.1 C.2.1 dX3_spread_84 (lv_at hl 7 rfl) ?_
                    refine gw_iadd C dX3_spread_86 ?_
                    refine gw_ld C Hh 22 pw_at22 (by decide) dX3_spread_87 (by omega) ?_
                    have hxx := hcap.x (show d < 31 by omega) hlt
                    refine gw_if_le (tgt := 110) C dX3_spread_88 (by decide) (by rw [h22]; exact Nat.lt_of_le_of_lt hxx (by decide)) (fun hc_88 => ?_) (fun hc_88 => ?_)
                    · skip
                      exact join_110 (R2) (len2) (ud) _ _ _ (by exact hi2) (by exact har) (by exact hfr2) (by exact hv2) (by refine sp_cl_skip hcl2 (fun _ h1 b hb => ?_); rw [har] at h1; unfold tk_x at h1; rw [h22] at hc_88; omega) Hh (lv_sub hl [1, 2, 3, 4, 5, 6, 7, 8] rfl)
                    · skip
                      refine lv_aload_n C.1 C.2.1 dX3_spread_91 rfl (lv_at hl 1 rfl) ?_
                      refine lv_iload C.1 C.2.1 dX3_spread_92 (lv_at hl 0 rfl) ?_
                      refine lv_iload C.1 C.2.1 dX3_spread_94 (lv_at hl 5 rfl) ?_
                      refine lv_iload C.1 C.2.1 dX3_spread_96 (lv_at hl 7 rfl) ?_
                      refine lv_iload C.1 C.2.1 dX3_spread_98 (lv_at hl 8 rfl) ?_
                      refine gw_fromI (w := pw G q) (u := ud) C Hh (gw_runV (n := 4) (C1 := RX3) [.int (nI (M)), .int (nI (len2)), .int (nI (ar)), .int (nI (d))] C Hh (c_X3_reach l G q (ud) (M) (len2) (ar) (d) (by rw [hn2]; exact hcap.1) (by rw [hn2]; omega) _) tw_461 tw_463 tw_24 tw_70 tw_464 (by decide +kernel) ⟨Nat.le_of_ble_eq_true rfl, Nat.le_of_ble_eq_true rfl⟩ 4 pw_at4 rfl rfl hl.1 (Nat.le_of_ble_eq_true rfl) dX3_spread_100 ⟨Nat.zero_le _, Nat.zero_le _⟩) (fun rc_100 uc_100 H locs hp_100 Hh => ?_)
                      obtain ⟨kc_100, rfl, hp_100⟩ := hp_100
                      refine lv_istore (lv' := [(4, .int (nI (kc_100))), (8, .int (nI (M))), (0, .ref (q 4)), (1, .int (nI (S))), (2, .int (nI (lo))), (3, .int (nI (R2))), (5, .int (nI (i))), (6, .int (nI (ar))), (7, .int (nI (d)))]) C.1 C.2.1 dX3_spread_103 hl (by decide) rfl (fun ls hl => ?_)
                      refine lv_iload_n C.1 C.2.1 dX3_spread_105 rfl (lv_at hl 5 rfl) ?_
                      refine lv_iload C.1 C.2.1 dX3_spread_106 (lv_at hl 1 rfl) ?_
                      refine gw_ior C dX3_spread_108 ?_
                      refine lv_istore_n (lv' := [(3, .int (nI (R2 ||| M))), (4, .int (nI (kc_100))), (8, .int (nI (M))), (0, .ref (q 4)), (1, .int (nI (S))), (2, .int (nI (lo))), (5, .int (nI (i))), (6, .int (nI (ar))), (7, .int (nI (d)))]) C.1 C.2.1 dX3_spread_109 rfl hl (by decide) rfl (fun ls hl => ?_)
                      exact join_110 (R2 ||| M) (kc_100) (uc_100) _ _ _ (by rw [hp_100.1]; omega) (by rw [hp_100.2.2.1 i hi2]; exact har) (by exact hfr2.tr hp_100.2.1) (by have hrc := hp_100.2; rw [hn2, ← har] at hrc; exact sp_add hv2 hi2 (by omega) (tbit_pos (by omega)) (by unfold tk_x; rw [har, ← h22]; exact hc_88) hMs hrc (by rw [hp_100.1, hn2])) (by refine sp_cl_skip (sp_cl_mono hcl2 hi2 hp_100.2.2.1) (fun _ _ b hb => ?_); have hb1 := hus d (by omega) b hb; have e0 := hMb b (by omega); rw [Nat.testBit_or, e0, hb]; cases R2.testBit b <;> rfl) Hh (lv_sub hl [3, 4, 5, 0, 1, 6, 7, 8] rfl)
          exact loop_41 _ (0) (R) (len) (uc) _ _ _ (by first | assumption | omega) (by first | assumption | omega) (by exact hare) (by exact hfr) (by exact hv) (by exact hcl) (Nat.lt_succ_self _) Hh (lv_sub hl [2, 3, 4, 5, 6, 7, 1, 0] rfl)
  exact loop_15 _ (0) (S) (kc_7) (uc_7) _ _ _ (by first | assumption | omega) (by exact hp_7.2.1) (by rw [hp_7.1]; exact sp_start hS hp_7.2) (by exact ⟨fun j hj => by omega, fun z hz => by omega⟩) (Nat.lt_succ_self _) Hh (lv_sub hl [3, 4, 5, 2, 1, 0] rfl)
end
section
/-! a path of shifts, from the last arrival to the first one: each takes from the next -/
def pl (u : pf_S) (lo first m : Nat) : List Nat → Prop
  | [] => False
  | [a] => a = first ∧ a < u.1 2
  | a :: b :: t => (a ≠ first ∧ a < u.1 2 ∧ u.2 27 a = b ∧ u.2 28 a < 31 ∧ lo.testBit (u.2 28 a) = true ∧ m ≤ tk_x u (u.2 28 a) b ∧ (u.2 23 (u.2 28 a)).testBit a = true) ∧ pl u lo first m (b :: t)
theorem pl_cases {u : pf_S} {lo first m a : Nat} {M : List Nat} (h : pl u lo first m M) (hd : M.head? = some a) : (a = first ∧ a < u.1 2 ∧ M = [a]) ∨ ∃ b t, M = a :: b :: t ∧ (a ≠ first ∧ a < u.1 2 ∧ u.2 27 a = b ∧ u.2 28 a < 31 ∧ lo.testBit (u.2 28 a) = true ∧ m ≤ tk_x u (u.2 28 a) b ∧ (u.2 23 (u.2 28 a)).testBit a = true) ∧ pl u lo first m (b :: t) := by
  match M, h, hd with
  | [c], h, hd =>
    cases hd
    exact Or.inl ⟨h.1, h.2, rfl⟩
  | c :: b :: t, h, hd =>
    cases hd
    exact Or.inr ⟨b, t, rfl, h.1, h.2⟩
theorem pl_lt {u : pf_S} {lo first m a : Nat} {M : List Nat} (h : pl u lo first m M) (hd : M.head? = some a) : a < u.1 2 := by
  rcases pl_cases h hd with h1 | ⟨b, t, -, h1, -⟩
  · exact h1.2.1
  · exact h1.2.1
theorem pl_mem {u : pf_S} {lo first m : Nat} : ∀ {M : List Nat}, pl u lo first m M → ∀ a ∈ M, a < u.1 2
  | [c], h, a, ha => by
    rw [List.mem_singleton] at ha
    rw [ha]
    exact h.2
  | c :: b :: t, h, a, ha => by
    rcases List.mem_cons.mp ha with rfl | ha
    · exact h.1.2.1
    · exact pl_mem h.2 a ha
/-- only what is taken from the arrivals behind the head matters -/
theorem pl_keep {u v : pf_S} {lo first m : Nat} (h1 : v.1 = u.1) (h23 : v.2 23 = u.2 23) (h27 : v.2 27 = u.2 27) (h28 : v.2 28 = u.2 28) : ∀ {M : List Nat}, pl u lo first m M → (∀ c ∈ M.tail, ∀ d, d < 31 → tk_x v d c = tk_x u d c) → pl v lo first m M
  | [c], h, _ => by
    refine ⟨h.1, ?_⟩
    rw [h1]
    exact h.2
  | c :: b :: t, h, hk => by
    obtain ⟨⟨g1, g2, g3, g4, g5, g6, g7⟩, g8⟩ := h
    refine ⟨⟨g1, by rw [h1]; exact g2, by rw [h27]; exact g3, by rw [h28]; exact g4, by rw [h28]; exact g5, ?_, by rw [h28, h23]; exact g7⟩, pl_keep h1 h23 h27 h28 g8 (fun x hx => hk x (List.mem_cons_of_mem _ hx))⟩
    rw [h28, hk b (by simp) _ g4]
    exact g6
/-- a reached arrival has such a path -/
theorem pl_of {u : pf_S} {lo first R len : Nat} (h : sp_inv (u.1 2) (1 <<< first) lo (tk_x u) (u.2 23) R len u) : ∀ (i : Nat), i < len → ∃ L, pl u lo first 1 L ∧ L.head? = some (u.2 26 i) ∧ L.Nodup ∧ L.length ≤ i + 1 ∧ ∀ b ∈ L, ∃ j, j ≤ i ∧ u.2 26 j = b := by
  intro i
  induction i using Nat.strongRecOn with
  | ind i ih =>
    intro hi
    have hlt : u.2 26 i < u.1 2 := h.1 _ (h.2.2.1 i hi)
    by_cases hf : u.2 26 i = first
    · exact ⟨[u.2 26 i], ⟨hf, hlt⟩, rfl, by simp, by simp, fun b hb => ⟨i, Nat.le_refl _, by rw [List.mem_singleton] at hb; exact hb.symm⟩⟩
    · rcases h.2.2.2.2.2.1 i hi with hs | ⟨j, g1, g2, g3, g4, g5, g6⟩
      · exfalso
        rw [Nat.one_shiftLeft, Nat.testBit_two_pow] at hs
        exact hf (decide_eq_true_eq.mp hs).symm
      · obtain ⟨L, k1, k2, k3, k4, k5⟩ := ih j g1 (by omega)
        obtain ⟨t, rfl⟩ : ∃ t, L = u.2 26 j :: t := by
          cases L with
          | nil => cases k2
          | cons x t => cases k2; exact ⟨t, rfl⟩
        refine ⟨u.2 26 i :: u.2 26 j :: t, ⟨⟨hf, hlt, g2, g3, g4, g5, g6⟩, k1⟩, rfl, ?_, by simp only [List.length_cons] at k4 ⊢; omega, fun b hb => ?_⟩
        · rw [List.nodup_cons]
          refine ⟨fun hm => ?_, k3⟩
          obtain ⟨z, z1, z2⟩ := k5 _ hm
          exact h.2.2.2.2.1 z i (by omega) hi z2
        · rcases List.mem_cons.mp hb with rfl | hb
          · exact ⟨i, Nat.le_refl _, rfl⟩
          · obtain ⟨z, z1, z2⟩ := k5 b hb
            exact ⟨z, by omega, z2⟩
def tk_col (u : pf_S) (a : Nat) : Nat := u.2 21 a + fl_sum (fun d => tk_x u d a) 31
/-- what shifts along a path have done so far, the freed ones lying at arrival c -/
def sh_rel (u v : pf_S) (lo c last nn : Nat) (L : List Nat) : Prop :=
  st_buts [21, 22] u v ∧ (∀ a, a < 10 → v.2 21 a = if a = last then u.2 21 a - nn else u.2 21 a) ∧ (∀ d, d < 31 → fl_sum (tk_x v d) (u.1 2) = fl_sum (tk_x u d) (u.1 2)) ∧ (∀ a, a < u.1 2 → tk_col v a + (if a = c then nn else 0) = tk_col u a) ∧
  (∀ d, d < 31 → ∀ a, a < u.1 2 → 0 < tk_x v d a → 0 < tk_x u d a ∨ (u.2 23 d).testBit a = true) ∧ (∀ d, d < 31 → lo.testBit d = false → ∀ a, a < 10 → tk_x v d a = tk_x u d a) ∧ ∀ a, a < 10 → a ∉ L → ∀ d, d < 31 → tk_x v d a = tk_x u d a
theorem sh_start {u : pf_S} {lo last nn : Nat} {L : List Nat} (hl : last < u.1 2) (hn : nn ≤ u.2 21 last) : sh_rel u (u.1, up2 u.2 21 last (u.2 21 last - nn)) lo last last nn L := by
  have hx : ∀ d a, tk_x (u.1, up2 u.2 21 last (u.2 21 last - nn)) d a = tk_x u d a := fun d a => by simp [tk_x, up2]
  refine ⟨st_buts.rf.up (by decide), fun a _ => ?_, fun d _ => fl_sum_congr fun a _ => hx d a, fun a ha => ?_, fun d _ a _ h => Or.inl (by rw [hx] at h; exact h), fun d _ _ a _ => hx d a, fun a _ _ d _ => hx d a⟩
  · by_cases h : a = last <;> simp [up2, h]
  · have e1 : fl_sum (fun d => tk_x (u.1, up2 u.2 21 last (u.2 21 last - nn)) d a) 31 = fl_sum (fun d => tk_x u d a) 31 := fl_sum_congr fun d _ => hx d a
    unfold tk_col
    rw [e1]
    by_cases h : a = last
    · subst h
      simp [up2]
      omega
    · simp [up2, h]
/-- the move of nn from arrival b to arrival a by demand d -/
def mv (v : pf_S) (d a b nn : Nat) : pf_S := (v.1, upA v.2 22 (fun j => if j = d * 10 + a then v.2 22 j + nn else if j = d * 10 + b then v.2 22 j - nn else v.2 22 j))
theorem mv_eq {v : pf_S} {d a b nn : Nat} (hab : a ≠ b) : ((v.1, up2 (up2 v.2 22 (d * 10 + a) (v.2 22 (d * 10 + a) + nn)) 22 (d * 10 + b) (up2 v.2 22 (d * 10 + a) (v.2 22 (d * 10 + a) + nn) 22 (d * 10 + b) - nn)) : pf_S) = mv v d a b nn := by
  unfold mv
  congr 1
  funext x y
  by_cases hx : x = 22
  · subst hx
    by_cases h1 : y = d * 10 + a
    · have h2 : ¬ y = d * 10 + b := by omega
      subst h1
      have h3 : ¬ a = b := hab
      simp [up2, upA, h3]
    · by_cases h2 : y = d * 10 + b
      · subst h2
        have h3 : ¬ b = a := fun e => hab e.symm
        simp [up2, upA, h3]
      · simp [up2, upA, h1, h2]
  · simp [up2, upA, hx]
theorem mv_x {v : pf_S} {d a b nn : Nat} (ha : a < 10) (hb : b < 10) {e c : Nat} (hc : c < 10) : tk_x (mv v d a b nn) e c = if e = d ∧ c = a then tk_x v e c + nn else if e = d ∧ c = b then tk_x v e c - nn else tk_x v e c := by
  unfold tk_x mv
  simp only [upA, if_true]
  have h1 : (e * 10 + c = d * 10 + a) = (e = d ∧ c = a) := propext ⟨fun h => by omega, fun h => by rw [h.1, h.2]⟩
  have h2 : (e * 10 + c = d * 10 + b) = (e = d ∧ c = b) := propext ⟨fun h => by omega, fun h => by rw [h.1, h.2]⟩
  simp only [h1, h2]
theorem mv_row {v : pf_S} {d a b nn n : Nat} (ha : a < n) (hb : b < n) (hn : n ≤ 10) (hab : a ≠ b) (hnn : nn ≤ tk_x v d b) (e : Nat) : fl_sum (tk_x (mv v d a b nn) e) n = fl_sum (tk_x v e) n := by
  by_cases he : e = d
  · subst he
    have hx : ∀ c, c < n → tk_x (mv v e a b nn) e c = if c = a then tk_x v e c + nn else if c = b then tk_x v e c - nn else tk_x v e c := fun c hc => by
      rw [mv_x (by omega) (by omega) (by omega)]
      simp
    -- first the place a, then the place b
    have s1 := fl_sum_rest (f := fun c => if c = a then tk_x v e c + nn else tk_x v e c) (g := tk_x v e) ha (fun j _ hj => if_neg hj)
    have s2 := fl_sum_rest (f := tk_x (mv v e a b nn) e) (g := fun c => if c = a then tk_x v e c + nn else tk_x v e c) hb (fun j hj1 hj => by
      rw [hx j hj1]
      by_cases h1 : j = a
      · rw [if_pos h1]; exact (if_pos h1).symm
      · rw [if_neg h1, if_neg hj]; exact (if_neg h1).symm)
    rw [hx b hb, if_neg (fun h => hab h.symm), if_pos rfl] at s2
    rw [if_pos rfl] at s1
    rw [if_neg (fun h => hab h.symm)] at s2
    omega
  · refine fl_sum_congr fun c hc => ?_
    rw [mv_x (by omega) (by omega) (by omega), if_neg (fun h => he h.1), if_neg (fun h => he h.1)]
theorem mv_col {v : pf_S} {d a b nn c : Nat} (ha : a < 10) (hb : b < 10) (hc : c < 10) (hd : d < 31) (hab : a ≠ b) (hnn : nn ≤ tk_x v d b) : fl_sum (fun e => tk_x (mv v d a b nn) e c) 31 + (if c = b then nn else 0) = fl_sum (fun e => tk_x v e c) 31 + (if c = a then nn else 0) := by
  have s1 := fl_sum_rest (f := fun e => tk_x (mv v d a b nn) e c) (g := fun e => tk_x v e c) hd (fun j _ hj => by
    show tk_x (mv v d a b nn) j c = tk_x v j c
    rw [mv_x ha hb hc, if_neg (fun h => hj h.1), if_neg (fun h => hj h.1)])
  rw [mv_x ha hb hc] at s1
  have h0 := fl_sum_one (fun e => tk_x v e c) hd
  by_cases h1 : c = a
  · subst h1
    rw [if_pos ⟨rfl, rfl⟩] at s1
    rw [if_neg hab, if_pos rfl]
    omega
  · by_cases h2 : c = b
    · subst h2
      rw [if_neg (fun h => h1 h.2), if_pos ⟨rfl, rfl⟩] at s1
      rw [if_pos rfl, if_neg h1]
      omega
    · rw [if_neg (fun h => h1 h.2), if_neg (fun h => h2 h.2)] at s1
      rw [if_neg h2, if_neg h1]
      omega
theorem sh_hop {u v : pf_S} {lo first last nn a b : Nat} {L t : List Nat} (hn : u.1 2 ≤ 10) (h : sh_rel u v lo a last nn L) (hp : pl v lo first nn (a :: b :: t)) (hnd : (a :: b :: t).Nodup) (hsub : ∀ c ∈ a :: b :: t, c ∈ L) :
    sh_rel u (mv v (v.2 28 a) a b nn) lo b last nn L ∧ pl (mv v (v.2 28 a) a b nn) lo first nn (b :: t) := by
  obtain ⟨⟨g1, g2, g3, g4, g5, g6, g7⟩, g8⟩ := hp
  have hv1 : v.1 = u.1 := h.1.1
  have hb : b < v.1 2 := pl_lt g8 rfl
  rw [hv1] at g2 hb
  have hab : a ≠ b := fun e => by
    rw [List.nodup_cons] at hnd
    exact hnd.1 (by rw [e]; exact List.mem_cons_self)
  obtain ⟨h1, h2, h3, h4, h5, h6, h7⟩ := h
  have hX : ∀ {e c : Nat}, c < 10 → tk_x (mv v (v.2 28 a) a b nn) e c = if e = v.2 28 a ∧ c = a then tk_x v e c + nn else if e = v.2 28 a ∧ c = b then tk_x v e c - nn else tk_x v e c := fun hc => mv_x (by omega) (by omega) hc
  have hk : ∀ k, k ≠ 22 → (mv v (v.2 28 a) a b nn).2 k = v.2 k := fun k hk => upA_ne v.2 hk
  refine ⟨⟨⟨hv1, fun j hj => ?_⟩, fun c hc => ?_, fun d hd => ?_, fun c hc => ?_, fun d hd c hc hx => ?_, fun d hd hl c hc => ?_, fun c hc hm d hd => ?_⟩, ?_⟩
  · rw [hk j (fun e => hj (by rw [e]; decide))]
    exact h1.2 j hj
  · rw [hk 21 (by decide)]
    exact h2 c hc
  · rw [mv_row (by omega) (by omega) hn hab g6]
    exact h3 d hd
  · have s1 := mv_col (v := v) (d := v.2 28 a) (nn := nn) (show a < 10 by omega) (show b < 10 by omega) (show c < 10 by omega) g4 hab g6
    have s2 := h4 c hc
    unfold tk_col at s2 ⊢
    rw [hk 21 (by decide)]
    omega
  · rw [hX (by omega)] at hx
    by_cases e1 : d = v.2 28 a ∧ c = a
    · right
      have : v.2 23 = u.2 23 := h1.2 23 (by decide)
      rw [← this, e1.1, e1.2]
      exact g7
    · rw [if_neg e1] at hx
      by_cases e2 : d = v.2 28 a ∧ c = b
      · rw [if_pos e2] at hx
        exact h5 d hd c hc (by omega)
      · rw [if_neg e2] at hx
        exact h5 d hd c hc hx
  · have hne : ¬ d = v.2 28 a := fun e => by
      rw [e, g5] at hl
      cases hl
    rw [hX hc, if_neg (fun z => hne z.1), if_neg (fun z => hne z.1)]
    exact h6 d hd hl c hc
  · have e1 : c ≠ a := fun e => hm (by rw [e]; exact hsub a (by simp))
    have e2 : c ≠ b := fun e => hm (by rw [e]; exact hsub b (by simp))
    rw [hX hc, if_neg (fun z => e1 z.2), if_neg (fun z => e2 z.2)]
    exact h7 c hc hm d hd
  · refine pl_keep (u := v) (v := mv v (v.2 28 a) a b nn) rfl (hk 23 (by decide)) (hk 27 (by decide)) (hk 28 (by decide)) g8 (fun c hc d hd => ?_)
    have hcl : c < v.1 2 := pl_mem g8 c (List.mem_cons_of_mem _ hc)
    rw [hv1] at hcl
    have hnd2 := hnd
    rw [List.nodup_cons, List.nodup_cons] at hnd2
    have e1 : c ≠ a := fun e => hnd2.1 (by rw [← e]; exact List.mem_cons_of_mem _ hc)
    have e2 : c ≠ b := fun e => hnd2.2.1 (by rw [← e]; exact hc)
    rw [hX (by omega), if_neg (fun z => e1 z.2), if_neg (fun z => e2 z.2)]
theorem sh_cap {u v : pf_S} {lo c last nn : Nat} {L : List Nat} (h : sh_rel u v lo c last nn L) (hc : tk_cap u) : tk_cap v := by
  refine ⟨by rw [h.1.1]; exact hc.1, fun a ha => ?_⟩
  rw [h.1.1] at ha
  have h1 := h.2.2.2.1 a ha
  have h2 := hc.2 a ha
  unfold tk_col at h1
  omega
theorem up2_off (f : Nat → Nat → Nat) {k x v j : Nat} (h : j ≠ x) : up2 f k x v k j = f k j := by simp [up2, h]
def sh_post (u u1 : pf_S) (lo first last most : Nat) (L : List Nat) (k : Nat) : Prop := 0 < k ∧ k ≤ most ∧ sh_rel u u1 lo first last k L
set_option maxHeartbeats 4000000 in
set_option maxRecDepth 100000 in
theorem c_X3_shift (l : Launch) (G : gw_G) (q : Nat → Nat) (u : pf_S) (first : Nat) (last : Nat) (most : Nat) (lo : Nat) (L : List Nat) (hcap : tk_cap u) (hf : first < u.1 2) (hL : pl u lo first 1 L) (hhd : L.head? = some last) (hlen : L.length ≤ 10) (hnd : L.Nodup) (hm0 : 0 < most) (hm : most < 2 ^ 31) (hroom : 0 < u.2 21 last) : gw_MI l yX3_shift cX3_shift 7 (some .int) 1 13 [.ref (q 4), .int (nI (first)), .int (nI (last)), .int (nI (most))] G (pw G q) u (fun r u1 => ∃ k : Nat, r = nI k ∧ (sh_post u u1 lo first last most L k)) := by
  refine gw_entryI (own := RX3) (by decide) rfl (Nat.le_of_ble_eq_true rfl) ?_
  intro p e s m args below meth c A ls C Hh hl
  have hl : lv_has ls 7 [(0, .ref (q 4)), (1, .int (nI (first))), (2, .int (nI (last))), (3, .int (nI (most)))] := hl
  refine lv_iload_n C.1 C.2.1 dX3_shift_0 rfl (lv_at hl 3 rfl) ?_
  refine lv_aload_n C.1 C.2.1 dX3_shift_1 rfl (lv_at hl 0 rfl) ?_
  refine gw_get (Cn := RX3) (T := TX3) (N := 10) C Hh 4 pw_at4 rfl uwX3 2 (by decide) rfl tw_187 rfl dX3_shift_2 ?_
  refine lv_iload_n C.1 C.2.1 dX3_shift_5 rfl (lv_at hl 2 rfl) ?_
  refine gw_ld C Hh 21 pw_at21 (by decide) dX3_shift_6 (by have hlast := pl_lt hL hhd; have h0 := hcap.1; omega) ?_
  refine gw_min C hl.1 tw_479 tw_480 tw_80 tw_481 dX3_shift_7 (by omega) (by have hlast := pl_lt hL hhd; have hcl := hcap.2 last hlast; omega) (by decide) (by decide) (Nat.zero_le _) (Nat.zero_le _) ?_
  refine lv_istore (lv' := [(4, .int (nI (Nat.min (most) (u.2 21 (last))))), (0, .ref (q 4)), (1, .int (nI (first))), (2, .int (nI (last))), (3, .int (nI (most)))]) C.1 C.2.1 dX3_shift_10 hl (by decide) rfl (fun ls hl => ?_)
  refine lv_iload_n C.1 C.2.1 dX3_shift_12 rfl (lv_at hl 3 rfl) ?_
  refine lv_istore (lv' := [(5, .int (nI (last))), (4, .int (nI (Nat.min (most) (u.2 21 (last))))), (0, .ref (q 4)), (1, .int (nI (first))), (2, .int (nI (last))), (3, .int (nI (most)))]) C.1 C.2.1 dX3_shift_13 hl (by decide) rfl (fun ls hl => ?_)
  refine lv_iconst (v := nI 0) C.1 C.2.1 dX3_shift_15 (by decide +kernel) ?_
  refine lv_istore (lv' := [(6, .int (nI (0))), (5, .int (nI (last))), (4, .int (nI (Nat.min (most) (u.2 21 (last))))), (0, .ref (q 4)), (1, .int (nI (first))), (2, .int (nI (last))), (3, .int (nI (most)))]) C.1 C.2.1 dX3_shift_16 hl (by decide) rfl (fun ls hl => ?_)
  have loop_18 : ∀ (fu : Nat) (nn : Nat) (aa : Nat) (hh : Nat) (M : List Nat) (H : Heap) (locs : List Loc) (ls : Array Slot), (0 < nn) → (nn ≤ most) → (nn ≤ u.2 21 last) → (pl u lo first 1 M) → (M.head? = some aa) → (hh + M.length ≤ 10) → (∀ z, z ≤ nn → pl u lo first z M → pl u lo first z L) → 10 - hh < fu → gw_H G A s (pw G q u) H locs → lv_has ls 7 [(0, .ref (q 4)), (1, .int (nI (first))), (2, .int (nI (last))), (3, .int (nI (most))), (4, .int (nI (nn))), (5, .int (nI (aa))), (6, .int (nI (hh)))] → W p l e (gw_rm 1 13) s m args below meth c H locs 0 0 (MQ below (va_Qi (fun r u1 => ∃ k : Nat, r = nI k ∧ (sh_post u u1 lo first last most L k)) (gw_at G A (pw G q)) A) args s 0 0 A) (F0 m 18 ls []) := by
    intro fu
    induction fu with
    | zero =>
      intro nn aa hh M  H locs ls hn0 hnm hnr hM hMh hMl hall hmf
      exact absurd hmf (Nat.not_lt_zero _)
    | succ fu ih_18 =>
      intro nn aa hh M  H locs ls hn0 hnm hnr hM hMh hMl hall hmf Hh hl
      have haa := pl_lt hM hMh
      have h0 := hcap.1
      have hMp : 0 < M.length := by cases M; (cases hMh); simp
      refine lv_iload C.1 C.2.1 dX3_shift_18 (lv_at hl 6 rfl) ?_
      refine lv_bipush (v := nI 10) C.1 C.2.1 dX3_shift_20 (by decide +kernel) ?_
      refine gw_icmp_ge (tgt := 76) C dX3_shift_22 (by decide) (by omega) (by omega) (fun hc_22 => ?_) (fun hc_22 => ?_)
      · skip
        exact absurd hc_22 (by omega)
      · skip
        refine lv_iload C.1 C.2.1 dX3_shift_25 (lv_at hl 5 rfl) ?_
        refine lv_iload_n C.1 C.2.1 dX3_shift_27 rfl (lv_at hl 1 rfl) ?_
        refine gw_icmp_eq (tgt := 76) C dX3_shift_28 (by decide) (by omega) (by omega) (fun hc_28 => ?_) (fun hc_28 => ?_)
        · skip
          have hM1 : M = [aa] := by rcases pl_cases hM hMh with h1 | ⟨b, t, -, h1, -⟩; (exact h1.2.2); exact absurd hc_28 h1.1
          have hLn : pl u lo first nn L := hall nn (Nat.le_refl _) (by rw [hM1]; exact ⟨hc_28, haa⟩)
          have hlast := pl_lt hL hhd
          have hcl := hcap.2 last hlast
          refine lv_aload_n C.1 C.2.1 dX3_shift_76 rfl (lv_at hl 0 rfl) ?_
          refine gw_get (Cn := RX3) (T := TX3) (N := 10) C Hh 4 pw_at4 rfl uwX3 2 (by decide) rfl tw_187 rfl dX3_shift_77 ?_
          refine lv_iload_n C.1 C.2.1 dX3_shift_80 rfl (lv_at hl 2 rfl) ?_
          refine lv_dup2_11 C.1 C.2.1 dX3_shift_81 rfl rfl ?_
          refine gw_ld C Hh 21 pw_at21 (by decide) dX3_shift_82 (by omega) ?_
          refine lv_iload C.1 C.2.1 dX3_shift_83 (lv_at hl 4 rfl) ?_
          refine gw_isub C dX3_shift_85 (by omega) ?_
          refine gw_st C Hh 21 pw_at21 (by decide) pw_set21 dX3_shift_86 (by omega) (fun H locs Hh => ?_)
          have Hh : gw_H G A s (pw G q (u.1, up2 u.2 21 (last) ((u.2 21 (last)) - nn))) H locs := Hh
          refine lv_iload_n C.1 C.2.1 dX3_shift_87 rfl (lv_at hl 2 rfl) ?_
          refine lv_istore (lv' := [(5, .int (nI (last))), (0, .ref (q 4)), (1, .int (nI (first))), (2, .int (nI (last))), (3, .int (nI (most))), (4, .int (nI (nn))), (6, .int (nI (hh)))]) C.1 C.2.1 dX3_shift_88 hl (by decide) rfl (fun ls hl => ?_)
          refine lv_iconst (v := nI 0) C.1 C.2.1 dX3_shift_90 (by decide +kernel) ?_
          refine lv_istore (lv' := [(6, .int (nI (0))), (5, .int (nI (last))), (0, .ref (q 4)), (1, .int (nI (first))), (2, .int (nI (last))), (3, .int (nI (most))), (4, .int (nI (nn)))]) C.1 C.2.1 dX3_shift_91 hl (by decide) rfl (fun ls hl => ?_)
          have loop_93 : ∀ (fu : Nat) (aa : Nat) (hh : Nat) (M : List Nat) (uc : pf_S) (H : Heap) (locs : List Loc) (ls : Array Slot), (sh_rel u uc lo aa last nn L) → (pl uc lo first nn M) → (M.head? = some aa) → (hh + M.length ≤ 10) → (M.Nodup) → (∀ z ∈ M, z ∈ L) → 10 - hh < fu → gw_H G A s (pw G q uc) H locs → lv_has ls 7 [(0, .ref (q 4)), (1, .int (nI (first))), (2, .int (nI (last))), (3, .int (nI (most))), (4, .int (nI (nn))), (5, .int (nI (aa))), (6, .int (nI (hh)))] → W p l e (gw_rm 1 13) s m args below meth c H locs 0 0 (MQ below (va_Qi (fun r u1 => ∃ k : Nat, r = nI k ∧ (sh_post u u1 lo first last most L k)) (gw_at G A (pw G q)) A) args s 0 0 A) (F0 m 93 ls []) := by
            intro fu
            induction fu with
            | zero =>
              intro aa hh M uc H locs ls hv hM hMh hMl hMn hMs hmf
              exact absurd hmf (Nat.not_lt_zero _)
            | succ fu ih_93 =>
              intro aa hh M uc H locs ls hv hM hMh hMl hMn hMs hmf Hh hl
              have hcv := sh_cap hv hcap
              have haa := pl_lt hM hMh
              have h0 := hcv.1
              have hn2 : uc.1 2 = u.1 2 := by rw [hv.1.1]
              have hMp : 0 < M.length := by cases M; (cases hMh); simp
              refine lv_iload C.1 C.2.1 dX3_shift_93 (lv_at hl 6 rfl) ?_
              refine lv_bipush (v := nI 10) C.1 C.2.1 dX3_shift_95 (by decide +kernel) ?_
              refine gw_icmp_ge (tgt := 172) C dX3_shift_97 (by decide) (by omega) (by omega) (fun hc_97 => ?_) (fun hc_97 => ?_)
              · skip
                exact absurd hc_97 (by omega)
              · skip
                refine lv_iload C.1 C.2.1 dX3_shift_100 (lv_at hl 5 rfl) ?_
                refine lv_iload_n C.1 C.2.1 dX3_shift_102 rfl (lv_at hl 1 rfl) ?_
                refine gw_icmp_eq (tgt := 172) C dX3_shift_103 (by decide) (by omega) (by omega) (fun hc_103 => ?_) (fun hc_103 => ?_)
                · skip
                  refine lv_iload C.1 C.2.1 dX3_shift_172 (lv_at hl 4 rfl) ?_
                  exact gw_iret (w := pw G q) (u := uc) C Hh dX3_shift_174 ⟨_, rfl, by rw [← hc_103]; exact ⟨hn0, hnm, hv⟩⟩
                · skip
                  obtain ⟨b, t, rfl, hq, hpt⟩ : ∃ b t, M = aa :: b :: t ∧ _ ∧ _ := by rcases pl_cases hM hMh with h1 | h1; (exact absurd h1.1 hc_103); exact h1
                  have hbb := pl_lt hpt rfl
                  have hab : aa ≠ b := fun e9 => by rw [List.nodup_cons] at hMn; exact hMn.1 (by rw [e9]; exact List.mem_cons_self)
                  have hop := sh_hop hcap.1 hv hM hMn hMs
                  have h27 := hq.2.2.1
                  have h28 := hq.2.2.2.1
                  have hx1 := hcv.x h28 haa
                  have hx2 := hcv.x h28 hbb
                  have hx3 := hq.2.2.2.2.2.1
                  unfold tk_x at hx3
                  refine lv_aload_n C.1 C.2.1 dX3_shift_106 rfl (lv_at hl 0 rfl) ?_
                  refine gw_get (Cn := RX3) (T := TX3) (N := 10) C Hh 4 pw_at4 rfl uwX3 3 (by decide) rfl tw_189 rfl dX3_shift_107 ?_
                  refine lv_aload_n C.1 C.2.1 dX3_shift_110 rfl (lv_at hl 0 rfl) ?_
                  refine gw_get (Cn := RX3) (T := TX3) (N := 10) C Hh 4 pw_at4 rfl uwX3 9 (by decide) rfl tw_196 rfl dX3_shift_111 ?_
                  refine lv_iload C.1 C.2.1 dX3_shift_114 (lv_at hl 5 rfl) ?_
                  refine gw_ld C Hh 28 pw_at28 (by decide) dX3_shift_116 (by omega) ?_
                  refine lv_bipush (v := nI 10) C.1 C.2.1 dX3_shift_117 (by decide +kernel) ?_
                  refine gw_imul C dX3_shift_119 ?_
                  refine lv_iload C.1 C.2.1 dX3_shift_120 (lv_at hl 5 rfl) ?_
                  refine gw_iadd C dX3_shift_122 ?_
                  refine lv_dup2_11 C.1 C.2.1 dX3_shift_123 rfl rfl ?_
                  refine gw_ld C Hh 22 pw_at22 (by decide) dX3_shift_124 (by omega) ?_
                  refine lv_iload C.1 C.2.1 dX3_shift_125 (lv_at hl 4 rfl) ?_
                  refine gw_iadd C dX3_shift_127 ?_
                  refine gw_st C Hh 22 pw_at22 (by decide) pw_set22 dX3_shift_128 (by omega) (fun H locs Hh => ?_)
                  have Hh : gw_H G A s (pw G q (uc.1, up2 uc.2 22 (((uc.2 28 (aa)) * 10) + aa) ((uc.2 22 (((uc.2 28 (aa)) * 10) + aa)) + nn))) H locs := Hh
                  refine lv_aload_n C.1 C.2.1 dX3_shift_129 rfl (lv_at hl 0 rfl) ?_
                  refine gw_get (Cn := RX3) (T := TX3) (N := 10) C Hh 4 pw_at4 rfl uwX3 3 (by decide) rfl tw_189 rfl dX3_shift_130 ?_
                  refine lv_aload_n C.1 C.2.1 dX3_shift_133 rfl (lv_at hl 0 rfl) ?_
                  refine gw_get (Cn := RX3) (T := TX3) (N := 10) C Hh 4 pw_at4 rfl uwX3 9 (by decide) rfl tw_196 rfl dX3_shift_134 ?_
                  refine lv_iload C.1 C.2.1 dX3_shift_137 (lv_at hl 5 rfl) ?_
                  refine gw_ld C Hh 28 pw_at28 (by decide) dX3_shift_139 (by omega) ?_
                  refine W.eq (g2 := F0 m 140 ls [.int (nI (uc.2 28 (aa))), .ref (q 22)]) rfl ?_
                  refine lv_bipush (v := nI 10) C.1 C.2.1 dX3_shift_140 (by decide +kernel) ?_
                  refine gw_imul C dX3_shift_142 ?_
                  refine lv_aload_n C.1 C.2.1 dX3_shift_143 rfl (lv_at hl 0 rfl) ?_
                  refine gw_get (Cn := RX3) (T := TX3) (N := 10) C Hh 4 pw_at4 rfl uwX3 8 (by decide) rfl tw_195 rfl dX3_shift_144 ?_
                  refine lv_iload C.1 C.2.1 dX3_shift_147 (lv_at hl 5 rfl) ?_
                  refine gw_ld C Hh 27 pw_at27 (by decide) dX3_shift_149 (by omega) ?_
                  refine W.eq (g2 := F0 m 150 ls [.int (nI (uc.2 27 (aa))), .int (nI ((uc.2 28 (aa)) * 10)), .ref (q 22)]) rfl ?_
                  refine gw_iadd C dX3_shift_150 ?_
                  refine lv_dup2_11 C.1 C.2.1 dX3_shift_151 rfl rfl ?_
                  refine gw_ld C Hh 22 pw_at22 (by decide) dX3_shift_152 (by omega) ?_
                  refine W.eq (g2 := F0 m 153 ls [.int (nI ((up2 uc.2 22 (((uc.2 28 (aa)) * 10) + aa) ((uc.2 22 (((uc.2 28 (aa)) * 10) + aa)) + nn)) 22 (((uc.2 28 (aa)) * 10) + (uc.2 27 (aa))))), .int (nI (((uc.2 28 (aa)) * 10) + (uc.2 27 (aa)))), .ref (q 22)]) rfl ?_
                  refine lv_iload C.1 C.2.1 dX3_shift_153 (lv_at hl 4 rfl) ?_
                  refine gw_isub C dX3_shift_155 (by rw [up2_off _ (by rw [h27]; omega)]; rw [h27]; omega) ?_
                  refine gw_st C Hh 22 pw_at22 (by decide) pw_set22 dX3_shift_156 (by omega) (fun H locs Hh => ?_)
                  have Hh : gw_H G A s (pw G q (uc.1, up2 (up2 uc.2 22 (((uc.2 28 (aa)) * 10) + aa) ((uc.2 22 (((uc.2 28 (aa)) * 10) + aa)) + nn)) 22 (((uc.2 28 (aa)) * 10) + (uc.2 27 (aa))) (((up2 uc.2 22 (((uc.2 28 (aa)) * 10) + aa) ((uc.2 22 (((uc.2 28 (aa)) * 10) + aa)) + nn)) 22 (((uc.2 28 (aa)) * 10) + (uc.2 27 (aa)))) - nn))) H locs := Hh
                  refine lv_aload_n C.1 C.2.1 dX3_shift_157 rfl (lv_at hl 0 rfl) ?_
                  refine gw_get (Cn := RX3) (T := TX3) (N := 10) C Hh 4 pw_at4 rfl uwX3 8 (by decide) rfl tw_195 rfl dX3_shift_158 ?_
                  refine lv_iload C.1 C.2.1 dX3_shift_161 (lv_at hl 5 rfl) ?_
                  refine gw_ld C Hh 27 pw_at27 (by decide) dX3_shift_163 (by omega) ?_
                  refine W.eq (g2 := F0 m 164 ls [.int (nI (uc.2 27 (aa)))]) rfl ?_
                  refine lv_istore (lv' := [(5, .int (nI (uc.2 27 (aa)))), (0, .ref (q 4)), (1, .int (nI (first))), (2, .int (nI (last))), (3, .int (nI (most))), (4, .int (nI (nn))), (6, .int (nI (hh)))]) C.1 C.2.1 dX3_shift_164 hl (by decide) rfl (fun ls hl => ?_)
                  refine lv_iinc (v := nI (hh + 1)) (lv' := [(6, .int (nI (hh + 1))), (5, .int (nI (uc.2 27 (aa)))), (0, .ref (q 4)), (1, .int (nI (first))), (2, .int (nI (last))), (3, .int (nI (most))), (4, .int (nI (nn)))]) C.1 C.2.1 dX3_shift_166 hl (k := 6) rfl (nI_add _ 1) (by decide) rfl (fun ls hl => ?_)
                  refine lv_goto (tgt := 93) C.1 C.2.1 dX3_shift_169 (by decide) ?_
                  exact ih_93 (uc.2 27 aa) (hh + 1) (b :: t) ((uc.1, up2 (up2 uc.2 22 (((uc.2 28 (aa)) * 10) + aa) ((uc.2 22 (((uc.2 28 (aa)) * 10) + aa)) + nn)) 22 (((uc.2 28 (aa)) * 10) + (uc.2 27 (aa))) (((up2 uc.2 22 (((uc.2 28 (aa)) * 10) + aa) ((uc.2 22 (((uc.2 28 (aa)) * 10) + aa)) + nn)) 22 (((uc.2 28 (aa)) * 10) + (uc.2 27 (aa)))) - nn))) _ _ _ (by rw [hq.2.2.1, mv_eq hab]; exact hop.1) (by rw [hq.2.2.1, mv_eq hab]; exact hop.2) (by rw [hq.2.2.1]; rfl) (by simp only [List.length_cons] at hMl ⊢; omega) (by exact (List.nodup_cons.mp hMn).2) (by intro z h; exact hMs z (List.mem_cons_of_mem _ h)) (by omega) Hh (lv_sub hl [2, 3, 4, 5, 6, 1, 0] rfl)
          exact loop_93 _ (last) (0) (L) ((u.1, up2 u.2 21 (last) ((u.2 21 (last)) - nn))) _ _ _ (by exact sh_start (pl_lt hL hhd) hnr) (by exact pl_keep (u := u) (v := (u.1, up2 u.2 21 last (u.2 21 last - nn))) rfl rfl rfl rfl hLn (fun z _ d _ => by simp [tk_x, up2])) (by exact hhd) (by omega) (by exact hnd) (by intro z h; exact h) (Nat.lt_succ_self _) Hh (lv_sub hl [2, 3, 4, 5, 6, 1, 0] rfl)
        · skip
          obtain ⟨b, t, rfl, hq, hpt⟩ : ∃ b t, M = aa :: b :: t ∧ _ ∧ _ := by rcases pl_cases hM hMh with h1 | h1; (exact absurd h1.1 hc_28); exact h1
          have hbb := pl_lt hpt rfl
          rw [← hq.2.2.1] at hbb
          have h28 := hq.2.2.2.1
          have hxx := hcap.x h28 hbb
          refine lv_iload C.1 C.2.1 dX3_shift_31 (lv_at hl 4 rfl) ?_
          refine lv_aload_n C.1 C.2.1 dX3_shift_33 rfl (lv_at hl 0 rfl) ?_
          refine gw_get (Cn := RX3) (T := TX3) (N := 10) C Hh 4 pw_at4 rfl uwX3 3 (by decide) rfl tw_189 rfl dX3_shift_34 ?_
          refine lv_aload_n C.1 C.2.1 dX3_shift_37 rfl (lv_at hl 0 rfl) ?_
          refine gw_get (Cn := RX3) (T := TX3) (N := 10) C Hh 4 pw_at4 rfl uwX3 9 (by decide) rfl tw_196 rfl dX3_shift_38 ?_
          refine lv_iload C.1 C.2.1 dX3_shift_41 (lv_at hl 5 rfl) ?_
          refine gw_ld C Hh 28 pw_at28 (by decide) dX3_shift_43 (by omega) ?_
          refine lv_bipush (v := nI 10) C.1 C.2.1 dX3_shift_44 (by decide +kernel) ?_
          refine gw_imul C dX3_shift_46 ?_
          refine lv_aload_n C.1 C.2.1 dX3_shift_47 rfl (lv_at hl 0 rfl) ?_
          refine gw_get (Cn := RX3) (T := TX3) (N := 10) C Hh 4 pw_at4 rfl uwX3 8 (by decide) rfl tw_195 rfl dX3_shift_48 ?_
          refine lv_iload C.1 C.2.1 dX3_shift_51 (lv_at hl 5 rfl) ?_
          refine gw_ld C Hh 27 pw_at27 (by decide) dX3_shift_53 (by omega) ?_
          refine gw_iadd C dX3_shift_54 ?_
          refine gw_ld C Hh 22 pw_at22 (by decide) dX3_shift_55 (by omega) ?_
          refine gw_min C hl.1 tw_479 tw_480 tw_80 tw_481 dX3_shift_56 (by have hlast := pl_lt hL hhd; have hcl := hcap.2 last hlast; omega) (by omega) (by decide) (by decide) (Nat.zero_le _) (Nat.zero_le _) ?_
          refine lv_istore (lv' := [(4, .int (nI (Nat.min (nn) (u.2 22 (((u.2 28 (aa)) * 10) + (u.2 27 (aa))))))), (0, .ref (q 4)), (1, .int (nI (first))), (2, .int (nI (last))), (3, .int (nI (most))), (5, .int (nI (aa))), (6, .int (nI (hh)))]) C.1 C.2.1 dX3_shift_59 hl (by decide) rfl (fun ls hl => ?_)
          refine lv_aload_n C.1 C.2.1 dX3_shift_61 rfl (lv_at hl 1 rfl) ?_
          refine gw_get (Cn := RX3) (T := TX3) (N := 10) C Hh 4 pw_at4 rfl uwX3 8 (by decide) rfl tw_195 rfl dX3_shift_62 ?_
          refine lv_iload C.1 C.2.1 dX3_shift_65 (lv_at hl 5 rfl) ?_
          refine gw_ld C Hh 27 pw_at27 (by decide) dX3_shift_67 (by omega) ?_
          refine lv_istore (lv' := [(5, .int (nI (u.2 27 (aa)))), (4, .int (nI (Nat.min (nn) (u.2 22 (((u.2 28 (aa)) * 10) + (u.2 27 (aa))))))), (0, .ref (q 4)), (1, .int (nI (first))), (2, .int (nI (last))), (3, .int (nI (most))), (6, .int (nI (hh)))]) C.1 C.2.1 dX3_shift_68 hl (by decide) rfl (fun ls hl => ?_)
          refine lv_iinc (v := nI (hh + 1)) (lv' := [(6, .int (nI (hh + 1))), (5, .int (nI (u.2 27 (aa)))), (4, .int (nI (Nat.min (nn) (u.2 22 (((u.2 28 (aa)) * 10) + (u.2 27 (aa))))))), (0, .ref (q 4)), (1, .int (nI (first))), (2, .int (nI (last))), (3, .int (nI (most)))]) C.1 C.2.1 dX3_shift_70 hl (k := 6) rfl (nI_add _ 1) (by decide) rfl (fun ls hl => ?_)
          refine lv_goto (tgt := 18) C.1 C.2.1 dX3_shift_73 (by decide) ?_
          exact ih_18 (Nat.min nn (u.2 22 ((u.2 28 aa) * 10 + (u.2 27 aa)))) (u.2 27 aa) (hh + 1) (b :: t)  _ _ _ (by refine Nat.lt_min.mpr ⟨hn0, ?_⟩; have h6 := hq.2.2.2.2.2.1; unfold tk_x at h6; rw [hq.2.2.1]; omega) (by exact Nat.le_trans (Nat.min_le_left _ _) hnm) (by exact Nat.le_trans (Nat.min_le_left _ _) hnr) (by exact hpt) (by rw [hq.2.2.1]; rfl) (by simp only [List.length_cons] at hMl ⊢; omega) (by intro z hz hp; refine hall z (Nat.le_trans hz (Nat.min_le_left _ _)) ⟨⟨hq.1, hq.2.1, hq.2.2.1, hq.2.2.2.1, hq.2.2.2.2.1, ?_, hq.2.2.2.2.2.2⟩, hp⟩; unfold tk_x; rw [← hq.2.2.1]; exact Nat.le_trans hz (Nat.min_le_right _ _)) (by omega) Hh (lv_sub hl [3, 4, 5, 6, 2, 1, 0] rfl)
  exact loop_18 _ (Nat.min most (u.2 21 last)) (last) (0) (L)  _ _ _ (by exact Nat.lt_min.mpr ⟨hm0, hroom⟩) (by exact Nat.min_le_left _ _) (by exact Nat.min_le_right _ _) (by exact hL) (by exact hhd) (by omega) (by intro z _ h; exact h) (Nat.lt_succ_self _) Hh (lv_sub hl [3, 4, 5, 6, 2, 1, 0] rfl)
end
section
/-! taking for a demand from one arrival -/
/-- a set of arrivals that is full, and out of which no loose demand can go -/
def tk_shut (u : pf_S) (lo : Nat) (T : Nat → Prop) : Prop := (∀ b, b < u.1 2 → T b → u.2 21 b = 0) ∧ ∀ e, e < 31 → lo.testBit e = true → ∀ b, b < u.1 2 → T b → 0 < tk_x u e b → ∀ c, (u.2 23 e).testBit c = true → T c
/-- g more are taken for d from a; the others have shifted, or stayed -/
def tf_rel (u v : pf_S) (lo d a g : Nat) : Prop :=
  st_buts [21, 22, 26, 27, 28] u v ∧ (∀ e, e < 31 → e ≠ d → fl_sum (tk_x v e) (u.1 2) = fl_sum (tk_x u e) (u.1 2)) ∧ (∀ b, b < 10 → b ≠ a → tk_x v d b = tk_x u d b) ∧ tk_x v d a = tk_x u d a + g ∧ (∀ b, b < u.1 2 → tk_col v b = tk_col u b) ∧
  (∀ e, e < 31 → ∀ b, b < u.1 2 → 0 < tk_x v e b → 0 < tk_x u e b ∨ (u.2 23 e).testBit b = true ∨ (e = d ∧ b = a)) ∧ (∀ e, e < 31 → e ≠ d → lo.testBit e = false → ∀ b, b < 10 → tk_x v e b = tk_x u e b) ∧
  ∀ T : Nat → Prop, tk_shut u lo T → ∀ b, b < u.1 2 → T b → v.2 21 b = u.2 21 b ∧ ∀ e, e < 31 → tk_x v e b = tk_x u e b
theorem tf_rf {u : pf_S} {lo d a : Nat} : tf_rel u u lo d a 0 := ⟨st_buts.rf, fun _ _ _ => rfl, fun _ _ _ => rfl, rfl, fun _ _ => rfl, fun _ _ _ _ h => Or.inl h, fun _ _ _ _ _ _ => rfl, fun _ _ _ _ _ => ⟨rfl, fun _ _ => rfl⟩⟩
theorem st_buts.wk {ks ks' : List Nat} {u v : pf_S} (h : st_buts ks u v) (hs : ∀ k ∈ ks, k ∈ ks') : st_buts ks' u v := ⟨h.1, fun j hj => h.2 j (fun q => hj (hs j q))⟩
theorem tk_x_of {u v : pf_S} (h : v.2 22 = u.2 22) (d a : Nat) : tk_x v d a = tk_x u d a := by
  unfold tk_x
  rw [h]
theorem tf_buts {u v w : pf_S} {lo d a g : Nat} (h : tf_rel u v lo d a g) (hb : st_buts [26, 27, 28] v w) : tf_rel u w lo d a g := by
  have hx : ∀ e b, tk_x w e b = tk_x v e b := tk_x_of (hb.2 22 (by decide))
  have hr : w.2 21 = v.2 21 := hb.2 21 (by decide)
  obtain ⟨h1, h2, h3, h4, h5, h6, h7, h8⟩ := h
  refine ⟨h1.tr (hb.wk (by decide)), fun e he hd => ?_, fun b hb1 hb2 => by rw [hx]; exact h3 b hb1 hb2, by rw [hx]; exact h4, fun b hb1 => ?_, fun e he b hb1 hp => h6 e he b hb1 (by rw [hx] at hp; exact hp), fun e he hd hl b hb1 => by rw [hx]; exact h7 e he hd hl b hb1, fun T hT b hb1 hb2 => ?_⟩
  · rw [show tk_x w e = tk_x v e from funext (hx e)]
    exact h2 e he hd
  · have : tk_col w b = tk_col v b := by
      unfold tk_col
      rw [hr]
      congr 1
      exact fl_sum_congr fun e _ => hx e b
    rw [this]
    exact h5 b hb1
  · obtain ⟨g1, g2⟩ := h8 T hT b hb1 hb2
    exact ⟨by rw [hr]; exact g1, fun e he => by rw [hx]; exact g2 e he⟩
theorem tf_cap {u v : pf_S} {lo d a g : Nat} (h : tf_rel u v lo d a g) (hc : tk_cap u) : tk_cap v := by
  refine ⟨by rw [h.1.1]; exact hc.1, fun b hb => ?_⟩
  rw [h.1.1] at hb
  have h1 := h.2.2.2.2.1 b hb
  have h2 := hc.2 b hb
  unfold tk_col at h1
  omega
theorem tf_us {u v : pf_S} {lo d a g : Nat} (h : tf_rel u v lo d a g) (hu : us_ok u) : us_ok v := by
  intro e he b hb
  rw [h.1.2 23 (by decide)] at hb
  rw [h.1.1]
  exact hu e he b hb
/-- what was shut stays so -/
theorem tf_shut {u v : pf_S} {lo d a g : Nat} {T : Nat → Prop} (h : tf_rel u v lo d a g) (hT : tk_shut u lo T) : tk_shut v lo T := by
  have hn : v.1 2 = u.1 2 := by rw [h.1.1]
  have h23 : v.2 23 = u.2 23 := h.1.2 23 (by decide)
  refine ⟨fun b hb hb2 => ?_, fun e he hl b hb hb2 hx c hc => ?_⟩
  · rw [hn] at hb
    rw [(h.2.2.2.2.2.2.2 T hT b hb hb2).1]
    exact hT.1 b hb hb2
  · rw [hn] at hb
    rw [(h.2.2.2.2.2.2.2 T hT b hb hb2).2 e he] at hx
    rw [h23] at hc
    exact hT.2 e he hl b hb hb2 hx c hc
theorem pl_out {u : pf_S} {lo first : Nat} {T : Nat → Prop} (hT : tk_shut u lo T) : ∀ {L : List Nat}, pl u lo first 1 L → (∀ a, L.head? = some a → ¬ T a) → ∀ b ∈ L, ¬ T b
  | [c], _, h, b, hb => by
    rw [List.mem_singleton] at hb
    rw [hb]
    exact h c rfl
  | c :: x :: t, hp, h, b, hb => by
    obtain ⟨⟨g1, g2, g3, g4, g5, g6, g7⟩, g8⟩ := hp
    rcases List.mem_cons.mp hb with rfl | hb
    · exact h b rfl
    · refine pl_out hT g8 (fun a ha => ?_) b hb
      cases ha
      intro hx
      exact h c rfl (hT.2 _ g4 g5 x (pl_lt g8 rfl) hx (by omega) c g7)
theorem pl_first {u : pf_S} {lo first m : Nat} : ∀ {M : List Nat}, pl u lo first m M → first ∈ M
  | [c], h => by
    rw [h.1]
    exact List.mem_cons_self
  | c :: b :: t, h => List.mem_cons_of_mem _ (pl_first h.2)
theorem tf_step {u v w : pf_S} {lo d a g last k : Nat} {L : List Nat} (hc : tk_cap u) (h : tf_rel u v lo d a g) (hd : d < 31) (ha : a < u.1 2) (hlo : lo.testBit d = false) (hpl : pl v lo a 1 L) (hhd : L.head? = some last) (hroom : 0 < v.2 21 last) (hs : sh_rel v w lo a last k L) :
    tf_rel u (w.1, up2 w.2 22 (d * 10 + a) (w.2 22 (d * 10 + a) + k)) lo d a (g + k) := by
  have hn : v.1 2 = u.1 2 := by rw [h.1.1]
  have h10 := hc.1
  have haL : a ∈ L := pl_first hpl
  obtain ⟨h1, h2, h3, h4, h5, h6, h7, h8⟩ := h
  obtain ⟨s1, s2, s3, s4, s5, s6, s7⟩ := hs
  rw [hn] at s3 s4 s5
  obtain ⟨z, hz⟩ : ∃ z : pf_S, z = (w.1, up2 w.2 22 (d * 10 + a) (w.2 22 (d * 10 + a) + k)) := ⟨_, rfl⟩
  have hX : ∀ e b, b < 10 → tk_x z e b = if e = d ∧ b = a then tk_x w e b + k else tk_x w e b := by
    intro e b hb
    rw [hz]
    unfold tk_x
    show up2 w.2 22 (d * 10 + a) _ 22 (e * 10 + b) = _
    rw [up2_at]
    dsimp only
    by_cases q : e = d ∧ b = a
    · rw [if_pos (by rw [q.1, q.2]), if_pos q, q.1, q.2]
    · rw [if_neg (fun q2 => q (by omega)), if_neg q]
  have hK : ∀ j, j ≠ 22 → z.2 j = w.2 j := fun j hj => by rw [hz]; exact up2_ne w.2 hj
  have hR : z.2 21 = w.2 21 := hK 21 (by decide)
  have hz1 : z.1 = w.1 := by rw [hz]
  rw [← hz]
  refine ⟨⟨by rw [hz1, s1.1]; exact h1.1, fun j hj => ?_⟩, fun e he hed => ?_, fun b hb hba => ?_, ?_, fun b hb => ?_, fun e he b hb hp => ?_, fun e he hed hl b hb => ?_, fun T hT b hb hTb => ?_⟩
  · rw [hK j (fun q => hj (by rw [q]; decide)), s1.2 j (fun q => hj (by simp at q ⊢; omega))]
    exact h1.2 j hj
  · have e1 : fl_sum (tk_x z e) (u.1 2) = fl_sum (tk_x w e) (u.1 2) := fl_sum_congr fun b hb => by rw [hX e b (by omega), if_neg (fun q => hed q.1)]
    rw [e1, s3 e he]
    exact h2 e he hed
  · rw [hX d b hb, if_neg (fun q => hba q.2), s6 d hd hlo b hb]
    exact h3 b hb hba
  · rw [hX d a (by omega), if_pos ⟨rfl, rfl⟩, s6 d hd hlo a (by omega), h4]
    omega
  · have e2 := fl_sum_rest (f := fun e => tk_x z e b) (g := fun e => tk_x w e b) hd (fun e _ hed => by
      show tk_x z e b = tk_x w e b
      rw [hX e b (by omega), if_neg (fun q => hed q.1)])
    rw [hX d b (by omega)] at e2
    have e3 := s4 b hb
    have e4 := h5 b hb
    unfold tk_col at e3 e4 ⊢
    rw [hR]
    by_cases q : b = a
    · rw [if_pos ⟨rfl, q⟩] at e2
      rw [if_pos q] at e3
      omega
    · rw [if_neg (fun q2 => q q2.2)] at e2
      rw [if_neg q] at e3
      omega
  · rw [hX e b (by omega)] at hp
    by_cases q : e = d ∧ b = a
    · exact Or.inr (Or.inr q)
    · rw [if_neg q] at hp
      rcases s5 e he b hb hp with s | s
      · exact h6 e he b hb s
      · right
        left
        rw [h1.2 23 (by decide)] at s
        exact s
  · rw [hX e b hb, if_neg (fun q => hed q.1), s6 e he hl b hb]
    exact h7 e he hed hl b hb
  · have hTv : tk_shut v lo T := by
      refine tf_shut (d := d) (a := a) (g := g) ⟨h1, h2, h3, h4, h5, h6, h7, h8⟩ hT
    have hout := pl_out hTv hpl (fun x hx hTx => by
      rw [hhd] at hx
      cases hx
      have := hTv.1 last (pl_lt hpl hhd) hTx
      omega)
    have hbL : b ∉ L := fun q => hout b q hTb
    have hba : b ≠ a := fun q => hbL (by rw [q]; exact haL)
    have hbl : b ≠ last := by
      intro q
      apply hbL
      rw [q]
      cases L with
      | nil => cases hhd
      | cons c t => cases hhd; exact List.mem_cons_self
    obtain ⟨g1, g2⟩ := h8 T hT b hb hTb
    refine ⟨?_, fun e he => ?_⟩
    · rw [hR, s2 b (by omega), if_neg hbl]
      exact g1
    · rw [hX e b (by omega), if_neg (fun q => hba q.2), s7 b (by omega) hbL e he]
      exact g2 e he
theorem fl_tb_n {R n : Nat} (hn : n ≤ 10) (h : ∀ a, R.testBit a = true → a < n) : fl_sum (tbit R) 10 = fl_sum (tbit R) n := by
  have key : ∀ m, n ≤ m → fl_sum (tbit R) m = fl_sum (tbit R) n := by
    intro m hm
    induction hm with
    | refl => rfl
    | step hm ih =>
      rename_i m
      rw [fl_sum_succ, ih]
      have : tbit R m = 0 := by
        unfold tbit
        split
        · rename_i q
          have hm2 : n ≤ m := hm
          have := h m q
          omega
        · rfl
      omega
  exact key 10 hn
/-- reached arrivals without room are shut -/
theorem sp_shut {u v : pf_S} {S lo R : Nat} (h : sp_post u v S lo R) (hr : ∀ i, i < fl_sum (tbit R) (u.1 2) → v.2 21 (v.2 26 i) = 0) : tk_shut v lo (fun b => R.testBit b = true) := by
  have hx : ∀ e b, tk_x v e b = tk_x u e b := tk_x_of (h.1.2 22 (by decide))
  refine ⟨fun b _ hb => ?_, fun e he hl b _ hb hp c hc => ?_⟩
  · obtain ⟨i, g1, g2⟩ := h.2.1.2.2.2.1 b hb
    rw [← g2]
    exact hr i g1
  · rw [hx] at hp
    rw [h.1.2 23 (by decide)] at hc
    exact h.2.2 b hb e he hl hp c hc
theorem sp_path {u v : pf_S} {first lo R i : Nat} (h : sp_post u v (1 <<< first) lo R) (hn : u.1 2 ≤ 10) (hi : i < fl_sum (tbit R) (u.1 2)) : v.2 26 i < v.1 2 ∧ ∃ L, pl v lo first 1 L ∧ L.head? = some (v.2 26 i) ∧ L.length ≤ 10 ∧ L.Nodup := by
  have hx : tk_x v = tk_x u := funext fun e => funext fun b => tk_x_of (h.1.2 22 (by decide)) e b
  have h1 : v.1 2 = u.1 2 := by rw [h.1.1]
  have h2 : v.2 23 = u.2 23 := h.1.2 23 (by decide)
  have hs := h.2.1
  rw [← h1, ← hx, ← h2] at hs
  obtain ⟨L, g1, g2, g3, g4, g5⟩ := pl_of hs i (by rw [h1]; exact hi)
  have hl := fl_sum_cnt (tbit_le R) (u.1 2)
  exact ⟨hs.1 _ (hs.2.2.1 i (by rw [h1]; exact hi)), L, g1, g2, by omega, g3⟩
def tf_post (u u1 : pf_S) (lo d a w k : Nat) : Prop := ∃ g, k + g = w ∧ tf_rel u u1 lo d a g ∧ (0 < k → ∃ T, tk_shut u1 lo T ∧ T a)
theorem fl_two {f : Nat → Nat} : ∀ {n i j : Nat}, i < n → j < n → j ≠ i → f i + f j ≤ fl_sum f n
  | 0, _, _, h, _, _ => absurd h (Nat.not_lt_zero _)
  | n + 1, i, j, hi, hj, hne => by
    rw [fl_sum_succ]
    by_cases h1 : i = n
    · subst h1
      have := fl_sum_one f (show j < i by omega)
      omega
    · by_cases h2 : j = n
      · subst h2
        have := fl_sum_one f (show i < j by omega)
        omega
      · have := fl_two (f := f) (show i < n by omega) (show j < n by omega) hne
        omega
set_option maxHeartbeats 4000000 in
set_option maxRecDepth 100000 in
theorem c_X3_takeFrom (l : Launch) (G : gw_G) (q : Nat → Nat) (u : pf_S) (d : Nat) (a : Nat) (w : Nat) (lo : Nat) (hcap : tk_cap u) (hus : us_ok u) (hd : d < 31) (ha : a < u.1 2) (hlo : lo.testBit d = false) (hw : w < 2 ^ 31) : gw_MI l yX3_takeFrom cX3_takeFrom 9 (some .int) 2 54 [.ref (q 4), .int (nI (d)), .int (nI (a)), .int (nI (w)), .int (nI (lo))] G (pw G q) u (fun r u1 => ∃ k : Nat, r = nI k ∧ (tf_post u u1 lo d a w k)) := by
  refine gw_entryI (own := RX3) (by decide) rfl (Nat.le_of_ble_eq_true rfl) ?_
  intro p e s m args below meth c A ls C Hh hl
  have hl : lv_has ls 9 [(0, .ref (q 4)), (1, .int (nI (d))), (2, .int (nI (a))), (3, .int (nI (w))), (4, .int (nI (lo)))] := hl
  refine lv_iload_n C.1 C.2.1 dX3_takeFrom_0 rfl (lv_at hl 3 rfl) ?_
  refine lv_istore (lv' := [(5, .int (nI (w))), (0, .ref (q 4)), (1, .int (nI (d))), (2, .int (nI (a))), (3, .int (nI (w))), (4, .int (nI (lo)))]) C.1 C.2.1 dX3_takeFrom_1 hl (by decide) rfl (fun ls hl => ?_)
  refine lv_iconst (v := nI 0) C.1 C.2.1 dX3_takeFrom_3 (by decide +kernel) ?_
  refine lv_istore (lv' := [(6, .int (nI (0))), (5, .int (nI (w))), (0, .ref (q 4)), (1, .int (nI (d))), (2, .int (nI (a))), (3, .int (nI (w))), (4, .int (nI (lo)))]) C.1 C.2.1 dX3_takeFrom_4 hl (by decide) rfl (fun ls hl => ?_)
  have loop_6 : ∀ (fu : Nat) (mi : Nat) (sh : Nat) (g : Nat) (uc : pf_S) (H : Heap) (locs : List Loc) (ls : Array Slot), (mi + g = w) → (sh ≤ g) → (tf_rel u uc lo d a g) → (sh ≤ 1000000) → 1000000 - sh < fu → gw_H G A s (pw G q uc) H locs → lv_has ls 9 [(0, .ref (q 4)), (1, .int (nI (d))), (2, .int (nI (a))), (3, .int (nI (w))), (4, .int (nI (lo))), (5, .int (nI (mi))), (6, .int (nI (sh)))] → W p l e (gw_rm 2 54) s m args below meth c H locs 0 0 (MQ below (va_Qi (fun r u1 => ∃ k : Nat, r = nI k ∧ (tf_post u u1 lo d a w k)) (gw_at G A (pw G q)) A) args s 0 0 A) (F0 m 6 ls []) := by
    intro fu
    induction fu with
    | zero =>
      intro mi sh g uc H locs ls hg hsg hv hs6 hmf
      exact absurd hmf (Nat.not_lt_zero _)
    | succ fu ih_6 =>
      intro mi sh g uc H locs ls hg hsg hv hs6 hmf Hh hl
      have hcv := tf_cap hv hcap
      have huv := tf_us hv hus
      have hn2 : uc.1 2 = u.1 2 := by rw [hv.1.1]
      have h0 := hcap.1
      have hra := hcv.2 a (by omega)
      refine lv_iload C.1 C.2.1 dX3_takeFrom_6 (lv_at hl 6 rfl) ?_
      refine lv_ldc (v := nI 1000000) C.1 C.2.1 C.cl (C.ts tw_456) dX3_takeFrom_8 ?_
      refine gw_icmp_ge (tgt := 94) C dX3_takeFrom_10 (by decide) (by omega) (by omega) (fun hc_10 => ?_) (fun hc_10 => ?_)
      · skip
        refine lv_iload C.1 C.2.1 dX3_takeFrom_94 (lv_at hl 5 rfl) ?_
        exact gw_iret (w := pw G q) (u := uc) C Hh dX3_takeFrom_96 ⟨_, rfl, by refine ⟨g, hg, hv, fun hk0 => ?_⟩; refine ⟨fun b => b = a, ⟨fun b hb hba => ?_, fun e9 he9 hl9 b hb hba hp => ?_⟩, rfl⟩; (subst hba; have q1 := hv.2.2.2.1; have q2 := fl_sum_one (fun e => tk_x uc e b) hd; omega); (subst hba; exfalso; have q1 := hv.2.2.2.1; have q2 := fl_two hd he9 (fun q9 => by rw [← q9, hl9] at hlo; cases hlo) (f := fun e => tk_x uc e b); omega)⟩
      · skip
        refine lv_iload C.1 C.2.1 dX3_takeFrom_13 (lv_at hl 5 rfl) ?_
        refine gw_if_le (tgt := 94) C dX3_takeFrom_15 (by decide) (by omega) (fun hc_15 => ?_) (fun hc_15 => ?_)
        · skip
          refine lv_iload C.1 C.2.1 dX3_takeFrom_94 (lv_at hl 5 rfl) ?_
          exact gw_iret (w := pw G q) (u := uc) C Hh dX3_takeFrom_96 ⟨_, rfl, by refine ⟨g, hg, hv, fun hk0 => ?_⟩; refine ⟨fun b => b = a, ⟨fun b hb hba => ?_, fun e9 he9 hl9 b hb hba hp => ?_⟩, rfl⟩; (subst hba; have q1 := hv.2.2.2.1; have q2 := fl_sum_one (fun e => tk_x uc e b) hd; omega); (subst hba; exfalso; have q1 := hv.2.2.2.1; have q2 := fl_two hd he9 (fun q9 => by rw [← q9, hl9] at hlo; cases hlo) (f := fun e => tk_x uc e b); omega)⟩
        · skip
          refine lv_aload_n C.1 C.2.1 dX3_takeFrom_18 rfl (lv_at hl 0 rfl) ?_
          refine gw_get (Cn := RX3) (T := TX3) (N := 10) C Hh 4 pw_at4 rfl uwX3 2 (by decide) rfl tw_187 rfl dX3_takeFrom_19 ?_
          refine lv_iload_n C.1 C.2.1 dX3_takeFrom_22 rfl (lv_at hl 2 rfl) ?_
          refine gw_ld C Hh 21 pw_at21 (by decide) dX3_takeFrom_23 (by omega) ?_
          have join_44 : ∀ (la : Nat) (ud : pf_S) (H : Heap) (locs : List Loc) (ls : Array Slot), (tf_rel u ud lo d a g) → ((la = 4294967295 ∧ ∃ T, tk_shut ud lo T ∧ T a) ∨ (la < u.1 2 ∧ ∃ L, pl ud lo a 1 L ∧ L.head? = some la ∧ L.length ≤ 10 ∧ L.Nodup ∧ 0 < ud.2 21 la)) → gw_H G A s (pw G q ud) H locs → lv_has ls 9 [(0, .ref (q 4)), (1, .int (nI (d))), (2, .int (nI (a))), (3, .int (nI (w))), (4, .int (nI (lo))), (5, .int (nI (mi))), (6, .int (nI (sh)))] → W p l e (gw_rm 2 54) s m args below meth c H locs 0 0 (MQ below (va_Qi (fun r u1 => ∃ k : Nat, r = nI k ∧ (tf_post u u1 lo d a w k)) (gw_at G A (pw G q)) A) args s 0 0 A) (F0 m 44 ls [.int (nI (la))]) := by
            intro la ud H locs ls hv2 hla Hh hl
            have hcd := tf_cap hv2 hcap
            have hd2 : ud.1 2 = u.1 2 := by rw [hv2.1.1]
            refine lv_istore (lv' := [(7, .int (nI (la))), (0, .ref (q 4)), (1, .int (nI (d))), (2, .int (nI (a))), (3, .int (nI (w))), (4, .int (nI (lo))), (5, .int (nI (mi))), (6, .int (nI (sh)))]) C.1 C.2.1 dX3_takeFrom_44 hl (by decide) rfl (fun ls hl => ?_)
            refine lv_iload C.1 C.2.1 dX3_takeFrom_46 (lv_at hl 0 rfl) ?_
            rcases hla with ⟨hla, hsat⟩ | ⟨hla, L, hpl, hhd, hln, hnd, hrm⟩
            · refine gw_if_geN (tgt := 54) C dX3_takeFrom_48 (by decide) (by omega) (by omega) ?_
              refine lv_iload C.1 C.2.1 dX3_takeFrom_51 (lv_at hl 6 rfl) ?_
              exact gw_iret (w := pw G q) (u := ud) C Hh dX3_takeFrom_53 ⟨_, rfl, by exact ⟨g, hg, hv2, fun _ => hsat⟩⟩
            · refine gw_if_ge (tgt := 54) C dX3_takeFrom_48 (by decide) (by omega) ?_
              refine lv_aload_n C.1 C.2.1 dX3_takeFrom_54 rfl (lv_at hl 1 rfl) ?_
              refine lv_iload_n C.1 C.2.1 dX3_takeFrom_55 rfl (lv_at hl 3 rfl) ?_
              refine lv_iload C.1 C.2.1 dX3_takeFrom_56 (lv_at hl 0 rfl) ?_
              refine lv_iload C.1 C.2.1 dX3_takeFrom_58 (lv_at hl 6 rfl) ?_
              refine gw_fromI (w := pw G q) (u := ud) C Hh (gw_runV (n := 3) (C1 := RX3) [.int (nI (a)), .int (nI (la)), .int (nI (mi))] C Hh (c_X3_shift l G q (ud) (a) (la) (mi) (lo) (L) (by exact hcd) (by omega) (by exact hpl) (by exact hhd) (by exact hln) (by exact hnd) (by omega) (by omega) (by exact hrm) _) tw_475 tw_477 tw_26 tw_70 tw_478 (by decide +kernel) ⟨Nat.le_of_ble_eq_true rfl, Nat.le_of_ble_eq_true rfl⟩ 4 pw_at4 rfl rfl hl.1 (Nat.le_of_ble_eq_true rfl) dX3_takeFrom_60 ⟨Nat.zero_le _, Nat.zero_le _⟩) (fun rc_60 uc_60 H locs hp_60 Hh => ?_)
              obtain ⟨kc_60, rfl, hp_60⟩ := hp_60
              have hk1 := hp_60.1
              have hk2 := hp_60.2.1
              refine lv_istore (lv' := [(8, .int (nI (kc_60))), (7, .int (nI (la))), (0, .ref (q 4)), (1, .int (nI (d))), (2, .int (nI (a))), (3, .int (nI (w))), (4, .int (nI (lo))), (5, .int (nI (mi))), (6, .int (nI (sh)))]) C.1 C.2.1 dX3_takeFrom_63 hl (by decide) rfl (fun ls hl => ?_)
              refine lv_aload_n C.1 C.2.1 dX3_takeFrom_65 rfl (lv_at hl 2 rfl) ?_
              refine gw_get (Cn := RX3) (T := TX3) (N := 10) C Hh 4 pw_at4 rfl uwX3 3 (by decide) rfl tw_189 rfl dX3_takeFrom_66 ?_
              refine lv_iload_n C.1 C.2.1 dX3_takeFrom_69 rfl (lv_at hl 3 rfl) ?_
              refine lv_bipush (v := nI 10) C.1 C.2.1 dX3_takeFrom_70 (by decide +kernel) ?_
              refine gw_imul C dX3_takeFrom_72 ?_
              refine lv_iload_n C.1 C.2.1 dX3_takeFrom_73 rfl (lv_at hl 4 rfl) ?_
              refine gw_iadd C dX3_takeFrom_74 ?_
              refine lv_dup2_11 C.1 C.2.1 dX3_takeFrom_75 rfl rfl ?_
              refine gw_ld C Hh 22 pw_at22 (by decide) dX3_takeFrom_76 (by omega) ?_
              refine lv_iload C.1 C.2.1 dX3_takeFrom_77 (lv_at hl 0 rfl) ?_
              refine gw_iadd C dX3_takeFrom_79 ?_
              refine gw_st C Hh 22 pw_at22 (by decide) pw_set22 dX3_takeFrom_80 (by omega) (fun H locs Hh => ?_)
              have Hh : gw_H G A s (pw G q (uc_60.1, up2 uc_60.2 22 ((d * 10) + a) ((uc_60.2 22 ((d * 10) + a)) + kc_60))) H locs := Hh
              refine lv_iload C.1 C.2.1 dX3_takeFrom_81 (lv_at hl 7 rfl) ?_
              refine lv_iload C.1 C.2.1 dX3_takeFrom_83 (lv_at hl 0 rfl) ?_
              refine gw_isub C dX3_takeFrom_85 (by exact hp_60.2.1) ?_
              refine lv_istore (lv' := [(5, .int (nI (mi - kc_60))), (8, .int (nI (kc_60))), (7, .int (nI (la))), (0, .ref (q 4)), (1, .int (nI (d))), (2, .int (nI (a))), (3, .int (nI (w))), (4, .int (nI (lo))), (6, .int (nI (sh)))]) C.1 C.2.1 dX3_takeFrom_86 hl (by decide) rfl (fun ls hl => ?_)
              refine lv_iinc (v := nI (sh + 1)) (lv' := [(6, .int (nI (sh + 1))), (5, .int (nI (mi - kc_60))), (8, .int (nI (kc_60))), (7, .int (nI (la))), (0, .ref (q 4)), (1, .int (nI (d))), (2, .int (nI (a))), (3, .int (nI (w))), (4, .int (nI (lo)))]) C.1 C.2.1 dX3_takeFrom_88 hl (k := 8) rfl (nI_add _ 1) (by decide) rfl (fun ls hl => ?_)
              refine lv_goto (tgt := 6) C.1 C.2.1 dX3_takeFrom_91 (by decide) ?_
              exact ih_6 (mi - kc_60) (sh + 1) (g + kc_60) ((uc_60.1, up2 uc_60.2 22 ((d * 10) + a) ((uc_60.2 22 ((d * 10) + a)) + kc_60))) _ _ _ (by omega) (by omega) (by exact tf_step hcap hv2 hd ha hlo hpl hhd hrm hp_60.2.2) (by omega) (by omega) Hh (lv_sub hl [4, 5, 6, 7, 8, 1, 0] rfl)
          refine gw_if_le (tgt := 31) C dX3_takeFrom_24 (by decide) (by omega) (fun hc_24 => ?_) (fun hc_24 => ?_)
          · skip
            refine lv_aload_n C.1 C.2.1 dX3_takeFrom_31 rfl (lv_at hl 0 rfl) ?_
            refine lv_aload_n C.1 C.2.1 dX3_takeFrom_32 rfl (lv_at hl 0 rfl) ?_
            refine lv_iconst (v := nI 1) C.1 C.2.1 dX3_takeFrom_33 (by decide +kernel) ?_
            refine lv_iload_n C.1 C.2.1 dX3_takeFrom_34 rfl (lv_at hl 2 rfl) ?_
            refine gw_ishl C dX3_takeFrom_35 (by omega) ?_
            refine lv_iload C.1 C.2.1 dX3_takeFrom_36 (lv_at hl 4 rfl) ?_
            have haS : (1 <<< a).testBit a = true := by rw [Nat.one_shiftLeft, Nat.testBit_two_pow]; simp
            have haB : ∀ b, (1 <<< a).testBit b = true → b < uc.1 2 := fun b hb => by rw [Nat.one_shiftLeft, Nat.testBit_two_pow, decide_eq_true_eq] at hb; omega
            refine gw_fromI (w := pw G q) (u := uc) C Hh (gw_runV (n := 2) (C1 := RX3) [.int (nI (1 <<< a)), .int (nI (lo))] C Hh (c_X3_spread l G q (uc) (1 <<< a) (lo) (by first | assumption | omega) (by first | assumption | omega) (by exact haB) _) tw_457 tw_459 tw_23 tw_70 tw_460 (by decide +kernel) ⟨Nat.le_of_ble_eq_true rfl, Nat.le_of_ble_eq_true rfl⟩ 4 pw_at4 rfl rfl hl.1 (Nat.le_of_ble_eq_true rfl) dX3_takeFrom_38 ⟨Nat.zero_le _, Nat.zero_le _⟩) (fun rc_38 uc_38 H locs hp_38 Hh => ?_)
            obtain ⟨kc_38, rfl, hp_38⟩ := hp_38
            have hSR := hp_38.2.1.2.2.2.2.2.2
            have hcn : fl_sum (tbit kc_38) 10 = fl_sum (tbit kc_38) (uc.1 2) := fl_tb_n (by omega) hp_38.2.1.1
            refine gw_fromI (w := pw G q) (u := uc_38) C Hh (gw_runV (n := 1) (C1 := RX3) [.int (nI (kc_38))] C Hh (c_X3_nearestRoom l G q (uc_38) (kc_38) (by exact tf_cap (tf_buts hv hp_38.1) hcap) (by exact lt_1024 (by omega) hp_38.2.1.1) (by intro i hi; exact (by have hpp := sp_path (i := i) hp_38 (by omega) (by rw [← hcn]; exact hi); exact hpp.1)) _) tw_465 tw_467 tw_25 tw_70 tw_468 (by decide +kernel) ⟨Nat.le_of_ble_eq_true rfl, Nat.le_of_ble_eq_true rfl⟩ 4 pw_at4 rfl rfl hl.1 (Nat.le_of_ble_eq_true rfl) dX3_takeFrom_41 ⟨Nat.zero_le _, Nat.zero_le _⟩) (fun rc_41 uc_41 H locs hp_41 Hh => ?_)
            obtain ⟨kc_41, rfl, hp_41⟩ := hp_41
            obtain ⟨hk_41, hu_41⟩ := hp_41
            rw [hu_41] at Hh
            clear hu_41
            exact join_44 (kc_41) (uc_38) _ _ _ (by exact tf_buts hv hp_38.1) (by rcases hk_41 with ⟨h1, h2⟩ | ⟨i, h1, h2, h3⟩; (exact Or.inl ⟨h1, _, sp_shut hp_38 (fun i hi => h2 i (by rw [hcn]; exact hi)), hSR a haS⟩); (have hpp := sp_path (i := i) hp_38 (by omega) (by rw [← hcn]; exact h1)); exact Or.inr ⟨by rw [h2, ← hn2, ← hp_38.1.1]; exact hpp.1, by obtain ⟨L, q1, q2, q3, q4⟩ := hpp.2; exact ⟨L, q1, by rw [h2]; exact q2, q3, q4, by rw [h2]; exact h3⟩⟩) Hh (lv_sub hl [0, 1, 2, 3, 4, 5, 6] rfl)
          · skip
            refine lv_iload_n C.1 C.2.1 dX3_takeFrom_27 rfl (lv_at hl 2 rfl) ?_
            refine lv_goto (tgt := 44) C.1 C.2.1 dX3_takeFrom_28 (by decide) ?_
            exact join_44 (a) (uc) _ _ _ (by exact hv) (by exact Or.inr ⟨ha, [a], ⟨rfl, by omega⟩, rfl, by simp, by simp, hc_24⟩) Hh (lv_sub hl [0, 1, 2, 3, 4, 5, 6] rfl)
  exact loop_6 _ (w) (0) (0) (u) _ _ _ (by omega) (by first | assumption | omega) (by exact tf_rf) (by first | assumption | omega) (Nat.lt_succ_self _) Hh (lv_sub hl [2, 3, 4, 5, 6, 1, 0] rfl)
end
section
/-! taking for a demand from the arrivals in their turn -/
def tk_ot (lo d : Nat) : Nat := lo &&& ((1 <<< d) ^^^ 4294967295)
theorem tk_ot_self {lo d : Nat} (hd : d < 32) : (tk_ot lo d).testBit d = false := by
  unfold tk_ot
  rw [Nat.testBit_and, Nat.testBit_xor, Nat.one_shiftLeft, Nat.testBit_two_pow, show (4294967295 : Nat) = 2 ^ 32 - 1 from rfl, Nat.testBit_two_pow_sub_one]
  simp [hd]
theorem tk_ot_ne {lo d e : Nat} (he : e < 32) (h : e ≠ d) : (tk_ot lo d).testBit e = lo.testBit e := by
  unfold tk_ot
  rw [Nat.testBit_and, Nat.testBit_xor, Nat.one_shiftLeft, Nat.testBit_two_pow, show (4294967295 : Nat) = 2 ^ 32 - 1 from rfl, Nat.testBit_two_pow_sub_one]
  have : ¬ d = e := fun q => h q.symm
  simp [he, this]
def ta_rel (u v : pf_S) (lo d : Nat) : Prop :=
  st_buts [21, 22, 26, 27, 28] u v ∧ (∀ e, e < 31 → e ≠ d → fl_sum (tk_x v e) (u.1 2) = fl_sum (tk_x u e) (u.1 2)) ∧ (∀ b, b < 10 → tk_x u d b ≤ tk_x v d b) ∧ (∀ b, b < u.1 2 → tk_col v b = tk_col u b) ∧
  (∀ e, e < 31 → ∀ b, b < u.1 2 → 0 < tk_x v e b → 0 < tk_x u e b ∨ (u.2 23 e).testBit b = true) ∧ (∀ e, e < 31 → e ≠ d → lo.testBit e = false → ∀ b, b < 10 → tk_x v e b = tk_x u e b) ∧
  ∀ T : Nat → Prop, tk_shut u lo T → ∀ b, b < u.1 2 → T b → v.2 21 b = u.2 21 b ∧ ∀ e, e < 31 → tk_x v e b = tk_x u e b
theorem ta_rf {u : pf_S} {lo d : Nat} : ta_rel u u lo d := ⟨st_buts.rf, fun _ _ _ => rfl, fun _ _ => Nat.le_refl _, fun _ _ => rfl, fun _ _ _ _ h => Or.inl h, fun _ _ _ _ _ _ => rfl, fun _ _ _ _ _ => ⟨rfl, fun _ _ => rfl⟩⟩
theorem ta_cap {u v : pf_S} {lo d : Nat} (h : ta_rel u v lo d) (hc : tk_cap u) : tk_cap v := by
  refine ⟨by rw [h.1.1]; exact hc.1, fun b hb => ?_⟩
  rw [h.1.1] at hb
  have h1 := h.2.2.2.1 b hb
  have h2 := hc.2 b hb
  unfold tk_col at h1
  omega
theorem ta_us {u v : pf_S} {lo d : Nat} (h : ta_rel u v lo d) (hu : us_ok u) : us_ok v := by
  intro e he b hb
  rw [h.1.2 23 (by decide)] at hb
  rw [h.1.1]
  exact hu e he b hb
theorem ta_shut {u v : pf_S} {lo d : Nat} {T : Nat → Prop} (h : ta_rel u v lo d) (hT : tk_shut u lo T) : tk_shut v lo T := by
  have hn : v.1 2 = u.1 2 := by rw [h.1.1]
  have h23 : v.2 23 = u.2 23 := h.1.2 23 (by decide)
  refine ⟨fun b hb hb2 => ?_, fun e he hl b hb hb2 hx c hc => ?_⟩
  · rw [hn] at hb
    rw [(h.2.2.2.2.2.2 T hT b hb hb2).1]
    exact hT.1 b hb hb2
  · rw [hn] at hb
    rw [(h.2.2.2.2.2.2 T hT b hb hb2).2 e he] at hx
    rw [h23] at hc
    exact hT.2 e he hl b hb hb2 hx c hc
theorem ta_step {u v w : pf_S} {lo d a g : Nat} (h : ta_rel u v lo d) (ht : tf_rel v w lo d a g) (hus : (u.2 23 d).testBit a = true) : ta_rel u w lo d := by
  have hn : v.1 2 = u.1 2 := by rw [h.1.1]
  have h23 : v.2 23 = u.2 23 := h.1.2 23 (by decide)
  have hsh : ∀ T, tk_shut u lo T → tk_shut v lo T := fun T hT => ta_shut h hT
  obtain ⟨h1, h2, h3, h4, h5, h6, h7⟩ := h
  obtain ⟨t1, t2, t3, t4, t5, t6, t7, t8⟩ := ht
  rw [hn] at t2 t5 t6 t8
  refine ⟨h1.tr t1, fun e he hd => (t2 e he hd).trans (h2 e he hd), fun b hb => ?_, fun b hb => (t5 b hb).trans (h4 b hb), fun e he b hb hp => ?_, fun e he hd hl b hb => (t7 e he hd hl b hb).trans (h6 e he hd hl b hb), fun T hT b hb hTb => ?_⟩
  · have := h3 b hb
    by_cases q : b = a
    · rw [q] at this ⊢
      omega
    · rw [t3 b hb q]
      exact this
  · rcases t6 e he b hb hp with q | q | q
    · exact h5 e he b hb q
    · rw [h23] at q
      exact Or.inr q
    · rw [q.1, q.2]
      exact Or.inr hus
  · obtain ⟨g1, g2⟩ := h7 T hT b hb hTb
    obtain ⟨g3, g4⟩ := t8 T (hsh T hT) b hb hTb
    exact ⟨g3.trans g1, fun e he => (g4 e he).trans (g2 e he)⟩
/-- the sum of a row in which one place has grown -/
theorem tf_sum {v w : pf_S} {lo d a g n : Nat} (ht : tf_rel v w lo d a g) (ha : a < n) (hn : n ≤ 10) : fl_sum (tk_x w d) n = fl_sum (tk_x v d) n + g := by
  have := fl_sum_rest (f := tk_x w d) (g := tk_x v d) ha (fun b hb hba => ht.2.2.1 b (by omega) hba)
  rw [ht.2.2.2.1] at this
  omega
/-- at each arrival in its turn: it is shut, or nothing is missing and nothing taken behind it -/
def ta_ord (u v : pf_S) (lo d i mi : Nat) : Prop := ∀ j, j < i → (u.2 23 d).testBit (u.2 20 j) = true → (∃ T, tk_shut v lo T ∧ T (u.2 20 j) ∧ ∀ z, j < z → z < u.1 2 → T (u.2 20 z) → tk_x v d (u.2 20 z) = tk_x u d (u.2 20 z)) ∨ (mi = 0 ∧ ∀ z, j < z → z < u.1 2 → tk_x v d (u.2 20 z) = tk_x u d (u.2 20 z))
def ta_post (u u1 : pf_S) (lo d w k : Nat) : Prop := ta_rel u u1 lo d ∧ fl_sum (tk_x u1 d) (u.1 2) + k = fl_sum (tk_x u d) (u.1 2) + w ∧ ta_ord u u1 lo d (u.1 2) k
theorem ta_ord_step {u v w : pf_S} {lo d a g i mi k : Nat} (h : ta_ord u v lo d i mi) (hmi : 0 < mi) (ht : tf_rel v w lo d a g) (ha : u.2 20 i = a) (hn : u.1 2 ≤ 10) (hlt : ∀ z, z < u.1 2 → u.2 20 z < u.1 2) (hne : ∀ z, i < z → z < u.1 2 → u.2 20 z ≠ a) (hl : ∀ z, i ≤ z → z < u.1 2 → tk_x v d (u.2 20 z) = tk_x u d (u.2 20 z)) (hs : 0 < k → ∃ T, tk_shut w lo T ∧ T a) (hd : d < 31) (hvn : v.1 2 = u.1 2) : ta_ord u w lo d (i + 1) k := by
  intro j hj hus
  by_cases q : j = i
  · subst q
    by_cases hk : 0 < k
    · left
      rw [ha]
      obtain ⟨T, q1, q2⟩ := hs hk
      refine ⟨T, q1, q2, fun z h1 h2 _ => ?_⟩
      rw [ht.2.2.1 _ (by have := hlt z h2; omega) (hne z h1 h2)]
      exact hl z (by omega) h2
    · right
      refine ⟨by omega, fun z h1 h2 => ?_⟩
      rw [ht.2.2.1 _ (by have := hlt z h2; omega) (hne z h1 h2)]
      exact hl z (by omega) h2
  · rcases h j (by omega) hus with ⟨T, g1, g2, g3⟩ | ⟨g1, -⟩
    · refine Or.inl ⟨T, tf_shut ht g1, g2, fun z h1 h2 h3 => ?_⟩
      rw [(ht.2.2.2.2.2.2.2 T g1 _ (by rw [hvn]; exact hlt z h2) h3).2 d hd]
      exact g3 z h1 h2 h3
    · omega
theorem ta_ord_skip {u v : pf_S} {lo d i mi : Nat} (h : ta_ord u v lo d i mi) (hu : (u.2 23 d).testBit (u.2 20 i) = false) : ta_ord u v lo d (i + 1) mi := by
  intro j hj hus
  by_cases q : j = i
  · subst q
    rw [hu] at hus
    cases hus
  · exact h j (by omega) hus
set_option maxHeartbeats 4000000 in
set_option maxRecDepth 100000 in
theorem c_X3_take (l : Launch) (G : gw_G) (q : Nat → Nat) (u : pf_S) (d : Nat) (w : Nat) (lo : Nat) (hcap : tk_cap u) (hus : us_ok u) (hd : d < 31) (hw : w < 2 ^ 31) (hlt : ∀ z, z < u.1 2 → u.2 20 z < u.1 2) (hinj : ∀ i j, i < j → j < u.1 2 → u.2 20 i ≠ u.2 20 j) : gw_MI l yX3_take cX3_take 8 (some .int) 3 82 [.ref (q 4), .int (nI (d)), .int (nI (w)), .int (nI (lo))] G (pw G q) u (fun r u1 => ∃ k : Nat, r = nI k ∧ (ta_post u u1 (tk_ot lo d) d w k)) := by
  refine gw_entryI (own := RX3) (by decide) rfl (Nat.le_of_ble_eq_true rfl) ?_
  intro p e s m args below meth c A ls C Hh hl
  have hl : lv_has ls 8 [(0, .ref (q 4)), (1, .int (nI (d))), (2, .int (nI (w))), (3, .int (nI (lo)))] := hl
  refine lv_iload_n C.1 C.2.1 dX3_take_0 rfl (lv_at hl 3 rfl) ?_
  refine lv_iconst (v := nI 1) C.1 C.2.1 dX3_take_1 (by decide +kernel) ?_
  refine lv_iload_n C.1 C.2.1 dX3_take_2 rfl (lv_at hl 1 rfl) ?_
  refine gw_ishl C dX3_take_3 (by omega) ?_
  refine lv_iconst (v := nI 4294967295) C.1 C.2.1 dX3_take_4 (by decide +kernel) ?_
  refine gw_ixor C dX3_take_5 ?_
  refine gw_iand C dX3_take_6 ?_
  rw [show lo &&& ((1 <<< d) ^^^ 4294967295) = tk_ot lo d from rfl]
  refine lv_istore (lv' := [(4, .int (nI (tk_ot lo d))), (0, .ref (q 4)), (1, .int (nI (d))), (2, .int (nI (w))), (3, .int (nI (lo)))]) C.1 C.2.1 dX3_take_7 hl (by decide) rfl (fun ls hl => ?_)
  refine lv_iload_n C.1 C.2.1 dX3_take_9 rfl (lv_at hl 3 rfl) ?_
  refine lv_istore (lv' := [(5, .int (nI (w))), (4, .int (nI (tk_ot lo d))), (0, .ref (q 4)), (1, .int (nI (d))), (2, .int (nI (w))), (3, .int (nI (lo)))]) C.1 C.2.1 dX3_take_10 hl (by decide) rfl (fun ls hl => ?_)
  refine lv_iconst (v := nI 0) C.1 C.2.1 dX3_take_12 (by decide +kernel) ?_
  refine lv_istore (lv' := [(6, .int (nI (0))), (5, .int (nI (w))), (4, .int (nI (tk_ot lo d))), (0, .ref (q 4)), (1, .int (nI (d))), (2, .int (nI (w))), (3, .int (nI (lo)))]) C.1 C.2.1 dX3_take_13 hl (by decide) rfl (fun ls hl => ?_)
  have loop_15 : ∀ (fu : Nat) (i : Nat) (mi : Nat) (uc : pf_S) (H : Heap) (locs : List Loc) (ls : Array Slot), (i ≤ u.1 2) → (mi ≤ w) → (ta_rel u uc (tk_ot lo d) d) → (fl_sum (tk_x uc d) (u.1 2) + mi = fl_sum (tk_x u d) (u.1 2) + w) → (∀ z, i ≤ z → z < u.1 2 → tk_x uc d (u.2 20 z) = tk_x u d (u.2 20 z)) → (ta_ord u uc (tk_ot lo d) d i mi) → u.1 2 - i < fu → gw_H G A s (pw G q uc) H locs → lv_has ls 8 [(0, .ref (q 4)), (1, .int (nI (d))), (2, .int (nI (w))), (3, .int (nI (lo))), (4, .int (nI (tk_ot lo d))), (5, .int (nI (mi))), (6, .int (nI (i)))] → W p l e (gw_rm 3 82) s m args below meth c H locs 0 0 (MQ below (va_Qi (fun r u1 => ∃ k : Nat, r = nI k ∧ (ta_post u u1 (tk_ot lo d) d w k)) (gw_at G A (pw G q)) A) args s 0 0 A) (F0 m 15 ls []) := by
    intro fu
    induction fu with
    | zero =>
      intro i mi uc H locs ls hi hmw hv hsum hlat hord hmf
      exact absurd hmf (Nat.not_lt_zero _)
    | succ fu ih_15 =>
      intro i mi uc H locs ls hi hmw hv hsum hlat hord hmf Hh hl
      have hcv := ta_cap hv hcap
      have huv := ta_us hv hus
      have hn2 : uc.1 2 = u.1 2 := by rw [hv.1.1]
      have h0 := hcap.1
      have h20 : uc.2 20 = u.2 20 := hv.1.2 20 (by decide)
      have h23 : uc.2 23 = u.2 23 := hv.1.2 23 (by decide)
      refine lv_iload C.1 C.2.1 dX3_take_15 (lv_at hl 6 rfl) ?_
      refine lv_aload_n C.1 C.2.1 dX3_take_17 rfl (lv_at hl 0 rfl) ?_
      refine gw_get (Cn := RX3) (T := TX3) (N := 10) C Hh 4 pw_at4 rfl uwX3 0 (by decide) rfl tw_185 rfl dX3_take_18 ?_
      refine gw_icmp_ge (tgt := 71) C dX3_take_21 (by decide) (by omega) (by omega) (fun hc_21 => ?_) (fun hc_21 => ?_)
      · skip
        refine lv_iload C.1 C.2.1 dX3_take_71 (lv_at hl 5 rfl) ?_
        exact gw_iret (w := pw G q) (u := uc) C Hh dX3_take_73 ⟨_, rfl, by refine ⟨hv, hsum, ?_⟩; first | (rw [show u.1 2 = i by omega]; exact hord) | (intro j hj hu9; rcases Nat.lt_or_ge j i with q9 | q9; (exact hord j q9 hu9); exact Or.inr ⟨by omega, fun z h1 h2 => hlat z (by omega) h2⟩)⟩
      · skip
        refine lv_iload C.1 C.2.1 dX3_take_24 (lv_at hl 5 rfl) ?_
        refine gw_if_le (tgt := 71) C dX3_take_26 (by decide) (by omega) (fun hc_26 => ?_) (fun hc_26 => ?_)
        · skip
          refine lv_iload C.1 C.2.1 dX3_take_71 (lv_at hl 5 rfl) ?_
          exact gw_iret (w := pw G q) (u := uc) C Hh dX3_take_73 ⟨_, rfl, by refine ⟨hv, hsum, ?_⟩; first | (rw [show u.1 2 = i by omega]; exact hord) | (intro j hj hu9; rcases Nat.lt_or_ge j i with q9 | q9; (exact hord j q9 hu9); exact Or.inr ⟨by omega, fun z h1 h2 => hlat z (by omega) h2⟩)⟩
        · skip
          refine lv_aload_n C.1 C.2.1 dX3_take_29 rfl (lv_at hl 0 rfl) ?_
          refine gw_get (Cn := RX3) (T := TX3) (N := 10) C Hh 4 pw_at4 rfl uwX3 1 (by decide) rfl tw_186 rfl dX3_take_30 ?_
          refine lv_iload C.1 C.2.1 dX3_take_33 (lv_at hl 6 rfl) ?_
          refine gw_ld C Hh 20 pw_at20 (by decide) dX3_take_35 (by omega) ?_
          have hai := hlt i (by omega)
          refine lv_istore (lv' := [(7, .int (nI (uc.2 20 (i)))), (0, .ref (q 4)), (1, .int (nI (d))), (2, .int (nI (w))), (3, .int (nI (lo))), (4, .int (nI (tk_ot lo d))), (5, .int (nI (mi))), (6, .int (nI (i)))]) C.1 C.2.1 dX3_take_36 hl (by decide) rfl (fun ls hl => ?_)
          refine lv_aload_n C.1 C.2.1 dX3_take_38 rfl (lv_at hl 1 rfl) ?_
          refine gw_get (Cn := RX3) (T := TX3) (N := 10) C Hh 4 pw_at4 rfl uwX3 4 (by decide) rfl tw_190 rfl dX3_take_39 ?_
          refine lv_iload_n C.1 C.2.1 dX3_take_42 rfl (lv_at hl 2 rfl) ?_
          refine gw_ld C Hh 23 pw_at23 (by decide) dX3_take_43 (by omega) ?_
          refine lv_iload C.1 C.2.1 dX3_take_44 (lv_at hl 0 rfl) ?_
          refine gw_fromI (w := pw G q) (u := uc) C Hh (gw_runSN (n := 2) [.int (nI (uc.2 23 (d))), .int (nI (uc.2 20 (i)))] C Hh (c_X4_hasBit l G q (uc) (uc.2 23 (d)) (uc.2 20 (i)) (by rw [h20]; omega) _) tw_449 tw_450 tw_66 tw_451 (by decide +kernel) ⟨Nat.le_of_ble_eq_true rfl, Nat.le_of_ble_eq_true rfl⟩ rfl hl.1 (Nat.le_of_ble_eq_true rfl) dX3_take_46 ⟨Nat.zero_le _, Nat.zero_le _⟩) (fun rc_46 uc_46 H locs hp_46 Hh => ?_)
          obtain ⟨kc_46, rfl, hp_46⟩ := hp_46
          obtain ⟨hk_46, hu_46⟩ := hp_46
          rw [hu_46] at Hh
          clear hu_46
          have htl := tbit_le (uc.2 23 d) (uc.2 20 i)
          have join_65 : ∀ (mi2 : Nat) (ud : pf_S) (H : Heap) (locs : List Loc) (ls : Array Slot), (mi2 ≤ w) → (ta_rel u ud (tk_ot lo d) d) → (fl_sum (tk_x ud d) (u.1 2) + mi2 = fl_sum (tk_x u d) (u.1 2) + w) → (∀ z, i + 1 ≤ z → z < u.1 2 → tk_x ud d (u.2 20 z) = tk_x u d (u.2 20 z)) → (ta_ord u ud (tk_ot lo d) d (i + 1) mi2) → gw_H G A s (pw G q ud) H locs → lv_has ls 8 [(0, .ref (q 4)), (1, .int (nI (d))), (2, .int (nI (w))), (3, .int (nI (lo))), (4, .int (nI (tk_ot lo d))), (5, .int (nI (mi2))), (6, .int (nI (i)))] → W p l e (gw_rm 3 82) s m args below meth c H locs 0 0 (MQ below (va_Qi (fun r u1 => ∃ k : Nat, r = nI k ∧ (ta_post u u1 (tk_ot lo d) d w k)) (gw_at G A (pw G q)) A) args s 0 0 A) (F0 m 65 ls []) := by
            intro mi2 ud H locs ls hmw2 hv2 hsum2 hlat2 hord2 Hh hl
            refine lv_iinc (v := nI (i + 1)) (lv' := [(6, .int (nI (i + 1))), (0, .ref (q 4)), (1, .int (nI (d))), (2, .int (nI (w))), (3, .int (nI (lo))), (4, .int (nI (tk_ot lo d))), (5, .int (nI (mi2)))]) C.1 C.2.1 dX3_take_65 hl (k := 6) rfl (nI_add _ 1) (by decide) rfl (fun ls hl => ?_)
            refine lv_goto (tgt := 15) C.1 C.2.1 dX3_take_68 (by decide) ?_
            exact ih_15 (i + 1) (mi2) (ud) _ _ _ (by first | assumption | omega) (by first | assumption | omega) (by exact hv2) (by exact hsum2) (by exact hlat2) (by exact hord2) (by omega) Hh (lv_sub hl [1, 2, 3, 4, 5, 6, 0] rfl)
          refine gw_if_eq (tgt := 65) C dX3_take_49 (by decide) (by omega) (fun hc_49 => ?_) (fun hc_49 => ?_)
          · skip
            exact join_65 (mi) (uc) _ _ _ (by first | assumption | omega) (by exact hv) (by exact hsum) (by intro z h1 h2; exact hlat z (by omega) h2) (by exact ta_ord_skip hord (by rw [hk_46, h23, h20] at hc_49; exact tbit_zero hc_49)) Hh (lv_sub hl [1, 2, 3, 4, 5, 6, 7] rfl)
          · skip
            have husa : (u.2 23 d).testBit (uc.2 20 i) = true := by rw [← h23]; exact tbit_pos (by omega)
            refine lv_aload_n C.1 C.2.1 dX3_take_52 rfl (lv_at hl 1 rfl) ?_
            refine lv_iload_n C.1 C.2.1 dX3_take_53 rfl (lv_at hl 2 rfl) ?_
            refine lv_iload C.1 C.2.1 dX3_take_54 (lv_at hl 0 rfl) ?_
            refine lv_iload C.1 C.2.1 dX3_take_56 (lv_at hl 6 rfl) ?_
            refine lv_iload C.1 C.2.1 dX3_take_58 (lv_at hl 5 rfl) ?_
            refine gw_fromI (w := pw G q) (u := uc) C Hh (gw_runV (n := 4) (C1 := RX3) [.int (nI (d)), .int (nI (uc.2 20 (i))), .int (nI (mi)), .int (nI (tk_ot lo d))] C Hh (c_X3_takeFrom l G q (uc) (d) (uc.2 20 (i)) (mi) (tk_ot lo d) (by first | assumption | omega) (by first | assumption | omega) (by first | assumption | omega) (by rw [h20, hn2]; exact hai) (by exact tk_ot_self (by omega)) (by omega) _) tw_452 tw_454 tw_22 tw_70 tw_455 (by decide +kernel) ⟨Nat.le_of_ble_eq_true rfl, Nat.le_of_ble_eq_true rfl⟩ 4 pw_at4 rfl rfl hl.1 (Nat.le_of_ble_eq_true rfl) dX3_take_60 ⟨Nat.zero_le _, Nat.zero_le _⟩) (fun rc_60 uc_60 H locs hp_60 Hh => ?_)
            obtain ⟨kc_60, rfl, hp_60⟩ := hp_60
            obtain ⟨gg, hgw, hgf, hgs⟩ := hp_60
            refine lv_istore (lv' := [(5, .int (nI (kc_60))), (7, .int (nI (uc.2 20 (i)))), (0, .ref (q 4)), (1, .int (nI (d))), (2, .int (nI (w))), (3, .int (nI (lo))), (4, .int (nI (tk_ot lo d))), (6, .int (nI (i)))]) C.1 C.2.1 dX3_take_63 hl (by decide) rfl (fun ls hl => ?_)
            exact join_65 (kc_60) (uc_60) _ _ _ (by omega) (by exact ta_step hv hgf husa) (by have q9 := tf_sum (n := u.1 2) hgf (by rw [h20]; exact hai) h0; omega) (by intro z h1 h2; rw [hgf.2.2.1 _ (by have := hlt z h2; omega) (by rw [h20]; exact fun q9 => hinj i z (by omega) h2 q9.symm)]; exact hlat z (by omega) h2) (by exact ta_ord_step hord (by omega) hgf (by rw [h20]) h0 hlt (fun z h1 h2 => by rw [h20]; exact fun q9 => hinj i z h1 h2 q9.symm) hlat hgs hd hn2) Hh (lv_sub hl [2, 3, 4, 5, 6, 0, 7] rfl)
  exact loop_15 _ (0) (w) (u) _ _ _ (by first | assumption | omega) (by first | assumption | omega) (by exact ta_rf) (by rfl) (by intro z _ _; rfl) (by intro j hj; omega) (Nat.lt_succ_self _) Hh (lv_sub hl [3, 4, 5, 6, 2, 1, 0] rfl)
end
section
theorem tk_cap_of {u v : pf_S} (h1 : v.1 = u.1) (h2 : v.2 21 = u.2 21) (h3 : v.2 22 = u.2 22) (h : tk_cap u) : tk_cap v := by
  refine ⟨by rw [h1]; exact h.1, fun a ha => ?_⟩
  rw [h1] at ha
  rw [h2, show (fun d => tk_x v d a) = fun d => tk_x u d a from funext fun d => tk_x_of h3 d a]
  exact h.2 a ha
theorem ta_le {u v : pf_S} {lo d w k : Nat} (h : ta_post u v lo d w k) (hn : u.1 2 ≤ 10) : k ≤ w := by
  have h1 := fl_sum_le (f := tk_x u d) (g := tk_x v d) (n := u.1 2) (fun b hb => h.1.2.2.1 b (by omega))
  have h2 := h.2.1
  omega
/-- the trial: a state like u in which the last demand may use S, and how much it can take there -/
def mo_try (u : pf_S) (S k : Nat) : Prop := ∃ v w m, v.1 = u.1 ∧ (∀ j, j ∉ [23, 24, 25] → v.2 j = u.2 j) ∧ v.2 23 30 = S ∧ (∀ d, d < 30 → v.2 23 d = u.2 23 d) ∧ ta_post v w (tk_ot 4294967295 30) 30 10000001 m ∧ k + m = 10000001
/-- what a trial leaves as it was -/
def mo_same (u u1 : pf_S) : Prop := u1.1 = u.1 ∧ (∀ j, j ∉ [21, 22, 23, 24, 25, 26, 27, 28] → u1.2 j = u.2 j) ∧ (∀ j, j < 10 → u1.2 21 j = u.2 21 j) ∧ (∀ j, j < 310 → u1.2 22 j = u.2 22 j) ∧ ∀ d, d < 30 → u1.2 23 d = u.2 23 d
set_option maxHeartbeats 4000000 in
set_option maxRecDepth 100000 in
theorem c_X3_mostFrom (l : Launch) (G : gw_G) (q : Nat → Nat) (u : pf_S) (S : Nat) (hcap : tk_cap u) (hus : us_ok u) (hS : ∀ a, S.testBit a = true → a < u.1 2) (hlt : ∀ z, z < u.1 2 → u.2 20 z < u.1 2) (hinj : ∀ i j, i < j → j < u.1 2 → u.2 20 i ≠ u.2 20 j) : gw_MI l yX3_mostFrom cX3_mostFrom 3 (some .int) 4 109 [.ref (q 4), .int (nI (S))] G (pw G q) u (fun r u1 => ∃ k : Nat, r = nI k ∧ (mo_same u u1 ∧ mo_try u S k)) := by
  refine gw_entryI (own := RX3) (by decide) rfl (Nat.le_of_ble_eq_true rfl) ?_
  intro p e s m args below meth c A ls C Hh hl
  have hl : lv_has ls 3 [(0, .ref (q 4)), (1, .int (nI (S)))] := hl
  refine lv_aload_n C.1 C.2.1 dX3_mostFrom_0 rfl (lv_at hl 0 rfl) ?_
  refine gw_fromV (w := pw G q) (u := u) C Hh (gw_runV (n := 0) (C1 := RX3) [] C Hh (c_X3_save l G q (u)   _) tw_632 tw_421 tw_16 tw_70 tw_422 (by decide +kernel) ⟨Nat.le_of_ble_eq_true rfl, Nat.le_of_ble_eq_true rfl⟩ 4 pw_at4 rfl rfl hl.1 (Nat.le_of_ble_eq_true rfl) dX3_mostFrom_1 ⟨Nat.zero_le _, Nat.zero_le _⟩) (fun uc_1 H locs hp_1 Hh => ?_)
  have hq1 := hp_1.1.1
  have hq2 := hp_1.1.2
  refine lv_aload_n C.1 C.2.1 dX3_mostFrom_4 rfl (lv_at hl 0 rfl) ?_
  refine gw_get (Cn := RX3) (T := TX3) (N := 10) C Hh 4 pw_at4 rfl uwX3 4 (by decide) rfl tw_190 rfl dX3_mostFrom_5 ?_
  refine lv_bipush (v := nI 30) C.1 C.2.1 dX3_mostFrom_8 (by decide +kernel) ?_
  refine lv_iload_n C.1 C.2.1 dX3_mostFrom_10 rfl (lv_at hl 1 rfl) ?_
  refine gw_st C Hh 23 pw_at23 (by decide) pw_set23 dX3_mostFrom_11 (by omega) (fun H locs Hh => ?_)
  have Hh : gw_H G A s (pw G q (uc_1.1, up2 uc_1.2 23 (30) (S))) H locs := Hh
  refine lv_ldc (v := nI 10000001) C.1 C.2.1 C.cl (C.ts tw_633) dX3_mostFrom_12 ?_
  refine lv_aload_n C.1 C.2.1 dX3_mostFrom_14 rfl (lv_at hl 0 rfl) ?_
  refine lv_bipush (v := nI 30) C.1 C.2.1 dX3_mostFrom_15 (by decide +kernel) ?_
  refine lv_ldc (v := nI 10000001) C.1 C.2.1 C.cl (C.ts tw_633) dX3_mostFrom_17 ?_
  refine lv_iconst (v := nI 4294967295) C.1 C.2.1 dX3_mostFrom_19 (by decide +kernel) ?_
  obtain ⟨v, hv⟩ : ∃ v : pf_S, v = (uc_1.1, up2 uc_1.2 23 30 S) := ⟨_, rfl⟩
  have hv1 : v.1 = u.1 := by rw [hv]; exact hq1
  have hv2 : ∀ j, j ∉ [23, 24, 25] → v.2 j = u.2 j := fun j hj => by rw [hv]; show up2 uc_1.2 23 30 S j = _; rw [up2_ne _ (fun q9 => hj (by rw [q9]; decide))]; exact hq2 j (fun q9 => hj (by simp at q9 ⊢; omega))
  have hv3 : v.2 23 30 = S := by rw [hv]; simp [up2]
  have hv4 : ∀ d, d < 30 → v.2 23 d = u.2 23 d := fun d hd => by rw [hv]; show up2 uc_1.2 23 30 S 23 d = _; rw [up2_off _ (by omega), hq2 23 (by decide)]
  have hvc : tk_cap v := tk_cap_of hv1 (hv2 21 (by decide)) (hv2 22 (by decide)) hcap
  have hvu : us_ok v := by intro d hd a ha; rw [hv1]; by_cases q9 : d = 30; (rw [q9, hv3] at ha; exact hS a ha); (rw [hv4 d (by omega)] at ha; exact hus d hd a ha)
  have hn2 : v.1 2 = u.1 2 := by rw [hv1]
  rw [← hv] at Hh
  refine gw_fromI (w := pw G q) (u := v) C Hh (gw_runV (n := 3) (C1 := RX3) [.int (nI (30)), .int (nI (10000001)), .int (nI (4294967295))] C Hh (c_X3_take l G q (v) (30) (10000001) (4294967295) (by exact hvc) (by exact hvu) (by decide) (by decide) (by rw [hn2, hv2 20 (by decide)]; exact hlt) (by rw [hn2, hv2 20 (by decide)]; exact hinj) _) tw_634 tw_447 tw_21 tw_70 tw_448 (by decide +kernel) ⟨Nat.le_of_ble_eq_true rfl, Nat.le_of_ble_eq_true rfl⟩ 4 pw_at4 rfl rfl hl.1 (Nat.le_of_ble_eq_true rfl) dX3_mostFrom_20 ⟨Nat.zero_le _, Nat.zero_le _⟩) (fun rc_20 uc_20 H locs hp_20 Hh => ?_)
  obtain ⟨kc_20, rfl, hp_20⟩ := hp_20
  have hle := ta_le hp_20 (by rw [hv1]; exact hcap.1)
  refine gw_isub C dX3_mostFrom_23 (by exact hle) ?_
  refine lv_istore_n (lv' := [(2, .int (nI (10000001 - kc_20))), (0, .ref (q 4)), (1, .int (nI (S)))]) C.1 C.2.1 dX3_mostFrom_24 rfl hl (by decide) rfl (fun ls hl => ?_)
  refine lv_aload_n C.1 C.2.1 dX3_mostFrom_25 rfl (lv_at hl 1 rfl) ?_
  refine gw_fromV (w := pw G q) (u := uc_20) C Hh (gw_runV (n := 0) (C1 := RX3) [] C Hh (c_X3_restore l G q (uc_20)   _) tw_635 tw_484 tw_27 tw_70 tw_485 (by decide +kernel) ⟨Nat.le_of_ble_eq_true rfl, Nat.le_of_ble_eq_true rfl⟩ 4 pw_at4 rfl rfl hl.1 (Nat.le_of_ble_eq_true rfl) dX3_mostFrom_26 ⟨Nat.zero_le _, Nat.zero_le _⟩) (fun uc_26 H locs hp_26 Hh => ?_)
  refine lv_iload_n C.1 C.2.1 dX3_mostFrom_29 rfl (lv_at hl 0 rfl) ?_
  exact gw_iret (w := pw G q) (u := uc_26) C Hh dX3_mostFrom_30 ⟨_, rfl, by refine ⟨⟨?_, fun j hj => ?_, fun j hj => ?_, fun j hj => ?_, fun d hd => ?_⟩, v, uc_20, kc_20, hv1, hv2, hv3, hv4, hp_20, by omega⟩; (rw [hp_26.1.1, hp_20.1.1.1]; exact hv1); (simp only [List.mem_cons, List.not_mem_nil, or_false, not_or] at hj; rw [hp_26.1.2 j (by simp; omega), hp_20.1.1.2 j (by simp; omega)]; exact hv2 j (by simp; omega)); (rw [hp_26.2.1 j hj, hp_20.1.1.2 24 (by decide), hv]; show up2 uc_1.2 23 30 S 24 j = _; rw [up2_ne _ (by decide)]; exact hp_1.2.1 j hj); (rw [hp_26.2.2 j hj, hp_20.1.1.2 25 (by decide), hv]; show up2 uc_1.2 23 30 S 25 j = _; rw [up2_ne _ (by decide)]; exact hp_1.2.2 j hj); (rw [hp_26.1.2 23 (by decide), hp_20.1.1.2 23 (by decide)]; exact hv4 d hd)⟩
set_option maxHeartbeats 4000000 in
set_option maxRecDepth 100000 in
theorem c_X3_takesFrom (l : Launch) (G : gw_G) (q : Nat → Nat) (u : pf_S) (d : Nat) (S : Nat) (hcap : tk_cap u) (hd : d < 31) : gw_MI l yX3_takesFrom cX3_takesFrom 4 (some .boolean) 1 21 [.ref (q 4), .int (nI (d)), .int (nI (S))] G (pw G q) u (fun r u1 => ∃ k : Nat, r = nI k ∧ (((k = 1 ∧ ∃ a, a < u.1 2 ∧ S.testBit a = true ∧ 0 < tk_x u d a) ∨ (k = 0 ∧ ∀ a, a < u.1 2 → S.testBit a = true → tk_x u d a = 0)) ∧ u1 = u)) := by
  refine gw_entryI (own := RX3) (by decide) rfl (Nat.le_of_ble_eq_true rfl) ?_
  intro p e s m args below meth c A ls C Hh hl
  have hl : lv_has ls 4 [(0, .ref (q 4)), (1, .int (nI (d))), (2, .int (nI (S)))] := hl
  have h0 := hcap.1
  refine lv_iconst (v := nI 0) C.1 C.2.1 dX3_takesFrom_0 (by decide +kernel) ?_
  refine lv_istore_n (lv' := [(3, .int (nI (0))), (0, .ref (q 4)), (1, .int (nI (d))), (2, .int (nI (S)))]) C.1 C.2.1 dX3_takesFrom_1 rfl hl (by decide) rfl (fun ls hl => ?_)
  have loop_2 : ∀ (fu : Nat) (i : Nat) (H : Heap) (locs : List Loc) (ls : Array Slot), (i ≤ u.1 2) → (∀ a, a < i → S.testBit a = true → tk_x u d a = 0) → u.1 2 - i < fu → gw_H G A s (pw G q u) H locs → lv_has ls 4 [(0, .ref (q 4)), (1, .int (nI (d))), (2, .int (nI (S))), (3, .int (nI (i)))] → W p l e (gw_rm 1 21) s m args below meth c H locs 0 0 (MQ below (va_Qi (fun r u1 => ∃ k : Nat, r = nI k ∧ (((k = 1 ∧ ∃ a, a < u.1 2 ∧ S.testBit a = true ∧ 0 < tk_x u d a) ∨ (k = 0 ∧ ∀ a, a < u.1 2 → S.testBit a = true → tk_x u d a = 0)) ∧ u1 = u)) (gw_at G A (pw G q)) A) args s 0 0 A) (F0 m 2 ls []) := by
    intro fu
    induction fu with
    | zero =>
      intro i  H locs ls hi hno hmf
      exact absurd hmf (Nat.not_lt_zero _)
    | succ fu ih_2 =>
      intro i  H locs ls hi hno hmf Hh hl
      refine lv_iload_n C.1 C.2.1 dX3_takesFrom_2 rfl (lv_at hl 3 rfl) ?_
      refine lv_aload_n C.1 C.2.1 dX3_takesFrom_3 rfl (lv_at hl 0 rfl) ?_
      refine gw_get (Cn := RX3) (T := TX3) (N := 10) C Hh 4 pw_at4 rfl uwX3 0 (by decide) rfl tw_185 rfl dX3_takesFrom_4 ?_
      refine gw_icmp_ge (tgt := 40) C dX3_takesFrom_7 (by decide) (by omega) (by omega) (fun hc_7 => ?_) (fun hc_7 => ?_)
      · skip
        refine lv_iconst (v := nI 0) C.1 C.2.1 dX3_takesFrom_40 (by decide +kernel) ?_
        exact gw_zret (w := pw G q) (u := u) C Hh dX3_takesFrom_41 (by omega) ⟨_, rfl, by exact ⟨Or.inr ⟨rfl, fun j h => hno j (by omega)⟩, rfl⟩⟩
      · skip
        refine lv_iload_n C.1 C.2.1 dX3_takesFrom_10 rfl (lv_at hl 2 rfl) ?_
        refine lv_iload_n C.1 C.2.1 dX3_takesFrom_11 rfl (lv_at hl 3 rfl) ?_
        refine gw_fromI (w := pw G q) (u := u) C Hh (gw_runSN (n := 2) [.int (nI (S)), .int (nI (i))] C Hh (c_X4_hasBit l G q (u) (S) (i) (by first | assumption | omega) _) tw_449 tw_450 tw_66 tw_451 (by decide +kernel) ⟨Nat.le_of_ble_eq_true rfl, Nat.le_of_ble_eq_true rfl⟩ rfl hl.1 (Nat.le_of_ble_eq_true rfl) dX3_takesFrom_12 ⟨Nat.zero_le _, Nat.zero_le _⟩) (fun rc_12 uc_12 H locs hp_12 Hh => ?_)
        obtain ⟨kc_12, rfl, hp_12⟩ := hp_12
        obtain ⟨hk_12, hu_12⟩ := hp_12
        rw [hu_12] at Hh
        clear hu_12
        have htl := tbit_le S i
        refine gw_if_eq (tgt := 34) C dX3_takesFrom_15 (by decide) (by omega) (fun hc_15 => ?_) (fun hc_15 => ?_)
        · skip
          refine lv_iinc (v := nI (i + 1)) (lv' := [(3, .int (nI (i + 1))), (0, .ref (q 4)), (1, .int (nI (d))), (2, .int (nI (S)))]) C.1 C.2.1 dX3_takesFrom_34 hl (k := 3) rfl (nI_add _ 1) (by decide) rfl (fun ls hl => ?_)
          refine lv_goto (tgt := 2) C.1 C.2.1 dX3_takesFrom_37 (by decide) ?_
          exact ih_2 (i + 1)  _ _ _ (by first | assumption | omega) (by intro o h h2; by_cases h1 : o = i; (subst h1; first | (rw [tbit_1 h2] at hk_12; omega) | (unfold tk_x; omega)); exact hno o (by omega) h2) (by omega) Hh (lv_sub hl [1, 2, 3, 0] rfl)
        · skip
          refine lv_aload_n C.1 C.2.1 dX3_takesFrom_18 rfl (lv_at hl 0 rfl) ?_
          refine gw_get (Cn := RX3) (T := TX3) (N := 10) C Hh 4 pw_at4 rfl uwX3 3 (by decide) rfl tw_189 rfl dX3_takesFrom_19 ?_
          refine lv_iload_n C.1 C.2.1 dX3_takesFrom_22 rfl (lv_at hl 1 rfl) ?_
          refine lv_bipush (v := nI 10) C.1 C.2.1 dX3_takesFrom_23 (by decide +kernel) ?_
          refine gw_imul C dX3_takesFrom_25 ?_
          refine lv_iload_n C.1 C.2.1 dX3_takesFrom_26 rfl (lv_at hl 3 rfl) ?_
          refine gw_iadd C dX3_takesFrom_27 ?_
          refine gw_ld C Hh 22 pw_at22 (by decide) dX3_takesFrom_28 (by omega) ?_
          have hxx := hcap.x hd (show i < u.1 2 by omega)
          refine gw_if_le (tgt := 34) C dX3_takesFrom_29 (by decide) (by omega) (fun hc_29 => ?_) (fun hc_29 => ?_)
          · skip
            refine lv_iinc (v := nI (i + 1)) (lv' := [(3, .int (nI (i + 1))), (0, .ref (q 4)), (1, .int (nI (d))), (2, .int (nI (S)))]) C.1 C.2.1 dX3_takesFrom_34 hl (k := 3) rfl (nI_add _ 1) (by decide) rfl (fun ls hl => ?_)
            refine lv_goto (tgt := 2) C.1 C.2.1 dX3_takesFrom_37 (by decide) ?_
            exact ih_2 (i + 1)  _ _ _ (by first | assumption | omega) (by intro o h h2; by_cases h1 : o = i; (subst h1; first | (rw [tbit_1 h2] at hk_12; omega) | (unfold tk_x; omega)); exact hno o (by omega) h2) (by omega) Hh (lv_sub hl [1, 2, 3, 0] rfl)
          · skip
            refine lv_iconst (v := nI 1) C.1 C.2.1 dX3_takesFrom_32 (by decide +kernel) ?_
            exact gw_zret (w := pw G q) (u := u) C Hh dX3_takesFrom_33 (by omega) ⟨_, rfl, by exact ⟨Or.inl ⟨rfl, i, by omega, tbit_pos (by omega), hc_29⟩, rfl⟩⟩
  exact loop_2 _ (0)  _ _ _ (by first | assumption | omega) (by intro o h; omega) (Nat.lt_succ_self _) Hh (lv_sub hl [1, 2, 3, 0] rfl)
set_option maxHeartbeats 4000000 in
set_option maxRecDepth 100000 in
theorem c_X3_partsOf (l : Launch) (G : gw_G) (q : Nat → Nat) (u : pf_S) (d : Nat) (hcap : tk_cap u) (hd : d < 31) : gw_MI l yX3_partsOf cX3_partsOf 4 (some .int) 0 0 [.ref (q 4), .int (nI (d))] G (pw G q) u (fun r u1 => ∃ k : Nat, r = nI k ∧ (k = fl_sum (fun a => if 0 < tk_x u d a then 1 else 0) (u.1 2) ∧ u1 = u)) := by
  refine gw_entryI (own := RX3) (by decide) rfl (Nat.le_of_ble_eq_true rfl) ?_
  intro p e s m args below meth c A ls C Hh hl
  have hl : lv_has ls 4 [(0, .ref (q 4)), (1, .int (nI (d)))] := hl
  have h0 := hcap.1
  refine lv_iconst (v := nI 0) C.1 C.2.1 dX3_partsOf_0 (by decide +kernel) ?_
  refine lv_istore_n (lv' := [(2, .int (nI (0))), (0, .ref (q 4)), (1, .int (nI (d)))]) C.1 C.2.1 dX3_partsOf_1 rfl hl (by decide) rfl (fun ls hl => ?_)
  refine lv_iconst (v := nI 0) C.1 C.2.1 dX3_partsOf_2 (by decide +kernel) ?_
  refine lv_istore_n (lv' := [(3, .int (nI (0))), (2, .int (nI (0))), (0, .ref (q 4)), (1, .int (nI (d)))]) C.1 C.2.1 dX3_partsOf_3 rfl hl (by decide) rfl (fun ls hl => ?_)
  have loop_4 : ∀ (fu : Nat) (i : Nat) (z : Nat) (H : Heap) (locs : List Loc) (ls : Array Slot), (i ≤ u.1 2) → (z = fl_sum (fun a => if 0 < tk_x u d a then 1 else 0) i) → u.1 2 - i < fu → gw_H G A s (pw G q u) H locs → lv_has ls 4 [(0, .ref (q 4)), (1, .int (nI (d))), (2, .int (nI (z))), (3, .int (nI (i)))] → W p l e (gw_rm 0 0) s m args below meth c H locs 0 0 (MQ below (va_Qi (fun r u1 => ∃ k : Nat, r = nI k ∧ (k = fl_sum (fun a => if 0 < tk_x u d a then 1 else 0) (u.1 2) ∧ u1 = u)) (gw_at G A (pw G q)) A) args s 0 0 A) (F0 m 4 ls []) := by
    intro fu
    induction fu with
    | zero =>
      intro i z  H locs ls hi hz hmf
      exact absurd hmf (Nat.not_lt_zero _)
    | succ fu ih_4 =>
      intro i z  H locs ls hi hz hmf Hh hl
      refine lv_iload_n C.1 C.2.1 dX3_partsOf_4 rfl (lv_at hl 3 rfl) ?_
      refine lv_aload_n C.1 C.2.1 dX3_partsOf_5 rfl (lv_at hl 0 rfl) ?_
      refine gw_get (Cn := RX3) (T := TX3) (N := 10) C Hh 4 pw_at4 rfl uwX3 0 (by decide) rfl tw_185 rfl dX3_partsOf_6 ?_
      refine gw_icmp_ge (tgt := 35) C dX3_partsOf_9 (by decide) (by omega) (by omega) (fun hc_9 => ?_) (fun hc_9 => ?_)
      · skip
        refine lv_iload_n C.1 C.2.1 dX3_partsOf_35 rfl (lv_at hl 2 rfl) ?_
        exact gw_iret (w := pw G q) (u := u) C Hh dX3_partsOf_36 ⟨_, rfl, by refine ⟨?_, rfl⟩; rw [hz, show i = u.1 2 by omega]⟩
      · skip
        refine lv_aload_n C.1 C.2.1 dX3_partsOf_12 rfl (lv_at hl 0 rfl) ?_
        refine gw_get (Cn := RX3) (T := TX3) (N := 10) C Hh 4 pw_at4 rfl uwX3 3 (by decide) rfl tw_189 rfl dX3_partsOf_13 ?_
        refine lv_iload_n C.1 C.2.1 dX3_partsOf_16 rfl (lv_at hl 1 rfl) ?_
        refine lv_bipush (v := nI 10) C.1 C.2.1 dX3_partsOf_17 (by decide +kernel) ?_
        refine gw_imul C dX3_partsOf_19 ?_
        refine lv_iload_n C.1 C.2.1 dX3_partsOf_20 rfl (lv_at hl 3 rfl) ?_
        refine gw_iadd C dX3_partsOf_21 ?_
        refine gw_ld C Hh 22 pw_at22 (by decide) dX3_partsOf_22 (by omega) ?_
        have join_29 : ∀ (z2 : Nat) (H : Heap) (locs : List Loc) (ls : Array Slot), (z2 = fl_sum (fun a => if 0 < tk_x u d a then 1 else 0) (i + 1)) → gw_H G A s (pw G q u) H locs → lv_has ls 4 [(0, .ref (q 4)), (1, .int (nI (d))), (2, .int (nI (z2))), (3, .int (nI (i)))] → W p l e (gw_rm 0 0) s m args below meth c H locs 0 0 (MQ below (va_Qi (fun r u1 => ∃ k : Nat, r = nI k ∧ (k = fl_sum (fun a => if 0 < tk_x u d a then 1 else 0) (u.1 2) ∧ u1 = u)) (gw_at G A (pw G q)) A) args s 0 0 A) (F0 m 29 ls []) := by
          intro z2  H locs ls hz2 Hh hl
          refine lv_iinc (v := nI (i + 1)) (lv' := [(3, .int (nI (i + 1))), (0, .ref (q 4)), (1, .int (nI (d))), (2, .int (nI (z2)))]) C.1 C.2.1 dX3_partsOf_29 hl (k := 3) rfl (nI_add _ 1) (by decide) rfl (fun ls hl => ?_)
          refine lv_goto (tgt := 4) C.1 C.2.1 dX3_partsOf_32 (by decide) ?_
          exact ih_4 (i + 1) (z2)  _ _ _ (by first | assumption | omega) (by exact hz2) (by omega) Hh (lv_sub hl [1, 2, 3, 0] rfl)
        have hxx := hcap.x hd (show i < u.1 2 by omega)
        refine gw_if_le (tgt := 29) C dX3_partsOf_23 (by decide) (by omega) (fun hc_23 => ?_) (fun hc_23 => ?_)
        · skip
          exact join_29 (z)  _ _ _ (by rw [hz, fl_sum_succ, if_neg (by unfold tk_x; omega)]; rfl) Hh (lv_sub hl [0, 1, 2, 3] rfl)
        · skip
          refine lv_iinc (v := nI (z + 1)) (lv' := [(2, .int (nI (z + 1))), (0, .ref (q 4)), (1, .int (nI (d))), (3, .int (nI (i)))]) C.1 C.2.1 dX3_partsOf_26 hl (k := 2) rfl (nI_add _ 1) (by decide) rfl (fun ls hl => ?_)
          exact join_29 (z + 1)  _ _ _ (by rw [hz, fl_sum_succ, if_pos (by unfold tk_x; exact hc_23)]) Hh (lv_sub hl [1, 2, 0, 3] rfl)
  exact loop_4 _ (0) (0)  _ _ _ (by first | assumption | omega) (by rfl) (Nat.lt_succ_self _) Hh (lv_sub hl [2, 3, 1, 0] rfl)
set_option maxHeartbeats 4000000 in
set_option maxRecDepth 100000 in
theorem c_X3_partOf (l : Launch) (G : gw_G) (q : Nat → Nat) (u : pf_S) (d : Nat) (x : Nat) (b : Nat) (hcap : tk_cap u) (hd : d < 31) (hx : x < 2 ^ 31) (hb : b ≤ 1) (hlt : ∀ z, z < u.1 2 → u.2 20 z < u.1 2) : gw_MI l yX3_partOf cX3_partOf 8 (some .int) 0 0 [.ref (q 4), .int (nI (d)), .int (nI (x)), .int (nI (b))] G (pw G q) u (fun r u1 => ∃ k : Nat, r = nI k ∧ (((∃ t, t < u.1 2 ∧ 0 < tk_x u d (u.2 20 t) ∧ fl_sum (fun t => if 0 < tk_x u d (u.2 20 t) then 1 else 0) t = x ∧ k = (if b = 0 then tk_x u d (u.2 20 t) else u.2 20 t)) ∨ (k = 4294967295 ∧ fl_sum (fun t => if 0 < tk_x u d (u.2 20 t) then 1 else 0) (u.1 2) ≤ x)) ∧ u1 = u)) := by
  refine gw_entryI (own := RX3) (by decide) rfl (Nat.le_of_ble_eq_true rfl) ?_
  intro p e s m args below meth c A ls C Hh hl
  have hl : lv_has ls 8 [(0, .ref (q 4)), (1, .int (nI (d))), (2, .int (nI (x))), (3, .int (nI (b)))] := hl
  have h0 := hcap.1
  refine lv_iconst (v := nI 0) C.1 C.2.1 dX3_partOf_0 (by decide +kernel) ?_
  refine lv_istore (lv' := [(4, .int (nI (0))), (0, .ref (q 4)), (1, .int (nI (d))), (2, .int (nI (x))), (3, .int (nI (b)))]) C.1 C.2.1 dX3_partOf_1 hl (by decide) rfl (fun ls hl => ?_)
  refine lv_iconst (v := nI 0) C.1 C.2.1 dX3_partOf_3 (by decide +kernel) ?_
  refine lv_istore (lv' := [(5, .int (nI (0))), (4, .int (nI (0))), (0, .ref (q 4)), (1, .int (nI (d))), (2, .int (nI (x))), (3, .int (nI (b)))]) C.1 C.2.1 dX3_partOf_4 hl (by decide) rfl (fun ls hl => ?_)
  have loop_6 : ∀ (fu : Nat) (i : Nat) (z : Nat) (H : Heap) (locs : List Loc) (ls : Array Slot), (i ≤ u.1 2) → (z = fl_sum (fun t => if 0 < tk_x u d (u.2 20 t) then 1 else 0) i) → (z ≤ x) → (z ≤ i) → u.1 2 - i < fu → gw_H G A s (pw G q u) H locs → lv_has ls 8 [(0, .ref (q 4)), (1, .int (nI (d))), (2, .int (nI (x))), (3, .int (nI (b))), (4, .int (nI (z))), (5, .int (nI (i)))] → W p l e (gw_rm 0 0) s m args below meth c H locs 0 0 (MQ below (va_Qi (fun r u1 => ∃ k : Nat, r = nI k ∧ (((∃ t, t < u.1 2 ∧ 0 < tk_x u d (u.2 20 t) ∧ fl_sum (fun t => if 0 < tk_x u d (u.2 20 t) then 1 else 0) t = x ∧ k = (if b = 0 then tk_x u d (u.2 20 t) else u.2 20 t)) ∨ (k = 4294967295 ∧ fl_sum (fun t => if 0 < tk_x u d (u.2 20 t) then 1 else 0) (u.1 2) ≤ x)) ∧ u1 = u)) (gw_at G A (pw G q)) A) args s 0 0 A) (F0 m 6 ls []) := by
    intro fu
    induction fu with
    | zero =>
      intro i z  H locs ls hi hz hzx hzi hmf
      exact absurd hmf (Nat.not_lt_zero _)
    | succ fu ih_6 =>
      intro i z  H locs ls hi hz hzx hzi hmf Hh hl
      refine lv_iload C.1 C.2.1 dX3_partOf_6 (lv_at hl 5 rfl) ?_
      refine lv_aload_n C.1 C.2.1 dX3_partOf_8 rfl (lv_at hl 0 rfl) ?_
      refine gw_get (Cn := RX3) (T := TX3) (N := 10) C Hh 4 pw_at4 rfl uwX3 0 (by decide) rfl tw_185 rfl dX3_partOf_9 ?_
      refine gw_icmp_ge (tgt := 70) C dX3_partOf_12 (by decide) (by omega) (by omega) (fun hc_12 => ?_) (fun hc_12 => ?_)
      · skip
        refine lv_iconst (v := nI 4294967295) C.1 C.2.1 dX3_partOf_70 (by decide +kernel) ?_
        exact gw_iret (w := pw G q) (u := u) C Hh dX3_partOf_71 ⟨_, rfl, by exact ⟨Or.inr ⟨rfl, by rw [show u.1 2 = i by omega, ← hz]; exact hzx⟩, rfl⟩⟩
      · skip
        refine lv_aload_n C.1 C.2.1 dX3_partOf_15 rfl (lv_at hl 0 rfl) ?_
        refine gw_get (Cn := RX3) (T := TX3) (N := 10) C Hh 4 pw_at4 rfl uwX3 1 (by decide) rfl tw_186 rfl dX3_partOf_16 ?_
        refine lv_iload C.1 C.2.1 dX3_partOf_19 (lv_at hl 5 rfl) ?_
        refine gw_ld C Hh 20 pw_at20 (by decide) dX3_partOf_21 (by omega) ?_
        have hbt := hlt i (by omega)
        refine lv_istore (lv' := [(6, .int (nI (u.2 20 (i)))), (0, .ref (q 4)), (1, .int (nI (d))), (2, .int (nI (x))), (3, .int (nI (b))), (4, .int (nI (z))), (5, .int (nI (i)))]) C.1 C.2.1 dX3_partOf_22 hl (by decide) rfl (fun ls hl => ?_)
        refine lv_aload_n C.1 C.2.1 dX3_partOf_24 rfl (lv_at hl 1 rfl) ?_
        refine gw_get (Cn := RX3) (T := TX3) (N := 10) C Hh 4 pw_at4 rfl uwX3 3 (by decide) rfl tw_189 rfl dX3_partOf_25 ?_
        refine lv_iload_n C.1 C.2.1 dX3_partOf_28 rfl (lv_at hl 2 rfl) ?_
        refine lv_bipush (v := nI 10) C.1 C.2.1 dX3_partOf_29 (by decide +kernel) ?_
        refine gw_imul C dX3_partOf_31 ?_
        refine lv_iload C.1 C.2.1 dX3_partOf_32 (lv_at hl 0 rfl) ?_
        refine gw_iadd C dX3_partOf_34 ?_
        refine gw_ld C Hh 22 pw_at22 (by decide) dX3_partOf_35 (by omega) ?_
        refine lv_istore (lv' := [(7, .int (nI (u.2 22 ((d * 10) + (u.2 20 (i)))))), (6, .int (nI (u.2 20 (i)))), (0, .ref (q 4)), (1, .int (nI (d))), (2, .int (nI (x))), (3, .int (nI (b))), (4, .int (nI (z))), (5, .int (nI (i)))]) C.1 C.2.1 dX3_partOf_36 hl (by decide) rfl (fun ls hl => ?_)
        refine lv_iload C.1 C.2.1 dX3_partOf_38 (lv_at hl 0 rfl) ?_
        have join_64 : ∀ (z2 : Nat) (H : Heap) (locs : List Loc) (ls : Array Slot), (z2 = fl_sum (fun t => if 0 < tk_x u d (u.2 20 t) then 1 else 0) (i + 1)) → (z2 ≤ x) → (z2 ≤ i + 1) → gw_H G A s (pw G q u) H locs → lv_has ls 8 [(0, .ref (q 4)), (1, .int (nI (d))), (2, .int (nI (x))), (3, .int (nI (b))), (4, .int (nI (z2))), (5, .int (nI (i)))] → W p l e (gw_rm 0 0) s m args below meth c H locs 0 0 (MQ below (va_Qi (fun r u1 => ∃ k : Nat, r = nI k ∧ (((∃ t, t < u.1 2 ∧ 0 < tk_x u d (u.2 20 t) ∧ fl_sum (fun t => if 0 < tk_x u d (u.2 20 t) then 1 else 0) t = x ∧ k = (if b = 0 then tk_x u d (u.2 20 t) else u.2 20 t)) ∨ (k = 4294967295 ∧ fl_sum (fun t => if 0 < tk_x u d (u.2 20 t) then 1 else 0) (u.1 2) ≤ x)) ∧ u1 = u)) (gw_at G A (pw G q)) A) args s 0 0 A) (F0 m 64 ls []) := by
          intro z2  H locs ls hz2 hzx2 hzi2 Hh hl
          refine lv_iinc (v := nI (i + 1)) (lv' := [(5, .int (nI (i + 1))), (0, .ref (q 4)), (1, .int (nI (d))), (2, .int (nI (x))), (3, .int (nI (b))), (4, .int (nI (z2)))]) C.1 C.2.1 dX3_partOf_64 hl (k := 5) rfl (nI_add _ 1) (by decide) rfl (fun ls hl => ?_)
          refine lv_goto (tgt := 6) C.1 C.2.1 dX3_partOf_67 (by decide) ?_
          exact ih_6 (i + 1) (z2)  _ _ _ (by first | assumption | omega) (by exact hz2) (by first | assumption | omega) (by first | assumption | omega) (by omega) Hh (lv_sub hl [1, 2, 3, 4, 5, 0] rfl)
        have hxx := hcap.x hd hbt
        refine gw_if_le (tgt := 64) C dX3_partOf_40 (by decide) (by omega) (fun hc_40 => ?_) (fun hc_40 => ?_)
        · skip
          exact join_64 (z)  _ _ _ (by rw [hz, fl_sum_succ, if_neg (by unfold tk_x; omega)]; rfl) (by first | assumption | omega) (by first | assumption | omega) Hh (lv_sub hl [2, 3, 4, 5, 6, 7] rfl)
        · skip
          refine lv_iload C.1 C.2.1 dX3_partOf_43 (lv_at hl 6 rfl) ?_
          refine lv_iload_n C.1 C.2.1 dX3_partOf_45 rfl (lv_at hl 4 rfl) ?_
          refine gw_icmp_ne (tgt := 61) C dX3_partOf_46 (by decide) (by omega) (by omega) (fun hc_46 => ?_) (fun hc_46 => ?_)
          · skip
            refine lv_iinc (v := nI (z + 1)) (lv' := [(4, .int (nI (z + 1))), (7, .int (nI (u.2 22 ((d * 10) + (u.2 20 (i)))))), (6, .int (nI (u.2 20 (i)))), (0, .ref (q 4)), (1, .int (nI (d))), (2, .int (nI (x))), (3, .int (nI (b))), (5, .int (nI (i)))]) C.1 C.2.1 dX3_partOf_61 hl (k := 6) rfl (nI_add _ 1) (by decide) rfl (fun ls hl => ?_)
            exact join_64 (z + 1)  _ _ _ (by rw [hz, fl_sum_succ, if_pos (by unfold tk_x; exact hc_40)]) (by first | assumption | omega) (by first | assumption | omega) Hh (lv_sub hl [3, 4, 5, 6, 0, 7] rfl)
          · skip
            refine lv_iload_n C.1 C.2.1 dX3_partOf_49 rfl (lv_at hl 5 rfl) ?_
            refine gw_if_eq (tgt := 58) C dX3_partOf_50 (by decide) (by omega) (fun hc_50 => ?_) (fun hc_50 => ?_)
            · skip
              refine lv_iload C.1 C.2.1 dX3_partOf_58 (lv_at hl 0 rfl) ?_
              exact gw_iret (w := pw G q) (u := u) C Hh dX3_partOf_60 ⟨_, rfl, by refine ⟨Or.inl ⟨i, by omega, hc_40, by omega, ?_⟩, rfl⟩; first | (rw [if_pos hc_50]; rfl) | (rw [if_neg (by omega)])⟩
            · skip
              refine lv_iload C.1 C.2.1 dX3_partOf_53 (lv_at hl 1 rfl) ?_
              refine lv_goto (tgt := 60) C.1 C.2.1 dX3_partOf_55 (by decide) ?_
              exact gw_iret (w := pw G q) (u := u) C Hh dX3_partOf_60 ⟨_, rfl, by refine ⟨Or.inl ⟨i, by omega, hc_40, by omega, ?_⟩, rfl⟩; first | (rw [if_pos hc_50]; rfl) | (rw [if_neg (by omega)])⟩
  exact loop_6 _ (0) (0)  _ _ _ (by first | assumption | omega) (by rfl) (by first | assumption | omega) (by first | assumption | omega) (Nat.lt_succ_self _) Hh (lv_sub hl [2, 3, 4, 5, 1, 0] rfl)
end
section
/-- how much the p-th demand of an order wants -/
def od_w (u : pf_S) (a x : Nat) : Nat := u.2 16 a * gd_d1 u (u.2 15 a) x
def od_n (u : pf_S) (a : Nat) : Nat := gd_dn u (u.2 15 a)
theorem gd_dn_le {u : pf_S} (h : gd_ok u) {g : Nat} (hg : g < 6) : 1 ≤ gd_dn u g ∧ gd_dn u g ≤ 3 := by
  have := h.1 g hg
  unfold gd_dn
  split <;> omega
theorem gd_dg_lt {u : pf_S} (h : gd_ok u) {g x : Nat} (hg : g < 6) (hx : x < 3) : gd_dg u g x < 6 := by
  unfold gd_dg
  split
  · exact h.2.2.1 _ (by omega)
  · exact hg
theorem gd_d1_le {u : pf_S} (h : gd_ok u) {g x : Nat} (hg : g < 6) (hx : x < 3) : gd_d1 u g x ≤ 100 := by
  unfold gd_d1
  split
  · exact h.2.2.2.1 _ (by omega)
  · decide
theorem od_w_le {u : pf_S} (h : gd_ok u) (ho : od_ok u) {a x : Nat} (ha : a < 10) (hx : x < 3) : od_w u a x ≤ 1000000 := by
  unfold od_w
  have h1 := ho.2.2.2.1 a ha
  have h2 := gd_d1_le h (ho.2.2.1 a ha) hx
  exact Nat.le_trans (Nat.mul_le_mul h1 h2) (by decide)
/-- an arrival can be used for a demand of good g at the due time t -/
def us_c (u : pf_S) (g t a : Nat) : Bool := decide ((u.2 11 a = g ∨ 0 < u.2 6 (u.2 11 a * 6 + g)) ∧ u.2 10 a ≤ t ∧ t - u.2 10 a ≤ u.2 5 (u.2 11 a))
def us_m (u : pf_S) (g t : Nat) : Nat → Nat
  | 0 => 0
  | i + 1 => if us_c u g t i then us_m u g t i ||| 1 <<< i else us_m u g t i
theorem us_m_succ (u : pf_S) (g t i : Nat) : us_m u g t (i + 1) = if us_c u g t i then us_m u g t i ||| 1 <<< i else us_m u g t i := rfl
theorem us_m_bit {u : pf_S} {g t : Nat} : ∀ (i a : Nat), (us_m u g t i).testBit a = (decide (a < i) && us_c u g t a)
  | 0, a => by simp [us_m]
  | i + 1, a => by
    unfold us_m
    have ih := us_m_bit (u := u) (g := g) (t := t) i a
    by_cases hc : us_c u g t i = true
    · rw [if_pos hc, Nat.testBit_or, ih, Nat.one_shiftLeft, Nat.testBit_two_pow]
      by_cases h1 : a = i
      · subst h1
        simp [hc]
      · have h2 : ¬ i = a := fun q => h1 q.symm
        have h3 : decide (a < i + 1) = decide (a < i) := decide_eq_decide.mpr (by omega)
        simp [h2, h3]
    · rw [if_neg hc, ih]
      by_cases h1 : a = i
      · subst h1
        have : us_c u g t a = false := Bool.eq_false_iff.mpr hc
        simp [this]
      · have h3 : decide (a < i + 1) = decide (a < i) := decide_eq_decide.mpr (by omega)
        rw [h3]
/-- the arrivals that a demand of good g at the due time t may be met from -/
def us_f (u : pf_S) (g t : Nat) : Nat := us_m u g t (u.1 0)
theorem us_f_bit {u : pf_S} {g t a : Nat} : (us_f u g t).testBit a = true ↔ a < u.1 0 ∧ us_c u g t a = true := by
  unfold us_f
  rw [us_m_bit]
  simp
theorem nI_subN {x y : Nat} (hy : y ≤ 4294967296) : nI x - nI y = nI (x + 4294967296 - y) := by
  have e : nI x = nI (x + 4294967296) := by
    show Int32.ofNat x = Int32.ofNat (x + 4294967296)
    apply Int32.toBitVec_inj.1
    show BitVec.ofNat 32 x = BitVec.ofNat 32 (x + 4294967296)
    apply BitVec.eq_of_toNat_eq
    simp only [BitVec.toNat_ofNat]
    omega
  rw [e, pk_sub (by omega)]
section GWE
variable {p : Program} {l : Launch} {e : Env} {R : Room} {s : State} {m : MethodId} {args : Array Value} {below : List Frame} {meth : Method} {c : Code} {H : Heap} {locs : List Loc} {cells slots : Nat} {Q : State → Prop}
variable {cc : ByteArray} {pc : Nat} {ls : Array Slot} {rest : List Value} {G : gw_G} {A : Nat → Prop} {own : String} {nL : Nat} {ret : Option FieldType}
theorem gw_isubN {x y : Nat} (C : gw_C p s m args meth c G own cc nL ret) (hdg : decode cc pc = .ok (.isub, 1)) (h : y ≤ 4294967296) (kk : W p l e R s m args below meth c H locs cells slots Q (F0 m (pc + 1) ls (.int (nI (x + 4294967296 - y)) :: rest))) : W p l e R s m args below meth c H locs cells slots Q (F0 m pc ls (.int (nI y) :: .int (nI x) :: rest)) :=
  lv_isub C.1 C.2.1 hdg (by rw [nI_subN h]; exact kk)
theorem gw_if_ltN {x tgt : Nat} {off : Int} (C : gw_C p s m args meth c G own cc nL ret) (hdg : decode cc pc = .ok (.ifCond .lt off, 3)) (ht : (pc : Int) + off = (tgt : Int)) (hx : 2 ^ 31 ≤ x) (hx2 : x < 2 ^ 32) (kt : W p l e R s m args below meth c H locs cells slots Q (F0 m tgt ls rest)) : W p l e R s m args below meth c H locs cells slots Q (F0 m pc ls (.int (nI x) :: rest)) :=
  lv_if_lt C.1 C.2.1 hdg ht (fun _ => kt) (fun h => absurd (gw_neg hx hx2) h)
end GWE
set_option maxHeartbeats 4000000 in
set_option maxRecDepth 100000 in
theorem c_X4_demandsOf (l : Launch) (G : gw_G) (q : Nat → Nat) (u : pf_S) (a : Nat) (hgd : gd_ok u) (hod : od_ok u) (ha : a < 10) : gw_MI l yX4_demandsOf cX4_demandsOf 2 (some .int) 2 42 [.ref (q 0), .int (nI (a))] G (pw G q) u (fun r u1 => ∃ k : Nat, r = nI k ∧ (k = od_n u a ∧ u1 = u)) := by
  refine gw_entryI (own := RX4) (by decide) rfl (Nat.le_of_ble_eq_true rfl) ?_
  intro p e s m args below meth c A ls C Hh hl
  have hl : lv_has ls 2 [(0, .ref (q 0)), (1, .int (nI (a)))] := hl
  refine lv_aload_n C.1 C.2.1 dX4_demandsOf_0 rfl (lv_at hl 0 rfl) ?_
  refine gw_get (Cn := RX4) (T := TX4) (N := 4) C Hh 0 pw_at0 rfl uwX4 0 (by decide) rfl tw_218 rfl dX4_demandsOf_1 ?_
  refine lv_aload_n C.1 C.2.1 dX4_demandsOf_4 rfl (lv_at hl 0 rfl) ?_
  refine gw_get (Cn := RX4) (T := TX4) (N := 4) C Hh 0 pw_at0 rfl uwX4 2 (by decide) rfl tw_220 rfl dX4_demandsOf_5 ?_
  refine gw_getN (Cn := RX2) (T := TX2) (N := 7) C Hh 3 pw_at3 rfl uwX2 2 (by decide) rfl tw_156 rfl dX4_demandsOf_8 ?_
  refine lv_iload_n C.1 C.2.1 dX4_demandsOf_11 rfl (lv_at hl 1 rfl) ?_
  refine gw_ld C Hh 15 pw_at15 (by decide) dX4_demandsOf_12 (by omega) ?_
  refine gw_fromI (w := pw G q) (u := u) C Hh (gw_runVN (n := 1) (C1 := RX1) [.int (nI (u.2 15 (a)))] C Hh (c_X1_demandsOf l G q (u) (u.2 15 (a)) (by first | assumption | omega) (by exact hod.2.2.1 a ha) _) tw_255 tw_257 tw_5 tw_67 tw_258 (by decide +kernel) ⟨Nat.le_of_ble_eq_true rfl, Nat.le_of_ble_eq_true rfl⟩ 1 pw_at1 rfl rfl hl.1 (Nat.le_of_ble_eq_true rfl) dX4_demandsOf_13 ⟨Nat.zero_le _, Nat.zero_le _⟩) (fun rc_13 uc_13 H locs hp_13 Hh => ?_)
  obtain ⟨kc_13, rfl, hp_13⟩ := hp_13
  obtain ⟨hk_13, hu_13⟩ := hp_13
  rw [hu_13] at Hh
  clear hu_13
  exact gw_iret (w := pw G q) (u := u) C Hh dX4_demandsOf_16 ⟨_, rfl, by exact ⟨hk_13, rfl⟩⟩
set_option maxHeartbeats 4000000 in
set_option maxRecDepth 100000 in
theorem c_X4_wantedBy (l : Launch) (G : gw_G) (q : Nat → Nat) (u : pf_S) (a : Nat) (x : Nat) (hgd : gd_ok u) (hod : od_ok u) (ha : a < 10) (hx : x < 3) : gw_MI l yX4_wantedBy cX4_wantedBy 3 (some .int) 2 43 [.ref (q 0), .int (nI (a)), .int (nI (x))] G (pw G q) u (fun r u1 => ∃ k : Nat, r = nI k ∧ (k = od_w u a x ∧ u1 = u)) := by
  refine gw_entryI (own := RX4) (by decide) rfl (Nat.le_of_ble_eq_true rfl) ?_
  intro p e s m args below meth c A ls C Hh hl
  have hl : lv_has ls 3 [(0, .ref (q 0)), (1, .int (nI (a))), (2, .int (nI (x)))] := hl
  refine lv_aload_n C.1 C.2.1 dX4_wantedBy_0 rfl (lv_at hl 0 rfl) ?_
  refine gw_get (Cn := RX4) (T := TX4) (N := 4) C Hh 0 pw_at0 rfl uwX4 2 (by decide) rfl tw_220 rfl dX4_wantedBy_1 ?_
  refine gw_getN (Cn := RX2) (T := TX2) (N := 7) C Hh 3 pw_at3 rfl uwX2 3 (by decide) rfl tw_158 rfl dX4_wantedBy_4 ?_
  refine lv_iload_n C.1 C.2.1 dX4_wantedBy_7 rfl (lv_at hl 1 rfl) ?_
  refine gw_ld C Hh 16 pw_at16 (by decide) dX4_wantedBy_8 (by omega) ?_
  refine lv_aload_n C.1 C.2.1 dX4_wantedBy_9 rfl (lv_at hl 0 rfl) ?_
  refine gw_get (Cn := RX4) (T := TX4) (N := 4) C Hh 0 pw_at0 rfl uwX4 0 (by decide) rfl tw_218 rfl dX4_wantedBy_10 ?_
  refine lv_aload_n C.1 C.2.1 dX4_wantedBy_13 rfl (lv_at hl 0 rfl) ?_
  refine gw_get (Cn := RX4) (T := TX4) (N := 4) C Hh 0 pw_at0 rfl uwX4 2 (by decide) rfl tw_220 rfl dX4_wantedBy_14 ?_
  refine gw_getN (Cn := RX2) (T := TX2) (N := 7) C Hh 3 pw_at3 rfl uwX2 2 (by decide) rfl tw_156 rfl dX4_wantedBy_17 ?_
  refine lv_iload_n C.1 C.2.1 dX4_wantedBy_20 rfl (lv_at hl 1 rfl) ?_
  refine gw_ld C Hh 15 pw_at15 (by decide) dX4_wantedBy_21 (by omega) ?_
  refine lv_iload_n C.1 C.2.1 dX4_wantedBy_22 rfl (lv_at hl 2 rfl) ?_
  refine gw_fromI (w := pw G q) (u := u) C Hh (gw_runVN (n := 2) (C1 := RX1) [.int (nI (u.2 15 (a))), .int (nI (x))] C Hh (c_X1_numberForOne l G q (u) (u.2 15 (a)) (x) (by first | assumption | omega) (by exact hod.2.2.1 a ha) (by first | assumption | omega) _) tw_267 tw_269 tw_8 tw_67 tw_270 (by decide +kernel) ⟨Nat.le_of_ble_eq_true rfl, Nat.le_of_ble_eq_true rfl⟩ 1 pw_at1 rfl rfl hl.1 (Nat.le_of_ble_eq_true rfl) dX4_wantedBy_23 ⟨Nat.zero_le _, Nat.zero_le _⟩) (fun rc_23 uc_23 H locs hp_23 Hh => ?_)
  obtain ⟨kc_23, rfl, hp_23⟩ := hp_23
  obtain ⟨hk_23, hu_23⟩ := hp_23
  rw [hu_23] at Hh
  clear hu_23
  refine gw_imul C dX4_wantedBy_26 ?_
  exact gw_iret (w := pw G q) (u := u) C Hh dX4_wantedBy_27 ⟨_, rfl, by exact ⟨by rw [hk_23]; rfl, rfl⟩⟩
set_option maxHeartbeats 4000000 in
set_option maxRecDepth 100000 in
theorem c_X4_usableFor (l : Launch) (G : gw_G) (q : Nat → Nat) (u : pf_S) (g : Nat) (t : Nat) (hgd : gd_ok u) (har : ar_ok u) (hg : g < 6) (ht : t < 100) : gw_MI l yX4_usableFor cX4_usableFor 7 (some .int) 2 44 [.ref (q 0), .int (nI (g)), .int (nI (t))] G (pw G q) u (fun r u1 => ∃ k : Nat, r = nI k ∧ (k = us_f u g t ∧ u1 = u)) := by
  refine gw_entryI (own := RX4) (by decide) rfl (Nat.le_of_ble_eq_true rfl) ?_
  intro p e s m args below meth c A ls C Hh hl
  have hl : lv_has ls 7 [(0, .ref (q 0)), (1, .int (nI (g))), (2, .int (nI (t)))] := hl
  refine lv_iconst (v := nI 0) C.1 C.2.1 dX4_usableFor_0 (by decide +kernel) ?_
  refine lv_istore_n (lv' := [(3, .int (nI (0))), (0, .ref (q 0)), (1, .int (nI (g))), (2, .int (nI (t)))]) C.1 C.2.1 dX4_usableFor_1 rfl hl (by decide) rfl (fun ls hl => ?_)
  refine lv_iconst (v := nI 0) C.1 C.2.1 dX4_usableFor_2 (by decide +kernel) ?_
  refine lv_istore (lv' := [(4, .int (nI (0))), (3, .int (nI (0))), (0, .ref (q 0)), (1, .int (nI (g))), (2, .int (nI (t)))]) C.1 C.2.1 dX4_usableFor_3 hl (by decide) rfl (fun ls hl => ?_)
  have loop_5 : ∀ (fu : Nat) (i : Nat) (z : Nat) (H : Heap) (locs : List Loc) (ls : Array Slot), (i ≤ u.1 0) → (z = us_m u g t i) → u.1 0 - i < fu → gw_H G A s (pw G q u) H locs → lv_has ls 7 [(0, .ref (q 0)), (1, .int (nI (g))), (2, .int (nI (t))), (3, .int (nI (z))), (4, .int (nI (i)))] → W p l e (gw_rm 2 44) s m args below meth c H locs 0 0 (MQ below (va_Qi (fun r u1 => ∃ k : Nat, r = nI k ∧ (k = us_f u g t ∧ u1 = u)) (gw_at G A (pw G q)) A) args s 0 0 A) (F0 m 5 ls []) := by
    intro fu
    induction fu with
    | zero =>
      intro i z  H locs ls hi hz hmf
      exact absurd hmf (Nat.not_lt_zero _)
    | succ fu ih_5 =>
      intro i z  H locs ls hi hz hmf Hh hl
      have h0 := har.1
      refine lv_iload C.1 C.2.1 dX4_usableFor_5 (lv_at hl 4 rfl) ?_
      refine lv_aload_n C.1 C.2.1 dX4_usableFor_7 rfl (lv_at hl 0 rfl) ?_
      refine gw_get (Cn := RX4) (T := TX4) (N := 4) C Hh 0 pw_at0 rfl uwX4 1 (by decide) rfl tw_219 rfl dX4_usableFor_8 ?_
      refine gw_getN (Cn := RX0) (T := TX0) (N := 5) C Hh 2 pw_at2 rfl uwX0 0 (by decide) rfl tw_125 rfl dX4_usableFor_11 ?_
      refine gw_icmp_ge (tgt := 89) C dX4_usableFor_14 (by decide) (by omega) (by omega) (fun hc_14 => ?_) (fun hc_14 => ?_)
      · skip
        refine lv_iload_n C.1 C.2.1 dX4_usableFor_89 rfl (lv_at hl 3 rfl) ?_
        exact gw_iret (w := pw G q) (u := u) C Hh dX4_usableFor_90 ⟨_, rfl, by exact ⟨by rw [hz, show i = u.1 0 by omega]; rfl, rfl⟩⟩
      · skip
        have join_83 : ∀ (z2 : Nat) (H : Heap) (locs : List Loc) (ls : Array Slot), (z2 = us_m u g t (i + 1)) → gw_H G A s (pw G q u) H locs → lv_has ls 7 [(0, .ref (q 0)), (1, .int (nI (g))), (2, .int (nI (t))), (3, .int (nI (z2))), (4, .int (nI (i)))] → W p l e (gw_rm 2 44) s m args below meth c H locs 0 0 (MQ below (va_Qi (fun r u1 => ∃ k : Nat, r = nI k ∧ (k = us_f u g t ∧ u1 = u)) (gw_at G A (pw G q)) A) args s 0 0 A) (F0 m 83 ls []) := by
          intro z2  H locs ls hz2 Hh hl
          refine lv_iinc (v := nI (i + 1)) (lv' := [(4, .int (nI (i + 1))), (0, .ref (q 0)), (1, .int (nI (g))), (2, .int (nI (t))), (3, .int (nI (z2)))]) C.1 C.2.1 dX4_usableFor_83 hl (k := 4) rfl (nI_add _ 1) (by decide) rfl (fun ls hl => ?_)
          refine lv_goto (tgt := 5) C.1 C.2.1 dX4_usableFor_86 (by decide) ?_
          exact ih_5 (i + 1) (z2)  _ _ _ (by first | assumption | omega) (by exact hz2) (by omega) Hh (lv_sub hl [1, 2, 3, 4, 0] rfl)
        have hgi := har.2.2.1 i (by omega)
        have hti := har.2.1 i (by omega)
        have hli := hgd.2.2.2.2 (u.2 11 i) hgi
        have h6 := hgd.2.1 (u.2 11 i * 6 + g) (by omega)
        refine lv_aload_n C.1 C.2.1 dX4_usableFor_17 rfl (lv_at hl 0 rfl) ?_
        refine gw_get (Cn := RX4) (T := TX4) (N := 4) C Hh 0 pw_at0 rfl uwX4 1 (by decide) rfl tw_219 rfl dX4_usableFor_18 ?_
        refine gw_getN (Cn := RX0) (T := TX0) (N := 5) C Hh 2 pw_at2 rfl uwX0 2 (by decide) rfl tw_129 rfl dX4_usableFor_21 ?_
        refine lv_iload C.1 C.2.1 dX4_usableFor_24 (lv_at hl 4 rfl) ?_
        refine gw_ld C Hh 11 pw_at11 (by decide) dX4_usableFor_26 (by omega) ?_
        refine lv_istore (lv' := [(5, .int (nI (u.2 11 (i)))), (0, .ref (q 0)), (1, .int (nI (g))), (2, .int (nI (t))), (3, .int (nI (z))), (4, .int (nI (i)))]) C.1 C.2.1 dX4_usableFor_27 hl (by decide) rfl (fun ls hl => ?_)
        refine lv_iload_n C.1 C.2.1 dX4_usableFor_29 rfl (lv_at hl 3 rfl) ?_
        refine lv_aload_n C.1 C.2.1 dX4_usableFor_30 rfl (lv_at hl 1 rfl) ?_
        refine gw_get (Cn := RX4) (T := TX4) (N := 4) C Hh 0 pw_at0 rfl uwX4 1 (by decide) rfl tw_219 rfl dX4_usableFor_31 ?_
        refine gw_getN (Cn := RX0) (T := TX0) (N := 5) C Hh 2 pw_at2 rfl uwX0 1 (by decide) rfl tw_127 rfl dX4_usableFor_34 ?_
        refine lv_iload C.1 C.2.1 dX4_usableFor_37 (lv_at hl 5 rfl) ?_
        refine gw_ld C Hh 10 pw_at10 (by decide) dX4_usableFor_39 (by omega) ?_
        rcases Nat.lt_or_ge t (u.2 10 i) with hage | hage
        · refine gw_isubN C dX4_usableFor_40 (by omega) ?_
          refine lv_istore (lv' := [(6, .int (nI (t + 4294967296 - u.2 10 i))), (5, .int (nI (u.2 11 (i)))), (0, .ref (q 0)), (1, .int (nI (g))), (2, .int (nI (t))), (3, .int (nI (z))), (4, .int (nI (i)))]) C.1 C.2.1 dX4_usableFor_41 hl (by decide) rfl (fun ls hl => ?_)
          refine lv_aload_n C.1 C.2.1 dX4_usableFor_43 rfl (lv_at hl 2 rfl) ?_
          refine gw_get (Cn := RX4) (T := TX4) (N := 4) C Hh 0 pw_at0 rfl uwX4 0 (by decide) rfl tw_218 rfl dX4_usableFor_44 ?_
          refine lv_iload C.1 C.2.1 dX4_usableFor_47 (lv_at hl 1 rfl) ?_
          refine lv_iload_n C.1 C.2.1 dX4_usableFor_49 rfl (lv_at hl 3 rfl) ?_
          refine gw_fromI (w := pw G q) (u := u) C Hh (gw_runVN (n := 2) (C1 := RX1) [.int (nI (u.2 11 (i))), .int (nI (g))] C Hh (c_X1_meets l G q (u) (u.2 11 (i)) (g) (by first | assumption | omega) (by first | assumption | omega) (by first | assumption | omega) _) tw_437 tw_439 tw_19 tw_67 tw_440 (by decide +kernel) ⟨Nat.le_of_ble_eq_true rfl, Nat.le_of_ble_eq_true rfl⟩ 1 pw_at1 rfl rfl hl.1 (Nat.le_of_ble_eq_true rfl) dX4_usableFor_50 ⟨Nat.zero_le _, Nat.zero_le _⟩) (fun rc_50 uc_50 H locs hp_50 Hh => ?_)
          obtain ⟨kc_50, rfl, hp_50⟩ := hp_50
          obtain ⟨hk_50, hu_50⟩ := hp_50
          rw [hu_50] at Hh
          clear hu_50
          refine gw_if_eq (tgt := 83) C dX4_usableFor_53 (by decide) (by split at hk_50 <;> omega) (fun hc_53 => ?_) (fun hc_53 => ?_)
          · skip
            exact join_83 (z)  _ _ _ (by rw [hz, us_m_succ, if_neg (by unfold us_c; rw [decide_eq_true_eq]; split at hk_50 <;> omega)]) Hh (lv_sub hl [2, 3, 4, 5, 6] rfl)
          · skip
            refine lv_iload C.1 C.2.1 dX4_usableFor_56 (lv_at hl 0 rfl) ?_
            refine gw_if_ltN (tgt := 83) C dX4_usableFor_58 (by decide) (by omega) (by omega) ?_
            exact join_83 (z)  _ _ _ (by rw [hz, us_m_succ, if_neg (by unfold us_c; rw [decide_eq_true_eq]; omega)]) Hh (lv_sub hl [2, 3, 4, 5, 6] rfl)
        · refine gw_isub C dX4_usableFor_40 hage ?_
          refine lv_istore (lv' := [(6, .int (nI (t - u.2 10 i))), (5, .int (nI (u.2 11 (i)))), (0, .ref (q 0)), (1, .int (nI (g))), (2, .int (nI (t))), (3, .int (nI (z))), (4, .int (nI (i)))]) C.1 C.2.1 dX4_usableFor_41 hl (by decide) rfl (fun ls hl => ?_)
          refine lv_aload_n C.1 C.2.1 dX4_usableFor_43 rfl (lv_at hl 2 rfl) ?_
          refine gw_get (Cn := RX4) (T := TX4) (N := 4) C Hh 0 pw_at0 rfl uwX4 0 (by decide) rfl tw_218 rfl dX4_usableFor_44 ?_
          refine lv_iload C.1 C.2.1 dX4_usableFor_47 (lv_at hl 1 rfl) ?_
          refine lv_iload_n C.1 C.2.1 dX4_usableFor_49 rfl (lv_at hl 3 rfl) ?_
          refine gw_fromI (w := pw G q) (u := u) C Hh (gw_runVN (n := 2) (C1 := RX1) [.int (nI (u.2 11 (i))), .int (nI (g))] C Hh (c_X1_meets l G q (u) (u.2 11 (i)) (g) (by first | assumption | omega) (by first | assumption | omega) (by first | assumption | omega) _) tw_437 tw_439 tw_19 tw_67 tw_440 (by decide +kernel) ⟨Nat.le_of_ble_eq_true rfl, Nat.le_of_ble_eq_true rfl⟩ 1 pw_at1 rfl rfl hl.1 (Nat.le_of_ble_eq_true rfl) dX4_usableFor_50 ⟨Nat.zero_le _, Nat.zero_le _⟩) (fun rc_50 uc_50 H locs hp_50 Hh => ?_)
          obtain ⟨kc_50, rfl, hp_50⟩ := hp_50
          obtain ⟨hk_50, hu_50⟩ := hp_50
          rw [hu_50] at Hh
          clear hu_50
          refine gw_if_eq (tgt := 83) C dX4_usableFor_53 (by decide) (by split at hk_50 <;> omega) (fun hc_53 => ?_) (fun hc_53 => ?_)
          · skip
            exact join_83 (z)  _ _ _ (by rw [hz, us_m_succ, if_neg (by unfold us_c; rw [decide_eq_true_eq]; split at hk_50 <;> omega)]) Hh (lv_sub hl [2, 3, 4, 5, 6] rfl)
          · skip
            refine lv_iload C.1 C.2.1 dX4_usableFor_56 (lv_at hl 0 rfl) ?_
            refine gw_if_lt (tgt := 83) C dX4_usableFor_58 (by decide) (by omega) ?_
            refine lv_iload C.1 C.2.1 dX4_usableFor_61 (lv_at hl 0 rfl) ?_
            refine lv_aload_n C.1 C.2.1 dX4_usableFor_63 rfl (lv_at hl 2 rfl) ?_
            refine gw_get (Cn := RX4) (T := TX4) (N := 4) C Hh 0 pw_at0 rfl uwX4 0 (by decide) rfl tw_218 rfl dX4_usableFor_64 ?_
            refine gw_getN (Cn := RX1) (T := TX1) (N := 5) C Hh 1 pw_at1 rfl uwX1 0 (by decide) rfl tw_98 rfl dX4_usableFor_67 ?_
            refine lv_iload C.1 C.2.1 dX4_usableFor_70 (lv_at hl 1 rfl) ?_
            refine gw_ld C Hh 5 pw_at5 (by decide) dX4_usableFor_72 (by omega) ?_
            refine gw_icmp_gt (tgt := 83) C dX4_usableFor_73 (by decide) (by omega) (by omega) (fun hc_73 => ?_) (fun hc_73 => ?_)
            · skip
              exact join_83 (z)  _ _ _ (by rw [hz, us_m_succ, if_neg (by unfold us_c; rw [decide_eq_true_eq]; omega)]) Hh (lv_sub hl [2, 3, 4, 5, 6] rfl)
            · skip
              refine lv_iload_n C.1 C.2.1 dX4_usableFor_76 rfl (lv_at hl 5 rfl) ?_
              refine lv_iconst (v := nI 1) C.1 C.2.1 dX4_usableFor_77 (by decide +kernel) ?_
              refine lv_iload C.1 C.2.1 dX4_usableFor_78 (lv_at hl 6 rfl) ?_
              refine gw_ishl C dX4_usableFor_80 (by omega) ?_
              refine gw_ior C dX4_usableFor_81 ?_
              refine lv_istore_n (lv' := [(3, .int (nI (z ||| (1 <<< i)))), (6, .int (nI (t - u.2 10 i))), (5, .int (nI (u.2 11 (i)))), (0, .ref (q 0)), (1, .int (nI (g))), (2, .int (nI (t))), (4, .int (nI (i)))]) C.1 C.2.1 dX4_usableFor_82 rfl hl (by decide) rfl (fun ls hl => ?_)
              exact join_83 (z ||| 1 <<< i)  _ _ _ (by rw [hz, us_m_succ, if_pos (by unfold us_c; rw [decide_eq_true_eq]; split at hk_50 <;> omega)]) Hh (lv_sub hl [3, 4, 5, 0, 6] rfl)
  exact loop_5 _ (0) (0)  _ _ _ (by first | assumption | omega) (by rfl) (Nat.lt_succ_self _) Hh (lv_sub hl [2, 3, 4, 1, 0] rfl)
end
