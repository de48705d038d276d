/-! methods that throw: a return makes nothing, a throw makes one cell of six slots -/
def gx_Q (Qc : Array Value → State → Outcome → State → Prop) (XC : String → State → State → Prop) (free : Addr → Prop) : Array Value → State → Outcome → State → Prop := fun a st o t =>
  (Qc a st o t ∧ ∃ L, FrameEnd st o t L 0 0 ∧ ∀ q ∈ L, free q.base) ∨ ∃ q, o = .threw q ∧ vx_T XC st q t 1 6 free
def gx_Met (l : Launch) (y : MethodName) (ws : List Cond) (rm : Room) (Pc : Array Value → State → Prop) (Qc : Array Value → State → Outcome → State → Prop) (XC : String → State → State → Prop) (free : Addr → Prop) : Prop :=
  MetFree l y (headSpec ws rm) Pc (fun _ _ _ _ _ => True) (gx_Q Qc XC free)
section GXP
variable {l : Launch} {R : Room} {p : Program} {e : Env} {below : List Frame} {s : State} {sargs : Array Value} {y : MethodName} {len W9 : Nat}
theorem gx_back {ws : List Cond} {rm : Room} {Pc : Array Value → State → Prop} {Qc : Array Value → State → Outcome → State → Prop} {XC : String → State → State → Prop} {free : Addr → Prop} {bytes : ByteArray} {maxL : Nat} {ret : Option FieldType}
    (hM : gx_Met l y ws rm Pc Qc XC free) (hblind : FrameBlind Pc) (hrc : rm.cells = 1) (hrs : rm.slots = 6)
    (hframes : rm.frames + 1 ≤ R.frames) (hlocals : W9 + (maxL + 11) + rm.locals ≤ R.locals)
    (hws : ∀ w ∈ ws, ∀ a' U, s.WarmedH U.vm → w.before a' U = true) (hcode : Cond.code y bytes maxL ret ∈ ws) (hinit : ∀ a' U, s.WarmedH U.vm → (Cond.initialized y.cls).before a' U = true) :
    vx_Back l R p e below s sargs y len W9 (PreOf R 1 6 Pc) (PostOf Qc 0 0 free) (vx_Post XC 1 6 free) := by
  intro m meth c A g ig mk a X hg hsize hdg hW hn hp
  have h1 : (headSpec ws rm).pre.before a A.U = true := atoms_intro fun w hw => hws w hw _ _ X.warmed
  have h2 : (Cond.code y bytes maxL ret).before a A.U = true := hws _ hcode _ _ X.warmed
  have h3 : (Cond.initialized y.cls).before a A.U = true := hinit _ _ X.warmed
  have h4 : A.cells + (headSpec ws rm).room.cells ≤ R.cells := by rw [show (headSpec ws rm).room.cells = 1 from hrc]; exact hp.1
  have h5 : A.slots + (headSpec ws rm).room.slots ≤ R.slots := by rw [show (headSpec ws rm).room.slots = 6 from hrs]; exact hp.2.1
  have hPc : Pc a (A.U.calling g mk a) := hblind _ _ _ _ hp.2.2
  obtain ⟨U, Ls, c0, s0⟩ := A
  dsimp only [Pt.U, Pt.locs, Pt.cells, Pt.slots] at h1 h2 h3 h4 h5 X hn hPc ⊢
  obtain ⟨methY, cY, hmY, hcY, -, hlY, -, -, -, -⟩ := Cond.code_spec hn h2
  obtain ⟨kY, hkY, -⟩ := className_of_methodNamed hn
  have hinitY : kY.init = .initialized := Cond.initialized_spec (findClass_of_methodNamed hn) hkY h3
  have h : At U g.method c below := by rw [hg]; exact X.here
  have hlocals9 : W9 + (maxL + 11) + (headSpec ws rm).room.locals ≤ R.locals := hlocals
  have happ : (headSpec ws rm).appliesLoose y e.platform (U.calling g mk a) = true :=
    Spec.appliesLoose_calling (g := g) h hdg hn hkY hinitY
      (X.room_calling (g := g) (R' := (headSpec ws rm).room) hsize hmY hcY hframes (by rw [hlY]; omega) h4 h5) h1
  obtain ⟨mid, hmid⟩ := h.above
  have hfr : (U.setTop g).frames = (.java g :: mid) ++ below := by rw [State.frames_setTop' g h.top, hmid]; rfl
  obtain ⟨o, s₂, hsteps, -, hend, hq⟩ := Steps.callFree hM p X.admits X.cas X.clock (acts := []) hfr happ hPc trivial
  have hq' : gx_Q Qc XC free a (U.calling g mk a) o s₂ := hq
  rw [State.frames_setTop' g h.top] at hend
  obtain ⟨g₀, hg0⟩ := Option.isSome_iff_exists.mp h.top
  obtain ⟨r, hr⟩ := State.topJava?_eq_some.mp hg0
  have hr' : (({ U with heap := s₂.heap, slotsUsed := s₂.slotsUsed } : State).setVm s₂.vm).frames = .java g₀ :: r := hr
  rcases hq' with ⟨hqc, L, hfe, hL⟩ | ⟨q, rfl, E, ce, L, hx, hce, hcv, hcl, hW₂, hsm, hL⟩
  · obtain ⟨⟨v, rfl⟩, hW₂, e2, q2, q3, q4, q5, q6⟩ := id hfe
    have e3 : s₂ = ({ (U.calling g mk a).setFrames s₂.frames with heap := s₂.heap, slotsUsed := s₂.slotsUsed } : State).setVm s₂.vm := by
      have : s₂ = ({ s₂ with vm := (U.calling g mk a).vm } : State).setVm s₂.vm := rfl
      rw [e2] at this
      exact this
    obtain ⟨c₂, i₂, len₂, hc₂, hd₂, hf₂⟩ := hend
    have hW' : U.WarmedH s₂.vm := hW₂
    have hcc : c₂ = c := by
      have h1 : s₂.code? g.method = U.code? g.method := by
        rw [State.code?_eq, State.code?_eq, hW'.alike.method?]
      exact Option.some.inj (hc₂.symm.trans (h1.trans h.code))
    subst hcc
    have hlen : len₂ = len := by rw [hdg] at hd₂; cases hd₂; rfl
    subst hlen
    have hs₂ : s₂ = (({ U with heap := s₂.heap, slotsUsed := s₂.slotsUsed } : State).setVm s₂.vm).setTop { g with pc := g.pc + len₂, stack := v.toList ++ g.stack } := by
      refine e3.trans ?_
      rw [hf₂, State.calling_eq h.top, State.setFrames_setFrames, State.setTop_of_frames _ hr', hr]
      rfl
    have hsame : U.sameButNew ({ U with heap := s₂.heap, slotsUsed := s₂.slotsUsed } : State) L 0 0 := by
      refine ⟨?_, q2, q3, q4, q5, q6⟩
      obtain ⟨t, ht, -⟩ := State.frames_cons hr
      show ({ U with heap := s₂.heap, slotsUsed := s₂.slotsUsed } : State) = { U.setFrames U.frames with heap := s₂.heap, slotsUsed := s₂.slotsUsed }
      rw [State.setFrames_self ht]
    subst hg
    refine Or.inl ⟨v, ⟨(({ U with heap := s₂.heap, slotsUsed := s₂.slotsUsed } : State).setVm s₂.vm), Ls ++ L, c0 + 0, s0 + 0⟩,
      ⟨X.admits, X.cas, X.clock, X.frames, X.room, X.hears, X.method, X.code, (X.here.setHeapUsed s₂.heap s₂.slotsUsed).setVm hW'.alike, X.tail, State.WarmedH.trans X.warmed hW', X.limits, X.bytes, X.same.trans (hsame.setVm s.vm)⟩,
      ⟨g, mk, s₂, L, rfl, rfl, hqc, rfl, hL, rfl, rfl⟩, ?_⟩
    show Steps p.tables e below _ ((({ U with heap := s₂.heap, slotsUsed := s₂.slotsUsed } : State).setVm s₂.vm).setTop { g with pc := g.pc + len₂, stack := v.toList ++ g.stack })
    rw [← hs₂]
    exact hsteps
  · obtain ⟨e2, q2, q3, q4, q5, q6⟩ := id hsm
    have e3 : s₂ = ({ (U.calling g mk a).setFrames s₂.frames with heap := s₂.heap, slotsUsed := s₂.slotsUsed } : State).setVm s₂.vm := by
      have : s₂ = ({ s₂ with vm := (U.calling g mk a).vm } : State).setVm s₂.vm := rfl
      rw [e2] at this
      exact this
    have hf₂ : s₂.frames = .throwing q :: .java g :: U.frames.tail := hend
    have hW' : U.WarmedH s₂.vm := hW₂
    have hs₂ : s₂ = ((({ U with heap := s₂.heap, slotsUsed := s₂.slotsUsed } : State).setVm s₂.vm).setTop g).pushFrame (.throwing q) := by
      refine e3.trans ?_
      rw [hf₂, State.calling_eq h.top, State.setFrames_setFrames, State.pushFrame, State.frames_setTop _ hr', State.setTop_of_frames _ hr', State.setFrames_setFrames, hr]
      rfl
    have hsame : U.sameButNew ({ U with heap := s₂.heap, slotsUsed := s₂.slotsUsed } : State) L 1 6 := by
      refine ⟨?_, q2, q3, q4, q5, q6⟩
      obtain ⟨t, ht, -⟩ := State.frames_cons hr
      show ({ U with heap := s₂.heap, slotsUsed := s₂.slotsUsed } : State) = { U.setFrames U.frames with heap := s₂.heap, slotsUsed := s₂.slotsUsed }
      rw [State.setFrames_self ht]
    subst hg
    refine Or.inr ⟨q, ⟨(({ U with heap := s₂.heap, slotsUsed := s₂.slotsUsed } : State).setVm s₂.vm), Ls ++ L, c0 + 1, s0 + 6⟩,
      ⟨X.admits, X.cas, X.clock, X.frames, X.room, X.hears, X.method, X.code, (X.here.setHeapUsed s₂.heap s₂.slotsUsed).setVm hW'.alike, X.tail, State.WarmedH.trans X.warmed hW', X.limits, X.bytes, X.same.trans (hsame.setVm s.vm)⟩,
      ⟨g, mk, s₂, L, E, ce, rfl, rfl, hx, hce, hcv, hcl, rfl, hL, rfl, rfl⟩, ?_⟩
    show Steps p.tables e below _ (((({ U with heap := s₂.heap, slotsUsed := s₂.slotsUsed } : State).setVm s₂.vm).setTop g).pushFrame (.throwing q))
    rw [← hs₂]
    exact hsteps

end GXP
def gx_Run (p : Program) (l : Launch) (e : Env) (R : Room) (s : State) (m : MethodId) (args : Array Value) (below : List Frame) (meth : Method) (c : Code) (H : Heap) (locs : List Loc) (cells slots : Nat) (g : JFrame) (rest : List Value) (Qa : State → Outcome → State → Prop) (XC : String → State → State → Prop) (free : Addr → Prop) : Prop :=
  ∀ T : State, T.heap = H → Stand p l e R s m args below meth c T locs cells slots →
    (∃ (v : Option Value) (st₀ t T' : State) (L : List Loc), st₀.heap = H ∧ Stand p l e R s m args below meth c T' (locs ++ L) cells slots ∧ (∀ q ∈ L, free q.base) ∧ T'.heap = t.heap ∧ T'.vm = t.vm ∧ Qa st₀ (.returned v) t ∧
      Goes p e below T g T' { g with pc := g.pc + 3, stack := v.toList ++ rest }) ∨
    (∃ (q : Addr) (st₀ t T' : State) (L : List Loc) (E : String) (ce : Cell), st₀.heap = H ∧ Stand p l e R s m args below meth c T' (locs ++ L) (cells + 1) (slots + 6) ∧ (∀ z ∈ L, free z.base) ∧ T'.heap = t.heap ∧ T'.vm = t.vm ∧ XC E st₀ t ∧ t.heap[q]? = some ce ∧ ce.vm = .none ∧ s.vm.findClass E = some ce.cls ∧
      Steps p.tables e below (T.setTop g) ((T'.setTop { g with stack := rest }).pushFrame (.throwing q)))
section GXR
variable {p : Program} {l : Launch} {e : Env} {R : Room} {s : State} {m : MethodId} {args : Array Value} {below : List Frame} {meth : Method} {c : Code} {H : Heap} {locs : List Loc} {cells slots : Nat}
variable {y : MethodName} {bytes cc : ByteArray} {maxL nL mc ms n index : Nat} {ret : Option FieldType} {ws : List Cond} {rm : Room} {Pc : Array Value → State → Prop} {Qc : Array Value → State → Outcome → State → Prop} {XC : String → State → State → Prop} {free : Addr → Prop} {Ts : List Cond} {own C : String} {b : Addr} {As rest : List Value} {g : JFrame}
theorem gx_callBack (cb : CallB R s args own index y bytes maxL ret ws rm 1 6 n) (hM : gx_Met l y ws rm Pc Qc XC free) (hbl : FrameBlind Pc) : vx_Back l R p e below s args y 3 8 (PreOf R 1 6 Pc) (PostOf Qc 0 0 free) (vx_Post XC 1 6 free) := by
  obtain ⟨hrc, hrs, hfr, hlo, hws, hcw, -, hini, -⟩ := cb
  exact gx_back (bytes := bytes) (maxL := maxL) (ret := ret) hM hbl hrc hrs hfr hlo hws hcw (fun a' U hW => word_at hW (Or.inl (by first | rfl | simp [Cond.onTables, Cond.keeps, Cond.steady])) hini)
theorem gx_runV (S : CallFix p m c cc nL s args Ts own) (hM : gx_Met l y ws rm Pc Qc XC free) (cw : CallW R s args own C index y bytes maxL ret ws rm 1 6 n) (hp : PreV s H C b Pc As)
    (hg : g.method = m) (hn : As.length = n) (hsize : g.locals.size = nL) (hstack : g.stack = As.reverse ++ .ref b :: rest) (hW : 2 * g.monitorRoom + (rest.map fun v => v.category).sum ≤ 8) (hdg : decode cc g.pc = .ok (.invokevirtual index, 3)) (hf : cells + 1 ≤ R.cells ∧ slots + 6 ≤ R.slots) :
    gx_Run p l e R s m args below meth c H locs cells slots g rest (Qc (Value.ref b :: As).toArray) XC free := by
  have hK : vx_Back l R p e below s args y 3 8 (PreOf R 1 6 Pc) (PostOf Qc 0 0 free) (vx_Post XC 1 6 free) := gx_callBack cw.1 hM hp.1
  obtain ⟨⟨-, -, -, -, -, -, hcode, -, hy, hlen, hl⟩, hin, hse⟩ := cw
  obtain ⟨hx, hb, hml, ho, -⟩ := S
  obtain ⟨-, ⟨cellB, hcB, hoB, hclB⟩, hPc⟩ := hp
  intro T hT X
  rcases vx_callV X hx (C := C) (bytes := bytes) (maxL := maxL) (ret := ret) ho hl hin hse hcode hy hK (by rw [hT]; exact hcB) hoB hclB hg (hsize.trans hml.symm) (argsL := As) (rest := rest) (fun sig h => hn.trans (hlen sig h)) hstack hW (by rw [hb]; exact hdg)
    (fun vm₁ hW₁ => ⟨hf.1, hf.2, hPc (T.setVm vm₁) hT hW₁⟩) with ⟨v, vm₁, ⟨U', l2, c2, s2⟩, hW₁, X', ⟨g', mk, t, L, e1, e2, hq, h1, hL, h2, h3⟩, st⟩ | ⟨q, vm₁, ⟨U', l2, c2, s2⟩, hW₁, X', ⟨g', mk, t, L, E, ce, e1, e2, hq, hce, hcv, hcl, h1, hL, h2, h3⟩, st⟩
  · dsimp only [Pt.U, Pt.locs, Pt.cells, Pt.slots] at X' e1 e2 h1 h2 h3 st
    subst h1; subst h2; subst h3
    exact Or.inl ⟨v, (T.setVm vm₁).calling g' mk (Value.ref b :: As).toArray, t, U', L, hT, X', hL, e1, e2, hq, st⟩
  · dsimp only [Pt.U, Pt.locs, Pt.cells, Pt.slots] at X' e1 e2 h1 h2 h3 st hcl
    subst h1; subst h2; subst h3
    exact Or.inr ⟨q, (T.setVm vm₁).calling g' mk (Value.ref b :: As).toArray, t, U', L, E, ce, hT, X', hL, e1, e2, hq, hce, hcv, vx_cls hW₁ hcl, st⟩

theorem gx_runS (S : CallFix p m c cc nL s args Ts own) (hM : gx_Met l y ws rm Pc Qc XC free) (cw : CallB R s args own index y bytes maxL ret ws rm 1 6 n ∧ (Cond.static y).before args s = true) (hp : PreS s H Pc As)
    (hg : g.method = m) (hn : As.length = n) (hsize : g.locals.size = nL) (hstack : g.stack = As.reverse ++ rest) (hW : 2 * g.monitorRoom + (rest.map fun v => v.category).sum ≤ 8) (hdg : decode cc g.pc = .ok (.invokestatic index, 3)) (hf : cells + 1 ≤ R.cells ∧ slots + 6 ≤ R.slots) :
    gx_Run p l e R s m args below meth c H locs cells slots g rest (Qc As.toArray) XC free := by
  have hK : vx_Back l R p e below s args y 3 8 (PreOf R 1 6 Pc) (PostOf Qc 0 0 free) (vx_Post XC 1 6 free) := gx_callBack cw.1 hM hp.1
  obtain ⟨⟨-, -, -, -, -, -, hcode, hini, hy, hlen, hl⟩, hstt⟩ := cw
  obtain ⟨hx, hb, hml, ho, -⟩ := S
  intro T hT X
  rcases vx_callS X hx (bytes := bytes) (maxL := maxL) (ret := ret) ho hl hstt hini hcode hy hK hg (hsize.trans hml.symm) (argsL := As) (rest := rest) (fun sig h => hn.trans (hlen sig h)) hstack hW (by rw [hb]; exact hdg)
    (fun vm₁ hW₁ => ⟨hf.1, hf.2, hp.2 (T.setVm vm₁) hT hW₁⟩) with ⟨v, vm₁, ⟨U', l2, c2, s2⟩, hW₁, X', ⟨g', mk, t, L, e1, e2, hq, h1, hL, h2, h3⟩, st⟩ | ⟨q, vm₁, ⟨U', l2, c2, s2⟩, hW₁, X', ⟨g', mk, t, L, E, ce, e1, e2, hq, hce, hcv, hcl, h1, hL, h2, h3⟩, st⟩
  · dsimp only [Pt.U, Pt.locs, Pt.cells, Pt.slots] at X' e1 e2 h1 h2 h3 st
    subst h1; subst h2; subst h3
    exact Or.inl ⟨v, (T.setVm vm₁).calling g' mk As.toArray, t, U', L, hT, X', hL, e1, e2, hq, st⟩
  · dsimp only [Pt.U, Pt.locs, Pt.cells, Pt.slots] at X' e1 e2 h1 h2 h3 st hcl
    subst h1; subst h2; subst h3
    exact Or.inr ⟨q, (T.setVm vm₁).calling g' mk As.toArray, t, U', L, E, ce, hT, X', hL, e1, e2, hq, hce, hcv, vx_cls hW₁ hcl, st⟩

end GXR
section GXC
variable {p : Program} {l : Launch} {e : Env} {R : Room} {s : State} {m : MethodId} {args : Array Value} {below : List Frame} {meth : Method} {c : Code} {H : Heap} {locs : List Loc} {cells slots : Nat} {Q : State → Prop}
variable {free : Addr → Prop} {A0 A1 : Nat → Prop} {H0 : Heap} {a : Array Value} {pc : Nat} {ls : Array Slot} {st0 rest : List Value}
theorem gx_calli {S SX : Type} {post : Int32 → S → Prop} {px : SX → Prop} {B : S → State → Prop} {BX : String → SX → State → Prop} {AX : Nat → Prop} (hr : gx_Run p l e R s m args below meth c H locs cells slots (F0 m pc ls st0) rest (va_Qi post B A1 a) (vx_X px BX AX) free) (hS : va_S A0 H0 H locs) (hA : ∀ q, q < H.size → A1 q → A0 q) (hf : ∀ q, free q → A0 q) (hAX : ∀ q, q < H.size → AX q → A0 q)
    (kx : ∀ (E : String) (ce : Cell) (q9 : Addr) (u : SX) (t : State) (H1 : Heap) (locs1 : List Loc), t.heap = H1 → s.vm.Alike t.vm → px u → BX E u t → H.size ≤ H1.size → (∀ q : Nat, q < H.size → ¬ AX q → H1[q]? = H[q]?) → va_S A0 H0 H1 locs1 → H1[q9]? = some ce → ce.vm = .none → s.vm.findClass E = some ce.cls → vx_W p l e R s m args below meth c H1 locs1 (cells + 1) (slots + 6) Q (F0 m pc ls rest) q9)
    (kk : ∀ (r : Int32) (u : S) (t : State) (H1 : Heap) (locs1 : List Loc), t.heap = H1 → s.vm.Alike t.vm → post r u → B u t → H.size ≤ H1.size → (∀ q : Nat, q < H.size → ¬ A1 q → H1[q]? = H[q]?) → va_S A0 H0 H1 locs1 → W p l e R s m args below meth c H1 locs1 cells slots Q (F0 m (pc + 3) ls (.int r :: rest))) : W p l e R s m args below meth c H locs cells slots Q (F0 m pc ls st0) := by
  intro T hT X
  rcases hr T hT X with ⟨v, st₀, t, T', L, h0, X', hL, e1, e2, ⟨⟨r, u, hv, hp, hb⟩, hF⟩, st⟩ | ⟨q, st₀, t, T', L, E, ce, h0, X', hL, e1, e2, ⟨u, hp, hb, hF⟩, hce, hcv, hcl, st⟩
  · cases hv
    obtain ⟨k1, k2, k3⟩ := vx_keep h0 e1 hS hA hf hL hF
    obtain ⟨t2, a1, b1⟩ := kk r u t T'.heap (locs ++ L) e1.symm (by rw [← e2]; exact X'.warmed.alike) hp hb k1 k2 k3 T' rfl X'
    exact ⟨t2, st t2 a1, b1⟩
  · obtain ⟨k1, k2, k3⟩ := vx_keep h0 e1 hS hAX hf hL hF
    obtain ⟨t2, a1, b1⟩ := kx E ce q u t T'.heap (locs ++ L) e1.symm (by rw [← e2]; exact X'.warmed.alike) hp hb k1 k2 k3 (by rw [e1]; exact hce) hcv hcl T' rfl X'
    exact ⟨t2, st.trans a1, b1⟩

theorem gx_callv {S SX : Type} {post : S → Prop} {px : SX → Prop} {B : S → State → Prop} {BX : String → SX → State → Prop} {AX : Nat → Prop} (hr : gx_Run p l e R s m args below meth c H locs cells slots (F0 m pc ls st0) rest (va_Qv post B A1 a) (vx_X px BX AX) free) (hS : va_S A0 H0 H locs) (hA : ∀ q, q < H.size → A1 q → A0 q) (hf : ∀ q, free q → A0 q) (hAX : ∀ q, q < H.size → AX q → A0 q)
    (kx : ∀ (E : String) (ce : Cell) (q9 : Addr) (u : SX) (t : State) (H1 : Heap) (locs1 : List Loc), t.heap = H1 → s.vm.Alike t.vm → px u → BX E u t → H.size ≤ H1.size → (∀ q : Nat, q < H.size → ¬ AX q → H1[q]? = H[q]?) → va_S A0 H0 H1 locs1 → H1[q9]? = some ce → ce.vm = .none → s.vm.findClass E = some ce.cls → vx_W p l e R s m args below meth c H1 locs1 (cells + 1) (slots + 6) Q (F0 m pc ls rest) q9)
    (kk : ∀ (u : S) (t : State) (H1 : Heap) (locs1 : List Loc), t.heap = H1 → s.vm.Alike t.vm → post u → B u t → H.size ≤ H1.size → (∀ q : Nat, q < H.size → ¬ A1 q → H1[q]? = H[q]?) → va_S A0 H0 H1 locs1 → W p l e R s m args below meth c H1 locs1 cells slots Q (F0 m (pc + 3) ls (rest))) : W p l e R s m args below meth c H locs cells slots Q (F0 m pc ls st0) := by
  intro T hT X
  rcases hr T hT X with ⟨v, st₀, t, T', L, h0, X', hL, e1, e2, ⟨⟨u, hv, hp, hb⟩, hF⟩, st⟩ | ⟨q, st₀, t, T', L, E, ce, h0, X', hL, e1, e2, ⟨u, hp, hb, hF⟩, hce, hcv, hcl, st⟩
  · cases hv
    obtain ⟨k1, k2, k3⟩ := vx_keep h0 e1 hS hA hf hL hF
    obtain ⟨t2, a1, b1⟩ := kk u t T'.heap (locs ++ L) e1.symm (by rw [← e2]; exact X'.warmed.alike) hp hb k1 k2 k3 T' rfl X'
    exact ⟨t2, st t2 a1, b1⟩
  · obtain ⟨k1, k2, k3⟩ := vx_keep h0 e1 hS hAX hf hL hF
    obtain ⟨t2, a1, b1⟩ := kx E ce q u t T'.heap (locs ++ L) e1.symm (by rw [← e2]; exact X'.warmed.alike) hp hb k1 k2 k3 (by rw [e1]; exact hce) hcv hcl T' rfl X'
    exact ⟨t2, st.trans a1, b1⟩

end GXC
def gx_MQ (below : List Frame) (Qc : Array Value → State → Outcome → State → Prop) (XC : String → State → State → Prop) (a : Array Value) (s : State) (free : Addr → Prop) : State → Prop := fun t =>
  ∃ o, t.status = .running ∧ Ended t below o ∧ gx_Q Qc XC free a s o t
section GXO
variable {l : Launch}
theorem gx_ofW {y : MethodName} {ws ws' : List Cond} {rm : Room} {Pc : Array Value → State → Prop} {Qc : Array Value → State → Outcome → State → Prop} {XC : String → State → State → Prop} {free : Addr → Prop} {cc : ByteArray} {maxL : Nat} {ret : Option FieldType}
    (hy : plainName y.cls = true) (hw : ws = Cond.code y cc maxL ret :: ws')
    (body : ∀ p e s m args below meth c s₁, BodyLoose p l y (headSpec ws rm) cc maxL ret e s m args below meth c s₁ → c.maxLocals = maxL → (∀ x ∈ c.exceptionTable.toList, False) → Pc args s →
      W p l e (headSpec ws rm).room s m args below meth c s.heap [] 0 0 (gx_MQ below Qc XC args s free) (entryFrame m args maxL)) : gx_Met l y ws rm Pc Qc XC free := by
  refine MetFree.of_bodyS (code := cc) (maxLocals := maxL) (ret := ret) hy ?_ ?_
  · intro args s m h hn
    obtain ⟨meth, c, h1, h2, h3, h4, h5, h6, -, -⟩ := Cond.code_spec hn (atoms_spec (ws := ws) h _ (by rw [hw]; exact List.mem_cons_self))
    exact ⟨meth, c, h1, h2, h3, h4, h5, h6⟩
  · intro p e s m args below meth c s₁ B hml hP _
    have hh0 : s₁.heap = s.heap := by rw [B.state]; rfl
    have ht : ∀ x ∈ c.exceptionTable.toList, False := by
      obtain ⟨meth9, c9, h1, h2, -, -, -, -, h7, -⟩ := Cond.code_spec B.named (atoms_spec (ws := ws) B.pre _ (by rw [hw]; exact List.mem_cons_self))
      cases Option.some.inj (h1.symm.trans B.method)
      cases Option.some.inj (h2.symm.trans (Stand.of_body B).code)
      intro x hx
      rw [Array.isEmpty_iff.mp h7] at hx
      cases hx
    obtain ⟨t, a1, o, b1, b2, b3⟩ := body p e s m args below meth c s₁ B hml ht hP s₁ hh0 (Stand.of_body B)
    exact ⟨t, o, a1, b1, b2, b3⟩

end GXO
section GXE
variable {p : Program} {l : Launch} {e : Env} {R : Room} {s : State} {m : MethodId} {args : Array Value} {below : List Frame} {meth : Method} {c : Code} {H : Heap} {locs : List Loc} {cells slots : Nat} {Qc : Array Value → State → Outcome → State → Prop} {XC : String → State → State → Prop} {free : Addr → Prop} {g : JFrame} {q : Addr}
/-- a return of a body that may throw -/
theorem gx_ret (k : W p l e R s m args below meth c H locs cells slots (MQ below Qc args s 0 0 free) g) : W p l e R s m args below meth c H locs cells slots (gx_MQ below Qc XC args s free) g := by
  intro T hT X
  obtain ⟨t, a1, o, b1, b2, b3, b4⟩ := k T hT X
  exact ⟨t, a1, o, b1, b2, Or.inl ⟨b3, b4⟩⟩
theorem gx_thr (k : W p l e R s m args below meth c H locs cells slots (vx_MQ below (fun _ _ _ _ => False) XC args s 1 6 free) g) : W p l e R s m args below meth c H locs cells slots (gx_MQ below Qc XC args s free) g := by
  intro T hT X
  obtain ⟨t, a1, o, b1, b2, b3⟩ := k T hT X
  rcases b3 with ⟨b3, -⟩ | b3
  · exact False.elim b3
  · exact ⟨t, a1, o, b1, b2, Or.inr b3⟩
theorem gx_outW (k : vx_W p l e R s m args below meth c H locs cells slots (vx_MQ below (fun _ _ _ _ => False) XC args s 1 6 free) g q) : vx_W p l e R s m args below meth c H locs cells slots (gx_MQ below Qc XC args s free) g q := by
  intro T hT X
  obtain ⟨t, a1, o, b1, b2, b3⟩ := k T hT X
  rcases b3 with ⟨b3, -⟩ | b3
  · exact False.elim b3
  · exact ⟨t, a1, o, b1, b2, Or.inr b3⟩
end GXE
/-! what a throw needs, carried beside the world -/
def pf_moreWord : Cond → Bool
  | .castable _ _ => true
  | .declares _ => true
  | _ => false
def pf_more : List Cond := lw_tbl.filter pf_moreWord
theorem mem_more {w : Cond} {i : Nat} (h : lw_tbl[i]? = some w) (hg : pf_moreWord w = true) : w ∈ pf_more := List.mem_filter.mpr ⟨List.mem_of_getElem? h, hg⟩
theorem pf_moreWord_on {w : Cond} (h : pf_moreWord w = true) : w.onTables = true := by
  cases w <;> first | (simp [pf_moreWord] at h; done) | rfl
def pf_Y (U : State) : Prop := ∀ w ∈ pf_more, va_Nw w U
theorem pf_Y_same {u U : State} (h : u.vm = U.vm) (hx : pf_Y u) : pf_Y U := fun w hw => va_Nw.same (pf_moreWord_on (List.mem_filter.mp hw).2) h (hx w hw)
theorem pf_Y_warm {s U : State} (hW : s.WarmedH U.vm) (hx : pf_Y s) : pf_Y U := by
  intro w hw
  have h1 := hx w hw
  have h2 := (List.mem_filter.mp hw).2
  cases w <;> first | (simp [pf_moreWord] at h2; done) | exact va_Nw.warmC hW h1 | exact va_Nw.warmD hW h1
def gx_str : List (Nat × String) := [(216, "a number outside its range"), (230, "it is a kit"), (58, "no room for an arrival"), (222, "no such arrival"), (80, "less than what is set aside"), (94, "a good does not stand in for itself"), (101, "it was so"), (110, "the part is the good itself, or there already"), (123, "the good is in use"), (128, "no room for a part"), (134, "no room for an order"), (225, "no such order"), (155, "it is closed"), (170, "/ by zero"), (218, "a place below 0"), (184, "it is not covered")]
def gx_T (U : State) : Prop := ∀ q ∈ gx_str, ∃ sa, vk_R RX4 q.1 q.2 sa U
theorem gx_T_same {u U : State} (h : u.vm = U.vm) (hx : gx_T u) : gx_T U := fun q hq => by
  obtain ⟨sa, h1⟩ := hx q hq
  exact ⟨sa, vk_R.same h.symm h1⟩
theorem gx_T_warm {s U : State} (hW : s.WarmedH U.vm) (hx : gx_T s) : gx_T U := fun q hq => by
  obtain ⟨sa, h1⟩ := hx q hq
  exact ⟨sa, vk_R.warm hW h1⟩
/-- the statics of Throwable lie outside A -/
def gx_Z (A : Nat → Prop) (U : State) (H : Heap) : Prop := vx_Zq Bundle.tN "UNASSIGNED_STACK" Bundle.steD A U H ∧ vx_Zq Bundle.tN "SUPPRESSED_SENTINEL" Bundle.listD A U H
def gx_pre (G : gw_G) (ws : va_W) (sz : Nat) : State → Prop := fun U => gw_pre G ws sz U ∧ pf_Y U ∧ gx_T U ∧ gx_Z (va_A ws sz) U U.heap
def gx_C (s : State) (A : Nat → Prop) : Prop := pf_Y s ∧ gx_T s ∧ gx_Z A s s.heap
abbrev gx_rm (fr lo : Nat) : Room := { frames := fr, cells := 1, slots := 6, locals := lo }
def gx_XC {S : Type} (G : gw_G) (A : Nat → Prop) (w : S → va_W) (xp : String → S → Prop) : String → State → State → Prop := vx_X (fun _ : S => True) (fun E u t => xp E u ∧ gw_at G A w u t) A
def gx_MI {S : Type} (l : Launch) (y : MethodName) (cc : ByteArray) (mL : Nat) (ret : Option FieldType) (fr lo : Nat) (argv : List Value) (G : gw_G) (w : S → va_W) (u : S) (post : Int32 → S → Prop) (xp : String → S → Prop) : Prop :=
  ∀ sz : Nat, gx_Met l y (Cond.code y cc mL ret :: pf_tb) (gx_rm fr lo) (va_Pc argv (gx_pre G (w u) sz)) (va_Qi post (gw_at G (va_A (w u) sz) w) (va_A (w u) sz)) (gx_XC G (va_A (w u) sz) w xp) (va_A (w u) sz)
def gx_MV {S : Type} (l : Launch) (y : MethodName) (cc : ByteArray) (mL : Nat) (ret : Option FieldType) (fr lo : Nat) (argv : List Value) (G : gw_G) (w : S → va_W) (u : S) (post : S → Prop) (xp : String → S → Prop) : Prop :=
  ∀ sz : Nat, gx_Met l y (Cond.code y cc mL ret :: pf_tb) (gx_rm fr lo) (va_Pc argv (gx_pre G (w u) sz)) (va_Qv post (gw_at G (va_A (w u) sz) w) (va_A (w u) sz)) (gx_XC G (va_A (w u) sz) w xp) (va_A (w u) sz)
section GXW
variable {p : Program} {l : Launch} {e : Env} {R : Room} {s : State} {m : MethodId} {args : Array Value} {below : List Frame} {meth : Method} {c : Code} {H : Heap} {locs : List Loc} {cells slots : Nat} {Q : State → Prop}
variable {cc : ByteArray} {pc : Nat} {ls : Array Slot} {rest st0 : List Value} {G : gw_G} {A : Nat → Prop} {own : String} {nL : Nat} {ret : Option FieldType} {ws : va_W} {b : Nat}
theorem gx_entryI {S : Type} {y : MethodName} {mL fr lo : Nat} {argv : List Value} {w : S → va_W} {u : S} {post : Int32 → S → Prop} {xp : String → S → Prop} (hy : plainName y.cls = true) (hown : y.cls = own) (hlen : (lg_sl argv).length ≤ mL)
    (body : ∀ (p : Program) (e : Env) (s : State) (m : MethodId) (args : Array Value) (below : List Frame) (meth : Method) (c : Code) (A : Nat → Prop) (ls : Array Slot), gw_C p s m args meth c G own cc mL ret → gx_C s A → (∀ x ∈ c.exceptionTable.toList, False) → gw_H G A s (w u) s.heap [] → lv_has ls mL (lv_args 0 argv) →
      W p l e (gx_rm fr lo) s m args below meth c s.heap [] 0 0 (gx_MQ below (va_Qi post (gw_at G A w) A) (gx_XC G A w xp) args s A) (F0 m 0 ls [])) : gx_MI l y cc mL ret fr lo argv G w u post xp := by
  intro sz
  refine gx_ofW (cc := cc) (maxL := mL) (ret := ret) hy rfl ?_
  intro p e s m args below meth c s₁ B hml hex hv
  obtain ⟨rfl, ⟨hsz, hP, hK, hD0, hX⟩, hY, hT, hZ⟩ := hv
  subst hsz
  have hts := atoms_spec (ws := Cond.code y cc mL ret :: pf_tb) B.pre
  have hown' : s.vm.findClass y.cls = some m.cls := findClass_of_methodNamed B.named
  have hl := lv_entry argv (n := mL) hlen
  rw [lg_entry_eq]
  exact body p e s m _ below meth c _ _ ⟨B.exec, B.bytes, B.returns, hml, by rw [← hown]; exact hown', fun w hw => hts w (List.mem_cons_of_mem _ hw), B.notSynchronized, hK, hX⟩ ⟨hY, hT, hZ⟩ hex ⟨hP, hD0.self (sz := s.heap.size), va_S.rf, fun q h => Or.inr h⟩ hl
theorem gx_entryV {S : Type} {y : MethodName} {mL fr lo : Nat} {argv : List Value} {w : S → va_W} {u : S} {post : S → Prop} {xp : String → S → Prop} (hy : plainName y.cls = true) (hown : y.cls = own) (hlen : (lg_sl argv).length ≤ mL)
    (body : ∀ (p : Program) (e : Env) (s : State) (m : MethodId) (args : Array Value) (below : List Frame) (meth : Method) (c : Code) (A : Nat → Prop) (ls : Array Slot), gw_C p s m args meth c G own cc mL ret → gx_C s A → (∀ x ∈ c.exceptionTable.toList, False) → gw_H G A s (w u) s.heap [] → lv_has ls mL (lv_args 0 argv) →
      W p l e (gx_rm fr lo) s m args below meth c s.heap [] 0 0 (gx_MQ below (va_Qv post (gw_at G A w) A) (gx_XC G A w xp) args s A) (F0 m 0 ls [])) : gx_MV l y cc mL ret fr lo argv G w u post xp := by
  intro sz
  refine gx_ofW (cc := cc) (maxL := mL) (ret := ret) hy rfl ?_
  intro p e s m args below meth c s₁ B hml hex hv
  obtain ⟨rfl, ⟨hsz, hP, hK, hD0, hX⟩, hY, hT, hZ⟩ := hv
  subst hsz
  have hts := atoms_spec (ws := Cond.code y cc mL ret :: pf_tb) B.pre
  have hown' : s.vm.findClass y.cls = some m.cls := findClass_of_methodNamed B.named
  have hl := lv_entry argv (n := mL) hlen
  rw [lg_entry_eq]
  exact body p e s m _ below meth c _ _ ⟨B.exec, B.bytes, B.returns, hml, by rw [← hown]; exact hown', fun w hw => hts w (List.mem_cons_of_mem _ hw), B.notSynchronized, hK, hX⟩ ⟨hY, hT, hZ⟩ hex ⟨hP, hD0.self (sz := s.heap.size), va_S.rf, fun q h => Or.inr h⟩ hl
/-! a throw out of this method -/
theorem gx_throw {S : Type} {w : S → va_W} {u : S} {Qc : Array Value → State → Outcome → State → Prop} {xp : String → S → Prop} {E text : String} {names : List String} {ik is ic : Nat} (hst : l.stackTraces = false) (C : gw_C p s m args meth c G RX4 cc nL ret) (X : gx_C s A) (hex : ∀ x ∈ c.exceptionTable.toList, False) (Hh : gw_H G A s (w u) H locs) (hsz : ls.size = nL)
    (hE : Bundle.fit E = true) (hnames : ∀ n ∈ names, Bundle.fit n = true) (t1 : Cond.classLink RX4 ik E ∈ pf_tb) (t2 : Cond.initialized E ∈ pf_tb) (t3 : (is, text) ∈ gx_str) (t4 : ∀ v ∈ (vx_atS RX4 ic E names).filter goodWord, v ∈ pf_tb) (t5 : ∀ v ∈ (vx_atS RX4 ic E names).filter (fun v => !goodWord v), v ∈ pf_more) (t6 : ∀ v ∈ Cond.classLink RX4 ik E :: Cond.initialized E :: vx_atS RX4 ic E names, vx_ot v = true)
    (d0 : decode cc pc = .ok (.new ik, 3)) (d3 : decode cc (pc + 3) = .ok (.dup, 1)) (d4 : decode cc (pc + 4) = .ok (.ldc is, 2)) (d6 : decode cc (pc + 6) = .ok (.invokespecial ic, 3)) (d9 : decode cc (pc + 9) = .ok (.athrow, 1))
    (hR : names.length + 3 < R.frames ∧ (rest.map fun v => v.category).sum + (13 * (names.length + 1) + 43) ≤ R.locals ∧ 1 ≤ R.cells ∧ 6 ≤ R.slots) (hx : xp E u) :
    W p l e R s m args below meth c H locs 0 0 (gx_MQ below Qc (gx_XC G A w xp) args s A) (F0 m pc ls rest) := by
  obtain ⟨sa, hstr⟩ := X.2.1 _ t3
  refine gx_thr (vx_throwS C.1 C.2.1 hst C.cl hE hnames (C.ts t1) (C.ts t2) hstr (vx_hat (fun v hv => C.ts (t4 v hv)) t5 (fun v hv => va_Nw.use (pf_moreWord_on (List.mem_filter.mp hv).2) (X.1 v hv))) t6 X.2.2.1 X.2.2.2 Hh.2.2.1 (hsz.trans C.2.2.2.1.symm) d0 d3 d4 d6 d9 (fun x hx2 => absurd hx2 (hex x)) hR.1 hR.2.1 (by omega) (by omega) C.lk (fun t hv h1 h2 => ?_) Hh.2.2.1.2.2 (by omega) (by omega))
  refine ⟨u, trivial, ⟨hx, ?_, va_K.moved hv C.K, Hh.2.1⟩, ?_⟩
  · intro k q hq
    exact (Hh.1 k q hq).kept (h2 _ (Hh.1 k q hq).lt)
  · refine ⟨Nat.le_trans Hh.2.2.1.1 h1, fun q h3 h4 => ?_⟩
    rw [h2 q (Nat.lt_of_lt_of_le h3 Hh.2.2.1.1)]
    exact Hh.2.2.1.2.1 q h3 h4
theorem gx_throwW {S : Type} {w : S → va_W} {u : S} {Qc : Array Value → State → Outcome → State → Prop} {xp : String → S → Prop} {E text : String} {names : List String} {ik is ic : Nat} (hst : l.stackTraces = false) (C : gw_C p s m args meth c G RX4 cc nL ret) (X : gx_C s A) (hex : ∀ x ∈ c.exceptionTable.toList, False) (Hh : gw_H G A s (w u) H locs) (hsz : ls.size = nL)
    (hE : Bundle.fit E = true) (hnames : ∀ n ∈ names, Bundle.fit n = true) (t1 : Cond.classLink RX4 ik E ∈ pf_tb) (t2 : Cond.initialized E ∈ pf_tb) (t3 : (is, text) ∈ gx_str) (t4 : ∀ v ∈ (vx_atS RX4 ic E names).filter goodWord, v ∈ pf_tb) (t5 : ∀ v ∈ (vx_atS RX4 ic E names).filter (fun v => !goodWord v), v ∈ pf_more) (t6 : ∀ v ∈ Cond.classLink RX4 ik E :: Cond.initialized E :: vx_atS RX4 ic E names, vx_ot v = true)
    (d0 : decode cc pc = .ok (.new ik, 3)) (d3 : decode cc (pc + 3) = .ok (.dup, 1)) (d4 : decode cc (pc + 4) = .ok (.ldc_w is, 3)) (d6 : decode cc (pc + 7) = .ok (.invokespecial ic, 3)) (d9 : decode cc (pc + 10) = .ok (.athrow, 1))
    (hR : names.length + 3 < R.frames ∧ (rest.map fun v => v.category).sum + (13 * (names.length + 1) + 43) ≤ R.locals ∧ 1 ≤ R.cells ∧ 6 ≤ R.slots) (hx : xp E u) :
    W p l e R s m args below meth c H locs 0 0 (gx_MQ below Qc (gx_XC G A w xp) args s A) (F0 m pc ls rest) := by
  obtain ⟨sa, hstr⟩ := X.2.1 _ t3
  refine gx_thr (vx_throwSW C.1 C.2.1 hst C.cl hE hnames (C.ts t1) (C.ts t2) hstr (vx_hat (fun v hv => C.ts (t4 v hv)) t5 (fun v hv => va_Nw.use (pf_moreWord_on (List.mem_filter.mp hv).2) (X.1 v hv))) t6 X.2.2.1 X.2.2.2 Hh.2.2.1 (hsz.trans C.2.2.2.1.symm) d0 d3 d4 d6 d9 (fun x hx2 => absurd hx2 (hex x)) hR.1 hR.2.1 (by omega) (by omega) C.lk (fun t hv h1 h2 => ?_) Hh.2.2.1.2.2 (by omega) (by omega))
  refine ⟨u, trivial, ⟨hx, ?_, va_K.moved hv C.K, Hh.2.1⟩, ?_⟩
  · intro k q hq
    exact (Hh.1 k q hq).kept (h2 _ (Hh.1 k q hq).lt)
  · refine ⟨Nat.le_trans Hh.2.2.1.1 h1, fun q h3 h4 => ?_⟩
    rw [h2 q (Nat.lt_of_lt_of_le h3 Hh.2.2.1.1)]
    exact Hh.2.2.1.2.1 q h3 h4
/-! a call of a method that may throw; what it throws goes out of this one too -/
theorem gx_blind {argv : List Value} {sz : Nat} : FrameBlind (va_Pc argv (gx_pre G ws sz)) := fun a U g mk q => by
  obtain ⟨q0, ⟨q1, qP, qK, qD, qX⟩, qY, qT, qZ⟩ := q
  exact ⟨q0, ⟨q1, qP, va_K.moved (u := U) (U := U.calling g mk a) (Vm.Alike.refl U.vm) qK, qD, pf_X_same (u := U) (U := U.calling g mk a) rfl qX⟩, pf_Y_same (u := U) (U := U.calling g mk a) rfl qY, gx_T_same (u := U) (U := U.calling g mk a) rfl qT, vx_Zq.moved (u := U) (U := U.calling g mk a) (Vm.Alike.refl U.vm) qZ.1, vx_Zq.moved (u := U) (U := U.calling g mk a) (Vm.Alike.refl U.vm) qZ.2⟩
theorem gx_give (C : gw_C p s m args meth c G own cc nL ret) (X : gx_C s A) (Hh : gw_H G A s ws H locs) {argv : List Value} : ∀ U : State, U.heap = H → s.WarmedH U.vm → va_Pc argv (gx_pre G ws H.size) argv.toArray U := fun U hU hW => by
  refine ⟨rfl, (gw_give C Hh (argv := argv) U hU hW).2, pf_Y_warm hW X.1, gx_T_warm hW X.2.1, ?_⟩
  have hz : ∀ (n d : String), vx_Zq Bundle.tN n d A s s.heap → vx_Zq Bundle.tN n d (va_A ws H.size) U U.heap := fun n d h => by
    rw [hU]
    exact ((h.kept (fun a h1 h2 => Hh.2.2.1.2.1 a h1 h2)).narrow (gw_free Hh)).moved hW.alike
  exact ⟨hz _ _ X.2.2.1, hz _ _ X.2.2.2⟩
theorem gx_fromI {S : Type} {w : S → va_W} {u : S} {post : Int32 → S → Prop} {xp xq : String → S → Prop} {Qc : Array Value → State → Outcome → State → Prop} {a' : Array Value} (C : gw_C p s m args meth c G own cc nL ret) (hex : ∀ x ∈ c.exceptionTable.toList, False) (Hh : gw_H G A s (w u) H locs)
    (hr : gx_Run p l e R s m args below meth c H locs 0 0 (F0 m pc ls st0) rest (va_Qi post (gw_at G (va_A (w u) H.size) w) (va_A (w u) H.size) a') (gx_XC G (va_A (w u) H.size) w xp) (va_A (w u) H.size))
    (kx : ∀ (E : String) (u1 : S), xp E u1 → xq E u1)
    (kk : ∀ (r : Int32) (u1 : S) (H1 : Heap) (locs1 : List Loc), post r u1 → gw_H G A s (w u1) H1 locs1 → W p l e R s m args below meth c H1 locs1 0 0 (gx_MQ below Qc (gx_XC G A w xq) args s A) (F0 m (pc + 3) ls (.int r :: rest))) : W p l e R s m args below meth c H locs 0 0 (gx_MQ below Qc (gx_XC G A w xq) args s A) (F0 m pc ls st0) :=
  gx_calli hr Hh.2.2.1 (fun q _ h => gw_free Hh q h) (gw_free Hh) (fun q _ h => gw_free Hh q h)
    (fun E ce q9 u1 t H1 locs1 ht hvm _ hB hz hk hS hce hcv hcl => gx_outW (vx_out (E := E) (fun x hx => absurd hx (hex x)) C.lk hce hcv hcl (fun t2 ht2 hv2 => ⟨u1, trivial, ⟨kx E u1 hB.1, by rw [ht2, ← ht]; exact hB.2.1, va_K.moved hv2 C.K, hB.2.2.2.weaken (fun _ q _ h => gw_free Hh q.1 h)⟩, hS.F ht2⟩) hS.2.2 (by omega) (by omega)))
    (fun r u1 t H1 locs1 ht hvm hw hB hz hk hS => kk r u1 H1 locs1 hw ⟨by rw [← ht]; exact hB.1, hB.2.2.weaken (fun _ q _ h => gw_free Hh q.1 h), hS, Hh.2.2.2⟩)
theorem gx_fromV {S : Type} {w : S → va_W} {u : S} {post : S → Prop} {xp xq : String → S → Prop} {Qc : Array Value → State → Outcome → State → Prop} {a' : Array Value} (C : gw_C p s m args meth c G own cc nL ret) (hex : ∀ x ∈ c.exceptionTable.toList, False) (Hh : gw_H G A s (w u) H locs)
    (hr : gx_Run p l e R s m args below meth c H locs 0 0 (F0 m pc ls st0) rest (va_Qv post (gw_at G (va_A (w u) H.size) w) (va_A (w u) H.size) a') (gx_XC G (va_A (w u) H.size) w xp) (va_A (w u) H.size))
    (kx : ∀ (E : String) (u1 : S), xp E u1 → xq E u1)
    (kk : ∀ (u1 : S) (H1 : Heap) (locs1 : List Loc), post u1 → gw_H G A s (w u1) H1 locs1 → W p l e R s m args below meth c H1 locs1 0 0 (gx_MQ below Qc (gx_XC G A w xq) args s A) (F0 m (pc + 3) ls rest)) : W p l e R s m args below meth c H locs 0 0 (gx_MQ below Qc (gx_XC G A w xq) args s A) (F0 m pc ls st0) :=
  gx_callv hr Hh.2.2.1 (fun q _ h => gw_free Hh q h) (gw_free Hh) (fun q _ h => gw_free Hh q h)
    (fun E ce q9 u1 t H1 locs1 ht hvm _ hB hz hk hS hce hcv hcl => gx_outW (vx_out (E := E) (fun x hx => absurd hx (hex x)) C.lk hce hcv hcl (fun t2 ht2 hv2 => ⟨u1, trivial, ⟨kx E u1 hB.1, by rw [ht2, ← ht]; exact hB.2.1, va_K.moved hv2 C.K, hB.2.2.2.weaken (fun _ q _ h => gw_free Hh q.1 h)⟩, hS.F ht2⟩) hS.2.2 (by omega) (by omega)))
    (fun u1 t H1 locs1 ht hvm hw hB hz hk hS => kk u1 H1 locs1 hw ⟨by rw [← ht]; exact hB.1, hB.2.2.weaken (fun _ q _ h => gw_free Hh q.1 h), hS, Hh.2.2.2⟩)
variable {y : MethodName} {c1 : ByteArray} {mL fr lo idx n ci N : Nat} {r1 : Option FieldType} {C1 : String} {T : u_T} {fs : List Value} {Qc : Array Value → State → Outcome → State → Prop} {XC : String → State → State → Prop}
theorem gx_rV (As : List Value) (C : gw_C p s m args meth c G own cc nL ret) (X : gx_C s A) (Hh : gw_H G A s ws H locs) (hM : gx_Met l y (Cond.code y c1 mL r1 :: pf_tb) (gx_rm fr lo) (va_Pc (.ref b :: As) (gx_pre G ws H.size)) Qc XC (va_A ws H.size))
    (t1 : Cond.methodLink own idx y ∈ pf_tb) (t2 : Cond.instanceMethod y ∈ pf_tb) (t3 : Cond.selects C1 y y ∈ pf_tb) (t4 : Cond.initialized C1 ∈ pf_tb) (t5 : Cond.code y c1 mL r1 ∈ pf_tb)
    (hd : y.cls = C1 ∧ y.cls ≠ "java/lang/invoke/MethodHandle" ∧ y.cls ≠ "java/lang/invoke/VarHandle" ∧ (parseMethodDescriptor y.desc).map (fun d => d.parameters.length) = some n) (hR : fr + 1 ≤ R.frames ∧ 8 + (mL + 11) + lo ≤ R.locals)
    (k : Nat) (he : ws[k]? = some (b, .inr (ci, fs))) (hc : vcl[ci]? = some (C1, T, N)) (hn : As.length = n) (hls : ls.size = nL) (hst : (rest.map fun v => v.category).sum ≤ 8) (hdg : decode cc pc = .ok (.invokevirtual idx, 3)) (h0 : cells + 1 ≤ R.cells ∧ slots + 6 ≤ R.slots) :
    gx_Run p l e R s m args below meth c H locs cells slots (F0 m pc ls (As.reverse ++ .ref b :: rest)) rest (Qc (Value.ref b :: As).toArray) XC (va_A ws H.size) :=
  gx_runV (As := As) (rest := rest) ⟨C.1, C.2.1, C.2.2.2.1, C.cl, C.2.2.2.2.2.1⟩ hM (cwV n C.2.2.2.2.2.1 (gw_goodV t1 t2 t3 t4 (gw_good t5)) rfl rfl rfl hd hR) ⟨gx_blind, va_recv C.K Hh.1 hc he, gx_give C X Hh⟩ rfl hn hls rfl (lv_room hst) hdg h0
theorem gx_rS (As : List Value) (C : gw_C p s m args meth c G own cc nL ret) (X : gx_C s A) (Hh : gw_H G A s ws H locs) (hM : gx_Met l y (Cond.code y c1 mL r1 :: pf_tb) (gx_rm fr lo) (va_Pc As (gx_pre G ws H.size)) Qc XC (va_A ws H.size))
    (t1 : Cond.methodLink own idx y ∈ pf_tb) (t2 : Cond.static y ∈ pf_tb) (t4 : Cond.initialized own ∈ pf_tb) (t5 : Cond.code y c1 mL r1 ∈ pf_tb)
    (hd : y.cls = own ∧ y.cls ≠ "java/lang/invoke/MethodHandle" ∧ y.cls ≠ "java/lang/invoke/VarHandle" ∧ (parseMethodDescriptor y.desc).map (fun d => d.parameters.length) = some n) (hR : fr + 1 ≤ R.frames ∧ 8 + (mL + 11) + lo ≤ R.locals)
    (hn : As.length = n) (hls : ls.size = nL) (hst : (rest.map fun v => v.category).sum ≤ 8) (hdg : decode cc pc = .ok (.invokestatic idx, 3)) (h0 : cells + 1 ≤ R.cells ∧ slots + 6 ≤ R.slots) :
    gx_Run p l e R s m args below meth c H locs cells slots (F0 m pc ls (As.reverse ++ rest)) rest (Qc As.toArray) XC (va_A ws H.size) :=
  gx_runS (As := As) (rest := rest) ⟨C.1, C.2.1, C.2.2.2.1, C.cl, C.2.2.2.2.2.1⟩ hM (cwS n C.2.2.2.2.2.1 (gw_goodS t1 t2 t4 (gw_good t5)) rfl rfl rfl hd hR) ⟨gx_blind, gx_give C X Hh⟩ rfl hn hls rfl (lv_room hst) hdg h0
end GXW
