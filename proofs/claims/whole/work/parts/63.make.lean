/-! making objects and arrays -/
def gn_M {S : Type} (l : Launch) (y : MethodName) (cc : ByteArray) (mL fr lo mc ms : Nat) (ws0 : va_W) (h0 : Nat) (G : gw_G) (w : S → va_W) : Prop :=
  ∀ sz : Nat, Met l y (Cond.code y cc mL none :: pf_tb) ({ frames := fr, cells := mc, slots := ms, locals := lo } : Room) (va_Pc [.ref h0] (gw_pre G ws0 sz)) (va_Qv (fun _ : S => True) (gw_at G (va_A ws0 sz) w) (va_A ws0 sz)) mc ms (va_A ws0 sz)
section GNA
variable {p : Program} {l : Launch} {e : Env} {R : Room} {s : State} {m : MethodId} {args : Array Value} {below : List Frame} {meth : Method} {c : Code} {H : Heap} {locs : List Loc} {cells slots : Nat} {Q : State → Prop}
variable {cc : ByteArray} {pc : Nat} {ls : Array Slot} {rest : List Value} {G : gw_G} {A : Nat → Prop} {own : String} {nL : Nat} {ret : Option FieldType} {ws ws' : va_W} {a : Nat}
theorem gn_entry {S : Type} {y : MethodName} {mL fr lo mc ms : Nat} {ws0 : va_W} {h0 : Nat} {w : S → va_W} (hy : plainName y.cls = true) (hown : y.cls = own) (hyn : y.name = "<init>") (hlen : 1 ≤ mL)
    (body : ∀ (p : Program) (e : Env) (s : State) (m : MethodId) (args : Array Value) (below : List Frame) (meth : Method) (c : Code) (A : Nat → Prop) (ls : Array Slot), gw_C p s m args meth c G own cc mL none → meth.name = "<init>" → gw_H G A s ws0 s.heap [] → lv_has ls mL [(0, .ref h0)] →
      W p l e ({ frames := fr, cells := mc, slots := ms, locals := lo } : Room) s m args below meth c s.heap [] 0 0 (MQ below (va_Qv (fun _ : S => True) (gw_at G A w) A) args s mc ms A) (F0 m 0 ls [])) : gn_M l y cc mL fr lo mc ms ws0 h0 G w := by
  intro sz
  refine Met.ofW (cc := cc) (maxL := mL) (ret := none) hy rfl ?_
  intro p e s m args below meth c s₁ B hml hv
  obtain ⟨rfl, hsz, hP, hK, hD0, hX⟩ := hv
  subst hsz
  have hts := atoms_spec (ws := Cond.code y cc mL none :: pf_tb) B.pre
  have hown' : s.vm.findClass y.cls = some m.cls := findClass_of_methodNamed B.named
  have hin : meth.name = y.name := (name_of_methodNamed B.named B.method).1
  have hl := lv_entry [Value.ref h0] (n := mL) hlen
  rw [lg_entry_eq]
  exact body p e s m _ below meth c _ _ ⟨B.exec, B.bytes, B.returns, hml, by rw [← hown]; exact hown', fun w hw => hts w (List.mem_cons_of_mem _ hw), B.notSynchronized, hK, hX⟩ (hin.trans hyn) ⟨hP, hD0.self (sz := s.heap.size), va_S.rf, fun q h => Or.inr h⟩ hl
theorem gn_vret {S : Type} {w : S → va_W} (u : S) (C : gw_C p s m args meth c G own cc nL none) (Hh : gw_H G A s ws H locs) (hw : ws = w u) (hdg : decode cc pc = .ok (.return_, 1)) :
    W p l e R s m args below meth c H locs cells slots (MQ below (va_Qv (fun _ : S => True) (gw_at G A w) A) args s cells slots A) (F0 m pc ls []) := by
  subst hw
  exact W.vret C.1 C.2.1 C.2.2.1 (fun t ht hW => ⟨⟨u, rfl, trivial, by rw [ht]; exact Hh.1, va_K.moved hW.alike C.K, Hh.2.1⟩, Hh.2.2.1.F ht⟩) Hh.2.2.1.2.2 hdg C.lk
theorem gn_obj {idx : Nat} (C : gw_C p s m args meth c G own cc nL ret) (t1 : Cond.methodLink own idx Lib.objectInit ∈ pf_tb) (hls : ls.size = nL) (hdg : decode cc pc = .ok (.invokespecial idx, 3)) (hR : 1 ≤ R.frames ∧ (rest.map fun v => v.category).sum + 12 ≤ R.locals)
    (kk : W p l e R s m args below meth c H locs cells slots Q (F0 m (pc + 3) ls rest)) : W p l e R s m args below meth c H locs cells slots Q (F0 m pc ls (.ref a :: rest)) :=
  W.objInit (g := F0 m pc ls (.ref a :: rest)) C.1 C.2.1 C.cl (C.ts t1) (C.ts tw_89) (C.ts tw_90) rfl (hls.trans C.2.2.2.1.symm) rfl hdg hR.1 (by show 2 * 0 + _ + 12 ≤ _; have := hR.2; omega) kk
theorem gn_newi {len : Nat} (C : gw_C p s m args meth c G own cc nL ret) (Hh : gw_H G A s ws H locs) (hlen : len ≤ 1000) (hdg : decode cc pc = .ok (.newarray .int, 2)) (hR : cells + 1 ≤ R.cells ∧ slots + len ≤ R.slots)
    (kk : ∀ (q : Nat) (H1 : Heap), gw_H G A s (ws ++ [(q, .inl (G.2.1, len, .inl (fun _ => nI 0)))]) H1 locs → W p l e R s m args below meth c H1 locs (cells + 1) (slots + len) Q (F0 m (pc + 2) ls (.ref q :: rest))) : W p l e R s m args below meth c H locs cells slots Q (F0 m pc ls (.int (nI len) :: rest)) := by
  refine va_newa (atype := .int) (ty := .int) (a0 := (len, .inl (fun _ => nI 0))) (N' := len) C.1 C.2.1 (C.ts tw_115) rfl C.K Hh.1 Hh.2.1 Hh.2.2.1 Hh.2.2.2 (fun cA => rfl) (nI_pos (by omega)) (nI_clamp (by omega)) ?_ hR.1 hR.2 hdg (fun q cA H1 hK hP hD hS => ?_)
  · show len * 4 ≤ 536870912
    omega
  · have e1 : cA = G.2.1 := Option.some.inj ((hK.2 3 (cA, .int) rfl).2.symm.trans (C.K.2 0 (G.2.1, .int) rfl).2)
    rw [e1] at hP hD
    exact kk q H1 ⟨hP, hD, hS, Hh.2.2.2⟩
theorem gn_newz {len : Nat} (C : gw_C p s m args meth c G own cc nL ret) (Hh : gw_H G A s ws H locs) (hlen : len ≤ 1000) (hdg : decode cc pc = .ok (.newarray .boolean, 2)) (hR : cells + 1 ≤ R.cells ∧ slots + len ≤ R.slots)
    (kk : ∀ (q : Nat) (H1 : Heap), gw_H G A s (ws ++ [(q, .inl (G.2.2.1, len, .inl (fun _ => nI 0)))]) H1 locs → W p l e R s m args below meth c H1 locs (cells + 1) (slots + len) Q (F0 m (pc + 2) ls (.ref q :: rest))) : W p l e R s m args below meth c H locs cells slots Q (F0 m pc ls (.int (nI len) :: rest)) := by
  refine va_newa (atype := .boolean) (ty := .boolean) (a0 := (len, .inl (fun _ => nI 0))) (N' := len) C.1 C.2.1 (C.ts tw_116) rfl C.K Hh.1 Hh.2.1 Hh.2.2.1 Hh.2.2.2 (fun cA => rfl) (nI_pos (by omega)) (nI_clamp (by omega)) ?_ hR.1 hR.2 hdg (fun q cA H1 hK hP hD hS => ?_)
  · show len * 1 ≤ 536870912
    omega
  · have e1 : cA = G.2.2.1 := Option.some.inj ((hK.2 3 (cA, .boolean) rfl).2.symm.trans (C.K.2 1 (G.2.2.1, .boolean) rfl).2)
    rw [e1] at hP hD
    exact kk q H1 ⟨hP, hD, hS, Hh.2.2.2⟩
theorem gn_newl {len : Nat} (C : gw_C p s m args meth c G own cc nL ret) (Hh : gw_H G A s ws H locs) (hlen : len ≤ 1000) (hdg : decode cc pc = .ok (.newarray .long, 2)) (hR : cells + 1 ≤ R.cells ∧ slots + len ≤ R.slots)
    (kk : ∀ (q : Nat) (H1 : Heap), gw_H G A s (ws ++ [(q, .inl (G.2.2.2, len, .inr (.inl (fun _ => Int64.ofInt 0))))]) H1 locs → W p l e R s m args below meth c H1 locs (cells + 1) (slots + len) Q (F0 m (pc + 2) ls (.ref q :: rest))) : W p l e R s m args below meth c H locs cells slots Q (F0 m pc ls (.int (nI len) :: rest)) := by
  refine va_newa (atype := .long) (ty := .long) (a0 := (len, .inr (.inl (fun _ => Int64.ofInt 0)))) (N' := len) C.1 C.2.1 (C.ts tw_811) rfl C.K Hh.1 Hh.2.1 Hh.2.2.1 Hh.2.2.2 (fun cA => rfl) (nI_pos (by omega)) (nI_clamp (by omega)) ?_ hR.1 hR.2 hdg (fun q cA H1 hK hP hD hS => ?_)
  · show len * 8 ≤ 536870912
    omega
  · have e1 : cA = G.2.2.2 := Option.some.inj ((hK.2 3 (cA, .long) rfl).2.symm.trans (C.K.2 2 (G.2.2.2, .long) rfl).2)
    rw [e1] at hP hD
    exact kk q H1 ⟨hP, hD, hS, Hh.2.2.2⟩
theorem gn_putR {ci N idx b : Nat} {Cn : String} {T : u_T} {ty0 : Nat → FieldType} {ty : FieldType} {fs : List Value} (C : gw_C p s m args meth c G own cc nL ret) (Hh : gw_H G A s ws H locs) (hi : meth.name = "<init>") (i : Nat) (he : ws[i]? = some (a, .inr (ci, fs))) (hc : vcl[ci]? = some (Cn, T, N)) (hin : ∀ w ∈ u_ws Cn T N, w ∈ pf_tb) (hty : ∀ k, k < N → parseFieldDescriptor (T k).2.2.1 = some (ty0 k)) (hnm : ∀ a, a < N → ∀ b, b < N → a ≠ b → (T a).2.1 ≠ (T b).2.1) (k : Nat) (hk : k < N) (hT : (T k).1 = Cn) (hT2 : (T k).1 = own) (hw : Cond.fieldLink own idx Cn (T k).2.1 (T k).2.2.1 ∈ pf_tb) (hfin : (T k).2.2.2 = true) (hd : parseFieldDescriptor (T k).2.2.1 = some ty) (hn : narrow ty (.ref b) = .ref b) (hfit : fits ty (.ref b) = true) (hl : k < fs.length) (hs : ws.set i (a, .inr (ci, fs.set k (.ref b))) = ws') (hdg : decode cc pc = .ok (.putfield idx, 3))
    (kk : ∀ (H1 : Heap) (locs1 : List Loc), gw_H G A s ws' H1 locs1 → W p l e R s m args below meth c H1 locs1 cells slots Q (F0 m (pc + 3) ls rest)) : W p l e R s m args below meth c H locs cells slots Q (F0 m pc ls (.ref b :: .ref a :: rest)) := by
  refine va_putF (ty := ty) C.1 C.2.1 C.2.2.2.2.2.1 hin ty0 hty hnm C.cl C.K Hh.1 Hh.2.1 Hh.2.2.1 i he hc k hk (C.ts hw) (fun x h => by rw [hT] at h; exact h) hfin hi hT2 hd hn hfit hl hdg (fun H1 locs1 hP hD hS => ?_)
  rw [hs] at hP hD
  exact kk H1 locs1 ⟨hP, hD, hS, Hh.2.2.2⟩
theorem gn_new {ci N idx : Nat} {Cn : String} {T : u_T} {ty0 : Nat → FieldType} {fs : List Value} (C : gw_C p s m args meth c G own cc nL ret) (Hh : gw_H G A s ws H locs) (hc : vcl[ci]? = some (Cn, T, N)) (hin : ∀ w ∈ u_ws Cn T N, w ∈ pf_tb) (hty : ∀ k, k < N → parseFieldDescriptor (T k).2.2.1 = some (ty0 k)) (t1 : Cond.classLink own idx Cn ∈ pf_tb) (t2 : Cond.instantiable Cn N ∈ pf_tb) (t3 : Cond.initialized Cn ∈ pf_tb) (hfs : ∀ j, j < N → defaultValue (ty0 j) = vp_V fs j) (hdg : decode cc pc = .ok (.new idx, 3)) (hR : cells + 1 ≤ R.cells ∧ slots + N ≤ R.slots)
    (kk : ∀ (q : Nat) (H1 : Heap), gw_H G A s (ws ++ [(q, .inr (ci, fs))]) H1 locs → W p l e R s m args below meth c H1 locs (cells + 1) (slots + N) Q (F0 m (pc + 3) ls (.ref q :: rest))) : W p l e R s m args below meth c H locs cells slots Q (F0 m pc ls rest) :=
  va_new C.1 C.2.1 C.2.2.2.2.2.1 hin ty0 hty C.cl (C.ts t1) (C.ts t2) (C.ts t3) C.K Hh.1 Hh.2.1 Hh.2.2.1 Hh.2.2.2 hc hfs hR.1 hR.2 hdg (fun q H1 hP hD hS => kk q H1 ⟨hP, hD, hS, Hh.2.2.2⟩)
variable {S : Type} {w : S → va_W} {y : MethodName} {c1 : ByteArray} {mL fr lo mc ms idx b : Nat} {e0 : va_E} {host : String}
/-- a constructor of a nest mate, over the new cell alone; the rest stays -/
theorem gn_initN (isR : List Nat) (k : Nat) (wr : va_W) (C : gw_C p s m args meth c G own cc nL ret) (Hh : gw_H G A s ws H locs) (hM : gn_M l y c1 mL fr lo mc ms [(b, e0)] b G w) (hC : ws[k]? = some (b, e0)) (hRr : isR.map (fun i => ws[i]?) = wr.map some) (hn : va_nd isR = true) (hdis : ∀ i ∈ isR, i ∉ [k])
    (t1 : Cond.methodLinkNest own idx y host ∈ pf_nest) (t2 : Cond.instanceMethod y ∈ pf_tb) (t4 : Cond.initialized y.cls ∈ pf_tb) (t5 : Cond.code y c1 mL none ∈ pf_tb) (hy : y.name = "<init>")
    (hd : y.cls ≠ "java/lang/invoke/MethodHandle" ∧ y.cls ≠ "java/lang/invoke/VarHandle" ∧ (parseMethodDescriptor y.desc).map (fun d => d.parameters.length) = some 0) (hR : fr + 1 ≤ R.frames ∧ 8 + (mL + 11) + lo ≤ R.locals) (hls : ls.size = nL) (hst : (rest.map fun v => v.category).sum ≤ 8) (hdg : decode cc pc = .ok (.invokespecial idx, 3)) (h0 : cells + mc ≤ R.cells ∧ slots + ms ≤ R.slots)
    (kk : ∀ (u : S) (H1 : Heap) (locs1 : List Loc), gw_H G A s (wr ++ w u) H1 locs1 → W p l e R s m args below meth c H1 locs1 (cells + mc) (slots + ms) Q (F0 m (pc + 3) ls rest)) : W p l e R s m args below meth c H locs cells slots Q (F0 m pc ls (.ref b :: rest)) := by
  have hCm : [k].map (fun i => ws[i]?) = [(b, e0)].map some := by simp [hC]
  have hPc : va_P G.1 vcl [(b, e0)] H := Hh.1.sub [k] (by simp [hC])
  have hDc : va_D A [(b, e0)] := Hh.2.1.sub [k] rfl hCm
  have hFc := va_free (wc := [(b, e0)]) Hh.2.1 Hh.2.2.1 Hh.2.2.2 [k] hCm
  refine va_callv (va_runIN (As := []) (rest := rest) ⟨C.1, C.2.1, C.2.2.2.1, C.cl, C.2.2.2.2.2.1⟩ (hM H.size) ⟨va_cnB 0 C.2.2.2.2.2.1 (gw_good t5) rfl rfl rfl (C.nw t1) (C.ts t4) hd hR, hy, C.ts t2⟩ ⟨gw_blind, fun U hU hW => ⟨rfl, by rw [hU], by rw [hU]; exact hPc, va_K.moved hW.alike C.K, hDc.weaken (fun _ _ _ _ => trivial), pf_X_warm hW C.X⟩⟩ rfl rfl hls rfl (lv_room hst) hdg h0) Hh.2.2.1 (fun q _ h => hFc q h) hFc (fun u t H1 locs1 ht hvm hw hB hz hk hS => ?_)
  obtain ⟨hP1, hK1, hD1⟩ := hB
  rw [ht] at hP1
  obtain ⟨hP, hD⟩ := va_join (wr := wr) (w1 := w u) Hh.1 Hh.2.1 [k] isR hCm hRr hn hdis hk hFc hP1 hD1
  exact kk u H1 locs1 ⟨hP, hD, hS, Hh.2.2.2⟩
theorem gn_init (isR : List Nat) (k : Nat) (wr : va_W) (C : gw_C p s m args meth c G own cc nL ret) (Hh : gw_H G A s ws H locs) (hM : gn_M l y c1 mL fr lo mc ms [(b, e0)] b G w) (hC : ws[k]? = some (b, e0)) (hRr : isR.map (fun i => ws[i]?) = wr.map some) (hn : va_nd isR = true) (hdis : ∀ i ∈ isR, i ∉ [k])
    (t1 : Cond.methodLink own idx y ∈ pf_tb) (t2 : Cond.instanceMethod y ∈ pf_tb) (t4 : Cond.initialized y.cls ∈ pf_tb) (t5 : Cond.code y c1 mL none ∈ pf_tb) (hy : y.name = "<init>")
    (hd : y.cls ≠ "java/lang/invoke/MethodHandle" ∧ y.cls ≠ "java/lang/invoke/VarHandle" ∧ (parseMethodDescriptor y.desc).map (fun d => d.parameters.length) = some 0) (hR : fr + 1 ≤ R.frames ∧ 8 + (mL + 11) + lo ≤ R.locals) (hls : ls.size = nL) (hst : (rest.map fun v => v.category).sum ≤ 8) (hdg : decode cc pc = .ok (.invokespecial idx, 3)) (h0 : cells + mc ≤ R.cells ∧ slots + ms ≤ R.slots)
    (kk : ∀ (u : S) (H1 : Heap) (locs1 : List Loc), gw_H G A s (wr ++ w u) H1 locs1 → W p l e R s m args below meth c H1 locs1 (cells + mc) (slots + ms) Q (F0 m (pc + 3) ls rest)) : W p l e R s m args below meth c H locs cells slots Q (F0 m pc ls (.ref b :: rest)) := by
  have hCm : [k].map (fun i => ws[i]?) = [(b, e0)].map some := by simp [hC]
  have hPc : va_P G.1 vcl [(b, e0)] H := Hh.1.sub [k] (by simp [hC])
  have hDc : va_D A [(b, e0)] := Hh.2.1.sub [k] rfl hCm
  have hFc := va_free (wc := [(b, e0)]) Hh.2.1 Hh.2.2.1 Hh.2.2.2 [k] hCm
  refine va_callv (va_runI (As := []) (rest := rest) ⟨C.1, C.2.1, C.2.2.2.1, C.cl, C.2.2.2.2.2.1⟩ (hM H.size) (cwI 0 C.2.2.2.2.2.1 (gw_good t5) rfl rfl rfl (C.ts t4) (C.ts t1) (C.ts t2) hy hd hR) ⟨gw_blind, fun U hU hW => ⟨rfl, by rw [hU], by rw [hU]; exact hPc, va_K.moved hW.alike C.K, hDc.weaken (fun _ _ _ _ => trivial), pf_X_warm hW C.X⟩⟩ rfl rfl hls rfl (lv_room hst) hdg h0) Hh.2.2.1 (fun q _ h => hFc q h) hFc (fun u t H1 locs1 ht hvm hw hB hz hk hS => ?_)
  obtain ⟨hP1, hK1, hD1⟩ := hB
  rw [ht] at hP1
  obtain ⟨hP, hD⟩ := va_join (wr := wr) (w1 := w u) Hh.1 Hh.2.1 [k] isR hCm hRr hn hdis hk hFc hP1 hD1
  exact kk u H1 locs1 ⟨hP, hD, hS, Hh.2.2.2⟩
end GNA
