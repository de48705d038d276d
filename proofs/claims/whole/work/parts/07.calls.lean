/-! Calls over the whole world: the callee's world is the caller's. -/
section GWB
variable {p : Program} {l : Launch} {e : Env} {R : Room} {s : State} {m : MethodId} {args : Array Value} {below : List Frame} {meth : Method} {c : Code} {H : Heap} {locs : List Loc} {cells slots : Nat} {Q : State → Prop}
variable {cc : ByteArray} {pc : Nat} {ls : Array Slot} {rest st0 : List Value} {G : gw_G} {A : Nat → Prop} {own : String} {nL : Nat} {ret : Option FieldType} {ws : va_W} {b : Nat}
theorem gw_fromI {S : Type} {w : S → va_W} {u : S} {post : Int32 → S → Prop} {a' : Array Value} (C : gw_C p s m args meth c G own cc nL ret) (Hh : gw_H G A s (w u) H locs)
    (hr : va_Run p l e R s m args below meth c H locs cells slots 0 0 (F0 m pc ls st0) rest (va_Qi post (gw_at G (va_A (w u) H.size) w) (va_A (w u) H.size) a') (va_A (w u) H.size))
    (kk : ∀ (r : Int32) (u1 : S) (H1 : Heap) (locs1 : List Loc), post r u1 → gw_H G A s (w u1) H1 locs1 → W p l e R s m args below meth c H1 locs1 cells slots Q (F0 m (pc + 3) ls (.int r :: rest))) : W p l e R s m args below meth c H locs cells slots Q (F0 m pc ls st0) :=
  va_calli hr Hh.2.2.1 (fun q _ h => gw_free Hh q h) (gw_free Hh) (fun r u1 t H1 locs1 ht hvm hw hB hz hk hS => kk r u1 H1 locs1 hw ⟨by rw [← ht]; exact hB.1, hB.2.2.weaken (fun _ q _ h => gw_free Hh q.1 h), hS, Hh.2.2.2⟩)
theorem gw_fromV {S : Type} {w : S → va_W} {u : S} {post : S → Prop} {a' : Array Value} (C : gw_C p s m args meth c G own cc nL ret) (Hh : gw_H G A s (w u) H locs)
    (hr : va_Run p l e R s m args below meth c H locs cells slots 0 0 (F0 m pc ls st0) rest (va_Qv post (gw_at G (va_A (w u) H.size) w) (va_A (w u) H.size) a') (va_A (w u) H.size))
    (kk : ∀ (u1 : S) (H1 : Heap) (locs1 : List Loc), post u1 → gw_H G A s (w u1) H1 locs1 → W p l e R s m args below meth c H1 locs1 cells slots Q (F0 m (pc + 3) ls rest)) : W p l e R s m args below meth c H locs cells slots Q (F0 m pc ls st0) :=
  va_callv hr Hh.2.2.1 (fun q _ h => gw_free Hh q h) (gw_free Hh) (fun u1 t H1 locs1 ht hvm hw hB hz hk hS => kk u1 H1 locs1 hw ⟨by rw [← ht]; exact hB.1, hB.2.2.weaken (fun _ q _ h => gw_free Hh q.1 h), hS, Hh.2.2.2⟩)
theorem gw_fromL {S : Type} {w : S → va_W} {u : S} {post : Int64 → S → Prop} {a' : Array Value} (C : gw_C p s m args meth c G own cc nL ret) (Hh : gw_H G A s (w u) H locs)
    (hr : va_Run p l e R s m args below meth c H locs cells slots 0 0 (F0 m pc ls st0) rest (va_Ql post (gw_at G (va_A (w u) H.size) w) (va_A (w u) H.size) a') (va_A (w u) H.size))
    (kk : ∀ (r : Int64) (u1 : S) (H1 : Heap) (locs1 : List Loc), post r u1 → gw_H G A s (w u1) H1 locs1 → W p l e R s m args below meth c H1 locs1 cells slots Q (F0 m (pc + 3) ls (.long r :: rest))) : W p l e R s m args below meth c H locs cells slots Q (F0 m pc ls st0) :=
  va_calll hr Hh.2.2.1 (fun q _ h => gw_free Hh q h) (gw_free Hh) (fun r u1 t H1 locs1 ht hvm hw hB hz hk hS => kk r u1 H1 locs1 hw ⟨by rw [← ht]; exact hB.1, hB.2.2.weaken (fun _ q _ h => gw_free Hh q.1 h), hS, Hh.2.2.2⟩)
variable {y : MethodName} {c1 : ByteArray} {mL fr lo idx n ci N : Nat} {r1 : Option FieldType} {C1 : String} {T : u_T} {fs : List Value} {Qc : Array Value → State → Outcome → State → Prop}
theorem gw_runV (As : List Value) (C : gw_C p s m args meth c G own cc nL ret) (Hh : gw_H G A s ws H locs) (hM : Met l y (Cond.code y c1 mL r1 :: pf_tb) (gw_rm fr lo) (va_Pc (.ref b :: As) (gw_pre G ws H.size)) Qc 0 0 (va_A ws H.size))
    (t1 : Cond.methodLink own idx y ∈ pf_tb) (t2 : Cond.instanceMethod y ∈ pf_tb) (t3 : Cond.selects C1 y y ∈ pf_tb) (t4 : Cond.initialized C1 ∈ pf_tb) (t5 : Cond.code y c1 mL r1 ∈ pf_tb)
    (hd : y.cls = C1 ∧ y.cls ≠ "java/lang/invoke/MethodHandle" ∧ y.cls ≠ "java/lang/invoke/VarHandle" ∧ (parseMethodDescriptor y.desc).map (fun d => d.parameters.length) = some n) (hR : fr + 1 ≤ R.frames ∧ 8 + (mL + 11) + lo ≤ R.locals)
    (k : Nat) (he : ws[k]? = some (b, .inr (ci, fs))) (hc : vcl[ci]? = some (C1, T, N)) (hn : As.length = n) (hls : ls.size = nL) (hst : (rest.map fun v => v.category).sum ≤ 8) (hdg : decode cc pc = .ok (.invokevirtual idx, 3)) (h0 : cells ≤ R.cells ∧ slots ≤ R.slots) :
    va_Run p l e R s m args below meth c H locs cells slots 0 0 (F0 m pc ls (As.reverse ++ .ref b :: rest)) rest (Qc (Value.ref b :: As).toArray) (va_A ws H.size) :=
  va_runV (As := As) (rest := rest) ⟨C.1, C.2.1, C.2.2.2.1, C.cl, C.2.2.2.2.2.1⟩ hM (cwV n C.2.2.2.2.2.1 (gw_goodV t1 t2 t3 t4 (gw_good t5)) rfl rfl rfl hd hR) ⟨gw_blind, va_recv C.K Hh.1 hc he, gw_give C Hh⟩ rfl hn hls rfl (lv_room hst) hdg h0
theorem gw_runVN {host : String} (As : List Value) (C : gw_C p s m args meth c G own cc nL ret) (Hh : gw_H G A s ws H locs) (hM : Met l y (Cond.code y c1 mL r1 :: pf_tb) (gw_rm fr lo) (va_Pc (.ref b :: As) (gw_pre G ws H.size)) Qc 0 0 (va_A ws H.size))
    (t1 : Cond.methodLinkNest own idx y host ∈ pf_nest) (t2 : Cond.instanceMethod y ∈ pf_tb) (t3 : Cond.selects C1 y y ∈ pf_tb) (t4 : Cond.initialized C1 ∈ pf_tb) (t5 : Cond.code y c1 mL r1 ∈ pf_tb)
    (hd : y.cls = C1 ∧ y.cls ≠ "java/lang/invoke/MethodHandle" ∧ y.cls ≠ "java/lang/invoke/VarHandle" ∧ (parseMethodDescriptor y.desc).map (fun d => d.parameters.length) = some n) (hR : fr + 1 ≤ R.frames ∧ 8 + (mL + 11) + lo ≤ R.locals)
    (k : Nat) (he : ws[k]? = some (b, .inr (ci, fs))) (hc : vcl[ci]? = some (C1, T, N)) (hn : As.length = n) (hls : ls.size = nL) (hst : (rest.map fun v => v.category).sum ≤ 8) (hdg : decode cc pc = .ok (.invokevirtual idx, 3)) (h0 : cells ≤ R.cells ∧ slots ≤ R.slots) :
    va_Run p l e R s m args below meth c H locs cells slots 0 0 (F0 m pc ls (As.reverse ++ .ref b :: rest)) rest (Qc (Value.ref b :: As).toArray) (va_A ws H.size) :=
  va_runVN (As := As) (rest := rest) ⟨C.1, C.2.1, C.2.2.2.1, C.cl, C.2.2.2.2.2.1⟩ hM ⟨va_cnB n C.2.2.2.2.2.1 (gw_good t5) rfl rfl rfl (C.nw t1) (by rw [hd.1]; exact C.ts t4) hd.2 hR, C.ts t2, C.ts t3⟩ ⟨gw_blind, va_recv C.K Hh.1 hc he, gw_give C Hh⟩ rfl hn hls rfl (lv_room hst) hdg h0
theorem gw_runS (As : List Value) (C : gw_C p s m args meth c G own cc nL ret) (Hh : gw_H G A s ws H locs) (hM : Met l y (Cond.code y c1 mL r1 :: pf_tb) (gw_rm fr lo) (va_Pc As (gw_pre G ws H.size)) Qc 0 0 (va_A ws H.size))
    (t1 : Cond.methodLink own idx y ∈ pf_tb) (t2 : Cond.static y ∈ pf_tb) (t4 : Cond.initialized own ∈ pf_tb) (t5 : Cond.code y c1 mL r1 ∈ pf_tb)
    (hd : y.cls = own ∧ y.cls ≠ "java/lang/invoke/MethodHandle" ∧ y.cls ≠ "java/lang/invoke/VarHandle" ∧ (parseMethodDescriptor y.desc).map (fun d => d.parameters.length) = some n) (hR : fr + 1 ≤ R.frames ∧ 8 + (mL + 11) + lo ≤ R.locals)
    (hn : As.length = n) (hls : ls.size = nL) (hst : (rest.map fun v => v.category).sum ≤ 8) (hdg : decode cc pc = .ok (.invokestatic idx, 3)) (h0 : cells ≤ R.cells ∧ slots ≤ R.slots) :
    va_Run p l e R s m args below meth c H locs cells slots 0 0 (F0 m pc ls (As.reverse ++ rest)) rest (Qc As.toArray) (va_A ws H.size) :=
  va_runS (As := As) (rest := rest) ⟨C.1, C.2.1, C.2.2.2.1, C.cl, C.2.2.2.2.2.1⟩ hM (cwS n C.2.2.2.2.2.1 (gw_goodS t1 t2 t4 (gw_good t5)) rfl rfl rfl hd hR) ⟨gw_blind, gw_give C Hh⟩ rfl hn hls rfl (lv_room hst) hdg h0
theorem gw_runSN {host : String} (As : List Value) (C : gw_C p s m args meth c G own cc nL ret) (Hh : gw_H G A s ws H locs) (hM : Met l y (Cond.code y c1 mL r1 :: pf_tb) (gw_rm fr lo) (va_Pc As (gw_pre G ws H.size)) Qc 0 0 (va_A ws H.size))
    (t1 : Cond.methodLinkNest own idx y host ∈ pf_nest) (t2 : Cond.static y ∈ pf_tb) (t4 : Cond.initialized y.cls ∈ pf_tb) (t5 : Cond.code y c1 mL r1 ∈ pf_tb)
    (hd : y.cls ≠ "java/lang/invoke/MethodHandle" ∧ y.cls ≠ "java/lang/invoke/VarHandle" ∧ (parseMethodDescriptor y.desc).map (fun d => d.parameters.length) = some n) (hR : fr + 1 ≤ R.frames ∧ 8 + (mL + 11) + lo ≤ R.locals)
    (hn : As.length = n) (hls : ls.size = nL) (hst : (rest.map fun v => v.category).sum ≤ 8) (hdg : decode cc pc = .ok (.invokestatic idx, 3)) (h0 : cells ≤ R.cells ∧ slots ≤ R.slots) :
    va_Run p l e R s m args below meth c H locs cells slots 0 0 (F0 m pc ls (As.reverse ++ rest)) rest (Qc As.toArray) (va_A ws H.size) :=
  va_runSN (As := As) (rest := rest) ⟨C.1, C.2.1, C.2.2.2.1, C.cl, C.2.2.2.2.2.1⟩ hM ⟨va_cnB n C.2.2.2.2.2.1 (gw_good t5) rfl rfl rfl (C.nw t1) (C.ts t4) hd hR, C.ts t2, trivial⟩ ⟨gw_blind, gw_give C Hh⟩ rfl hn hls rfl (lv_room hst) hdg h0
end GWB
