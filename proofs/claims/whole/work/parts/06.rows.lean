/-! Generic rows: the whole world of a class by one list, numbers as nI of a Nat, one list of words for every method. -/
abbrev gw_G : Type := va_G × ClassId × ClassId × ClassId
abbrev gw_ty (G : gw_G) : List (ClassId × FieldType) := [(G.2.1, .int), (G.2.2.1, .boolean), (G.2.2.2, .long)]
def gw_C (p : Program) (s : State) (m : MethodId) (args : Array Value) (meth : Method) (c : Code) (G : gw_G) (own : String) (cc : ByteArray) (nL : Nat) (ret : Option FieldType) : Prop :=
  p.tables.exec = Jvm.exec ∧ c.code = cc ∧ meth.sig.returnType = ret ∧ c.maxLocals = nL ∧ s.vm.findClass own = some m.cls ∧ (∀ w ∈ pf_tb, w.before args s = true) ∧ meth.locks = false ∧ va_K G.1 vcl (gw_ty G) s ∧ pf_X s
def gw_H (G : gw_G) (A : Nat → Prop) (s : State) (ws : va_W) (H : Heap) (locs : List Loc) : Prop := va_P G.1 vcl ws H ∧ va_D A ws ∧ va_S A s.heap H locs ∧ ∀ q : Nat, s.heap.size ≤ q → A q
def gw_pre (G : gw_G) (ws : va_W) (sz : Nat) : State → Prop := fun U => U.heap.size = sz ∧ va_P G.1 vcl ws U.heap ∧ va_K G.1 vcl (gw_ty G) U ∧ va_D (fun _ => True) ws ∧ pf_X U
def gw_at {S : Type} (G : gw_G) (A : Nat → Prop) (w : S → va_W) (u : S) (t : State) : Prop := va_P G.1 vcl (w u) t.heap ∧ va_K G.1 vcl (gw_ty G) t ∧ va_D A (w u)
abbrev gw_rm (fr lo : Nat) : Room := { frames := fr, cells := 0, slots := 0, locals := lo }
/-- a method that answers an int or a boolean, makes nothing and doesn't throw -/
def gw_MI {S : Type} (l : Launch) (y : MethodName) (cc : ByteArray) (mL : Nat) (ret : Option FieldType) (fr lo : Nat) (argv : List Value) (G : gw_G) (w : S → va_W) (u : S) (post : Int32 → S → Prop) : Prop :=
  ∀ sz : Nat, Met l y (Cond.code y cc mL ret :: pf_tb) (gw_rm fr lo) (va_Pc argv (gw_pre G (w u) sz)) (va_Qi post (gw_at G (va_A (w u) sz) w) (va_A (w u) sz)) 0 0 (va_A (w u) sz)
def gw_MV {S : Type} (l : Launch) (y : MethodName) (cc : ByteArray) (mL : Nat) (ret : Option FieldType) (fr lo : Nat) (argv : List Value) (G : gw_G) (w : S → va_W) (u : S) (post : S → Prop) : Prop :=
  ∀ sz : Nat, Met l y (Cond.code y cc mL ret :: pf_tb) (gw_rm fr lo) (va_Pc argv (gw_pre G (w u) sz)) (va_Qv post (gw_at G (va_A (w u) sz) w) (va_A (w u) sz)) 0 0 (va_A (w u) sz)
def gw_ML {S : Type} (l : Launch) (y : MethodName) (cc : ByteArray) (mL : Nat) (ret : Option FieldType) (fr lo : Nat) (argv : List Value) (G : gw_G) (w : S → va_W) (u : S) (post : Int64 → S → Prop) : Prop :=
  ∀ sz : Nat, Met l y (Cond.code y cc mL ret :: pf_tb) (gw_rm fr lo) (va_Pc argv (gw_pre G (w u) sz)) (va_Ql post (gw_at G (va_A (w u) sz) w) (va_A (w u) sz)) 0 0 (va_A (w u) sz)
section GWA
variable {p : Program} {l : Launch} {e : Env} {R : Room} {s : State} {m : MethodId} {args : Array Value} {below : List Frame} {meth : Method} {c : Code} {H : Heap} {locs : List Loc} {cells slots : Nat} {Q : State → Prop}
variable {cc : ByteArray} {pc : Nat} {ls : Array Slot} {rest : List Value} {G : gw_G} {A : Nat → Prop} {own : String} {nL : Nat} {ret : Option FieldType} {ws ws' : va_W} {a : Nat}
theorem gw_C.ts (C : gw_C p s m args meth c G own cc nL ret) {w : Cond} (h : w ∈ pf_tb) : w.before args s = true := C.2.2.2.2.2.1 w h
theorem gw_C.cl (C : gw_C p s m args meth c G own cc nL ret) : s.vm.findClass own = some m.cls := C.2.2.2.2.1
theorem gw_C.lk (C : gw_C p s m args meth c G own cc nL ret) : meth.locks = false := C.2.2.2.2.2.2.1
theorem gw_C.K (C : gw_C p s m args meth c G own cc nL ret) : va_K G.1 vcl (gw_ty G) s := C.2.2.2.2.2.2.2.1
theorem gw_C.X (C : gw_C p s m args meth c G own cc nL ret) : pf_X s := C.2.2.2.2.2.2.2.2
theorem gw_C.nw (C : gw_C p s m args meth c G own cc nL ret) {w : Cond} (h : w ∈ pf_nest) : va_Nw w s := C.X w h
/-! entries -/
theorem gw_entryI {S : Type} {y : MethodName} {mL fr lo : Nat} {argv : List Value} {w : S → va_W} {u : S} {post : Int32 → S → Prop} (hy : plainName y.cls = true) (hown : y.cls = own) (hlen : (lg_sl argv).length ≤ mL)
    (body : ∀ (p : Program) (e : Env) (s : State) (m : MethodId) (args : Array Value) (below : List Frame) (meth : Method) (c : Code) (A : Nat → Prop) (ls : Array Slot), gw_C p s m args meth c G own cc mL ret → gw_H G A s (w u) s.heap [] → lv_has ls mL (lv_args 0 argv) →
      W p l e (gw_rm fr lo) s m args below meth c s.heap [] 0 0 (MQ below (va_Qi post (gw_at G A w) A) args s 0 0 A) (F0 m 0 ls [])) : gw_MI l y cc mL ret fr lo argv G w u post := by
  intro sz
  refine Met.ofW (cc := cc) (maxL := mL) (ret := ret) hy rfl ?_
  intro p e s m args below meth c s₁ B hml hv
  obtain ⟨rfl, hsz, hP, hK, hD0, hX⟩ := hv
  subst hsz
  have hts := atoms_spec (ws := Cond.code y cc mL ret :: pf_tb) B.pre
  have hown' : s.vm.findClass y.cls = some m.cls := findClass_of_methodNamed B.named
  have hl := lv_entry argv (n := mL) hlen
  rw [lg_entry_eq]
  exact body p e s m _ below meth c _ _ ⟨B.exec, B.bytes, B.returns, hml, by rw [← hown]; exact hown', fun w hw => hts w (List.mem_cons_of_mem _ hw), B.notSynchronized, hK, hX⟩ ⟨hP, hD0.self (sz := s.heap.size), va_S.rf, fun q h => Or.inr h⟩ hl
theorem gw_entryV {S : Type} {y : MethodName} {mL fr lo : Nat} {argv : List Value} {w : S → va_W} {u : S} {post : S → Prop} (hy : plainName y.cls = true) (hown : y.cls = own) (hlen : (lg_sl argv).length ≤ mL)
    (body : ∀ (p : Program) (e : Env) (s : State) (m : MethodId) (args : Array Value) (below : List Frame) (meth : Method) (c : Code) (A : Nat → Prop) (ls : Array Slot), gw_C p s m args meth c G own cc mL ret → gw_H G A s (w u) s.heap [] → lv_has ls mL (lv_args 0 argv) →
      W p l e (gw_rm fr lo) s m args below meth c s.heap [] 0 0 (MQ below (va_Qv post (gw_at G A w) A) args s 0 0 A) (F0 m 0 ls [])) : gw_MV l y cc mL ret fr lo argv G w u post := by
  intro sz
  refine Met.ofW (cc := cc) (maxL := mL) (ret := ret) hy rfl ?_
  intro p e s m args below meth c s₁ B hml hv
  obtain ⟨rfl, hsz, hP, hK, hD0, hX⟩ := hv
  subst hsz
  have hts := atoms_spec (ws := Cond.code y cc mL ret :: pf_tb) B.pre
  have hown' : s.vm.findClass y.cls = some m.cls := findClass_of_methodNamed B.named
  have hl := lv_entry argv (n := mL) hlen
  rw [lg_entry_eq]
  exact body p e s m _ below meth c _ _ ⟨B.exec, B.bytes, B.returns, hml, by rw [← hown]; exact hown', fun w hw => hts w (List.mem_cons_of_mem _ hw), B.notSynchronized, hK, hX⟩ ⟨hP, hD0.self (sz := s.heap.size), va_S.rf, fun q h => Or.inr h⟩ hl
theorem gw_entryL {S : Type} {y : MethodName} {mL fr lo : Nat} {argv : List Value} {w : S → va_W} {u : S} {post : Int64 → S → Prop} (hy : plainName y.cls = true) (hown : y.cls = own) (hlen : (lg_sl argv).length ≤ mL)
    (body : ∀ (p : Program) (e : Env) (s : State) (m : MethodId) (args : Array Value) (below : List Frame) (meth : Method) (c : Code) (A : Nat → Prop) (ls : Array Slot), gw_C p s m args meth c G own cc mL ret → gw_H G A s (w u) s.heap [] → lv_has ls mL (lv_args 0 argv) →
      W p l e (gw_rm fr lo) s m args below meth c s.heap [] 0 0 (MQ below (va_Ql post (gw_at G A w) A) args s 0 0 A) (F0 m 0 ls [])) : gw_ML l y cc mL ret fr lo argv G w u post := by
  intro sz
  refine Met.ofW (cc := cc) (maxL := mL) (ret := ret) hy rfl ?_
  intro p e s m args below meth c s₁ B hml hv
  obtain ⟨rfl, hsz, hP, hK, hD0, hX⟩ := hv
  subst hsz
  have hts := atoms_spec (ws := Cond.code y cc mL ret :: pf_tb) B.pre
  have hown' : s.vm.findClass y.cls = some m.cls := findClass_of_methodNamed B.named
  have hl := lv_entry argv (n := mL) hlen
  rw [lg_entry_eq]
  exact body p e s m _ below meth c _ _ ⟨B.exec, B.bytes, B.returns, hml, by rw [← hown]; exact hown', fun w hw => hts w (List.mem_cons_of_mem _ hw), B.notSynchronized, hK, hX⟩ ⟨hP, hD0.self (sz := s.heap.size), va_S.rf, fun q h => Or.inr h⟩ hl
/-! ends -/
theorem gw_iret {S : Type} {w : S → va_W} {u : S} {post : Int32 → S → Prop} {x : Int32} (C : gw_C p s m args meth c G own cc nL (some .int)) (Hh : gw_H G A s (w u) H locs) (hdg : decode cc pc = .ok (.ireturn, 1)) (hp : post x u) :
    W p l e R s m args below meth c H locs 0 0 (MQ below (va_Qi post (gw_at G A w) A) args s 0 0 A) (F0 m pc ls [.int x]) :=
  W.iret (v := x) C.1 C.2.1 C.2.2.1 (fun t ht hW => ⟨⟨x, u, rfl, hp, by rw [ht]; exact Hh.1, va_K.moved hW.alike C.K, Hh.2.1⟩, Hh.2.2.1.F ht⟩) Hh.2.2.1.2.2 hdg C.lk
theorem gw_nar01 {x : Nat} (h : x ≤ 1) : narrow .boolean (.int (nI x)) = .int (nI x) := by
  have : x = 0 ∨ x = 1 := by omega
  rcases this with rfl | rfl <;> decide +kernel
theorem gw_zret {S : Type} {w : S → va_W} {u : S} {post : Int32 → S → Prop} {x : Nat} (C : gw_C p s m args meth c G own cc nL (some .boolean)) (Hh : gw_H G A s (w u) H locs) (hdg : decode cc pc = .ok (.ireturn, 1)) (hx : x ≤ 1) (hp : post (nI x) u) :
    W p l e R s m args below meth c H locs 0 0 (MQ below (va_Qi post (gw_at G A w) A) args s 0 0 A) (F0 m pc ls [.int (nI x)]) :=
  W.zret (v := nI x) C.1 C.2.1 C.2.2.1 (gw_nar01 hx) (fun t ht hW => ⟨⟨nI x, u, rfl, hp, by rw [ht]; exact Hh.1, va_K.moved hW.alike C.K, Hh.2.1⟩, Hh.2.2.1.F ht⟩) Hh.2.2.1.2.2 hdg C.lk
theorem gw_vret {S : Type} {w : S → va_W} {u : S} {post : S → Prop} (C : gw_C p s m args meth c G own cc nL none) (Hh : gw_H G A s (w u) H locs) (hdg : decode cc pc = .ok (.return_, 1)) (hp : post u) :
    W p l e R s m args below meth c H locs 0 0 (MQ below (va_Qv post (gw_at G A w) A) args s 0 0 A) (F0 m pc ls []) :=
  W.vret C.1 C.2.1 C.2.2.1 (fun t ht hW => ⟨⟨u, rfl, hp, by rw [ht]; exact Hh.1, va_K.moved hW.alike C.K, Hh.2.1⟩, Hh.2.2.1.F ht⟩) Hh.2.2.1.2.2 hdg C.lk
theorem gw_lret {S : Type} {w : S → va_W} {u : S} {post : Int64 → S → Prop} {x : Int64} (C : gw_C p s m args meth c G own cc nL (some .long)) (Hh : gw_H G A s (w u) H locs) (hdg : decode cc pc = .ok (.lreturn, 1)) (hp : post x u) :
    W p l e R s m args below meth c H locs 0 0 (MQ below (va_Ql post (gw_at G A w) A) args s 0 0 A) (F0 m pc ls [.long x]) :=
  W.lret (v := x) C.1 C.2.1 C.2.2.1 (fun t ht hW => ⟨⟨x, u, rfl, hp, by rw [ht]; exact Hh.1, va_K.moved hW.alike C.K, Hh.2.1⟩, Hh.2.2.1.F ht⟩) Hh.2.2.1.2.2 hdg C.lk
/-! arrays -/
theorem gw_ld {len x : Nat} {F : Nat → Nat} (C : gw_C p s m args meth c G own cc nL ret) (Hh : gw_H G A s ws H locs) (k : Nat) (hk : ws[k]? = some (a, .inl (G.2.1, len, .inl (fun j => nI (F j))))) (hl : len < 2 ^ 31) (hdg : decode cc pc = .ok (.iaload, 1)) (hx : x < len)
    (kk : W p l e R s m args below meth c H locs cells slots Q (F0 m (pc + 1) ls (.int (nI (F x)) :: rest))) : W p l e R s m args below meth c H locs cells slots Q (F0 m pc ls (.int (nI x) :: .ref a :: rest)) := by
  refine va_iald C.1 C.2.1 C.K Hh.1 k 0 hk rfl (vp_in_nI hx hl) hdg ?_
  rw [nI_clamp (Nat.lt_trans hx hl)]
  exact kk
theorem gw_zld {len x : Nat} {F : Nat → Nat} (C : gw_C p s m args meth c G own cc nL ret) (Hh : gw_H G A s ws H locs) (k : Nat) (hk : ws[k]? = some (a, .inl (G.2.2.1, len, .inl (fun j => nI (F j))))) (hl : len < 2 ^ 31) (hdg : decode cc pc = .ok (.baload, 1)) (hx : x < len)
    (kk : W p l e R s m args below meth c H locs cells slots Q (F0 m (pc + 1) ls (.int (nI (F x)) :: rest))) : W p l e R s m args below meth c H locs cells slots Q (F0 m pc ls (.int (nI x) :: .ref a :: rest)) := by
  refine va_zald C.1 C.2.1 C.K Hh.1 k 1 hk rfl (vp_in_nI hx hl) hdg ?_
  rw [nI_clamp (Nat.lt_trans hx hl)]
  exact kk
theorem gw_lld {len x : Nat} {F : Nat → Int} (C : gw_C p s m args meth c G own cc nL ret) (Hh : gw_H G A s ws H locs) (k : Nat) (hk : ws[k]? = some (a, .inl (G.2.2.2, len, .inr (.inl (fun j => Int64.ofInt (F j)))))) (hl : len < 2 ^ 31) (hdg : decode cc pc = .ok (.laload, 1)) (hx : x < len)
    (kk : W p l e R s m args below meth c H locs cells slots Q (F0 m (pc + 1) ls (.long (Int64.ofInt (F x)) :: rest))) : W p l e R s m args below meth c H locs cells slots Q (F0 m pc ls (.int (nI x) :: .ref a :: rest)) := by
  refine va_lald C.1 C.2.1 C.K Hh.1 k 2 hk rfl (vp_in_nI hx hl) hdg ?_
  rw [nI_clamp (Nat.lt_trans hx hl)]
  exact kk
theorem gw_upd {F : Nat → Nat} {x v : Nat} : upd (fun j => nI (F j)) x (nI v) = fun j => nI (if j = x then v else F j) := by
  funext j
  by_cases h : j = x <;> simp [upd, h]
theorem gw_updL {F : Nat → Int} {x : Nat} {v : Int} : vp_updL (fun j => Int64.ofInt (F j)) x (Int64.ofInt v) = fun j => Int64.ofInt (if j = x then v else F j) := by
  funext j
  by_cases h : j = x <;> simp [vp_updL, h]
theorem gw_st {len x v : Nat} {F : Nat → Nat} (C : gw_C p s m args meth c G own cc nL ret) (Hh : gw_H G A s ws H locs) (k : Nat) (hk : ws[k]? = some (a, .inl (G.2.1, len, .inl (fun j => nI (F j))))) (hl : len < 2 ^ 31) (hs : ws.set k (a, .inl (G.2.1, len, .inl (fun j => nI (if j = x then v else F j)))) = ws') (hdg : decode cc pc = .ok (.iastore, 1)) (hx : x < len)
    (kk : ∀ (H1 : Heap) (locs1 : List Loc), gw_H G A s ws' H1 locs1 → W p l e R s m args below meth c H1 locs1 cells slots Q (F0 m (pc + 1) ls rest)) : W p l e R s m args below meth c H locs cells slots Q (F0 m pc ls (.int (nI v) :: .int (nI x) :: .ref a :: rest)) := by
  refine va_iast C.1 C.2.1 C.K Hh.1 Hh.2.1 Hh.2.2.1 k 0 hk rfl (vp_in_nI hx hl) hdg (fun H1 locs1 hP hD hS => ?_)
  rw [nI_clamp (Nat.lt_trans hx hl), gw_upd, hs] at hP hD
  exact kk H1 locs1 ⟨hP, hD, hS, Hh.2.2.2⟩
theorem gw_zst {len x v : Nat} {F : Nat → Nat} (C : gw_C p s m args meth c G own cc nL ret) (Hh : gw_H G A s ws H locs) (k : Nat) (hk : ws[k]? = some (a, .inl (G.2.2.1, len, .inl (fun j => nI (F j))))) (hl : len < 2 ^ 31) (hs : ws.set k (a, .inl (G.2.2.1, len, .inl (fun j => nI (if j = x then v else F j)))) = ws') (hdg : decode cc pc = .ok (.bastore, 1)) (hx : x < len) (hv : v ≤ 1)
    (kk : ∀ (H1 : Heap) (locs1 : List Loc), gw_H G A s ws' H1 locs1 → W p l e R s m args below meth c H1 locs1 cells slots Q (F0 m (pc + 1) ls rest)) : W p l e R s m args below meth c H locs cells slots Q (F0 m pc ls (.int (nI v) :: .int (nI x) :: .ref a :: rest)) := by
  refine va_zast C.1 C.2.1 C.K Hh.1 Hh.2.1 Hh.2.2.1 k 1 hk rfl (vp_in_nI hx hl) hdg (fun H1 locs1 hP hD hS => ?_)
  have hn : vp_nar .boolean (nI v) = nI v := by
    unfold vp_nar
    rw [gw_nar01 hv]
  rw [hn, nI_clamp (Nat.lt_trans hx hl), gw_upd, hs] at hP hD
  exact kk H1 locs1 ⟨hP, hD, hS, Hh.2.2.2⟩
theorem gw_lst {len x : Nat} {v : Int} {F : Nat → Int} (C : gw_C p s m args meth c G own cc nL ret) (Hh : gw_H G A s ws H locs) (k : Nat) (hk : ws[k]? = some (a, .inl (G.2.2.2, len, .inr (.inl (fun j => Int64.ofInt (F j)))))) (hl : len < 2 ^ 31) (hs : ws.set k (a, .inl (G.2.2.2, len, .inr (.inl (fun j => Int64.ofInt (if j = x then v else F j))))) = ws') (hdg : decode cc pc = .ok (.lastore, 1)) (hx : x < len)
    (kk : ∀ (H1 : Heap) (locs1 : List Loc), gw_H G A s ws' H1 locs1 → W p l e R s m args below meth c H1 locs1 cells slots Q (F0 m (pc + 1) ls rest)) : W p l e R s m args below meth c H locs cells slots Q (F0 m pc ls (.long (Int64.ofInt v) :: .int (nI x) :: .ref a :: rest)) := by
  refine va_last C.1 C.2.1 C.K Hh.1 Hh.2.1 Hh.2.2.1 k 2 hk rfl (vp_in_nI hx hl) hdg (fun H1 locs1 hP hD hS => ?_)
  rw [nI_clamp (Nat.lt_trans hx hl), gw_updL, hs] at hP hD
  exact kk H1 locs1 ⟨hP, hD, hS, Hh.2.2.2⟩
theorem gw_len {len : Nat} {x : vp_A} {t0 : Nat} {cA : ClassId} {ty : FieldType} (C : gw_C p s m args meth c G own cc nL ret) (Hh : gw_H G A s ws H locs) (k : Nat) (hk : ws[k]? = some (a, .inl (cA, x))) (ht : (gw_ty G)[t0]? = some (cA, ty)) (hn : x.1 = len) (hdg : decode cc pc = .ok (.arraylength, 1))
    (kk : W p l e R s m args below meth c H locs cells slots Q (F0 m (pc + 1) ls (.int (nI len) :: rest))) : W p l e R s m args below meth c H locs cells slots Q (F0 m pc ls (.ref a :: rest)) :=
  va_alen C.1 C.2.1 C.K Hh.1 k t0 hk ht (by rw [hn]; rfl) hdg kk
/-! fields -/
theorem gw_get {ci N idx : Nat} {Cn : String} {T : u_T} {fs : List Value} {v : Value} (C : gw_C p s m args meth c G own cc nL ret) (Hh : gw_H G A s ws H locs) (i : Nat) (he : ws[i]? = some (a, .inr (ci, fs))) (hc : vcl[ci]? = some (Cn, T, N)) (hin : ∀ w ∈ u_ws Cn T N, w ∈ pf_tb) (k : Nat) (hk : k < N) (hT : (T k).1 = Cn) (hw : Cond.fieldLink own idx Cn (T k).2.1 (T k).2.2.1 ∈ pf_tb) (hv : fs[k]? = some v) (hdg : decode cc pc = .ok (.getfield idx, 3))
    (kk : W p l e R s m args below meth c H locs cells slots Q (F0 m (pc + 3) ls (v :: rest))) : W p l e R s m args below meth c H locs cells slots Q (F0 m pc ls (.ref a :: rest)) :=
  va_get C.1 C.2.1 C.2.2.2.2.2.1 hin C.cl C.K Hh.1 i he hc k hk (C.ts hw) (fun x h => by rw [hT] at h; exact h) hv hdg kk
theorem gw_getN {ci N idx : Nat} {Cn host : String} {T : u_T} {fs : List Value} {v : Value} (C : gw_C p s m args meth c G own cc nL ret) (Hh : gw_H G A s ws H locs) (i : Nat) (he : ws[i]? = some (a, .inr (ci, fs))) (hc : vcl[ci]? = some (Cn, T, N)) (hin : ∀ w ∈ u_ws Cn T N, w ∈ pf_tb) (k : Nat) (hk : k < N) (hT : (T k).1 = Cn) (hw : Cond.fieldLinkNest own idx Cn (T k).2.1 (T k).2.2.1 host ∈ pf_nest) (hv : fs[k]? = some v) (hdg : decode cc pc = .ok (.getfield idx, 3))
    (kk : W p l e R s m args below meth c H locs cells slots Q (F0 m (pc + 3) ls (v :: rest))) : W p l e R s m args below meth c H locs cells slots Q (F0 m pc ls (.ref a :: rest)) :=
  va_getN C.1 C.2.1 C.2.2.2.2.2.1 hin C.cl C.K Hh.1 i he hc k hk (va_Nw.use rfl (C.nw hw)) (fun x h => by rw [hT] at h; exact h) hv hdg kk
theorem gw_put {ci N idx : Nat} {Cn : String} {T : u_T} {ty0 : Nat → FieldType} {fs : List Value} {v : Int32} (C : gw_C p s m args meth c G own cc nL ret) (Hh : gw_H G A s ws H locs) (i : Nat) (he : ws[i]? = some (a, .inr (ci, fs))) (hc : vcl[ci]? = some (Cn, T, N)) (hin : ∀ w ∈ u_ws Cn T N, w ∈ pf_tb) (hty : ∀ k, k < N → parseFieldDescriptor (T k).2.2.1 = some (ty0 k)) (hnm : ∀ a, a < N → ∀ b, b < N → a ≠ b → (T a).2.1 ≠ (T b).2.1) (k : Nat) (hk : k < N) (hT : (T k).1 = Cn) (hw : Cond.fieldLink own idx Cn (T k).2.1 (T k).2.2.1 ∈ pf_tb) (hfin : (T k).2.2.2 = false) (hd : parseFieldDescriptor (T k).2.2.1 = some .int) (hl : k < fs.length) (hs : ws.set i (a, .inr (ci, fs.set k (.int v))) = ws') (hdg : decode cc pc = .ok (.putfield idx, 3))
    (kk : ∀ (H1 : Heap) (locs1 : List Loc), gw_H G A s ws' H1 locs1 → W p l e R s m args below meth c H1 locs1 cells slots Q (F0 m (pc + 3) ls rest)) : W p l e R s m args below meth c H locs cells slots Q (F0 m pc ls (.int v :: .ref a :: rest)) := by
  refine va_put (ty := .int) C.1 C.2.1 C.2.2.2.2.2.1 hin ty0 hty hnm C.cl C.K Hh.1 Hh.2.1 Hh.2.2.1 i he hc k hk (C.ts hw) (fun x h => by rw [hT] at h; exact h) hfin hd rfl rfl hl hdg (fun H1 locs1 hP hD hS => ?_)
  rw [hs] at hP hD
  exact kk H1 locs1 ⟨hP, hD, hS, Hh.2.2.2⟩
/-! numbers -/
theorem gw_iadd {x y : Nat} (C : gw_C p s m args meth c G own cc nL ret) (hdg : decode cc pc = .ok (.iadd, 1)) (kk : W p l e R s m args below meth c H locs cells slots Q (F0 m (pc + 1) ls (.int (nI (x + y)) :: rest))) : W p l e R s m args below meth c H locs cells slots Q (F0 m pc ls (.int (nI y) :: .int (nI x) :: rest)) :=
  lv_iadd C.1 C.2.1 hdg (by rw [nI_add]; exact kk)
theorem gw_imul {x y : Nat} (C : gw_C p s m args meth c G own cc nL ret) (hdg : decode cc pc = .ok (.imul, 1)) (kk : W p l e R s m args below meth c H locs cells slots Q (F0 m (pc + 1) ls (.int (nI (x * y)) :: rest))) : W p l e R s m args below meth c H locs cells slots Q (F0 m pc ls (.int (nI y) :: .int (nI x) :: rest)) :=
  lv_imul C.1 C.2.1 hdg (by rw [pk_mul]; exact kk)
theorem gw_isub {x y : Nat} (C : gw_C p s m args meth c G own cc nL ret) (hdg : decode cc pc = .ok (.isub, 1)) (h : y ≤ x) (kk : W p l e R s m args below meth c H locs cells slots Q (F0 m (pc + 1) ls (.int (nI (x - y)) :: rest))) : W p l e R s m args below meth c H locs cells slots Q (F0 m pc ls (.int (nI y) :: .int (nI x) :: rest)) :=
  lv_isub C.1 C.2.1 hdg (by rw [pk_sub h]; exact kk)
theorem gw_icmp_eq {x y tgt : Nat} {off : Int} (C : gw_C p s m args meth c G own cc nL ret) (hdg : decode cc pc = .ok (.if_icmp .eq off, 3)) (ht : (pc : Int) + off = (tgt : Int)) (hx : x < 2 ^ 31) (hy : y < 2 ^ 31) (kt : x = y → W p l e R s m args below meth c H locs cells slots Q (F0 m tgt ls rest)) (kf : x ≠ y → W p l e R s m args below meth c H locs cells slots Q (F0 m (pc + 3) ls rest)) : W p l e R s m args below meth c H locs cells slots Q (F0 m pc ls (.int (nI y) :: .int (nI x) :: rest)) :=
  lv_icmp_eq C.1 C.2.1 hdg ht (fun h => kt ((nI_eq hx hy).mp h)) (fun h => kf (fun q => h ((nI_eq hx hy).mpr q)))
theorem gw_icmp_ne {x y tgt : Nat} {off : Int} (C : gw_C p s m args meth c G own cc nL ret) (hdg : decode cc pc = .ok (.if_icmp .ne off, 3)) (ht : (pc : Int) + off = (tgt : Int)) (hx : x < 2 ^ 31) (hy : y < 2 ^ 31) (kt : x ≠ y → W p l e R s m args below meth c H locs cells slots Q (F0 m tgt ls rest)) (kf : x = y → W p l e R s m args below meth c H locs cells slots Q (F0 m (pc + 3) ls rest)) : W p l e R s m args below meth c H locs cells slots Q (F0 m pc ls (.int (nI y) :: .int (nI x) :: rest)) :=
  lv_icmp_ne C.1 C.2.1 hdg ht (fun h => kt (fun q => h ((nI_eq hx hy).mpr q))) (fun h => kf ((nI_eq hx hy).mp h))
theorem gw_icmp_lt {x y tgt : Nat} {off : Int} (C : gw_C p s m args meth c G own cc nL ret) (hdg : decode cc pc = .ok (.if_icmp .lt off, 3)) (ht : (pc : Int) + off = (tgt : Int)) (hx : x < 2 ^ 31) (hy : y < 2 ^ 31) (kt : x < y → W p l e R s m args below meth c H locs cells slots Q (F0 m tgt ls rest)) (kf : y ≤ x → W p l e R s m args below meth c H locs cells slots Q (F0 m (pc + 3) ls rest)) : W p l e R s m args below meth c H locs cells slots Q (F0 m pc ls (.int (nI y) :: .int (nI x) :: rest)) :=
  lv_icmp_lt C.1 C.2.1 hdg ht (fun h => kt ((nI_ltI hx hy).mp h)) (fun h => kf (Nat.le_of_not_lt (fun q => h ((nI_ltI hx hy).mpr q))))
theorem gw_icmp_ge {x y tgt : Nat} {off : Int} (C : gw_C p s m args meth c G own cc nL ret) (hdg : decode cc pc = .ok (.if_icmp .ge off, 3)) (ht : (pc : Int) + off = (tgt : Int)) (hx : x < 2 ^ 31) (hy : y < 2 ^ 31) (kt : y ≤ x → W p l e R s m args below meth c H locs cells slots Q (F0 m tgt ls rest)) (kf : x < y → W p l e R s m args below meth c H locs cells slots Q (F0 m (pc + 3) ls rest)) : W p l e R s m args below meth c H locs cells slots Q (F0 m pc ls (.int (nI y) :: .int (nI x) :: rest)) :=
  lv_icmp_ge C.1 C.2.1 hdg ht (fun h => kt ((nI_leI hy hx).mp h)) (fun h => kf (Nat.lt_of_not_le (fun q => h ((nI_leI hy hx).mpr q))))
theorem gw_icmp_gt {x y tgt : Nat} {off : Int} (C : gw_C p s m args meth c G own cc nL ret) (hdg : decode cc pc = .ok (.if_icmp .gt off, 3)) (ht : (pc : Int) + off = (tgt : Int)) (hx : x < 2 ^ 31) (hy : y < 2 ^ 31) (kt : y < x → W p l e R s m args below meth c H locs cells slots Q (F0 m tgt ls rest)) (kf : x ≤ y → W p l e R s m args below meth c H locs cells slots Q (F0 m (pc + 3) ls rest)) : W p l e R s m args below meth c H locs cells slots Q (F0 m pc ls (.int (nI y) :: .int (nI x) :: rest)) :=
  lv_icmp_gt C.1 C.2.1 hdg ht (fun h => kt ((nI_ltI hy hx).mp h)) (fun h => kf (Nat.le_of_not_lt (fun q => h ((nI_ltI hy hx).mpr q))))
theorem gw_icmp_le {x y tgt : Nat} {off : Int} (C : gw_C p s m args meth c G own cc nL ret) (hdg : decode cc pc = .ok (.if_icmp .le off, 3)) (ht : (pc : Int) + off = (tgt : Int)) (hx : x < 2 ^ 31) (hy : y < 2 ^ 31) (kt : x ≤ y → W p l e R s m args below meth c H locs cells slots Q (F0 m tgt ls rest)) (kf : y < x → W p l e R s m args below meth c H locs cells slots Q (F0 m (pc + 3) ls rest)) : W p l e R s m args below meth c H locs cells slots Q (F0 m pc ls (.int (nI y) :: .int (nI x) :: rest)) :=
  lv_icmp_le C.1 C.2.1 hdg ht (fun h => kt ((nI_leI hx hy).mp h)) (fun h => kf (Nat.lt_of_not_le (fun q => h ((nI_leI hx hy).mpr q))))
theorem gw_if_eq {x tgt : Nat} {off : Int} (C : gw_C p s m args meth c G own cc nL ret) (hdg : decode cc pc = .ok (.ifCond .eq off, 3)) (ht : (pc : Int) + off = (tgt : Int)) (hx : x < 2 ^ 31) (kt : x = 0 → W p l e R s m args below meth c H locs cells slots Q (F0 m tgt ls rest)) (kf : 0 < x → W p l e R s m args below meth c H locs cells slots Q (F0 m (pc + 3) ls rest)) : W p l e R s m args below meth c H locs cells slots Q (F0 m pc ls (.int (nI x) :: rest)) :=
  lv_if_eq C.1 C.2.1 hdg ht (fun h => kt ((nI_eq hx (by decide)).mp (h.trans nI_0.symm))) (fun h => kf (Nat.pos_of_ne_zero fun q => h (by rw [q, nI_0])))
theorem gw_if_ne {x tgt : Nat} {off : Int} (C : gw_C p s m args meth c G own cc nL ret) (hdg : decode cc pc = .ok (.ifCond .ne off, 3)) (ht : (pc : Int) + off = (tgt : Int)) (hx : x < 2 ^ 31) (kt : 0 < x → W p l e R s m args below meth c H locs cells slots Q (F0 m tgt ls rest)) (kf : x = 0 → W p l e R s m args below meth c H locs cells slots Q (F0 m (pc + 3) ls rest)) : W p l e R s m args below meth c H locs cells slots Q (F0 m pc ls (.int (nI x) :: rest)) :=
  lv_if_ne C.1 C.2.1 hdg ht (fun h => kt (Nat.pos_of_ne_zero fun q => h (by rw [q, nI_0]))) (fun h => kf ((nI_eq hx (by decide)).mp (h.trans nI_0.symm)))
theorem gw_if_le {x tgt : Nat} {off : Int} (C : gw_C p s m args meth c G own cc nL ret) (hdg : decode cc pc = .ok (.ifCond .le off, 3)) (ht : (pc : Int) + off = (tgt : Int)) (hx : x < 2 ^ 31) (kt : x = 0 → W p l e R s m args below meth c H locs cells slots Q (F0 m tgt ls rest)) (kf : 0 < x → W p l e R s m args below meth c H locs cells slots Q (F0 m (pc + 3) ls rest)) : W p l e R s m args below meth c H locs cells slots Q (F0 m pc ls (.int (nI x) :: rest)) :=
  lv_if_le C.1 C.2.1 hdg ht (fun h => kt (Nat.le_zero.mp ((nI_leI hx (by decide : 0 < 2 ^ 31)).mp (by rw [nI_0]; exact h)))) (fun h => kf (Nat.pos_of_ne_zero fun q => h (by rw [q, nI_0]; decide)))
theorem gw_if_gt {x tgt : Nat} {off : Int} (C : gw_C p s m args meth c G own cc nL ret) (hdg : decode cc pc = .ok (.ifCond .gt off, 3)) (ht : (pc : Int) + off = (tgt : Int)) (hx : x < 2 ^ 31) (kt : 0 < x → W p l e R s m args below meth c H locs cells slots Q (F0 m tgt ls rest)) (kf : x = 0 → W p l e R s m args below meth c H locs cells slots Q (F0 m (pc + 3) ls rest)) : W p l e R s m args below meth c H locs cells slots Q (F0 m pc ls (.int (nI x) :: rest)) :=
  lv_if_gt C.1 C.2.1 hdg ht (fun h => kt ((nI_ltI (by decide : 0 < 2 ^ 31) hx).mp (by rw [nI_0]; exact h))) (fun h => kf (Nat.le_zero.mp (Nat.le_of_not_lt fun q => h (by rw [← nI_0]; exact nI_lt q hx))))
theorem gw_if_lt {x tgt : Nat} {off : Int} (C : gw_C p s m args meth c G own cc nL ret) (hdg : decode cc pc = .ok (.ifCond .lt off, 3)) (ht : (pc : Int) + off = (tgt : Int)) (hx : x < 2 ^ 31) (kf : W p l e R s m args below meth c H locs cells slots Q (F0 m (pc + 3) ls rest)) : W p l e R s m args below meth c H locs cells slots Q (F0 m pc ls (.int (nI x) :: rest)) :=
  lv_if_lt C.1 C.2.1 hdg ht (fun h => absurd h (nI_pos hx)) (fun _ => kf)
theorem gw_if_ge {x tgt : Nat} {off : Int} (C : gw_C p s m args meth c G own cc nL ret) (hdg : decode cc pc = .ok (.ifCond .ge off, 3)) (ht : (pc : Int) + off = (tgt : Int)) (hx : x < 2 ^ 31) (kt : W p l e R s m args below meth c H locs cells slots Q (F0 m tgt ls rest)) : W p l e R s m args below meth c H locs cells slots Q (F0 m pc ls (.int (nI x) :: rest)) :=
  lv_if_ge C.1 C.2.1 hdg ht (fun _ => kt) (fun h => absurd (nI_pos' hx) h)
/-! calls over the whole world -/
theorem gw_free (Hh : gw_H G A s ws H locs) : ∀ q, va_A ws H.size q → A q := by
  intro q h
  rcases h with ⟨k, e, h⟩ | h
  · exact Hh.2.1.2 k (q, e) h
  · exact Hh.2.2.2 q (Nat.le_trans Hh.2.2.1.1 h)
theorem gw_blind {argv : List Value} {sz : Nat} : FrameBlind (va_Pc argv (gw_pre G ws sz)) := fun a U g mk q => by
  obtain ⟨q0, q1, qP, qK, qD, qX⟩ := q
  exact ⟨q0, q1, qP, va_K.moved (u := U) (U := U.calling g mk a) (Vm.Alike.refl U.vm) qK, qD, pf_X_same (u := U) (U := U.calling g mk a) rfl qX⟩
theorem gw_give (C : gw_C p s m args meth c G own cc nL ret) (Hh : gw_H G A s ws H locs) {argv : List Value} : ∀ U : State, U.heap = H → s.WarmedH U.vm → va_Pc argv (gw_pre G ws H.size) argv.toArray U := fun U hU hW =>
  ⟨rfl, by rw [hU], by rw [hU]; exact Hh.1, va_K.moved hW.alike C.K, Hh.2.1.weaken (fun _ _ _ _ => trivial), pf_X_warm hW C.X⟩
theorem gw_good {y : MethodName} {c1 : ByteArray} {mL : Nat} {r1 : Option FieldType} (h : Cond.code y c1 mL r1 ∈ pf_tb) : GoodIn pf_tb (Cond.code y c1 mL r1 :: pf_tb) := by
  intro w hw
  rcases List.mem_cons.mp hw with rfl | hw
  · exact ⟨h, good_of_word (List.mem_filter.mp h).2⟩
  · exact ⟨hw, good_of_word (List.mem_filter.mp hw).2⟩
theorem gw_goodV {y : MethodName} {C1 : String} {idx : Nat} {ws : List Cond} (h1 : Cond.methodLink own idx y ∈ pf_tb) (h2 : Cond.instanceMethod y ∈ pf_tb) (h3 : Cond.selects C1 y y ∈ pf_tb) (h4 : Cond.initialized C1 ∈ pf_tb) (hg : GoodIn pf_tb ws) : GoodIn pf_tb (wsV own idx C1 y ws) := by
  intro w hw
  unfold wsV at hw
  have g : ∀ w, w ∈ pf_tb → w ∈ pf_tb ∧ ((w.onTables && w.keeps) = true ∨ ∃ ty, w = .arrayClass ty) := fun w h => ⟨h, good_of_word (List.mem_filter.mp h).2⟩
  simp only [List.cons_append, List.nil_append, List.mem_cons] at hw
  rcases hw with rfl | rfl | rfl | rfl | hw
  · exact g _ h1
  · exact g _ h2
  · exact g _ h3
  · exact g _ h4
  · exact hg w hw
theorem gw_goodS {y : MethodName} {idx : Nat} {ws : List Cond} (h1 : Cond.methodLink own idx y ∈ pf_tb) (h2 : Cond.static y ∈ pf_tb) (h4 : Cond.initialized own ∈ pf_tb) (hg : GoodIn pf_tb ws) : GoodIn pf_tb (wsS own idx y ws) := by
  intro w hw
  unfold wsS at hw
  have g : ∀ w, w ∈ pf_tb → w ∈ pf_tb ∧ ((w.onTables && w.keeps) = true ∨ ∃ ty, w = .arrayClass ty) := fun w h => ⟨h, good_of_word (List.mem_filter.mp h).2⟩
  simp only [List.cons_append, List.nil_append, List.mem_cons] at hw
  rcases hw with rfl | rfl | rfl | hw
  · exact g _ h1
  · exact g _ h2
  · exact g _ h4
  · exact hg w hw
end GWA
