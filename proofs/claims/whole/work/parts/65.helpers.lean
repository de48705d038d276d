/-! the law's helpers: a call of the class, what it throws as a number -/
def hw (G : gw_G) (q : Nat → Nat) (o : Nat) (x : pf_S × (Nat → Int)) : va_W := (o, .inl (G.2.2.2, 1, .inr (.inl (fun j => Int64.ofInt (x.2 j))))) :: pw G q x.1
def exn (i : Nat) : String := if i = 0 then "java/lang/IllegalArgumentException" else if i = 1 then "java/lang/IllegalStateException" else if i = 2 then "java/lang/UnsupportedOperationException" else if i = 3 then "java/util/NoSuchElementException" else "java/lang/ArithmeticException"
def hx_N (U : State) : Prop := ∀ i j, i < 5 → j < 5 → i ≠ j → va_Nc (exn i) (exn j) U
theorem hx_N_moved {u U : State} (h : u.vm.Alike U.vm) (hx : hx_N u) : hx_N U := fun i j h1 h2 h3 => (hx i j h1 h2 h3).moved h
def hx_pre (G : gw_G) (ws : va_W) (sz : Nat) : State → Prop := fun U => gx_pre G ws sz U ∧ hx_N U
def hx_M (l : Launch) (y : MethodName) (cc : ByteArray) (mL : Nat) (hh : List (Nat × Nat × Nat × Nat)) (fr lo : Nat) (argv : List Value) (G : gw_G) (q : Nat → Nat) (o : Nat) (x : pf_S × (Nat → Int)) (post : Int32 → pf_S × (Nat → Int) → Prop) : Prop :=
  ∀ sz : Nat, Met l y (Cond.codeWith y cc mL (some .int) hh :: pf_tb) (gx_rm fr lo) (va_Pc argv (hx_pre G (hw G q o x) sz)) (va_Qi post (gw_at G (va_A (hw G q o x) sz) (hw G q o)) (va_A (hw G q o x) sz)) 1 6 (va_A (hw G q o x) sz)
section HXA
variable {p : Program} {l : Launch} {e : Env} {R : Room} {s : State} {m : MethodId} {args : Array Value} {below : List Frame} {meth : Method} {c : Code} {H : Heap} {locs : List Loc} {cells slots : Nat} {Q : State → Prop}
variable {cc : ByteArray} {pc : Nat} {ls : Array Slot} {rest : List Value} {G : gw_G} {A : Nat → Prop} {own : String} {nL : Nat} {ret : Option FieldType} {q : Nat → Nat} {o : Nat} {u : pf_S} {f : Nat → Int}
theorem hx_entry {y : MethodName} {mL fr lo : Nat} {hh : List (Nat × Nat × Nat × Nat)} {argv : List Value} {x : pf_S × (Nat → Int)} {post : Int32 → pf_S × (Nat → Int) → Prop} (hy : plainName y.cls = true) (hown : y.cls = own) (hlen : (lg_sl argv).length ≤ mL)
    (body : ∀ (p : Program) (e : Env) (s : State) (m : MethodId) (args : Array Value) (below : List Frame) (meth : Method) (c : Code) (A : Nat → Prop) (ls : Array Slot), gw_C p s m args meth c G own cc mL (some .int) → gx_C s A → hx_N s → c.exceptionTable.toList = tableOf hh → gw_H G A s (hw G q o x) s.heap [] → lv_has ls mL (lv_args 0 argv) →
      W p l e (gx_rm fr lo) s m args below meth c s.heap [] 0 0 (MQ below (va_Qi post (gw_at G A (hw G q o)) A) args s 1 6 A) (F0 m 0 ls [])) : hx_M l y cc mL hh fr lo argv G q o x post := by
  intro sz
  refine va_MetW (cc := cc) (maxL := mL) (ret := some .int) (hh := hh) hy rfl ?_
  intro p e s m args below meth c s₁ B hml hv
  obtain ⟨rfl, ⟨⟨hsz, hP, hK, hD0, hX⟩, hY, hT, hZ⟩, hN⟩ := hv
  subst hsz
  have hts := atoms_spec (ws := Cond.codeWith y cc mL (some .int) hh :: pf_tb) B.pre
  have hown' : s.vm.findClass y.cls = some m.cls := findClass_of_methodNamed B.named
  have htab := vx_table (x := y) B (hts _ List.mem_cons_self)
  have hl := lv_entry argv (n := mL) hlen
  rw [lg_entry_eq]
  exact body p e s m _ below meth c _ _ ⟨B.exec, B.bytes, B.returns, hml, by rw [← hown]; exact hown', fun w hw => hts w (List.mem_cons_of_mem _ hw), B.notSynchronized, hK, hX⟩ ⟨hY, hT, hZ⟩ hN htab ⟨hP, hD0.self (sz := s.heap.size), va_S.rf, fun q h => Or.inr h⟩ hl
theorem hx_iret {post : Int32 → pf_S × (Nat → Int) → Prop} {v : Int32} (x : pf_S × (Nat → Int)) (C : gw_C p s m args meth c G own cc nL (some .int)) (Hh : gw_H G A s (hw G q o x) H locs) (hc : cells ≤ 1 ∧ slots ≤ 6) (hdg : decode cc pc = .ok (.ireturn, 1)) (hp : post v x) :
    W p l e R s m args below meth c H locs cells slots (MQ below (va_Qi post (gw_at G A (hw G q o)) A) args s 1 6 A) (F0 m pc ls [.int v]) := by
  refine W.widen (k := 1) (n := 6) hc.1 hc.2 ?_
  exact W.iret (v := v) C.1 C.2.1 C.2.2.1 (fun t ht hW => ⟨⟨v, x, rfl, hp, by rw [ht]; exact Hh.1, va_K.moved hW.alike C.K, Hh.2.1⟩, Hh.2.2.1.F ht⟩) Hh.2.2.1.2.2 hdg C.lk
theorem hx_call {y : MethodName} {c1 : ByteArray} {mL fr lo idx n : Nat} {r1 : Option FieldType} {post : Int32 → pf_S → Prop} {xp : String → pf_S → Prop} (As : List Value) (C : gw_C p s m args meth c G own cc nL ret) (X : gx_C s A) (Hh : gw_H G A s (hw G q o (u, f)) H locs) (hM : gx_MI l y c1 mL r1 fr lo (.ref (q 0) :: As) G (pw G q) u post xp)
    (t1 : Cond.methodLink own idx y ∈ pf_tb) (t2 : Cond.instanceMethod y ∈ pf_tb) (t3 : Cond.selects RX4 y y ∈ pf_tb) (t4 : Cond.initialized RX4 ∈ pf_tb) (t5 : Cond.code y c1 mL r1 ∈ pf_tb)
    (hd : y.cls = RX4 ∧ y.cls ≠ "java/lang/invoke/MethodHandle" ∧ y.cls ≠ "java/lang/invoke/VarHandle" ∧ (parseMethodDescriptor y.desc).map (fun d => d.parameters.length) = some n) (hR : fr + 1 ≤ R.frames ∧ 8 + (mL + 11) + lo ≤ R.locals)
    (hn : As.length = n) (hls : ls.size = nL) (hst : (rest.map fun v => v.category).sum ≤ 8) (hdg : decode cc pc = .ok (.invokevirtual idx, 3)) (h0 : cells + 1 ≤ R.cells ∧ slots + 6 ≤ R.slots)
    (kx : ∀ (E : String) (ce : Cell) (q9 : Addr) (u1 : pf_S) (H1 : Heap) (locs1 : List Loc), xp E u1 → gw_H G A s (hw G q o (u1, f)) H1 locs1 → H1[q9]? = some ce → ce.vm = .none → s.vm.findClass E = some ce.cls → vx_W p l e R s m args below meth c H1 locs1 (cells + 1) (slots + 6) Q (F0 m pc ls rest) q9)
    (kk : ∀ (r : Int32) (u1 : pf_S) (H1 : Heap) (locs1 : List Loc), post r u1 → gw_H G A s (hw G q o (u1, f)) H1 locs1 → W p l e R s m args below meth c H1 locs1 cells slots Q (F0 m (pc + 3) ls (.int r :: rest))) : W p l e R s m args below meth c H locs cells slots Q (F0 m pc ls (As.reverse ++ .ref (q 0) :: rest)) := by
  have Hs : gw_H G A s (pw G q u) H locs := gn_perm [1, 2, 3, 4, 5, 6, 7, 8, 9, 10, 11, 12, 13, 14, 15, 16, 17, 18, 19, 20, 21, 22, 23, 24, 25, 26, 27, 28, 29] Hh rfl rfl rfl
  refine gx_calli (gx_rV As C X Hs (hM H.size) t1 t2 t3 t4 t5 hd hR 0 pw_at0 rfl hn hls hst hdg h0) Hh.2.2.1 (fun z _ h => gw_free Hs z h) (gw_free Hs) (fun z _ h => gw_free Hs z h) (fun E ce q9 u1 t H1 locs1 ht hvm _ hB hz hk hS hce hcv hcl => ?_) (fun r u1 t H1 locs1 ht hvm hw hB hz hk hS => ?_)
  · obtain ⟨hx, hP1, hK1, hD1⟩ := hB
    rw [ht] at hP1
    obtain ⟨hP, hD⟩ := va_join (wr := [(o, .inl (G.2.2.2, 1, .inr (.inl (fun j => Int64.ofInt (f j)))))]) (wc := pw G q u) (w1 := pw G q u1) Hh.1 Hh.2.1 [1, 2, 3, 4, 5, 6, 7, 8, 9, 10, 11, 12, 13, 14, 15, 16, 17, 18, 19, 20, 21, 22, 23, 24, 25, 26, 27, 28, 29] [0] rfl rfl rfl (by decide) hk (gw_free Hs) hP1 hD1
    exact kx E ce q9 u1 H1 locs1 hx ⟨hP, hD, hS, Hh.2.2.2⟩ hce hcv hcl
  · obtain ⟨hP1, hK1, hD1⟩ := hB
    rw [ht] at hP1
    obtain ⟨hP, hD⟩ := va_join (wr := [(o, .inl (G.2.2.2, 1, .inr (.inl (fun j => Int64.ofInt (f j)))))]) (wc := pw G q u) (w1 := pw G q u1) Hh.1 Hh.2.1 [1, 2, 3, 4, 5, 6, 7, 8, 9, 10, 11, 12, 13, 14, 15, 16, 17, 18, 19, 20, 21, 22, 23, 24, 25, 26, 27, 28, 29] [0] rfl rfl rfl (by decide) hk (gw_free Hs) hP1 hD1
    exact kk r u1 H1 locs1 hw ⟨hP, hD, hS, Hh.2.2.2⟩
theorem hx_cast {w : Cond} (X : gx_C s A) (h : w ∈ pf_more) : w.before args s = true := va_Nw.use (pf_moreWord_on (List.mem_filter.mp h).2) (X.1 w h)
end HXA
theorem mw_289 : Cond.castable (exn 0) (exn 0) ∈ pf_more := mem_more (i := 289) (by decide +kernel) (by decide +kernel)
theorem mw_368 : Cond.castable (exn 1) (exn 1) ∈ pf_more := mem_more (i := 368) (by decide +kernel) (by decide +kernel)
theorem mw_384 : Cond.castable (exn 2) (exn 2) ∈ pf_more := mem_more (i := 384) (by decide +kernel) (by decide +kernel)
theorem mw_508 : Cond.castable (exn 3) (exn 3) ∈ pf_more := mem_more (i := 508) (by decide +kernel) (by decide +kernel)
theorem mw_652 : Cond.castable (exn 4) (exn 4) ∈ pf_more := mem_more (i := 652) (by decide +kernel) (by decide +kernel)
theorem c_L_arrival (l : Launch) (G : gw_G) (q : Nat → Nat) (o : Nat) (u : pf_S) (f : Nat → Int) (x : Int32) (y : Int32) (z : Int32) (hst9 : l.stackTraces = false) (h2 : cl2 u) : hx_M l yL_arrival cL_arrival 6 [(0, 12, 15, 13), (0, 12, 19, 15), (0, 12, 23, 17)] 9 180 [.ref (q 0), .int (x), .int (y), .int (z), .ref o] G q o (u, f) (fun r x1 => ∃ K k : Nat, r = nI K ∧ K = cdA u x y z ∧ ((K = 0 ∧ (cdA u x y z = 0 ∧ k = u.1 0 ∧ se_post (ad_S u (tn x) (tn y) (tn z)) x1.1) ∧ x1.2 0 = (nI k).toInt) ∨ (K ≠ 0 ∧ x1.1 = u))) := by
  refine hx_entry (own := RL) (by decide) rfl (Nat.le_of_ble_eq_true rfl) ?_
  intro p e s m args below meth c A ls C X N hT Hh hl
  have hl : lv_has ls 6 [(0, .ref (q 0)), (1, .int (x)), (2, .int (y)), (3, .int (z)), (4, .ref o)] := hl
  refine lv_aload C.1 C.2.1 dL_arrival_0 (lv_at hl 4 rfl) ?_
  refine lv_iconst (v := nI 0) C.1 C.2.1 dL_arrival_2 (by decide +kernel) ?_
  refine lv_aload_n C.1 C.2.1 dL_arrival_3 rfl (lv_at hl 0 rfl) ?_
  refine lv_iload_n C.1 C.2.1 dL_arrival_4 rfl (lv_at hl 1 rfl) ?_
  refine lv_iload_n C.1 C.2.1 dL_arrival_5 rfl (lv_at hl 2 rfl) ?_
  refine lv_iload_n C.1 C.2.1 dL_arrival_6 rfl (lv_at hl 3 rfl) ?_
  refine hx_call (n := 3) (rest := [.int (nI 0), .ref o]) [.int (x), .int (y), .int (z)] C X Hh (c_X4_arrival l G q u x y z hst9 h2) tw_277 tw_278 tw_279 tw_66 tw_280 (by decide +kernel) ⟨Nat.le_of_ble_eq_true rfl, Nat.le_of_ble_eq_true rfl⟩ rfl hl.1 (Nat.le_of_ble_eq_true rfl) dL_arrival_7 ⟨Nat.le_of_ble_eq_true rfl, Nat.le_of_ble_eq_true rfl⟩ (fun E ce q9 u1 H locs hE Hj hce hcv hcl => ?_) (fun r u1 H locs hr Hh => ?_)
  · obtain ⟨rfl, hE⟩ := hE
    rcases hE with ⟨rfl, hcd⟩ | ⟨rfl, hcd⟩ | ⟨rfl, hcd⟩
    · refine vx_catch (own := RL) (name := exn 0) (E := exn 0) C.cl [] ⟨0, 12, 15, 13⟩ [⟨0, 12, 19, 15⟩, ⟨0, 12, 23, 17⟩] (hT.trans rfl) (fun _ h => absurd h List.not_mem_nil) rfl (by decide) (C.ts tw_274) (hx_cast X mw_289) hce hcv hcl ?_
      refine lv_astore (lv' := [(5, .ref q9), (0, .ref (q 0)), (1, .int (x)), (2, .int (y)), (3, .int (z)), (4, .ref o)]) C.1 C.2.1 dL_arrival_15 hl (by decide) rfl (fun ls hl => ?_)
      refine lv_iconst (v := nI 1) C.1 C.2.1 dL_arrival_17 (by decide +kernel) ?_
      exact hx_iret (u1, f) C Hj ⟨Nat.le_of_ble_eq_true rfl, Nat.le_of_ble_eq_true rfl⟩ dL_arrival_18 ⟨1, 0, rfl, hcd.symm, Or.inr ⟨by decide, rfl⟩⟩
    · refine vx_catch (own := RL) (name := exn 1) (E := exn 1) C.cl [⟨0, 12, 15, 13⟩] ⟨0, 12, 19, 15⟩ [⟨0, 12, 23, 17⟩] (hT.trans rfl) (List.forall_mem_cons.mpr ⟨Or.inr ⟨by decide, exn 0, C.ts tw_274, N 1 0 (by decide) (by decide) (by decide)⟩, (fun _ h => absurd h List.not_mem_nil)⟩) rfl (by decide) (C.ts tw_275) (hx_cast X mw_368) hce hcv hcl ?_
      refine lv_astore (lv' := [(5, .ref q9), (0, .ref (q 0)), (1, .int (x)), (2, .int (y)), (3, .int (z)), (4, .ref o)]) C.1 C.2.1 dL_arrival_19 hl (by decide) rfl (fun ls hl => ?_)
      refine lv_iconst (v := nI 2) C.1 C.2.1 dL_arrival_21 (by decide +kernel) ?_
      exact hx_iret (u1, f) C Hj ⟨Nat.le_of_ble_eq_true rfl, Nat.le_of_ble_eq_true rfl⟩ dL_arrival_22 ⟨2, 0, rfl, hcd.symm, Or.inr ⟨by decide, rfl⟩⟩
    · refine vx_catch (own := RL) (name := exn 2) (E := exn 2) C.cl [⟨0, 12, 15, 13⟩, ⟨0, 12, 19, 15⟩] ⟨0, 12, 23, 17⟩ [] (hT.trans rfl) (List.forall_mem_cons.mpr ⟨Or.inr ⟨by decide, exn 0, C.ts tw_274, N 2 0 (by decide) (by decide) (by decide)⟩, (List.forall_mem_cons.mpr ⟨Or.inr ⟨by decide, exn 1, C.ts tw_275, N 2 1 (by decide) (by decide) (by decide)⟩, (fun _ h => absurd h List.not_mem_nil)⟩)⟩) rfl (by decide) (C.ts tw_276) (hx_cast X mw_384) hce hcv hcl ?_
      refine lv_astore (lv' := [(5, .ref q9), (0, .ref (q 0)), (1, .int (x)), (2, .int (y)), (3, .int (z)), (4, .ref o)]) C.1 C.2.1 dL_arrival_23 hl (by decide) rfl (fun ls hl => ?_)
      refine lv_iconst (v := nI 3) C.1 C.2.1 dL_arrival_25 (by decide +kernel) ?_
      exact hx_iret (u1, f) C Hj ⟨Nat.le_of_ble_eq_true rfl, Nat.le_of_ble_eq_true rfl⟩ dL_arrival_26 ⟨3, 0, rfl, hcd.symm, Or.inr ⟨by decide, rfl⟩⟩
  · obtain ⟨k, rfl, hk⟩ := hr
    refine lv_i2l C.1 C.2.1 dL_arrival_10 (lg_i2lx (nI k)) ?_
    refine gw_lst (len := 1) (x := 0) (F := f) (v := (nI k).toInt) (ws' := hw G q o (u1, fun j => if j = 0 then (nI k).toInt else f j)) C Hh 0 rfl (by decide) rfl dL_arrival_11 (by decide) (fun H locs Hh => ?_)
    refine lv_goto (tgt := 27) C.1 C.2.1 dL_arrival_12 (by decide) ?_
    refine lv_iconst (v := nI 0) C.1 C.2.1 dL_arrival_27 (by decide +kernel) ?_
    exact hx_iret (u1, fun j => if j = 0 then (nI k).toInt else f j) C Hh ⟨Nat.le_of_ble_eq_true rfl, Nat.le_of_ble_eq_true rfl⟩ dL_arrival_28 ⟨0, k, rfl, hk.1.symm, Or.inl ⟨rfl, hk, rfl⟩⟩
theorem c_L_change (l : Launch) (G : gw_G) (q : Nat → Nat) (o : Nat) (u : pf_S) (f : Nat → Int) (x : Int32) (y : Int32) (z : Int32) (hst9 : l.stackTraces = false) (h2 : cl2 u) : hx_M l yL_change cL_change 6 [(0, 12, 15, 22), (0, 12, 19, 13), (0, 12, 23, 15)] 9 179 [.ref (q 0), .int (x), .int (y), .int (z), .ref o] G q o (u, f) (fun r x1 => ∃ K k : Nat, r = nI K ∧ K = cdC u x y z ∧ ((K = 0 ∧ (cdC u x y z = 0 ∧ k = fallen x1.1 ∧ se_post (ch_S u (tn x) (tn y) (tn z)) x1.1) ∧ x1.2 0 = (nI k).toInt) ∨ (K ≠ 0 ∧ x1.1 = u))) := by
  refine hx_entry (own := RL) (by decide) rfl (Nat.le_of_ble_eq_true rfl) ?_
  intro p e s m args below meth c A ls C X N hT Hh hl
  have hl : lv_has ls 6 [(0, .ref (q 0)), (1, .int (x)), (2, .int (y)), (3, .int (z)), (4, .ref o)] := hl
  refine lv_aload C.1 C.2.1 dL_change_0 (lv_at hl 4 rfl) ?_
  refine lv_iconst (v := nI 0) C.1 C.2.1 dL_change_2 (by decide +kernel) ?_
  refine lv_aload_n C.1 C.2.1 dL_change_3 rfl (lv_at hl 0 rfl) ?_
  refine lv_iload_n C.1 C.2.1 dL_change_4 rfl (lv_at hl 1 rfl) ?_
  refine lv_iload_n C.1 C.2.1 dL_change_5 rfl (lv_at hl 2 rfl) ?_
  refine lv_iload_n C.1 C.2.1 dL_change_6 rfl (lv_at hl 3 rfl) ?_
  refine hx_call (n := 3) (rest := [.int (nI 0), .ref o]) [.int (x), .int (y), .int (z)] C X Hh (c_X4_change l G q u x y z hst9 h2) tw_498 tw_499 tw_500 tw_66 tw_501 (by decide +kernel) ⟨Nat.le_of_ble_eq_true rfl, Nat.le_of_ble_eq_true rfl⟩ rfl hl.1 (Nat.le_of_ble_eq_true rfl) dL_change_7 ⟨Nat.le_of_ble_eq_true rfl, Nat.le_of_ble_eq_true rfl⟩ (fun E ce q9 u1 H locs hE Hj hce hcv hcl => ?_) (fun r u1 H locs hr Hh => ?_)
  · obtain ⟨rfl, hE⟩ := hE
    rcases hE with ⟨rfl, hcd⟩ | ⟨rfl, hcd⟩ | ⟨rfl, hcd⟩
    · refine vx_catch (own := RL) (name := exn 3) (E := exn 3) C.cl [] ⟨0, 12, 15, 22⟩ [⟨0, 12, 19, 13⟩, ⟨0, 12, 23, 15⟩] (hT.trans rfl) (fun _ h => absurd h List.not_mem_nil) rfl (by decide) (C.ts tw_497) (hx_cast X mw_508) hce hcv hcl ?_
      refine lv_astore (lv' := [(5, .ref q9), (0, .ref (q 0)), (1, .int (x)), (2, .int (y)), (3, .int (z)), (4, .ref o)]) C.1 C.2.1 dL_change_15 hl (by decide) rfl (fun ls hl => ?_)
      refine lv_iconst (v := nI 1) C.1 C.2.1 dL_change_17 (by decide +kernel) ?_
      exact hx_iret (u1, f) C Hj ⟨Nat.le_of_ble_eq_true rfl, Nat.le_of_ble_eq_true rfl⟩ dL_change_18 ⟨1, 0, rfl, hcd.symm, Or.inr ⟨by decide, rfl⟩⟩
    · refine vx_catch (own := RL) (name := exn 0) (E := exn 0) C.cl [⟨0, 12, 15, 22⟩] ⟨0, 12, 19, 13⟩ [⟨0, 12, 23, 15⟩] (hT.trans rfl) (List.forall_mem_cons.mpr ⟨Or.inr ⟨by decide, exn 3, C.ts tw_497, N 0 3 (by decide) (by decide) (by decide)⟩, (fun _ h => absurd h List.not_mem_nil)⟩) rfl (by decide) (C.ts tw_274) (hx_cast X mw_289) hce hcv hcl ?_
      refine lv_astore (lv' := [(5, .ref q9), (0, .ref (q 0)), (1, .int (x)), (2, .int (y)), (3, .int (z)), (4, .ref o)]) C.1 C.2.1 dL_change_19 hl (by decide) rfl (fun ls hl => ?_)
      refine lv_iconst (v := nI 2) C.1 C.2.1 dL_change_21 (by decide +kernel) ?_
      exact hx_iret (u1, f) C Hj ⟨Nat.le_of_ble_eq_true rfl, Nat.le_of_ble_eq_true rfl⟩ dL_change_22 ⟨2, 0, rfl, hcd.symm, Or.inr ⟨by decide, rfl⟩⟩
    · refine vx_catch (own := RL) (name := exn 1) (E := exn 1) C.cl [⟨0, 12, 15, 22⟩, ⟨0, 12, 19, 13⟩] ⟨0, 12, 23, 15⟩ [] (hT.trans rfl) (List.forall_mem_cons.mpr ⟨Or.inr ⟨by decide, exn 3, C.ts tw_497, N 1 3 (by decide) (by decide) (by decide)⟩, (List.forall_mem_cons.mpr ⟨Or.inr ⟨by decide, exn 0, C.ts tw_274, N 1 0 (by decide) (by decide) (by decide)⟩, (fun _ h => absurd h List.not_mem_nil)⟩)⟩) rfl (by decide) (C.ts tw_275) (hx_cast X mw_368) hce hcv hcl ?_
      refine lv_astore (lv' := [(5, .ref q9), (0, .ref (q 0)), (1, .int (x)), (2, .int (y)), (3, .int (z)), (4, .ref o)]) C.1 C.2.1 dL_change_23 hl (by decide) rfl (fun ls hl => ?_)
      refine lv_iconst (v := nI 3) C.1 C.2.1 dL_change_25 (by decide +kernel) ?_
      exact hx_iret (u1, f) C Hj ⟨Nat.le_of_ble_eq_true rfl, Nat.le_of_ble_eq_true rfl⟩ dL_change_26 ⟨3, 0, rfl, hcd.symm, Or.inr ⟨by decide, rfl⟩⟩
  · obtain ⟨k, rfl, hk⟩ := hr
    refine lv_i2l C.1 C.2.1 dL_change_10 (lg_i2lx (nI k)) ?_
    refine gw_lst (len := 1) (x := 0) (F := f) (v := (nI k).toInt) (ws' := hw G q o (u1, fun j => if j = 0 then (nI k).toInt else f j)) C Hh 0 rfl (by decide) rfl dL_change_11 (by decide) (fun H locs Hh => ?_)
    refine lv_goto (tgt := 27) C.1 C.2.1 dL_change_12 (by decide) ?_
    refine lv_iconst (v := nI 0) C.1 C.2.1 dL_change_27 (by decide +kernel) ?_
    exact hx_iret (u1, fun j => if j = 0 then (nI k).toInt else f j) C Hh ⟨Nat.le_of_ble_eq_true rfl, Nat.le_of_ble_eq_true rfl⟩ dL_change_28 ⟨0, k, rfl, hk.1.symm, Or.inl ⟨rfl, hk, rfl⟩⟩
theorem c_L_aside (l : Launch) (G : gw_G) (q : Nat → Nat) (o : Nat) (u : pf_S) (f : Nat → Int) (x : Int32) (y : Int32) (hst9 : l.stackTraces = false) (h2 : cl2 u) : hx_M l yL_aside cL_aside 5 [(0, 10, 13, 22), (0, 10, 17, 13)] 8 178 [.ref (q 0), .int (x), .int (y), .ref o] G q o (u, f) (fun r x1 => ∃ K k : Nat, r = nI K ∧ K = cdS u x y ∧ ((K = 0 ∧ (cdS u x y = 0 ∧ k = fallen x1.1 ∧ se_post (as_S u (tn x) (tn y)) x1.1) ∧ x1.2 0 = (nI k).toInt) ∨ (K ≠ 0 ∧ x1.1 = u))) := by
  refine hx_entry (own := RL) (by decide) rfl (Nat.le_of_ble_eq_true rfl) ?_
  intro p e s m args below meth c A ls C X N hT Hh hl
  have hl : lv_has ls 5 [(0, .ref (q 0)), (1, .int (x)), (2, .int (y)), (3, .ref o)] := hl
  refine lv_aload_n C.1 C.2.1 dL_aside_0 rfl (lv_at hl 3 rfl) ?_
  refine lv_iconst (v := nI 0) C.1 C.2.1 dL_aside_1 (by decide +kernel) ?_
  refine lv_aload_n C.1 C.2.1 dL_aside_2 rfl (lv_at hl 0 rfl) ?_
  refine lv_iload_n C.1 C.2.1 dL_aside_3 rfl (lv_at hl 1 rfl) ?_
  refine lv_iload_n C.1 C.2.1 dL_aside_4 rfl (lv_at hl 2 rfl) ?_
  refine hx_call (n := 2) (rest := [.int (nI 0), .ref o]) [.int (x), .int (y)] C X Hh (c_X4_aside l G q u x y hst9 h2) tw_526 tw_527 tw_528 tw_66 tw_529 (by decide +kernel) ⟨Nat.le_of_ble_eq_true rfl, Nat.le_of_ble_eq_true rfl⟩ rfl hl.1 (Nat.le_of_ble_eq_true rfl) dL_aside_5 ⟨Nat.le_of_ble_eq_true rfl, Nat.le_of_ble_eq_true rfl⟩ (fun E ce q9 u1 H locs hE Hj hce hcv hcl => ?_) (fun r u1 H locs hr Hh => ?_)
  · obtain ⟨rfl, hE⟩ := hE
    rcases hE with ⟨rfl, hcd⟩ | ⟨rfl, hcd⟩
    · refine vx_catch (own := RL) (name := exn 3) (E := exn 3) C.cl [] ⟨0, 10, 13, 22⟩ [⟨0, 10, 17, 13⟩] (hT.trans rfl) (fun _ h => absurd h List.not_mem_nil) rfl (by decide) (C.ts tw_497) (hx_cast X mw_508) hce hcv hcl ?_
      refine lv_astore (lv' := [(4, .ref q9), (0, .ref (q 0)), (1, .int (x)), (2, .int (y)), (3, .ref o)]) C.1 C.2.1 dL_aside_13 hl (by decide) rfl (fun ls hl => ?_)
      refine lv_iconst (v := nI 1) C.1 C.2.1 dL_aside_15 (by decide +kernel) ?_
      exact hx_iret (u1, f) C Hj ⟨Nat.le_of_ble_eq_true rfl, Nat.le_of_ble_eq_true rfl⟩ dL_aside_16 ⟨1, 0, rfl, hcd.symm, Or.inr ⟨by decide, rfl⟩⟩
    · refine vx_catch (own := RL) (name := exn 0) (E := exn 0) C.cl [⟨0, 10, 13, 22⟩] ⟨0, 10, 17, 13⟩ [] (hT.trans rfl) (List.forall_mem_cons.mpr ⟨Or.inr ⟨by decide, exn 3, C.ts tw_497, N 0 3 (by decide) (by decide) (by decide)⟩, (fun _ h => absurd h List.not_mem_nil)⟩) rfl (by decide) (C.ts tw_274) (hx_cast X mw_289) hce hcv hcl ?_
      refine lv_astore (lv' := [(4, .ref q9), (0, .ref (q 0)), (1, .int (x)), (2, .int (y)), (3, .ref o)]) C.1 C.2.1 dL_aside_17 hl (by decide) rfl (fun ls hl => ?_)
      refine lv_iconst (v := nI 2) C.1 C.2.1 dL_aside_19 (by decide +kernel) ?_
      exact hx_iret (u1, f) C Hj ⟨Nat.le_of_ble_eq_true rfl, Nat.le_of_ble_eq_true rfl⟩ dL_aside_20 ⟨2, 0, rfl, hcd.symm, Or.inr ⟨by decide, rfl⟩⟩
  · obtain ⟨k, rfl, hk⟩ := hr
    refine lv_i2l C.1 C.2.1 dL_aside_8 (lg_i2lx (nI k)) ?_
    refine gw_lst (len := 1) (x := 0) (F := f) (v := (nI k).toInt) (ws' := hw G q o (u1, fun j => if j = 0 then (nI k).toInt else f j)) C Hh 0 rfl (by decide) rfl dL_aside_9 (by decide) (fun H locs Hh => ?_)
    refine lv_goto (tgt := 21) C.1 C.2.1 dL_aside_10 (by decide) ?_
    refine lv_iconst (v := nI 0) C.1 C.2.1 dL_aside_21 (by decide +kernel) ?_
    exact hx_iret (u1, fun j => if j = 0 then (nI k).toInt else f j) C Hh ⟨Nat.le_of_ble_eq_true rfl, Nat.le_of_ble_eq_true rfl⟩ dL_aside_22 ⟨0, k, rfl, hk.1.symm, Or.inl ⟨rfl, hk, rfl⟩⟩
theorem c_L_life (l : Launch) (G : gw_G) (q : Nat → Nat) (o : Nat) (u : pf_S) (f : Nat → Int) (x : Int32) (y : Int32) (hst9 : l.stackTraces = false) (h2 : cl2 u) : hx_M l yL_life cL_life 5 [(0, 10, 13, 13)] 9 178 [.ref (q 0), .int (x), .int (y), .ref o] G q o (u, f) (fun r x1 => ∃ K k : Nat, r = nI K ∧ K = cdL x y ∧ ((K = 0 ∧ (cdL x y = 0 ∧ k = fallen x1.1 ∧ se_post (li_S u (tn x) (tn y)) x1.1) ∧ x1.2 0 = (nI k).toInt) ∨ (K ≠ 0 ∧ x1.1 = u))) := by
  refine hx_entry (own := RL) (by decide) rfl (Nat.le_of_ble_eq_true rfl) ?_
  intro p e s m args below meth c A ls C X N hT Hh hl
  have hl : lv_has ls 5 [(0, .ref (q 0)), (1, .int (x)), (2, .int (y)), (3, .ref o)] := hl
  refine lv_aload_n C.1 C.2.1 dL_life_0 rfl (lv_at hl 3 rfl) ?_
  refine lv_iconst (v := nI 0) C.1 C.2.1 dL_life_1 (by decide +kernel) ?_
  refine lv_aload_n C.1 C.2.1 dL_life_2 rfl (lv_at hl 0 rfl) ?_
  refine lv_iload_n C.1 C.2.1 dL_life_3 rfl (lv_at hl 1 rfl) ?_
  refine lv_iload_n C.1 C.2.1 dL_life_4 rfl (lv_at hl 2 rfl) ?_
  refine hx_call (n := 2) (rest := [.int (nI 0), .ref o]) [.int (x), .int (y)] C X Hh (c_X4_life l G q u x y hst9 h2) tw_533 tw_534 tw_535 tw_66 tw_536 (by decide +kernel) ⟨Nat.le_of_ble_eq_true rfl, Nat.le_of_ble_eq_true rfl⟩ rfl hl.1 (Nat.le_of_ble_eq_true rfl) dL_life_5 ⟨Nat.le_of_ble_eq_true rfl, Nat.le_of_ble_eq_true rfl⟩ (fun E ce q9 u1 H locs hE Hj hce hcv hcl => ?_) (fun r u1 H locs hr Hh => ?_)
  · obtain ⟨rfl, hE⟩ := hE
    obtain ⟨rfl, hcd⟩ := hE
    refine vx_catch (own := RL) (name := exn 0) (E := exn 0) C.cl [] ⟨0, 10, 13, 13⟩ [] (hT.trans rfl) (fun _ h => absurd h List.not_mem_nil) rfl (by decide) (C.ts tw_274) (hx_cast X mw_289) hce hcv hcl ?_
    refine lv_astore (lv' := [(4, .ref q9), (0, .ref (q 0)), (1, .int (x)), (2, .int (y)), (3, .ref o)]) C.1 C.2.1 dL_life_13 hl (by decide) rfl (fun ls hl => ?_)
    refine lv_iconst (v := nI 1) C.1 C.2.1 dL_life_15 (by decide +kernel) ?_
    exact hx_iret (u1, f) C Hj ⟨Nat.le_of_ble_eq_true rfl, Nat.le_of_ble_eq_true rfl⟩ dL_life_16 ⟨1, 0, rfl, hcd.symm, Or.inr ⟨by decide, rfl⟩⟩
  · obtain ⟨k, rfl, hk⟩ := hr
    refine lv_i2l C.1 C.2.1 dL_life_8 (lg_i2lx (nI k)) ?_
    refine gw_lst (len := 1) (x := 0) (F := f) (v := (nI k).toInt) (ws' := hw G q o (u1, fun j => if j = 0 then (nI k).toInt else f j)) C Hh 0 rfl (by decide) rfl dL_life_9 (by decide) (fun H locs Hh => ?_)
    refine lv_goto (tgt := 17) C.1 C.2.1 dL_life_10 (by decide) ?_
    refine lv_iconst (v := nI 0) C.1 C.2.1 dL_life_17 (by decide +kernel) ?_
    exact hx_iret (u1, fun j => if j = 0 then (nI k).toInt else f j) C Hh ⟨Nat.le_of_ble_eq_true rfl, Nat.le_of_ble_eq_true rfl⟩ dL_life_18 ⟨0, k, rfl, hk.1.symm, Or.inl ⟨rfl, hk, rfl⟩⟩
theorem c_L_standIn (l : Launch) (G : gw_G) (q : Nat → Nat) (o : Nat) (u : pf_S) (f : Nat → Int) (x : Int32) (y : Int32) (b : Nat) (hst9 : l.stackTraces = false) (h2 : cl2 u) (hb : b ≤ 1) : hx_M l yL_standIn cL_standIn 6 [(0, 12, 15, 13), (0, 12, 19, 15)] 9 179 [.ref (q 0), .int (x), .int (y), .int (nI (b)), .ref o] G q o (u, f) (fun r x1 => ∃ K k : Nat, r = nI K ∧ K = cdI u x y b ∧ ((K = 0 ∧ (cdI u x y b = 0 ∧ k = fallen x1.1 ∧ se_post (si_S u (tn x) (tn y) b) x1.1) ∧ x1.2 0 = (nI k).toInt) ∨ (K ≠ 0 ∧ x1.1 = u))) := by
  refine hx_entry (own := RL) (by decide) rfl (Nat.le_of_ble_eq_true rfl) ?_
  intro p e s m args below meth c A ls C X N hT Hh hl
  have hl : lv_has ls 6 [(0, .ref (q 0)), (1, .int (x)), (2, .int (y)), (3, .int (nI (b))), (4, .ref o)] := hl
  refine lv_aload C.1 C.2.1 dL_standIn_0 (lv_at hl 4 rfl) ?_
  refine lv_iconst (v := nI 0) C.1 C.2.1 dL_standIn_2 (by decide +kernel) ?_
  refine lv_aload_n C.1 C.2.1 dL_standIn_3 rfl (lv_at hl 0 rfl) ?_
  refine lv_iload_n C.1 C.2.1 dL_standIn_4 rfl (lv_at hl 1 rfl) ?_
  refine lv_iload_n C.1 C.2.1 dL_standIn_5 rfl (lv_at hl 2 rfl) ?_
  refine lv_iload_n C.1 C.2.1 dL_standIn_6 rfl (lv_at hl 3 rfl) ?_
  refine hx_call (n := 3) (rest := [.int (nI 0), .ref o]) [.int (x), .int (y), .int (nI (b))] C X Hh (c_X4_standIn l G q u x y b hst9 h2 hb) tw_540 tw_541 tw_542 tw_66 tw_543 (by decide +kernel) ⟨Nat.le_of_ble_eq_true rfl, Nat.le_of_ble_eq_true rfl⟩ rfl hl.1 (Nat.le_of_ble_eq_true rfl) dL_standIn_7 ⟨Nat.le_of_ble_eq_true rfl, Nat.le_of_ble_eq_true rfl⟩ (fun E ce q9 u1 H locs hE Hj hce hcv hcl => ?_) (fun r u1 H locs hr Hh => ?_)
  · obtain ⟨rfl, hE⟩ := hE
    rcases hE with ⟨rfl, hcd⟩ | ⟨rfl, hcd⟩
    · refine vx_catch (own := RL) (name := exn 0) (E := exn 0) C.cl [] ⟨0, 12, 15, 13⟩ [⟨0, 12, 19, 15⟩] (hT.trans rfl) (fun _ h => absurd h List.not_mem_nil) rfl (by decide) (C.ts tw_274) (hx_cast X mw_289) hce hcv hcl ?_
      refine lv_astore (lv' := [(5, .ref q9), (0, .ref (q 0)), (1, .int (x)), (2, .int (y)), (3, .int (nI (b))), (4, .ref o)]) C.1 C.2.1 dL_standIn_15 hl (by decide) rfl (fun ls hl => ?_)
      refine lv_iconst (v := nI 1) C.1 C.2.1 dL_standIn_17 (by decide +kernel) ?_
      exact hx_iret (u1, f) C Hj ⟨Nat.le_of_ble_eq_true rfl, Nat.le_of_ble_eq_true rfl⟩ dL_standIn_18 ⟨1, 0, rfl, hcd.symm, Or.inr ⟨by decide, rfl⟩⟩
    · refine vx_catch (own := RL) (name := exn 1) (E := exn 1) C.cl [⟨0, 12, 15, 13⟩] ⟨0, 12, 19, 15⟩ [] (hT.trans rfl) (List.forall_mem_cons.mpr ⟨Or.inr ⟨by decide, exn 0, C.ts tw_274, N 1 0 (by decide) (by decide) (by decide)⟩, (fun _ h => absurd h List.not_mem_nil)⟩) rfl (by decide) (C.ts tw_275) (hx_cast X mw_368) hce hcv hcl ?_
      refine lv_astore (lv' := [(5, .ref q9), (0, .ref (q 0)), (1, .int (x)), (2, .int (y)), (3, .int (nI (b))), (4, .ref o)]) C.1 C.2.1 dL_standIn_19 hl (by decide) rfl (fun ls hl => ?_)
      refine lv_iconst (v := nI 2) C.1 C.2.1 dL_standIn_21 (by decide +kernel) ?_
      exact hx_iret (u1, f) C Hj ⟨Nat.le_of_ble_eq_true rfl, Nat.le_of_ble_eq_true rfl⟩ dL_standIn_22 ⟨2, 0, rfl, hcd.symm, Or.inr ⟨by decide, rfl⟩⟩
  · obtain ⟨k, rfl, hk⟩ := hr
    refine lv_i2l C.1 C.2.1 dL_standIn_10 (lg_i2lx (nI k)) ?_
    refine gw_lst (len := 1) (x := 0) (F := f) (v := (nI k).toInt) (ws' := hw G q o (u1, fun j => if j = 0 then (nI k).toInt else f j)) C Hh 0 rfl (by decide) rfl dL_standIn_11 (by decide) (fun H locs Hh => ?_)
    refine lv_goto (tgt := 23) C.1 C.2.1 dL_standIn_12 (by decide) ?_
    refine lv_iconst (v := nI 0) C.1 C.2.1 dL_standIn_23 (by decide +kernel) ?_
    exact hx_iret (u1, fun j => if j = 0 then (nI k).toInt else f j) C Hh ⟨Nat.le_of_ble_eq_true rfl, Nat.le_of_ble_eq_true rfl⟩ dL_standIn_24 ⟨0, k, rfl, hk.1.symm, Or.inl ⟨rfl, hk, rfl⟩⟩
theorem c_L_kit (l : Launch) (G : gw_G) (q : Nat → Nat) (o : Nat) (u : pf_S) (f : Nat → Int) (x : Int32) (y : Int32) (z : Int32) (hst9 : l.stackTraces = false) (h2 : cl2 u) : hx_M l yL_kit cL_kit 6 [(0, 12, 15, 13), (0, 12, 19, 15), (0, 12, 23, 17)] 9 147 [.ref (q 0), .int (x), .int (y), .int (z), .ref o] G q o (u, f) (fun r x1 => ∃ K k : Nat, r = nI K ∧ K = cdK u x y z ∧ ((K = 0 ∧ (cdK u x y z = 0 ∧ k = u.2 7 (tn x) + 1 ∧ x1.1 = kt_S u (tn x) (tn y) (tn z)) ∧ x1.2 0 = (nI k).toInt) ∨ (K ≠ 0 ∧ x1.1 = u))) := by
  refine hx_entry (own := RL) (by decide) rfl (Nat.le_of_ble_eq_true rfl) ?_
  intro p e s m args below meth c A ls C X N hT Hh hl
  have hl : lv_has ls 6 [(0, .ref (q 0)), (1, .int (x)), (2, .int (y)), (3, .int (z)), (4, .ref o)] := hl
  refine lv_aload C.1 C.2.1 dL_kit_0 (lv_at hl 4 rfl) ?_
  refine lv_iconst (v := nI 0) C.1 C.2.1 dL_kit_2 (by decide +kernel) ?_
  refine lv_aload_n C.1 C.2.1 dL_kit_3 rfl (lv_at hl 0 rfl) ?_
  refine lv_iload_n C.1 C.2.1 dL_kit_4 rfl (lv_at hl 1 rfl) ?_
  refine lv_iload_n C.1 C.2.1 dL_kit_5 rfl (lv_at hl 2 rfl) ?_
  refine lv_iload_n C.1 C.2.1 dL_kit_6 rfl (lv_at hl 3 rfl) ?_
  refine hx_call (n := 3) (rest := [.int (nI 0), .ref o]) [.int (x), .int (y), .int (z)] C X Hh (c_X4_kit l G q u x y z hst9 h2) tw_554 tw_555 tw_556 tw_66 tw_557 (by decide +kernel) ⟨Nat.le_of_ble_eq_true rfl, Nat.le_of_ble_eq_true rfl⟩ rfl hl.1 (Nat.le_of_ble_eq_true rfl) dL_kit_7 ⟨Nat.le_of_ble_eq_true rfl, Nat.le_of_ble_eq_true rfl⟩ (fun E ce q9 u1 H locs hE Hj hce hcv hcl => ?_) (fun r u1 H locs hr Hh => ?_)
  · obtain ⟨rfl, hE⟩ := hE
    rcases hE with ⟨rfl, hcd⟩ | ⟨rfl, hcd⟩ | ⟨rfl, hcd⟩
    · refine vx_catch (own := RL) (name := exn 0) (E := exn 0) C.cl [] ⟨0, 12, 15, 13⟩ [⟨0, 12, 19, 15⟩, ⟨0, 12, 23, 17⟩] (hT.trans rfl) (fun _ h => absurd h List.not_mem_nil) rfl (by decide) (C.ts tw_274) (hx_cast X mw_289) hce hcv hcl ?_
      refine lv_astore (lv' := [(5, .ref q9), (0, .ref (q 0)), (1, .int (x)), (2, .int (y)), (3, .int (z)), (4, .ref o)]) C.1 C.2.1 dL_kit_15 hl (by decide) rfl (fun ls hl => ?_)
      refine lv_iconst (v := nI 1) C.1 C.2.1 dL_kit_17 (by decide +kernel) ?_
      exact hx_iret (u1, f) C Hj ⟨Nat.le_of_ble_eq_true rfl, Nat.le_of_ble_eq_true rfl⟩ dL_kit_18 ⟨1, 0, rfl, hcd.symm, Or.inr ⟨by decide, rfl⟩⟩
    · refine vx_catch (own := RL) (name := exn 1) (E := exn 1) C.cl [⟨0, 12, 15, 13⟩] ⟨0, 12, 19, 15⟩ [⟨0, 12, 23, 17⟩] (hT.trans rfl) (List.forall_mem_cons.mpr ⟨Or.inr ⟨by decide, exn 0, C.ts tw_274, N 1 0 (by decide) (by decide) (by decide)⟩, (fun _ h => absurd h List.not_mem_nil)⟩) rfl (by decide) (C.ts tw_275) (hx_cast X mw_368) hce hcv hcl ?_
      refine lv_astore (lv' := [(5, .ref q9), (0, .ref (q 0)), (1, .int (x)), (2, .int (y)), (3, .int (z)), (4, .ref o)]) C.1 C.2.1 dL_kit_19 hl (by decide) rfl (fun ls hl => ?_)
      refine lv_iconst (v := nI 2) C.1 C.2.1 dL_kit_21 (by decide +kernel) ?_
      exact hx_iret (u1, f) C Hj ⟨Nat.le_of_ble_eq_true rfl, Nat.le_of_ble_eq_true rfl⟩ dL_kit_22 ⟨2, 0, rfl, hcd.symm, Or.inr ⟨by decide, rfl⟩⟩
    · refine vx_catch (own := RL) (name := exn 2) (E := exn 2) C.cl [⟨0, 12, 15, 13⟩, ⟨0, 12, 19, 15⟩] ⟨0, 12, 23, 17⟩ [] (hT.trans rfl) (List.forall_mem_cons.mpr ⟨Or.inr ⟨by decide, exn 0, C.ts tw_274, N 2 0 (by decide) (by decide) (by decide)⟩, (List.forall_mem_cons.mpr ⟨Or.inr ⟨by decide, exn 1, C.ts tw_275, N 2 1 (by decide) (by decide) (by decide)⟩, (fun _ h => absurd h List.not_mem_nil)⟩)⟩) rfl (by decide) (C.ts tw_276) (hx_cast X mw_384) hce hcv hcl ?_
      refine lv_astore (lv' := [(5, .ref q9), (0, .ref (q 0)), (1, .int (x)), (2, .int (y)), (3, .int (z)), (4, .ref o)]) C.1 C.2.1 dL_kit_23 hl (by decide) rfl (fun ls hl => ?_)
      refine lv_iconst (v := nI 3) C.1 C.2.1 dL_kit_25 (by decide +kernel) ?_
      exact hx_iret (u1, f) C Hj ⟨Nat.le_of_ble_eq_true rfl, Nat.le_of_ble_eq_true rfl⟩ dL_kit_26 ⟨3, 0, rfl, hcd.symm, Or.inr ⟨by decide, rfl⟩⟩
  · obtain ⟨k, rfl, hk⟩ := hr
    refine lv_i2l C.1 C.2.1 dL_kit_10 (lg_i2lx (nI k)) ?_
    refine gw_lst (len := 1) (x := 0) (F := f) (v := (nI k).toInt) (ws' := hw G q o (u1, fun j => if j = 0 then (nI k).toInt else f j)) C Hh 0 rfl (by decide) rfl dL_kit_11 (by decide) (fun H locs Hh => ?_)
    refine lv_goto (tgt := 27) C.1 C.2.1 dL_kit_12 (by decide) ?_
    refine lv_iconst (v := nI 0) C.1 C.2.1 dL_kit_27 (by decide +kernel) ?_
    exact hx_iret (u1, fun j => if j = 0 then (nI k).toInt else f j) C Hh ⟨Nat.le_of_ble_eq_true rfl, Nat.le_of_ble_eq_true rfl⟩ dL_kit_28 ⟨0, k, rfl, hk.1.symm, Or.inl ⟨rfl, hk, rfl⟩⟩
theorem c_L_order (l : Launch) (G : gw_G) (q : Nat → Nat) (o : Nat) (u : pf_S) (f : Nat → Int) (x : Int32) (y : Int32) (z : Int32) (w : Int32) (hst9 : l.stackTraces = false) (h2 : cl2 u) : hx_M l yL_order cL_order 7 [(0, 14, 17, 13), (0, 14, 21, 17)] 9 159 [.ref (q 0), .int (x), .int (y), .int (z), .int (w), .ref o] G q o (u, f) (fun r x1 => ∃ K k : Nat, r = nI K ∧ K = cdO u x y z w ∧ ((K = 0 ∧ (cdO u x y z w = 0 ∧ od_post u (wr_S u (tn x) (tn y) (tn z) (tn w)) k x1.1) ∧ x1.2 0 = (nI k).toInt) ∨ (K ≠ 0 ∧ x1.1 = u))) := by
  refine hx_entry (own := RL) (by decide) rfl (Nat.le_of_ble_eq_true rfl) ?_
  intro p e s m args below meth c A ls C X N hT Hh hl
  have hl : lv_has ls 7 [(0, .ref (q 0)), (1, .int (x)), (2, .int (y)), (3, .int (z)), (4, .int (w)), (5, .ref o)] := hl
  refine lv_aload C.1 C.2.1 dL_order_0 (lv_at hl 5 rfl) ?_
  refine lv_iconst (v := nI 0) C.1 C.2.1 dL_order_2 (by decide +kernel) ?_
  refine lv_aload_n C.1 C.2.1 dL_order_3 rfl (lv_at hl 0 rfl) ?_
  refine lv_iload_n C.1 C.2.1 dL_order_4 rfl (lv_at hl 1 rfl) ?_
  refine lv_iload_n C.1 C.2.1 dL_order_5 rfl (lv_at hl 2 rfl) ?_
  refine lv_iload_n C.1 C.2.1 dL_order_6 rfl (lv_at hl 3 rfl) ?_
  refine lv_iload C.1 C.2.1 dL_order_7 (lv_at hl 4 rfl) ?_
  refine hx_call (n := 4) (rest := [.int (nI 0), .ref o]) [.int (x), .int (y), .int (z), .int (w)] C X Hh (c_X4_order l G q u x y z w hst9 h2) tw_589 tw_590 tw_591 tw_66 tw_592 (by decide +kernel) ⟨Nat.le_of_ble_eq_true rfl, Nat.le_of_ble_eq_true rfl⟩ rfl hl.1 (Nat.le_of_ble_eq_true rfl) dL_order_9 ⟨Nat.le_of_ble_eq_true rfl, Nat.le_of_ble_eq_true rfl⟩ (fun E ce q9 u1 H locs hE Hj hce hcv hcl => ?_) (fun r u1 H locs hr Hh => ?_)
  · obtain ⟨rfl, hE⟩ := hE
    rcases hE with ⟨rfl, hcd⟩ | ⟨rfl, hcd⟩
    · refine vx_catch (own := RL) (name := exn 0) (E := exn 0) C.cl [] ⟨0, 14, 17, 13⟩ [⟨0, 14, 21, 17⟩] (hT.trans rfl) (fun _ h => absurd h List.not_mem_nil) rfl (by decide) (C.ts tw_274) (hx_cast X mw_289) hce hcv hcl ?_
      refine lv_astore (lv' := [(6, .ref q9), (0, .ref (q 0)), (1, .int (x)), (2, .int (y)), (3, .int (z)), (4, .int (w)), (5, .ref o)]) C.1 C.2.1 dL_order_17 hl (by decide) rfl (fun ls hl => ?_)
      refine lv_iconst (v := nI 1) C.1 C.2.1 dL_order_19 (by decide +kernel) ?_
      exact hx_iret (u1, f) C Hj ⟨Nat.le_of_ble_eq_true rfl, Nat.le_of_ble_eq_true rfl⟩ dL_order_20 ⟨1, 0, rfl, hcd.symm, Or.inr ⟨by decide, rfl⟩⟩
    · refine vx_catch (own := RL) (name := exn 2) (E := exn 2) C.cl [⟨0, 14, 17, 13⟩] ⟨0, 14, 21, 17⟩ [] (hT.trans rfl) (List.forall_mem_cons.mpr ⟨Or.inr ⟨by decide, exn 0, C.ts tw_274, N 2 0 (by decide) (by decide) (by decide)⟩, (fun _ h => absurd h List.not_mem_nil)⟩) rfl (by decide) (C.ts tw_276) (hx_cast X mw_384) hce hcv hcl ?_
      refine lv_astore (lv' := [(6, .ref q9), (0, .ref (q 0)), (1, .int (x)), (2, .int (y)), (3, .int (z)), (4, .int (w)), (5, .ref o)]) C.1 C.2.1 dL_order_21 hl (by decide) rfl (fun ls hl => ?_)
      refine lv_iconst (v := nI 2) C.1 C.2.1 dL_order_23 (by decide +kernel) ?_
      exact hx_iret (u1, f) C Hj ⟨Nat.le_of_ble_eq_true rfl, Nat.le_of_ble_eq_true rfl⟩ dL_order_24 ⟨2, 0, rfl, hcd.symm, Or.inr ⟨by decide, rfl⟩⟩
  · obtain ⟨k, rfl, hk⟩ := hr
    refine lv_i2l C.1 C.2.1 dL_order_12 (lg_i2lx (nI k)) ?_
    refine gw_lst (len := 1) (x := 0) (F := f) (v := (nI k).toInt) (ws' := hw G q o (u1, fun j => if j = 0 then (nI k).toInt else f j)) C Hh 0 rfl (by decide) rfl dL_order_13 (by decide) (fun H locs Hh => ?_)
    refine lv_goto (tgt := 25) C.1 C.2.1 dL_order_14 (by decide) ?_
    refine lv_iconst (v := nI 0) C.1 C.2.1 dL_order_25 (by decide +kernel) ?_
    exact hx_iret (u1, fun j => if j = 0 then (nI k).toInt else f j) C Hh ⟨Nat.le_of_ble_eq_true rfl, Nat.le_of_ble_eq_true rfl⟩ dL_order_26 ⟨0, k, rfl, hk.1.symm, Or.inl ⟨rfl, hk, rfl⟩⟩
theorem c_L_close (l : Launch) (G : gw_G) (q : Nat → Nat) (o : Nat) (u : pf_S) (f : Nat → Int) (x : Int32) (hst9 : l.stackTraces = false) (h2 : cl2 u) : hx_M l yL_close cL_close 4 [(0, 9, 12, 22), (0, 9, 15, 15)] 8 177 [.ref (q 0), .int (x), .ref o] G q o (u, f) (fun r x1 => ∃ K k : Nat, r = nI K ∧ K = cdX u x ∧ ((K = 0 ∧ (cdX u x = 0 ∧ k = fallen x1.1 ∧ se_post (xo_S u (tn x)) x1.1) ∧ x1.2 0 = (nI k).toInt) ∨ (K ≠ 0 ∧ x1.1 = u))) := by
  refine hx_entry (own := RL) (by decide) rfl (Nat.le_of_ble_eq_true rfl) ?_
  intro p e s m args below meth c A ls C X N hT Hh hl
  have hl : lv_has ls 4 [(0, .ref (q 0)), (1, .int (x)), (2, .ref o)] := hl
  refine lv_aload_n C.1 C.2.1 dL_close_0 rfl (lv_at hl 2 rfl) ?_
  refine lv_iconst (v := nI 0) C.1 C.2.1 dL_close_1 (by decide +kernel) ?_
  refine lv_aload_n C.1 C.2.1 dL_close_2 rfl (lv_at hl 0 rfl) ?_
  refine lv_iload_n C.1 C.2.1 dL_close_3 rfl (lv_at hl 1 rfl) ?_
  refine hx_call (n := 1) (rest := [.int (nI 0), .ref o]) [.int (x)] C X Hh (c_X4_close l G q u x hst9 h2) tw_605 tw_606 tw_607 tw_66 tw_608 (by decide +kernel) ⟨Nat.le_of_ble_eq_true rfl, Nat.le_of_ble_eq_true rfl⟩ rfl hl.1 (Nat.le_of_ble_eq_true rfl) dL_close_4 ⟨Nat.le_of_ble_eq_true rfl, Nat.le_of_ble_eq_true rfl⟩ (fun E ce q9 u1 H locs hE Hj hce hcv hcl => ?_) (fun r u1 H locs hr Hh => ?_)
  · obtain ⟨rfl, hE⟩ := hE
    rcases hE with ⟨rfl, hcd⟩ | ⟨rfl, hcd⟩
    · refine vx_catch (own := RL) (name := exn 3) (E := exn 3) C.cl [] ⟨0, 9, 12, 22⟩ [⟨0, 9, 15, 15⟩] (hT.trans rfl) (fun _ h => absurd h List.not_mem_nil) rfl (by decide) (C.ts tw_497) (hx_cast X mw_508) hce hcv hcl ?_
      refine lv_astore_n (lv' := [(3, .ref q9), (0, .ref (q 0)), (1, .int (x)), (2, .ref o)]) C.1 C.2.1 dL_close_12 rfl hl (by decide) rfl (fun ls hl => ?_)
      refine lv_iconst (v := nI 1) C.1 C.2.1 dL_close_13 (by decide +kernel) ?_
      exact hx_iret (u1, f) C Hj ⟨Nat.le_of_ble_eq_true rfl, Nat.le_of_ble_eq_true rfl⟩ dL_close_14 ⟨1, 0, rfl, hcd.symm, Or.inr ⟨by decide, rfl⟩⟩
    · refine vx_catch (own := RL) (name := exn 1) (E := exn 1) C.cl [⟨0, 9, 12, 22⟩] ⟨0, 9, 15, 15⟩ [] (hT.trans rfl) (List.forall_mem_cons.mpr ⟨Or.inr ⟨by decide, exn 3, C.ts tw_497, N 1 3 (by decide) (by decide) (by decide)⟩, (fun _ h => absurd h List.not_mem_nil)⟩) rfl (by decide) (C.ts tw_275) (hx_cast X mw_368) hce hcv hcl ?_
      refine lv_astore_n (lv' := [(3, .ref q9), (0, .ref (q 0)), (1, .int (x)), (2, .ref o)]) C.1 C.2.1 dL_close_15 rfl hl (by decide) rfl (fun ls hl => ?_)
      refine lv_iconst (v := nI 2) C.1 C.2.1 dL_close_16 (by decide +kernel) ?_
      exact hx_iret (u1, f) C Hj ⟨Nat.le_of_ble_eq_true rfl, Nat.le_of_ble_eq_true rfl⟩ dL_close_17 ⟨2, 0, rfl, hcd.symm, Or.inr ⟨by decide, rfl⟩⟩
  · obtain ⟨k, rfl, hk⟩ := hr
    refine lv_i2l C.1 C.2.1 dL_close_7 (lg_i2lx (nI k)) ?_
    refine gw_lst (len := 1) (x := 0) (F := f) (v := (nI k).toInt) (ws' := hw G q o (u1, fun j => if j = 0 then (nI k).toInt else f j)) C Hh 0 rfl (by decide) rfl dL_close_8 (by decide) (fun H locs Hh => ?_)
    refine lv_goto (tgt := 18) C.1 C.2.1 dL_close_9 (by decide) ?_
    refine lv_iconst (v := nI 0) C.1 C.2.1 dL_close_18 (by decide +kernel) ?_
    exact hx_iret (u1, fun j => if j = 0 then (nI k).toInt else f j) C Hh ⟨Nat.le_of_ble_eq_true rfl, Nat.le_of_ble_eq_true rfl⟩ dL_close_19 ⟨0, k, rfl, hk.1.symm, Or.inl ⟨rfl, hk, rfl⟩⟩
theorem c_L_promise (l : Launch) (G : gw_G) (q : Nat → Nat) (o : Nat) (u : pf_S) (f : Nat → Int) (x : Int32) (y : Int32) (hst9 : l.stackTraces = false) (h2 : cl2 u) : hx_M l yL_promise cL_promise 5 [(0, 10, 13, 13)] 9 181 [.ref (q 0), .int (x), .int (y), .ref o] G q o (u, f) (fun r x1 => ∃ K k : Nat, r = nI K ∧ K = cdP x y ∧ ((K = 0 ∧ (cdP x y = 0 ∧ mo_same u x1.1 ∧ cls x1.1 ∧ gf_inv u (tn x) (tn y) (1 <<< gd_dn u (tn x)) k) ∧ x1.2 0 = (nI k).toInt) ∨ (K ≠ 0 ∧ x1.1 = u))) := by
  refine hx_entry (own := RL) (by decide) rfl (Nat.le_of_ble_eq_true rfl) ?_
  intro p e s m args below meth c A ls C X N hT Hh hl
  have hl : lv_has ls 5 [(0, .ref (q 0)), (1, .int (x)), (2, .int (y)), (3, .ref o)] := hl
  refine lv_aload_n C.1 C.2.1 dL_promise_0 rfl (lv_at hl 3 rfl) ?_
  refine lv_iconst (v := nI 0) C.1 C.2.1 dL_promise_1 (by decide +kernel) ?_
  refine lv_aload_n C.1 C.2.1 dL_promise_2 rfl (lv_at hl 0 rfl) ?_
  refine lv_iload_n C.1 C.2.1 dL_promise_3 rfl (lv_at hl 1 rfl) ?_
  refine lv_iload_n C.1 C.2.1 dL_promise_4 rfl (lv_at hl 2 rfl) ?_
  refine hx_call (n := 2) (rest := [.int (nI 0), .ref o]) [.int (x), .int (y)] C X Hh (c_X4_promise l G q u x y hst9 h2) tw_618 tw_619 tw_620 tw_66 tw_621 (by decide +kernel) ⟨Nat.le_of_ble_eq_true rfl, Nat.le_of_ble_eq_true rfl⟩ rfl hl.1 (Nat.le_of_ble_eq_true rfl) dL_promise_5 ⟨Nat.le_of_ble_eq_true rfl, Nat.le_of_ble_eq_true rfl⟩ (fun E ce q9 u1 H locs hE Hj hce hcv hcl => ?_) (fun r u1 H locs hr Hh => ?_)
  · obtain ⟨rfl, hE⟩ := hE
    obtain ⟨rfl, hcd⟩ := hE
    refine vx_catch (own := RL) (name := exn 0) (E := exn 0) C.cl [] ⟨0, 10, 13, 13⟩ [] (hT.trans rfl) (fun _ h => absurd h List.not_mem_nil) rfl (by decide) (C.ts tw_274) (hx_cast X mw_289) hce hcv hcl ?_
    refine lv_astore (lv' := [(4, .ref q9), (0, .ref (q 0)), (1, .int (x)), (2, .int (y)), (3, .ref o)]) C.1 C.2.1 dL_promise_13 hl (by decide) rfl (fun ls hl => ?_)
    refine lv_iconst (v := nI 1) C.1 C.2.1 dL_promise_15 (by decide +kernel) ?_
    exact hx_iret (u1, f) C Hj ⟨Nat.le_of_ble_eq_true rfl, Nat.le_of_ble_eq_true rfl⟩ dL_promise_16 ⟨1, 0, rfl, hcd.symm, Or.inr ⟨by decide, rfl⟩⟩
  · obtain ⟨k, rfl, hk⟩ := hr
    refine lv_i2l C.1 C.2.1 dL_promise_8 (lg_i2lx (nI k)) ?_
    refine gw_lst (len := 1) (x := 0) (F := f) (v := (nI k).toInt) (ws' := hw G q o (u1, fun j => if j = 0 then (nI k).toInt else f j)) C Hh 0 rfl (by decide) rfl dL_promise_9 (by decide) (fun H locs Hh => ?_)
    refine lv_goto (tgt := 17) C.1 C.2.1 dL_promise_10 (by decide) ?_
    refine lv_iconst (v := nI 0) C.1 C.2.1 dL_promise_17 (by decide +kernel) ?_
    exact hx_iret (u1, fun j => if j = 0 then (nI k).toInt else f j) C Hh ⟨Nat.le_of_ble_eq_true rfl, Nat.le_of_ble_eq_true rfl⟩ dL_promise_18 ⟨0, k, rfl, hk.1.symm, Or.inl ⟨rfl, hk, rfl⟩⟩
theorem c_L_share (l : Launch) (G : gw_G) (q : Nat → Nat) (o : Nat) (u : pf_S) (f : Nat → Int) (x : Int32) (y : Int32) (hst9 : l.stackTraces = false) (h2 : cl2 u) : hx_M l yL_share cL_share 5 [(0, 10, 13, 13), (0, 10, 17, 52)] 9 182 [.ref (q 0), .int (x), .int (y), .ref o] G q o (u, f) (fun r x1 => ∃ K k : Nat, r = nI K ∧ K = cdH u x y ∧ ((K = 0 ∧ (cdH u x y = 0 ∧ mo_same u x1.1 ∧ cls x1.1 ∧ ∃ m, gf_inv u (tn x) (tn y) (1 <<< gd_dn u (tn x)) m ∧ k = 1000 * m / sh_b u (tn x) (tn y)) ∧ x1.2 0 = (nI k).toInt) ∨ (K ≠ 0 ∧ x1.1 = u))) := by
  refine hx_entry (own := RL) (by decide) rfl (Nat.le_of_ble_eq_true rfl) ?_
  intro p e s m args below meth c A ls C X N hT Hh hl
  have hl : lv_has ls 5 [(0, .ref (q 0)), (1, .int (x)), (2, .int (y)), (3, .ref o)] := hl
  refine lv_aload_n C.1 C.2.1 dL_share_0 rfl (lv_at hl 3 rfl) ?_
  refine lv_iconst (v := nI 0) C.1 C.2.1 dL_share_1 (by decide +kernel) ?_
  refine lv_aload_n C.1 C.2.1 dL_share_2 rfl (lv_at hl 0 rfl) ?_
  refine lv_iload_n C.1 C.2.1 dL_share_3 rfl (lv_at hl 1 rfl) ?_
  refine lv_iload_n C.1 C.2.1 dL_share_4 rfl (lv_at hl 2 rfl) ?_
  refine hx_call (n := 2) (rest := [.int (nI 0), .ref o]) [.int (x), .int (y)] C X Hh (c_X4_share l G q u x y hst9 h2) tw_641 tw_642 tw_643 tw_66 tw_644 (by decide +kernel) ⟨Nat.le_of_ble_eq_true rfl, Nat.le_of_ble_eq_true rfl⟩ rfl hl.1 (Nat.le_of_ble_eq_true rfl) dL_share_5 ⟨Nat.le_of_ble_eq_true rfl, Nat.le_of_ble_eq_true rfl⟩ (fun E ce q9 u1 H locs hE Hj hce hcv hcl => ?_) (fun r u1 H locs hr Hh => ?_)
  · obtain ⟨rfl, hE⟩ := hE
    rcases hE with ⟨rfl, hcd⟩ | ⟨rfl, hcd⟩
    · refine vx_catch (own := RL) (name := exn 0) (E := exn 0) C.cl [] ⟨0, 10, 13, 13⟩ [⟨0, 10, 17, 52⟩] (hT.trans rfl) (fun _ h => absurd h List.not_mem_nil) rfl (by decide) (C.ts tw_274) (hx_cast X mw_289) hce hcv hcl ?_
      refine lv_astore (lv' := [(4, .ref q9), (0, .ref (q 0)), (1, .int (x)), (2, .int (y)), (3, .ref o)]) C.1 C.2.1 dL_share_13 hl (by decide) rfl (fun ls hl => ?_)
      refine lv_iconst (v := nI 1) C.1 C.2.1 dL_share_15 (by decide +kernel) ?_
      exact hx_iret (u1, f) C Hj ⟨Nat.le_of_ble_eq_true rfl, Nat.le_of_ble_eq_true rfl⟩ dL_share_16 ⟨1, 0, rfl, hcd.symm, Or.inr ⟨by decide, rfl⟩⟩
    · refine vx_catch (own := RL) (name := exn 4) (E := exn 4) C.cl [⟨0, 10, 13, 13⟩] ⟨0, 10, 17, 52⟩ [] (hT.trans rfl) (List.forall_mem_cons.mpr ⟨Or.inr ⟨by decide, exn 0, C.ts tw_274, N 4 0 (by decide) (by decide) (by decide)⟩, (fun _ h => absurd h List.not_mem_nil)⟩) rfl (by decide) (C.ts tw_640) (hx_cast X mw_652) hce hcv hcl ?_
      refine lv_astore (lv' := [(4, .ref q9), (0, .ref (q 0)), (1, .int (x)), (2, .int (y)), (3, .ref o)]) C.1 C.2.1 dL_share_17 hl (by decide) rfl (fun ls hl => ?_)
      refine lv_iconst (v := nI 2) C.1 C.2.1 dL_share_19 (by decide +kernel) ?_
      exact hx_iret (u1, f) C Hj ⟨Nat.le_of_ble_eq_true rfl, Nat.le_of_ble_eq_true rfl⟩ dL_share_20 ⟨2, 0, rfl, hcd.symm, Or.inr ⟨by decide, rfl⟩⟩
  · obtain ⟨k, rfl, hk⟩ := hr
    refine lv_i2l C.1 C.2.1 dL_share_8 (lg_i2lx (nI k)) ?_
    refine gw_lst (len := 1) (x := 0) (F := f) (v := (nI k).toInt) (ws' := hw G q o (u1, fun j => if j = 0 then (nI k).toInt else f j)) C Hh 0 rfl (by decide) rfl dL_share_9 (by decide) (fun H locs Hh => ?_)
    refine lv_goto (tgt := 21) C.1 C.2.1 dL_share_10 (by decide) ?_
    refine lv_iconst (v := nI 0) C.1 C.2.1 dL_share_21 (by decide +kernel) ?_
    exact hx_iret (u1, fun j => if j = 0 then (nI k).toInt else f j) C Hh ⟨Nat.le_of_ble_eq_true rfl, Nat.le_of_ble_eq_true rfl⟩ dL_share_22 ⟨0, k, rfl, hk.1.symm, Or.inl ⟨rfl, hk, rfl⟩⟩
theorem c_L_bars (l : Launch) (G : gw_G) (q : Nat → Nat) (o : Nat) (u : pf_S) (f : Nat → Int) (x : Int32) (y : Int32) (z : Int32) (hst9 : l.stackTraces = false) (h2 : cl2 u) : hx_M l yL_bars cL_bars 6 [(0, 12, 15, 13), (0, 12, 19, 15)] 9 150 [.ref (q 0), .int (x), .int (y), .int (z), .ref o] G q o (u, f) (fun r x1 => ∃ K k : Nat, r = nI K ∧ K = cdB u x y z ∧ ((K = 0 ∧ (cdB u x y z = 0 ∧ ∃ R, sp_post u x1.1 (us_f u (tn x) (tn y)) 4294967295 R ∧ ((k < x1.1.1 1 ∧ brB x1.1 R k ∧ brc x1.1 R k = tn z) ∨ (k = 4294967295 ∧ brc x1.1 R (x1.1.1 1) ≤ tn z))) ∧ x1.2 0 = (nI k).toInt) ∨ (K ≠ 0 ∧ x1.1 = u))) := by
  refine hx_entry (own := RL) (by decide) rfl (Nat.le_of_ble_eq_true rfl) ?_
  intro p e s m args below meth c A ls C X N hT Hh hl
  have hl : lv_has ls 6 [(0, .ref (q 0)), (1, .int (x)), (2, .int (y)), (3, .int (z)), (4, .ref o)] := hl
  refine lv_aload C.1 C.2.1 dL_bars_0 (lv_at hl 4 rfl) ?_
  refine lv_iconst (v := nI 0) C.1 C.2.1 dL_bars_2 (by decide +kernel) ?_
  refine lv_aload_n C.1 C.2.1 dL_bars_3 rfl (lv_at hl 0 rfl) ?_
  refine lv_iload_n C.1 C.2.1 dL_bars_4 rfl (lv_at hl 1 rfl) ?_
  refine lv_iload_n C.1 C.2.1 dL_bars_5 rfl (lv_at hl 2 rfl) ?_
  refine lv_iload_n C.1 C.2.1 dL_bars_6 rfl (lv_at hl 3 rfl) ?_
  refine hx_call (n := 3) (rest := [.int (nI 0), .ref o]) [.int (x), .int (y), .int (z)] C X Hh (c_X4_bars l G q u x y z hst9 h2) tw_670 tw_671 tw_672 tw_66 tw_673 (by decide +kernel) ⟨Nat.le_of_ble_eq_true rfl, Nat.le_of_ble_eq_true rfl⟩ rfl hl.1 (Nat.le_of_ble_eq_true rfl) dL_bars_7 ⟨Nat.le_of_ble_eq_true rfl, Nat.le_of_ble_eq_true rfl⟩ (fun E ce q9 u1 H locs hE Hj hce hcv hcl => ?_) (fun r u1 H locs hr Hh => ?_)
  · obtain ⟨rfl, hE⟩ := hE
    rcases hE with ⟨rfl, hcd⟩ | ⟨rfl, hcd⟩
    · refine vx_catch (own := RL) (name := exn 0) (E := exn 0) C.cl [] ⟨0, 12, 15, 13⟩ [⟨0, 12, 19, 15⟩] (hT.trans rfl) (fun _ h => absurd h List.not_mem_nil) rfl (by decide) (C.ts tw_274) (hx_cast X mw_289) hce hcv hcl ?_
      refine lv_astore (lv' := [(5, .ref q9), (0, .ref (q 0)), (1, .int (x)), (2, .int (y)), (3, .int (z)), (4, .ref o)]) C.1 C.2.1 dL_bars_15 hl (by decide) rfl (fun ls hl => ?_)
      refine lv_iconst (v := nI 1) C.1 C.2.1 dL_bars_17 (by decide +kernel) ?_
      exact hx_iret (u1, f) C Hj ⟨Nat.le_of_ble_eq_true rfl, Nat.le_of_ble_eq_true rfl⟩ dL_bars_18 ⟨1, 0, rfl, hcd.symm, Or.inr ⟨by decide, rfl⟩⟩
    · refine vx_catch (own := RL) (name := exn 1) (E := exn 1) C.cl [⟨0, 12, 15, 13⟩] ⟨0, 12, 19, 15⟩ [] (hT.trans rfl) (List.forall_mem_cons.mpr ⟨Or.inr ⟨by decide, exn 0, C.ts tw_274, N 1 0 (by decide) (by decide) (by decide)⟩, (fun _ h => absurd h List.not_mem_nil)⟩) rfl (by decide) (C.ts tw_275) (hx_cast X mw_368) hce hcv hcl ?_
      refine lv_astore (lv' := [(5, .ref q9), (0, .ref (q 0)), (1, .int (x)), (2, .int (y)), (3, .int (z)), (4, .ref o)]) C.1 C.2.1 dL_bars_19 hl (by decide) rfl (fun ls hl => ?_)
      refine lv_iconst (v := nI 2) C.1 C.2.1 dL_bars_21 (by decide +kernel) ?_
      exact hx_iret (u1, f) C Hj ⟨Nat.le_of_ble_eq_true rfl, Nat.le_of_ble_eq_true rfl⟩ dL_bars_22 ⟨2, 0, rfl, hcd.symm, Or.inr ⟨by decide, rfl⟩⟩
  · obtain ⟨k, rfl, hk⟩ := hr
    refine lv_i2l C.1 C.2.1 dL_bars_10 (lg_i2lx (nI k)) ?_
    refine gw_lst (len := 1) (x := 0) (F := f) (v := (nI k).toInt) (ws' := hw G q o (u1, fun j => if j = 0 then (nI k).toInt else f j)) C Hh 0 rfl (by decide) rfl dL_bars_11 (by decide) (fun H locs Hh => ?_)
    refine lv_goto (tgt := 23) C.1 C.2.1 dL_bars_12 (by decide) ?_
    refine lv_iconst (v := nI 0) C.1 C.2.1 dL_bars_23 (by decide +kernel) ?_
    exact hx_iret (u1, fun j => if j = 0 then (nI k).toInt else f j) C Hh ⟨Nat.le_of_ble_eq_true rfl, Nat.le_of_ble_eq_true rfl⟩ dL_bars_24 ⟨0, k, rfl, hk.1.symm, Or.inl ⟨rfl, hk, rfl⟩⟩
theorem c_L_flow (l : Launch) (G : gw_G) (q : Nat → Nat) (o : Nat) (u : pf_S) (f : Nat → Int) (x : Int32) (y : Int32) (z : Int32) (hst9 : l.stackTraces = false) (h2 : cl2 u) : hx_M l yL_flow cL_flow 6 [(0, 12, 15, 22), (0, 12, 19, 13), (0, 12, 23, 15)] 8 131 [.ref (q 0), .int (x), .int (y), .int (z), .ref o] G q o (u, f) (fun r x1 => ∃ K k : Nat, r = nI K ∧ K = cdF u x y z ∧ ((K = 0 ∧ (cdF u x y z = 0 ∧ fw_post u (tn x) (tn y) (tn z) k ∧ x1.1 = u) ∧ x1.2 0 = (nI k).toInt) ∨ (K ≠ 0 ∧ x1.1 = u))) := by
  refine hx_entry (own := RL) (by decide) rfl (Nat.le_of_ble_eq_true rfl) ?_
  intro p e s m args below meth c A ls C X N hT Hh hl
  have hl : lv_has ls 6 [(0, .ref (q 0)), (1, .int (x)), (2, .int (y)), (3, .int (z)), (4, .ref o)] := hl
  refine lv_aload C.1 C.2.1 dL_flow_0 (lv_at hl 4 rfl) ?_
  refine lv_iconst (v := nI 0) C.1 C.2.1 dL_flow_2 (by decide +kernel) ?_
  refine lv_aload_n C.1 C.2.1 dL_flow_3 rfl (lv_at hl 0 rfl) ?_
  refine lv_iload_n C.1 C.2.1 dL_flow_4 rfl (lv_at hl 1 rfl) ?_
  refine lv_iload_n C.1 C.2.1 dL_flow_5 rfl (lv_at hl 2 rfl) ?_
  refine lv_iload_n C.1 C.2.1 dL_flow_6 rfl (lv_at hl 3 rfl) ?_
  refine hx_call (n := 3) (rest := [.int (nI 0), .ref o]) [.int (x), .int (y), .int (z)] C X Hh (c_X4_flow l G q u x y z hst9 h2) tw_690 tw_691 tw_692 tw_66 tw_693 (by decide +kernel) ⟨Nat.le_of_ble_eq_true rfl, Nat.le_of_ble_eq_true rfl⟩ rfl hl.1 (Nat.le_of_ble_eq_true rfl) dL_flow_7 ⟨Nat.le_of_ble_eq_true rfl, Nat.le_of_ble_eq_true rfl⟩ (fun E ce q9 u1 H locs hE Hj hce hcv hcl => ?_) (fun r u1 H locs hr Hh => ?_)
  · obtain ⟨rfl, hE⟩ := hE
    rcases hE with ⟨rfl, hcd⟩ | ⟨rfl, hcd⟩ | ⟨rfl, hcd⟩
    · refine vx_catch (own := RL) (name := exn 3) (E := exn 3) C.cl [] ⟨0, 12, 15, 22⟩ [⟨0, 12, 19, 13⟩, ⟨0, 12, 23, 15⟩] (hT.trans rfl) (fun _ h => absurd h List.not_mem_nil) rfl (by decide) (C.ts tw_497) (hx_cast X mw_508) hce hcv hcl ?_
      refine lv_astore (lv' := [(5, .ref q9), (0, .ref (q 0)), (1, .int (x)), (2, .int (y)), (3, .int (z)), (4, .ref o)]) C.1 C.2.1 dL_flow_15 hl (by decide) rfl (fun ls hl => ?_)
      refine lv_iconst (v := nI 1) C.1 C.2.1 dL_flow_17 (by decide +kernel) ?_
      exact hx_iret (u1, f) C Hj ⟨Nat.le_of_ble_eq_true rfl, Nat.le_of_ble_eq_true rfl⟩ dL_flow_18 ⟨1, 0, rfl, hcd.symm, Or.inr ⟨by decide, rfl⟩⟩
    · refine vx_catch (own := RL) (name := exn 0) (E := exn 0) C.cl [⟨0, 12, 15, 22⟩] ⟨0, 12, 19, 13⟩ [⟨0, 12, 23, 15⟩] (hT.trans rfl) (List.forall_mem_cons.mpr ⟨Or.inr ⟨by decide, exn 3, C.ts tw_497, N 0 3 (by decide) (by decide) (by decide)⟩, (fun _ h => absurd h List.not_mem_nil)⟩) rfl (by decide) (C.ts tw_274) (hx_cast X mw_289) hce hcv hcl ?_
      refine lv_astore (lv' := [(5, .ref q9), (0, .ref (q 0)), (1, .int (x)), (2, .int (y)), (3, .int (z)), (4, .ref o)]) C.1 C.2.1 dL_flow_19 hl (by decide) rfl (fun ls hl => ?_)
      refine lv_iconst (v := nI 2) C.1 C.2.1 dL_flow_21 (by decide +kernel) ?_
      exact hx_iret (u1, f) C Hj ⟨Nat.le_of_ble_eq_true rfl, Nat.le_of_ble_eq_true rfl⟩ dL_flow_22 ⟨2, 0, rfl, hcd.symm, Or.inr ⟨by decide, rfl⟩⟩
    · refine vx_catch (own := RL) (name := exn 1) (E := exn 1) C.cl [⟨0, 12, 15, 22⟩, ⟨0, 12, 19, 13⟩] ⟨0, 12, 23, 15⟩ [] (hT.trans rfl) (List.forall_mem_cons.mpr ⟨Or.inr ⟨by decide, exn 3, C.ts tw_497, N 1 3 (by decide) (by decide) (by decide)⟩, (List.forall_mem_cons.mpr ⟨Or.inr ⟨by decide, exn 0, C.ts tw_274, N 1 0 (by decide) (by decide) (by decide)⟩, (fun _ h => absurd h List.not_mem_nil)⟩)⟩) rfl (by decide) (C.ts tw_275) (hx_cast X mw_368) hce hcv hcl ?_
      refine lv_astore (lv' := [(5, .ref q9), (0, .ref (q 0)), (1, .int (x)), (2, .int (y)), (3, .int (z)), (4, .ref o)]) C.1 C.2.1 dL_flow_23 hl (by decide) rfl (fun ls hl => ?_)
      refine lv_iconst (v := nI 3) C.1 C.2.1 dL_flow_25 (by decide +kernel) ?_
      exact hx_iret (u1, f) C Hj ⟨Nat.le_of_ble_eq_true rfl, Nat.le_of_ble_eq_true rfl⟩ dL_flow_26 ⟨3, 0, rfl, hcd.symm, Or.inr ⟨by decide, rfl⟩⟩
  · obtain ⟨k, rfl, hk⟩ := hr
    refine lv_i2l C.1 C.2.1 dL_flow_10 (lg_i2lx (nI k)) ?_
    refine gw_lst (len := 1) (x := 0) (F := f) (v := (nI k).toInt) (ws' := hw G q o (u1, fun j => if j = 0 then (nI k).toInt else f j)) C Hh 0 rfl (by decide) rfl dL_flow_11 (by decide) (fun H locs Hh => ?_)
    refine lv_goto (tgt := 27) C.1 C.2.1 dL_flow_12 (by decide) ?_
    refine lv_iconst (v := nI 0) C.1 C.2.1 dL_flow_27 (by decide +kernel) ?_
    exact hx_iret (u1, fun j => if j = 0 then (nI k).toInt else f j) C Hh ⟨Nat.le_of_ble_eq_true rfl, Nat.le_of_ble_eq_true rfl⟩ dL_flow_28 ⟨0, k, rfl, hk.1.symm, Or.inl ⟨rfl, hk, rfl⟩⟩
theorem c_L_state (l : Launch) (G : gw_G) (q : Nat → Nat) (o : Nat) (u : pf_S) (f : Nat → Int) (x : Int32) (hst9 : l.stackTraces = false) (h2 : cl2 u) : hx_M l yL_state cL_state 4 [(0, 9, 12, 22)] 8 124 [.ref (q 0), .int (x), .ref o] G q o (u, f) (fun r x1 => ∃ K k : Nat, r = nI K ∧ K = cdN (u.1 1) x ∧ ((K = 0 ∧ (cdN (u.1 1) x = 0 ∧ k = u.2 18 (tn x) ∧ x1.1 = u) ∧ x1.2 0 = (nI k).toInt) ∨ (K ≠ 0 ∧ x1.1 = u))) := by
  refine hx_entry (own := RL) (by decide) rfl (Nat.le_of_ble_eq_true rfl) ?_
  intro p e s m args below meth c A ls C X N hT Hh hl
  have hl : lv_has ls 4 [(0, .ref (q 0)), (1, .int (x)), (2, .ref o)] := hl
  refine lv_aload_n C.1 C.2.1 dL_state_0 rfl (lv_at hl 2 rfl) ?_
  refine lv_iconst (v := nI 0) C.1 C.2.1 dL_state_1 (by decide +kernel) ?_
  refine lv_aload_n C.1 C.2.1 dL_state_2 rfl (lv_at hl 0 rfl) ?_
  refine lv_iload_n C.1 C.2.1 dL_state_3 rfl (lv_at hl 1 rfl) ?_
  refine hx_call (n := 1) (rest := [.int (nI 0), .ref o]) [.int (x)] C X Hh (c_X4_state l G q u x hst9 h2) tw_706 tw_707 tw_708 tw_66 tw_709 (by decide +kernel) ⟨Nat.le_of_ble_eq_true rfl, Nat.le_of_ble_eq_true rfl⟩ rfl hl.1 (Nat.le_of_ble_eq_true rfl) dL_state_4 ⟨Nat.le_of_ble_eq_true rfl, Nat.le_of_ble_eq_true rfl⟩ (fun E ce q9 u1 H locs hE Hj hce hcv hcl => ?_) (fun r u1 H locs hr Hh => ?_)
  · obtain ⟨rfl, hE⟩ := hE
    obtain ⟨rfl, hcd⟩ := hE
    refine vx_catch (own := RL) (name := exn 3) (E := exn 3) C.cl [] ⟨0, 9, 12, 22⟩ [] (hT.trans rfl) (fun _ h => absurd h List.not_mem_nil) rfl (by decide) (C.ts tw_497) (hx_cast X mw_508) hce hcv hcl ?_
    refine lv_astore_n (lv' := [(3, .ref q9), (0, .ref (q 0)), (1, .int (x)), (2, .ref o)]) C.1 C.2.1 dL_state_12 rfl hl (by decide) rfl (fun ls hl => ?_)
    refine lv_iconst (v := nI 1) C.1 C.2.1 dL_state_13 (by decide +kernel) ?_
    exact hx_iret (u1, f) C Hj ⟨Nat.le_of_ble_eq_true rfl, Nat.le_of_ble_eq_true rfl⟩ dL_state_14 ⟨1, 0, rfl, hcd.symm, Or.inr ⟨by decide, rfl⟩⟩
  · obtain ⟨k, rfl, hk⟩ := hr
    refine lv_i2l C.1 C.2.1 dL_state_7 (lg_i2lx (nI k)) ?_
    refine gw_lst (len := 1) (x := 0) (F := f) (v := (nI k).toInt) (ws' := hw G q o (u1, fun j => if j = 0 then (nI k).toInt else f j)) C Hh 0 rfl (by decide) rfl dL_state_8 (by decide) (fun H locs Hh => ?_)
    refine lv_goto (tgt := 15) C.1 C.2.1 dL_state_9 (by decide) ?_
    refine lv_iconst (v := nI 0) C.1 C.2.1 dL_state_15 (by decide +kernel) ?_
    exact hx_iret (u1, fun j => if j = 0 then (nI k).toInt else f j) C Hh ⟨Nat.le_of_ble_eq_true rfl, Nat.le_of_ble_eq_true rfl⟩ dL_state_16 ⟨0, k, rfl, hk.1.symm, Or.inl ⟨rfl, hk, rfl⟩⟩
theorem c_L_left (l : Launch) (G : gw_G) (q : Nat → Nat) (o : Nat) (u : pf_S) (f : Nat → Int) (x : Int32) (hst9 : l.stackTraces = false) (h2 : cl2 u) : hx_M l yL_left cL_left 4 [(0, 9, 12, 22)] 8 124 [.ref (q 0), .int (x), .ref o] G q o (u, f) (fun r x1 => ∃ K k : Nat, r = nI K ∧ K = cdN (u.1 0) x ∧ ((K = 0 ∧ (cdN (u.1 0) x = 0 ∧ k = u.2 21 (tn x) ∧ x1.1 = u) ∧ x1.2 0 = (nI k).toInt) ∨ (K ≠ 0 ∧ x1.1 = u))) := by
  refine hx_entry (own := RL) (by decide) rfl (Nat.le_of_ble_eq_true rfl) ?_
  intro p e s m args below meth c A ls C X N hT Hh hl
  have hl : lv_has ls 4 [(0, .ref (q 0)), (1, .int (x)), (2, .ref o)] := hl
  refine lv_aload_n C.1 C.2.1 dL_left_0 rfl (lv_at hl 2 rfl) ?_
  refine lv_iconst (v := nI 0) C.1 C.2.1 dL_left_1 (by decide +kernel) ?_
  refine lv_aload_n C.1 C.2.1 dL_left_2 rfl (lv_at hl 0 rfl) ?_
  refine lv_iload_n C.1 C.2.1 dL_left_3 rfl (lv_at hl 1 rfl) ?_
  refine hx_call (n := 1) (rest := [.int (nI 0), .ref o]) [.int (x)] C X Hh (c_X4_left l G q u x hst9 h2) tw_713 tw_714 tw_715 tw_66 tw_716 (by decide +kernel) ⟨Nat.le_of_ble_eq_true rfl, Nat.le_of_ble_eq_true rfl⟩ rfl hl.1 (Nat.le_of_ble_eq_true rfl) dL_left_4 ⟨Nat.le_of_ble_eq_true rfl, Nat.le_of_ble_eq_true rfl⟩ (fun E ce q9 u1 H locs hE Hj hce hcv hcl => ?_) (fun r u1 H locs hr Hh => ?_)
  · obtain ⟨rfl, hE⟩ := hE
    obtain ⟨rfl, hcd⟩ := hE
    refine vx_catch (own := RL) (name := exn 3) (E := exn 3) C.cl [] ⟨0, 9, 12, 22⟩ [] (hT.trans rfl) (fun _ h => absurd h List.not_mem_nil) rfl (by decide) (C.ts tw_497) (hx_cast X mw_508) hce hcv hcl ?_
    refine lv_astore_n (lv' := [(3, .ref q9), (0, .ref (q 0)), (1, .int (x)), (2, .ref o)]) C.1 C.2.1 dL_left_12 rfl hl (by decide) rfl (fun ls hl => ?_)
    refine lv_iconst (v := nI 1) C.1 C.2.1 dL_left_13 (by decide +kernel) ?_
    exact hx_iret (u1, f) C Hj ⟨Nat.le_of_ble_eq_true rfl, Nat.le_of_ble_eq_true rfl⟩ dL_left_14 ⟨1, 0, rfl, hcd.symm, Or.inr ⟨by decide, rfl⟩⟩
  · obtain ⟨k, rfl, hk⟩ := hr
    refine lv_i2l C.1 C.2.1 dL_left_7 (lg_i2lx (nI k)) ?_
    refine gw_lst (len := 1) (x := 0) (F := f) (v := (nI k).toInt) (ws' := hw G q o (u1, fun j => if j = 0 then (nI k).toInt else f j)) C Hh 0 rfl (by decide) rfl dL_left_8 (by decide) (fun H locs Hh => ?_)
    refine lv_goto (tgt := 15) C.1 C.2.1 dL_left_9 (by decide) ?_
    refine lv_iconst (v := nI 0) C.1 C.2.1 dL_left_15 (by decide +kernel) ?_
    exact hx_iret (u1, fun j => if j = 0 then (nI k).toInt else f j) C Hh ⟨Nat.le_of_ble_eq_true rfl, Nat.le_of_ble_eq_true rfl⟩ dL_left_16 ⟨0, k, rfl, hk.1.symm, Or.inl ⟨rfl, hk, rfl⟩⟩
theorem tw_273 : Cond.codeWith ⟨"PromiseFlowsLaw", "arrival", "(LPromiseFlows;III[J)I"⟩ method_3_code 6 (some FieldType.int) [(0, 12, 15, 13), (0, 12, 19, 15), (0, 12, 23, 17)] ∈ pf_tb := mem_tb (i := 273) (by decide +kernel) (by decide +kernel)
theorem tw_496 : Cond.codeWith ⟨"PromiseFlowsLaw", "change", "(LPromiseFlows;III[J)I"⟩ method_4_code 6 (some FieldType.int) [(0, 12, 15, 22), (0, 12, 19, 13), (0, 12, 23, 15)] ∈ pf_tb := mem_tb (i := 496) (by decide +kernel) (by decide +kernel)
theorem tw_525 : Cond.codeWith ⟨"PromiseFlowsLaw", "aside", "(LPromiseFlows;II[J)I"⟩ method_5_code 5 (some FieldType.int) [(0, 10, 13, 22), (0, 10, 17, 13)] ∈ pf_tb := mem_tb (i := 525) (by decide +kernel) (by decide +kernel)
theorem tw_532 : Cond.codeWith ⟨"PromiseFlowsLaw", "life", "(LPromiseFlows;II[J)I"⟩ method_6_code 5 (some FieldType.int) [(0, 10, 13, 13)] ∈ pf_tb := mem_tb (i := 532) (by decide +kernel) (by decide +kernel)
theorem tw_539 : Cond.codeWith ⟨"PromiseFlowsLaw", "standIn", "(LPromiseFlows;IIZ[J)I"⟩ method_7_code 6 (some FieldType.int) [(0, 12, 15, 13), (0, 12, 19, 15)] ∈ pf_tb := mem_tb (i := 539) (by decide +kernel) (by decide +kernel)
theorem tw_553 : Cond.codeWith ⟨"PromiseFlowsLaw", "kit", "(LPromiseFlows;III[J)I"⟩ method_8_code 6 (some FieldType.int) [(0, 12, 15, 13), (0, 12, 19, 15), (0, 12, 23, 17)] ∈ pf_tb := mem_tb (i := 553) (by decide +kernel) (by decide +kernel)
theorem tw_588 : Cond.codeWith ⟨"PromiseFlowsLaw", "order", "(LPromiseFlows;IIII[J)I"⟩ method_9_code 7 (some FieldType.int) [(0, 14, 17, 13), (0, 14, 21, 17)] ∈ pf_tb := mem_tb (i := 588) (by decide +kernel) (by decide +kernel)
theorem tw_604 : Cond.codeWith ⟨"PromiseFlowsLaw", "close", "(LPromiseFlows;I[J)I"⟩ method_10_code 4 (some FieldType.int) [(0, 9, 12, 22), (0, 9, 15, 15)] ∈ pf_tb := mem_tb (i := 604) (by decide +kernel) (by decide +kernel)
theorem tw_617 : Cond.codeWith ⟨"PromiseFlowsLaw", "promise", "(LPromiseFlows;II[J)I"⟩ method_11_code 5 (some FieldType.int) [(0, 10, 13, 13)] ∈ pf_tb := mem_tb (i := 617) (by decide +kernel) (by decide +kernel)
theorem tw_639 : Cond.codeWith ⟨"PromiseFlowsLaw", "share", "(LPromiseFlows;II[J)I"⟩ method_12_code 5 (some FieldType.int) [(0, 10, 13, 13), (0, 10, 17, 52)] ∈ pf_tb := mem_tb (i := 639) (by decide +kernel) (by decide +kernel)
theorem tw_669 : Cond.codeWith ⟨"PromiseFlowsLaw", "bars", "(LPromiseFlows;III[J)I"⟩ method_13_code 6 (some FieldType.int) [(0, 12, 15, 13), (0, 12, 19, 15)] ∈ pf_tb := mem_tb (i := 669) (by decide +kernel) (by decide +kernel)
theorem tw_689 : Cond.codeWith ⟨"PromiseFlowsLaw", "flow", "(LPromiseFlows;III[J)I"⟩ method_14_code 6 (some FieldType.int) [(0, 12, 15, 22), (0, 12, 19, 13), (0, 12, 23, 15)] ∈ pf_tb := mem_tb (i := 689) (by decide +kernel) (by decide +kernel)
theorem tw_705 : Cond.codeWith ⟨"PromiseFlowsLaw", "state", "(LPromiseFlows;I[J)I"⟩ method_15_code 4 (some FieldType.int) [(0, 9, 12, 22)] ∈ pf_tb := mem_tb (i := 705) (by decide +kernel) (by decide +kernel)
theorem tw_712 : Cond.codeWith ⟨"PromiseFlowsLaw", "left", "(LPromiseFlows;I[J)I"⟩ method_16_code 4 (some FieldType.int) [(0, 9, 12, 22)] ∈ pf_tb := mem_tb (i := 712) (by decide +kernel) (by decide +kernel)
