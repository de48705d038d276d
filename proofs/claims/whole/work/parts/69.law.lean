/-! THE CLAIM OUT OF ONE WALK OF THE LAW'S BODY. Your part is whole_start (and what it stands on); all else here is the same for every law, but numbers. -/
def R_law : String := "PromiseFlowsLaw"
def lw_P (b : Addr) (xs : List Int32) (args : Array Value) (s : State) : Prop := args = #[.ref b] ∧ s.IntsAt b xs ∧ xs.length ≤ 2560 ∧ (Jvm.Cond.and given_1 narrow_1).before args s = true
def lw_Q (_ : Array Value) (s : State) (o : Outcome) (t : State) : Prop := o = .returned (some (.int 1)) ∧ Framed s o t [] 1095 11558
def lw_Z (below : List Frame) (a : Array Value) (s : State) : State → Prop := fun t => ∃ o, t.status = .running ∧ Ended t below o ∧ lw_Q a s o t
/-- the law's own end, with 1 on the stack, nothing written that was there before, its room as the claim has it -/
theorem lw_ret {p : Program} {l : Launch} {e : Env} {s : State} {m : MethodId} {below : List Frame} {meth : Method} {c : Code} {b : Nat} (hx : p.tables.exec = Jvm.exec) (hb : c.code = code) (hr : meth.sig.returnType = ret) (hlocks : meth.locks = false) {pc : Nat} {H : Heap} {ls : Array Slot} (hdg : decode code pc = .ok (.ireturn, 1)) : W p l e room_1 s m #[Value.ref b] below meth c H [] 1095 11558 (lw_Z below #[Value.ref b] s) (F0 m pc ls [.int 1]) := by
  intro T hT X
  obtain ⟨fs, hret, hrun, hended, hW, hframe⟩ := X.leave (v := some (.int 1)) (hlocks := hlocks) (fun h => by rw [hr] at h; cases h)
  have hmeth' : T.vm.method? m = some meth := X.method'
  refine ⟨T.setFrames fs, ?_, .returned (some (.int 1)), hrun, hended, rfl, ⟨_, rfl⟩, hW, hframe⟩
  jvm_step X.here [X.here.top, hx, hb, hdg, hmeth', hr, ret, narrow_b1]
  (try refine ⟨rfl, ?_⟩); (try refine ⟨rfl, ?_⟩)
  first | (intro acts; rw [hret _ acts rfl rfl rfl]) | rw [hret _ _ rfl rfl rfl]
  exact Steps.refl _
/-- what holds at the law's entry: the machine, the code, the tables' words (any of lw_tbl by 'hts w (by decide +kernel)'), the script of L ints xs at the cell b, what the Statement gives of the start (any of its parts by flat_of_before) -/
def lw_At (p : Program) (s : State) (m : MethodId) (meth : Method) (c : Code) (b L : Nat) (xs : Nat → Int32) : Prop :=
  p.tables.exec = Jvm.exec ∧ c.code = code ∧ meth.sig.returnType = ret ∧ c.maxLocals = 7 ∧ s.vm.findClass R_law = some m.cls ∧ (∀ w ∈ lw_tbl, w.before #[Value.ref b] s = true) ∧ va_X b L xs s s.heap ∧ b < s.heap.size ∧ meth.locks = false ∧ (Jvm.Cond.and given_1 narrow_1).before #[Value.ref b] s = true
/-! at the beginning -/
theorem li6_le (j : Nat) : li6 j ≤ 100 := by
  unfold li6
  repeat' split
  all_goals omega
theorem cv_none (d : Nat) : ¬ cvd pf0 d := fun h => absurd h.1 (Nat.not_lt_zero _)
theorem st0 : pf_st pf0 := by
  refine ⟨⟨fun _ _ => Nat.zero_le _, fun _ _ => Nat.zero_le _, fun _ _ => Nat.zero_lt_succ 5, fun _ _ => Nat.zero_le _, fun g _ => li6_le g⟩, ⟨Nat.zero_le _, fun _ _ => Nat.zero_lt_succ 99, fun _ _ => Nat.zero_lt_succ 5, fun _ _ => Nat.zero_le _, fun _ _ => Nat.zero_le _⟩, Nat.zero_le _, fun _ _ => Nat.zero_lt_succ 99, fun _ _ => Nat.zero_lt_succ 5, fun _ _ => Nat.zero_le _, fun _ _ => Nat.zero_le _, fun _ _ => Nat.zero_le _, ⟨fun i h => absurd h (Nat.not_lt_zero _), fun i j _ h => absurd h (Nat.not_lt_zero _)⟩⟩
theorem cls0 : cls pf0 := by
  refine ⟨st0, ⟨rfl, ⟨fun i h => absurd h (Nat.not_lt_zero _), fun i j _ h => absurd h (Nat.not_lt_zero _)⟩, ?_, fun a h => absurd h (Nat.not_lt_zero _), fun d _ => ?_, fun d _ a h => absurd h (Nat.not_lt_zero _)⟩, fun d _ h => absurd h (cv_none d), fun d _ h => absurd h (cv_none d)⟩
  · intro d _ a ha
    have ha' : (0 : Nat).testBit a = true := ha
    rw [Nat.zero_testBit] at ha'
    cases ha'
  · show 0 = cv_W pf0 d
    apply Classical.byContradiction
    intro q
    exact cv_none d (cv_pos (by omega))
theorem md20 : md2 md0 := by
  refine ⟨⟨⟨Nat.zero_le _, Nat.zero_le _⟩, fun g _ => ⟨li6_le g, Nat.zero_lt_succ 63, Nat.zero_le _⟩, fun _ _ => ⟨Nat.zero_lt_succ 5, Nat.zero_le _⟩, fun _ _ => ⟨Nat.zero_lt_succ 99, Nat.zero_lt_succ 5, Nat.zero_le _, Nat.zero_le _⟩, fun _ _ => ⟨Nat.zero_lt_succ 99, Nat.zero_lt_succ 5, Nat.zero_le _, Nat.zero_le _, Nat.zero_le _⟩⟩, Nat.zero_le _, fun _ _ => ⟨Nat.zero_lt_succ 1023, ?_, ?_⟩, fun _ _ => ⟨?_, ?_⟩⟩
  · show (0 : Int) ≤ 0; omega
  · show (0 : Int) ≤ 1000000; omega
  · show (0 : Int) ≤ 0; omega
  · show (0 : Int) ≤ 1000000; omega
theorem Rl0 : Rl pf0 md0 := by
  refine ⟨⟨cls0, fun _ _ _ => rfl, fun g _ h => absurd h (Nat.not_lt_zero _)⟩, md20, ⟨⟨⟨rfl, rfl⟩, fun g _ => ⟨rfl, rfl⟩, fun j _ => ?_, fun j _ => ⟨rfl, rfl⟩, fun a h => absurd h (Nat.not_lt_zero _), fun o h => absurd h (Nat.not_lt_zero _)⟩, fun o h => absurd h (Nat.not_lt_zero _)⟩, fun g _ x h => absurd h (Nat.not_lt_zero _)⟩
  show tbit 0 (j / 6) = 0
  unfold tbit
  rw [Nat.zero_testBit]
  rfl
/-! the loop -/
set_option maxHeartbeats 2000000 in
theorem law_loop {p : Program} {l : Launch} {e : Env} {s : State} {m : MethodId} {below : List Frame} {meth : Method} {c : Code} {G : gw_G} {q q2 : Nat → Nat} {o b L : Nat} {xs : Nat → Int32} (hst9 : l.stackTraces = false) (C : gw_C p s m #[Value.ref b] meth c G RL cL_law 7 ret) (X : gx_C s (fun z : Nat => s.heap.size ≤ z)) (N : hx_N s) (hX : va_X b L xs s s.heap) (hbl : b < s.heap.size) (hL : L ≤ 2560) :
    ∀ (n t : Nat) (u : pf_S) (v : md_S) (f : Nat → Int) (H : Heap) (locs : List Loc) (ls : Array Slot), 5 * t ≤ L → L - 5 * t < n → Rl u v → gw_H G (fun z : Nat => s.heap.size ≤ z) s (LW G q q2 o u f v) H locs → lv_has ls 7 [(4, .int (nI (5 * t))), (0, .ref b), (1, .ref (q 0)), (2, .ref (q2 0)), (3, .ref o)] →
      W p l e room_1 s m #[Value.ref b] below meth c H locs (55 + t) (3270 + 6 * t) (lw_Z below #[Value.ref b] s) (F0 m 23 ls []) := by
  have hbA : ¬ (fun z : Nat => s.heap.size ≤ z) b := Nat.not_le.mpr hbl
  intro n
  induction n with
  | zero => intro t u v f H locs ls h1 h2; exact absurd h2 (Nat.not_lt_zero _)
  | succ n ih =>
    intro t u v f H locs ls h1 h2 hR Hh hl
    refine lv_iload C.1 C.2.1 dL_law_23 (lv_at hl 0 rfl) ?_
    refine lv_aload_n C.1 C.2.1 dL_law_25 rfl (lv_at hl 1 rfl) ?_
    refine va_slen C.1 C.2.1 hX hbl hbA Hh.2.2.1 dL_law_26 ?_
    refine lv_iconst (v := nI 5) C.1 C.2.1 dL_law_27 (by decide +kernel) ?_
    refine lv_isub C.1 C.2.1 dL_law_28 ?_
    refine lv_icmp_gt (tgt := 1171) C.1 C.2.1 dL_law_29 (by decide) (fun hgt => ?_) (fun hle => ?_)
    · refine lv_iconst (v := 1) C.1 C.2.1 dL_law_1171 (by decide +kernel) ?_
      refine va_forget (fun z hz => Hh.2.2.1.2.2 z hz) ?_
      refine W.widen (k := 1095) (n := 11558) (by omega) (by omega) ?_
      exact lw_ret C.1 C.2.1 C.2.2.1 C.lk dL_law_1172
    have h5 : 5 * t + 5 ≤ L := by
      have e1 := pk_sub_toInt (a := L) (b := 5) (by omega) (by omega)
      have e2 := nI_toInt (n := 5 * t) (by omega)
      apply Classical.byContradiction
      intro hn
      apply hle
      show nI L - nI 5 < nI (5 * t)
      rw [Int32.lt_iff_toInt_lt, e1, e2]
      omega
    have kk : ∀ (u1 : pf_S) (v1 : md_S) (f1 : Nat → Int) (H1 : Heap) (locs1 : List Loc) (ls1 : Array Slot), Rl u1 v1 → gw_H G (fun z : Nat => s.heap.size ≤ z) s (LW G q q2 o u1 f1 v1) H1 locs1 → lv_has ls1 7 [(4, .int (nI (5 * t))), (0, .ref b), (1, .ref (q 0)), (2, .ref (q2 0)), (3, .ref o)] → W p l e room_1 s m #[Value.ref b] below meth c H1 locs1 (55 + t + 1) (3270 + 6 * t + 6) (lw_Z below #[Value.ref b] s) (F0 m 1165 ls1 []) := by
      intro u1 v1 f1 H1 locs1 ls1 hR1 Hh1 hl1
      refine lv_iinc (v := nI (5 * t + 5)) (lv' := [(4, .int (nI (5 * t + 5))), (0, .ref b), (1, .ref (q 0)), (2, .ref (q2 0)), (3, .ref o)]) C.1 C.2.1 dL_law_1165 hl1 (k := 0) rfl (nI_add _ 5) (by decide) rfl (fun ls hl => ?_)
      refine lv_goto (tgt := 23) C.1 C.2.1 dL_law_1168 (by decide) ?_
      refine W.widen (k := 55 + (t + 1)) (n := 3270 + 6 * (t + 1)) (by omega) (by omega) ?_
      exact ih (t + 1) u1 v1 f1 H1 locs1 ls (by omega) (by omega) hR1 Hh1 (by rw [show 5 * (t + 1) = 5 * t + 5 by omega]; exact hl)
    refine lv_aload_n C.1 C.2.1 dL_law_32 rfl (lv_at hl 1 rfl) ?_
    refine lv_iload C.1 C.2.1 dL_law_33 (lv_at hl 0 rfl) ?_
    refine ll_ld C Hh hX hbl hbA (by omega) (by omega) dL_law_35 ?_
    refine lv_bipush (v := nI 15) C.1 C.2.1 dL_law_36 (by decide +kernel) ?_
    refine lv_iand C.1 C.2.1 dL_law_38 ?_
    obtain ⟨j, hj, ej⟩ := pk_andE (xs (5 * t)) (m := nI 15) 4 (by decide +kernel)
    rw [ej]
    rcases (show j = 0 ∨ j = 1 ∨ j = 2 ∨ j = 3 ∨ j = 4 ∨ j = 5 ∨ j = 6 ∨ j = 7 ∨ j = 8 ∨ j = 9 ∨ j = 10 ∨ j = 11 ∨ j = 12 ∨ j = 13 ∨ j = 14 ∨ j = 15 by omega) with rfl | rfl | rfl | rfl | rfl | rfl | rfl | rfl | rfl | rfl | rfl | rfl | rfl | rfl | rfl | rfl
    · refine lv_tableIn (tgt := 112) (off := 73) C.1 C.2.1 dL_law_39 (by decide +kernel) (by decide +kernel) (by decide +kernel) (by decide) ?_
      exact law_arrival hst9 C X N hX hbl hbA (by omega) h5 hR Hh hl ⟨by omega, by omega⟩ kk
    · refine lv_tableIn (tgt := 192) (off := 153) C.1 C.2.1 dL_law_39 (by decide +kernel) (by decide +kernel) (by decide +kernel) (by decide) ?_
      exact law_change hst9 C X N hX hbl hbA (by omega) h5 hR Hh hl ⟨by omega, by omega⟩ kk
    · refine lv_tableIn (tgt := 272) (off := 233) C.1 C.2.1 dL_law_39 (by decide +kernel) (by decide +kernel) (by decide +kernel) (by decide) ?_
      exact law_aside hst9 C X N hX hbl hbA (by omega) h5 hR Hh hl ⟨by omega, by omega⟩ kk
    · refine lv_tableIn (tgt := 340) (off := 301) C.1 C.2.1 dL_law_39 (by decide +kernel) (by decide +kernel) (by decide +kernel) (by decide) ?_
      exact law_life hst9 C X N hX hbl hbA (by omega) h5 hR Hh hl ⟨by omega, by omega⟩ kk
    · refine lv_tableIn (tgt := 408) (off := 369) C.1 C.2.1 dL_law_39 (by decide +kernel) (by decide +kernel) (by decide +kernel) (by decide) ?_
      exact law_standIn hst9 C X N hX hbl hbA (by omega) h5 hR Hh hl ⟨by omega, by omega⟩ kk
    · refine lv_tableIn (tgt := 504) (off := 465) C.1 C.2.1 dL_law_39 (by decide +kernel) (by decide +kernel) (by decide +kernel) (by decide) ?_
      exact law_kit hst9 C X N hX hbl hbA (by omega) h5 hR Hh hl ⟨by omega, by omega⟩ kk
    · refine lv_tableIn (tgt := 584) (off := 545) C.1 C.2.1 dL_law_39 (by decide +kernel) (by decide +kernel) (by decide +kernel) (by decide) ?_
      exact law_order hst9 C X N hX hbl hbA (by omega) h5 hR Hh hl ⟨by omega, by omega⟩ kk
    · refine lv_tableIn (tgt := 676) (off := 637) C.1 C.2.1 dL_law_39 (by decide +kernel) (by decide +kernel) (by decide +kernel) (by decide) ?_
      exact law_close hst9 C X N hX hbl hbA (by omega) h5 hR Hh hl ⟨by omega, by omega⟩ kk
    · refine lv_tableIn (tgt := 732) (off := 693) C.1 C.2.1 dL_law_39 (by decide +kernel) (by decide +kernel) (by decide +kernel) (by decide) ?_
      exact law_promise hst9 C X N hX hbl hbA (by omega) h5 hR Hh hl ⟨by omega, by omega⟩ kk
    · refine lv_tableIn (tgt := 800) (off := 761) C.1 C.2.1 dL_law_39 (by decide +kernel) (by decide +kernel) (by decide +kernel) (by decide) ?_
      exact law_share hst9 C X N hX hbl hbA (by omega) h5 hR Hh hl ⟨by omega, by omega⟩ kk
    · refine lv_tableIn (tgt := 868) (off := 829) C.1 C.2.1 dL_law_39 (by decide +kernel) (by decide +kernel) (by decide +kernel) (by decide) ?_
      exact law_bars hst9 C X N hX hbl hbA (by omega) h5 hR Hh hl ⟨by omega, by omega⟩ kk
    · refine lv_tableIn (tgt := 948) (off := 909) C.1 C.2.1 dL_law_39 (by decide +kernel) (by decide +kernel) (by decide +kernel) (by decide) ?_
      exact law_flow hst9 C X N hX hbl hbA (by omega) h5 hR Hh hl ⟨by omega, by omega⟩ kk
    · refine lv_tableIn (tgt := 1028) (off := 989) C.1 C.2.1 dL_law_39 (by decide +kernel) (by decide +kernel) (by decide +kernel) (by decide) ?_
      exact law_state hst9 C X N hX hbl hbA (by omega) h5 hR Hh hl ⟨by omega, by omega⟩ kk
    · refine lv_tableIn (tgt := 1084) (off := 1045) C.1 C.2.1 dL_law_39 (by decide +kernel) (by decide +kernel) (by decide +kernel) (by decide) ?_
      exact law_left hst9 C X N hX hbl hbA (by omega) h5 hR Hh hl ⟨by omega, by omega⟩ kk
    · refine lv_tableIn (tgt := 1140) (off := 1101) C.1 C.2.1 dL_law_39 (by decide +kernel) (by decide +kernel) (by decide +kernel) (by decide) ?_
      exact law_count hst9 C X N hX hbl hbA (by omega) h5 hR Hh hl ⟨by omega, by omega⟩ kk
    · refine lv_tableOut (tgt := 1165) C.1 C.2.1 dL_law_39 (by decide +kernel) (by decide) ?_
      refine W.widen (k := 55 + t + 1) (n := 3270 + 6 * t + 6) (by omega) (by omega) ?_
      exact kk u v f H locs ls hR Hh hl
/-! what the law's entry gives -/
theorem gs_mem : ∀ x ∈ gx_str, Cond.stringRef RX4 x.1 x.2 ∈ lw_tbl := by decide +kernel
theorem nc_mem : ∀ i, i < 5 → ∀ j, j < 5 → i ≠ j → Cond.not (.castable (exn i) (exn j)) ∈ flatC (Jvm.Cond.and given_1 narrow_1) := by decide +kernel
theorem ar_of {args : Array Value} {s : State} {ty : FieldType} (h : (Cond.arrayClass ty).before args s = true) : ∃ cA : ClassId, ArrOfT s cA ty ∧ s.vm.findClass ("[" ++ ty.toString) = some cA := by
  obtain ⟨cA, kA, comp, h1, h2, h3⟩ := Cond.arrayClass_spec h
  exact ⟨cA, fun n z => ⟨fun k h => (by cases h), kA, h2, comp, h3⟩, h1⟩
theorem en_K {args : Array Value} {s : State} (hts : ∀ w ∈ lw_tbl, w.before args s = true) : ∃ G : gw_G, va_K G.1 vcl (gw_ty G) s := by
  have htb : ∀ w ∈ pf_tb, w.before args s = true := fun w hw => hts w (List.mem_filter.mp hw).1
  obtain ⟨c0, i0, k0⟩ := u_known (C := RX0) (T := TX0) (N := 5) (n := 5) htb uwX0 (htb _ tw_118)
  obtain ⟨c1, i1, k1⟩ := u_known (C := RX1) (T := TX1) (N := 5) (n := 5) htb uwX1 (htb _ tw_92)
  obtain ⟨c2, i2, k2⟩ := u_known (C := RX2) (T := TX2) (N := 7) (n := 7) htb uwX2 (htb _ tw_146)
  obtain ⟨c3, i3, k3⟩ := u_known (C := RX3) (T := TX3) (N := 10) (n := 10) htb uwX3 (htb _ tw_180)
  obtain ⟨c4, i4, k4⟩ := u_known (C := RX4) (T := TX4) (N := 4) (n := 4) htb uwX4 (htb _ tw_84)
  obtain ⟨c5, i5, k5⟩ := u_known (C := RX5) (T := TX5) (N := 29) (n := 29) htb uwX5 (htb _ tw_718)
  obtain ⟨a1, r1, f1⟩ := ar_of (htb _ tw_115)
  obtain ⟨a2, r2, f2⟩ := ar_of (htb _ tw_116)
  obtain ⟨a3, r3, f3⟩ := ar_of (htb _ tw_811)
  refine ⟨((fun k => if k = 0 then c0 else if k = 1 then c1 else if k = 2 then c2 else if k = 3 then c3 else if k = 4 then c4 else c5, fun k => if k = 0 then i0 else if k = 1 then i1 else if k = 2 then i2 else if k = 3 then i3 else if k = 4 then i4 else i5), a1, a2, a3), ?_, ?_⟩
  · intro k x hq
    match k, hq with
    | 0, hq => cases hq; exact k0
    | 1, hq => cases hq; exact k1
    | 2, hq => cases hq; exact k2
    | 3, hq => cases hq; exact k3
    | 4, hq => cases hq; exact k4
    | 5, hq => cases hq; exact k5
    | k + 6, hq => simp [vcl] at hq
  · intro k x hq
    match k, hq with
    | 0, hq => cases hq; exact ⟨r1, f1⟩
    | 1, hq => cases hq; exact ⟨r2, f2⟩
    | 2, hq => cases hq; exact ⟨r3, f3⟩
    | k + 3, hq => simp [gw_ty] at hq
theorem en_T {args : Array Value} {s : State} (hts : ∀ w ∈ lw_tbl, w.before args s = true) : gx_T s := by
  intro x hx
  have h1 := hts _ (gs_mem x hx)
  obtain ⟨cC, kC, hfc, -⟩ := Cond.instantiable_spec (hts _ (List.mem_filter.mp tw_84).1)
  obtain ⟨k, cf, i, a, -, -, -, -, -, hev⟩ := Cond.stringRef_spec hfc h1
  exact ⟨a, vk_R.of h1 hev⟩
theorem en_X {b : Nat} {s : State} (hts : ∀ w ∈ lw_tbl, w.before #[Value.ref b] s = true) (hgv : (Jvm.Cond.and given_1 narrow_1).before #[Value.ref b] s = true) : gx_C s (fun z : Nat => s.heap.size ≤ z) := by
  have hA : ∀ a : Nat, a < s.heap.size → ¬ (fun z : Nat => s.heap.size ≤ z) a := fun a h => Nat.not_le.mpr h
  refine ⟨fun w hw => va_Nw.of (pf_moreWord_on (List.mem_filter.mp hw).2) (hts w (List.mem_filter.mp hw).1), en_T hts, vx_Zqof (hts _ ?_) (hts _ (List.mem_filter.mp tw_72).1) (flat_of_before _ hgv _ ?_) hA, vx_Zqof (hts _ ?_) (hts _ (List.mem_filter.mp tw_72).1) (flat_of_before _ hgv _ ?_) hA⟩
  · exact List.mem_of_getElem? (i := 314) (by decide +kernel)
  · decide +kernel
  · exact List.mem_of_getElem? (i := 316) (by decide +kernel)
  · decide +kernel
set_option maxRecDepth 20000 in
set_option maxHeartbeats 2000000 in
/-- THE LAW, from its entry -/
theorem whole_start {p : Program} {e : Env} {s : State} {m : MethodId} {below : List Frame} {meth : Method} {c : Code} (l : Launch) (hst9 : l.stackTraces = false) {b L : Nat} {xs : Nat → Int32} (hL : L ≤ 2560) (C0 : lw_At p s m meth c b L xs) : W p l e room_1 s m #[Value.ref b] below meth c s.heap [] 0 0 (lw_Z below #[Value.ref b] s) (entryFrame m ([Value.ref b] : List Value).toArray 7) := by
  obtain ⟨hx, hb, hr, hml, hown, hts, hX, hbl, hlocks, hgv⟩ := id C0
  obtain ⟨G, hK⟩ := en_K hts
  have X := en_X hts hgv
  have N : hx_N s := fun i j h1 h2 h3 => va_Nc.of (flat_of_before _ hgv _ (nc_mem i h1 j h2 h3))
  have C : gw_C p s m #[Value.ref b] meth c G RL cL_law 7 ret := ⟨hx, hb, hr, hml, hown, fun w hw => hts w (List.mem_filter.mp hw).1, hlocks, hK, fun w hw => va_Nw.of (pf_nestWord_on (List.mem_filter.mp hw).2) (hts w (List.mem_filter.mp hw).1)⟩
  have Hh : gw_H G (fun z : Nat => s.heap.size ≤ z) s [] s.heap [] := ⟨fun k x h => by simp at h, ⟨fun i j x y h => by simp at h, fun k x h => by simp at h⟩, va_S.rf, fun _ h => h⟩
  have hl := lv_entry ([.ref b]) (n := 7) (Nat.le_of_ble_eq_true rfl)
  rw [lg_entry_eq]
  generalize (lg_sl ([.ref b]) ++ List.replicate (7 - (lg_sl ([.ref b])).length) Slot.unset).toArray = ls at hl ⊢
  have hl : lv_has ls 7 [(0, .ref b)] := hl
  refine gn_new (ci := 4) (Cn := RX4) (T := TX4) (N := 4) (ty0 := tyX4) (fs := [.null, .null, .null, .null]) C Hh rfl uwX4 tyX4_ok tw_83 tw_84 tw_66 dfX4 dL_law_0 ⟨Nat.le_of_ble_eq_true rfl, Nat.le_of_ble_eq_true rfl⟩ (fun r0 H Hh => ?_)
  have Hh : gw_H G (fun z : Nat => s.heap.size ≤ z) s [(r0, .inr (4, [.null, .null, .null, .null]))] H _ := Hh
  refine W.widen (k := 1) (n := 4) (Nat.le_of_ble_eq_true rfl) (Nat.le_of_ble_eq_true rfl) ?_
  refine lv_dup C.1 C.2.1 dL_law_3 rfl ?_
  refine gn_init [] 0 [] C Hh (c_X4_init l G r0) rfl rfl rfl (by decide) tw_85 tw_86 tw_66 tw_87 rfl (by decide +kernel) ⟨Nat.le_of_ble_eq_true rfl, Nat.le_of_ble_eq_true rfl⟩ hl.1 (Nat.le_of_ble_eq_true rfl) dL_law_4 ⟨Nat.le_of_ble_eq_true rfl, Nat.le_of_ble_eq_true rfl⟩ (fun q H locs Hh => ?_)
  have Hh : gw_H G (fun z : Nat => s.heap.size ≤ z) s (pw G (fun i => if i = 0 then r0 else q i) pf0) H locs := Hh
  refine W.widen (k := 29) (n := 926) (Nat.le_of_ble_eq_true rfl) (Nat.le_of_ble_eq_true rfl) ?_
  refine lv_astore_n (lv' := [(1, .ref r0), (0, .ref b)]) C.1 C.2.1 dL_law_7 rfl hl (by decide) rfl (fun ls hl => ?_)
  refine gn_new (ci := 5) (Cn := RX5) (T := TX5) (N := 29) (ty0 := tyX5) (fs := [.int (nI 0), .null, .null, .null, .null, .null, .int (nI 0), .null, .null, .null, .null, .int (nI 0), .null, .null, .null, .null, .null, .int (nI 0), .null, .null, .null, .null, .null, .int (nI 0), .null, .null, .null, .null, .null]) C Hh rfl uwX5 tyX5_ok tw_717 tw_718 tw_71 dfX5 dL_law_8 ⟨Nat.le_of_ble_eq_true rfl, Nat.le_of_ble_eq_true rfl⟩ (fun r8 H Hh => ?_)
  refine W.widen (k := 30) (n := 955) (Nat.le_of_ble_eq_true rfl) (Nat.le_of_ble_eq_true rfl) ?_
  refine lv_dup C.1 C.2.1 dL_law_11 rfl ?_
  refine gn_init [0, 1, 2, 3, 4, 5, 6, 7, 8, 9, 10, 11, 12, 13, 14, 15, 16, 17, 18, 19, 20, 21, 22, 23, 24, 25, 26, 27, 28] 29 (pw G (fun i => if i = 0 then r0 else q i) pf0) C Hh (c_X5_init l G r8) rfl rfl rfl (by decide) tw_719 tw_720 tw_71 tw_721 rfl (by decide +kernel) ⟨Nat.le_of_ble_eq_true rfl, Nat.le_of_ble_eq_true rfl⟩ hl.1 (Nat.le_of_ble_eq_true rfl) dL_law_12 ⟨Nat.le_of_ble_eq_true rfl, Nat.le_of_ble_eq_true rfl⟩ (fun q2 H locs Hh => ?_)
  refine W.widen (k := 54) (n := 3269) (Nat.le_of_ble_eq_true rfl) (Nat.le_of_ble_eq_true rfl) ?_
  refine lv_astore_n (lv' := [(2, .ref r8), (1, .ref r0), (0, .ref b)]) C.1 C.2.1 dL_law_15 rfl hl (by decide) rfl (fun ls hl => ?_)
  refine lv_iconst (v := nI 1) C.1 C.2.1 dL_law_16 (by decide +kernel) ?_
  refine gn_newl (len := 1) C Hh (by decide) dL_law_17 ⟨Nat.le_of_ble_eq_true rfl, Nat.le_of_ble_eq_true rfl⟩ (fun o H Hh => ?_)
  refine W.widen (k := 55) (n := 3270) (Nat.le_of_ble_eq_true rfl) (Nat.le_of_ble_eq_true rfl) ?_
  refine lv_astore_n (lv' := [(3, .ref o), (2, .ref r8), (1, .ref r0), (0, .ref b)]) C.1 C.2.1 dL_law_19 rfl hl (by decide) rfl (fun ls hl => ?_)
  refine lv_iconst (v := nI 0) C.1 C.2.1 dL_law_20 (by decide +kernel) ?_
  refine lv_istore (lv' := [(4, .int (nI 0)), (3, .ref o), (2, .ref r8), (1, .ref r0), (0, .ref b)]) C.1 C.2.1 dL_law_21 hl (by decide) rfl (fun ls hl => ?_)
  have Hl := gn_perm (ws' := LW G (fun i => if i = 0 then r0 else q i) (fun i => if i = 0 then r8 else q2 i) o pf0 (fun _ => 0) md0) [54, 0, 1, 2, 3, 4, 5, 6, 7, 8, 9, 10, 11, 12, 13, 14, 15, 16, 17, 18, 19, 20, 21, 22, 23, 24, 25, 26, 27, 28, 29, 30, 31, 32, 33, 34, 35, 36, 37, 38, 39, 40, 41, 42, 43, 44, 45, 46, 47, 48, 49, 50, 51, 52, 53] Hh rfl rfl rfl
  exact law_loop hst9 C X N hX hbl hL (L + 1) 0 pf0 md0 (fun _ => 0) _ _ ls (Nat.zero_le _) (by omega) Rl0 Hl (lv_sub hl [0, 4, 3, 2, 1] rfl)
