section GWD
variable {p : Program} {l : Launch} {e : Env} {R : Room} {s : State} {m : MethodId} {args : Array Value} {below : List Frame} {meth : Method} {c : Code} {H : Heap} {locs : List Loc} {cells slots : Nat} {Q : State → Prop}
variable {cc : ByteArray} {pc : Nat} {ls : Array Slot} {rest : List Value} {G : gw_G} {A : Nat → Prop} {own : String} {nL : Nat} {ret : Option FieldType} {ws ws' : va_W} {a : Nat}
theorem gw_neg {x : Nat} (h : 2 ^ 31 ≤ x) (h2 : x < 2 ^ 32) : nI x < 0 := by
  rw [Int32.lt_iff_toInt_lt]
  show (Int32.ofNat x).toInt < 0
  rw [Int32.toInt_ofNat']
  simp only [Int.bmod, show (Int32.size : Int) = 4294967296 from rfl]
  omega
theorem gw_if_geN {x tgt : Nat} {off : Int} (C : gw_C p s m args meth c G own cc nL ret) (hdg : decode cc pc = .ok (.ifCond .ge off, 3)) (ht : (pc : Int) + off = (tgt : Int)) (hx : 2 ^ 31 ≤ x) (hx2 : x < 2 ^ 32) (kf : W p l e R s m args below meth c H locs cells slots Q (F0 m (pc + 3) ls rest)) : W p l e R s m args below meth c H locs cells slots Q (F0 m pc ls (.int (nI x) :: rest)) :=
  lv_if_ge C.1 C.2.1 hdg ht (fun h => absurd (gw_neg hx hx2) (Int32.not_lt.mpr h)) (fun _ => kf)
variable {y : MethodName} {c1 : ByteArray} {mL fr lo idx n : Nat} {r1 : Option FieldType} {Qc : Array Value → State → Outcome → State → Prop}
theorem gw_runSO (As : List Value) (C : gw_C p s m args meth c G own cc nL ret) (Hh : gw_H G A s ws H locs) (hM : Met l y (Cond.code y c1 mL r1 :: pf_tb) (gw_rm fr lo) (va_Pc As (gw_pre G ws H.size)) Qc 0 0 (va_A ws H.size))
    (t1 : Cond.methodLink own idx y ∈ pf_tb) (t2 : Cond.static y ∈ pf_tb) (t4 : Cond.initialized y.cls ∈ pf_tb) (t5 : Cond.code y c1 mL r1 ∈ pf_tb)
    (hd : y.cls ≠ "java/lang/invoke/MethodHandle" ∧ y.cls ≠ "java/lang/invoke/VarHandle" ∧ (parseMethodDescriptor y.desc).map (fun d => d.parameters.length) = some n) (hR : fr + 1 ≤ R.frames ∧ 8 + (mL + 11) + lo ≤ R.locals)
    (hn : As.length = n) (hls : ls.size = nL) (hst : (rest.map fun v => v.category).sum ≤ 8) (hdg : decode cc pc = .ok (.invokestatic idx, 3)) (h0 : cells ≤ R.cells ∧ slots ≤ R.slots) :
    va_Run p l e R s m args below meth c H locs cells slots 0 0 (F0 m pc ls (As.reverse ++ rest)) rest (Qc As.toArray) (va_A ws H.size) :=
  va_runS (As := As) (rest := rest) ⟨C.1, C.2.1, C.2.2.2.1, C.cl, C.2.2.2.2.2.1⟩ hM ⟨callB_of n C.2.2.2.2.2.1 (gw_good t5) rfl rfl rfl (C.ts t4) (C.ts t1) hd hR, C.ts t2⟩ ⟨gw_blind, gw_give C Hh⟩ rfl hn hls rfl (lv_room hst) hdg h0
end GWD
/-- what demand d takes from arrival a -/
def tk_x (u : pf_S) (d a : Nat) : Nat := u.2 22 (d * 10 + a)
def tk_cap (u : pf_S) : Prop := u.1 2 ≤ 10 ∧ ∀ a, a < u.1 2 → u.2 21 a + fl_sum (fun d => tk_x u d a) 31 ≤ 1000000
theorem tk_cap.x {u : pf_S} (h : tk_cap u) {d a : Nat} (hd : d < 31) (ha : a < u.1 2) : u.2 22 (d * 10 + a) ≤ 1000000 := by
  have h1 := h.2 a ha
  have h2 := fl_sum_one (fun d => tk_x u d a) hd
  unfold tk_x at h1 h2
  omega
/-- arrays of a set apart, two states are the same -/
def st_buts (ks : List Nat) (u v : pf_S) : Prop := v.1 = u.1 ∧ ∀ j, j ∉ ks → v.2 j = u.2 j
theorem st_buts.rf {ks : List Nat} {u : pf_S} : st_buts ks u u := ⟨rfl, fun _ _ => rfl⟩
theorem st_buts.up {ks : List Nat} {k x y : Nat} {u v : pf_S} (h : st_buts ks u v) (hk : k ∈ ks) : st_buts ks u (v.1, up2 v.2 k x y) := ⟨h.1, fun j hj => (up2_ne v.2 (fun e => hj (by rw [e]; exact hk))).trans (h.2 j hj)⟩
set_option maxHeartbeats 4000000 in
set_option maxRecDepth 100000 in
theorem c_X3_save (l : Launch) (G : gw_G) (q : Nat → Nat) (u : pf_S)   : gw_MV l yX3_save cX3_save 1 none 1 60 [.ref (q 4)] G (pw G q) u (fun u1 => st_buts [24, 25] u u1 ∧ (∀ j, j < 10 → u1.2 24 j = u.2 21 j) ∧ ∀ j, j < 310 → u1.2 25 j = u.2 22 j) := by
  refine gw_entryV (own := RX3) (by decide) rfl (Nat.le_of_ble_eq_true rfl) ?_
  intro p e s m args below meth c A ls C Hh hl
  have hl : lv_has ls 1 [(0, .ref (q 4))] := hl
  refine lv_aload_n C.1 C.2.1 dX3_save_0 rfl (lv_at hl 0 rfl) ?_
  refine gw_get (Cn := RX3) (T := TX3) (N := 10) C Hh 4 pw_at4 rfl uwX3 2 (by decide) rfl tw_187 rfl dX3_save_1 ?_
  refine lv_iconst (v := nI 0) C.1 C.2.1 dX3_save_4 (by decide +kernel) ?_
  refine lv_aload_n C.1 C.2.1 dX3_save_5 rfl (lv_at hl 0 rfl) ?_
  refine gw_get (Cn := RX3) (T := TX3) (N := 10) C Hh 4 pw_at4 rfl uwX3 5 (by decide) rfl tw_192 rfl dX3_save_6 ?_
  refine lv_iconst (v := nI 0) C.1 C.2.1 dX3_save_9 (by decide +kernel) ?_
  refine lv_bipush (v := nI 10) C.1 C.2.1 dX3_save_10 (by decide +kernel) ?_
  refine gw_copy C Hh hl.1 tw_423 tw_425 tw_424 tw_78 21 24 pw_at21 pw_at24 (by decide) pw_cpy24 (by decide) (by decide) dX3_save_12 (fun H locs Hh => ?_)
  have Hh : gw_H G A s (pw G q (u.1, upA u.2 24 (fun j => if j < 10 then u.2 21 (j) else u.2 24 (j)))) H locs := Hh
  refine lv_aload_n C.1 C.2.1 dX3_save_15 rfl (lv_at hl 0 rfl) ?_
  refine gw_get (Cn := RX3) (T := TX3) (N := 10) C Hh 4 pw_at4 rfl uwX3 3 (by decide) rfl tw_189 rfl dX3_save_16 ?_
  refine lv_iconst (v := nI 0) C.1 C.2.1 dX3_save_19 (by decide +kernel) ?_
  refine lv_aload_n C.1 C.2.1 dX3_save_20 rfl (lv_at hl 0 rfl) ?_
  refine gw_get (Cn := RX3) (T := TX3) (N := 10) C Hh 4 pw_at4 rfl uwX3 6 (by decide) rfl tw_193 rfl dX3_save_21 ?_
  refine lv_iconst (v := nI 0) C.1 C.2.1 dX3_save_24 (by decide +kernel) ?_
  refine lv_sipush (v := nI 310) C.1 C.2.1 dX3_save_25 (by decide +kernel) ?_
  refine gw_copy C Hh hl.1 tw_423 tw_425 tw_424 tw_78 22 25 pw_at22 pw_at25 (by decide) pw_cpy25 (by decide) (by decide) dX3_save_28 (fun H locs Hh => ?_)
  have Hh : gw_H G A s (pw G q (u.1, upA (upA u.2 24 (fun j => if j < 10 then u.2 21 (j) else u.2 24 (j))) 25 (fun j => if j < 310 then u.2 22 (j) else u.2 25 (j)))) H locs := Hh
  exact gw_vret (w := pw G q) (u := (u.1, upA (upA u.2 24 (fun j => if j < 10 then u.2 21 (j) else u.2 24 (j))) 25 (fun j => if j < 310 then u.2 22 (j) else u.2 25 (j)))) C Hh dX3_save_31 (by refine ⟨⟨rfl, fun j hj => ?_⟩, fun j hj => ?_, fun j hj => ?_⟩ <;> simp only [List.mem_cons, List.not_mem_nil, or_false, not_or] at * <;> first | (show upA (upA _ _ _) _ _ j = _; rw [upA_ne _ hj.2, upA_ne _ hj.1]) | (show upA (upA _ _ _) _ _ _ j = _; rw [upA_ne _ (by decide), upA_at, if_pos hj]) | (show upA (upA _ _ _) _ _ _ j = _; rw [upA_at, if_pos hj]))
set_option maxHeartbeats 4000000 in
set_option maxRecDepth 100000 in
theorem c_X3_restore (l : Launch) (G : gw_G) (q : Nat → Nat) (u : pf_S)   : gw_MV l yX3_restore cX3_restore 1 none 1 60 [.ref (q 4)] G (pw G q) u (fun u1 => st_buts [21, 22] u u1 ∧ (∀ j, j < 10 → u1.2 21 j = u.2 24 j) ∧ ∀ j, j < 310 → u1.2 22 j = u.2 25 j) := by
  refine gw_entryV (own := RX3) (by decide) rfl (Nat.le_of_ble_eq_true rfl) ?_
  intro p e s m args below meth c A ls C Hh hl
  have hl : lv_has ls 1 [(0, .ref (q 4))] := hl
  refine lv_aload_n C.1 C.2.1 dX3_restore_0 rfl (lv_at hl 0 rfl) ?_
  refine gw_get (Cn := RX3) (T := TX3) (N := 10) C Hh 4 pw_at4 rfl uwX3 5 (by decide) rfl tw_192 rfl dX3_restore_1 ?_
  refine lv_iconst (v := nI 0) C.1 C.2.1 dX3_restore_4 (by decide +kernel) ?_
  refine lv_aload_n C.1 C.2.1 dX3_restore_5 rfl (lv_at hl 0 rfl) ?_
  refine gw_get (Cn := RX3) (T := TX3) (N := 10) C Hh 4 pw_at4 rfl uwX3 2 (by decide) rfl tw_187 rfl dX3_restore_6 ?_
  refine lv_iconst (v := nI 0) C.1 C.2.1 dX3_restore_9 (by decide +kernel) ?_
  refine lv_bipush (v := nI 10) C.1 C.2.1 dX3_restore_10 (by decide +kernel) ?_
  refine gw_copy C Hh hl.1 tw_423 tw_425 tw_424 tw_78 24 21 pw_at24 pw_at21 (by decide) pw_cpy21 (by decide) (by decide) dX3_restore_12 (fun H locs Hh => ?_)
  have Hh : gw_H G A s (pw G q (u.1, upA u.2 21 (fun j => if j < 10 then u.2 24 (j) else u.2 21 (j)))) H locs := Hh
  refine lv_aload_n C.1 C.2.1 dX3_restore_15 rfl (lv_at hl 0 rfl) ?_
  refine gw_get (Cn := RX3) (T := TX3) (N := 10) C Hh 4 pw_at4 rfl uwX3 6 (by decide) rfl tw_193 rfl dX3_restore_16 ?_
  refine lv_iconst (v := nI 0) C.1 C.2.1 dX3_restore_19 (by decide +kernel) ?_
  refine lv_aload_n C.1 C.2.1 dX3_restore_20 rfl (lv_at hl 0 rfl) ?_
  refine gw_get (Cn := RX3) (T := TX3) (N := 10) C Hh 4 pw_at4 rfl uwX3 3 (by decide) rfl tw_189 rfl dX3_restore_21 ?_
  refine lv_iconst (v := nI 0) C.1 C.2.1 dX3_restore_24 (by decide +kernel) ?_
  refine lv_sipush (v := nI 310) C.1 C.2.1 dX3_restore_25 (by decide +kernel) ?_
  refine gw_copy C Hh hl.1 tw_423 tw_425 tw_424 tw_78 25 22 pw_at25 pw_at22 (by decide) pw_cpy22 (by decide) (by decide) dX3_restore_28 (fun H locs Hh => ?_)
  have Hh : gw_H G A s (pw G q (u.1, upA (upA u.2 21 (fun j => if j < 10 then u.2 24 (j) else u.2 21 (j))) 22 (fun j => if j < 310 then u.2 25 (j) else u.2 22 (j)))) H locs := Hh
  exact gw_vret (w := pw G q) (u := (u.1, upA (upA u.2 21 (fun j => if j < 10 then u.2 24 (j) else u.2 21 (j))) 22 (fun j => if j < 310 then u.2 25 (j) else u.2 22 (j)))) C Hh dX3_restore_31 (by refine ⟨⟨rfl, fun j hj => ?_⟩, fun j hj => ?_, fun j hj => ?_⟩ <;> simp only [List.mem_cons, List.not_mem_nil, or_false, not_or] at * <;> first | (show upA (upA _ _ _) _ _ j = _; rw [upA_ne _ hj.2, upA_ne _ hj.1]) | (show upA (upA _ _ _) _ _ _ j = _; rw [upA_ne _ (by decide), upA_at, if_pos hj]) | (show upA (upA _ _ _) _ _ _ j = _; rw [upA_at, if_pos hj]))
def gb_inv (u : pf_S) (d i : Nat) (v : pf_S) : Prop := st_buts [21, 22] u v ∧ (∀ a, a < i → v.2 21 a = u.2 21 a + tk_x u d a ∧ tk_x v d a = 0) ∧ (∀ a, i ≤ a → a < 10 → v.2 21 a = u.2 21 a ∧ tk_x v d a = tk_x u d a) ∧ ∀ e a, e ≠ d → a < 10 → tk_x v e a = tk_x u e a
theorem gb_step {u v : pf_S} {d i : Nat} (h : gb_inv u d i v) (hi : i < 10) : gb_inv u d (i + 1) (v.1, up2 (up2 v.2 21 i (v.2 21 i + v.2 22 (d * 10 + i))) 22 (d * 10 + i) 0) := by
  obtain ⟨h1, h2, h3, h4⟩ := h
  obtain ⟨e1, e2⟩ := h3 i (Nat.le_refl _) hi
  refine ⟨(h1.up (by decide)).up (k := 22) (by decide), fun a ha => ?_, fun a ha hb => ?_, fun e a he ha => ?_⟩
  · by_cases hai : a = i
    · subst hai
      unfold tk_x at e2 ⊢
      simp [up2, e1, e2]
    · obtain ⟨g1, g2⟩ := h2 a (by omega)
      unfold tk_x at g2 ⊢
      have hne : ¬ d * 10 + a = d * 10 + i := by omega
      simp [up2, hai, g1, g2, tk_x]
  · obtain ⟨g1, g2⟩ := h3 a (by omega) hb
    unfold tk_x at g2 ⊢
    have hne : ¬ a = i := by omega
    simp [up2, hne, g1, g2]
  · have g := h4 e a he ha
    unfold tk_x at g ⊢
    have hne : ¬ e * 10 + a = d * 10 + i := by omega
    simp [up2, hne, g]
set_option maxHeartbeats 4000000 in
set_option maxRecDepth 100000 in
theorem c_X3_giveBack (l : Launch) (G : gw_G) (q : Nat → Nat) (u : pf_S) (d : Nat) (hcap : tk_cap u) (hd : d < 31) : gw_MV l yX3_giveBack cX3_giveBack 3 none 0 0 [.ref (q 4), .int (nI (d))] G (pw G q) u (fun u1 => gb_inv u d (u.1 2) u1) := by
  refine gw_entryV (own := RX3) (by decide) rfl (Nat.le_of_ble_eq_true rfl) ?_
  intro p e s m args below meth c A ls C Hh hl
  have hl : lv_has ls 3 [(0, .ref (q 4)), (1, .int (nI (d)))] := hl
  refine lv_iconst (v := nI 0) C.1 C.2.1 dX3_giveBack_0 (by decide +kernel) ?_
  refine lv_istore_n (lv' := [(2, .int (nI (0))), (0, .ref (q 4)), (1, .int (nI (d)))]) C.1 C.2.1 dX3_giveBack_1 rfl hl (by decide) rfl (fun ls hl => ?_)
  have loop_2 : ∀ (fu : Nat) (i : Nat) (uc : pf_S) (H : Heap) (locs : List Loc) (ls : Array Slot), (i ≤ u.1 2) → (gb_inv u d i uc) → u.1 2 - i < fu → gw_H G A s (pw G q uc) H locs → lv_has ls 3 [(0, .ref (q 4)), (1, .int (nI (d))), (2, .int (nI (i)))] → W p l e (gw_rm 0 0) s m args below meth c H locs 0 0 (MQ below (va_Qv (fun u1 => gb_inv u d (u.1 2) u1) (gw_at G A (pw G q)) A) args s 0 0 A) (F0 m 2 ls []) := by
    intro fu
    induction fu with
    | zero =>
      intro i uc H locs ls hi hv hmf
      exact absurd hmf (Nat.not_lt_zero _)
    | succ fu ih_2 =>
      intro i uc H locs ls hi hv hmf Hh hl
      have h0 := hcap.1
      have hn : uc.1 2 = u.1 2 := by rw [hv.1.1]
      refine lv_iload_n C.1 C.2.1 dX3_giveBack_2 rfl (lv_at hl 2 rfl) ?_
      refine lv_aload_n C.1 C.2.1 dX3_giveBack_3 rfl (lv_at hl 0 rfl) ?_
      refine gw_get (Cn := RX3) (T := TX3) (N := 10) C Hh 4 pw_at4 rfl uwX3 0 (by decide) rfl tw_185 rfl dX3_giveBack_4 ?_
      refine gw_icmp_ge (tgt := 48) C dX3_giveBack_7 (by decide) (by omega) (by omega) (fun hc_7 => ?_) (fun hc_7 => ?_)
      · skip
        exact gw_vret (w := pw G q) (u := uc) C Hh dX3_giveBack_48 (by rw [show u.1 2 = i by omega]; exact hv)
      · skip
        refine lv_aload_n C.1 C.2.1 dX3_giveBack_10 rfl (lv_at hl 0 rfl) ?_
        refine gw_get (Cn := RX3) (T := TX3) (N := 10) C Hh 4 pw_at4 rfl uwX3 2 (by decide) rfl tw_187 rfl dX3_giveBack_11 ?_
        refine lv_iload_n C.1 C.2.1 dX3_giveBack_14 rfl (lv_at hl 2 rfl) ?_
        refine lv_dup2_11 C.1 C.2.1 dX3_giveBack_15 rfl rfl ?_
        refine gw_ld C Hh 21 pw_at21 (by decide) dX3_giveBack_16 (by omega) ?_
        refine lv_aload_n C.1 C.2.1 dX3_giveBack_17 rfl (lv_at hl 0 rfl) ?_
        refine gw_get (Cn := RX3) (T := TX3) (N := 10) C Hh 4 pw_at4 rfl uwX3 3 (by decide) rfl tw_189 rfl dX3_giveBack_18 ?_
        refine lv_iload_n C.1 C.2.1 dX3_giveBack_21 rfl (lv_at hl 1 rfl) ?_
        refine lv_bipush (v := nI 10) C.1 C.2.1 dX3_giveBack_22 (by decide +kernel) ?_
        refine gw_imul C dX3_giveBack_24 ?_
        refine lv_iload_n C.1 C.2.1 dX3_giveBack_25 rfl (lv_at hl 2 rfl) ?_
        refine gw_iadd C dX3_giveBack_26 ?_
        refine gw_ld C Hh 22 pw_at22 (by decide) dX3_giveBack_27 (by omega) ?_
        refine gw_iadd C dX3_giveBack_28 ?_
        refine gw_st C Hh 21 pw_at21 (by decide) pw_set21 dX3_giveBack_29 (by omega) (fun H locs Hh => ?_)
        have Hh : gw_H G A s (pw G q (uc.1, up2 uc.2 21 (i) ((uc.2 21 (i)) + (uc.2 22 ((d * 10) + i))))) H locs := Hh
        refine lv_aload_n C.1 C.2.1 dX3_giveBack_30 rfl (lv_at hl 0 rfl) ?_
        refine gw_get (Cn := RX3) (T := TX3) (N := 10) C Hh 4 pw_at4 rfl uwX3 3 (by decide) rfl tw_189 rfl dX3_giveBack_31 ?_
        refine lv_iload_n C.1 C.2.1 dX3_giveBack_34 rfl (lv_at hl 1 rfl) ?_
        refine lv_bipush (v := nI 10) C.1 C.2.1 dX3_giveBack_35 (by decide +kernel) ?_
        refine gw_imul C dX3_giveBack_37 ?_
        refine lv_iload_n C.1 C.2.1 dX3_giveBack_38 rfl (lv_at hl 2 rfl) ?_
        refine gw_iadd C dX3_giveBack_39 ?_
        refine lv_iconst (v := nI 0) C.1 C.2.1 dX3_giveBack_40 (by decide +kernel) ?_
        refine gw_st C Hh 22 pw_at22 (by decide) pw_set22 dX3_giveBack_41 (by omega) (fun H locs Hh => ?_)
        have Hh : gw_H G A s (pw G q (uc.1, up2 (up2 uc.2 21 (i) ((uc.2 21 (i)) + (uc.2 22 ((d * 10) + i)))) 22 ((d * 10) + i) (0))) H locs := Hh
        refine lv_iinc (v := nI (i + 1)) (lv' := [(2, .int (nI (i + 1))), (0, .ref (q 4)), (1, .int (nI (d)))]) C.1 C.2.1 dX3_giveBack_42 hl (k := 2) rfl (nI_add _ 1) (by decide) rfl (fun ls hl => ?_)
        refine lv_goto (tgt := 2) C.1 C.2.1 dX3_giveBack_45 (by decide) ?_
        exact ih_2 (i + 1) ((uc.1, up2 (up2 uc.2 21 (i) ((uc.2 21 (i)) + (uc.2 22 ((d * 10) + i)))) 22 ((d * 10) + i) (0))) _ _ _ (by first | assumption | omega) (by exact gb_step hv (by omega)) (by omega) Hh (lv_sub hl [1, 2, 0] rfl)
  exact loop_2 _ (0) (u) _ _ _ (by first | assumption | omega) (by exact ⟨st_buts.rf, fun a h => by omega, fun a _ _ => ⟨rfl, rfl⟩, fun _ _ _ _ => rfl⟩) (Nat.lt_succ_self _) Hh (lv_sub hl [1, 2, 0] rfl)
def cl_inv (u v : pf_S) : Prop := v.1 = up1 u.1 2 (u.1 0) ∧ (∀ k, k ∉ [20, 21, 22] → v.2 k = u.2 k) ∧ kx_row (u.2 10) (u.1 0) (v.2 20)
theorem cl_inv.up {u v : pf_S} {k x y : Nat} (h : cl_inv u v) (hk : k ∈ [21, 22]) : cl_inv u (v.1, up2 v.2 k x y) := by
  refine ⟨h.1, fun j hj => ?_, ?_⟩
  · show up2 v.2 k x y j = _
    rw [up2_ne v.2 (fun e => hj (by subst e; simp at hk ⊢; omega))]
    exact h.2.1 j hj
  · show kx_row (u.2 10) (u.1 0) (up2 v.2 k x y 20)
    rw [up2_ne v.2 (by simp at hk; omega)]
    exact h.2.2
set_option maxHeartbeats 4000000 in
set_option maxRecDepth 100000 in
theorem c_X3_clear (l : Launch) (G : gw_G) (q : Nat → Nat) (u : pf_S)  (hok : ar_ok u) : gw_MV l yX3_clear cX3_clear 3 none 1 23 [.ref (q 4), .ref (q 2)] G (pw G q) u (fun u1 => cl_inv u u1 ∧ (∀ a, a < u.1 0 → u1.2 21 a = u.2 12 a - u.2 13 a) ∧ ∀ j, j < 310 → u1.2 22 j = 0) := by
  refine gw_entryV (own := RX3) (by decide) rfl (Nat.le_of_ble_eq_true rfl) ?_
  intro p e s m args below meth c A ls C Hh hl
  have hl : lv_has ls 3 [(0, .ref (q 4)), (1, .ref (q 2))] := hl
  refine lv_aload_n C.1 C.2.1 dX3_clear_0 rfl (lv_at hl 0 rfl) ?_
  refine lv_aload_n C.1 C.2.1 dX3_clear_1 rfl (lv_at hl 1 rfl) ?_
  refine gw_getN (Cn := RX0) (T := TX0) (N := 5) C Hh 2 pw_at2 rfl uwX0 0 (by decide) rfl tw_124 rfl dX3_clear_2 ?_
  refine gw_put (Cn := RX3) (T := TX3) (N := 10) (ty0 := tyX3) (v := nI (u.1 0)) C Hh 4 pw_at4 rfl uwX3 tyX3_ok nmX3 0 (by decide) rfl tw_185 rfl (by decide +kernel) (Nat.le_of_ble_eq_true rfl) pw_num2 dX3_clear_5 (fun H locs Hh => ?_)
  refine lv_aload_n C.1 C.2.1 dX3_clear_8 rfl (lv_at hl 1 rfl) ?_
  refine lv_aload_n C.1 C.2.1 dX3_clear_9 rfl (lv_at hl 0 rfl) ?_
  refine gw_get (Cn := RX3) (T := TX3) (N := 10) C Hh 4 pw_at4 rfl uwX3 1 (by decide) rfl tw_186 rfl dX3_clear_10 ?_
  refine gw_fromV (w := pw G q) (u := (up1 u.1 2 (u.1 0), u.2)) C Hh (gw_runVN (n := 1) (C1 := RX0) [.ref (q 20)] C Hh (c_X0_sortByTime l G q ((up1 u.1 2 (u.1 0), u.2))  (by exact hok) _) tw_410 tw_412 tw_14 tw_68 tw_413 (by decide +kernel) ⟨Nat.le_of_ble_eq_true rfl, Nat.le_of_ble_eq_true rfl⟩ 2 pw_at2 rfl rfl hl.1 (Nat.le_of_ble_eq_true rfl) dX3_clear_13 ⟨Nat.zero_le _, Nat.zero_le _⟩) (fun uc_13 H locs hp_13 Hh => ?_)
  have hcl : cl_inv u uc_13 := ⟨hp_13.1.1, fun k hk => hp_13.1.2 k (fun e => hk (by rw [e]; decide)), hp_13.2⟩
  refine lv_iconst (v := nI 0) C.1 C.2.1 dX3_clear_16 (by decide +kernel) ?_
  refine lv_istore_n (lv' := [(2, .int (nI (0))), (0, .ref (q 4)), (1, .ref (q 2))]) C.1 C.2.1 dX3_clear_17 rfl hl (by decide) rfl (fun ls hl => ?_)
  have loop_18 : ∀ (fu : Nat) (i : Nat) (uc : pf_S) (H : Heap) (locs : List Loc) (ls : Array Slot), (i ≤ u.1 0) → (cl_inv u uc) → (∀ a, a < i → uc.2 21 a = u.2 12 a - u.2 13 a) → u.1 0 - i < fu → gw_H G A s (pw G q uc) H locs → lv_has ls 3 [(0, .ref (q 4)), (1, .ref (q 2)), (2, .int (nI (i)))] → W p l e (gw_rm 1 23) s m args below meth c H locs 0 0 (MQ below (va_Qv (fun u1 => cl_inv u u1 ∧ (∀ a, a < u.1 0 → u1.2 21 a = u.2 12 a - u.2 13 a) ∧ ∀ j, j < 310 → u1.2 22 j = 0) (gw_at G A (pw G q)) A) args s 0 0 A) (F0 m 18 ls []) := by
    intro fu
    induction fu with
    | zero =>
      intro i uc H locs ls hi hv hr hmf
      exact absurd hmf (Nat.not_lt_zero _)
    | succ fu ih_18 =>
      intro i uc H locs ls hi hv hr hmf Hh hl
      have h0 := hok.1
      have hn : uc.1 2 = u.1 0 := by rw [hv.1]; rfl
      refine lv_iload_n C.1 C.2.1 dX3_clear_18 rfl (lv_at hl 2 rfl) ?_
      refine lv_aload_n C.1 C.2.1 dX3_clear_19 rfl (lv_at hl 0 rfl) ?_
      refine gw_get (Cn := RX3) (T := TX3) (N := 10) C Hh 4 pw_at4 rfl uwX3 0 (by decide) rfl tw_185 rfl dX3_clear_20 ?_
      refine gw_icmp_ge (tgt := 43) C dX3_clear_23 (by decide) (by omega) (by omega) (fun hc_23 => ?_) (fun hc_23 => ?_)
      · skip
        refine lv_iconst (v := nI 0) C.1 C.2.1 dX3_clear_43 (by decide +kernel) ?_
        refine lv_istore_n (lv' := [(2, .int (nI (0))), (0, .ref (q 4)), (1, .ref (q 2))]) C.1 C.2.1 dX3_clear_44 rfl hl (by decide) rfl (fun ls hl => ?_)
        have loop_45 : ∀ (fu : Nat) (j : Nat) (ud : pf_S) (H : Heap) (locs : List Loc) (ls : Array Slot), (j ≤ 310) → (cl_inv u ud) → (∀ a, a < u.1 0 → ud.2 21 a = u.2 12 a - u.2 13 a) → (∀ i, i < j → ud.2 22 i = 0) → 310 - j < fu → gw_H G A s (pw G q ud) H locs → lv_has ls 3 [(0, .ref (q 4)), (1, .ref (q 2)), (2, .int (nI (j)))] → W p l e (gw_rm 1 23) s m args below meth c H locs 0 0 (MQ below (va_Qv (fun u1 => cl_inv u u1 ∧ (∀ a, a < u.1 0 → u1.2 21 a = u.2 12 a - u.2 13 a) ∧ ∀ j, j < 310 → u1.2 22 j = 0) (gw_at G A (pw G q)) A) args s 0 0 A) (F0 m 45 ls []) := by
          intro fu
          induction fu with
          | zero =>
            intro j ud H locs ls hj hv2 hr2 hz hmf
            exact absurd hmf (Nat.not_lt_zero _)
          | succ fu ih_45 =>
            intro j ud H locs ls hj hv2 hr2 hz hmf Hh hl
            refine lv_iload_n C.1 C.2.1 dX3_clear_45 rfl (lv_at hl 2 rfl) ?_
            refine lv_aload_n C.1 C.2.1 dX3_clear_46 rfl (lv_at hl 0 rfl) ?_
            refine gw_get (Cn := RX3) (T := TX3) (N := 10) C Hh 4 pw_at4 rfl uwX3 3 (by decide) rfl tw_189 rfl dX3_clear_47 ?_
            refine gw_len (len := 310) C Hh 22 pw_at22 (t0 := 0) rfl rfl dX3_clear_50 ?_
            refine gw_icmp_ge (tgt := 67) C dX3_clear_51 (by decide) (by omega) (by omega) (fun hc_51 => ?_) (fun hc_51 => ?_)
            · skip
              exact gw_vret (w := pw G q) (u := ud) C Hh dX3_clear_67 (by exact ⟨hv2, hr2, fun i h => hz i (by omega)⟩)
            · skip
              refine lv_aload_n C.1 C.2.1 dX3_clear_54 rfl (lv_at hl 0 rfl) ?_
              refine gw_get (Cn := RX3) (T := TX3) (N := 10) C Hh 4 pw_at4 rfl uwX3 3 (by decide) rfl tw_189 rfl dX3_clear_55 ?_
              refine lv_iload_n C.1 C.2.1 dX3_clear_58 rfl (lv_at hl 2 rfl) ?_
              refine lv_iconst (v := nI 0) C.1 C.2.1 dX3_clear_59 (by decide +kernel) ?_
              refine gw_st C Hh 22 pw_at22 (by decide) pw_set22 dX3_clear_60 (by omega) (fun H locs Hh => ?_)
              have Hh : gw_H G A s (pw G q (ud.1, up2 ud.2 22 (j) (0))) H locs := Hh
              refine lv_iinc (v := nI (j + 1)) (lv' := [(2, .int (nI (j + 1))), (0, .ref (q 4)), (1, .ref (q 2))]) C.1 C.2.1 dX3_clear_61 hl (k := 2) rfl (nI_add _ 1) (by decide) rfl (fun ls hl => ?_)
              refine lv_goto (tgt := 45) C.1 C.2.1 dX3_clear_64 (by decide) ?_
              exact ih_45 (j + 1) ((ud.1, up2 ud.2 22 (j) (0))) _ _ _ (by first | assumption | omega) (by exact hv2.up (by decide)) (by intro a h; show up2 ud.2 22 j 0 21 a = _; rw [up2_ne _ (by decide)]; exact hr2 a h) (by intro a h; show up2 ud.2 22 j 0 22 a = 0; rw [up2_at]; dsimp only; by_cases h1 : a = j; (rw [if_pos h1]); (rw [if_neg h1]; exact hz a (by omega))) (by omega) Hh (lv_sub hl [1, 2, 0] rfl)
        exact loop_45 _ (0) (uc) _ _ _ (by first | assumption | omega) (by exact hv) (by intro a h; exact hr a (by omega)) (by intro a h; omega) (Nat.lt_succ_self _) Hh (lv_sub hl [1, 2, 0] rfl)
      · skip
        refine lv_aload_n C.1 C.2.1 dX3_clear_26 rfl (lv_at hl 0 rfl) ?_
        refine gw_get (Cn := RX3) (T := TX3) (N := 10) C Hh 4 pw_at4 rfl uwX3 2 (by decide) rfl tw_187 rfl dX3_clear_27 ?_
        refine lv_iload_n C.1 C.2.1 dX3_clear_30 rfl (lv_at hl 2 rfl) ?_
        refine lv_aload_n C.1 C.2.1 dX3_clear_31 rfl (lv_at hl 1 rfl) ?_
        refine lv_iload_n C.1 C.2.1 dX3_clear_32 rfl (lv_at hl 2 rfl) ?_
        refine gw_fromI (w := pw G q) (u := uc) C Hh (gw_runVN (n := 1) (C1 := RX0) [.int (nI (i))] C Hh (c_X0_free l G q (uc) (i) (by exact ⟨by rw [hv.1]; exact h0, by rw [hv.2.1 10 (by decide)]; exact hok.2.1, by rw [hv.2.1 11 (by decide)]; exact hok.2.2.1, by rw [hv.2.1 12 (by decide)]; exact hok.2.2.2.1, by rw [hv.2.1 12 (by decide), hv.2.1 13 (by decide)]; exact hok.2.2.2.2⟩) (by first | assumption | omega) _) tw_414 tw_245 tw_2 tw_68 tw_246 (by decide +kernel) ⟨Nat.le_of_ble_eq_true rfl, Nat.le_of_ble_eq_true rfl⟩ 2 pw_at2 rfl rfl hl.1 (Nat.le_of_ble_eq_true rfl) dX3_clear_33 ⟨Nat.zero_le _, Nat.zero_le _⟩) (fun rc_33 uc_33 H locs hp_33 Hh => ?_)
        obtain ⟨kc_33, rfl, hp_33⟩ := hp_33
        obtain ⟨hk_33, hu_33⟩ := hp_33
        rw [hu_33] at Hh
        clear hu_33
        refine gw_st C Hh 21 pw_at21 (by decide) pw_set21 dX3_clear_36 (by omega) (fun H locs Hh => ?_)
        have Hh : gw_H G A s (pw G q (uc.1, up2 uc.2 21 (i) (kc_33))) H locs := Hh
        refine lv_iinc (v := nI (i + 1)) (lv' := [(2, .int (nI (i + 1))), (0, .ref (q 4)), (1, .ref (q 2))]) C.1 C.2.1 dX3_clear_37 hl (k := 2) rfl (nI_add _ 1) (by decide) rfl (fun ls hl => ?_)
        refine lv_goto (tgt := 18) C.1 C.2.1 dX3_clear_40 (by decide) ?_
        exact ih_18 (i + 1) ((uc.1, up2 uc.2 21 (i) (kc_33))) _ _ _ (by first | assumption | omega) (by exact hv.up (by decide)) (by intro a h; show up2 uc.2 21 i kc_33 21 a = _; rw [up2_at]; dsimp only; by_cases h1 : a = i; (rw [if_pos h1, hk_33, h1, hv.2.1 12 (by decide), hv.2.1 13 (by decide)]); (rw [if_neg h1]; exact hr a (by omega))) (by omega) Hh (lv_sub hl [1, 2, 0] rfl)
  exact loop_18 _ (0) (uc_13) _ _ _ (by first | assumption | omega) (by exact hcl) (by intro a h; omega) (Nat.lt_succ_self _) Hh (lv_sub hl [1, 2, 0] rfl)
