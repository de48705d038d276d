theorem tk_cap_of {u v : pf_S} (h1 : v.1 = u.1) (h2 : v.2 21 = u.2 21) (h3 : v.2 22 = u.2 22) (h : tk_cap u) : tk_cap v := by
  refine ⟨by rw [h1]; exact h.1, fun a ha => ?_⟩
  rw [h1] at ha
  rw [h2, show (fun d => tk_x v d a) = fun d => tk_x u d a from funext fun d => tk_x_of h3 d a]
  exact h.2 a ha
theorem ta_le {u v : pf_S} {lo d w k : Nat} (h : ta_post u v lo d w k) (hn : u.1 2 ≤ 10) : k ≤ w := by
  have h1 := fl_sum_le (f := tk_x u d) (g := tk_x v d) (n := u.1 2) (fun b hb => h.1.2.2.1 b (by omega))
  have h2 := h.2.1
  omega
/-- the trial: a state like u in which the last demand may use S, and how much it can take there -/
def mo_try (u : pf_S) (S k : Nat) : Prop := ∃ v w m, v.1 = u.1 ∧ (∀ j, j ∉ [23, 24, 25] → v.2 j = u.2 j) ∧ v.2 23 30 = S ∧ (∀ d, d < 30 → v.2 23 d = u.2 23 d) ∧ ta_post v w (tk_ot 4294967295 30) 30 10000001 m ∧ k + m = 10000001
/-- what a trial leaves as it was -/
def mo_same (u u1 : pf_S) : Prop := u1.1 = u.1 ∧ (∀ j, j ∉ [21, 22, 23, 24, 25, 26, 27, 28] → u1.2 j = u.2 j) ∧ (∀ j, j < 10 → u1.2 21 j = u.2 21 j) ∧ (∀ j, j < 310 → u1.2 22 j = u.2 22 j) ∧ ∀ d, d < 30 → u1.2 23 d = u.2 23 d
set_option maxHeartbeats 4000000 in
set_option maxRecDepth 100000 in
theorem c_X3_mostFrom (l : Launch) (G : gw_G) (q : Nat → Nat) (u : pf_S) (S : Nat) (hcap : tk_cap u) (hus : us_ok u) (hS : ∀ a, S.testBit a = true → a < u.1 2) (hlt : ∀ z, z < u.1 2 → u.2 20 z < u.1 2) (hinj : ∀ i j, i < j → j < u.1 2 → u.2 20 i ≠ u.2 20 j) : gw_MI l yX3_mostFrom cX3_mostFrom 3 (some .int) 4 109 [.ref (q 4), .int (nI (S))] G (pw G q) u (fun r u1 => ∃ k : Nat, r = nI k ∧ (mo_same u u1 ∧ u1.2 23 30 = S ∧ mo_try u S k)) := by
  refine gw_entryI (own := RX3) (by decide) rfl (Nat.le_of_ble_eq_true rfl) ?_
  intro p e s m args below meth c A ls C Hh hl
  have hl : lv_has ls 3 [(0, .ref (q 4)), (1, .int (nI (S)))] := hl
  refine lv_aload_n C.1 C.2.1 dX3_mostFrom_0 rfl (lv_at hl 0 rfl) ?_
  refine gw_fromV (w := pw G q) (u := u) C Hh (gw_runV (n := 0) (C1 := RX3) [] C Hh (c_X3_save l G q (u)   _) tw_632 tw_421 tw_16 tw_70 tw_422 (by decide +kernel) ⟨Nat.le_of_ble_eq_true rfl, Nat.le_of_ble_eq_true rfl⟩ 4 pw_at4 rfl rfl hl.1 (Nat.le_of_ble_eq_true rfl) dX3_mostFrom_1 ⟨Nat.zero_le _, Nat.zero_le _⟩) (fun uc_1 H locs hp_1 Hh => ?_)
  have hq1 := hp_1.1.1
  have hq2 := hp_1.1.2
  refine lv_aload_n C.1 C.2.1 dX3_mostFrom_4 rfl (lv_at hl 0 rfl) ?_
  refine gw_get (Cn := RX3) (T := TX3) (N := 10) C Hh 4 pw_at4 rfl uwX3 4 (by decide) rfl tw_190 rfl dX3_mostFrom_5 ?_
  refine lv_bipush (v := nI 30) C.1 C.2.1 dX3_mostFrom_8 (by decide +kernel) ?_
  refine lv_iload_n C.1 C.2.1 dX3_mostFrom_10 rfl (lv_at hl 1 rfl) ?_
  refine gw_st C Hh 23 pw_at23 (by decide) pw_set23 dX3_mostFrom_11 (by omega) (fun H locs Hh => ?_)
  have Hh : gw_H G A s (pw G q (uc_1.1, up2 uc_1.2 23 (30) (S))) H locs := Hh
  refine lv_ldc (v := nI 10000001) C.1 C.2.1 C.cl (C.ts tw_633) dX3_mostFrom_12 ?_
  refine lv_aload_n C.1 C.2.1 dX3_mostFrom_14 rfl (lv_at hl 0 rfl) ?_
  refine lv_bipush (v := nI 30) C.1 C.2.1 dX3_mostFrom_15 (by decide +kernel) ?_
  refine lv_ldc (v := nI 10000001) C.1 C.2.1 C.cl (C.ts tw_633) dX3_mostFrom_17 ?_
  refine lv_iconst (v := nI 4294967295) C.1 C.2.1 dX3_mostFrom_19 (by decide +kernel) ?_
  obtain ⟨v, hv⟩ : ∃ v : pf_S, v = (uc_1.1, up2 uc_1.2 23 30 S) := ⟨_, rfl⟩
  have hv1 : v.1 = u.1 := by rw [hv]; exact hq1
  have hv2 : ∀ j, j ∉ [23, 24, 25] → v.2 j = u.2 j := fun j hj => by rw [hv]; show up2 uc_1.2 23 30 S j = _; rw [up2_ne _ (fun q9 => hj (by rw [q9]; decide))]; exact hq2 j (fun q9 => hj (by simp at q9 ⊢; omega))
  have hv3 : v.2 23 30 = S := by rw [hv]; simp [up2]
  have hv4 : ∀ d, d < 30 → v.2 23 d = u.2 23 d := fun d hd => by rw [hv]; show up2 uc_1.2 23 30 S 23 d = _; rw [up2_off _ (by omega), hq2 23 (by decide)]
  have hvc : tk_cap v := tk_cap_of hv1 (hv2 21 (by decide)) (hv2 22 (by decide)) hcap
  have hvu : us_ok v := by intro d hd a ha; rw [hv1]; by_cases q9 : d = 30; (rw [q9, hv3] at ha; exact hS a ha); (rw [hv4 d (by omega)] at ha; exact hus d hd a ha)
  have hn2 : v.1 2 = u.1 2 := by rw [hv1]
  rw [← hv] at Hh
  refine gw_fromI (w := pw G q) (u := v) C Hh (gw_runV (n := 3) (C1 := RX3) [.int (nI (30)), .int (nI (10000001)), .int (nI (4294967295))] C Hh (c_X3_take l G q (v) (30) (10000001) (4294967295) (by exact hvc) (by exact hvu) (by decide) (by decide) (by rw [hn2, hv2 20 (by decide)]; exact hlt) (by rw [hn2, hv2 20 (by decide)]; exact hinj) _) tw_634 tw_447 tw_21 tw_70 tw_448 (by decide +kernel) ⟨Nat.le_of_ble_eq_true rfl, Nat.le_of_ble_eq_true rfl⟩ 4 pw_at4 rfl rfl hl.1 (Nat.le_of_ble_eq_true rfl) dX3_mostFrom_20 ⟨Nat.zero_le _, Nat.zero_le _⟩) (fun rc_20 uc_20 H locs hp_20 Hh => ?_)
  obtain ⟨kc_20, rfl, hp_20⟩ := hp_20
  have hle := ta_le hp_20 (by rw [hv1]; exact hcap.1)
  refine gw_isub C dX3_mostFrom_23 (by exact hle) ?_
  refine lv_istore_n (lv' := [(2, .int (nI (10000001 - kc_20))), (0, .ref (q 4)), (1, .int (nI (S)))]) C.1 C.2.1 dX3_mostFrom_24 rfl hl (by decide) rfl (fun ls hl => ?_)
  refine lv_aload_n C.1 C.2.1 dX3_mostFrom_25 rfl (lv_at hl 1 rfl) ?_
  refine gw_fromV (w := pw G q) (u := uc_20) C Hh (gw_runV (n := 0) (C1 := RX3) [] C Hh (c_X3_restore l G q (uc_20)   _) tw_635 tw_484 tw_27 tw_70 tw_485 (by decide +kernel) ⟨Nat.le_of_ble_eq_true rfl, Nat.le_of_ble_eq_true rfl⟩ 4 pw_at4 rfl rfl hl.1 (Nat.le_of_ble_eq_true rfl) dX3_mostFrom_26 ⟨Nat.zero_le _, Nat.zero_le _⟩) (fun uc_26 H locs hp_26 Hh => ?_)
  refine lv_iload_n C.1 C.2.1 dX3_mostFrom_29 rfl (lv_at hl 0 rfl) ?_
  exact gw_iret (w := pw G q) (u := uc_26) C Hh dX3_mostFrom_30 ⟨_, rfl, by refine ⟨⟨?_, fun j hj => ?_, fun j hj => ?_, fun j hj => ?_, fun d hd => ?_⟩, by rw [hp_26.1.2 23 (by decide), hp_20.1.1.2 23 (by decide)]; exact hv3, v, uc_20, kc_20, hv1, hv2, hv3, hv4, hp_20, by omega⟩; (rw [hp_26.1.1, hp_20.1.1.1]; exact hv1); (simp only [List.mem_cons, List.not_mem_nil, or_false, not_or] at hj; rw [hp_26.1.2 j (by simp; omega), hp_20.1.1.2 j (by simp; omega)]; exact hv2 j (by simp; omega)); (rw [hp_26.2.1 j hj, hp_20.1.1.2 24 (by decide), hv]; show up2 uc_1.2 23 30 S 24 j = _; rw [up2_ne _ (by decide)]; exact hp_1.2.1 j hj); (rw [hp_26.2.2 j hj, hp_20.1.1.2 25 (by decide), hv]; show up2 uc_1.2 23 30 S 25 j = _; rw [up2_ne _ (by decide)]; exact hp_1.2.2 j hj); (rw [hp_26.1.2 23 (by decide), hp_20.1.1.2 23 (by decide)]; exact hv4 d hd)⟩
set_option maxHeartbeats 4000000 in
set_option maxRecDepth 100000 in
theorem c_X3_takesFrom (l : Launch) (G : gw_G) (q : Nat → Nat) (u : pf_S) (d : Nat) (S : Nat) (hcap : tk_cap u) (hd : d < 31) : gw_MI l yX3_takesFrom cX3_takesFrom 4 (some .boolean) 1 21 [.ref (q 4), .int (nI (d)), .int (nI (S))] G (pw G q) u (fun r u1 => ∃ k : Nat, r = nI k ∧ (((k = 1 ∧ ∃ a, a < u.1 2 ∧ S.testBit a = true ∧ 0 < tk_x u d a) ∨ (k = 0 ∧ ∀ a, a < u.1 2 → S.testBit a = true → tk_x u d a = 0)) ∧ u1 = u)) := by
  refine gw_entryI (own := RX3) (by decide) rfl (Nat.le_of_ble_eq_true rfl) ?_
  intro p e s m args below meth c A ls C Hh hl
  have hl : lv_has ls 4 [(0, .ref (q 4)), (1, .int (nI (d))), (2, .int (nI (S)))] := hl
  have h0 := hcap.1
  refine lv_iconst (v := nI 0) C.1 C.2.1 dX3_takesFrom_0 (by decide +kernel) ?_
  refine lv_istore_n (lv' := [(3, .int (nI (0))), (0, .ref (q 4)), (1, .int (nI (d))), (2, .int (nI (S)))]) C.1 C.2.1 dX3_takesFrom_1 rfl hl (by decide) rfl (fun ls hl => ?_)
  have loop_2 : ∀ (fu : Nat) (i : Nat) (H : Heap) (locs : List Loc) (ls : Array Slot), (i ≤ u.1 2) → (∀ a, a < i → S.testBit a = true → tk_x u d a = 0) → u.1 2 - i < fu → gw_H G A s (pw G q u) H locs → lv_has ls 4 [(0, .ref (q 4)), (1, .int (nI (d))), (2, .int (nI (S))), (3, .int (nI (i)))] → W p l e (gw_rm 1 21) s m args below meth c H locs 0 0 (MQ below (va_Qi (fun r u1 => ∃ k : Nat, r = nI k ∧ (((k = 1 ∧ ∃ a, a < u.1 2 ∧ S.testBit a = true ∧ 0 < tk_x u d a) ∨ (k = 0 ∧ ∀ a, a < u.1 2 → S.testBit a = true → tk_x u d a = 0)) ∧ u1 = u)) (gw_at G A (pw G q)) A) args s 0 0 A) (F0 m 2 ls []) := by
    intro fu
    induction fu with
    | zero =>
      intro i  H locs ls hi hno hmf
      exact absurd hmf (Nat.not_lt_zero _)
    | succ fu ih_2 =>
      intro i  H locs ls hi hno hmf Hh hl
      refine lv_iload_n C.1 C.2.1 dX3_takesFrom_2 rfl (lv_at hl 3 rfl) ?_
      refine lv_aload_n C.1 C.2.1 dX3_takesFrom_3 rfl (lv_at hl 0 rfl) ?_
      refine gw_get (Cn := RX3) (T := TX3) (N := 10) C Hh 4 pw_at4 rfl uwX3 0 (by decide) rfl tw_185 rfl dX3_takesFrom_4 ?_
      refine gw_icmp_ge (tgt := 40) C dX3_takesFrom_7 (by decide) (by omega) (by omega) (fun hc_7 => ?_) (fun hc_7 => ?_)
      · skip
        refine lv_iconst (v := nI 0) C.1 C.2.1 dX3_takesFrom_40 (by decide +kernel) ?_
        exact gw_zret (w := pw G q) (u := u) C Hh dX3_takesFrom_41 (by omega) ⟨_, rfl, by exact ⟨Or.inr ⟨rfl, fun j h => hno j (by omega)⟩, rfl⟩⟩
      · skip
        refine lv_iload_n C.1 C.2.1 dX3_takesFrom_10 rfl (lv_at hl 2 rfl) ?_
        refine lv_iload_n C.1 C.2.1 dX3_takesFrom_11 rfl (lv_at hl 3 rfl) ?_
        refine gw_fromI (w := pw G q) (u := u) C Hh (gw_runSN (n := 2) [.int (nI (S)), .int (nI (i))] C Hh (c_X4_hasBit l G q (u) (S) (i) (by first | assumption | omega) _) tw_449 tw_450 tw_66 tw_451 (by decide +kernel) ⟨Nat.le_of_ble_eq_true rfl, Nat.le_of_ble_eq_true rfl⟩ rfl hl.1 (Nat.le_of_ble_eq_true rfl) dX3_takesFrom_12 ⟨Nat.zero_le _, Nat.zero_le _⟩) (fun rc_12 uc_12 H locs hp_12 Hh => ?_)
        obtain ⟨kc_12, rfl, hp_12⟩ := hp_12
        obtain ⟨hk_12, hu_12⟩ := hp_12
        rw [hu_12] at Hh
        clear hu_12
        have htl := tbit_le S i
        refine gw_if_eq (tgt := 34) C dX3_takesFrom_15 (by decide) (by omega) (fun hc_15 => ?_) (fun hc_15 => ?_)
        · skip
          refine lv_iinc (v := nI (i + 1)) (lv' := [(3, .int (nI (i + 1))), (0, .ref (q 4)), (1, .int (nI (d))), (2, .int (nI (S)))]) C.1 C.2.1 dX3_takesFrom_34 hl (k := 3) rfl (nI_add _ 1) (by decide) rfl (fun ls hl => ?_)
          refine lv_goto (tgt := 2) C.1 C.2.1 dX3_takesFrom_37 (by decide) ?_
          exact ih_2 (i + 1)  _ _ _ (by first | assumption | omega) (by intro o h h2; by_cases h1 : o = i; (subst h1; first | (rw [tbit_1 h2] at hk_12; omega) | (unfold tk_x; omega)); exact hno o (by omega) h2) (by omega) Hh (lv_sub hl [1, 2, 3, 0] rfl)
        · skip
          refine lv_aload_n C.1 C.2.1 dX3_takesFrom_18 rfl (lv_at hl 0 rfl) ?_
          refine gw_get (Cn := RX3) (T := TX3) (N := 10) C Hh 4 pw_at4 rfl uwX3 3 (by decide) rfl tw_189 rfl dX3_takesFrom_19 ?_
          refine lv_iload_n C.1 C.2.1 dX3_takesFrom_22 rfl (lv_at hl 1 rfl) ?_
          refine lv_bipush (v := nI 10) C.1 C.2.1 dX3_takesFrom_23 (by decide +kernel) ?_
          refine gw_imul C dX3_takesFrom_25 ?_
          refine lv_iload_n C.1 C.2.1 dX3_takesFrom_26 rfl (lv_at hl 3 rfl) ?_
          refine gw_iadd C dX3_takesFrom_27 ?_
          refine gw_ld C Hh 22 pw_at22 (by decide) dX3_takesFrom_28 (by omega) ?_
          have hxx := hcap.x hd (show i < u.1 2 by omega)
          refine gw_if_le (tgt := 34) C dX3_takesFrom_29 (by decide) (by omega) (fun hc_29 => ?_) (fun hc_29 => ?_)
          · skip
            refine lv_iinc (v := nI (i + 1)) (lv' := [(3, .int (nI (i + 1))), (0, .ref (q 4)), (1, .int (nI (d))), (2, .int (nI (S)))]) C.1 C.2.1 dX3_takesFrom_34 hl (k := 3) rfl (nI_add _ 1) (by decide) rfl (fun ls hl => ?_)
            refine lv_goto (tgt := 2) C.1 C.2.1 dX3_takesFrom_37 (by decide) ?_
            exact ih_2 (i + 1)  _ _ _ (by first | assumption | omega) (by intro o h h2; by_cases h1 : o = i; (subst h1; first | (rw [tbit_1 h2] at hk_12; omega) | (unfold tk_x; omega)); exact hno o (by omega) h2) (by omega) Hh (lv_sub hl [1, 2, 3, 0] rfl)
          · skip
            refine lv_iconst (v := nI 1) C.1 C.2.1 dX3_takesFrom_32 (by decide +kernel) ?_
            exact gw_zret (w := pw G q) (u := u) C Hh dX3_takesFrom_33 (by omega) ⟨_, rfl, by exact ⟨Or.inl ⟨rfl, i, by omega, tbit_pos (by omega), hc_29⟩, rfl⟩⟩
  exact loop_2 _ (0)  _ _ _ (by first | assumption | omega) (by intro o h; omega) (Nat.lt_succ_self _) Hh (lv_sub hl [1, 2, 3, 0] rfl)
set_option maxHeartbeats 4000000 in
set_option maxRecDepth 100000 in
theorem c_X3_partsOf (l : Launch) (G : gw_G) (q : Nat → Nat) (u : pf_S) (d : Nat) (hcap : tk_cap u) (hd : d < 31) : gw_MI l yX3_partsOf cX3_partsOf 4 (some .int) 0 0 [.ref (q 4), .int (nI (d))] G (pw G q) u (fun r u1 => ∃ k : Nat, r = nI k ∧ (k = fl_sum (fun a => if 0 < tk_x u d a then 1 else 0) (u.1 2) ∧ u1 = u)) := by
  refine gw_entryI (own := RX3) (by decide) rfl (Nat.le_of_ble_eq_true rfl) ?_
  intro p e s m args below meth c A ls C Hh hl
  have hl : lv_has ls 4 [(0, .ref (q 4)), (1, .int (nI (d)))] := hl
  have h0 := hcap.1
  refine lv_iconst (v := nI 0) C.1 C.2.1 dX3_partsOf_0 (by decide +kernel) ?_
  refine lv_istore_n (lv' := [(2, .int (nI (0))), (0, .ref (q 4)), (1, .int (nI (d)))]) C.1 C.2.1 dX3_partsOf_1 rfl hl (by decide) rfl (fun ls hl => ?_)
  refine lv_iconst (v := nI 0) C.1 C.2.1 dX3_partsOf_2 (by decide +kernel) ?_
  refine lv_istore_n (lv' := [(3, .int (nI (0))), (2, .int (nI (0))), (0, .ref (q 4)), (1, .int (nI (d)))]) C.1 C.2.1 dX3_partsOf_3 rfl hl (by decide) rfl (fun ls hl => ?_)
  have loop_4 : ∀ (fu : Nat) (i : Nat) (z : Nat) (H : Heap) (locs : List Loc) (ls : Array Slot), (i ≤ u.1 2) → (z = fl_sum (fun a => if 0 < tk_x u d a then 1 else 0) i) → u.1 2 - i < fu → gw_H G A s (pw G q u) H locs → lv_has ls 4 [(0, .ref (q 4)), (1, .int (nI (d))), (2, .int (nI (z))), (3, .int (nI (i)))] → W p l e (gw_rm 0 0) s m args below meth c H locs 0 0 (MQ below (va_Qi (fun r u1 => ∃ k : Nat, r = nI k ∧ (k = fl_sum (fun a => if 0 < tk_x u d a then 1 else 0) (u.1 2) ∧ u1 = u)) (gw_at G A (pw G q)) A) args s 0 0 A) (F0 m 4 ls []) := by
    intro fu
    induction fu with
    | zero =>
      intro i z  H locs ls hi hz hmf
      exact absurd hmf (Nat.not_lt_zero _)
    | succ fu ih_4 =>
      intro i z  H locs ls hi hz hmf Hh hl
      refine lv_iload_n C.1 C.2.1 dX3_partsOf_4 rfl (lv_at hl 3 rfl) ?_
      refine lv_aload_n C.1 C.2.1 dX3_partsOf_5 rfl (lv_at hl 0 rfl) ?_
      refine gw_get (Cn := RX3) (T := TX3) (N := 10) C Hh 4 pw_at4 rfl uwX3 0 (by decide) rfl tw_185 rfl dX3_partsOf_6 ?_
      refine gw_icmp_ge (tgt := 35) C dX3_partsOf_9 (by decide) (by omega) (by omega) (fun hc_9 => ?_) (fun hc_9 => ?_)
      · skip
        refine lv_iload_n C.1 C.2.1 dX3_partsOf_35 rfl (lv_at hl 2 rfl) ?_
        exact gw_iret (w := pw G q) (u := u) C Hh dX3_partsOf_36 ⟨_, rfl, by refine ⟨?_, rfl⟩; rw [hz, show i = u.1 2 by omega]⟩
      · skip
        refine lv_aload_n C.1 C.2.1 dX3_partsOf_12 rfl (lv_at hl 0 rfl) ?_
        refine gw_get (Cn := RX3) (T := TX3) (N := 10) C Hh 4 pw_at4 rfl uwX3 3 (by decide) rfl tw_189 rfl dX3_partsOf_13 ?_
        refine lv_iload_n C.1 C.2.1 dX3_partsOf_16 rfl (lv_at hl 1 rfl) ?_
        refine lv_bipush (v := nI 10) C.1 C.2.1 dX3_partsOf_17 (by decide +kernel) ?_
        refine gw_imul C dX3_partsOf_19 ?_
        refine lv_iload_n C.1 C.2.1 dX3_partsOf_20 rfl (lv_at hl 3 rfl) ?_
        refine gw_iadd C dX3_partsOf_21 ?_
        refine gw_ld C Hh 22 pw_at22 (by decide) dX3_partsOf_22 (by omega) ?_
        have join_29 : ∀ (z2 : Nat) (H : Heap) (locs : List Loc) (ls : Array Slot), (z2 = fl_sum (fun a => if 0 < tk_x u d a then 1 else 0) (i + 1)) → gw_H G A s (pw G q u) H locs → lv_has ls 4 [(0, .ref (q 4)), (1, .int (nI (d))), (2, .int (nI (z2))), (3, .int (nI (i)))] → W p l e (gw_rm 0 0) s m args below meth c H locs 0 0 (MQ below (va_Qi (fun r u1 => ∃ k : Nat, r = nI k ∧ (k = fl_sum (fun a => if 0 < tk_x u d a then 1 else 0) (u.1 2) ∧ u1 = u)) (gw_at G A (pw G q)) A) args s 0 0 A) (F0 m 29 ls []) := by
          intro z2  H locs ls hz2 Hh hl
          refine lv_iinc (v := nI (i + 1)) (lv' := [(3, .int (nI (i + 1))), (0, .ref (q 4)), (1, .int (nI (d))), (2, .int (nI (z2)))]) C.1 C.2.1 dX3_partsOf_29 hl (k := 3) rfl (nI_add _ 1) (by decide) rfl (fun ls hl => ?_)
          refine lv_goto (tgt := 4) C.1 C.2.1 dX3_partsOf_32 (by decide) ?_
          exact ih_4 (i + 1) (z2)  _ _ _ (by first | assumption | omega) (by exact hz2) (by omega) Hh (lv_sub hl [1, 2, 3, 0] rfl)
        have hxx := hcap.x hd (show i < u.1 2 by omega)
        refine gw_if_le (tgt := 29) C dX3_partsOf_23 (by decide) (by omega) (fun hc_23 => ?_) (fun hc_23 => ?_)
        · skip
          exact join_29 (z)  _ _ _ (by rw [hz, fl_sum_succ, if_neg (by unfold tk_x; omega)]; rfl) Hh (lv_sub hl [0, 1, 2, 3] rfl)
        · skip
          refine lv_iinc (v := nI (z + 1)) (lv' := [(2, .int (nI (z + 1))), (0, .ref (q 4)), (1, .int (nI (d))), (3, .int (nI (i)))]) C.1 C.2.1 dX3_partsOf_26 hl (k := 2) rfl (nI_add _ 1) (by decide) rfl (fun ls hl => ?_)
          exact join_29 (z + 1)  _ _ _ (by rw [hz, fl_sum_succ, if_pos (by unfold tk_x; exact hc_23)]) Hh (lv_sub hl [1, 2, 0, 3] rfl)
  exact loop_4 _ (0) (0)  _ _ _ (by first | assumption | omega) (by rfl) (Nat.lt_succ_self _) Hh (lv_sub hl [2, 3, 1, 0] rfl)
set_option maxHeartbeats 4000000 in
set_option maxRecDepth 100000 in
theorem c_X3_partOf (l : Launch) (G : gw_G) (q : Nat → Nat) (u : pf_S) (d : Nat) (x : Nat) (b : Nat) (hcap : tk_cap u) (hd : d < 31) (hx : x < 2 ^ 31) (hb : b ≤ 1) (hlt : ∀ z, z < u.1 2 → u.2 20 z < u.1 2) : gw_MI l yX3_partOf cX3_partOf 8 (some .int) 0 0 [.ref (q 4), .int (nI (d)), .int (nI (x)), .int (nI (b))] G (pw G q) u (fun r u1 => ∃ k : Nat, r = nI k ∧ (((∃ t, t < u.1 2 ∧ 0 < tk_x u d (u.2 20 t) ∧ fl_sum (fun t => if 0 < tk_x u d (u.2 20 t) then 1 else 0) t = x ∧ k = (if b = 0 then tk_x u d (u.2 20 t) else u.2 20 t)) ∨ (k = 4294967295 ∧ fl_sum (fun t => if 0 < tk_x u d (u.2 20 t) then 1 else 0) (u.1 2) ≤ x)) ∧ u1 = u)) := by
  refine gw_entryI (own := RX3) (by decide) rfl (Nat.le_of_ble_eq_true rfl) ?_
  intro p e s m args below meth c A ls C Hh hl
  have hl : lv_has ls 8 [(0, .ref (q 4)), (1, .int (nI (d))), (2, .int (nI (x))), (3, .int (nI (b)))] := hl
  have h0 := hcap.1
  refine lv_iconst (v := nI 0) C.1 C.2.1 dX3_partOf_0 (by decide +kernel) ?_
  refine lv_istore (lv' := [(4, .int (nI (0))), (0, .ref (q 4)), (1, .int (nI (d))), (2, .int (nI (x))), (3, .int (nI (b)))]) C.1 C.2.1 dX3_partOf_1 hl (by decide) rfl (fun ls hl => ?_)
  refine lv_iconst (v := nI 0) C.1 C.2.1 dX3_partOf_3 (by decide +kernel) ?_
  refine lv_istore (lv' := [(5, .int (nI (0))), (4, .int (nI (0))), (0, .ref (q 4)), (1, .int (nI (d))), (2, .int (nI (x))), (3, .int (nI (b)))]) C.1 C.2.1 dX3_partOf_4 hl (by decide) rfl (fun ls hl => ?_)
  have loop_6 : ∀ (fu : Nat) (i : Nat) (z : Nat) (H : Heap) (locs : List Loc) (ls : Array Slot), (i ≤ u.1 2) → (z = fl_sum (fun t => if 0 < tk_x u d (u.2 20 t) then 1 else 0) i) → (z ≤ x) → (z ≤ i) → u.1 2 - i < fu → gw_H G A s (pw G q u) H locs → lv_has ls 8 [(0, .ref (q 4)), (1, .int (nI (d))), (2, .int (nI (x))), (3, .int (nI (b))), (4, .int (nI (z))), (5, .int (nI (i)))] → W p l e (gw_rm 0 0) s m args below meth c H locs 0 0 (MQ below (va_Qi (fun r u1 => ∃ k : Nat, r = nI k ∧ (((∃ t, t < u.1 2 ∧ 0 < tk_x u d (u.2 20 t) ∧ fl_sum (fun t => if 0 < tk_x u d (u.2 20 t) then 1 else 0) t = x ∧ k = (if b = 0 then tk_x u d (u.2 20 t) else u.2 20 t)) ∨ (k = 4294967295 ∧ fl_sum (fun t => if 0 < tk_x u d (u.2 20 t) then 1 else 0) (u.1 2) ≤ x)) ∧ u1 = u)) (gw_at G A (pw G q)) A) args s 0 0 A) (F0 m 6 ls []) := by
    intro fu
    induction fu with
    | zero =>
      intro i z  H locs ls hi hz hzx hzi hmf
      exact absurd hmf (Nat.not_lt_zero _)
    | succ fu ih_6 =>
      intro i z  H locs ls hi hz hzx hzi hmf Hh hl
      refine lv_iload C.1 C.2.1 dX3_partOf_6 (lv_at hl 5 rfl) ?_
      refine lv_aload_n C.1 C.2.1 dX3_partOf_8 rfl (lv_at hl 0 rfl) ?_
      refine gw_get (Cn := RX3) (T := TX3) (N := 10) C Hh 4 pw_at4 rfl uwX3 0 (by decide) rfl tw_185 rfl dX3_partOf_9 ?_
      refine gw_icmp_ge (tgt := 70) C dX3_partOf_12 (by decide) (by omega) (by omega) (fun hc_12 => ?_) (fun hc_12 => ?_)
      · skip
        refine lv_iconst (v := nI 4294967295) C.1 C.2.1 dX3_partOf_70 (by decide +kernel) ?_
        exact gw_iret (w := pw G q) (u := u) C Hh dX3_partOf_71 ⟨_, rfl, by exact ⟨Or.inr ⟨rfl, by rw [show u.1 2 = i by omega, ← hz]; exact hzx⟩, rfl⟩⟩
      · skip
        refine lv_aload_n C.1 C.2.1 dX3_partOf_15 rfl (lv_at hl 0 rfl) ?_
        refine gw_get (Cn := RX3) (T := TX3) (N := 10) C Hh 4 pw_at4 rfl uwX3 1 (by decide) rfl tw_186 rfl dX3_partOf_16 ?_
        refine lv_iload C.1 C.2.1 dX3_partOf_19 (lv_at hl 5 rfl) ?_
        refine gw_ld C Hh 20 pw_at20 (by decide) dX3_partOf_21 (by omega) ?_
        have hbt := hlt i (by omega)
        refine lv_istore (lv' := [(6, .int (nI (u.2 20 (i)))), (0, .ref (q 4)), (1, .int (nI (d))), (2, .int (nI (x))), (3, .int (nI (b))), (4, .int (nI (z))), (5, .int (nI (i)))]) C.1 C.2.1 dX3_partOf_22 hl (by decide) rfl (fun ls hl => ?_)
        refine lv_aload_n C.1 C.2.1 dX3_partOf_24 rfl (lv_at hl 1 rfl) ?_
        refine gw_get (Cn := RX3) (T := TX3) (N := 10) C Hh 4 pw_at4 rfl uwX3 3 (by decide) rfl tw_189 rfl dX3_partOf_25 ?_
        refine lv_iload_n C.1 C.2.1 dX3_partOf_28 rfl (lv_at hl 2 rfl) ?_
        refine lv_bipush (v := nI 10) C.1 C.2.1 dX3_partOf_29 (by decide +kernel) ?_
        refine gw_imul C dX3_partOf_31 ?_
        refine lv_iload C.1 C.2.1 dX3_partOf_32 (lv_at hl 0 rfl) ?_
        refine gw_iadd C dX3_partOf_34 ?_
        refine gw_ld C Hh 22 pw_at22 (by decide) dX3_partOf_35 (by omega) ?_
        refine lv_istore (lv' := [(7, .int (nI (u.2 22 ((d * 10) + (u.2 20 (i)))))), (6, .int (nI (u.2 20 (i)))), (0, .ref (q 4)), (1, .int (nI (d))), (2, .int (nI (x))), (3, .int (nI (b))), (4, .int (nI (z))), (5, .int (nI (i)))]) C.1 C.2.1 dX3_partOf_36 hl (by decide) rfl (fun ls hl => ?_)
        refine lv_iload C.1 C.2.1 dX3_partOf_38 (lv_at hl 0 rfl) ?_
        have join_64 : ∀ (z2 : Nat) (H : Heap) (locs : List Loc) (ls : Array Slot), (z2 = fl_sum (fun t => if 0 < tk_x u d (u.2 20 t) then 1 else 0) (i + 1)) → (z2 ≤ x) → (z2 ≤ i + 1) → gw_H G A s (pw G q u) H locs → lv_has ls 8 [(0, .ref (q 4)), (1, .int (nI (d))), (2, .int (nI (x))), (3, .int (nI (b))), (4, .int (nI (z2))), (5, .int (nI (i)))] → W p l e (gw_rm 0 0) s m args below meth c H locs 0 0 (MQ below (va_Qi (fun r u1 => ∃ k : Nat, r = nI k ∧ (((∃ t, t < u.1 2 ∧ 0 < tk_x u d (u.2 20 t) ∧ fl_sum (fun t => if 0 < tk_x u d (u.2 20 t) then 1 else 0) t = x ∧ k = (if b = 0 then tk_x u d (u.2 20 t) else u.2 20 t)) ∨ (k = 4294967295 ∧ fl_sum (fun t => if 0 < tk_x u d (u.2 20 t) then 1 else 0) (u.1 2) ≤ x)) ∧ u1 = u)) (gw_at G A (pw G q)) A) args s 0 0 A) (F0 m 64 ls []) := by
          intro z2  H locs ls hz2 hzx2 hzi2 Hh hl
          refine lv_iinc (v := nI (i + 1)) (lv' := [(5, .int (nI (i + 1))), (0, .ref (q 4)), (1, .int (nI (d))), (2, .int (nI (x))), (3, .int (nI (b))), (4, .int (nI (z2)))]) C.1 C.2.1 dX3_partOf_64 hl (k := 5) rfl (nI_add _ 1) (by decide) rfl (fun ls hl => ?_)
          refine lv_goto (tgt := 6) C.1 C.2.1 dX3_partOf_67 (by decide) ?_
          exact ih_6 (i + 1) (z2)  _ _ _ (by first | assumption | omega) (by exact hz2) (by first | assumption | omega) (by first | assumption | omega) (by omega) Hh (lv_sub hl [1, 2, 3, 4, 5, 0] rfl)
        have hxx := hcap.x hd hbt
        refine gw_if_le (tgt := 64) C dX3_partOf_40 (by decide) (by omega) (fun hc_40 => ?_) (fun hc_40 => ?_)
        · skip
          exact join_64 (z)  _ _ _ (by rw [hz, fl_sum_succ, if_neg (by unfold tk_x; omega)]; rfl) (by first | assumption | omega) (by first | assumption | omega) Hh (lv_sub hl [2, 3, 4, 5, 6, 7] rfl)
        · skip
          refine lv_iload C.1 C.2.1 dX3_partOf_43 (lv_at hl 6 rfl) ?_
          refine lv_iload_n C.1 C.2.1 dX3_partOf_45 rfl (lv_at hl 4 rfl) ?_
          refine gw_icmp_ne (tgt := 61) C dX3_partOf_46 (by decide) (by omega) (by omega) (fun hc_46 => ?_) (fun hc_46 => ?_)
          · skip
            refine lv_iinc (v := nI (z + 1)) (lv' := [(4, .int (nI (z + 1))), (7, .int (nI (u.2 22 ((d * 10) + (u.2 20 (i)))))), (6, .int (nI (u.2 20 (i)))), (0, .ref (q 4)), (1, .int (nI (d))), (2, .int (nI (x))), (3, .int (nI (b))), (5, .int (nI (i)))]) C.1 C.2.1 dX3_partOf_61 hl (k := 6) rfl (nI_add _ 1) (by decide) rfl (fun ls hl => ?_)
            exact join_64 (z + 1)  _ _ _ (by rw [hz, fl_sum_succ, if_pos (by unfold tk_x; exact hc_40)]) (by first | assumption | omega) (by first | assumption | omega) Hh (lv_sub hl [3, 4, 5, 6, 0, 7] rfl)
          · skip
            refine lv_iload_n C.1 C.2.1 dX3_partOf_49 rfl (lv_at hl 5 rfl) ?_
            refine gw_if_eq (tgt := 58) C dX3_partOf_50 (by decide) (by omega) (fun hc_50 => ?_) (fun hc_50 => ?_)
            · skip
              refine lv_iload C.1 C.2.1 dX3_partOf_58 (lv_at hl 0 rfl) ?_
              exact gw_iret (w := pw G q) (u := u) C Hh dX3_partOf_60 ⟨_, rfl, by refine ⟨Or.inl ⟨i, by omega, hc_40, by omega, ?_⟩, rfl⟩; first | (rw [if_pos hc_50]; rfl) | (rw [if_neg (by omega)])⟩
            · skip
              refine lv_iload C.1 C.2.1 dX3_partOf_53 (lv_at hl 1 rfl) ?_
              refine lv_goto (tgt := 60) C.1 C.2.1 dX3_partOf_55 (by decide) ?_
              exact gw_iret (w := pw G q) (u := u) C Hh dX3_partOf_60 ⟨_, rfl, by refine ⟨Or.inl ⟨i, by omega, hc_40, by omega, ?_⟩, rfl⟩; first | (rw [if_pos hc_50]; rfl) | (rw [if_neg (by omega)])⟩
  exact loop_6 _ (0) (0)  _ _ _ (by first | assumption | omega) (by rfl) (by first | assumption | omega) (by first | assumption | omega) (Nat.lt_succ_self _) Hh (lv_sub hl [2, 3, 4, 5, 1, 0] rfl)
