abbrev cI_bitCount : ByteArray := prog_12_method_49_code
def yI_bitCount : MethodName := ⟨"java/lang/Integer", "bitCount", "(I)I"⟩
theorem dI_bitCount_0 : decode cI_bitCount 0 = .ok (.iload_n 0, 1) := by decide +kernel
theorem dI_bitCount_1 : decode cI_bitCount 1 = .ok (.iload_n 0, 1) := by decide +kernel
theorem dI_bitCount_2 : decode cI_bitCount 2 = .ok (.iconst 1, 1) := by decide +kernel
theorem dI_bitCount_3 : decode cI_bitCount 3 = .ok (.iushr, 1) := by decide +kernel
theorem dI_bitCount_4 : decode cI_bitCount 4 = .ok (.ldc_w 265, 3) := by decide +kernel
theorem dI_bitCount_7 : decode cI_bitCount 7 = .ok (.iand, 1) := by decide +kernel
theorem dI_bitCount_8 : decode cI_bitCount 8 = .ok (.isub, 1) := by decide +kernel
theorem dI_bitCount_9 : decode cI_bitCount 9 = .ok (.istore_n 0, 1) := by decide +kernel
theorem dI_bitCount_10 : decode cI_bitCount 10 = .ok (.iload_n 0, 1) := by decide +kernel
theorem dI_bitCount_11 : decode cI_bitCount 11 = .ok (.ldc_w 266, 3) := by decide +kernel
theorem dI_bitCount_14 : decode cI_bitCount 14 = .ok (.iand, 1) := by decide +kernel
theorem dI_bitCount_15 : decode cI_bitCount 15 = .ok (.iload_n 0, 1) := by decide +kernel
theorem dI_bitCount_16 : decode cI_bitCount 16 = .ok (.iconst 2, 1) := by decide +kernel
theorem dI_bitCount_17 : decode cI_bitCount 17 = .ok (.iushr, 1) := by decide +kernel
theorem dI_bitCount_18 : decode cI_bitCount 18 = .ok (.ldc_w 266, 3) := by decide +kernel
theorem dI_bitCount_21 : decode cI_bitCount 21 = .ok (.iand, 1) := by decide +kernel
theorem dI_bitCount_22 : decode cI_bitCount 22 = .ok (.iadd, 1) := by decide +kernel
theorem dI_bitCount_23 : decode cI_bitCount 23 = .ok (.istore_n 0, 1) := by decide +kernel
theorem dI_bitCount_24 : decode cI_bitCount 24 = .ok (.iload_n 0, 1) := by decide +kernel
theorem dI_bitCount_25 : decode cI_bitCount 25 = .ok (.iload_n 0, 1) := by decide +kernel
theorem dI_bitCount_26 : decode cI_bitCount 26 = .ok (.iconst 4, 1) := by decide +kernel
theorem dI_bitCount_27 : decode cI_bitCount 27 = .ok (.iushr, 1) := by decide +kernel
theorem dI_bitCount_28 : decode cI_bitCount 28 = .ok (.iadd, 1) := by decide +kernel
theorem dI_bitCount_29 : decode cI_bitCount 29 = .ok (.ldc_w 267, 3) := by decide +kernel
theorem dI_bitCount_32 : decode cI_bitCount 32 = .ok (.iand, 1) := by decide +kernel
theorem dI_bitCount_33 : decode cI_bitCount 33 = .ok (.istore_n 0, 1) := by decide +kernel
theorem dI_bitCount_34 : decode cI_bitCount 34 = .ok (.iload_n 0, 1) := by decide +kernel
theorem dI_bitCount_35 : decode cI_bitCount 35 = .ok (.iload_n 0, 1) := by decide +kernel
theorem dI_bitCount_36 : decode cI_bitCount 36 = .ok (.bipush 8, 2) := by decide +kernel
theorem dI_bitCount_38 : decode cI_bitCount 38 = .ok (.iushr, 1) := by decide +kernel
theorem dI_bitCount_39 : decode cI_bitCount 39 = .ok (.iadd, 1) := by decide +kernel
theorem dI_bitCount_40 : decode cI_bitCount 40 = .ok (.istore_n 0, 1) := by decide +kernel
theorem dI_bitCount_41 : decode cI_bitCount 41 = .ok (.iload_n 0, 1) := by decide +kernel
theorem dI_bitCount_42 : decode cI_bitCount 42 = .ok (.iload_n 0, 1) := by decide +kernel
theorem dI_bitCount_43 : decode cI_bitCount 43 = .ok (.bipush 16, 2) := by decide +kernel
theorem dI_bitCount_45 : decode cI_bitCount 45 = .ok (.iushr, 1) := by decide +kernel
theorem dI_bitCount_46 : decode cI_bitCount 46 = .ok (.iadd, 1) := by decide +kernel
theorem dI_bitCount_47 : decode cI_bitCount 47 = .ok (.istore_n 0, 1) := by decide +kernel
theorem dI_bitCount_48 : decode cI_bitCount 48 = .ok (.iload_n 0, 1) := by decide +kernel
theorem dI_bitCount_49 : decode cI_bitCount 49 = .ok (.bipush 63, 2) := by decide +kernel
theorem dI_bitCount_51 : decode cI_bitCount 51 = .ok (.iand, 1) := by decide +kernel
theorem dI_bitCount_52 : decode cI_bitCount 52 = .ok (.ireturn, 1) := by decide +kernel
def bc_1 (x : Int32) : Int32 := (x - (((x : Int32).toUInt32 >>> ((1 : Int32).toUInt32 &&& Int32.toUInt32 31)).toInt32 &&& 1431655765))
def bc_2 (x : Int32) : Int32 := ((x &&& 858993459) + (((x : Int32).toUInt32 >>> ((2 : Int32).toUInt32 &&& Int32.toUInt32 31)).toInt32 &&& 858993459))
def bc_3 (x : Int32) : Int32 := ((x + ((x : Int32).toUInt32 >>> ((4 : Int32).toUInt32 &&& Int32.toUInt32 31)).toInt32) &&& 252645135)
def bc_4 (x : Int32) : Int32 := (x + ((x : Int32).toUInt32 >>> ((8 : Int32).toUInt32 &&& Int32.toUInt32 31)).toInt32)
def bc_5 (x : Int32) : Int32 := (x + ((x : Int32).toUInt32 >>> ((16 : Int32).toUInt32 &&& Int32.toUInt32 31)).toInt32)
theorem bc_all : ∀ b, b < 1024 → bc_5 (bc_4 (bc_3 (bc_2 (bc_1 (nI b))))) &&& 63 = nI (fl_sum (tbit b) 10) := by decide +kernel
set_option maxRecDepth 100000 in
theorem c_I_bitCount (l : Launch) (G : gw_G) (q : Nat → Nat) (u : pf_S) (b : Nat) (hb : b < 1024) : gw_MI l yI_bitCount cI_bitCount 1 (some .int) 0 0 [.int (nI (b))] G (pw G q) u (fun r u1 => ∃ k : Nat, r = nI k ∧ (k = fl_sum (tbit b) 10 ∧ u1 = u)) := by
  refine gw_entryI (own := "java/lang/Integer") (by decide) rfl (Nat.le_of_ble_eq_true rfl) ?_
  intro p e s m args below meth c A ls C Hh hl
  have hl : lv_has ls 1 [(0, .int (nI b))] := hl
  refine lv_iload_n C.1 C.2.1 dI_bitCount_0 rfl (lv_at hl 0 rfl) ?_
  refine lv_iload_n C.1 C.2.1 dI_bitCount_1 rfl (lv_at hl 0 rfl) ?_
  refine lv_iconst (v := 1) C.1 C.2.1 dI_bitCount_2 (by decide) ?_
  refine lv_iushr C.1 C.2.1 dI_bitCount_3 rfl ?_
  refine lv_ldcw (v := 1431655765) C.1 C.2.1 C.cl (C.ts tw_472) dI_bitCount_4 ?_
  refine lv_iand C.1 C.2.1 dI_bitCount_7 ?_
  refine lv_isub C.1 C.2.1 dI_bitCount_8 ?_
  refine lv_topi (fun y_1 ey_1 => ?_)
  refine lv_istore_n (lv' := [(0, .int y_1)]) C.1 C.2.1 dI_bitCount_9 rfl hl (by decide) rfl (fun ls hl => ?_)
  refine lv_iload_n C.1 C.2.1 dI_bitCount_10 rfl (lv_at hl 0 rfl) ?_
  refine lv_ldcw (v := 858993459) C.1 C.2.1 C.cl (C.ts tw_473) dI_bitCount_11 ?_
  refine lv_iand C.1 C.2.1 dI_bitCount_14 ?_
  refine lv_iload_n C.1 C.2.1 dI_bitCount_15 rfl (lv_at hl 0 rfl) ?_
  refine lv_iconst (v := 2) C.1 C.2.1 dI_bitCount_16 (by decide) ?_
  refine lv_iushr C.1 C.2.1 dI_bitCount_17 rfl ?_
  refine lv_ldcw (v := 858993459) C.1 C.2.1 C.cl (C.ts tw_473) dI_bitCount_18 ?_
  refine lv_iand C.1 C.2.1 dI_bitCount_21 ?_
  refine lv_iadd C.1 C.2.1 dI_bitCount_22 ?_
  refine lv_topi (fun y_2 ey_2 => ?_)
  refine lv_istore_n (lv' := [(0, .int y_2)]) C.1 C.2.1 dI_bitCount_23 rfl hl (by decide) rfl (fun ls hl => ?_)
  refine lv_iload_n C.1 C.2.1 dI_bitCount_24 rfl (lv_at hl 0 rfl) ?_
  refine lv_iload_n C.1 C.2.1 dI_bitCount_25 rfl (lv_at hl 0 rfl) ?_
  refine lv_iconst (v := 4) C.1 C.2.1 dI_bitCount_26 (by decide) ?_
  refine lv_iushr C.1 C.2.1 dI_bitCount_27 rfl ?_
  refine lv_iadd C.1 C.2.1 dI_bitCount_28 ?_
  refine lv_ldcw (v := 252645135) C.1 C.2.1 C.cl (C.ts tw_474) dI_bitCount_29 ?_
  refine lv_iand C.1 C.2.1 dI_bitCount_32 ?_
  refine lv_topi (fun y_3 ey_3 => ?_)
  refine lv_istore_n (lv' := [(0, .int y_3)]) C.1 C.2.1 dI_bitCount_33 rfl hl (by decide) rfl (fun ls hl => ?_)
  refine lv_iload_n C.1 C.2.1 dI_bitCount_34 rfl (lv_at hl 0 rfl) ?_
  refine lv_iload_n C.1 C.2.1 dI_bitCount_35 rfl (lv_at hl 0 rfl) ?_
  refine lv_bipush (v := 8) C.1 C.2.1 dI_bitCount_36 (by decide) ?_
  refine lv_iushr C.1 C.2.1 dI_bitCount_38 rfl ?_
  refine lv_iadd C.1 C.2.1 dI_bitCount_39 ?_
  refine lv_topi (fun y_4 ey_4 => ?_)
  refine lv_istore_n (lv' := [(0, .int y_4)]) C.1 C.2.1 dI_bitCount_40 rfl hl (by decide) rfl (fun ls hl => ?_)
  refine lv_iload_n C.1 C.2.1 dI_bitCount_41 rfl (lv_at hl 0 rfl) ?_
  refine lv_iload_n C.1 C.2.1 dI_bitCount_42 rfl (lv_at hl 0 rfl) ?_
  refine lv_bipush (v := 16) C.1 C.2.1 dI_bitCount_43 (by decide) ?_
  refine lv_iushr C.1 C.2.1 dI_bitCount_45 rfl ?_
  refine lv_iadd C.1 C.2.1 dI_bitCount_46 ?_
  refine lv_topi (fun y_5 ey_5 => ?_)
  refine lv_istore_n (lv' := [(0, .int y_5)]) C.1 C.2.1 dI_bitCount_47 rfl hl (by decide) rfl (fun ls hl => ?_)
  refine lv_iload_n C.1 C.2.1 dI_bitCount_48 rfl (lv_at hl 0 rfl) ?_
  refine lv_bipush (v := 63) C.1 C.2.1 dI_bitCount_49 (by decide) ?_
  refine lv_iand C.1 C.2.1 dI_bitCount_51 ?_
  refine gw_iret (w := pw G q) (u := u) C Hh dI_bitCount_52 ⟨fl_sum (tbit b) 10, ?_, rfl, rfl⟩
  have e1 : y_1 = bc_1 (nI b) := ey_1
  have e2 : y_2 = bc_2 y_1 := ey_2
  have e3 : y_3 = bc_3 y_2 := ey_3
  have e4 : y_4 = bc_4 y_3 := ey_4
  have e5 : y_5 = bc_5 y_4 := ey_5
  rw [e5, e4, e3, e2, e1]
  exact bc_all b hb
set_option maxHeartbeats 4000000 in
set_option maxRecDepth 100000 in
theorem c_X3_nearestRoom (l : Launch) (G : gw_G) (q : Nat → Nat) (u : pf_S) (b : Nat) (hcap : tk_cap u) (hb : b < 1024) (hrt : ∀ i, i < fl_sum (tbit b) 10 → u.2 26 i < u.1 2) : gw_MI l yX3_nearestRoom cX3_nearestRoom 4 (some .int) 1 20 [.ref (q 4), .int (nI (b))] G (pw G q) u (fun r u1 => ∃ k : Nat, r = nI k ∧ (((k = 4294967295 ∧ ∀ i, i < fl_sum (tbit b) 10 → u.2 21 (u.2 26 i) = 0) ∨ ∃ i, i < fl_sum (tbit b) 10 ∧ k = u.2 26 i ∧ 0 < u.2 21 (u.2 26 i)) ∧ u1 = u)) := by
  refine gw_entryI (own := RX3) (by decide) rfl (Nat.le_of_ble_eq_true rfl) ?_
  intro p e s m args below meth c A ls C Hh hl
  have hl : lv_has ls 4 [(0, .ref (q 4)), (1, .int (nI (b)))] := hl
  refine lv_iload_n C.1 C.2.1 dX3_nearestRoom_0 rfl (lv_at hl 1 rfl) ?_
  refine gw_fromI (w := pw G q) (u := u) C Hh (gw_runSO (n := 1) [.int (nI (b))] C Hh (c_I_bitCount l G q (u) (b) (by first | assumption | omega) _) tw_469 tw_470 tw_79 tw_471 (by decide +kernel) ⟨Nat.le_of_ble_eq_true rfl, Nat.le_of_ble_eq_true rfl⟩ rfl hl.1 (Nat.le_of_ble_eq_true rfl) dX3_nearestRoom_1 ⟨Nat.zero_le _, Nat.zero_le _⟩) (fun rc_1 uc_1 H locs hp_1 Hh => ?_)
  obtain ⟨kc_1, rfl, hp_1⟩ := hp_1
  obtain ⟨hk_1, hu_1⟩ := hp_1
  rw [hu_1] at Hh
  clear hu_1
  have hcn := fl_sum_cnt (tbit_le b) 10
  have h0 := hcap.1
  refine lv_istore_n (lv' := [(2, .int (nI (kc_1))), (0, .ref (q 4)), (1, .int (nI (b)))]) C.1 C.2.1 dX3_nearestRoom_4 rfl hl (by decide) rfl (fun ls hl => ?_)
  refine lv_iconst (v := nI 0) C.1 C.2.1 dX3_nearestRoom_5 (by decide +kernel) ?_
  refine lv_istore_n (lv' := [(3, .int (nI (0))), (2, .int (nI (kc_1))), (0, .ref (q 4)), (1, .int (nI (b)))]) C.1 C.2.1 dX3_nearestRoom_6 rfl hl (by decide) rfl (fun ls hl => ?_)
  have loop_7 : ∀ (fu : Nat) (i : Nat) (H : Heap) (locs : List Loc) (ls : Array Slot), (i ≤ fl_sum (tbit b) 10) → (∀ j, j < i → u.2 21 (u.2 26 j) = 0) → 10 - i < fu → gw_H G A s (pw G q u) H locs → lv_has ls 4 [(0, .ref (q 4)), (1, .int (nI (b))), (2, .int (nI (kc_1))), (3, .int (nI (i)))] → W p l e (gw_rm 1 20) s m args below meth c H locs 0 0 (MQ below (va_Qi (fun r u1 => ∃ k : Nat, r = nI k ∧ (((k = 4294967295 ∧ ∀ i, i < fl_sum (tbit b) 10 → u.2 21 (u.2 26 i) = 0) ∨ ∃ i, i < fl_sum (tbit b) 10 ∧ k = u.2 26 i ∧ 0 < u.2 21 (u.2 26 i)) ∧ u1 = u)) (gw_at G A (pw G q)) A) args s 0 0 A) (F0 m 7 ls []) := by
    intro fu
    induction fu with
    | zero =>
      intro i  H locs ls hi hno hmf
      exact absurd hmf (Nat.not_lt_zero _)
    | succ fu ih_7 =>
      intro i  H locs ls hi hno hmf Hh hl
      refine lv_iload_n C.1 C.2.1 dX3_nearestRoom_7 rfl (lv_at hl 3 rfl) ?_
      refine lv_iload_n C.1 C.2.1 dX3_nearestRoom_8 rfl (lv_at hl 2 rfl) ?_
      refine gw_icmp_ge (tgt := 45) C dX3_nearestRoom_9 (by decide) (by omega) (by omega) (fun hc_9 => ?_) (fun hc_9 => ?_)
      · skip
        refine lv_iconst (v := nI 4294967295) C.1 C.2.1 dX3_nearestRoom_45 (by decide +kernel) ?_
        exact gw_iret (w := pw G q) (u := u) C Hh dX3_nearestRoom_46 ⟨_, rfl, by exact ⟨Or.inl ⟨rfl, fun j h => hno j (by omega)⟩, rfl⟩⟩
      · skip
        refine lv_iload_n C.1 C.2.1 dX3_nearestRoom_12 rfl (lv_at hl 3 rfl) ?_
        refine lv_bipush (v := nI 10) C.1 C.2.1 dX3_nearestRoom_13 (by decide +kernel) ?_
        refine gw_icmp_ge (tgt := 45) C dX3_nearestRoom_15 (by decide) (by omega) (by omega) (fun hc_15 => ?_) (fun hc_15 => ?_)
        · skip
          refine lv_iconst (v := nI 4294967295) C.1 C.2.1 dX3_nearestRoom_45 (by decide +kernel) ?_
          exact gw_iret (w := pw G q) (u := u) C Hh dX3_nearestRoom_46 ⟨_, rfl, by exact ⟨Or.inl ⟨rfl, fun j h => hno j (by omega)⟩, rfl⟩⟩
        · skip
          refine lv_aload_n C.1 C.2.1 dX3_nearestRoom_18 rfl (lv_at hl 0 rfl) ?_
          refine gw_get (Cn := RX3) (T := TX3) (N := 10) C Hh 4 pw_at4 rfl uwX3 2 (by decide) rfl tw_187 rfl dX3_nearestRoom_19 ?_
          refine lv_aload_n C.1 C.2.1 dX3_nearestRoom_22 rfl (lv_at hl 0 rfl) ?_
          refine gw_get (Cn := RX3) (T := TX3) (N := 10) C Hh 4 pw_at4 rfl uwX3 7 (by decide) rfl tw_194 rfl dX3_nearestRoom_23 ?_
          refine lv_iload_n C.1 C.2.1 dX3_nearestRoom_26 rfl (lv_at hl 3 rfl) ?_
          refine gw_ld C Hh 26 pw_at26 (by decide) dX3_nearestRoom_27 (by omega) ?_
          have hr := hrt i (by omega)
          have hc := hcap.2 _ hr
          refine gw_ld C Hh 21 pw_at21 (by decide) dX3_nearestRoom_28 (by omega) ?_
          refine gw_if_le (tgt := 39) C dX3_nearestRoom_29 (by decide) (by omega) (fun hc_29 => ?_) (fun hc_29 => ?_)
          · skip
            refine lv_iinc (v := nI (i + 1)) (lv' := [(3, .int (nI (i + 1))), (0, .ref (q 4)), (1, .int (nI (b))), (2, .int (nI (kc_1)))]) C.1 C.2.1 dX3_nearestRoom_39 hl (k := 3) rfl (nI_add _ 1) (by decide) rfl (fun ls hl => ?_)
            refine lv_goto (tgt := 7) C.1 C.2.1 dX3_nearestRoom_42 (by decide) ?_
            exact ih_7 (i + 1)  _ _ _ (by first | assumption | omega) (by intro o h; by_cases h1 : o = i; (subst h1; omega); exact hno o (by omega)) (by omega) Hh (lv_sub hl [1, 2, 3, 0] rfl)
          · skip
            refine lv_aload_n C.1 C.2.1 dX3_nearestRoom_32 rfl (lv_at hl 0 rfl) ?_
            refine gw_get (Cn := RX3) (T := TX3) (N := 10) C Hh 4 pw_at4 rfl uwX3 7 (by decide) rfl tw_194 rfl dX3_nearestRoom_33 ?_
            refine lv_iload_n C.1 C.2.1 dX3_nearestRoom_36 rfl (lv_at hl 3 rfl) ?_
            refine gw_ld C Hh 26 pw_at26 (by decide) dX3_nearestRoom_37 (by omega) ?_
            exact gw_iret (w := pw G q) (u := u) C Hh dX3_nearestRoom_38 ⟨_, rfl, by exact ⟨Or.inr ⟨i, by omega, rfl, by omega⟩, rfl⟩⟩
  exact loop_7 _ (0)  _ _ _ (by first | assumption | omega) (by intro o h; omega) (Nat.lt_succ_self _) Hh (lv_sub hl [2, 3, 1, 0] rfl)
