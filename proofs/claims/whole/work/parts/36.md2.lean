theorem nI_inj {a b : Nat} (ha : a < 2 ^ 32) (hb : b < 2 ^ 32) : nI a = nI b ↔ a = b := by
  constructor
  · intro h
    have h1 : ∀ i, i < 32 → a.testBit i = b.testBit i := fun i hi => by rw [← bt_nI a hi, ← bt_nI b hi, h]
    apply Nat.eq_of_testBit_eq
    intro i
    by_cases q : i < 32
    · exact h1 i q
    · have ha2 : a < 2 ^ i := Nat.lt_of_lt_of_le ha (Nat.pow_le_pow_right (by decide) (by omega))
      have hb2 : b < 2 ^ i := Nat.lt_of_lt_of_le hb (Nat.pow_le_pow_right (by decide) (by omega))
      rw [Nat.testBit_lt_two_pow ha2, Nat.testBit_lt_two_pow hb2]
  · intro h
    rw [h]
section GM1
variable {p : Program} {l : Launch} {e : Env} {R : Room} {s : State} {m : MethodId} {args : Array Value} {below : List Frame} {meth : Method} {c : Code} {H : Heap} {locs : List Loc} {cells slots : Nat} {Q : State → Prop}
variable {cc : ByteArray} {pc : Nat} {ls : Array Slot} {rest : List Value} {G : gw_G} {own : String} {nL : Nat} {ret : Option FieldType}
theorem gw_m1_eq {x tgt : Nat} {off : Int} (C : gw_C p s m args meth c G own cc nL ret) (hdg : decode cc pc = .ok (.if_icmp .eq off, 3)) (ht : (pc : Int) + off = (tgt : Int)) (hx : x < 2 ^ 32) (kt : x = 4294967295 → W p l e R s m args below meth c H locs cells slots Q (F0 m tgt ls rest)) (kf : x ≠ 4294967295 → W p l e R s m args below meth c H locs cells slots Q (F0 m (pc + 3) ls rest)) : W p l e R s m args below meth c H locs cells slots Q (F0 m pc ls (.int (nI 4294967295) :: .int (nI x) :: rest)) :=
  lv_icmp_eq C.1 C.2.1 hdg ht (fun h => kt ((nI_inj hx (by decide)).mp h)) (fun h => kf (fun q => h ((nI_inj hx (by decide)).mpr q)))
theorem gw_m1_ne {x tgt : Nat} {off : Int} (C : gw_C p s m args meth c G own cc nL ret) (hdg : decode cc pc = .ok (.if_icmp .ne off, 3)) (ht : (pc : Int) + off = (tgt : Int)) (hx : x < 2 ^ 32) (kt : x ≠ 4294967295 → W p l e R s m args below meth c H locs cells slots Q (F0 m tgt ls rest)) (kf : x = 4294967295 → W p l e R s m args below meth c H locs cells slots Q (F0 m (pc + 3) ls rest)) : W p l e R s m args below meth c H locs cells slots Q (F0 m pc ls (.int (nI 4294967295) :: .int (nI x) :: rest)) :=
  lv_icmp_ne C.1 C.2.1 hdg ht (fun h => kt (fun q => h ((nI_inj hx (by decide)).mpr q))) (fun h => kf ((nI_inj hx (by decide)).mp h))
end GM1
theorem us_cv {u : md_S} {g t a : Nat} (hg : g < 6) : us_c (vw u) g t a = decide ((u.2.1 7 a = g ∨ tbit (u.2.1 2 g) (u.2.1 7 a) = 1) ∧ u.2.1 6 a ≤ t ∧ t ≤ u.2.1 6 a + u.2.1 1 (u.2.1 7 a)) := by
  unfold us_c
  have e : (vw u).2 6 ((vw u).2 11 a * 6 + g) = tbit (u.2.1 2 g) (u.2.1 7 a) := by
    show tbit (u.2.1 2 ((u.2.1 7 a * 6 + g) % 6)) ((u.2.1 7 a * 6 + g) / 6) = _
    rw [show (u.2.1 7 a * 6 + g) % 6 = g by omega, show (u.2.1 7 a * 6 + g) / 6 = u.2.1 7 a by omega]
  rw [e]
  have e2 := tbit_le (u.2.1 2 g) (u.2.1 7 a)
  show decide ((u.2.1 7 a = g ∨ 0 < tbit (u.2.1 2 g) (u.2.1 7 a)) ∧ u.2.1 6 a ≤ t ∧ t - u.2.1 6 a ≤ u.2.1 1 (u.2.1 7 a)) = _
  apply decide_eq_decide.mpr
  omega
set_option maxHeartbeats 4000000 in
set_option maxRecDepth 100000 in
theorem c_X5_usable (l : Launch) (G : gw_G) (q : Nat → Nat) (u : md_S) (g : Nat) (t : Nat) (hok : md_ok u) (hg : g < 6) (ht : t < 100) : gw_MI l yX5_usable cX5_usable 6 (some .int) 0 0 [.ref (q 0), .int (nI (g)), .int (nI (t))] G (mw G q) u (fun r u1 => ∃ k : Nat, r = nI k ∧ (k = us_f (vw u) g t ∧ u1 = u)) := by
  refine gw_entryI (own := RX5) (by decide) rfl (Nat.le_of_ble_eq_true rfl) ?_
  intro p e s m args below meth c A ls C Hh hl
  have hl : lv_has ls 6 [(0, .ref (q 0)), (1, .int (nI (g))), (2, .int (nI (t)))] := hl
  refine lv_iconst (v := nI 0) C.1 C.2.1 dX5_usable_0 (by decide +kernel) ?_
  refine lv_istore_n (lv' := [(3, .int (nI (0))), (0, .ref (q 0)), (1, .int (nI (g))), (2, .int (nI (t)))]) C.1 C.2.1 dX5_usable_1 rfl hl (by decide) rfl (fun ls hl => ?_)
  refine lv_iconst (v := nI 0) C.1 C.2.1 dX5_usable_2 (by decide +kernel) ?_
  refine lv_istore (lv' := [(4, .int (nI (0))), (3, .int (nI (0))), (0, .ref (q 0)), (1, .int (nI (g))), (2, .int (nI (t)))]) C.1 C.2.1 dX5_usable_3 hl (by decide) rfl (fun ls hl => ?_)
  have loop_5 : ∀ (fu : Nat) (i : Nat) (z : Nat) (H : Heap) (locs : List Loc) (ls : Array Slot), (i ≤ u.1 1) → (z = us_m (vw u) g t i) → u.1 1 - i < fu → gw_H G A s (mw G q u) H locs → lv_has ls 6 [(0, .ref (q 0)), (1, .int (nI (g))), (2, .int (nI (t))), (3, .int (nI (z))), (4, .int (nI (i)))] → W p l e (gw_rm 0 0) s m args below meth c H locs 0 0 (MQ below (va_Qi (fun r u1 => ∃ k : Nat, r = nI k ∧ (k = us_f (vw u) g t ∧ u1 = u)) (gw_at G A (mw G q)) A) args s 0 0 A) (F0 m 5 ls []) := by
    intro fu
    induction fu with
    | zero =>
      intro i z  H locs ls hi hz hmf
      exact absurd hmf (Nat.not_lt_zero _)
    | succ fu ih_5 =>
      intro i z  H locs ls hi hz hmf Hh hl
      have h0 := hok.1.1
      refine lv_iload C.1 C.2.1 dX5_usable_5 (lv_at hl 4 rfl) ?_
      refine lv_aload_n C.1 C.2.1 dX5_usable_7 rfl (lv_at hl 0 rfl) ?_
      refine gw_get (Cn := RX5) (T := TX5) (N := 29) C Hh 0 mw_at0 rfl uwX5 6 (by decide) rfl tw_729 rfl dX5_usable_8 ?_
      refine gw_icmp_ge (tgt := 105) C dX5_usable_11 (by decide) (by omega) (by omega) (fun hc_11 => ?_) (fun hc_11 => ?_)
      · skip
        refine lv_iload_n C.1 C.2.1 dX5_usable_105 rfl (lv_at hl 3 rfl) ?_
        exact gw_iret (w := mw G q) (u := u) C Hh dX5_usable_106 ⟨_, rfl, by exact ⟨by rw [hz, show i = u.1 1 by omega]; rfl, rfl⟩⟩
      · skip
        have ha := hok.2.2.2.1 i (by omega)
        have hl9 := hok.2.1 (u.2.1 7 i) ha.2.1
        have tb9 := tbit_le (u.2.1 2 g) (u.2.1 7 i)
        have join_50 : ∀ (b : Nat) (H : Heap) (locs : List Loc) (ls : Array Slot), ((b = 1 ∧ (u.2.1 7 i = g ∨ tbit (u.2.1 2 g) (u.2.1 7 i) = 1)) ∨ (b = 0 ∧ ¬ (u.2.1 7 i = g ∨ tbit (u.2.1 2 g) (u.2.1 7 i) = 1))) → gw_H G A s (mw G q u) H locs → lv_has ls 6 [(0, .ref (q 0)), (1, .int (nI (g))), (2, .int (nI (t))), (3, .int (nI (z))), (4, .int (nI (i)))] → W p l e (gw_rm 0 0) s m args below meth c H locs 0 0 (MQ below (va_Qi (fun r u1 => ∃ k : Nat, r = nI k ∧ (k = us_f (vw u) g t ∧ u1 = u)) (gw_at G A (mw G q)) A) args s 0 0 A) (F0 m 50 ls [.int (nI (b))]) := by
          intro b  H locs ls hb Hh hl
          refine lv_istore (lv' := [(5, .int (nI (b))), (0, .ref (q 0)), (1, .int (nI (g))), (2, .int (nI (t))), (3, .int (nI (z))), (4, .int (nI (i)))]) C.1 C.2.1 dX5_usable_50 hl (by decide) rfl (fun ls hl => ?_)
          refine lv_iload C.1 C.2.1 dX5_usable_52 (lv_at hl 0 rfl) ?_
          have join_99 : ∀ (z2 : Nat) (H : Heap) (locs : List Loc) (ls : Array Slot), (z2 = us_m (vw u) g t (i + 1)) → gw_H G A s (mw G q u) H locs → lv_has ls 6 [(0, .ref (q 0)), (1, .int (nI (g))), (2, .int (nI (t))), (3, .int (nI (z2))), (4, .int (nI (i)))] → W p l e (gw_rm 0 0) s m args below meth c H locs 0 0 (MQ below (va_Qi (fun r u1 => ∃ k : Nat, r = nI k ∧ (k = us_f (vw u) g t ∧ u1 = u)) (gw_at G A (mw G q)) A) args s 0 0 A) (F0 m 99 ls []) := by
            intro z2  H locs ls hz2 Hh hl
            refine lv_iinc (v := nI (i + 1)) (lv' := [(4, .int (nI (i + 1))), (0, .ref (q 0)), (1, .int (nI (g))), (2, .int (nI (t))), (3, .int (nI (z2)))]) C.1 C.2.1 dX5_usable_99 hl (k := 4) rfl (nI_add _ 1) (by decide) rfl (fun ls hl => ?_)
            refine lv_goto (tgt := 5) C.1 C.2.1 dX5_usable_102 (by decide) ?_
            exact ih_5 (i + 1) (z2)  _ _ _ (by first | assumption | omega) (by exact hz2) (by omega) Hh (lv_sub hl [1, 2, 3, 4, 0] rfl)
          refine gw_if_eq (tgt := 99) C dX5_usable_54 (by decide) (by omega) (fun hc_54 => ?_) (fun hc_54 => ?_)
          · skip
            exact join_99 (z)  _ _ _ (by rw [hz, us_m_succ, if_neg (by rw [us_cv hg, decide_eq_true_eq]; omega)]) Hh (lv_sub hl [1, 2, 3, 4, 5] rfl)
          · skip
            refine lv_aload_n C.1 C.2.1 dX5_usable_57 rfl (lv_at hl 1 rfl) ?_
            refine gw_get (Cn := RX5) (T := TX5) (N := 29) C Hh 0 mw_at0 rfl uwX5 7 (by decide) rfl tw_730 rfl dX5_usable_58 ?_
            refine lv_iload C.1 C.2.1 dX5_usable_61 (lv_at hl 5 rfl) ?_
            refine gw_ld C Hh 6 mw_at6 (by decide) dX5_usable_63 (by omega) ?_
            refine lv_iload_n C.1 C.2.1 dX5_usable_64 rfl (lv_at hl 3 rfl) ?_
            refine gw_icmp_gt (tgt := 99) C dX5_usable_65 (by decide) (by omega) (by omega) (fun hc_65 => ?_) (fun hc_65 => ?_)
            · skip
              exact join_99 (z)  _ _ _ (by rw [hz, us_m_succ, if_neg (by rw [us_cv hg, decide_eq_true_eq]; omega)]) Hh (lv_sub hl [1, 2, 3, 4, 5] rfl)
            · skip
              refine lv_iload_n C.1 C.2.1 dX5_usable_68 rfl (lv_at hl 3 rfl) ?_
              refine lv_aload_n C.1 C.2.1 dX5_usable_69 rfl (lv_at hl 1 rfl) ?_
              refine gw_get (Cn := RX5) (T := TX5) (N := 29) C Hh 0 mw_at0 rfl uwX5 7 (by decide) rfl tw_730 rfl dX5_usable_70 ?_
              refine lv_iload C.1 C.2.1 dX5_usable_73 (lv_at hl 5 rfl) ?_
              refine gw_ld C Hh 6 mw_at6 (by decide) dX5_usable_75 (by omega) ?_
              refine lv_aload_n C.1 C.2.1 dX5_usable_76 rfl (lv_at hl 1 rfl) ?_
              refine gw_get (Cn := RX5) (T := TX5) (N := 29) C Hh 0 mw_at0 rfl uwX5 1 (by decide) rfl tw_724 rfl dX5_usable_77 ?_
              refine lv_aload_n C.1 C.2.1 dX5_usable_80 rfl (lv_at hl 1 rfl) ?_
              refine gw_get (Cn := RX5) (T := TX5) (N := 29) C Hh 0 mw_at0 rfl uwX5 8 (by decide) rfl tw_731 rfl dX5_usable_81 ?_
              refine lv_iload C.1 C.2.1 dX5_usable_84 (lv_at hl 5 rfl) ?_
              refine gw_ld C Hh 7 mw_at7 (by decide) dX5_usable_86 (by omega) ?_
              refine gw_ld C Hh 1 mw_at1 (by decide) dX5_usable_87 (by omega) ?_
              refine gw_iadd C dX5_usable_88 ?_
              refine gw_icmp_gt (tgt := 99) C dX5_usable_89 (by decide) (by omega) (by omega) (fun hc_89 => ?_) (fun hc_89 => ?_)
              · skip
                exact join_99 (z)  _ _ _ (by rw [hz, us_m_succ, if_neg (by rw [us_cv hg, decide_eq_true_eq]; omega)]) Hh (lv_sub hl [1, 2, 3, 4, 5] rfl)
              · skip
                refine lv_iload_n C.1 C.2.1 dX5_usable_92 rfl (lv_at hl 4 rfl) ?_
                refine lv_iconst (v := nI 1) C.1 C.2.1 dX5_usable_93 (by decide +kernel) ?_
                refine lv_iload C.1 C.2.1 dX5_usable_94 (lv_at hl 5 rfl) ?_
                refine gw_ishl C dX5_usable_96 (by omega) ?_
                refine gw_ior C dX5_usable_97 ?_
                refine lv_istore_n (lv' := [(3, .int (nI (z ||| (1 <<< i)))), (5, .int (nI (b))), (0, .ref (q 0)), (1, .int (nI (g))), (2, .int (nI (t))), (4, .int (nI (i)))]) C.1 C.2.1 dX5_usable_98 rfl hl (by decide) rfl (fun ls hl => ?_)
                exact join_99 (z ||| 1 <<< i)  _ _ _ (by rw [hz, us_m_succ, if_pos (by rw [us_cv hg, decide_eq_true_eq]; omega)]) Hh (lv_sub hl [2, 3, 4, 0, 5] rfl)
        refine lv_aload_n C.1 C.2.1 dX5_usable_14 rfl (lv_at hl 0 rfl) ?_
        refine gw_get (Cn := RX5) (T := TX5) (N := 29) C Hh 0 mw_at0 rfl uwX5 8 (by decide) rfl tw_731 rfl dX5_usable_15 ?_
        refine lv_iload C.1 C.2.1 dX5_usable_18 (lv_at hl 4 rfl) ?_
        refine gw_ld C Hh 7 mw_at7 (by decide) dX5_usable_20 (by omega) ?_
        refine lv_iload_n C.1 C.2.1 dX5_usable_21 rfl (lv_at hl 1 rfl) ?_
        refine gw_icmp_eq (tgt := 45) C dX5_usable_22 (by decide) (by omega) (by omega) (fun hc_22 => ?_) (fun hc_22 => ?_)
        · skip
          refine lv_iconst (v := nI 1) C.1 C.2.1 dX5_usable_45 (by decide +kernel) ?_
          refine lv_goto (tgt := 50) C.1 C.2.1 dX5_usable_46 (by decide) ?_
          exact join_50 (1)  _ _ _ (by omega) Hh (lv_sub hl [0, 1, 2, 3, 4] rfl)
        · skip
          refine lv_aload_n C.1 C.2.1 dX5_usable_25 rfl (lv_at hl 0 rfl) ?_
          refine gw_get (Cn := RX5) (T := TX5) (N := 29) C Hh 0 mw_at0 rfl uwX5 2 (by decide) rfl tw_725 rfl dX5_usable_26 ?_
          refine lv_iload_n C.1 C.2.1 dX5_usable_29 rfl (lv_at hl 1 rfl) ?_
          refine gw_ld C Hh 2 mw_at2 (by decide) dX5_usable_30 (by omega) ?_
          refine lv_aload_n C.1 C.2.1 dX5_usable_31 rfl (lv_at hl 0 rfl) ?_
          refine gw_get (Cn := RX5) (T := TX5) (N := 29) C Hh 0 mw_at0 rfl uwX5 8 (by decide) rfl tw_731 rfl dX5_usable_32 ?_
          refine lv_iload C.1 C.2.1 dX5_usable_35 (lv_at hl 4 rfl) ?_
          refine gw_ld C Hh 7 mw_at7 (by decide) dX5_usable_37 (by omega) ?_
          refine lv_ishr C.1 C.2.1 dX5_usable_38 ?_
          refine lv_iconst (v := nI 1) C.1 C.2.1 dX5_usable_39 (by decide +kernel) ?_
          refine gw_and1 C dX5_usable_40 (by omega) ?_
          refine lv_iconst (v := nI 1) C.1 C.2.1 dX5_usable_41 (by decide +kernel) ?_
          refine gw_icmp_ne (tgt := 49) C dX5_usable_42 (by decide) (by omega) (by omega) (fun hc_42 => ?_) (fun hc_42 => ?_)
          · skip
            refine lv_iconst (v := nI 0) C.1 C.2.1 dX5_usable_49 (by decide +kernel) ?_
            exact join_50 (0)  _ _ _ (by omega) Hh (lv_sub hl [0, 1, 2, 3, 4] rfl)
          · skip
            refine lv_iconst (v := nI 1) C.1 C.2.1 dX5_usable_45 (by decide +kernel) ?_
            refine lv_goto (tgt := 50) C.1 C.2.1 dX5_usable_46 (by decide) ?_
            exact join_50 (1)  _ _ _ (by omega) Hh (lv_sub hl [0, 1, 2, 3, 4] rfl)
  exact loop_5 _ (0) (0)  _ _ _ (by first | assumption | omega) (by rfl) (Nat.lt_succ_self _) Hh (lv_sub hl [2, 3, 4, 1, 0] rfl)
def ad_D (u : md_S) (o g t : Nat) (n : Int) : md_S := (up1 u.1 3 (u.1 3 + 1), up2 (up2 (up2 u.2.1 15 (u.1 3) o) 16 (u.1 3) g) 18 (u.1 3) (us_f (vw u) g t), up3 u.2.2 17 (u.1 3) n)
set_option maxHeartbeats 4000000 in
set_option maxRecDepth 100000 in
theorem c_X5_addDemand (l : Launch) (G : gw_G) (q : Nat → Nat) (u : md_S) (o : Nat) (g : Nat) (n : Int) (t : Nat) (hok : md_ok u) (hg : g < 6) (ht : t < 100) (hd : u.1 3 < 40) : gw_MV l yX5_addDemand cX5_addDemand 6 none 1 25 [.ref (q 0), .int (nI (o)), .int (nI (g)), .long (Int64.ofInt (n)), .int (nI (t))] G (mw G q) u (fun u1 => u1 = ad_D u o g t n) := by
  refine gw_entryV (own := RX5) (by decide) rfl (Nat.le_of_ble_eq_true rfl) ?_
  intro p e s m args below meth c A ls C Hh hl
  have hl : lv_has ls 6 [(0, .ref (q 0)), (1, .int (nI (o))), (2, .int (nI (g))), (3, .long (Int64.ofInt (n))), (5, .int (nI (t)))] := hl
  refine lv_aload_n C.1 C.2.1 dX5_addDemand_0 rfl (lv_at hl 0 rfl) ?_
  refine gw_get (Cn := RX5) (T := TX5) (N := 29) C Hh 0 mw_at0 rfl uwX5 18 (by decide) rfl tw_741 rfl dX5_addDemand_1 ?_
  refine lv_aload_n C.1 C.2.1 dX5_addDemand_4 rfl (lv_at hl 0 rfl) ?_
  refine gw_get (Cn := RX5) (T := TX5) (N := 29) C Hh 0 mw_at0 rfl uwX5 17 (by decide) rfl tw_740 rfl dX5_addDemand_5 ?_
  refine lv_iload_n C.1 C.2.1 dX5_addDemand_8 rfl (lv_at hl 1 rfl) ?_
  refine gw_st C Hh 15 mw_at15 (by decide) mw_set15 dX5_addDemand_9 (by omega) (fun H locs Hh => ?_)
  have Hh : gw_H G A s (mw G q (u.1, up2 u.2.1 15 (u.1 3) (o), u.2.2)) H locs := Hh
  refine lv_aload_n C.1 C.2.1 dX5_addDemand_10 rfl (lv_at hl 0 rfl) ?_
  refine gw_get (Cn := RX5) (T := TX5) (N := 29) C Hh 0 mw_at0 rfl uwX5 19 (by decide) rfl tw_742 rfl dX5_addDemand_11 ?_
  refine lv_aload_n C.1 C.2.1 dX5_addDemand_14 rfl (lv_at hl 0 rfl) ?_
  refine gw_get (Cn := RX5) (T := TX5) (N := 29) C Hh 0 mw_at0 rfl uwX5 17 (by decide) rfl tw_740 rfl dX5_addDemand_15 ?_
  refine W.eq (g2 := F0 m 18 ls [.int (nI (u.1 3)), .ref (q 16)]) rfl ?_
  refine lv_iload_n C.1 C.2.1 dX5_addDemand_18 rfl (lv_at hl 2 rfl) ?_
  refine gw_st C Hh 16 mw_at16 (by decide) mw_set16 dX5_addDemand_19 (by omega) (fun H locs Hh => ?_)
  have Hh : gw_H G A s (mw G q (u.1, up2 (up2 u.2.1 15 (u.1 3) (o)) 16 (u.1 3) (g), u.2.2)) H locs := Hh
  refine lv_aload_n C.1 C.2.1 dX5_addDemand_20 rfl (lv_at hl 0 rfl) ?_
  refine gw_get (Cn := RX5) (T := TX5) (N := 29) C Hh 0 mw_at0 rfl uwX5 20 (by decide) rfl tw_743 rfl dX5_addDemand_21 ?_
  refine lv_aload_n C.1 C.2.1 dX5_addDemand_24 rfl (lv_at hl 0 rfl) ?_
  refine gw_get (Cn := RX5) (T := TX5) (N := 29) C Hh 0 mw_at0 rfl uwX5 17 (by decide) rfl tw_740 rfl dX5_addDemand_25 ?_
  refine W.eq (g2 := F0 m 28 ls [.int (nI (u.1 3)), .ref (q 17)]) rfl ?_
  refine lv_lload_n C.1 C.2.1 dX5_addDemand_28 rfl (lv_at hl 3 rfl) ?_
  refine gw_lst C Hh 17 mw_at17 (by decide) mw_set17 dX5_addDemand_29 (by omega) (fun H locs Hh => ?_)
  have Hh : gw_H G A s (mw G q (u.1, up2 (up2 u.2.1 15 (u.1 3) (o)) 16 (u.1 3) (g), up3 u.2.2 17 (u.1 3) (n))) H locs := Hh
  refine lv_aload_n C.1 C.2.1 dX5_addDemand_30 rfl (lv_at hl 0 rfl) ?_
  refine gw_get (Cn := RX5) (T := TX5) (N := 29) C Hh 0 mw_at0 rfl uwX5 21 (by decide) rfl tw_744 rfl dX5_addDemand_31 ?_
  refine lv_aload_n C.1 C.2.1 dX5_addDemand_34 rfl (lv_at hl 0 rfl) ?_
  refine gw_get (Cn := RX5) (T := TX5) (N := 29) C Hh 0 mw_at0 rfl uwX5 17 (by decide) rfl tw_740 rfl dX5_addDemand_35 ?_
  refine W.eq (g2 := F0 m 38 ls [.int (nI (u.1 3)), .ref (q 18)]) rfl ?_
  refine lv_aload_n C.1 C.2.1 dX5_addDemand_38 rfl (lv_at hl 0 rfl) ?_
  refine lv_iload_n C.1 C.2.1 dX5_addDemand_39 rfl (lv_at hl 2 rfl) ?_
  refine lv_iload C.1 C.2.1 dX5_addDemand_40 (lv_at hl 4 rfl) ?_
  refine gw_fromI (w := mw G q) (u := (u.1, up2 (up2 u.2.1 15 (u.1 3) (o)) 16 (u.1 3) (g), up3 u.2.2 17 (u.1 3) (n))) C Hh (gw_runV (n := 2) (C1 := RX5) [.int (nI (g)), .int (nI (t))] C Hh (c_X5_usable l G q ((u.1, up2 (up2 u.2.1 15 (u.1 3) (o)) 16 (u.1 3) (g), up3 u.2.2 17 (u.1 3) (n))) (g) (t) (by exact hok) (by first | assumption | omega) (by first | assumption | omega) _) tw_847 tw_849 tw_53 tw_71 tw_850 (by decide +kernel) ⟨Nat.le_of_ble_eq_true rfl, Nat.le_of_ble_eq_true rfl⟩ 0 mw_at0 rfl rfl hl.1 (Nat.le_of_ble_eq_true rfl) dX5_addDemand_42 ⟨Nat.zero_le _, Nat.zero_le _⟩) (fun rc_42 uc_42 H locs hp_42 Hh => ?_)
  obtain ⟨kc_42, rfl, hp_42⟩ := hp_42
  obtain ⟨hk_42, hu_42⟩ := hp_42
  rw [hu_42] at Hh
  clear hu_42
  refine gw_st C Hh 18 mw_at18 (by decide) mw_set18 dX5_addDemand_45 (by omega) (fun H locs Hh => ?_)
  have Hh : gw_H G A s (mw G q (u.1, up2 (up2 (up2 u.2.1 15 (u.1 3) (o)) 16 (u.1 3) (g)) 18 (u.1 3) (kc_42), up3 u.2.2 17 (u.1 3) (n))) H locs := Hh
  refine lv_aload_n C.1 C.2.1 dX5_addDemand_46 rfl (lv_at hl 0 rfl) ?_
  refine lv_dup C.1 C.2.1 dX5_addDemand_47 rfl ?_
  refine gw_get (Cn := RX5) (T := TX5) (N := 29) C Hh 0 mw_at0 rfl uwX5 17 (by decide) rfl tw_740 rfl dX5_addDemand_48 ?_
  refine W.eq (g2 := F0 m 51 ls [.int (nI (u.1 3)), .ref (q 0)]) rfl ?_
  refine lv_iconst (v := nI 1) C.1 C.2.1 dX5_addDemand_51 (by decide +kernel) ?_
  refine gw_iadd C dX5_addDemand_52 ?_
  refine gw_put (Cn := RX5) (T := TX5) (N := 29) (ty0 := tyX5) (v := nI ((u.1 3) + 1)) C Hh 0 mw_at0 rfl uwX5 tyX5_ok nmX5 17 (by decide) rfl tw_740 rfl (by decide +kernel) (Nat.le_of_ble_eq_true rfl) mw_num3 dX5_addDemand_53 (fun H locs Hh => ?_)
  exact gw_vret (w := mw G q) (u := (up1 u.1 3 ((u.1 3) + 1), up2 (up2 (up2 u.2.1 15 (u.1 3) (o)) 16 (u.1 3) (g)) 18 (u.1 3) (kc_42), up3 u.2.2 17 (u.1 3) (n))) C Hh dX5_addDemand_56 (by rw [hk_42]; rfl)
