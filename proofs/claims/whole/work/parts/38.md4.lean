theorem tb1 {b i : Nat} (h : 0 < tbit b i) : b.testBit i = true := by
  unfold tbit at h
  split at h
  · assumption
  · cases h
theorem tb0 {b i : Nat} (h : tbit b i = 0) : b.testBit i = false := by
  unfold tbit at h
  split at h
  · cases h
  · exact Bool.eq_false_iff.mpr (by assumption)
theorem tb0' {b i : Nat} (h : tbit b i ≠ 1) : b.testBit i = false := tb0 (by have := tbit_le b i; omega)
set_option maxHeartbeats 4000000 in
set_option maxRecDepth 100000 in
theorem c_X5_nextArrival (l : Launch) (G : gw_G) (q : Nat → Nat) (u : md_S) (bh : Nat) (S : Nat) (hok : md_ok u) (hbh : bh = 4294967295 ∨ bh < u.1 1) : gw_MI l yX5_nextArrival cX5_nextArrival 6 (some .int) 0 0 [.ref (q 0), .int (nI (bh)), .int (nI (S))] G (mw G q) u (fun r u1 => ∃ k : Nat, r = nI k ∧ (nx_in (u.2.1 6) (fun a => S.testBit a = true) bh (u.1 1) k ∧ u1 = u)) := by
  refine gw_entryI (own := RX5) (by decide) rfl (Nat.le_of_ble_eq_true rfl) ?_
  intro p e s m args below meth c A ls C Hh hl
  have hl : lv_has ls 6 [(0, .ref (q 0)), (1, .int (nI (bh))), (2, .int (nI (S)))] := hl
  refine lv_iconst (v := nI 4294967295) C.1 C.2.1 dX5_nextArrival_0 (by decide +kernel) ?_
  refine lv_istore_n (lv' := [(3, .int (nI (4294967295))), (0, .ref (q 0)), (1, .int (nI (bh))), (2, .int (nI (S)))]) C.1 C.2.1 dX5_nextArrival_1 rfl hl (by decide) rfl (fun ls hl => ?_)
  refine lv_iconst (v := nI 0) C.1 C.2.1 dX5_nextArrival_2 (by decide +kernel) ?_
  refine lv_istore (lv' := [(4, .int (nI (0))), (3, .int (nI (4294967295))), (0, .ref (q 0)), (1, .int (nI (bh))), (2, .int (nI (S)))]) C.1 C.2.1 dX5_nextArrival_3 hl (by decide) rfl (fun ls hl => ?_)
  have loop_5 : ∀ (fu : Nat) (b : Nat) (i : Nat) (H : Heap) (locs : List Loc) (ls : Array Slot), (i ≤ u.1 1) → (nx_in (u.2.1 6) (fun a => S.testBit a = true) bh i b) → u.1 1 - i < fu → gw_H G A s (mw G q u) H locs → lv_has ls 6 [(0, .ref (q 0)), (1, .int (nI (bh))), (2, .int (nI (S))), (3, .int (nI (b))), (4, .int (nI (i)))] → W p l e (gw_rm 0 0) s m args below meth c H locs 0 0 (MQ below (va_Qi (fun r u1 => ∃ k : Nat, r = nI k ∧ (nx_in (u.2.1 6) (fun a => S.testBit a = true) bh (u.1 1) k ∧ u1 = u)) (gw_at G A (mw G q)) A) args s 0 0 A) (F0 m 5 ls []) := by
    intro fu
    induction fu with
    | zero =>
      intro b i  H locs ls hi hb hmf
      exact absurd hmf (Nat.not_lt_zero _)
    | succ fu ih_5 =>
      intro b i  H locs ls hi hb hmf Hh hl
      have h0 := hok.1.1
      have hb9 := nx_b hb (by omega)
      refine lv_iload C.1 C.2.1 dX5_nextArrival_5 (lv_at hl 4 rfl) ?_
      refine lv_aload_n C.1 C.2.1 dX5_nextArrival_7 rfl (lv_at hl 0 rfl) ?_
      refine gw_get (Cn := RX5) (T := TX5) (N := 29) C Hh 0 mw_at0 rfl uwX5 6 (by decide) rfl tw_729 rfl dX5_nextArrival_8 ?_
      refine gw_icmp_ge (tgt := 111) C dX5_nextArrival_11 (by decide) (by omega) (by omega) (fun hc_11 => ?_) (fun hc_11 => ?_)
      · skip
        refine lv_iload_n C.1 C.2.1 dX5_nextArrival_111 rfl (lv_at hl 3 rfl) ?_
        exact gw_iret (w := mw G q) (u := u) C Hh dX5_nextArrival_112 ⟨_, rfl, by have h9 : i = u.1 1 := (by omega); rw [← h9]; exact ⟨hb, rfl⟩⟩
      · skip
        have ho9 := hok.2.2.2.1 i (by omega)
        have tb9 := tbit_le S i
        have join_105 : ∀ (b2 : Nat) (H : Heap) (locs : List Loc) (ls : Array Slot), (nx_in (u.2.1 6) (fun a => S.testBit a = true) bh (i + 1) b2) → gw_H G A s (mw G q u) H locs → lv_has ls 6 [(0, .ref (q 0)), (1, .int (nI (bh))), (2, .int (nI (S))), (3, .int (nI (b2))), (4, .int (nI (i)))] → W p l e (gw_rm 0 0) s m args below meth c H locs 0 0 (MQ below (va_Qi (fun r u1 => ∃ k : Nat, r = nI k ∧ (nx_in (u.2.1 6) (fun a => S.testBit a = true) bh (u.1 1) k ∧ u1 = u)) (gw_at G A (mw G q)) A) args s 0 0 A) (F0 m 105 ls []) := by
          intro b2  H locs ls hb2 Hh hl
          refine lv_iinc (v := nI (i + 1)) (lv' := [(4, .int (nI (i + 1))), (0, .ref (q 0)), (1, .int (nI (bh))), (2, .int (nI (S))), (3, .int (nI (b2)))]) C.1 C.2.1 dX5_nextArrival_105 hl (k := 4) rfl (nI_add _ 1) (by decide) rfl (fun ls hl => ?_)
          refine lv_goto (tgt := 5) C.1 C.2.1 dX5_nextArrival_108 (by decide) ?_
          exact ih_5 (b2) (i + 1)  _ _ _ (by omega) (by exact hb2) (by omega) Hh (lv_sub hl [1, 2, 3, 4, 0] rfl)
        refine lv_iload_n C.1 C.2.1 dX5_nextArrival_14 rfl (lv_at hl 2 rfl) ?_
        refine lv_iload C.1 C.2.1 dX5_nextArrival_15 (lv_at hl 4 rfl) ?_
        refine lv_ishr C.1 C.2.1 dX5_nextArrival_17 ?_
        refine lv_iconst (v := nI 1) C.1 C.2.1 dX5_nextArrival_18 (by decide +kernel) ?_
        refine gw_and1 C dX5_nextArrival_19 (by omega) ?_
        refine gw_if_ne (tgt := 26) C dX5_nextArrival_20 (by decide) (by omega) (fun hc_20 => ?_) (fun hc_20 => ?_)
        · skip
          have join_74 : ∀ (lt : Nat) (H : Heap) (locs : List Loc) (ls : Array Slot), ((lt = 1 ∧ (bh = 4294967295 ∨ u.2.1 6 bh < u.2.1 6 i ∨ (u.2.1 6 bh = u.2.1 6 i ∧ bh < i))) ∨ (lt = 0 ∧ ¬ (bh = 4294967295 ∨ u.2.1 6 bh < u.2.1 6 i ∨ (u.2.1 6 bh = u.2.1 6 i ∧ bh < i)))) → gw_H G A s (mw G q u) H locs → lv_has ls 6 [(0, .ref (q 0)), (1, .int (nI (bh))), (2, .int (nI (S))), (3, .int (nI (b))), (4, .int (nI (i)))] → W p l e (gw_rm 0 0) s m args below meth c H locs 0 0 (MQ below (va_Qi (fun r u1 => ∃ k : Nat, r = nI k ∧ (nx_in (u.2.1 6) (fun a => S.testBit a = true) bh (u.1 1) k ∧ u1 = u)) (gw_at G A (mw G q)) A) args s 0 0 A) (F0 m 74 ls [.int (nI (lt))]) := by
            intro lt  H locs ls hlt Hh hl
            refine lv_istore (lv' := [(5, .int (nI (lt))), (0, .ref (q 0)), (1, .int (nI (bh))), (2, .int (nI (S))), (3, .int (nI (b))), (4, .int (nI (i)))]) C.1 C.2.1 dX5_nextArrival_74 hl (by decide) rfl (fun ls hl => ?_)
            refine lv_iload C.1 C.2.1 dX5_nextArrival_76 (lv_at hl 0 rfl) ?_
            refine gw_if_eq (tgt := 105) C dX5_nextArrival_78 (by decide) (by omega) (fun hc_78 => ?_) (fun hc_78 => ?_)
            · skip
              exact join_105 (b)  _ _ _ (by exact nx_skip hb (fun _ q => by unfold nxl kx_lt at q; omega)) Hh (lv_sub hl [1, 2, 3, 4, 5] rfl)
            · skip
              refine lv_iload_n C.1 C.2.1 dX5_nextArrival_81 rfl (lv_at hl 4 rfl) ?_
              refine lv_iconst (v := nI 4294967295) C.1 C.2.1 dX5_nextArrival_82 (by decide +kernel) ?_
              refine gw_m1_eq (tgt := 102) C dX5_nextArrival_83 (by decide) (by omega) (fun hc_83 => ?_) (fun hc_83 => ?_)
              · skip
                refine lv_iload C.1 C.2.1 dX5_nextArrival_102 (lv_at hl 5 rfl) ?_
                refine lv_istore_n (lv' := [(3, .int (nI (i))), (5, .int (nI (lt))), (0, .ref (q 0)), (1, .int (nI (bh))), (2, .int (nI (S))), (4, .int (nI (i)))]) C.1 C.2.1 dX5_nextArrival_104 rfl hl (by decide) rfl (fun ls hl => ?_)
                exact join_105 (i)  _ _ _ (by first | exact nx_take hb (tb1 hc_20) (by unfold nxl kx_lt; omega) (by omega) (Or.inl hc_83) | exact nx_take hb (tb1 hc_20) (by unfold nxl kx_lt; omega) (by omega) (Or.inr hc_99)) Hh (lv_sub hl [2, 3, 4, 0, 5] rfl)
              · skip
                have hob2 := hok.2.2.2.1 b (by omega)
                refine lv_aload_n C.1 C.2.1 dX5_nextArrival_86 rfl (lv_at hl 1 rfl) ?_
                refine gw_get (Cn := RX5) (T := TX5) (N := 29) C Hh 0 mw_at0 rfl uwX5 7 (by decide) rfl tw_730 rfl dX5_nextArrival_87 ?_
                refine lv_iload C.1 C.2.1 dX5_nextArrival_90 (lv_at hl 5 rfl) ?_
                refine gw_ld C Hh 6 mw_at6 (by decide) dX5_nextArrival_92 (by omega) ?_
                refine lv_aload_n C.1 C.2.1 dX5_nextArrival_93 rfl (lv_at hl 1 rfl) ?_
                refine gw_get (Cn := RX5) (T := TX5) (N := 29) C Hh 0 mw_at0 rfl uwX5 7 (by decide) rfl tw_730 rfl dX5_nextArrival_94 ?_
                refine lv_iload_n C.1 C.2.1 dX5_nextArrival_97 rfl (lv_at hl 4 rfl) ?_
                refine gw_ld C Hh 6 mw_at6 (by decide) dX5_nextArrival_98 (by omega) ?_
                refine gw_icmp_ge (tgt := 105) C dX5_nextArrival_99 (by decide) (by omega) (by omega) (fun hc_99 => ?_) (fun hc_99 => ?_)
                · skip
                  exact join_105 (b)  _ _ _ (by exact nx_keep hb hc_83 (by omega)) Hh (lv_sub hl [1, 2, 3, 4, 5] rfl)
                · skip
                  refine lv_iload C.1 C.2.1 dX5_nextArrival_102 (lv_at hl 5 rfl) ?_
                  refine lv_istore_n (lv' := [(3, .int (nI (i))), (5, .int (nI (lt))), (0, .ref (q 0)), (1, .int (nI (bh))), (2, .int (nI (S))), (4, .int (nI (i)))]) C.1 C.2.1 dX5_nextArrival_104 rfl hl (by decide) rfl (fun ls hl => ?_)
                  exact join_105 (i)  _ _ _ (by first | exact nx_take hb (tb1 hc_20) (by unfold nxl kx_lt; omega) (by omega) (Or.inl hc_83) | exact nx_take hb (tb1 hc_20) (by unfold nxl kx_lt; omega) (by omega) (Or.inr hc_99)) Hh (lv_sub hl [2, 3, 4, 0, 5] rfl)
          refine lv_iload_n C.1 C.2.1 dX5_nextArrival_26 rfl (lv_at hl 1 rfl) ?_
          refine lv_iconst (v := nI 4294967295) C.1 C.2.1 dX5_nextArrival_27 (by decide +kernel) ?_
          refine gw_m1_eq (tgt := 69) C dX5_nextArrival_28 (by decide) (by omega) (fun hc_28 => ?_) (fun hc_28 => ?_)
          · skip
            refine lv_iconst (v := nI 1) C.1 C.2.1 dX5_nextArrival_69 (by decide +kernel) ?_
            refine lv_goto (tgt := 74) C.1 C.2.1 dX5_nextArrival_70 (by decide) ?_
            exact join_74 (1)  _ _ _ (by omega) Hh (lv_sub hl [0, 1, 2, 3, 4] rfl)
          · skip
            have hob := hok.2.2.2.1 bh (by omega)
            refine lv_aload_n C.1 C.2.1 dX5_nextArrival_31 rfl (lv_at hl 0 rfl) ?_
            refine gw_get (Cn := RX5) (T := TX5) (N := 29) C Hh 0 mw_at0 rfl uwX5 7 (by decide) rfl tw_730 rfl dX5_nextArrival_32 ?_
            refine lv_iload C.1 C.2.1 dX5_nextArrival_35 (lv_at hl 4 rfl) ?_
            refine gw_ld C Hh 6 mw_at6 (by decide) dX5_nextArrival_37 (by omega) ?_
            refine lv_aload_n C.1 C.2.1 dX5_nextArrival_38 rfl (lv_at hl 0 rfl) ?_
            refine gw_get (Cn := RX5) (T := TX5) (N := 29) C Hh 0 mw_at0 rfl uwX5 7 (by decide) rfl tw_730 rfl dX5_nextArrival_39 ?_
            refine lv_iload_n C.1 C.2.1 dX5_nextArrival_42 rfl (lv_at hl 1 rfl) ?_
            refine gw_ld C Hh 6 mw_at6 (by decide) dX5_nextArrival_43 (by omega) ?_
            refine gw_icmp_gt (tgt := 69) C dX5_nextArrival_44 (by decide) (by omega) (by omega) (fun hc_44 => ?_) (fun hc_44 => ?_)
            · skip
              refine lv_iconst (v := nI 1) C.1 C.2.1 dX5_nextArrival_69 (by decide +kernel) ?_
              refine lv_goto (tgt := 74) C.1 C.2.1 dX5_nextArrival_70 (by decide) ?_
              exact join_74 (1)  _ _ _ (by omega) Hh (lv_sub hl [0, 1, 2, 3, 4] rfl)
            · skip
              refine lv_aload_n C.1 C.2.1 dX5_nextArrival_47 rfl (lv_at hl 0 rfl) ?_
              refine gw_get (Cn := RX5) (T := TX5) (N := 29) C Hh 0 mw_at0 rfl uwX5 7 (by decide) rfl tw_730 rfl dX5_nextArrival_48 ?_
              refine lv_iload C.1 C.2.1 dX5_nextArrival_51 (lv_at hl 4 rfl) ?_
              refine gw_ld C Hh 6 mw_at6 (by decide) dX5_nextArrival_53 (by omega) ?_
              refine lv_aload_n C.1 C.2.1 dX5_nextArrival_54 rfl (lv_at hl 0 rfl) ?_
              refine gw_get (Cn := RX5) (T := TX5) (N := 29) C Hh 0 mw_at0 rfl uwX5 7 (by decide) rfl tw_730 rfl dX5_nextArrival_55 ?_
              refine lv_iload_n C.1 C.2.1 dX5_nextArrival_58 rfl (lv_at hl 1 rfl) ?_
              refine gw_ld C Hh 6 mw_at6 (by decide) dX5_nextArrival_59 (by omega) ?_
              refine gw_icmp_ne (tgt := 73) C dX5_nextArrival_60 (by decide) (by omega) (by omega) (fun hc_60 => ?_) (fun hc_60 => ?_)
              · skip
                refine lv_iconst (v := nI 0) C.1 C.2.1 dX5_nextArrival_73 (by decide +kernel) ?_
                exact join_74 (0)  _ _ _ (by omega) Hh (lv_sub hl [0, 1, 2, 3, 4] rfl)
              · skip
                refine lv_iload C.1 C.2.1 dX5_nextArrival_63 (lv_at hl 4 rfl) ?_
                refine lv_iload_n C.1 C.2.1 dX5_nextArrival_65 rfl (lv_at hl 1 rfl) ?_
                refine gw_icmp_le (tgt := 73) C dX5_nextArrival_66 (by decide) (by omega) (by omega) (fun hc_66 => ?_) (fun hc_66 => ?_)
                · skip
                  refine lv_iconst (v := nI 0) C.1 C.2.1 dX5_nextArrival_73 (by decide +kernel) ?_
                  exact join_74 (0)  _ _ _ (by omega) Hh (lv_sub hl [0, 1, 2, 3, 4] rfl)
                · skip
                  refine lv_iconst (v := nI 1) C.1 C.2.1 dX5_nextArrival_69 (by decide +kernel) ?_
                  refine lv_goto (tgt := 74) C.1 C.2.1 dX5_nextArrival_70 (by decide) ?_
                  exact join_74 (1)  _ _ _ (by omega) Hh (lv_sub hl [0, 1, 2, 3, 4] rfl)
        · skip
          refine lv_goto (tgt := 105) C.1 C.2.1 dX5_nextArrival_23 (by decide) ?_
          exact join_105 (b)  _ _ _ (by exact nx_skip hb (fun q => by (rw [tb0 hc_20] at q; cases q))) Hh (lv_sub hl [0, 1, 2, 3, 4] rfl)
  exact loop_5 _ (4294967295) (0)  _ _ _ (by omega) (by exact nx_0) (Nat.lt_succ_self _) Hh (lv_sub hl [2, 3, 4, 1, 0] rfl)
/-! what a set of arrivals has beyond the demands that are met from it alone -/
def il_sum (f : Nat → Int) : Nat → Int
  | 0 => 0
  | n + 1 => il_sum f n + f n
theorem il_s (f : Nat → Int) (n : Nat) : il_sum f (n + 1) = il_sum f n + f n := rfl
def sl_a (u : md_S) (S a : Nat) : Int := if S.testBit a then u.2.2 19 a else 0
def sl_d (u : md_S) (S d : Nat) : Int := if u.2.1 18 d &&& (S ^^^ 4294967295) = 0 then u.2.2 17 d else 0
def sl (u : md_S) (S : Nat) : Int := il_sum (sl_a u S) (u.1 1) - il_sum (sl_d u S) (u.1 3)
/-- the scratch arrays in their bounds -/
def md_bd (u : md_S) : Prop := u.1 3 ≤ 40 ∧ (∀ d, d < 40 → u.2.1 18 d < 1024 ∧ 0 ≤ u.2.2 17 d ∧ u.2.2 17 d ≤ 1000000) ∧ ∀ a, a < 10 → 0 ≤ u.2.2 19 a ∧ u.2.2 19 a ≤ 1000000
theorem il_bd {f : Nat → Int} {m : Int} (hm : 0 ≤ m) : ∀ {n : Nat}, (∀ k, k < n → 0 ≤ f k ∧ f k ≤ m) → 0 ≤ il_sum f n ∧ il_sum f n ≤ n * m
  | 0, _ => by simp [il_sum]
  | n + 1, h => by
    have h1 := il_bd hm (fun k hk => h k (Nat.lt_succ_of_lt hk))
    have h2 := h n (Nat.lt_succ_self n)
    rw [il_s]
    have h3 : ((n + 1 : Nat) : Int) * m = n * m + m := by rw [Int.natCast_add, Int.add_mul]; simp
    omega
theorem sl_bd {u : md_S} (h1 : u.1 1 ≤ 10) (h : md_bd u) (S : Nat) : -40000000 ≤ sl u S ∧ sl u S ≤ 10000000 := by
  have a1 := il_bd (f := sl_a u S) (m := 1000000) (n := u.1 1) (by decide) (fun k hk => by
    unfold sl_a
    have := h.2.2 k (by omega)
    split <;> omega)
  have a2 := il_bd (f := sl_d u S) (m := 1000000) (n := u.1 3) (by decide) (fun k hk => by
    unfold sl_d
    have := h.1
    have := (h.2.1 k (by omega)).2
    split <;> omega)
  have := h.1
  unfold sl
  omega
theorem and_lt {a b n : Nat} (h : a < n) : a &&& b < n := Nat.lt_of_le_of_lt Nat.and_le_left h
theorem sl_lg {u : md_S} (h1 : u.1 1 ≤ 10) (h : md_bd u) (S : Nat) : lg (sl u S) := by
  have := sl_bd h1 h S
  exact ⟨by omega, by omega⟩
theorem lg_0 : lg 0 := ⟨by decide, by decide⟩
set_option maxHeartbeats 4000000 in
set_option maxRecDepth 100000 in
theorem c_X5_slack (l : Launch) (G : gw_G) (q : Nat → Nat) (u : md_S) (S : Nat) (h10 : u.1 1 ≤ 10) (hbd : md_bd u) : gw_ML l yX5_slack cX5_slack 5 (some .long) 0 0 [.ref (q 0), .int (nI (S))] G (mw G q) u (fun r u1 => ∃ k : Int, r = Int64.ofInt k ∧ (k = sl u S ∧ u1 = u)) := by
  refine gw_entryL (own := RX5) (by decide) rfl (Nat.le_of_ble_eq_true rfl) ?_
  intro p e s m args below meth c A ls C Hh hl
  have hl : lv_has ls 5 [(0, .ref (q 0)), (1, .int (nI (S)))] := hl
  refine lv_lconst (v := Int64.ofInt (0)) C.1 C.2.1 dX5_slack_0 rfl ?_
  refine lv_lstore_n (lv' := [(2, .long (Int64.ofInt (0))), (0, .ref (q 0)), (1, .int (nI (S)))]) C.1 C.2.1 dX5_slack_1 rfl hl (by decide) rfl (fun ls hl => ?_)
  refine lv_iconst (v := nI 0) C.1 C.2.1 dX5_slack_2 (by decide +kernel) ?_
  refine lv_istore (lv' := [(4, .int (nI (0))), (2, .long (Int64.ofInt (0))), (0, .ref (q 0)), (1, .int (nI (S)))]) C.1 C.2.1 dX5_slack_3 hl (by decide) rfl (fun ls hl => ?_)
  have loop_5 : ∀ (fu : Nat) (n : Int) (i : Nat) (H : Heap) (locs : List Loc) (ls : Array Slot), (i ≤ u.1 1) → (n = il_sum (sl_a u S) i) → u.1 1 - i < fu → gw_H G A s (mw G q u) H locs → lv_has ls 5 [(0, .ref (q 0)), (1, .int (nI (S))), (2, .long (Int64.ofInt (n))), (4, .int (nI (i)))] → W p l e (gw_rm 0 0) s m args below meth c H locs 0 0 (MQ below (va_Ql (fun r u1 => ∃ k : Int, r = Int64.ofInt k ∧ (k = sl u S ∧ u1 = u)) (gw_at G A (mw G q)) A) args s 0 0 A) (F0 m 5 ls []) := by
    intro fu
    induction fu with
    | zero =>
      intro n i  H locs ls hi hn hmf
      exact absurd hmf (Nat.not_lt_zero _)
    | succ fu ih_5 =>
      intro n i  H locs ls hi hn hmf Hh hl
      refine lv_iload C.1 C.2.1 dX5_slack_5 (lv_at hl 3 rfl) ?_
      refine lv_aload_n C.1 C.2.1 dX5_slack_7 rfl (lv_at hl 0 rfl) ?_
      refine gw_get (Cn := RX5) (T := TX5) (N := 29) C Hh 0 mw_at0 rfl uwX5 6 (by decide) rfl tw_729 rfl dX5_slack_8 ?_
      refine gw_icmp_ge (tgt := 44) C dX5_slack_11 (by decide) (by omega) (by omega) (fun hc_11 => ?_) (fun hc_11 => ?_)
      · skip
        refine lv_iconst (v := nI 0) C.1 C.2.1 dX5_slack_44 (by decide +kernel) ?_
        refine lv_istore (lv' := [(4, .int (nI (0))), (0, .ref (q 0)), (1, .int (nI (S))), (2, .long (Int64.ofInt (n)))]) C.1 C.2.1 dX5_slack_45 hl (by decide) rfl (fun ls hl => ?_)
        have loop_47 : ∀ (fu : Nat) (n2 : Int) (i2 : Nat) (H : Heap) (locs : List Loc) (ls : Array Slot), (i2 ≤ u.1 3) → (n2 = il_sum (sl_a u S) (u.1 1) - il_sum (sl_d u S) i2) → u.1 3 - i2 < fu → gw_H G A s (mw G q u) H locs → lv_has ls 5 [(0, .ref (q 0)), (1, .int (nI (S))), (2, .long (Int64.ofInt (n2))), (4, .int (nI (i2)))] → W p l e (gw_rm 0 0) s m args below meth c H locs 0 0 (MQ below (va_Ql (fun r u1 => ∃ k : Int, r = Int64.ofInt k ∧ (k = sl u S ∧ u1 = u)) (gw_at G A (mw G q)) A) args s 0 0 A) (F0 m 47 ls []) := by
          intro fu
          induction fu with
          | zero =>
            intro n2 i2  H locs ls hi2 hn2 hmf
            exact absurd hmf (Nat.not_lt_zero _)
          | succ fu ih_47 =>
            intro n2 i2  H locs ls hi2 hn2 hmf Hh hl
            have hd4 := hbd.1
            refine lv_iload C.1 C.2.1 dX5_slack_47 (lv_at hl 3 rfl) ?_
            refine lv_aload_n C.1 C.2.1 dX5_slack_49 rfl (lv_at hl 0 rfl) ?_
            refine gw_get (Cn := RX5) (T := TX5) (N := 29) C Hh 0 mw_at0 rfl uwX5 17 (by decide) rfl tw_740 rfl dX5_slack_50 ?_
            refine gw_icmp_ge (tgt := 90) C dX5_slack_53 (by decide) (by omega) (by omega) (fun hc_53 => ?_) (fun hc_53 => ?_)
            · skip
              refine lv_lload_n C.1 C.2.1 dX5_slack_90 rfl (lv_at hl 2 rfl) ?_
              exact gw_lret (w := mw G q) (u := u) C Hh dX5_slack_91 ⟨_, rfl, by exact ⟨by rw [hn2, show i2 = u.1 3 by omega]; rfl, rfl⟩⟩
            · skip
              have join_82 : ∀ (v2 : Int) (H : Heap) (locs : List Loc) (ls : Array Slot), (v2 = sl_d u S i2) → gw_H G A s (mw G q u) H locs → lv_has ls 5 [(0, .ref (q 0)), (1, .int (nI (S))), (2, .long (Int64.ofInt (n2))), (4, .int (nI (i2)))] → W p l e (gw_rm 0 0) s m args below meth c H locs 0 0 (MQ below (va_Ql (fun r u1 => ∃ k : Int, r = Int64.ofInt k ∧ (k = sl u S ∧ u1 = u)) (gw_at G A (mw G q)) A) args s 0 0 A) (F0 m 82 ls [.long (Int64.ofInt (v2)), .long (Int64.ofInt (n2))]) := by
                intro v2  H locs ls hv2 Hh hl
                refine gw_lsub C dX5_slack_82 ?_
                refine lv_lstore_n (lv' := [(2, .long (Int64.ofInt (n2 - v2))), (0, .ref (q 0)), (1, .int (nI (S))), (4, .int (nI (i2)))]) C.1 C.2.1 dX5_slack_83 rfl hl (by decide) rfl (fun ls hl => ?_)
                refine lv_iinc (v := nI (i2 + 1)) (lv' := [(4, .int (nI (i2 + 1))), (2, .long (Int64.ofInt (n2 - v2))), (0, .ref (q 0)), (1, .int (nI (S)))]) C.1 C.2.1 dX5_slack_84 hl (k := 3) rfl (nI_add _ 1) (by decide) rfl (fun ls hl => ?_)
                refine lv_goto (tgt := 47) C.1 C.2.1 dX5_slack_87 (by decide) ?_
                exact ih_47 (n2 - v2) (i2 + 1)  _ _ _ (by omega) (by rw [il_s, hn2, hv2]; omega) (by omega) Hh (lv_sub hl [2, 3, 1, 0] rfl)
              refine lv_lload_n C.1 C.2.1 dX5_slack_56 rfl (lv_at hl 2 rfl) ?_
              refine lv_aload_n C.1 C.2.1 dX5_slack_57 rfl (lv_at hl 0 rfl) ?_
              refine gw_get (Cn := RX5) (T := TX5) (N := 29) C Hh 0 mw_at0 rfl uwX5 21 (by decide) rfl tw_744 rfl dX5_slack_58 ?_
              refine lv_iload C.1 C.2.1 dX5_slack_61 (lv_at hl 3 rfl) ?_
              refine gw_ld C Hh 18 mw_at18 (by decide) dX5_slack_63 (by omega) ?_
              refine lv_iload_n C.1 C.2.1 dX5_slack_64 rfl (lv_at hl 1 rfl) ?_
              refine lv_iconst (v := nI 4294967295) C.1 C.2.1 dX5_slack_65 (by decide +kernel) ?_
              refine gw_ixor C dX5_slack_66 ?_
              refine gw_iand C dX5_slack_67 ?_
              refine gw_if_ne (tgt := 81) C dX5_slack_68 (by decide) (by have := (hbd.2.1 i2 (by omega)).1; exact Nat.lt_trans (and_lt this) (by decide)) (fun hc_68 => ?_) (fun hc_68 => ?_)
              · skip
                refine lv_lconst (v := Int64.ofInt (0)) C.1 C.2.1 dX5_slack_81 rfl ?_
                exact join_82 (0)  _ _ _ (by unfold sl_d; rw [if_neg (by omega)]) Hh (lv_sub hl [0, 1, 2, 3] rfl)
              · skip
                refine lv_aload_n C.1 C.2.1 dX5_slack_71 rfl (lv_at hl 0 rfl) ?_
                refine gw_get (Cn := RX5) (T := TX5) (N := 29) C Hh 0 mw_at0 rfl uwX5 20 (by decide) rfl tw_743 rfl dX5_slack_72 ?_
                refine lv_iload C.1 C.2.1 dX5_slack_75 (lv_at hl 3 rfl) ?_
                refine gw_lld C Hh 17 mw_at17 (by decide) dX5_slack_77 (by omega) ?_
                refine lv_goto (tgt := 82) C.1 C.2.1 dX5_slack_78 (by decide) ?_
                exact join_82 (u.2.2 17 i2)  _ _ _ (by unfold sl_d; rw [if_pos hc_68]) Hh (lv_sub hl [0, 1, 2, 3] rfl)
        exact loop_47 _ (n) (0)  _ _ _ (by omega) (by rw [hn, show i = u.1 1 by omega]; show _ = _ - (0 : Int); omega) (Nat.lt_succ_self _) Hh (lv_sub hl [1, 2, 3, 0] rfl)
      · skip
        have tb9 := tbit_le S i
        have join_36 : ∀ (v : Int) (H : Heap) (locs : List Loc) (ls : Array Slot), (v = sl_a u S i) → gw_H G A s (mw G q u) H locs → lv_has ls 5 [(0, .ref (q 0)), (1, .int (nI (S))), (2, .long (Int64.ofInt (n))), (4, .int (nI (i)))] → W p l e (gw_rm 0 0) s m args below meth c H locs 0 0 (MQ below (va_Ql (fun r u1 => ∃ k : Int, r = Int64.ofInt k ∧ (k = sl u S ∧ u1 = u)) (gw_at G A (mw G q)) A) args s 0 0 A) (F0 m 36 ls [.long (Int64.ofInt (v)), .long (Int64.ofInt (n))]) := by
          intro v  H locs ls hv Hh hl
          refine gw_ladd C dX5_slack_36 ?_
          refine lv_lstore_n (lv' := [(2, .long (Int64.ofInt (n + v))), (0, .ref (q 0)), (1, .int (nI (S))), (4, .int (nI (i)))]) C.1 C.2.1 dX5_slack_37 rfl hl (by decide) rfl (fun ls hl => ?_)
          refine lv_iinc (v := nI (i + 1)) (lv' := [(4, .int (nI (i + 1))), (2, .long (Int64.ofInt (n + v))), (0, .ref (q 0)), (1, .int (nI (S)))]) C.1 C.2.1 dX5_slack_38 hl (k := 3) rfl (nI_add _ 1) (by decide) rfl (fun ls hl => ?_)
          refine lv_goto (tgt := 5) C.1 C.2.1 dX5_slack_41 (by decide) ?_
          exact ih_5 (n + v) (i + 1)  _ _ _ (by omega) (by rw [il_s, hn, hv]) (by omega) Hh (lv_sub hl [2, 3, 1, 0] rfl)
        refine lv_lload_n C.1 C.2.1 dX5_slack_14 rfl (lv_at hl 2 rfl) ?_
        refine lv_iload_n C.1 C.2.1 dX5_slack_15 rfl (lv_at hl 1 rfl) ?_
        refine lv_iload C.1 C.2.1 dX5_slack_16 (lv_at hl 3 rfl) ?_
        refine lv_ishr C.1 C.2.1 dX5_slack_18 ?_
        refine lv_iconst (v := nI 1) C.1 C.2.1 dX5_slack_19 (by decide +kernel) ?_
        refine gw_and1 C dX5_slack_20 (by omega) ?_
        refine lv_iconst (v := nI 1) C.1 C.2.1 dX5_slack_21 (by decide +kernel) ?_
        refine gw_icmp_ne (tgt := 35) C dX5_slack_22 (by decide) (by omega) (by omega) (fun hc_22 => ?_) (fun hc_22 => ?_)
        · skip
          refine lv_lconst (v := Int64.ofInt (0)) C.1 C.2.1 dX5_slack_35 rfl ?_
          exact join_36 (0)  _ _ _ (by unfold sl_a; rw [tb0' hc_22]; rfl) Hh (lv_sub hl [0, 1, 2, 3] rfl)
        · skip
          refine lv_aload_n C.1 C.2.1 dX5_slack_25 rfl (lv_at hl 0 rfl) ?_
          refine gw_get (Cn := RX5) (T := TX5) (N := 29) C Hh 0 mw_at0 rfl uwX5 22 (by decide) rfl tw_745 rfl dX5_slack_26 ?_
          refine lv_iload C.1 C.2.1 dX5_slack_29 (lv_at hl 3 rfl) ?_
          refine gw_lld C Hh 19 mw_at19 (by decide) dX5_slack_31 (by omega) ?_
          refine lv_goto (tgt := 36) C.1 C.2.1 dX5_slack_32 (by decide) ?_
          exact join_36 (u.2.2 19 i)  _ _ _ (by unfold sl_a; rw [if_pos (tb1 (by omega))]) Hh (lv_sub hl [0, 1, 2, 3] rfl)
  exact loop_5 _ (0) (0)  _ _ _ (by omega) (by rfl) (Nat.lt_succ_self _) Hh (lv_sub hl [2, 3, 1, 0] rfl)
theorem shl_le {n : Nat} (h : n ≤ 10) : 1 ≤ 1 <<< n ∧ 1 <<< n ≤ 1024 := by
  rw [Nat.one_shiftLeft]
  exact ⟨Nat.one_le_two_pow, Nat.le_trans (Nat.pow_le_pow_right (by decide) h) (by decide)⟩
set_option maxHeartbeats 4000000 in
set_option maxRecDepth 100000 in
theorem c_X5_canBeMet (l : Launch) (G : gw_G) (q : Nat → Nat) (u : md_S)  (h10 : u.1 1 ≤ 10) (hbd : md_bd u) : gw_MI l yX5_canBeMet cX5_canBeMet 2 (some .boolean) 1 24 [.ref (q 0)] G (mw G q) u (fun r u1 => ∃ k : Nat, r = nI k ∧ (((k = 1 ∧ ∀ S, S < 1 <<< u.1 1 → 0 ≤ sl u S) ∨ (k = 0 ∧ ∃ S, S < 1 <<< u.1 1 ∧ sl u S < 0)) ∧ u1 = u)) := by
  refine gw_entryI (own := RX5) (by decide) rfl (Nat.le_of_ble_eq_true rfl) ?_
  intro p e s m args below meth c A ls C Hh hl
  have hl : lv_has ls 2 [(0, .ref (q 0))] := hl
  refine lv_iconst (v := nI 0) C.1 C.2.1 dX5_canBeMet_0 (by decide +kernel) ?_
  refine lv_istore_n (lv' := [(1, .int (nI (0))), (0, .ref (q 0))]) C.1 C.2.1 dX5_canBeMet_1 rfl hl (by decide) rfl (fun ls hl => ?_)
  have loop_2 : ∀ (fu : Nat) (S : Nat) (H : Heap) (locs : List Loc) (ls : Array Slot), (S ≤ 1 <<< u.1 1) → (∀ z, z < S → 0 ≤ sl u z) → 1 <<< u.1 1 - S < fu → gw_H G A s (mw G q u) H locs → lv_has ls 2 [(0, .ref (q 0)), (1, .int (nI (S)))] → W p l e (gw_rm 1 24) s m args below meth c H locs 0 0 (MQ below (va_Qi (fun r u1 => ∃ k : Nat, r = nI k ∧ (((k = 1 ∧ ∀ S, S < 1 <<< u.1 1 → 0 ≤ sl u S) ∨ (k = 0 ∧ ∃ S, S < 1 <<< u.1 1 ∧ sl u S < 0)) ∧ u1 = u)) (gw_at G A (mw G q)) A) args s 0 0 A) (F0 m 2 ls []) := by
    intro fu
    induction fu with
    | zero =>
      intro S  H locs ls hS hall hmf
      exact absurd hmf (Nat.not_lt_zero _)
    | succ fu ih_2 =>
      intro S  H locs ls hS hall hmf Hh hl
      have hs9 := shl_le h10
      refine lv_iload_n C.1 C.2.1 dX5_canBeMet_2 rfl (lv_at hl 1 rfl) ?_
      refine lv_iconst (v := nI 1) C.1 C.2.1 dX5_canBeMet_3 (by decide +kernel) ?_
      refine lv_aload_n C.1 C.2.1 dX5_canBeMet_4 rfl (lv_at hl 0 rfl) ?_
      refine gw_get (Cn := RX5) (T := TX5) (N := 29) C Hh 0 mw_at0 rfl uwX5 6 (by decide) rfl tw_729 rfl dX5_canBeMet_5 ?_
      refine gw_ishl C dX5_canBeMet_8 (by omega) ?_
      refine gw_icmp_ge (tgt := 30) C dX5_canBeMet_9 (by decide) (by omega) (by omega) (fun hc_9 => ?_) (fun hc_9 => ?_)
      · skip
        refine lv_iconst (v := nI 1) C.1 C.2.1 dX5_canBeMet_30 (by decide +kernel) ?_
        exact gw_zret (w := mw G q) (u := u) C Hh dX5_canBeMet_31 (by omega) ⟨_, rfl, by exact ⟨Or.inl ⟨rfl, fun z hz => hall z (by omega)⟩, rfl⟩⟩
      · skip
        refine lv_aload_n C.1 C.2.1 dX5_canBeMet_12 rfl (lv_at hl 0 rfl) ?_
        refine lv_iload_n C.1 C.2.1 dX5_canBeMet_13 rfl (lv_at hl 1 rfl) ?_
        refine gw_fromL (w := mw G q) (u := u) C Hh (gw_runV (n := 1) (C1 := RX5) [.int (nI (S))] C Hh (c_X5_slack l G q (u) (S) (by first | assumption | omega) (by first | assumption | omega) _) tw_855 tw_857 tw_55 tw_71 tw_858 (by decide +kernel) ⟨Nat.le_of_ble_eq_true rfl, Nat.le_of_ble_eq_true rfl⟩ 0 mw_at0 rfl rfl hl.1 (Nat.le_of_ble_eq_true rfl) dX5_canBeMet_14 ⟨Nat.zero_le _, Nat.zero_le _⟩) (fun rc_14 uc_14 H locs hp_14 Hh => ?_)
        obtain ⟨kc_14, rfl, hp_14⟩ := hp_14
        obtain ⟨hk_14, hu_14⟩ := hp_14
        rw [hu_14] at Hh
        clear hu_14
        refine lv_lconst (v := Int64.ofInt (0)) C.1 C.2.1 dX5_canBeMet_17 rfl ?_
        refine gw_lc_ge (tgt := 24) C dX5_canBeMet_18 dX5_canBeMet_19 (by decide) (by rw [hk_14]; exact sl_lg h10 hbd S) (by exact lg_0) (fun hc_18 => ?_) (fun hc_18 => ?_)
        · skip
          refine lv_iinc (v := nI (S + 1)) (lv' := [(1, .int (nI (S + 1))), (0, .ref (q 0))]) C.1 C.2.1 dX5_canBeMet_24 hl (k := 1) rfl (nI_add _ 1) (by decide) rfl (fun ls hl => ?_)
          refine lv_goto (tgt := 2) C.1 C.2.1 dX5_canBeMet_27 (by decide) ?_
          exact ih_2 (S + 1)  _ _ _ (by omega) (by intro z hz; rcases Nat.lt_or_ge z S with q | q; exact hall z q; have e : z = S := (by omega); rw [e]; omega) (by omega) Hh (lv_sub hl [1, 0] rfl)
        · skip
          refine lv_iconst (v := nI 0) C.1 C.2.1 dX5_canBeMet_22 (by decide +kernel) ?_
          exact gw_zret (w := mw G q) (u := u) C Hh dX5_canBeMet_23 (by omega) ⟨_, rfl, by exact ⟨Or.inr ⟨rfl, S, by omega, by omega⟩, rfl⟩⟩
  exact loop_2 _ (0)  _ _ _ (by exact Nat.zero_le _) (by intro z hz; omega) (Nat.lt_succ_self _) Hh (lv_sub hl [1, 0] rfl)
