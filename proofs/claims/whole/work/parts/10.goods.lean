/-- what holds of the goods' arrays: lives, stand-ins, recipes -/
def gd_ok (u : pf_S) : Prop := (∀ g, g < 6 → u.2 7 g ≤ 3) ∧ (∀ j, j < 36 → u.2 6 j ≤ 1) ∧ (∀ j, j < 18 → u.2 8 j < 6) ∧ (∀ j, j < 18 → u.2 9 j ≤ 100) ∧ ∀ g, g < 6 → u.2 5 g ≤ 100
/-- how many demands a good has, of which goods, and how many for one -/
def gd_dn (u : pf_S) (g : Nat) : Nat := if 0 < u.2 7 g then u.2 7 g else 1
def gd_dg (u : pf_S) (g x : Nat) : Nat := if 0 < u.2 7 g then u.2 8 (g * 3 + x) else g
def gd_d1 (u : pf_S) (g x : Nat) : Nat := if 0 < u.2 7 g then u.2 9 (g * 3 + x) else 1
set_option maxHeartbeats 4000000 in
set_option maxRecDepth 100000 in
theorem c_X1_standsInFor (l : Launch) (G : gw_G) (q : Nat → Nat) (u : pf_S) (o : Nat) (g : Nat) (hok : gd_ok u) (ho : o < 6) (hg : g < 6) : gw_MI l yX1_standsInFor cX1_standsInFor 3 (some .boolean) 0 0 [.ref (q 1), .int (nI (o)), .int (nI (g))] G (pw G q) u (fun r u1 => ∃ k : Nat, r = nI k ∧ (k = u.2 6 (o * 6 + g) ∧ u1 = u)) := by
  refine gw_entryI (own := RX1) (by decide) rfl (Nat.le_of_ble_eq_true rfl) ?_
  intro p e s m args below meth c A ls C Hh hl
  have hl : lv_has ls 3 [(0, .ref (q 1)), (1, .int (nI (o))), (2, .int (nI (g)))] := hl
  refine lv_aload_n C.1 C.2.1 dX1_standsInFor_0 rfl (lv_at hl 0 rfl) ?_
  refine gw_get (Cn := RX1) (T := TX1) (N := 5) C Hh 1 pw_at1 rfl uwX1 1 (by decide) rfl tw_99 rfl dX1_standsInFor_1 ?_
  refine lv_iload_n C.1 C.2.1 dX1_standsInFor_4 rfl (lv_at hl 1 rfl) ?_
  refine lv_bipush (v := nI 6) C.1 C.2.1 dX1_standsInFor_5 (by decide +kernel) ?_
  refine gw_imul C dX1_standsInFor_7 ?_
  refine lv_iload_n C.1 C.2.1 dX1_standsInFor_8 rfl (lv_at hl 2 rfl) ?_
  refine gw_iadd C dX1_standsInFor_9 ?_
  refine gw_zld C Hh 6 pw_at6 (by decide) dX1_standsInFor_10 (by omega) ?_
  exact gw_zret (w := pw G q) (u := u) C Hh dX1_standsInFor_11 (by exact hok.2.1 _ (by omega)) ⟨_, rfl, by refine ⟨?_, rfl⟩; first | rfl | omega | (split <;> omega)⟩
set_option maxHeartbeats 4000000 in
set_option maxRecDepth 100000 in
theorem c_X1_letStandIn (l : Launch) (G : gw_G) (q : Nat → Nat) (u : pf_S) (o : Nat) (g : Nat) (b : Nat) (ho : o < 6) (hg : g < 6) (hb : b ≤ 1) : gw_MV l yX1_letStandIn cX1_letStandIn 4 none 0 0 [.ref (q 1), .int (nI (o)), .int (nI (g)), .int (nI (b))] G (pw G q) u (fun u1 => u1 = (u.1, up2 u.2 6 (o * 6 + g) b)) := by
  refine gw_entryV (own := RX1) (by decide) rfl (Nat.le_of_ble_eq_true rfl) ?_
  intro p e s m args below meth c A ls C Hh hl
  have hl : lv_has ls 4 [(0, .ref (q 1)), (1, .int (nI (o))), (2, .int (nI (g))), (3, .int (nI (b)))] := hl
  refine lv_aload_n C.1 C.2.1 dX1_letStandIn_0 rfl (lv_at hl 0 rfl) ?_
  refine gw_get (Cn := RX1) (T := TX1) (N := 5) C Hh 1 pw_at1 rfl uwX1 1 (by decide) rfl tw_99 rfl dX1_letStandIn_1 ?_
  refine lv_iload_n C.1 C.2.1 dX1_letStandIn_4 rfl (lv_at hl 1 rfl) ?_
  refine lv_bipush (v := nI 6) C.1 C.2.1 dX1_letStandIn_5 (by decide +kernel) ?_
  refine gw_imul C dX1_letStandIn_7 ?_
  refine lv_iload_n C.1 C.2.1 dX1_letStandIn_8 rfl (lv_at hl 2 rfl) ?_
  refine gw_iadd C dX1_letStandIn_9 ?_
  refine lv_iload_n C.1 C.2.1 dX1_letStandIn_10 rfl (lv_at hl 3 rfl) ?_
  refine gw_zst C Hh 6 pw_at6 (by decide) pw_set6 dX1_letStandIn_11 (by omega) (by omega) (fun H locs Hh => ?_)
  have Hh : gw_H G A s (pw G q (u.1, up2 u.2 6 ((o * 6) + g) (b))) H locs := Hh
  exact gw_vret (w := pw G q) (u := (u.1, up2 u.2 6 ((o * 6) + g) (b))) C Hh dX1_letStandIn_12 (by rfl)
set_option maxHeartbeats 4000000 in
set_option maxRecDepth 100000 in
theorem c_X1_meets (l : Launch) (G : gw_G) (q : Nat → Nat) (u : pf_S) (o : Nat) (g : Nat) (hok : gd_ok u) (ho : o < 6) (hg : g < 6) : gw_MI l yX1_meets cX1_meets 3 (some .boolean) 1 22 [.ref (q 1), .int (nI (o)), .int (nI (g))] G (pw G q) u (fun r u1 => ∃ k : Nat, r = nI k ∧ (k = (if o = g then 1 else u.2 6 (o * 6 + g)) ∧ u1 = u)) := by
  refine gw_entryI (own := RX1) (by decide) rfl (Nat.le_of_ble_eq_true rfl) ?_
  intro p e s m args below meth c A ls C Hh hl
  have hl : lv_has ls 3 [(0, .ref (q 1)), (1, .int (nI (o))), (2, .int (nI (g)))] := hl
  refine lv_iload_n C.1 C.2.1 dX1_meets_0 rfl (lv_at hl 1 rfl) ?_
  refine lv_iload_n C.1 C.2.1 dX1_meets_1 rfl (lv_at hl 2 rfl) ?_
  refine gw_icmp_eq (tgt := 14) C dX1_meets_2 (by decide) (by omega) (by omega) (fun hc_2 => ?_) (fun hc_2 => ?_)
  · skip
    refine lv_iconst (v := nI 1) C.1 C.2.1 dX1_meets_14 (by decide +kernel) ?_
    refine lv_goto (tgt := 19) C.1 C.2.1 dX1_meets_15 (by decide) ?_
    exact gw_zret (w := pw G q) (u := u) C Hh dX1_meets_19 (by omega) ⟨_, rfl, by refine ⟨?_, rfl⟩; first | rfl | omega | (split <;> omega)⟩
  · skip
    refine lv_aload_n C.1 C.2.1 dX1_meets_5 rfl (lv_at hl 0 rfl) ?_
    refine lv_iload_n C.1 C.2.1 dX1_meets_6 rfl (lv_at hl 1 rfl) ?_
    refine lv_iload_n C.1 C.2.1 dX1_meets_7 rfl (lv_at hl 2 rfl) ?_
    refine gw_fromI (w := pw G q) (u := u) C Hh (gw_runV (n := 2) (C1 := RX1) [.int (nI (o)), .int (nI (g))] C Hh (c_X1_standsInFor l G q (u) (o) (g) (by first | assumption | omega) (by first | assumption | omega) (by first | assumption | omega) _) tw_441 tw_443 tw_20 tw_67 tw_444 (by decide +kernel) ⟨Nat.le_of_ble_eq_true rfl, Nat.le_of_ble_eq_true rfl⟩ 1 pw_at1 rfl rfl hl.1 (Nat.le_of_ble_eq_true rfl) dX1_meets_8 ⟨Nat.zero_le _, Nat.zero_le _⟩) (fun rc_8 uc_8 H locs hp_8 Hh => ?_)
    obtain ⟨kc_8, rfl, hp_8⟩ := hp_8
    obtain ⟨hk_8, hu_8⟩ := hp_8
    rw [hu_8] at Hh
    clear hu_8
    have h6 := hok.2.1 (o * 6 + g) (by omega)
    refine gw_if_eq (tgt := 18) C dX1_meets_11 (by decide) (by omega) (fun hc_11 => ?_) (fun hc_11 => ?_)
    · skip
      refine lv_iconst (v := nI 0) C.1 C.2.1 dX1_meets_18 (by decide +kernel) ?_
      exact gw_zret (w := pw G q) (u := u) C Hh dX1_meets_19 (by omega) ⟨_, rfl, by refine ⟨?_, rfl⟩; first | rfl | omega | (split <;> omega)⟩
    · skip
      refine lv_iconst (v := nI 1) C.1 C.2.1 dX1_meets_14 (by decide +kernel) ?_
      refine lv_goto (tgt := 19) C.1 C.2.1 dX1_meets_15 (by decide) ?_
      exact gw_zret (w := pw G q) (u := u) C Hh dX1_meets_19 (by omega) ⟨_, rfl, by refine ⟨?_, rfl⟩; first | rfl | omega | (split <;> omega)⟩
set_option maxHeartbeats 4000000 in
set_option maxRecDepth 100000 in
theorem c_X1_isInStandIn (l : Launch) (G : gw_G) (q : Nat → Nat) (u : pf_S) (g : Nat) (hok : gd_ok u) (hg : g < 6) : gw_MI l yX1_isInStandIn cX1_isInStandIn 3 (some .boolean) 1 22 [.ref (q 1), .int (nI (g))] G (pw G q) u (fun r u1 => ∃ k : Nat, r = nI k ∧ (((k = 1 ∧ ∃ o, o < 6 ∧ (0 < u.2 6 (g * 6 + o) ∨ 0 < u.2 6 (o * 6 + g))) ∨ (k = 0 ∧ ∀ o, o < 6 → u.2 6 (g * 6 + o) = 0 ∧ u.2 6 (o * 6 + g) = 0)) ∧ u1 = u)) := by
  refine gw_entryI (own := RX1) (by decide) rfl (Nat.le_of_ble_eq_true rfl) ?_
  intro p e s m args below meth c A ls C Hh hl
  have hl : lv_has ls 3 [(0, .ref (q 1)), (1, .int (nI (g)))] := hl
  refine lv_iconst (v := nI 0) C.1 C.2.1 dX1_isInStandIn_0 (by decide +kernel) ?_
  refine lv_istore_n (lv' := [(2, .int (nI (0))), (0, .ref (q 1)), (1, .int (nI (g)))]) C.1 C.2.1 dX1_isInStandIn_1 rfl hl (by decide) rfl (fun ls hl => ?_)
  have loop_2 : ∀ (fu : Nat) (i : Nat) (H : Heap) (locs : List Loc) (ls : Array Slot), (i ≤ 6) → (∀ o, o < i → u.2 6 (g * 6 + o) = 0 ∧ u.2 6 (o * 6 + g) = 0) → 6 - i < fu → gw_H G A s (pw G q u) H locs → lv_has ls 3 [(0, .ref (q 1)), (1, .int (nI (g))), (2, .int (nI (i)))] → W p l e (gw_rm 1 22) s m args below meth c H locs 0 0 (MQ below (va_Qi (fun r u1 => ∃ k : Nat, r = nI k ∧ (((k = 1 ∧ ∃ o, o < 6 ∧ (0 < u.2 6 (g * 6 + o) ∨ 0 < u.2 6 (o * 6 + g))) ∨ (k = 0 ∧ ∀ o, o < 6 → u.2 6 (g * 6 + o) = 0 ∧ u.2 6 (o * 6 + g) = 0)) ∧ u1 = u)) (gw_at G A (pw G q)) A) args s 0 0 A) (F0 m 2 ls []) := by
    intro fu
    induction fu with
    | zero =>
      intro i  H locs ls hi hno hmf
      exact absurd hmf (Nat.not_lt_zero _)
    | succ fu ih_2 =>
      intro i  H locs ls hi hno hmf Hh hl
      refine lv_iload_n C.1 C.2.1 dX1_isInStandIn_2 rfl (lv_at hl 2 rfl) ?_
      refine lv_bipush (v := nI 6) C.1 C.2.1 dX1_isInStandIn_3 (by decide +kernel) ?_
      refine gw_icmp_ge (tgt := 34) C dX1_isInStandIn_5 (by decide) (by omega) (by omega) (fun hc_5 => ?_) (fun hc_5 => ?_)
      · skip
        refine lv_iconst (v := nI 0) C.1 C.2.1 dX1_isInStandIn_34 (by decide +kernel) ?_
        exact gw_zret (w := pw G q) (u := u) C Hh dX1_isInStandIn_35 (by omega) ⟨_, rfl, by exact ⟨Or.inr ⟨rfl, fun o h => hno o (by omega)⟩, rfl⟩⟩
      · skip
        refine lv_aload_n C.1 C.2.1 dX1_isInStandIn_8 rfl (lv_at hl 0 rfl) ?_
        refine lv_iload_n C.1 C.2.1 dX1_isInStandIn_9 rfl (lv_at hl 1 rfl) ?_
        refine lv_iload_n C.1 C.2.1 dX1_isInStandIn_10 rfl (lv_at hl 2 rfl) ?_
        refine gw_fromI (w := pw G q) (u := u) C Hh (gw_runV (n := 2) (C1 := RX1) [.int (nI (g)), .int (nI (i))] C Hh (c_X1_standsInFor l G q (u) (g) (i) (by first | assumption | omega) (by first | assumption | omega) (by first | assumption | omega) _) tw_441 tw_443 tw_20 tw_67 tw_444 (by decide +kernel) ⟨Nat.le_of_ble_eq_true rfl, Nat.le_of_ble_eq_true rfl⟩ 1 pw_at1 rfl rfl hl.1 (Nat.le_of_ble_eq_true rfl) dX1_isInStandIn_11 ⟨Nat.zero_le _, Nat.zero_le _⟩) (fun rc_11 uc_11 H locs hp_11 Hh => ?_)
        obtain ⟨kc_11, rfl, hp_11⟩ := hp_11
        obtain ⟨hk_11, hu_11⟩ := hp_11
        rw [hu_11] at Hh
        clear hu_11
        have h6 := hok.2.1 (g * 6 + i) (by omega)
        refine gw_if_ne (tgt := 26) C dX1_isInStandIn_14 (by decide) (by omega) (fun hc_14 => ?_) (fun hc_14 => ?_)
        · skip
          refine lv_iconst (v := nI 1) C.1 C.2.1 dX1_isInStandIn_26 (by decide +kernel) ?_
          exact gw_zret (w := pw G q) (u := u) C Hh dX1_isInStandIn_27 (by omega) ⟨_, rfl, by exact ⟨Or.inl ⟨rfl, i, by omega, by omega⟩, rfl⟩⟩
        · skip
          refine lv_aload_n C.1 C.2.1 dX1_isInStandIn_17 rfl (lv_at hl 0 rfl) ?_
          refine lv_iload_n C.1 C.2.1 dX1_isInStandIn_18 rfl (lv_at hl 2 rfl) ?_
          refine lv_iload_n C.1 C.2.1 dX1_isInStandIn_19 rfl (lv_at hl 1 rfl) ?_
          refine gw_fromI (w := pw G q) (u := u) C Hh (gw_runV (n := 2) (C1 := RX1) [.int (nI (i)), .int (nI (g))] C Hh (c_X1_standsInFor l G q (u) (i) (g) (by first | assumption | omega) (by first | assumption | omega) (by first | assumption | omega) _) tw_441 tw_443 tw_20 tw_67 tw_444 (by decide +kernel) ⟨Nat.le_of_ble_eq_true rfl, Nat.le_of_ble_eq_true rfl⟩ 1 pw_at1 rfl rfl hl.1 (Nat.le_of_ble_eq_true rfl) dX1_isInStandIn_20 ⟨Nat.zero_le _, Nat.zero_le _⟩) (fun rc_20 uc_20 H locs hp_20 Hh => ?_)
          obtain ⟨kc_20, rfl, hp_20⟩ := hp_20
          obtain ⟨hk_20, hu_20⟩ := hp_20
          rw [hu_20] at Hh
          clear hu_20
          have h6b := hok.2.1 (i * 6 + g) (by omega)
          refine gw_if_eq (tgt := 28) C dX1_isInStandIn_23 (by decide) (by omega) (fun hc_23 => ?_) (fun hc_23 => ?_)
          · skip
            refine lv_iinc (v := nI (i + 1)) (lv' := [(2, .int (nI (i + 1))), (0, .ref (q 1)), (1, .int (nI (g)))]) C.1 C.2.1 dX1_isInStandIn_28 hl (k := 2) rfl (nI_add _ 1) (by decide) rfl (fun ls hl => ?_)
            refine lv_goto (tgt := 2) C.1 C.2.1 dX1_isInStandIn_31 (by decide) ?_
            exact ih_2 (i + 1)  _ _ _ (by first | assumption | omega) (by intro o h; by_cases h1 : o = i; (subst h1; omega); exact hno o (by omega)) (by omega) Hh (lv_sub hl [1, 2, 0] rfl)
          · skip
            refine lv_iconst (v := nI 1) C.1 C.2.1 dX1_isInStandIn_26 (by decide +kernel) ?_
            exact gw_zret (w := pw G q) (u := u) C Hh dX1_isInStandIn_27 (by omega) ⟨_, rfl, by exact ⟨Or.inl ⟨rfl, i, by omega, by omega⟩, rfl⟩⟩
  exact loop_2 _ (0)  _ _ _ (by first | assumption | omega) (by intro o h; omega) (Nat.lt_succ_self _) Hh (lv_sub hl [1, 2, 0] rfl)
set_option maxHeartbeats 4000000 in
set_option maxRecDepth 100000 in
theorem c_X1_isKit (l : Launch) (G : gw_G) (q : Nat → Nat) (u : pf_S) (g : Nat) (hok : gd_ok u) (hg : g < 6) : gw_MI l yX1_isKit cX1_isKit 2 (some .boolean) 0 0 [.ref (q 1), .int (nI (g))] G (pw G q) u (fun r u1 => ∃ k : Nat, r = nI k ∧ (k = (if 0 < u.2 7 g then 1 else 0) ∧ u1 = u)) := by
  refine gw_entryI (own := RX1) (by decide) rfl (Nat.le_of_ble_eq_true rfl) ?_
  intro p e s m args below meth c A ls C Hh hl
  have hl : lv_has ls 2 [(0, .ref (q 1)), (1, .int (nI (g)))] := hl
  have h7 := hok.1 g hg
  refine lv_aload_n C.1 C.2.1 dX1_isKit_0 rfl (lv_at hl 0 rfl) ?_
  refine gw_get (Cn := RX1) (T := TX1) (N := 5) C Hh 1 pw_at1 rfl uwX1 2 (by decide) rfl tw_100 rfl dX1_isKit_1 ?_
  refine lv_iload_n C.1 C.2.1 dX1_isKit_4 rfl (lv_at hl 1 rfl) ?_
  refine gw_ld C Hh 7 pw_at7 (by decide) dX1_isKit_5 (by omega) ?_
  refine gw_if_le (tgt := 13) C dX1_isKit_6 (by decide) (by omega) (fun hc_6 => ?_) (fun hc_6 => ?_)
  · skip
    refine lv_iconst (v := nI 0) C.1 C.2.1 dX1_isKit_13 (by decide +kernel) ?_
    exact gw_zret (w := pw G q) (u := u) C Hh dX1_isKit_14 (by omega) ⟨_, rfl, by refine ⟨?_, rfl⟩; first | rfl | omega | (split <;> omega)⟩
  · skip
    refine lv_iconst (v := nI 1) C.1 C.2.1 dX1_isKit_9 (by decide +kernel) ?_
    refine lv_goto (tgt := 14) C.1 C.2.1 dX1_isKit_10 (by decide) ?_
    exact gw_zret (w := pw G q) (u := u) C Hh dX1_isKit_14 (by omega) ⟨_, rfl, by refine ⟨?_, rfl⟩; first | rfl | omega | (split <;> omega)⟩
set_option maxHeartbeats 4000000 in
set_option maxRecDepth 100000 in
theorem c_X1_hasPart (l : Launch) (G : gw_G) (q : Nat → Nat) (u : pf_S) (g : Nat) (x : Nat) (hok : gd_ok u) (hg : g < 6) (hx : x < 6) : gw_MI l yX1_hasPart cX1_hasPart 4 (some .boolean) 0 0 [.ref (q 1), .int (nI (g)), .int (nI (x))] G (pw G q) u (fun r u1 => ∃ k : Nat, r = nI k ∧ (((k = 1 ∧ ∃ j, j < u.2 7 g ∧ u.2 8 (g * 3 + j) = x) ∨ (k = 0 ∧ ∀ j, j < u.2 7 g → u.2 8 (g * 3 + j) ≠ x)) ∧ u1 = u)) := by
  refine gw_entryI (own := RX1) (by decide) rfl (Nat.le_of_ble_eq_true rfl) ?_
  intro p e s m args below meth c A ls C Hh hl
  have hl : lv_has ls 4 [(0, .ref (q 1)), (1, .int (nI (g))), (2, .int (nI (x)))] := hl
  have h7 := hok.1 g hg
  refine lv_iconst (v := nI 0) C.1 C.2.1 dX1_hasPart_0 (by decide +kernel) ?_
  refine lv_istore_n (lv' := [(3, .int (nI (0))), (0, .ref (q 1)), (1, .int (nI (g))), (2, .int (nI (x)))]) C.1 C.2.1 dX1_hasPart_1 rfl hl (by decide) rfl (fun ls hl => ?_)
  have loop_2 : ∀ (fu : Nat) (i : Nat) (H : Heap) (locs : List Loc) (ls : Array Slot), (i ≤ u.2 7 g) → (∀ j, j < i → u.2 8 (g * 3 + j) ≠ x) → u.2 7 g - i < fu → gw_H G A s (pw G q u) H locs → lv_has ls 4 [(0, .ref (q 1)), (1, .int (nI (g))), (2, .int (nI (x))), (3, .int (nI (i)))] → W p l e (gw_rm 0 0) s m args below meth c H locs 0 0 (MQ below (va_Qi (fun r u1 => ∃ k : Nat, r = nI k ∧ (((k = 1 ∧ ∃ j, j < u.2 7 g ∧ u.2 8 (g * 3 + j) = x) ∨ (k = 0 ∧ ∀ j, j < u.2 7 g → u.2 8 (g * 3 + j) ≠ x)) ∧ u1 = u)) (gw_at G A (pw G q)) A) args s 0 0 A) (F0 m 2 ls []) := by
    intro fu
    induction fu with
    | zero =>
      intro i  H locs ls hi hno hmf
      exact absurd hmf (Nat.not_lt_zero _)
    | succ fu ih_2 =>
      intro i  H locs ls hi hno hmf Hh hl
      refine lv_iload_n C.1 C.2.1 dX1_hasPart_2 rfl (lv_at hl 3 rfl) ?_
      refine lv_aload_n C.1 C.2.1 dX1_hasPart_3 rfl (lv_at hl 0 rfl) ?_
      refine gw_get (Cn := RX1) (T := TX1) (N := 5) C Hh 1 pw_at1 rfl uwX1 2 (by decide) rfl tw_100 rfl dX1_hasPart_4 ?_
      refine lv_iload_n C.1 C.2.1 dX1_hasPart_7 rfl (lv_at hl 1 rfl) ?_
      refine gw_ld C Hh 7 pw_at7 (by decide) dX1_hasPart_8 (by omega) ?_
      refine gw_icmp_ge (tgt := 34) C dX1_hasPart_9 (by decide) (by omega) (by omega) (fun hc_9 => ?_) (fun hc_9 => ?_)
      · skip
        refine lv_iconst (v := nI 0) C.1 C.2.1 dX1_hasPart_34 (by decide +kernel) ?_
        exact gw_zret (w := pw G q) (u := u) C Hh dX1_hasPart_35 (by omega) ⟨_, rfl, by exact ⟨Or.inr ⟨rfl, fun j h => hno j (by omega)⟩, rfl⟩⟩
      · skip
        refine lv_aload_n C.1 C.2.1 dX1_hasPart_12 rfl (lv_at hl 0 rfl) ?_
        refine gw_get (Cn := RX1) (T := TX1) (N := 5) C Hh 1 pw_at1 rfl uwX1 3 (by decide) rfl tw_102 rfl dX1_hasPart_13 ?_
        refine lv_iload_n C.1 C.2.1 dX1_hasPart_16 rfl (lv_at hl 1 rfl) ?_
        refine lv_iconst (v := nI 3) C.1 C.2.1 dX1_hasPart_17 (by decide +kernel) ?_
        refine gw_imul C dX1_hasPart_18 ?_
        refine lv_iload_n C.1 C.2.1 dX1_hasPart_19 rfl (lv_at hl 3 rfl) ?_
        refine gw_iadd C dX1_hasPart_20 ?_
        refine gw_ld C Hh 8 pw_at8 (by decide) dX1_hasPart_21 (by omega) ?_
        have h8 := hok.2.2.1 (g * 3 + i) (by omega)
        refine lv_iload_n C.1 C.2.1 dX1_hasPart_22 rfl (lv_at hl 2 rfl) ?_
        refine gw_icmp_ne (tgt := 28) C dX1_hasPart_23 (by decide) (by omega) (by omega) (fun hc_23 => ?_) (fun hc_23 => ?_)
        · skip
          refine lv_iinc (v := nI (i + 1)) (lv' := [(3, .int (nI (i + 1))), (0, .ref (q 1)), (1, .int (nI (g))), (2, .int (nI (x)))]) C.1 C.2.1 dX1_hasPart_28 hl (k := 3) rfl (nI_add _ 1) (by decide) rfl (fun ls hl => ?_)
          refine lv_goto (tgt := 2) C.1 C.2.1 dX1_hasPart_31 (by decide) ?_
          exact ih_2 (i + 1)  _ _ _ (by first | assumption | omega) (by intro o h; by_cases h1 : o = i; (subst h1; omega); exact hno o (by omega)) (by omega) Hh (lv_sub hl [1, 2, 3, 0] rfl)
        · skip
          refine lv_iconst (v := nI 1) C.1 C.2.1 dX1_hasPart_26 (by decide +kernel) ?_
          exact gw_zret (w := pw G q) (u := u) C Hh dX1_hasPart_27 (by omega) ⟨_, rfl, by exact ⟨Or.inl ⟨rfl, i, by omega, by omega⟩, rfl⟩⟩
  exact loop_2 _ (0)  _ _ _ (by first | assumption | omega) (by intro o h; omega) (Nat.lt_succ_self _) Hh (lv_sub hl [1, 2, 3, 0] rfl)
set_option maxHeartbeats 4000000 in
set_option maxRecDepth 100000 in
theorem c_X1_isPart (l : Launch) (G : gw_G) (q : Nat → Nat) (u : pf_S) (x : Nat) (hok : gd_ok u) (hx : x < 6) : gw_MI l yX1_isPart cX1_isPart 3 (some .boolean) 1 23 [.ref (q 1), .int (nI (x))] G (pw G q) u (fun r u1 => ∃ k : Nat, r = nI k ∧ (((k = 1 ∧ ∃ g, g < 6 ∧ ∃ j, j < u.2 7 g ∧ u.2 8 (g * 3 + j) = x) ∨ (k = 0 ∧ ∀ g, g < 6 → ∀ j, j < u.2 7 g → u.2 8 (g * 3 + j) ≠ x)) ∧ u1 = u)) := by
  refine gw_entryI (own := RX1) (by decide) rfl (Nat.le_of_ble_eq_true rfl) ?_
  intro p e s m args below meth c A ls C Hh hl
  have hl : lv_has ls 3 [(0, .ref (q 1)), (1, .int (nI (x)))] := hl
  refine lv_iconst (v := nI 0) C.1 C.2.1 dX1_isPart_0 (by decide +kernel) ?_
  refine lv_istore_n (lv' := [(2, .int (nI (0))), (0, .ref (q 1)), (1, .int (nI (x)))]) C.1 C.2.1 dX1_isPart_1 rfl hl (by decide) rfl (fun ls hl => ?_)
  have loop_2 : ∀ (fu : Nat) (i : Nat) (H : Heap) (locs : List Loc) (ls : Array Slot), (i ≤ 6) → (∀ g, g < i → ∀ j, j < u.2 7 g → u.2 8 (g * 3 + j) ≠ x) → 6 - i < fu → gw_H G A s (pw G q u) H locs → lv_has ls 3 [(0, .ref (q 1)), (1, .int (nI (x))), (2, .int (nI (i)))] → W p l e (gw_rm 1 23) s m args below meth c H locs 0 0 (MQ below (va_Qi (fun r u1 => ∃ k : Nat, r = nI k ∧ (((k = 1 ∧ ∃ g, g < 6 ∧ ∃ j, j < u.2 7 g ∧ u.2 8 (g * 3 + j) = x) ∨ (k = 0 ∧ ∀ g, g < 6 → ∀ j, j < u.2 7 g → u.2 8 (g * 3 + j) ≠ x)) ∧ u1 = u)) (gw_at G A (pw G q)) A) args s 0 0 A) (F0 m 2 ls []) := by
    intro fu
    induction fu with
    | zero =>
      intro i  H locs ls hi hno hmf
      exact absurd hmf (Nat.not_lt_zero _)
    | succ fu ih_2 =>
      intro i  H locs ls hi hno hmf Hh hl
      refine lv_iload_n C.1 C.2.1 dX1_isPart_2 rfl (lv_at hl 2 rfl) ?_
      refine lv_bipush (v := nI 6) C.1 C.2.1 dX1_isPart_3 (by decide +kernel) ?_
      refine gw_icmp_ge (tgt := 25) C dX1_isPart_5 (by decide) (by omega) (by omega) (fun hc_5 => ?_) (fun hc_5 => ?_)
      · skip
        refine lv_iconst (v := nI 0) C.1 C.2.1 dX1_isPart_25 (by decide +kernel) ?_
        exact gw_zret (w := pw G q) (u := u) C Hh dX1_isPart_26 (by omega) ⟨_, rfl, by exact ⟨Or.inr ⟨rfl, fun j h => hno j (by omega)⟩, rfl⟩⟩
      · skip
        refine lv_aload_n C.1 C.2.1 dX1_isPart_8 rfl (lv_at hl 0 rfl) ?_
        refine lv_iload_n C.1 C.2.1 dX1_isPart_9 rfl (lv_at hl 2 rfl) ?_
        refine lv_iload_n C.1 C.2.1 dX1_isPart_10 rfl (lv_at hl 1 rfl) ?_
        refine gw_fromI (w := pw G q) (u := u) C Hh (gw_runV (n := 2) (C1 := RX1) [.int (nI (i)), .int (nI (x))] C Hh (c_X1_hasPart l G q (u) (i) (x) (by first | assumption | omega) (by first | assumption | omega) (by first | assumption | omega) _) tw_567 tw_560 tw_32 tw_67 tw_561 (by decide +kernel) ⟨Nat.le_of_ble_eq_true rfl, Nat.le_of_ble_eq_true rfl⟩ 1 pw_at1 rfl rfl hl.1 (Nat.le_of_ble_eq_true rfl) dX1_isPart_11 ⟨Nat.zero_le _, Nat.zero_le _⟩) (fun rc_11 uc_11 H locs hp_11 Hh => ?_)
        obtain ⟨kc_11, rfl, hp_11⟩ := hp_11
        obtain ⟨hk_11, hu_11⟩ := hp_11
        rw [hu_11] at Hh
        clear hu_11
        refine gw_if_eq (tgt := 19) C dX1_isPart_14 (by decide) (by omega) (fun hc_14 => ?_) (fun hc_14 => ?_)
        · skip
          refine lv_iinc (v := nI (i + 1)) (lv' := [(2, .int (nI (i + 1))), (0, .ref (q 1)), (1, .int (nI (x)))]) C.1 C.2.1 dX1_isPart_19 hl (k := 2) rfl (nI_add _ 1) (by decide) rfl (fun ls hl => ?_)
          refine lv_goto (tgt := 2) C.1 C.2.1 dX1_isPart_22 (by decide) ?_
          exact ih_2 (i + 1)  _ _ _ (by first | assumption | omega) (by intro o h; by_cases h1 : o = i; (subst h1; rcases hk_11 with ⟨h2, h3⟩ | ⟨h2, h3⟩; (omega); exact h3); exact hno o (by omega)) (by omega) Hh (lv_sub hl [1, 2, 0] rfl)
        · skip
          refine lv_iconst (v := nI 1) C.1 C.2.1 dX1_isPart_17 (by decide +kernel) ?_
          exact gw_zret (w := pw G q) (u := u) C Hh dX1_isPart_18 (by omega) ⟨_, rfl, by exact ⟨Or.inl ⟨rfl, i, by omega, by rcases hk_11 with ⟨h2, h3⟩ | ⟨h2, h3⟩; (exact h3); omega⟩, rfl⟩⟩
  exact loop_2 _ (0)  _ _ _ (by first | assumption | omega) (by intro o h; omega) (Nat.lt_succ_self _) Hh (lv_sub hl [1, 2, 0] rfl)
set_option maxHeartbeats 4000000 in
set_option maxRecDepth 100000 in
theorem c_X1_addPart (l : Launch) (G : gw_G) (q : Nat → Nat) (u : pf_S) (g : Nat) (x : Nat) (n : Nat) (hok : gd_ok u) (hg : g < 6) (hx : x < 6) (hl3 : u.2 7 g < 3) : gw_MI l yX1_addPart cX1_addPart 5 (some .int) 0 0 [.ref (q 1), .int (nI (g)), .int (nI (x)), .int (nI (n))] G (pw G q) u (fun r u1 => ∃ k : Nat, r = nI k ∧ (k = u.2 7 g + 1 ∧ u1 = (u.1, up2 (up2 (up2 u.2 8 (g * 3 + u.2 7 g) x) 9 (g * 3 + u.2 7 g) n) 7 g (u.2 7 g + 1)))) := by
  refine gw_entryI (own := RX1) (by decide) rfl (Nat.le_of_ble_eq_true rfl) ?_
  intro p e s m args below meth c A ls C Hh hl
  have hl : lv_has ls 5 [(0, .ref (q 1)), (1, .int (nI (g))), (2, .int (nI (x))), (3, .int (nI (n)))] := hl
  refine lv_iload_n C.1 C.2.1 dX1_addPart_0 rfl (lv_at hl 1 rfl) ?_
  refine lv_iconst (v := nI 3) C.1 C.2.1 dX1_addPart_1 (by decide +kernel) ?_
  refine gw_imul C dX1_addPart_2 ?_
  refine lv_aload_n C.1 C.2.1 dX1_addPart_3 rfl (lv_at hl 0 rfl) ?_
  refine gw_get (Cn := RX1) (T := TX1) (N := 5) C Hh 1 pw_at1 rfl uwX1 2 (by decide) rfl tw_100 rfl dX1_addPart_4 ?_
  refine lv_iload_n C.1 C.2.1 dX1_addPart_7 rfl (lv_at hl 1 rfl) ?_
  refine gw_ld C Hh 7 pw_at7 (by decide) dX1_addPart_8 (by omega) ?_
  refine gw_iadd C dX1_addPart_9 ?_
  refine lv_istore (lv' := [(4, .int (nI ((g * 3) + (u.2 7 (g))))), (0, .ref (q 1)), (1, .int (nI (g))), (2, .int (nI (x))), (3, .int (nI (n)))]) C.1 C.2.1 dX1_addPart_10 hl (by decide) rfl (fun ls hl => ?_)
  refine lv_aload_n C.1 C.2.1 dX1_addPart_12 rfl (lv_at hl 1 rfl) ?_
  refine gw_get (Cn := RX1) (T := TX1) (N := 5) C Hh 1 pw_at1 rfl uwX1 3 (by decide) rfl tw_102 rfl dX1_addPart_13 ?_
  refine lv_iload C.1 C.2.1 dX1_addPart_16 (lv_at hl 0 rfl) ?_
  refine lv_iload_n C.1 C.2.1 dX1_addPart_18 rfl (lv_at hl 3 rfl) ?_
  refine gw_st C Hh 8 pw_at8 (by decide) pw_set8 dX1_addPart_19 (by omega) (fun H locs Hh => ?_)
  have Hh : gw_H G A s (pw G q (u.1, up2 u.2 8 ((g * 3) + (u.2 7 (g))) (x))) H locs := Hh
  refine lv_aload_n C.1 C.2.1 dX1_addPart_20 rfl (lv_at hl 1 rfl) ?_
  refine gw_get (Cn := RX1) (T := TX1) (N := 5) C Hh 1 pw_at1 rfl uwX1 4 (by decide) rfl tw_103 rfl dX1_addPart_21 ?_
  refine lv_iload C.1 C.2.1 dX1_addPart_24 (lv_at hl 0 rfl) ?_
  refine lv_iload_n C.1 C.2.1 dX1_addPart_26 rfl (lv_at hl 4 rfl) ?_
  refine gw_st C Hh 9 pw_at9 (by decide) pw_set9 dX1_addPart_27 (by omega) (fun H locs Hh => ?_)
  have Hh : gw_H G A s (pw G q (u.1, up2 (up2 u.2 8 ((g * 3) + (u.2 7 (g))) (x)) 9 ((g * 3) + (u.2 7 (g))) (n))) H locs := Hh
  refine lv_aload_n C.1 C.2.1 dX1_addPart_28 rfl (lv_at hl 1 rfl) ?_
  refine gw_get (Cn := RX1) (T := TX1) (N := 5) C Hh 1 pw_at1 rfl uwX1 2 (by decide) rfl tw_100 rfl dX1_addPart_29 ?_
  refine lv_iload_n C.1 C.2.1 dX1_addPart_32 rfl (lv_at hl 2 rfl) ?_
  refine lv_dup2_11 C.1 C.2.1 dX1_addPart_33 rfl rfl ?_
  refine gw_ld C Hh 7 pw_at7 (by decide) dX1_addPart_34 (by omega) ?_
  refine W.eq (g2 := F0 m 35 ls [.int (nI (u.2 7 (g))), .int (nI (g)), .ref (q 7)]) rfl ?_
  refine lv_iconst (v := nI 1) C.1 C.2.1 dX1_addPart_35 (by decide +kernel) ?_
  refine gw_iadd C dX1_addPart_36 ?_
  refine gw_st C Hh 7 pw_at7 (by decide) pw_set7 dX1_addPart_37 (by omega) (fun H locs Hh => ?_)
  have Hh : gw_H G A s (pw G q (u.1, up2 (up2 (up2 u.2 8 ((g * 3) + (u.2 7 (g))) (x)) 9 ((g * 3) + (u.2 7 (g))) (n)) 7 (g) ((u.2 7 (g)) + 1))) H locs := Hh
  refine lv_aload_n C.1 C.2.1 dX1_addPart_38 rfl (lv_at hl 1 rfl) ?_
  refine gw_get (Cn := RX1) (T := TX1) (N := 5) C Hh 1 pw_at1 rfl uwX1 2 (by decide) rfl tw_100 rfl dX1_addPart_39 ?_
  refine lv_iload_n C.1 C.2.1 dX1_addPart_42 rfl (lv_at hl 2 rfl) ?_
  refine gw_ld C Hh 7 pw_at7 (by decide) dX1_addPart_43 (by omega) ?_
  refine W.eq (g2 := F0 m 44 ls [.int (nI ((up2 u.2 7 (g) ((u.2 7 (g)) + 1)) 7 (g)))]) rfl ?_
  exact gw_iret (w := pw G q) (u := (u.1, up2 (up2 (up2 u.2 8 ((g * 3) + (u.2 7 (g))) (x)) 9 ((g * 3) + (u.2 7 (g))) (n)) 7 (g) ((u.2 7 (g)) + 1))) C Hh dX1_addPart_44 ⟨_, rfl, by exact ⟨by simp [up2], rfl⟩⟩
set_option maxHeartbeats 4000000 in
set_option maxRecDepth 100000 in
theorem c_X1_demandsOf (l : Launch) (G : gw_G) (q : Nat → Nat) (u : pf_S) (g : Nat) (hok : gd_ok u) (hg : g < 6) : gw_MI l yX1_demandsOf cX1_demandsOf 2 (some .int) 1 21 [.ref (q 1), .int (nI (g))] G (pw G q) u (fun r u1 => ∃ k : Nat, r = nI k ∧ (k = gd_dn u g ∧ u1 = u)) := by
  refine gw_entryI (own := RX1) (by decide) rfl (Nat.le_of_ble_eq_true rfl) ?_
  intro p e s m args below meth c A ls C Hh hl
  have hl : lv_has ls 2 [(0, .ref (q 1)), (1, .int (nI (g)))] := hl
  refine lv_aload_n C.1 C.2.1 dX1_demandsOf_0 rfl (lv_at hl 0 rfl) ?_
  refine lv_iload_n C.1 C.2.1 dX1_demandsOf_1 rfl (lv_at hl 1 rfl) ?_
  refine gw_fromI (w := pw G q) (u := u) C Hh (gw_runV (n := 1) (C1 := RX1) [.int (nI (g))] C Hh (c_X1_isKit l G q (u) (g) (by first | assumption | omega) (by first | assumption | omega) _) tw_259 tw_261 tw_6 tw_67 tw_262 (by decide +kernel) ⟨Nat.le_of_ble_eq_true rfl, Nat.le_of_ble_eq_true rfl⟩ 1 pw_at1 rfl rfl hl.1 (Nat.le_of_ble_eq_true rfl) dX1_demandsOf_2 ⟨Nat.zero_le _, Nat.zero_le _⟩) (fun rc_2 uc_2 H locs hp_2 Hh => ?_)
  obtain ⟨kc_2, rfl, hp_2⟩ := hp_2
  obtain ⟨hk_2, hu_2⟩ := hp_2
  rw [hu_2] at Hh
  clear hu_2
  have h7 := hok.1 g hg
  refine gw_if_eq (tgt := 17) C dX1_demandsOf_5 (by decide) (by split at hk_2 <;> omega) (fun hc_5 => ?_) (fun hc_5 => ?_)
  · skip
    refine lv_iconst (v := nI 1) C.1 C.2.1 dX1_demandsOf_17 (by decide +kernel) ?_
    exact gw_iret (w := pw G q) (u := u) C Hh dX1_demandsOf_18 ⟨_, rfl, by refine ⟨?_, rfl⟩; unfold gd_dn; split at hk_2 <;> split <;> omega⟩
  · skip
    refine lv_aload_n C.1 C.2.1 dX1_demandsOf_8 rfl (lv_at hl 0 rfl) ?_
    refine gw_get (Cn := RX1) (T := TX1) (N := 5) C Hh 1 pw_at1 rfl uwX1 2 (by decide) rfl tw_100 rfl dX1_demandsOf_9 ?_
    refine lv_iload_n C.1 C.2.1 dX1_demandsOf_12 rfl (lv_at hl 1 rfl) ?_
    refine gw_ld C Hh 7 pw_at7 (by decide) dX1_demandsOf_13 (by omega) ?_
    refine lv_goto (tgt := 18) C.1 C.2.1 dX1_demandsOf_14 (by decide) ?_
    exact gw_iret (w := pw G q) (u := u) C Hh dX1_demandsOf_18 ⟨_, rfl, by refine ⟨?_, rfl⟩; unfold gd_dn; split at hk_2 <;> split <;> omega⟩
set_option maxHeartbeats 4000000 in
set_option maxRecDepth 100000 in
theorem c_X1_demandGood (l : Launch) (G : gw_G) (q : Nat → Nat) (u : pf_S) (g : Nat) (x : Nat) (hok : gd_ok u) (hg : g < 6) (hx : x < 3) : gw_MI l yX1_demandGood cX1_demandGood 3 (some .int) 1 21 [.ref (q 1), .int (nI (g)), .int (nI (x))] G (pw G q) u (fun r u1 => ∃ k : Nat, r = nI k ∧ (k = gd_dg u g x ∧ u1 = u)) := by
  refine gw_entryI (own := RX1) (by decide) rfl (Nat.le_of_ble_eq_true rfl) ?_
  intro p e s m args below meth c A ls C Hh hl
  have hl : lv_has ls 3 [(0, .ref (q 1)), (1, .int (nI (g))), (2, .int (nI (x)))] := hl
  refine lv_aload_n C.1 C.2.1 dX1_demandGood_0 rfl (lv_at hl 0 rfl) ?_
  refine lv_iload_n C.1 C.2.1 dX1_demandGood_1 rfl (lv_at hl 1 rfl) ?_
  refine gw_fromI (w := pw G q) (u := u) C Hh (gw_runV (n := 1) (C1 := RX1) [.int (nI (g))] C Hh (c_X1_isKit l G q (u) (g) (by first | assumption | omega) (by first | assumption | omega) _) tw_259 tw_261 tw_6 tw_67 tw_262 (by decide +kernel) ⟨Nat.le_of_ble_eq_true rfl, Nat.le_of_ble_eq_true rfl⟩ 1 pw_at1 rfl rfl hl.1 (Nat.le_of_ble_eq_true rfl) dX1_demandGood_2 ⟨Nat.zero_le _, Nat.zero_le _⟩) (fun rc_2 uc_2 H locs hp_2 Hh => ?_)
  obtain ⟨kc_2, rfl, hp_2⟩ := hp_2
  obtain ⟨hk_2, hu_2⟩ := hp_2
  rw [hu_2] at Hh
  clear hu_2
  have h7 := hok.1 g hg
  refine gw_if_eq (tgt := 21) C dX1_demandGood_5 (by decide) (by split at hk_2 <;> omega) (fun hc_5 => ?_) (fun hc_5 => ?_)
  · skip
    refine lv_iload_n C.1 C.2.1 dX1_demandGood_21 rfl (lv_at hl 1 rfl) ?_
    exact gw_iret (w := pw G q) (u := u) C Hh dX1_demandGood_22 ⟨_, rfl, by refine ⟨?_, rfl⟩; unfold gd_dg; split at hk_2 <;> split <;> omega⟩
  · skip
    refine lv_aload_n C.1 C.2.1 dX1_demandGood_8 rfl (lv_at hl 0 rfl) ?_
    refine gw_get (Cn := RX1) (T := TX1) (N := 5) C Hh 1 pw_at1 rfl uwX1 3 (by decide) rfl tw_102 rfl dX1_demandGood_9 ?_
    refine lv_iload_n C.1 C.2.1 dX1_demandGood_12 rfl (lv_at hl 1 rfl) ?_
    refine lv_iconst (v := nI 3) C.1 C.2.1 dX1_demandGood_13 (by decide +kernel) ?_
    refine gw_imul C dX1_demandGood_14 ?_
    refine lv_iload_n C.1 C.2.1 dX1_demandGood_15 rfl (lv_at hl 2 rfl) ?_
    refine gw_iadd C dX1_demandGood_16 ?_
    refine gw_ld C Hh 8 pw_at8 (by decide) dX1_demandGood_17 (by omega) ?_
    refine lv_goto (tgt := 22) C.1 C.2.1 dX1_demandGood_18 (by decide) ?_
    exact gw_iret (w := pw G q) (u := u) C Hh dX1_demandGood_22 ⟨_, rfl, by refine ⟨?_, rfl⟩; unfold gd_dg; split at hk_2 <;> split <;> omega⟩
set_option maxHeartbeats 4000000 in
set_option maxRecDepth 100000 in
theorem c_X1_numberForOne (l : Launch) (G : gw_G) (q : Nat → Nat) (u : pf_S) (g : Nat) (x : Nat) (hok : gd_ok u) (hg : g < 6) (hx : x < 3) : gw_MI l yX1_numberForOne cX1_numberForOne 3 (some .int) 1 21 [.ref (q 1), .int (nI (g)), .int (nI (x))] G (pw G q) u (fun r u1 => ∃ k : Nat, r = nI k ∧ (k = gd_d1 u g x ∧ u1 = u)) := by
  refine gw_entryI (own := RX1) (by decide) rfl (Nat.le_of_ble_eq_true rfl) ?_
  intro p e s m args below meth c A ls C Hh hl
  have hl : lv_has ls 3 [(0, .ref (q 1)), (1, .int (nI (g))), (2, .int (nI (x)))] := hl
  refine lv_aload_n C.1 C.2.1 dX1_numberForOne_0 rfl (lv_at hl 0 rfl) ?_
  refine lv_iload_n C.1 C.2.1 dX1_numberForOne_1 rfl (lv_at hl 1 rfl) ?_
  refine gw_fromI (w := pw G q) (u := u) C Hh (gw_runV (n := 1) (C1 := RX1) [.int (nI (g))] C Hh (c_X1_isKit l G q (u) (g) (by first | assumption | omega) (by first | assumption | omega) _) tw_259 tw_261 tw_6 tw_67 tw_262 (by decide +kernel) ⟨Nat.le_of_ble_eq_true rfl, Nat.le_of_ble_eq_true rfl⟩ 1 pw_at1 rfl rfl hl.1 (Nat.le_of_ble_eq_true rfl) dX1_numberForOne_2 ⟨Nat.zero_le _, Nat.zero_le _⟩) (fun rc_2 uc_2 H locs hp_2 Hh => ?_)
  obtain ⟨kc_2, rfl, hp_2⟩ := hp_2
  obtain ⟨hk_2, hu_2⟩ := hp_2
  rw [hu_2] at Hh
  clear hu_2
  have h7 := hok.1 g hg
  refine gw_if_eq (tgt := 21) C dX1_numberForOne_5 (by decide) (by split at hk_2 <;> omega) (fun hc_5 => ?_) (fun hc_5 => ?_)
  · skip
    refine lv_iconst (v := nI 1) C.1 C.2.1 dX1_numberForOne_21 (by decide +kernel) ?_
    exact gw_iret (w := pw G q) (u := u) C Hh dX1_numberForOne_22 ⟨_, rfl, by refine ⟨?_, rfl⟩; unfold gd_d1; split at hk_2 <;> split <;> omega⟩
  · skip
    refine lv_aload_n C.1 C.2.1 dX1_numberForOne_8 rfl (lv_at hl 0 rfl) ?_
    refine gw_get (Cn := RX1) (T := TX1) (N := 5) C Hh 1 pw_at1 rfl uwX1 4 (by decide) rfl tw_103 rfl dX1_numberForOne_9 ?_
    refine lv_iload_n C.1 C.2.1 dX1_numberForOne_12 rfl (lv_at hl 1 rfl) ?_
    refine lv_iconst (v := nI 3) C.1 C.2.1 dX1_numberForOne_13 (by decide +kernel) ?_
    refine gw_imul C dX1_numberForOne_14 ?_
    refine lv_iload_n C.1 C.2.1 dX1_numberForOne_15 rfl (lv_at hl 2 rfl) ?_
    refine gw_iadd C dX1_numberForOne_16 ?_
    refine gw_ld C Hh 9 pw_at9 (by decide) dX1_numberForOne_17 (by omega) ?_
    refine lv_goto (tgt := 22) C.1 C.2.1 dX1_numberForOne_18 (by decide) ?_
    exact gw_iret (w := pw G q) (u := u) C Hh dX1_numberForOne_22 ⟨_, rfl, by refine ⟨?_, rfl⟩; unfold gd_d1; split at hk_2 <;> split <;> omega⟩
