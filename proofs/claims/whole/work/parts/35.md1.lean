/-! The reference's state, seen as the class's -/
def vw (u : md_S) : pf_S := (fun i => if i = 0 then u.1 1 else if i = 1 then u.1 2 else 0, fun k j => if k = 5 then u.2.1 1 j else if k = 6 then tbit (u.2.1 2 (j % 6)) (j / 6) else if k = 7 then u.2.1 3 j else if k = 8 then u.2.1 4 j else if k = 9 then u.2.1 5 j else if k = 10 then u.2.1 6 j else if k = 11 then u.2.1 7 j else if k = 12 then u.2.1 8 j else if k = 13 then u.2.1 9 j else if k = 14 then u.2.1 10 j else if k = 15 then u.2.1 11 j else if k = 16 then u.2.1 12 j else if k = 17 then u.2.1 13 j else if k = 18 then u.2.1 14 j else 0)
def md_ok (u : md_S) : Prop := (u.1 1 ≤ 10 ∧ u.1 2 ≤ 10) ∧ (∀ g, g < 6 → u.2.1 1 g ≤ 100 ∧ u.2.1 2 g < 64 ∧ u.2.1 3 g ≤ 3) ∧ (∀ j, j < 18 → u.2.1 4 j < 6 ∧ u.2.1 5 j ≤ 100) ∧ (∀ a, a < 10 → u.2.1 6 a < 100 ∧ u.2.1 7 a < 6 ∧ u.2.1 8 a ≤ 1000000 ∧ u.2.1 9 a ≤ u.2.1 8 a) ∧ ∀ o, o < 10 → u.2.1 10 o < 100 ∧ u.2.1 11 o < 6 ∧ u.2.1 12 o ≤ 10000 ∧ u.2.1 13 o ≤ 9 ∧ u.2.1 14 o ≤ 2
theorem md_gd {u : md_S} (h : md_ok u) : gd_ok (vw u) := ⟨fun g hg => (h.2.1 g hg).2.2, fun j _ => tbit_le _ _, fun j hj => (h.2.2.1 j hj).1, fun j hj => (h.2.2.1 j hj).2, fun g hg => (h.2.1 g hg).1⟩
theorem md_ar {u : md_S} (h : md_ok u) : ar_ok (vw u) := ⟨h.1.1, fun a ha => (h.2.2.2.1 a ha).1, fun a ha => (h.2.2.2.1 a ha).2.1, fun a ha => (h.2.2.2.1 a ha).2.2.1, fun a ha => (h.2.2.2.1 a ha).2.2.2⟩
/-- what the reference says of the warehouse is the same -/
def sc (u v : md_S) : Prop := v.1 1 = u.1 1 ∧ v.1 2 = u.1 2 ∧ ∀ k, 1 ≤ k → k ≤ 14 → v.2.1 k = u.2.1 k
theorem sc.rf {u : md_S} : sc u u := ⟨rfl, rfl, fun _ _ _ => rfl⟩
theorem sc.tr {u v w : md_S} (h : sc u v) (g : sc v w) : sc u w := ⟨g.1.trans h.1, g.2.1.trans h.2.1, fun k h1 h2 => (g.2.2 k h1 h2).trans (h.2.2 k h1 h2)⟩
theorem sc_vw {u v : md_S} (h : sc u v) : vw v = vw u := by
  obtain ⟨h1, h2, h3⟩ := h
  unfold vw
  rw [h1, h2, h3 1 (by decide) (by decide), h3 2 (by decide) (by decide), h3 3 (by decide) (by decide), h3 4 (by decide) (by decide), h3 5 (by decide) (by decide), h3 6 (by decide) (by decide), h3 7 (by decide) (by decide), h3 8 (by decide) (by decide), h3 9 (by decide) (by decide), h3 10 (by decide) (by decide), h3 11 (by decide) (by decide), h3 12 (by decide) (by decide), h3 13 (by decide) (by decide), h3 14 (by decide) (by decide)]
theorem sc_ok {u v : md_S} (h : sc u v) (g : md_ok u) : md_ok v := by
  obtain ⟨h1, h2, h3⟩ := h
  unfold md_ok
  rw [h1, h2, h3 1 (by decide) (by decide), h3 2 (by decide) (by decide), h3 3 (by decide) (by decide), h3 4 (by decide) (by decide), h3 5 (by decide) (by decide), h3 6 (by decide) (by decide), h3 7 (by decide) (by decide), h3 8 (by decide) (by decide), h3 9 (by decide) (by decide), h3 10 (by decide) (by decide), h3 11 (by decide) (by decide), h3 12 (by decide) (by decide), h3 13 (by decide) (by decide), h3 14 (by decide) (by decide)]
  exact g
theorem in_ir {x : Int32} {a b : Nat} (ha : a < 2 ^ 31) (hb : b < 2 ^ 31) : (¬ x < nI a ∧ x ≤ nI b) ↔ inr x a b := by
  unfold inr
  rw [Int32.lt_iff_toInt_lt, Int32.le_iff_toInt_le, nI_toInt ha, nI_toInt hb]
  omega
theorem nI_m1 : ∀ n, n < 11 → (nI (n + 4294967296 - 1)).toInt = (n : Int) - 1 := by decide +kernel
theorem in_ix {x : Int32} {n : Nat} (h : n ≤ 10) : (¬ x < nI 0 ∧ x ≤ nI (n + 4294967296 - 1)) ↔ inx x n := by
  unfold inx
  rw [Int32.lt_iff_toInt_lt, Int32.le_iff_toInt_le, nI_m1 n (by omega), nI_toInt (by decide)]
  omega
theorem pif_iff {c d : Prop} {a b : Nat} (h : c ↔ d) : pif c a b = pif d a b := by rw [propext h]
theorem pif_le (c : Prop) : pif c 1 0 ≤ 1 := by
  by_cases h : c
  · rw [pif_pos h]; decide
  · rw [pif_neg h]; decide
theorem pif_1 {c : Prop} (h : 0 < pif c 1 0) : c := Classical.byContradiction fun q => by
  rw [pif_neg q] at h
  cases h
theorem pif_0 {c : Prop} (h : pif c 1 0 = 0) : ¬ c := fun q => by
  rw [pif_pos q] at h
  cases h
set_option maxHeartbeats 4000000 in
set_option maxRecDepth 100000 in
theorem c_X5_thrown (l : Launch) (G : gw_G) (q : Nat → Nat) (u : md_S)   : gw_MI l yX5_thrown cX5_thrown 1 (some .int) 0 0 [.ref (q 0)] G (mw G q) u (fun r u1 => ∃ k : Nat, r = nI k ∧ (k = u.1 0 ∧ u1 = u)) := by
  refine gw_entryI (own := RX5) (by decide) rfl (Nat.le_of_ble_eq_true rfl) ?_
  intro p e s m args below meth c A ls C Hh hl
  have hl : lv_has ls 1 [(0, .ref (q 0))] := hl
  refine lv_aload_n C.1 C.2.1 dX5_thrown_0 rfl (lv_at hl 0 rfl) ?_
  refine gw_get (Cn := RX5) (T := TX5) (N := 29) C Hh 0 mw_at0 rfl uwX5 0 (by decide) rfl tw_723 rfl dX5_thrown_1 ?_
  exact gw_iret (w := mw G q) (u := u) C Hh dX5_thrown_4 ⟨_, rfl, by exact ⟨rfl, rfl⟩⟩
set_option maxHeartbeats 4000000 in
set_option maxRecDepth 100000 in
theorem c_X5_in (l : Launch) (G : gw_G) (q : Nat → Nat) (u : md_S) (x : Int32) (lo : Int32) (hi : Int32)  : gw_MI l yX5_in cX5_in 3 (some .boolean) 0 0 [.int (x), .int (lo), .int (hi)] G (mw G q) u (fun r u1 => ∃ k : Nat, r = nI k ∧ (k = pif (¬ x < lo ∧ x ≤ hi) 1 0 ∧ u1 = u)) := by
  refine gw_entryI (own := RX5) (by decide) rfl (Nat.le_of_ble_eq_true rfl) ?_
  intro p e s m args below meth c A ls C Hh hl
  have hl : lv_has ls 3 [(0, .int (x)), (1, .int (lo)), (2, .int (hi))] := hl
  refine lv_iload_n C.1 C.2.1 dX5_in_0 rfl (lv_at hl 0 rfl) ?_
  refine lv_iload_n C.1 C.2.1 dX5_in_1 rfl (lv_at hl 1 rfl) ?_
  refine lv_icmp_lt (tgt := 14) C.1 C.2.1 dX5_in_2 (by decide) (fun hc_2 => ?_) (fun hc_2 => ?_)
  · skip
    refine lv_iconst (v := nI 0) C.1 C.2.1 dX5_in_14 (by decide +kernel) ?_
    exact gw_zret (w := mw G q) (u := u) C Hh dX5_in_15 (by omega) ⟨_, rfl, by first | exact ⟨(pif_pos ⟨hc_2, Int32.not_lt.mp hc_7⟩).symm, rfl⟩ | exact ⟨(pif_neg (fun (h : ¬ x < lo ∧ x ≤ hi) => Int32.not_lt.mpr h.2 hc_7)).symm, rfl⟩ | exact ⟨(pif_neg (fun (h : ¬ x < lo ∧ x ≤ hi) => h.1 hc_2)).symm, rfl⟩⟩
  · skip
    refine lv_iload_n C.1 C.2.1 dX5_in_5 rfl (lv_at hl 0 rfl) ?_
    refine lv_iload_n C.1 C.2.1 dX5_in_6 rfl (lv_at hl 2 rfl) ?_
    refine lv_icmp_gt (tgt := 14) C.1 C.2.1 dX5_in_7 (by decide) (fun hc_7 => ?_) (fun hc_7 => ?_)
    · skip
      refine lv_iconst (v := nI 0) C.1 C.2.1 dX5_in_14 (by decide +kernel) ?_
      exact gw_zret (w := mw G q) (u := u) C Hh dX5_in_15 (by omega) ⟨_, rfl, by first | exact ⟨(pif_pos ⟨hc_2, Int32.not_lt.mp hc_7⟩).symm, rfl⟩ | exact ⟨(pif_neg (fun (h : ¬ x < lo ∧ x ≤ hi) => Int32.not_lt.mpr h.2 hc_7)).symm, rfl⟩ | exact ⟨(pif_neg (fun (h : ¬ x < lo ∧ x ≤ hi) => h.1 hc_2)).symm, rfl⟩⟩
    · skip
      refine lv_iconst (v := nI 1) C.1 C.2.1 dX5_in_10 (by decide +kernel) ?_
      refine lv_goto (tgt := 15) C.1 C.2.1 dX5_in_11 (by decide) ?_
      exact gw_zret (w := mw G q) (u := u) C Hh dX5_in_15 (by omega) ⟨_, rfl, by first | exact ⟨(pif_pos ⟨hc_2, Int32.not_lt.mp hc_7⟩).symm, rfl⟩ | exact ⟨(pif_neg (fun (h : ¬ x < lo ∧ x ≤ hi) => Int32.not_lt.mpr h.2 hc_7)).symm, rfl⟩ | exact ⟨(pif_neg (fun (h : ¬ x < lo ∧ x ≤ hi) => h.1 hc_2)).symm, rfl⟩⟩
set_option maxHeartbeats 4000000 in
set_option maxRecDepth 100000 in
theorem c_X5_isGood (l : Launch) (G : gw_G) (q : Nat → Nat) (u : md_S) (x : Int32)  : gw_MI l yX5_isGood cX5_isGood 1 (some .boolean) 1 22 [.int (x)] G (mw G q) u (fun r u1 => ∃ k : Nat, r = nI k ∧ (k = pif (inr x 0 5) 1 0 ∧ u1 = u)) := by
  refine gw_entryI (own := RX5) (by decide) rfl (Nat.le_of_ble_eq_true rfl) ?_
  intro p e s m args below meth c A ls C Hh hl
  have hl : lv_has ls 1 [(0, .int (x))] := hl
  refine lv_iload_n C.1 C.2.1 dX5_isGood_0 rfl (lv_at hl 0 rfl) ?_
  refine lv_iconst (v := nI 0) C.1 C.2.1 dX5_isGood_1 (by decide +kernel) ?_
  refine lv_iconst (v := nI 5) C.1 C.2.1 dX5_isGood_2 (by decide +kernel) ?_
  refine gw_fromI (w := mw G q) (u := u) C Hh (gw_runS (n := 3) [.int (x), .int (nI (0)), .int (nI (5))] C Hh (c_X5_in l G q (u) (x) (nI (0)) (nI (5))  _) tw_820 tw_821 tw_71 tw_822 (by decide +kernel) ⟨Nat.le_of_ble_eq_true rfl, Nat.le_of_ble_eq_true rfl⟩ rfl hl.1 (Nat.le_of_ble_eq_true rfl) dX5_isGood_3 ⟨Nat.zero_le _, Nat.zero_le _⟩) (fun rc_3 uc_3 H locs hp_3 Hh => ?_)
  obtain ⟨kc_3, rfl, hp_3⟩ := hp_3
  obtain ⟨hk_3, hu_3⟩ := hp_3
  rw [hu_3] at Hh
  clear hu_3
  exact gw_zret (w := mw G q) (u := u) C Hh dX5_isGood_6 (by rw [hk_3]; exact pif_le _) ⟨_, rfl, by exact ⟨hk_3.trans (pif_iff (in_ir (by decide) (by decide))), rfl⟩⟩
set_option maxHeartbeats 4000000 in
set_option maxRecDepth 100000 in
theorem c_X5_isKit (l : Launch) (G : gw_G) (q : Nat → Nat) (u : md_S) (g : Nat) (hok : md_ok u) (hg : g < 6) : gw_MI l yX5_isKit cX5_isKit 2 (some .boolean) 0 0 [.ref (q 0), .int (nI (g))] G (mw G q) u (fun r u1 => ∃ k : Nat, r = nI k ∧ (k = (if 0 < u.2.1 3 g then 1 else 0) ∧ u1 = u)) := by
  refine gw_entryI (own := RX5) (by decide) rfl (Nat.le_of_ble_eq_true rfl) ?_
  intro p e s m args below meth c A ls C Hh hl
  have hl : lv_has ls 2 [(0, .ref (q 0)), (1, .int (nI (g)))] := hl
  have h3 := (hok.2.1 g hg).2.2
  refine lv_aload_n C.1 C.2.1 dX5_isKit_0 rfl (lv_at hl 0 rfl) ?_
  refine gw_get (Cn := RX5) (T := TX5) (N := 29) C Hh 0 mw_at0 rfl uwX5 3 (by decide) rfl tw_726 rfl dX5_isKit_1 ?_
  refine lv_iload_n C.1 C.2.1 dX5_isKit_4 rfl (lv_at hl 1 rfl) ?_
  refine gw_ld C Hh 3 mw_at3 (by decide) dX5_isKit_5 (by omega) ?_
  refine gw_if_le (tgt := 13) C dX5_isKit_6 (by decide) (by omega) (fun hc_6 => ?_) (fun hc_6 => ?_)
  · skip
    refine lv_iconst (v := nI 0) C.1 C.2.1 dX5_isKit_13 (by decide +kernel) ?_
    exact gw_zret (w := mw G q) (u := u) C Hh dX5_isKit_14 (by omega) ⟨_, rfl, by first | exact ⟨(if_pos (by omega)).symm, rfl⟩ | exact ⟨(if_neg (by omega)).symm, rfl⟩⟩
  · skip
    refine lv_iconst (v := nI 1) C.1 C.2.1 dX5_isKit_9 (by decide +kernel) ?_
    refine lv_goto (tgt := 14) C.1 C.2.1 dX5_isKit_10 (by decide) ?_
    exact gw_zret (w := mw G q) (u := u) C Hh dX5_isKit_14 (by omega) ⟨_, rfl, by first | exact ⟨(if_pos (by omega)).symm, rfl⟩ | exact ⟨(if_neg (by omega)).symm, rfl⟩⟩
set_option maxHeartbeats 4000000 in
set_option maxRecDepth 100000 in
theorem c_X5_isArrival (l : Launch) (G : gw_G) (q : Nat → Nat) (u : md_S) (x : Int32) (hn : u.1 1 ≤ 10) : gw_MI l yX5_isArrival cX5_isArrival 2 (some .boolean) 1 22 [.ref (q 0), .int (x)] G (mw G q) u (fun r u1 => ∃ k : Nat, r = nI k ∧ (k = pif (inx x (u.1 1)) 1 0 ∧ u1 = u)) := by
  refine gw_entryI (own := RX5) (by decide) rfl (Nat.le_of_ble_eq_true rfl) ?_
  intro p e s m args below meth c A ls C Hh hl
  have hl : lv_has ls 2 [(0, .ref (q 0)), (1, .int (x))] := hl
  refine lv_iload_n C.1 C.2.1 dX5_isArrival_0 rfl (lv_at hl 1 rfl) ?_
  refine lv_iconst (v := nI 0) C.1 C.2.1 dX5_isArrival_1 (by decide +kernel) ?_
  refine lv_aload_n C.1 C.2.1 dX5_isArrival_2 rfl (lv_at hl 0 rfl) ?_
  refine gw_get (Cn := RX5) (T := TX5) (N := 29) C Hh 0 mw_at0 rfl uwX5 6 (by decide) rfl tw_729 rfl dX5_isArrival_3 ?_
  refine lv_iconst (v := nI 1) C.1 C.2.1 dX5_isArrival_6 (by decide +kernel) ?_
  refine gw_isubN C dX5_isArrival_7 (by omega) ?_
  refine gw_fromI (w := mw G q) (u := u) C Hh (gw_runS (n := 3) [.int (x), .int (nI (0)), .int (nI (u.1 1 + 4294967296 - 1))] C Hh (c_X5_in l G q (u) (x) (nI (0)) (nI (u.1 1 + 4294967296 - 1))  _) tw_820 tw_821 tw_71 tw_822 (by decide +kernel) ⟨Nat.le_of_ble_eq_true rfl, Nat.le_of_ble_eq_true rfl⟩ rfl hl.1 (Nat.le_of_ble_eq_true rfl) dX5_isArrival_8 ⟨Nat.zero_le _, Nat.zero_le _⟩) (fun rc_8 uc_8 H locs hp_8 Hh => ?_)
  obtain ⟨kc_8, rfl, hp_8⟩ := hp_8
  obtain ⟨hk_8, hu_8⟩ := hp_8
  rw [hu_8] at Hh
  clear hu_8
  exact gw_zret (w := mw G q) (u := u) C Hh dX5_isArrival_11 (by rw [hk_8]; exact pif_le _) ⟨_, rfl, by exact ⟨hk_8.trans (pif_iff (in_ix hn)), rfl⟩⟩
set_option maxHeartbeats 4000000 in
set_option maxRecDepth 100000 in
theorem c_X5_isOrder (l : Launch) (G : gw_G) (q : Nat → Nat) (u : md_S) (x : Int32) (hn : u.1 2 ≤ 10) : gw_MI l yX5_isOrder cX5_isOrder 2 (some .boolean) 1 22 [.ref (q 0), .int (x)] G (mw G q) u (fun r u1 => ∃ k : Nat, r = nI k ∧ (k = pif (inx x (u.1 2)) 1 0 ∧ u1 = u)) := by
  refine gw_entryI (own := RX5) (by decide) rfl (Nat.le_of_ble_eq_true rfl) ?_
  intro p e s m args below meth c A ls C Hh hl
  have hl : lv_has ls 2 [(0, .ref (q 0)), (1, .int (x))] := hl
  refine lv_iload_n C.1 C.2.1 dX5_isOrder_0 rfl (lv_at hl 1 rfl) ?_
  refine lv_iconst (v := nI 0) C.1 C.2.1 dX5_isOrder_1 (by decide +kernel) ?_
  refine lv_aload_n C.1 C.2.1 dX5_isOrder_2 rfl (lv_at hl 0 rfl) ?_
  refine gw_get (Cn := RX5) (T := TX5) (N := 29) C Hh 0 mw_at0 rfl uwX5 11 (by decide) rfl tw_734 rfl dX5_isOrder_3 ?_
  refine lv_iconst (v := nI 1) C.1 C.2.1 dX5_isOrder_6 (by decide +kernel) ?_
  refine gw_isubN C dX5_isOrder_7 (by omega) ?_
  refine gw_fromI (w := mw G q) (u := u) C Hh (gw_runS (n := 3) [.int (x), .int (nI (0)), .int (nI (u.1 2 + 4294967296 - 1))] C Hh (c_X5_in l G q (u) (x) (nI (0)) (nI (u.1 2 + 4294967296 - 1))  _) tw_820 tw_821 tw_71 tw_822 (by decide +kernel) ⟨Nat.le_of_ble_eq_true rfl, Nat.le_of_ble_eq_true rfl⟩ rfl hl.1 (Nat.le_of_ble_eq_true rfl) dX5_isOrder_8 ⟨Nat.zero_le _, Nat.zero_le _⟩) (fun rc_8 uc_8 H locs hp_8 Hh => ?_)
  obtain ⟨kc_8, rfl, hp_8⟩ := hp_8
  obtain ⟨hk_8, hu_8⟩ := hp_8
  rw [hu_8] at Hh
  clear hu_8
  exact gw_zret (w := mw G q) (u := u) C Hh dX5_isOrder_11 (by rw [hk_8]; exact pif_le _) ⟨_, rfl, by exact ⟨hk_8.trans (pif_iff (in_ix hn)), rfl⟩⟩
def ip (u : md_S) (x k i : Nat) : Prop := ∃ g, (g < k ∧ ∃ j, j < u.2.1 3 g ∧ u.2.1 4 (3 * g + j) = x) ∨ (g = k ∧ ∃ j, j < i ∧ u.2.1 4 (3 * g + j) = x)
theorem ip_s {u : md_S} {x k i : Nat} : ip u x k (i + 1) ↔ (ip u x k i ∨ u.2.1 4 (3 * k + i) = x) := by
  constructor
  · rintro ⟨g, h | ⟨h1, j, h2, h3⟩⟩
    · exact Or.inl ⟨g, Or.inl h⟩
    · by_cases q : j = i
      · subst q; subst h1; exact Or.inr h3
      · exact Or.inl ⟨g, Or.inr ⟨h1, j, by omega, h3⟩⟩
  · rintro (⟨g, h | ⟨h1, j, h2, h3⟩⟩ | h)
    · exact ⟨g, Or.inl h⟩
    · exact ⟨g, Or.inr ⟨h1, j, by omega, h3⟩⟩
    · exact ⟨k, Or.inr ⟨rfl, i, by omega, h⟩⟩
theorem ip_n {u : md_S} {x k i : Nat} (hi : i = u.2.1 3 k) : ip u x (k + 1) 0 ↔ ip u x k i := by
  subst hi
  constructor
  · rintro ⟨g, ⟨h1, h2⟩ | ⟨h1, j, h2, h3⟩⟩
    · by_cases q : g = k
      · subst q; exact ⟨g, Or.inr ⟨rfl, h2⟩⟩
      · exact ⟨g, Or.inl ⟨by omega, h2⟩⟩
    · omega
  · rintro ⟨g, ⟨h1, h2⟩ | ⟨h1, h2⟩⟩
    · exact ⟨g, Or.inl ⟨by omega, h2⟩⟩
    · subst h1; exact ⟨g, Or.inl ⟨by omega, h2⟩⟩
theorem ip_0 {u : md_S} {x : Nat} : ¬ ip u x 0 0 := by
  rintro ⟨g, ⟨h1, -⟩ | ⟨-, j, h2, -⟩⟩ <;> omega
theorem ip_e {u : md_S} {x : Nat} : ip u x 6 0 ↔ ∃ g, g < 6 ∧ ∃ j, j < u.2.1 3 g ∧ u.2.1 4 (3 * g + j) = x := by
  constructor
  · rintro ⟨g, h | ⟨-, j, h2, -⟩⟩
    · exact ⟨g, h⟩
    · omega
  · rintro ⟨g, h⟩
    exact ⟨g, Or.inl h⟩
set_option maxHeartbeats 4000000 in
set_option maxRecDepth 100000 in
theorem c_X5_isPart (l : Launch) (G : gw_G) (q : Nat → Nat) (u : md_S) (x : Nat) (hok : md_ok u) (hx : x < 6) : gw_MI l yX5_isPart cX5_isPart 5 (some .boolean) 0 0 [.ref (q 0), .int (nI (x))] G (mw G q) u (fun r u1 => ∃ k : Nat, r = nI k ∧ (k = pif (∃ g, g < 6 ∧ ∃ j, j < u.2.1 3 g ∧ u.2.1 4 (3 * g + j) = x) 1 0 ∧ u1 = u)) := by
  refine gw_entryI (own := RX5) (by decide) rfl (Nat.le_of_ble_eq_true rfl) ?_
  intro p e s m args below meth c A ls C Hh hl
  have hl : lv_has ls 5 [(0, .ref (q 0)), (1, .int (nI (x)))] := hl
  refine lv_iconst (v := nI 0) C.1 C.2.1 dX5_isPart_0 (by decide +kernel) ?_
  refine lv_istore_n (lv' := [(2, .int (nI (0))), (0, .ref (q 0)), (1, .int (nI (x)))]) C.1 C.2.1 dX5_isPart_1 rfl hl (by decide) rfl (fun ls hl => ?_)
  refine lv_iconst (v := nI 0) C.1 C.2.1 dX5_isPart_2 (by decide +kernel) ?_
  refine lv_istore_n (lv' := [(3, .int (nI (0))), (2, .int (nI (0))), (0, .ref (q 0)), (1, .int (nI (x)))]) C.1 C.2.1 dX5_isPart_3 rfl hl (by decide) rfl (fun ls hl => ?_)
  have loop_4 : ∀ (fu : Nat) (b : Nat) (g : Nat) (H : Heap) (locs : List Loc) (ls : Array Slot), (g ≤ 6) → (b = pif (ip u x g 0) 1 0) → 6 - g < fu → gw_H G A s (mw G q u) H locs → lv_has ls 5 [(0, .ref (q 0)), (1, .int (nI (x))), (2, .int (nI (b))), (3, .int (nI (g)))] → W p l e (gw_rm 0 0) s m args below meth c H locs 0 0 (MQ below (va_Qi (fun r u1 => ∃ k : Nat, r = nI k ∧ (k = pif (∃ g, g < 6 ∧ ∃ j, j < u.2.1 3 g ∧ u.2.1 4 (3 * g + j) = x) 1 0 ∧ u1 = u)) (gw_at G A (mw G q)) A) args s 0 0 A) (F0 m 4 ls []) := by
    intro fu
    induction fu with
    | zero =>
      intro b g  H locs ls hg hb hmf
      exact absurd hmf (Nat.not_lt_zero _)
    | succ fu ih_4 =>
      intro b g  H locs ls hg hb hmf Hh hl
      refine lv_iload_n C.1 C.2.1 dX5_isPart_4 rfl (lv_at hl 3 rfl) ?_
      refine lv_bipush (v := nI 6) C.1 C.2.1 dX5_isPart_5 (by decide +kernel) ?_
      refine gw_icmp_ge (tgt := 61) C dX5_isPart_7 (by decide) (by omega) (by omega) (fun hc_7 => ?_) (fun hc_7 => ?_)
      · skip
        refine lv_iload_n C.1 C.2.1 dX5_isPart_61 rfl (lv_at hl 2 rfl) ?_
        exact gw_zret (w := mw G q) (u := u) C Hh dX5_isPart_62 (by rw [hb]; exact pif_le _) ⟨_, rfl, by have h9 : g = 6 := (by omega); subst h9; exact ⟨hb.trans (pif_iff ip_e), rfl⟩⟩
      · skip
        refine lv_iconst (v := nI 0) C.1 C.2.1 dX5_isPart_10 (by decide +kernel) ?_
        refine lv_istore (lv' := [(4, .int (nI (0))), (0, .ref (q 0)), (1, .int (nI (x))), (2, .int (nI (b))), (3, .int (nI (g)))]) C.1 C.2.1 dX5_isPart_11 hl (by decide) rfl (fun ls hl => ?_)
        have loop_13 : ∀ (fu : Nat) (b2 : Nat) (i : Nat) (H : Heap) (locs : List Loc) (ls : Array Slot), (i ≤ u.2.1 3 g) → (b2 = pif (ip u x g i) 1 0) → u.2.1 3 g - i < fu → gw_H G A s (mw G q u) H locs → lv_has ls 5 [(0, .ref (q 0)), (1, .int (nI (x))), (2, .int (nI (b2))), (3, .int (nI (g))), (4, .int (nI (i)))] → W p l e (gw_rm 0 0) s m args below meth c H locs 0 0 (MQ below (va_Qi (fun r u1 => ∃ k : Nat, r = nI k ∧ (k = pif (∃ g, g < 6 ∧ ∃ j, j < u.2.1 3 g ∧ u.2.1 4 (3 * g + j) = x) 1 0 ∧ u1 = u)) (gw_at G A (mw G q)) A) args s 0 0 A) (F0 m 13 ls []) := by
          intro fu
          induction fu with
          | zero =>
            intro b2 i  H locs ls hi hb2 hmf
            exact absurd hmf (Nat.not_lt_zero _)
          | succ fu ih_13 =>
            intro b2 i  H locs ls hi hb2 hmf Hh hl
            have hb9 : b2 ≤ 1 := by (rw [hb2]; exact pif_le _)
            have h3 := (hok.2.1 g (by omega)).2.2
            refine lv_iload C.1 C.2.1 dX5_isPart_13 (lv_at hl 4 rfl) ?_
            refine lv_aload_n C.1 C.2.1 dX5_isPart_15 rfl (lv_at hl 0 rfl) ?_
            refine gw_get (Cn := RX5) (T := TX5) (N := 29) C Hh 0 mw_at0 rfl uwX5 3 (by decide) rfl tw_726 rfl dX5_isPart_16 ?_
            refine lv_iload_n C.1 C.2.1 dX5_isPart_19 rfl (lv_at hl 3 rfl) ?_
            refine gw_ld C Hh 3 mw_at3 (by decide) dX5_isPart_20 (by omega) ?_
            refine gw_icmp_ge (tgt := 55) C dX5_isPart_21 (by decide) (by omega) (by omega) (fun hc_21 => ?_) (fun hc_21 => ?_)
            · skip
              refine lv_iinc (v := nI (g + 1)) (lv' := [(3, .int (nI (g + 1))), (0, .ref (q 0)), (1, .int (nI (x))), (2, .int (nI (b2))), (4, .int (nI (i)))]) C.1 C.2.1 dX5_isPart_55 hl (k := 3) rfl (nI_add _ 1) (by decide) rfl (fun ls hl => ?_)
              refine lv_goto (tgt := 4) C.1 C.2.1 dX5_isPart_58 (by decide) ?_
              exact ih_4 (b2) (g + 1)  _ _ _ (by omega) (by rw [hb2]; exact pif_iff (ip_n (by omega)).symm) (by omega) Hh (lv_sub hl [1, 2, 3, 0] rfl)
            · skip
              have join_48 : ∀ (b3 : Nat) (H : Heap) (locs : List Loc) (ls : Array Slot), (b3 = pif (ip u x g (i + 1)) 1 0) → gw_H G A s (mw G q u) H locs → lv_has ls 5 [(0, .ref (q 0)), (1, .int (nI (x))), (3, .int (nI (g))), (4, .int (nI (i)))] → W p l e (gw_rm 0 0) s m args below meth c H locs 0 0 (MQ below (va_Qi (fun r u1 => ∃ k : Nat, r = nI k ∧ (k = pif (∃ g, g < 6 ∧ ∃ j, j < u.2.1 3 g ∧ u.2.1 4 (3 * g + j) = x) 1 0 ∧ u1 = u)) (gw_at G A (mw G q)) A) args s 0 0 A) (F0 m 48 ls [.int (nI (b3))]) := by
                intro b3  H locs ls hb3 Hh hl
                refine lv_istore_n (lv' := [(2, .int (nI (b3))), (0, .ref (q 0)), (1, .int (nI (x))), (3, .int (nI (g))), (4, .int (nI (i)))]) C.1 C.2.1 dX5_isPart_48 rfl hl (by decide) rfl (fun ls hl => ?_)
                refine lv_iinc (v := nI (i + 1)) (lv' := [(4, .int (nI (i + 1))), (2, .int (nI (b3))), (0, .ref (q 0)), (1, .int (nI (x))), (3, .int (nI (g)))]) C.1 C.2.1 dX5_isPart_49 hl (k := 4) rfl (nI_add _ 1) (by decide) rfl (fun ls hl => ?_)
                refine lv_goto (tgt := 13) C.1 C.2.1 dX5_isPart_52 (by decide) ?_
                exact ih_13 (b3) (i + 1)  _ _ _ (by omega) (by exact hb3) (by omega) Hh (lv_sub hl [2, 3, 1, 4, 0] rfl)
              have h4 := (hok.2.2.1 (3 * g + i) (by omega)).1
              refine lv_iload_n C.1 C.2.1 dX5_isPart_24 rfl (lv_at hl 2 rfl) ?_
              refine gw_if_ne (tgt := 43) C dX5_isPart_25 (by decide) (by omega) (fun hc_25 => ?_) (fun hc_25 => ?_)
              · skip
                refine lv_iconst (v := nI 1) C.1 C.2.1 dX5_isPart_43 (by decide +kernel) ?_
                refine lv_goto (tgt := 48) C.1 C.2.1 dX5_isPart_44 (by decide) ?_
                exact join_48 (1)  _ _ _ (by first | exact (pif_pos (ip_s.mpr (Or.inl (pif_1 (by omega))))).symm | exact (pif_pos (ip_s.mpr (Or.inr (by omega)))).symm) Hh (lv_sub hl [0, 1, 3, 4] rfl)
              · skip
                refine lv_aload_n C.1 C.2.1 dX5_isPart_28 rfl (lv_at hl 0 rfl) ?_
                refine gw_get (Cn := RX5) (T := TX5) (N := 29) C Hh 0 mw_at0 rfl uwX5 4 (by decide) rfl tw_727 rfl dX5_isPart_29 ?_
                refine lv_iconst (v := nI 3) C.1 C.2.1 dX5_isPart_32 (by decide +kernel) ?_
                refine lv_iload_n C.1 C.2.1 dX5_isPart_33 rfl (lv_at hl 3 rfl) ?_
                refine gw_imul C dX5_isPart_34 ?_
                refine lv_iload C.1 C.2.1 dX5_isPart_35 (lv_at hl 4 rfl) ?_
                refine gw_iadd C dX5_isPart_37 ?_
                refine gw_ld C Hh 4 mw_at4 (by decide) dX5_isPart_38 (by omega) ?_
                refine lv_iload_n C.1 C.2.1 dX5_isPart_39 rfl (lv_at hl 1 rfl) ?_
                refine gw_icmp_ne (tgt := 47) C dX5_isPart_40 (by decide) (by omega) (by omega) (fun hc_40 => ?_) (fun hc_40 => ?_)
                · skip
                  refine lv_iconst (v := nI 0) C.1 C.2.1 dX5_isPart_47 (by decide +kernel) ?_
                  exact join_48 (0)  _ _ _ (by exact (pif_neg (fun h => (ip_s.mp h).elim (pif_0 (by omega)) (by omega))).symm) Hh (lv_sub hl [0, 1, 3, 4] rfl)
                · skip
                  refine lv_iconst (v := nI 1) C.1 C.2.1 dX5_isPart_43 (by decide +kernel) ?_
                  refine lv_goto (tgt := 48) C.1 C.2.1 dX5_isPart_44 (by decide) ?_
                  exact join_48 (1)  _ _ _ (by first | exact (pif_pos (ip_s.mpr (Or.inl (pif_1 (by omega))))).symm | exact (pif_pos (ip_s.mpr (Or.inr (by omega)))).symm) Hh (lv_sub hl [0, 1, 3, 4] rfl)
        exact loop_13 _ (b) (0)  _ _ _ (by omega) (by exact hb) (Nat.lt_succ_self _) Hh (lv_sub hl [1, 2, 3, 4, 0] rfl)
  exact loop_4 _ (0) (0)  _ _ _ (by omega) (by exact (pif_neg ip_0).symm) (Nat.lt_succ_self _) Hh (lv_sub hl [2, 3, 1, 0] rfl)
