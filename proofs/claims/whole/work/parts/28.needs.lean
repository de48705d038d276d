theorem ex_96_4 : ∀ v ∈ (vx_atS RX4 96 "java/lang/IllegalArgumentException" ["java/lang/RuntimeException", "java/lang/Exception"]).filter goodWord, v ∈ pf_tb := by decide +kernel
theorem ex_96_5 : ∀ v ∈ (vx_atS RX4 96 "java/lang/IllegalArgumentException" ["java/lang/RuntimeException", "java/lang/Exception"]).filter (fun v => !goodWord v), v ∈ pf_more := by decide +kernel
theorem ex_96_6 : ∀ v ∈ Cond.classLink RX4 92 "java/lang/IllegalArgumentException" :: Cond.initialized "java/lang/IllegalArgumentException" :: vx_atS RX4 96 "java/lang/IllegalArgumentException" ["java/lang/RuntimeException", "java/lang/Exception"], vx_ot v = true := by decide +kernel
theorem ex_82_4 : ∀ v ∈ (vx_atS RX4 82 "java/lang/IllegalStateException" ["java/lang/RuntimeException", "java/lang/Exception"]).filter goodWord, v ∈ pf_tb := by decide +kernel
theorem ex_82_5 : ∀ v ∈ (vx_atS RX4 82 "java/lang/IllegalStateException" ["java/lang/RuntimeException", "java/lang/Exception"]).filter (fun v => !goodWord v), v ∈ pf_more := by decide +kernel
theorem ex_82_6 : ∀ v ∈ Cond.classLink RX4 78 "java/lang/IllegalStateException" :: Cond.initialized "java/lang/IllegalStateException" :: vx_atS RX4 82 "java/lang/IllegalStateException" ["java/lang/RuntimeException", "java/lang/Exception"], vx_ot v = true := by decide +kernel
theorem ex_60_4 : ∀ v ∈ (vx_atS RX4 60 "java/lang/UnsupportedOperationException" ["java/lang/RuntimeException", "java/lang/Exception"]).filter goodWord, v ∈ pf_tb := by decide +kernel
theorem ex_60_5 : ∀ v ∈ (vx_atS RX4 60 "java/lang/UnsupportedOperationException" ["java/lang/RuntimeException", "java/lang/Exception"]).filter (fun v => !goodWord v), v ∈ pf_more := by decide +kernel
theorem ex_60_6 : ∀ v ∈ Cond.classLink RX4 56 "java/lang/UnsupportedOperationException" :: Cond.initialized "java/lang/UnsupportedOperationException" :: vx_atS RX4 60 "java/lang/UnsupportedOperationException" ["java/lang/RuntimeException", "java/lang/Exception"], vx_ot v = true := by decide +kernel
theorem ex_224_4 : ∀ v ∈ (nx_at RX4 224 "java/util/NoSuchElementException" "java/lang/RuntimeException" ["java/lang/Exception"] 13 prog_19_method_4_code).filter goodWord, v ∈ pf_tb := by decide +kernel
theorem ex_224_5 : ∀ v ∈ (nx_at RX4 224 "java/util/NoSuchElementException" "java/lang/RuntimeException" ["java/lang/Exception"] 13 prog_19_method_4_code).filter (fun v => !goodWord v), v ∈ pf_more := by decide +kernel
theorem ex_224_6 : ∀ v ∈ Cond.classLink RX4 220 "java/util/NoSuchElementException" :: Cond.initialized "java/util/NoSuchElementException" :: nx_at RX4 224 "java/util/NoSuchElementException" "java/lang/RuntimeException" ["java/lang/Exception"] 13 prog_19_method_4_code, vx_ot v = true := by decide +kernel
theorem ex_172_4 : ∀ v ∈ (vx_atS RX4 172 "java/lang/ArithmeticException" ["java/lang/RuntimeException", "java/lang/Exception"]).filter goodWord, v ∈ pf_tb := by decide +kernel
theorem ex_172_5 : ∀ v ∈ (vx_atS RX4 172 "java/lang/ArithmeticException" ["java/lang/RuntimeException", "java/lang/Exception"]).filter (fun v => !goodWord v), v ∈ pf_more := by decide +kernel
theorem ex_172_6 : ∀ v ∈ Cond.classLink RX4 168 "java/lang/ArithmeticException" :: Cond.initialized "java/lang/ArithmeticException" :: vx_atS RX4 172 "java/lang/ArithmeticException" ["java/lang/RuntimeException", "java/lang/Exception"], vx_ot v = true := by decide +kernel
/-- an int between two numbers -/
def inr (x : Int32) (a b : Nat) : Prop := (a : Int) ≤ x.toInt ∧ x.toInt ≤ b
theorem inr_nI {x : Int32} {a b : Nat} (h : inr x a b) : ∃ j, x = nI j ∧ a ≤ j ∧ j ≤ b := by
  have h0 : ¬ x < 0 := by
    rw [Int32.lt_iff_toInt_lt]
    have := h.1
    show ¬ x.toInt < 0
    omega
  obtain ⟨j, h1, h2⟩ := nI_of h0
  rw [h2] at h
  unfold inr at h
  rw [nI_toInt h1] at h
  exact ⟨j, h2, by omega, by omega⟩
theorem inr_of {j a b : Nat} (hb : b < 2 ^ 31) (h1 : a ≤ j) (h2 : j ≤ b) : inr (nI j) a b := by
  unfold inr
  rw [nI_toInt (by omega)]
  omega
theorem inr_no1 {x : Int32} {a b : Nat} (ha : a < 2 ^ 31) (h : x < nI a) : ¬ inr x a b := by
  rw [Int32.lt_iff_toInt_lt, nI_toInt ha] at h
  unfold inr
  omega
theorem inr_no2 {x : Int32} {a b : Nat} (hb : b < 2 ^ 31) (h : ¬ x ≤ nI b) : ¬ inr x a b := by
  rw [Int32.le_iff_toInt_le, nI_toInt hb] at h
  unfold inr
  omega
theorem inr_yes {x : Int32} {a b : Nat} (ha : a < 2 ^ 31) (hb : b < 2 ^ 31) (h1 : ¬ x < nI a) (h2 : x ≤ nI b) : inr x a b := by
  rw [Int32.lt_iff_toInt_lt, nI_toInt ha] at h1
  rw [Int32.le_iff_toInt_le, nI_toInt hb] at h2
  unfold inr
  omega
set_option maxHeartbeats 4000000 in
set_option maxRecDepth 100000 in
theorem c_X4_needWithin (l : Launch) (G : gw_G) (q : Nat → Nat) (u : pf_S) (x : Int32) (a : Nat) (b : Nat) (hst9 : l.stackTraces = false) (ha : a < 2 ^ 31) (hb : b < 2 ^ 31) : gx_MV l yX4_needWithin cX4_needWithin 3 none 6 82 [.int (x), .int (nI (a)), .int (nI (b))] G (pw G q) u (fun u1 => (∃ j, x = nI j ∧ a ≤ j ∧ j ≤ b) ∧ u1 = u) (fun E u1 => E = "java/lang/IllegalArgumentException" ∧ ¬ inr x a b ∧ u1 = u) := by
  refine gx_entryV (own := RX4) (by decide) rfl (Nat.le_of_ble_eq_true rfl) ?_
  intro p e s m args below meth c A ls C X9 hex9 Hh hl
  have hl : lv_has ls 3 [(0, .int (x)), (1, .int (nI (a))), (2, .int (nI (b)))] := hl
  refine lv_iload_n C.1 C.2.1 dX4_needWithin_0 rfl (lv_at hl 0 rfl) ?_
  refine lv_iload_n C.1 C.2.1 dX4_needWithin_1 rfl (lv_at hl 1 rfl) ?_
  refine lv_icmp_lt (tgt := 10) C.1 C.2.1 dX4_needWithin_2 (by decide) (fun hc_2 => ?_) (fun hc_2 => ?_)
  · skip
    exact gx_throw (w := pw G q) (u := u) (E := "java/lang/IllegalArgumentException") (text := "a number outside its range") (names := ["java/lang/RuntimeException", "java/lang/Exception"]) hst9 C X9 hex9 Hh hl.1 (by decide +kernel) (by decide +kernel) tw_287 tw_75 (by decide) ex_96_4 ex_96_5 ex_96_6 dX4_needWithin_10 dX4_needWithin_13 dX4_needWithin_14 dX4_needWithin_16 dX4_needWithin_19 ⟨Nat.le_of_ble_eq_true rfl, Nat.le_of_ble_eq_true rfl, Nat.le_of_ble_eq_true rfl, Nat.le_of_ble_eq_true rfl⟩ (by first | exact ⟨rfl, inr_no1 ha hc_2, rfl⟩ | exact ⟨rfl, inr_no2 hb hc_7, rfl⟩)
  · skip
    refine lv_iload_n C.1 C.2.1 dX4_needWithin_5 rfl (lv_at hl 0 rfl) ?_
    refine lv_iload_n C.1 C.2.1 dX4_needWithin_6 rfl (lv_at hl 2 rfl) ?_
    refine lv_icmp_le (tgt := 20) C.1 C.2.1 dX4_needWithin_7 (by decide) (fun hc_7 => ?_) (fun hc_7 => ?_)
    · skip
      refine gx_ret ?_
      exact gw_vret (w := pw G q) (u := u) C Hh dX4_needWithin_20 (by exact ⟨inr_nI (inr_yes ha hb hc_2 hc_7), rfl⟩)
    · skip
      exact gx_throw (w := pw G q) (u := u) (E := "java/lang/IllegalArgumentException") (text := "a number outside its range") (names := ["java/lang/RuntimeException", "java/lang/Exception"]) hst9 C X9 hex9 Hh hl.1 (by decide +kernel) (by decide +kernel) tw_287 tw_75 (by decide) ex_96_4 ex_96_5 ex_96_6 dX4_needWithin_10 dX4_needWithin_13 dX4_needWithin_14 dX4_needWithin_16 dX4_needWithin_19 ⟨Nat.le_of_ble_eq_true rfl, Nat.le_of_ble_eq_true rfl, Nat.le_of_ble_eq_true rfl, Nat.le_of_ble_eq_true rfl⟩ (by first | exact ⟨rfl, inr_no1 ha hc_2, rfl⟩ | exact ⟨rfl, inr_no2 hb hc_7, rfl⟩)
set_option maxHeartbeats 4000000 in
set_option maxRecDepth 100000 in
theorem c_X4_needGood (l : Launch) (G : gw_G) (q : Nat → Nat) (u : pf_S) (x : Int32) (hst9 : l.stackTraces = false)  : gx_MV l yX4_needGood cX4_needGood 1 none 7 104 [.int (x)] G (pw G q) u (fun u1 => (∃ j, x = nI j ∧ j < 6) ∧ u1 = u) (fun E u1 => E = "java/lang/IllegalArgumentException" ∧ ¬ inr x 0 5 ∧ u1 = u) := by
  refine gx_entryV (own := RX4) (by decide) rfl (Nat.le_of_ble_eq_true rfl) ?_
  intro p e s m args below meth c A ls C X9 hex9 Hh hl
  have hl : lv_has ls 1 [(0, .int (x))] := hl
  refine lv_iload_n C.1 C.2.1 dX4_needGood_0 rfl (lv_at hl 0 rfl) ?_
  refine lv_iconst (v := nI 0) C.1 C.2.1 dX4_needGood_1 (by decide +kernel) ?_
  refine lv_iconst (v := nI 5) C.1 C.2.1 dX4_needGood_2 (by decide +kernel) ?_
  refine gx_fromV (w := pw G q) (u := u) C hex9 Hh (gx_rS (n := 3) [.int (x), .int (nI (0)), .int (nI (5))] C X9 Hh (c_X4_needWithin l G q (u) (x) (0) (5) hst9 (by decide) (by decide) _) tw_284 tw_285 tw_66 tw_286 (by decide +kernel) ⟨Nat.le_of_ble_eq_true rfl, Nat.le_of_ble_eq_true rfl⟩ rfl hl.1 (Nat.le_of_ble_eq_true rfl) dX4_needGood_3 ⟨Nat.le_of_ble_eq_true rfl, Nat.le_of_ble_eq_true rfl⟩) (fun E u1 hx9 => by exact hx9) (fun uc_3 H locs hp_3 Hh => ?_)
  obtain ⟨hp_3, hu_3⟩ := hp_3
  rw [hu_3] at Hh
  clear hu_3
  refine gx_ret ?_
  exact gw_vret (w := pw G q) (u := u) C Hh dX4_needGood_6 (by obtain ⟨j9, h1, h2, h3⟩ := hp_3; exact ⟨⟨j9, h1, by omega⟩, rfl⟩)
set_option maxHeartbeats 4000000 in
set_option maxRecDepth 100000 in
theorem c_X4_needTime (l : Launch) (G : gw_G) (q : Nat → Nat) (u : pf_S) (x : Int32) (hst9 : l.stackTraces = false)  : gx_MV l yX4_needTime cX4_needTime 1 none 7 104 [.int (x)] G (pw G q) u (fun u1 => (∃ j, x = nI j ∧ j < 100) ∧ u1 = u) (fun E u1 => E = "java/lang/IllegalArgumentException" ∧ ¬ inr x 0 99 ∧ u1 = u) := by
  refine gx_entryV (own := RX4) (by decide) rfl (Nat.le_of_ble_eq_true rfl) ?_
  intro p e s m args below meth c A ls C X9 hex9 Hh hl
  have hl : lv_has ls 1 [(0, .int (x))] := hl
  refine lv_iload_n C.1 C.2.1 dX4_needTime_0 rfl (lv_at hl 0 rfl) ?_
  refine lv_iconst (v := nI 0) C.1 C.2.1 dX4_needTime_1 (by decide +kernel) ?_
  refine lv_bipush (v := nI 99) C.1 C.2.1 dX4_needTime_2 (by decide +kernel) ?_
  refine gx_fromV (w := pw G q) (u := u) C hex9 Hh (gx_rS (n := 3) [.int (x), .int (nI (0)), .int (nI (99))] C X9 Hh (c_X4_needWithin l G q (u) (x) (0) (99) hst9 (by decide) (by decide) _) tw_284 tw_285 tw_66 tw_286 (by decide +kernel) ⟨Nat.le_of_ble_eq_true rfl, Nat.le_of_ble_eq_true rfl⟩ rfl hl.1 (Nat.le_of_ble_eq_true rfl) dX4_needTime_4 ⟨Nat.le_of_ble_eq_true rfl, Nat.le_of_ble_eq_true rfl⟩) (fun E u1 hx9 => by exact hx9) (fun uc_4 H locs hp_4 Hh => ?_)
  obtain ⟨hp_4, hu_4⟩ := hp_4
  rw [hu_4] at Hh
  clear hu_4
  refine gx_ret ?_
  exact gw_vret (w := pw G q) (u := u) C Hh dX4_needTime_7 (by obtain ⟨j9, h1, h2, h3⟩ := hp_4; exact ⟨⟨j9, h1, by omega⟩, rfl⟩)
set_option maxHeartbeats 4000000 in
set_option maxRecDepth 100000 in
theorem c_X4_needNotBelowZero (l : Launch) (G : gw_G) (q : Nat → Nat) (u : pf_S) (x : Int32) (hst9 : l.stackTraces = false)  : gx_MV l yX4_needNotBelowZero cX4_needNotBelowZero 1 none 6 82 [.int (x)] G (pw G q) u (fun u1 => (∃ j, x = nI j ∧ j < 2 ^ 31) ∧ u1 = u) (fun E u1 => E = "java/lang/IllegalArgumentException" ∧ x < 0 ∧ u1 = u) := by
  refine gx_entryV (own := RX4) (by decide) rfl (Nat.le_of_ble_eq_true rfl) ?_
  intro p e s m args below meth c A ls C X9 hex9 Hh hl
  have hl : lv_has ls 1 [(0, .int (x))] := hl
  refine lv_iload_n C.1 C.2.1 dX4_needNotBelowZero_0 rfl (lv_at hl 0 rfl) ?_
  refine lv_if_ge (tgt := 14) C.1 C.2.1 dX4_needNotBelowZero_1 (by decide) (fun hc_1 => ?_) (fun hc_1 => ?_)
  · skip
    refine gx_ret ?_
    exact gw_vret (w := pw G q) (u := u) C Hh dX4_needNotBelowZero_14 (by obtain ⟨j9, h1, h2⟩ := nI_of (Int32.not_lt.mpr hc_1); exact ⟨⟨j9, h2, h1⟩, rfl⟩)
  · skip
    exact gx_throw (w := pw G q) (u := u) (E := "java/lang/IllegalArgumentException") (text := "a place below 0") (names := ["java/lang/RuntimeException", "java/lang/Exception"]) hst9 C X9 hex9 Hh hl.1 (by decide +kernel) (by decide +kernel) tw_287 tw_75 (by decide) ex_96_4 ex_96_5 ex_96_6 dX4_needNotBelowZero_4 dX4_needNotBelowZero_7 dX4_needNotBelowZero_8 dX4_needNotBelowZero_10 dX4_needNotBelowZero_13 ⟨Nat.le_of_ble_eq_true rfl, Nat.le_of_ble_eq_true rfl, Nat.le_of_ble_eq_true rfl, Nat.le_of_ble_eq_true rfl⟩ (by exact ⟨rfl, Int32.not_le.mp hc_1, rfl⟩)
set_option maxHeartbeats 4000000 in
set_option maxRecDepth 100000 in
theorem c_X4_needArrival (l : Launch) (G : gw_G) (q : Nat → Nat) (u : pf_S) (x : Int32) (hst9 : l.stackTraces = false) (hn : u.1 0 ≤ 10) : gx_MV l yX4_needArrival cX4_needArrival 2 none 6 82 [.ref (q 0), .int (x)] G (pw G q) u (fun u1 => (∃ j, x = nI j ∧ j < u.1 0) ∧ u1 = u) (fun E u1 => E = "java/util/NoSuchElementException" ∧ (¬ ∃ j, x = nI j ∧ j < u.1 0) ∧ u1 = u) := by
  refine gx_entryV (own := RX4) (by decide) rfl (Nat.le_of_ble_eq_true rfl) ?_
  intro p e s m args below meth c A ls C X9 hex9 Hh hl
  have hl : lv_has ls 2 [(0, .ref (q 0)), (1, .int (x))] := hl
  refine lv_iload_n C.1 C.2.1 dX4_needArrival_0 rfl (lv_at hl 1 rfl) ?_
  refine lv_if_lt (tgt := 15) C.1 C.2.1 dX4_needArrival_1 (by decide) (fun hc_1 => ?_) (fun hc_1 => ?_)
  · skip
    exact gx_throwN (w := pw G q) (u := u) (E := "java/util/NoSuchElementException") (text := "no such arrival") (Y9 := "java/lang/RuntimeException") (r9 := ["java/lang/Exception"]) (i0 := 13) (bytes := prog_19_method_4_code) hst9 C X9 hex9 Hh hl.1 (by decide +kernel) (by decide +kernel) (by decide +kernel) (by decide +kernel) (by decide +kernel) (by decide +kernel) (by decide +kernel) tw_506 tw_81 (by decide) ex_224_4 ex_224_5 ex_224_6 dX4_needArrival_15 dX4_needArrival_18 dX4_needArrival_19 dX4_needArrival_21 dX4_needArrival_24 ⟨Nat.le_of_ble_eq_true rfl, Nat.le_of_ble_eq_true rfl, Nat.le_of_ble_eq_true rfl, Nat.le_of_ble_eq_true rfl⟩ (by first | exact ⟨rfl, fun ⟨j9, h1, h2⟩ => (nI_pos (n := j9) (by omega)) (by rw [← h1]; exact hc_1), rfl⟩ | exact ⟨rfl, fun ⟨j9, h1, h2⟩ => hc_12 (by rw [h1]; exact nI_lt h2 (by omega)), rfl⟩)
  · skip
    refine lv_iload_n C.1 C.2.1 dX4_needArrival_4 rfl (lv_at hl 1 rfl) ?_
    refine lv_aload_n C.1 C.2.1 dX4_needArrival_5 rfl (lv_at hl 0 rfl) ?_
    refine gw_get (Cn := RX4) (T := TX4) (N := 4) C Hh 0 pw_at0 rfl uwX4 1 (by decide) rfl tw_219 rfl dX4_needArrival_6 ?_
    refine gw_getN (Cn := RX0) (T := TX0) (N := 5) C Hh 2 pw_at2 rfl uwX0 0 (by decide) rfl tw_125 rfl dX4_needArrival_9 ?_
    refine lv_icmp_lt (tgt := 25) C.1 C.2.1 dX4_needArrival_12 (by decide) (fun hc_12 => ?_) (fun hc_12 => ?_)
    · skip
      refine gx_ret ?_
      exact gw_vret (w := pw G q) (u := u) C Hh dX4_needArrival_25 (by obtain ⟨j9, h1, h2⟩ := nI_of hc_1; exact ⟨⟨j9, h2, by rw [h2] at hc_12; exact (nI_ltI h1 (by omega)).mp hc_12⟩, rfl⟩)
    · skip
      exact gx_throwN (w := pw G q) (u := u) (E := "java/util/NoSuchElementException") (text := "no such arrival") (Y9 := "java/lang/RuntimeException") (r9 := ["java/lang/Exception"]) (i0 := 13) (bytes := prog_19_method_4_code) hst9 C X9 hex9 Hh hl.1 (by decide +kernel) (by decide +kernel) (by decide +kernel) (by decide +kernel) (by decide +kernel) (by decide +kernel) (by decide +kernel) tw_506 tw_81 (by decide) ex_224_4 ex_224_5 ex_224_6 dX4_needArrival_15 dX4_needArrival_18 dX4_needArrival_19 dX4_needArrival_21 dX4_needArrival_24 ⟨Nat.le_of_ble_eq_true rfl, Nat.le_of_ble_eq_true rfl, Nat.le_of_ble_eq_true rfl, Nat.le_of_ble_eq_true rfl⟩ (by first | exact ⟨rfl, fun ⟨j9, h1, h2⟩ => (nI_pos (n := j9) (by omega)) (by rw [← h1]; exact hc_1), rfl⟩ | exact ⟨rfl, fun ⟨j9, h1, h2⟩ => hc_12 (by rw [h1]; exact nI_lt h2 (by omega)), rfl⟩)
set_option maxHeartbeats 4000000 in
set_option maxRecDepth 100000 in
theorem c_X4_needOrder (l : Launch) (G : gw_G) (q : Nat → Nat) (u : pf_S) (x : Int32) (hst9 : l.stackTraces = false) (hn : u.1 1 ≤ 10) : gx_MV l yX4_needOrder cX4_needOrder 2 none 6 82 [.ref (q 0), .int (x)] G (pw G q) u (fun u1 => (∃ j, x = nI j ∧ j < u.1 1) ∧ u1 = u) (fun E u1 => E = "java/util/NoSuchElementException" ∧ (¬ ∃ j, x = nI j ∧ j < u.1 1) ∧ u1 = u) := by
  refine gx_entryV (own := RX4) (by decide) rfl (Nat.le_of_ble_eq_true rfl) ?_
  intro p e s m args below meth c A ls C X9 hex9 Hh hl
  have hl : lv_has ls 2 [(0, .ref (q 0)), (1, .int (x))] := hl
  refine lv_iload_n C.1 C.2.1 dX4_needOrder_0 rfl (lv_at hl 1 rfl) ?_
  refine lv_if_lt (tgt := 15) C.1 C.2.1 dX4_needOrder_1 (by decide) (fun hc_1 => ?_) (fun hc_1 => ?_)
  · skip
    exact gx_throwN (w := pw G q) (u := u) (E := "java/util/NoSuchElementException") (text := "no such order") (Y9 := "java/lang/RuntimeException") (r9 := ["java/lang/Exception"]) (i0 := 13) (bytes := prog_19_method_4_code) hst9 C X9 hex9 Hh hl.1 (by decide +kernel) (by decide +kernel) (by decide +kernel) (by decide +kernel) (by decide +kernel) (by decide +kernel) (by decide +kernel) tw_506 tw_81 (by decide) ex_224_4 ex_224_5 ex_224_6 dX4_needOrder_15 dX4_needOrder_18 dX4_needOrder_19 dX4_needOrder_21 dX4_needOrder_24 ⟨Nat.le_of_ble_eq_true rfl, Nat.le_of_ble_eq_true rfl, Nat.le_of_ble_eq_true rfl, Nat.le_of_ble_eq_true rfl⟩ (by first | exact ⟨rfl, fun ⟨j9, h1, h2⟩ => (nI_pos (n := j9) (by omega)) (by rw [← h1]; exact hc_1), rfl⟩ | exact ⟨rfl, fun ⟨j9, h1, h2⟩ => hc_12 (by rw [h1]; exact nI_lt h2 (by omega)), rfl⟩)
  · skip
    refine lv_iload_n C.1 C.2.1 dX4_needOrder_4 rfl (lv_at hl 1 rfl) ?_
    refine lv_aload_n C.1 C.2.1 dX4_needOrder_5 rfl (lv_at hl 0 rfl) ?_
    refine gw_get (Cn := RX4) (T := TX4) (N := 4) C Hh 0 pw_at0 rfl uwX4 2 (by decide) rfl tw_220 rfl dX4_needOrder_6 ?_
    refine gw_getN (Cn := RX2) (T := TX2) (N := 7) C Hh 3 pw_at3 rfl uwX2 0 (by decide) rfl tw_152 rfl dX4_needOrder_9 ?_
    refine lv_icmp_lt (tgt := 25) C.1 C.2.1 dX4_needOrder_12 (by decide) (fun hc_12 => ?_) (fun hc_12 => ?_)
    · skip
      refine gx_ret ?_
      exact gw_vret (w := pw G q) (u := u) C Hh dX4_needOrder_25 (by obtain ⟨j9, h1, h2⟩ := nI_of hc_1; exact ⟨⟨j9, h2, by rw [h2] at hc_12; exact (nI_ltI h1 (by omega)).mp hc_12⟩, rfl⟩)
    · skip
      exact gx_throwN (w := pw G q) (u := u) (E := "java/util/NoSuchElementException") (text := "no such order") (Y9 := "java/lang/RuntimeException") (r9 := ["java/lang/Exception"]) (i0 := 13) (bytes := prog_19_method_4_code) hst9 C X9 hex9 Hh hl.1 (by decide +kernel) (by decide +kernel) (by decide +kernel) (by decide +kernel) (by decide +kernel) (by decide +kernel) (by decide +kernel) tw_506 tw_81 (by decide) ex_224_4 ex_224_5 ex_224_6 dX4_needOrder_15 dX4_needOrder_18 dX4_needOrder_19 dX4_needOrder_21 dX4_needOrder_24 ⟨Nat.le_of_ble_eq_true rfl, Nat.le_of_ble_eq_true rfl, Nat.le_of_ble_eq_true rfl, Nat.le_of_ble_eq_true rfl⟩ (by first | exact ⟨rfl, fun ⟨j9, h1, h2⟩ => (nI_pos (n := j9) (by omega)) (by rw [← h1]; exact hc_1), rfl⟩ | exact ⟨rfl, fun ⟨j9, h1, h2⟩ => hc_12 (by rw [h1]; exact nI_lt h2 (by omega)), rfl⟩)
set_option maxHeartbeats 4000000 in
set_option maxRecDepth 100000 in
theorem c_X4_needNoKit (l : Launch) (G : gw_G) (q : Nat → Nat) (u : pf_S) (g : Nat) (hst9 : l.stackTraces = false) (hok : gd_ok u) (hg : g < 6) : gx_MV l yX4_needNoKit cX4_needNoKit 2 none 6 82 [.ref (q 0), .int (nI (g))] G (pw G q) u (fun u1 => u.2 7 g = 0 ∧ u1 = u) (fun E u1 => E = "java/lang/IllegalStateException" ∧ 0 < u.2 7 g ∧ u1 = u) := by
  refine gx_entryV (own := RX4) (by decide) rfl (Nat.le_of_ble_eq_true rfl) ?_
  intro p e s m args below meth c A ls C X9 hex9 Hh hl
  have hl : lv_has ls 2 [(0, .ref (q 0)), (1, .int (nI (g)))] := hl
  refine lv_aload_n C.1 C.2.1 dX4_needNoKit_0 rfl (lv_at hl 0 rfl) ?_
  refine gw_get (Cn := RX4) (T := TX4) (N := 4) C Hh 0 pw_at0 rfl uwX4 0 (by decide) rfl tw_218 rfl dX4_needNoKit_1 ?_
  refine lv_iload_n C.1 C.2.1 dX4_needNoKit_4 rfl (lv_at hl 1 rfl) ?_
  refine gw_fromI (w := pw G q) (u := u) C Hh (gw_runVN (n := 1) (C1 := RX1) [.int (nI (g))] C Hh (c_X1_isKit l G q (u) (g) (by first | assumption | omega) (by first | assumption | omega) _) tw_365 tw_261 tw_6 tw_67 tw_262 (by decide +kernel) ⟨Nat.le_of_ble_eq_true rfl, Nat.le_of_ble_eq_true rfl⟩ 1 pw_at1 rfl rfl hl.1 (Nat.le_of_ble_eq_true rfl) dX4_needNoKit_5 ⟨Nat.zero_le _, Nat.zero_le _⟩) (fun rc_5 uc_5 H locs hp_5 Hh => ?_)
  obtain ⟨kc_5, rfl, hp_5⟩ := hp_5
  obtain ⟨hk_5, hu_5⟩ := hp_5
  rw [hu_5] at Hh
  clear hu_5
  refine gw_if_eq (tgt := 21) C dX4_needNoKit_8 (by decide) (by split at hk_5 <;> omega) (fun hc_8 => ?_) (fun hc_8 => ?_)
  · skip
    refine gx_ret ?_
    exact gw_vret (w := pw G q) (u := u) C Hh dX4_needNoKit_21 (by exact ⟨by split at hk_5 <;> omega, rfl⟩)
  · skip
    exact gx_throw (w := pw G q) (u := u) (E := "java/lang/IllegalStateException") (text := "it is a kit") (names := ["java/lang/RuntimeException", "java/lang/Exception"]) hst9 C X9 hex9 Hh hl.1 (by decide +kernel) (by decide +kernel) tw_366 tw_76 (by decide) ex_82_4 ex_82_5 ex_82_6 dX4_needNoKit_11 dX4_needNoKit_14 dX4_needNoKit_15 dX4_needNoKit_17 dX4_needNoKit_20 ⟨Nat.le_of_ble_eq_true rfl, Nat.le_of_ble_eq_true rfl, Nat.le_of_ble_eq_true rfl, Nat.le_of_ble_eq_true rfl⟩ (by exact ⟨rfl, by split at hk_5 <;> omega, rfl⟩)
