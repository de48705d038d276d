set_option maxHeartbeats 4000000 in
set_option maxRecDepth 100000 in
theorem c_X5_promise (l : Launch) (G : gw_G) (q : Nat → Nat) (u : md_S) (x : Int32) (y : Int32) (hm : md2 u) (hmet : ∀ S, S < 1 <<< u.1 1 → 0 ≤ slk (vw u) S) (hpos : ∀ g, g < 6 → 0 < fl_sum (gd_d1 (vw u) g) (gd_dn (vw u) g)) : gw_MI l yX5_promise cX5_promise 3 (some .int) 5 125 [.ref (q 0), .int (x), .int (y)] G (mw G q) u (fun r u1 => ∃ k : Nat, r = nI k ∧ (rp (cdP x y) u u1 (sc u u1 ∧ md_bd u1 ∧ gr_post (vw u) (tn x) (tn y) k))) := by
  refine gw_entryI (own := RX5) (by decide) rfl (Nat.le_of_ble_eq_true rfl) ?_
  intro p e s m args below meth c A ls C Hh hl
  have hl : lv_has ls 3 [(0, .ref (q 0)), (1, .int (x)), (2, .int (y))] := hl
  have hok := hm.1
  have hbd := hm.2
  have h01 := hok.1.1
  have h02 := hok.1.2
  have hsU : sc u (up1 u.1 0 0, u.2) := ⟨rfl, rfl, fun _ _ _ => rfl⟩
  have hbU : md_bd (up1 u.1 0 0, u.2) := bd_code hbd rfl rfl
  refine lv_aload_n C.1 C.2.1 dX5_promise_0 rfl (lv_at hl 0 rfl) ?_
  refine lv_iload_n C.1 C.2.1 dX5_promise_1 rfl (lv_at hl 1 rfl) ?_
  refine gw_fromI (w := mw G q) (u := u) C Hh (gw_runS (n := 1) [.int (x)] C Hh (c_X5_isGood l G q (u) (x)  _) tw_823 tw_824 tw_71 tw_825 (by decide +kernel) ⟨Nat.le_of_ble_eq_true rfl, Nat.le_of_ble_eq_true rfl⟩ rfl hl.1 (Nat.le_of_ble_eq_true rfl) dX5_promise_2 ⟨Nat.zero_le _, Nat.zero_le _⟩) (fun rc_2 uc_2 H locs hp_2 Hh => ?_)
  obtain ⟨kc_2, rfl, hp_2⟩ := hp_2
  obtain ⟨hk_2, hu_2⟩ := hp_2
  rw [hu_2] at Hh
  clear hu_2
  refine gw_if_eq (tgt := 22) C dX5_promise_5 (by decide) (by rw [hk_2]; exact Nat.lt_of_le_of_lt (pif_le _) (by decide)) (fun hc_5 => ?_) (fun hc_5 => ?_)
  · skip
    refine lv_iconst (v := nI 1) C.1 C.2.1 dX5_promise_22 (by decide +kernel) ?_
    refine gw_put (Cn := RX5) (T := TX5) (N := 29) (ty0 := tyX5) (v := nI (1)) C Hh 0 mw_at0 rfl uwX5 tyX5_ok nmX5 0 (by decide) rfl tw_723 rfl (by decide +kernel) (Nat.le_of_ble_eq_true rfl) mw_num0 dX5_promise_23 (fun H locs Hh => ?_)
    refine lv_aload_n C.1 C.2.1 dX5_promise_26 rfl (lv_at hl 0 rfl) ?_
    refine gw_get (Cn := RX5) (T := TX5) (N := 29) C Hh 0 mw_at0 rfl uwX5 0 (by decide) rfl tw_723 rfl dX5_promise_27 ?_
    refine W.eq (g2 := F0 m 30 ls [.int (nI (1))]) rfl ?_
    refine gw_if_le (tgt := 37) C dX5_promise_30 (by decide) (by omega) (fun hc_30 => ?_) (fun hc_30 => ?_)
    · skip
      exact absurd hc_30 (by decide)
    · skip
      refine lv_iconst (v := nI 0) C.1 C.2.1 dX5_promise_33 (by decide +kernel) ?_
      refine lv_goto (tgt := 43) C.1 C.2.1 dX5_promise_34 (by decide) ?_
      exact gw_iret (w := mw G q) (u := (up1 u.1 0 (1), u.2.1, u.2.2)) C Hh dX5_promise_43 ⟨_, rfl, by first | (refine rp_y (cdP_v hx_g (by omega) hx_t (by omega)) hp_40.1.2 ⟨hsU.tr hp_40.1.1, hp_40.2.1, ?_⟩; rw [tn_eq hx_g (by omega), tn_eq hx_t (by omega)]; exact hp_40.2.2) | exact rp_n (cdP_1 (fun h => pif_0 (by rw [← hi_12]; exact hc_15) h.2)) (by decide) rfl | exact rp_n (cdP_1 (fun h => pif_0 (by rw [← hk_2]; exact hc_5) h.1)) (by decide) rfl⟩
  · skip
    refine lv_iload_n C.1 C.2.1 dX5_promise_8 rfl (lv_at hl 2 rfl) ?_
    refine lv_iconst (v := nI 0) C.1 C.2.1 dX5_promise_9 (by decide +kernel) ?_
    refine lv_bipush (v := nI 99) C.1 C.2.1 dX5_promise_10 (by decide +kernel) ?_
    refine gw_fromI (w := mw G q) (u := u) C Hh (gw_runS (n := 3) [.int (y), .int (nI (0)), .int (nI (99))] C Hh (c_X5_in l G q (u) (y) (nI (0)) (nI (99))  _) tw_820 tw_821 tw_71 tw_822 (by decide +kernel) ⟨Nat.le_of_ble_eq_true rfl, Nat.le_of_ble_eq_true rfl⟩ rfl hl.1 (Nat.le_of_ble_eq_true rfl) dX5_promise_12 ⟨Nat.zero_le _, Nat.zero_le _⟩) (fun rc_12 uc_12 H locs hp_12 Hh => ?_)
    obtain ⟨kc_12, rfl, hp_12⟩ := hp_12
    obtain ⟨hk_12, hu_12⟩ := hp_12
    rw [hu_12] at Hh
    clear hu_12
    have hi_12 := ir_m (by decide) (by decide) hk_12
    refine gw_if_eq (tgt := 22) C dX5_promise_15 (by decide) (by rw [hi_12]; exact Nat.lt_of_le_of_lt (pif_le _) (by decide)) (fun hc_15 => ?_) (fun hc_15 => ?_)
    · skip
      refine lv_iconst (v := nI 1) C.1 C.2.1 dX5_promise_22 (by decide +kernel) ?_
      refine gw_put (Cn := RX5) (T := TX5) (N := 29) (ty0 := tyX5) (v := nI (1)) C Hh 0 mw_at0 rfl uwX5 tyX5_ok nmX5 0 (by decide) rfl tw_723 rfl (by decide +kernel) (Nat.le_of_ble_eq_true rfl) mw_num0 dX5_promise_23 (fun H locs Hh => ?_)
      refine lv_aload_n C.1 C.2.1 dX5_promise_26 rfl (lv_at hl 0 rfl) ?_
      refine gw_get (Cn := RX5) (T := TX5) (N := 29) C Hh 0 mw_at0 rfl uwX5 0 (by decide) rfl tw_723 rfl dX5_promise_27 ?_
      refine W.eq (g2 := F0 m 30 ls [.int (nI (1))]) rfl ?_
      refine gw_if_le (tgt := 37) C dX5_promise_30 (by decide) (by omega) (fun hc_30 => ?_) (fun hc_30 => ?_)
      · skip
        exact absurd hc_30 (by decide)
      · skip
        refine lv_iconst (v := nI 0) C.1 C.2.1 dX5_promise_33 (by decide +kernel) ?_
        refine lv_goto (tgt := 43) C.1 C.2.1 dX5_promise_34 (by decide) ?_
        exact gw_iret (w := mw G q) (u := (up1 u.1 0 (1), u.2.1, u.2.2)) C Hh dX5_promise_43 ⟨_, rfl, by first | (refine rp_y (cdP_v hx_g (by omega) hx_t (by omega)) hp_40.1.2 ⟨hsU.tr hp_40.1.1, hp_40.2.1, ?_⟩; rw [tn_eq hx_g (by omega), tn_eq hx_t (by omega)]; exact hp_40.2.2) | exact rp_n (cdP_1 (fun h => pif_0 (by rw [← hi_12]; exact hc_15) h.2)) (by decide) rfl | exact rp_n (cdP_1 (fun h => pif_0 (by rw [← hk_2]; exact hc_5) h.1)) (by decide) rfl⟩
    · skip
      obtain ⟨g, hx_g, hj_g⟩ := ir_n (hc := hc_5) hk_2
      rw [hx_g] at hl
      obtain ⟨t, hx_t, hj_t⟩ := ir_n (hc := hc_15) hi_12
      rw [hx_t] at hl
      refine lv_iconst (v := nI 0) C.1 C.2.1 dX5_promise_18 (by decide +kernel) ?_
      refine lv_goto (tgt := 23) C.1 C.2.1 dX5_promise_19 (by decide) ?_
      refine gw_put (Cn := RX5) (T := TX5) (N := 29) (ty0 := tyX5) (v := nI (0)) C Hh 0 mw_at0 rfl uwX5 tyX5_ok nmX5 0 (by decide) rfl tw_723 rfl (by decide +kernel) (Nat.le_of_ble_eq_true rfl) mw_num0 dX5_promise_23 (fun H locs Hh => ?_)
      refine lv_aload_n C.1 C.2.1 dX5_promise_26 rfl (lv_at hl 0 rfl) ?_
      refine gw_get (Cn := RX5) (T := TX5) (N := 29) C Hh 0 mw_at0 rfl uwX5 0 (by decide) rfl tw_723 rfl dX5_promise_27 ?_
      refine W.eq (g2 := F0 m 30 ls [.int (nI (0))]) rfl ?_
      refine gw_if_le (tgt := 37) C dX5_promise_30 (by decide) (by omega) (fun hc_30 => ?_) (fun hc_30 => ?_)
      · skip
        refine lv_aload_n C.1 C.2.1 dX5_promise_37 rfl (lv_at hl 0 rfl) ?_
        refine lv_iload_n C.1 C.2.1 dX5_promise_38 rfl (lv_at hl 1 rfl) ?_
        refine lv_iload_n C.1 C.2.1 dX5_promise_39 rfl (lv_at hl 2 rfl) ?_
        refine gw_fromI (w := mw G q) (u := (up1 u.1 0 (0), u.2.1, u.2.2)) C Hh (gw_runV (n := 2) (C1 := RX5) [.int (nI (g)), .int (nI (t))] C Hh (c_X5_greatest l G q ((up1 u.1 0 (0), u.2.1, u.2.2)) (g) (t) (by exact ⟨sc_ok hsU hok, hbU⟩) (by first | assumption | omega) (by first | assumption | omega) (by exact hmet) (by exact hpos g (by omega)) _) tw_911 tw_913 tw_61 tw_71 tw_914 (by decide +kernel) ⟨Nat.le_of_ble_eq_true rfl, Nat.le_of_ble_eq_true rfl⟩ 0 mw_at0 rfl rfl hl.1 (Nat.le_of_ble_eq_true rfl) dX5_promise_40 ⟨Nat.zero_le _, Nat.zero_le _⟩) (fun rc_40 uc_40 H locs hp_40 Hh => ?_)
        obtain ⟨kc_40, rfl, hp_40⟩ := hp_40
        exact gw_iret (w := mw G q) (u := uc_40) C Hh dX5_promise_43 ⟨_, rfl, by first | (refine rp_y (cdP_v hx_g (by omega) hx_t (by omega)) hp_40.1.2 ⟨hsU.tr hp_40.1.1, hp_40.2.1, ?_⟩; rw [tn_eq hx_g (by omega), tn_eq hx_t (by omega)]; exact hp_40.2.2) | exact rp_n (cdP_1 (fun h => pif_0 (by rw [← hi_12]; exact hc_15) h.2)) (by decide) rfl | exact rp_n (cdP_1 (fun h => pif_0 (by rw [← hk_2]; exact hc_5) h.1)) (by decide) rfl⟩
      · skip
        exact absurd hc_30 (by decide)
theorem us_self {w : pf_S} (h : w.1 0 ≤ 10) (g t : Nat) : us_f w g t &&& (us_f w g t ^^^ 4294967295) = 0 ∧ us_f w g t < 1 <<< w.1 0 := by
  constructor
  · apply Nat.eq_of_testBit_eq
    intro i
    rw [Nat.zero_testBit, Nat.testBit_and]
    by_cases q : (us_f w g t).testBit i = true
    · have hi := us_f_lt q
      rw [Nat.testBit_xor, all_bit (by omega), q]
      rfl
    · rw [Bool.eq_false_iff.mpr q]
      rfl
  · rw [Nat.one_shiftLeft]
    refine Nat.lt_of_not_le fun q => ?_
    obtain ⟨i, hi, hb⟩ := Nat.exists_ge_and_testBit_of_ge_two_pow q
    have := us_f_lt hb
    omega
theorem gr_sh {w : pf_S} (h : w.1 0 ≤ 10) {g t k : Nat} (hz : w.2 7 g = 0) (hm : gr_post w g t k) : k ≤ sh_b w g t := by
  have e1 : gd_dn w g = 1 := by unfold gd_dn; rw [hz]; rfl
  have e2 : gd_dg w g 0 = g := by unfold gd_dg; rw [hz]; rfl
  have e3 : gd_d1 w g 0 = 1 := by unfold gd_d1; rw [hz]; rfl
  have h1 := us_self h g t
  have e4 : gr_e w g t (us_f w g t) = 1 := by
    unfold gr_e
    rw [e1]
    show 0 + er w g t (us_f w g t) 0 = 1
    unfold er
    rw [e2, e3, if_pos h1.1]
  have h2 := hm.1 _ h1.2 (by rw [e4]; decide)
  rw [e4] at h2
  have h3 : slk w (us_f w g t) ≤ (asum (fr_of w) (us_f w g t) (w.1 0) : Int) := by
    unfold slk
    omega
  have h4 : asum (fr_of w) (us_f w g t) (w.1 0) ≤ sh_b w g t := by
    unfold asum sh_b
    refine fl_sum_le fun a _ => ?_
    unfold fr_of
    split <;> omega
  have h5 : slk w (us_f w g t) / ((1 : Nat) : Int) = slk w (us_f w g t) := Int.ediv_one _
  rw [h5] at h2
  omega
set_option maxHeartbeats 4000000 in
set_option maxRecDepth 100000 in
theorem c_X5_share (l : Launch) (G : gw_G) (q : Nat → Nat) (u : md_S) (x : Int32) (y : Int32) (hm : md2 u) (hmet : ∀ S, S < 1 <<< u.1 1 → 0 ≤ slk (vw u) S) (hpos : ∀ g, g < 6 → 0 < fl_sum (gd_d1 (vw u) g) (gd_dn (vw u) g)) (hki : ki (vw u)) : gw_MI l yX5_share cX5_share 7 (some .int) 5 125 [.ref (q 0), .int (x), .int (y)] G (mw G q) u (fun r u1 => ∃ k : Nat, r = nI k ∧ (rp (cdH (vw u) x y) u u1 (sc u u1 ∧ md_bd u1 ∧ ∃ m, gr_post (vw u) (tn x) (tn y) m ∧ k = 1000 * m / sh_b (vw u) (tn x) (tn y)))) := by
  refine gw_entryI (own := RX5) (by decide) rfl (Nat.le_of_ble_eq_true rfl) ?_
  intro p e s m args below meth c A ls C Hh hl
  have hl : lv_has ls 7 [(0, .ref (q 0)), (1, .int (x)), (2, .int (y))] := hl
  have hok := hm.1
  have hbd := hm.2
  have h01 := hok.1.1
  have h02 := hok.1.2
  have hsU : sc u (up1 u.1 0 0, u.2) := ⟨rfl, rfl, fun _ _ _ => rfl⟩
  have hbU : md_bd (up1 u.1 0 0, u.2) := bd_code hbd rfl rfl
  refine lv_aload_n C.1 C.2.1 dX5_share_0 rfl (lv_at hl 0 rfl) ?_
  refine lv_iload_n C.1 C.2.1 dX5_share_1 rfl (lv_at hl 1 rfl) ?_
  refine gw_fromI (w := mw G q) (u := u) C Hh (gw_runS (n := 1) [.int (x)] C Hh (c_X5_isGood l G q (u) (x)  _) tw_823 tw_824 tw_71 tw_825 (by decide +kernel) ⟨Nat.le_of_ble_eq_true rfl, Nat.le_of_ble_eq_true rfl⟩ rfl hl.1 (Nat.le_of_ble_eq_true rfl) dX5_share_2 ⟨Nat.zero_le _, Nat.zero_le _⟩) (fun rc_2 uc_2 H locs hp_2 Hh => ?_)
  obtain ⟨kc_2, rfl, hp_2⟩ := hp_2
  obtain ⟨hk_2, hu_2⟩ := hp_2
  rw [hu_2] at Hh
  clear hu_2
  refine gw_if_eq (tgt := 22) C dX5_share_5 (by decide) (by rw [hk_2]; exact Nat.lt_of_le_of_lt (pif_le _) (by decide)) (fun hc_5 => ?_) (fun hc_5 => ?_)
  · skip
    refine lv_iconst (v := nI 1) C.1 C.2.1 dX5_share_22 (by decide +kernel) ?_
    refine gw_put (Cn := RX5) (T := TX5) (N := 29) (ty0 := tyX5) (v := nI (1)) C Hh 0 mw_at0 rfl uwX5 tyX5_ok nmX5 0 (by decide) rfl tw_723 rfl (by decide +kernel) (Nat.le_of_ble_eq_true rfl) mw_num0 dX5_share_23 (fun H locs Hh => ?_)
    refine lv_aload_n C.1 C.2.1 dX5_share_26 rfl (lv_at hl 0 rfl) ?_
    refine gw_get (Cn := RX5) (T := TX5) (N := 29) C Hh 0 mw_at0 rfl uwX5 0 (by decide) rfl tw_723 rfl dX5_share_27 ?_
    refine W.eq (g2 := F0 m 30 ls [.int (nI (1))]) rfl ?_
    refine gw_if_le (tgt := 35) C dX5_share_30 (by decide) (by omega) (fun hc_30 => ?_) (fun hc_30 => ?_)
    · skip
      exact absurd hc_30 (by decide)
    · skip
      refine lv_iconst (v := nI 0) C.1 C.2.1 dX5_share_33 (by decide +kernel) ?_
      exact gw_iret (w := mw G q) (u := (up1 u.1 0 (1), u.2.1, u.2.2)) C Hh dX5_share_34 ⟨_, rfl, by first | exact rp_n (cdH_1 (fun h => pif_0 (by rw [← hi_12]; exact hc_15) h.2)) (by decide) rfl | exact rp_n (cdH_1 (fun h => pif_0 (by rw [← hk_2]; exact hc_5) h.1)) (by decide) rfl⟩
  · skip
    refine lv_iload_n C.1 C.2.1 dX5_share_8 rfl (lv_at hl 2 rfl) ?_
    refine lv_iconst (v := nI 0) C.1 C.2.1 dX5_share_9 (by decide +kernel) ?_
    refine lv_bipush (v := nI 99) C.1 C.2.1 dX5_share_10 (by decide +kernel) ?_
    refine gw_fromI (w := mw G q) (u := u) C Hh (gw_runS (n := 3) [.int (y), .int (nI (0)), .int (nI (99))] C Hh (c_X5_in l G q (u) (y) (nI (0)) (nI (99))  _) tw_820 tw_821 tw_71 tw_822 (by decide +kernel) ⟨Nat.le_of_ble_eq_true rfl, Nat.le_of_ble_eq_true rfl⟩ rfl hl.1 (Nat.le_of_ble_eq_true rfl) dX5_share_12 ⟨Nat.zero_le _, Nat.zero_le _⟩) (fun rc_12 uc_12 H locs hp_12 Hh => ?_)
    obtain ⟨kc_12, rfl, hp_12⟩ := hp_12
    obtain ⟨hk_12, hu_12⟩ := hp_12
    rw [hu_12] at Hh
    clear hu_12
    have hi_12 := ir_m (by decide) (by decide) hk_12
    refine gw_if_eq (tgt := 22) C dX5_share_15 (by decide) (by rw [hi_12]; exact Nat.lt_of_le_of_lt (pif_le _) (by decide)) (fun hc_15 => ?_) (fun hc_15 => ?_)
    · skip
      refine lv_iconst (v := nI 1) C.1 C.2.1 dX5_share_22 (by decide +kernel) ?_
      refine gw_put (Cn := RX5) (T := TX5) (N := 29) (ty0 := tyX5) (v := nI (1)) C Hh 0 mw_at0 rfl uwX5 tyX5_ok nmX5 0 (by decide) rfl tw_723 rfl (by decide +kernel) (Nat.le_of_ble_eq_true rfl) mw_num0 dX5_share_23 (fun H locs Hh => ?_)
      refine lv_aload_n C.1 C.2.1 dX5_share_26 rfl (lv_at hl 0 rfl) ?_
      refine gw_get (Cn := RX5) (T := TX5) (N := 29) C Hh 0 mw_at0 rfl uwX5 0 (by decide) rfl tw_723 rfl dX5_share_27 ?_
      refine W.eq (g2 := F0 m 30 ls [.int (nI (1))]) rfl ?_
      refine gw_if_le (tgt := 35) C dX5_share_30 (by decide) (by omega) (fun hc_30 => ?_) (fun hc_30 => ?_)
      · skip
        exact absurd hc_30 (by decide)
      · skip
        refine lv_iconst (v := nI 0) C.1 C.2.1 dX5_share_33 (by decide +kernel) ?_
        exact gw_iret (w := mw G q) (u := (up1 u.1 0 (1), u.2.1, u.2.2)) C Hh dX5_share_34 ⟨_, rfl, by first | exact rp_n (cdH_1 (fun h => pif_0 (by rw [← hi_12]; exact hc_15) h.2)) (by decide) rfl | exact rp_n (cdH_1 (fun h => pif_0 (by rw [← hk_2]; exact hc_5) h.1)) (by decide) rfl⟩
    · skip
      obtain ⟨g, hx_g, hj_g⟩ := ir_n (hc := hc_5) hk_2
      rw [hx_g] at hl
      obtain ⟨t, hx_t, hj_t⟩ := ir_n (hc := hc_15) hi_12
      rw [hx_t] at hl
      have hg6 : g < 6 := by omega
      have hg9 := hok.2.1 g hg6
      have hv9 : cdH (vw u) x y = if sh_b (vw u) g t = 0 then 2 else 0 := cdH_v hx_g hg6 hx_t (by omega)
      have hsb := sh_le (md_ar hok) g t
      refine lv_iconst (v := nI 0) C.1 C.2.1 dX5_share_18 (by decide +kernel) ?_
      refine lv_goto (tgt := 23) C.1 C.2.1 dX5_share_19 (by decide) ?_
      refine gw_put (Cn := RX5) (T := TX5) (N := 29) (ty0 := tyX5) (v := nI (0)) C Hh 0 mw_at0 rfl uwX5 tyX5_ok nmX5 0 (by decide) rfl tw_723 rfl (by decide +kernel) (Nat.le_of_ble_eq_true rfl) mw_num0 dX5_share_23 (fun H locs Hh => ?_)
      refine lv_aload_n C.1 C.2.1 dX5_share_26 rfl (lv_at hl 0 rfl) ?_
      refine gw_get (Cn := RX5) (T := TX5) (N := 29) C Hh 0 mw_at0 rfl uwX5 0 (by decide) rfl tw_723 rfl dX5_share_27 ?_
      refine W.eq (g2 := F0 m 30 ls [.int (nI (0))]) rfl ?_
      refine gw_if_le (tgt := 35) C dX5_share_30 (by decide) (by omega) (fun hc_30 => ?_) (fun hc_30 => ?_)
      · skip
        refine lv_lconst (v := Int64.ofInt (0)) C.1 C.2.1 dX5_share_35 rfl ?_
        refine lv_lstore_n (lv' := [(3, .long (Int64.ofInt (0))), (0, .ref (q 0)), (1, .int (nI (g))), (2, .int (nI (t)))]) C.1 C.2.1 dX5_share_36 rfl hl (by decide) rfl (fun ls hl => ?_)
        refine lv_aload_n C.1 C.2.1 dX5_share_37 rfl (lv_at hl 1 rfl) ?_
        refine lv_iload_n C.1 C.2.1 dX5_share_38 rfl (lv_at hl 2 rfl) ?_
        refine gw_fromI (w := mw G q) (u := (up1 u.1 0 (0), u.2.1, u.2.2)) C Hh (gw_runV (n := 1) (C1 := RX5) [.int (nI (g))] C Hh (c_X5_isKit l G q ((up1 u.1 0 (0), u.2.1, u.2.2)) (g) (by exact sc_ok hsU hok) (by first | assumption | omega) _) tw_827 tw_829 tw_48 tw_71 tw_830 (by decide +kernel) ⟨Nat.le_of_ble_eq_true rfl, Nat.le_of_ble_eq_true rfl⟩ 0 mw_at0 rfl rfl hl.1 (Nat.le_of_ble_eq_true rfl) dX5_share_39 ⟨Nat.zero_le _, Nat.zero_le _⟩) (fun rc_39 uc_39 H locs hp_39 Hh => ?_)
        obtain ⟨kc_39, rfl, hp_39⟩ := hp_39
        obtain ⟨hk_39, hu_39⟩ := hp_39
        rw [hu_39] at Hh
        clear hu_39
        have join_55 : ∀ (s9 : Nat) (H : Heap) (locs : List Loc) (ls : Array Slot), (s9 = us_f (vw u) g t) → gw_H G A s (mw G q (up1 u.1 0 (0), u.2.1, u.2.2)) H locs → lv_has ls 7 [(0, .ref (q 0)), (1, .int (nI (g))), (2, .int (nI (t))), (3, .long (Int64.ofInt (0)))] → W p l e (gw_rm 5 125) s m args below meth c H locs 0 0 (MQ below (va_Qi (fun r u1 => ∃ k : Nat, r = nI k ∧ (rp (cdH (vw u) x y) u u1 (sc u u1 ∧ md_bd u1 ∧ ∃ m, gr_post (vw u) (tn x) (tn y) m ∧ k = 1000 * m / sh_b (vw u) (tn x) (tn y)))) (gw_at G A (mw G q)) A) args s 0 0 A) (F0 m 55 ls [.int (nI (s9))]) := by
          intro s9  H locs ls hs9 Hh hl
          refine lv_istore (lv' := [(5, .int (nI (s9))), (0, .ref (q 0)), (1, .int (nI (g))), (2, .int (nI (t))), (3, .long (Int64.ofInt (0)))]) C.1 C.2.1 dX5_share_55 hl (by decide) rfl (fun ls hl => ?_)
          refine lv_iconst (v := nI 0) C.1 C.2.1 dX5_share_57 (by decide +kernel) ?_
          refine lv_istore (lv' := [(6, .int (nI (0))), (5, .int (nI (s9))), (0, .ref (q 0)), (1, .int (nI (g))), (2, .int (nI (t))), (3, .long (Int64.ofInt (0)))]) C.1 C.2.1 dX5_share_58 hl (by decide) rfl (fun ls hl => ?_)
          have loop_60 : ∀ (fu : Nat) (al : Int) (i : Nat) (H : Heap) (locs : List Loc) (ls : Array Slot), (i ≤ u.1 1) → (al = (fl_sum (fun a => if s9.testBit a then u.2.1 8 a else 0) i : Int)) → u.1 1 - i < fu → gw_H G A s (mw G q (up1 u.1 0 (0), u.2.1, u.2.2)) H locs → lv_has ls 7 [(0, .ref (q 0)), (1, .int (nI (g))), (2, .int (nI (t))), (3, .long (Int64.ofInt (al))), (5, .int (nI (s9))), (6, .int (nI (i)))] → W p l e (gw_rm 5 125) s m args below meth c H locs 0 0 (MQ below (va_Qi (fun r u1 => ∃ k : Nat, r = nI k ∧ (rp (cdH (vw u) x y) u u1 (sc u u1 ∧ md_bd u1 ∧ ∃ m, gr_post (vw u) (tn x) (tn y) m ∧ k = 1000 * m / sh_b (vw u) (tn x) (tn y)))) (gw_at G A (mw G q)) A) args s 0 0 A) (F0 m 60 ls []) := by
            intro fu
            induction fu with
            | zero =>
              intro al i  H locs ls hi hal hmf
              exact absurd hmf (Nat.not_lt_zero _)
            | succ fu ih_60 =>
              intro al i  H locs ls hi hal hmf Hh hl
              refine lv_iload C.1 C.2.1 dX5_share_60 (lv_at hl 5 rfl) ?_
              refine lv_aload_n C.1 C.2.1 dX5_share_62 rfl (lv_at hl 0 rfl) ?_
              refine gw_get (Cn := RX5) (T := TX5) (N := 29) C Hh 0 mw_at0 rfl uwX5 6 (by decide) rfl tw_729 rfl dX5_share_63 ?_
              refine W.eq (g2 := F0 m 66 ls [.int (nI (u.1 1)), .int (nI (i))]) rfl ?_
              refine gw_icmp_ge (tgt := 101) C dX5_share_66 (by decide) (by omega) (by omega) (fun hc_66 => ?_) (fun hc_66 => ?_)
              · skip
                have hal9 : al = (sh_b (vw u) g t : Int) := by (rw [hal, show i = u.1 1 by omega, hs9]; rfl)
                refine lv_aload_n C.1 C.2.1 dX5_share_101 rfl (lv_at hl 0 rfl) ?_
                refine lv_lload_n C.1 C.2.1 dX5_share_102 rfl (lv_at hl 3 rfl) ?_
                refine lv_lconst (v := Int64.ofInt (0)) C.1 C.2.1 dX5_share_103 rfl ?_
                refine gw_lc_ne (tgt := 112) C dX5_share_104 dX5_share_105 (by decide) (by unfold lg; omega) (by exact lg_0) (fun hc_104 => ?_) (fun hc_104 => ?_)
                · skip
                  refine lv_iconst (v := nI 0) C.1 C.2.1 dX5_share_112 (by decide +kernel) ?_
                  refine gw_put (Cn := RX5) (T := TX5) (N := 29) (ty0 := tyX5) (v := nI (0)) C Hh 0 mw_at0 rfl uwX5 tyX5_ok nmX5 0 (by decide) rfl tw_723 rfl (by decide +kernel) (Nat.le_of_ble_eq_true rfl) mw_num0 dX5_share_113 (fun H locs Hh => ?_)
                  rw [up1_up1] at Hh
                  refine lv_aload_n C.1 C.2.1 dX5_share_116 rfl (lv_at hl 0 rfl) ?_
                  refine gw_get (Cn := RX5) (T := TX5) (N := 29) C Hh 0 mw_at0 rfl uwX5 0 (by decide) rfl tw_723 rfl dX5_share_117 ?_
                  refine W.eq (g2 := F0 m 120 ls [.int (nI (0))]) rfl ?_
                  refine gw_if_le (tgt := 127) C dX5_share_120 (by decide) (by omega) (fun hc_120 => ?_) (fun hc_120 => ?_)
                  · skip
                    refine lv_ldc2 (v := 1000) C.1 C.2.1 C.cl (C.ts tw_920) dX5_share_127 ?_
                    refine W.eq (g2 := F0 m 130 ls [.long (Int64.ofInt (1000))]) rfl ?_
                    refine lv_aload_n C.1 C.2.1 dX5_share_130 rfl (lv_at hl 0 rfl) ?_
                    refine lv_iload_n C.1 C.2.1 dX5_share_131 rfl (lv_at hl 1 rfl) ?_
                    refine lv_iload_n C.1 C.2.1 dX5_share_132 rfl (lv_at hl 2 rfl) ?_
                    refine gw_fromI (w := mw G q) (u := (up1 u.1 0 (0), u.2.1, u.2.2)) C Hh (gw_runV (n := 2) (C1 := RX5) [.int (nI (g)), .int (nI (t))] C Hh (c_X5_greatest l G q ((up1 u.1 0 (0), u.2.1, u.2.2)) (g) (t) (by exact ⟨sc_ok hsU hok, hbU⟩) (by first | assumption | omega) (by first | assumption | omega) (by exact hmet) (by exact hpos g hg6) _) tw_911 tw_913 tw_61 tw_71 tw_914 (by decide +kernel) ⟨Nat.le_of_ble_eq_true rfl, Nat.le_of_ble_eq_true rfl⟩ 0 mw_at0 rfl rfl hl.1 (Nat.le_of_ble_eq_true rfl) dX5_share_133 ⟨Nat.zero_le _, Nat.zero_le _⟩) (fun rc_133 uc_133 H locs hp_133 Hh => ?_)
                    obtain ⟨kc_133, rfl, hp_133⟩ := hp_133
                    have hgz : u.2.1 3 g = 0 := Nat.eq_zero_of_not_pos (fun q => by (have q2 := ki_us hki (md_gd hok) (md_ar hok) hg6 q t; have q3 : sh_b (vw u) g t = 0 := (by unfold sh_b; rw [q2]; exact fl_sum_zero_of fun k _ => (by simp)); omega))
                    have hgr := gr_sh (w := vw u) h01 (g := g) (t := t) hgz hp_133.2.2
                    refine gw_i2l C dX5_share_136 (by omega) ?_
                    refine gw_lmul C dX5_share_137 ?_
                    refine lv_lload_n C.1 C.2.1 dX5_share_138 rfl (lv_at hl 3 rfl) ?_
                    refine gw_ldiv C dX5_share_139 (by unfold lg; omega) (by unfold lg; omega) (by omega) (by omega) ?_
                    refine gw_l2i C dX5_share_140 (by rw [hal9]; exact sh_i0) (by rw [hal9]; exact sh_i1 hgr (by omega)) ?_
                    exact gw_iret (w := mw G q) (u := uc_133) C Hh dX5_share_141 ⟨_, rfl, by first | (refine rp_y (hv9.trans (if_neg (by omega))) hp_133.1.2 ⟨hsU.tr hp_133.1.1, hp_133.2.1, kc_133, ?_, ?_⟩; (rw [tn_eq hx_g (by omega), tn_eq hx_t (by omega)]; exact hp_133.2.2); (rw [tn_eq hx_g (by omega), tn_eq hx_t (by omega), hal9]; exact sh_int)) | exact rp_n (hv9.trans (if_pos (by omega))) (by decide) rfl⟩
                  · skip
                    exact absurd hc_120 (by decide)
                · skip
                  refine lv_iconst (v := nI 2) C.1 C.2.1 dX5_share_108 (by decide +kernel) ?_
                  refine lv_goto (tgt := 113) C.1 C.2.1 dX5_share_109 (by decide) ?_
                  refine gw_put (Cn := RX5) (T := TX5) (N := 29) (ty0 := tyX5) (v := nI (2)) C Hh 0 mw_at0 rfl uwX5 tyX5_ok nmX5 0 (by decide) rfl tw_723 rfl (by decide +kernel) (Nat.le_of_ble_eq_true rfl) mw_num0 dX5_share_113 (fun H locs Hh => ?_)
                  rw [up1_up1] at Hh
                  refine lv_aload_n C.1 C.2.1 dX5_share_116 rfl (lv_at hl 0 rfl) ?_
                  refine gw_get (Cn := RX5) (T := TX5) (N := 29) C Hh 0 mw_at0 rfl uwX5 0 (by decide) rfl tw_723 rfl dX5_share_117 ?_
                  refine W.eq (g2 := F0 m 120 ls [.int (nI (2))]) rfl ?_
                  refine gw_if_le (tgt := 127) C dX5_share_120 (by decide) (by omega) (fun hc_120 => ?_) (fun hc_120 => ?_)
                  · skip
                    exact absurd hc_120 (by decide)
                  · skip
                    refine lv_iconst (v := nI 0) C.1 C.2.1 dX5_share_123 (by decide +kernel) ?_
                    refine lv_goto (tgt := 141) C.1 C.2.1 dX5_share_124 (by decide) ?_
                    exact gw_iret (w := mw G q) (u := (up1 u.1 0 (2), u.2.1, u.2.2)) C Hh dX5_share_141 ⟨_, rfl, by first | (refine rp_y (hv9.trans (if_neg (by omega))) hp_133.1.2 ⟨hsU.tr hp_133.1.1, hp_133.2.1, kc_133, ?_, ?_⟩; (rw [tn_eq hx_g (by omega), tn_eq hx_t (by omega)]; exact hp_133.2.2); (rw [tn_eq hx_g (by omega), tn_eq hx_t (by omega), hal9]; exact sh_int)) | exact rp_n (hv9.trans (if_pos (by omega))) (by decide) rfl⟩
              · skip
                have tb9 := tbit_le s9 i
                have ha9 := hok.2.2.2.1 i (by omega)
                have join_93 : ∀ (v : Int) (H : Heap) (locs : List Loc) (ls : Array Slot), (v = ((if s9.testBit i then u.2.1 8 i else 0 : Nat) : Int)) → gw_H G A s (mw G q (up1 u.1 0 (0), u.2.1, u.2.2)) H locs → lv_has ls 7 [(0, .ref (q 0)), (1, .int (nI (g))), (2, .int (nI (t))), (3, .long (Int64.ofInt (al))), (5, .int (nI (s9))), (6, .int (nI (i)))] → W p l e (gw_rm 5 125) s m args below meth c H locs 0 0 (MQ below (va_Qi (fun r u1 => ∃ k : Nat, r = nI k ∧ (rp (cdH (vw u) x y) u u1 (sc u u1 ∧ md_bd u1 ∧ ∃ m, gr_post (vw u) (tn x) (tn y) m ∧ k = 1000 * m / sh_b (vw u) (tn x) (tn y)))) (gw_at G A (mw G q)) A) args s 0 0 A) (F0 m 93 ls [.long (Int64.ofInt (v)), .long (Int64.ofInt (al))]) := by
                  intro v  H locs ls hv Hh hl
                  refine gw_ladd C dX5_share_93 ?_
                  refine lv_lstore_n (lv' := [(3, .long (Int64.ofInt (al + v))), (0, .ref (q 0)), (1, .int (nI (g))), (2, .int (nI (t))), (5, .int (nI (s9))), (6, .int (nI (i)))]) C.1 C.2.1 dX5_share_94 rfl hl (by decide) rfl (fun ls hl => ?_)
                  refine lv_iinc (v := nI (i + 1)) (lv' := [(6, .int (nI (i + 1))), (3, .long (Int64.ofInt (al + v))), (0, .ref (q 0)), (1, .int (nI (g))), (2, .int (nI (t))), (5, .int (nI (s9)))]) C.1 C.2.1 dX5_share_95 hl (k := 5) rfl (nI_add _ 1) (by decide) rfl (fun ls hl => ?_)
                  refine lv_goto (tgt := 60) C.1 C.2.1 dX5_share_98 (by decide) ?_
                  exact ih_60 (al + v) (i + 1)  _ _ _ (by omega) (by rw [hal, hv, fl_sum_succ, Int.natCast_add]) (by omega) Hh (lv_sub hl [2, 3, 4, 1, 5, 0] rfl)
                refine lv_lload_n C.1 C.2.1 dX5_share_69 rfl (lv_at hl 3 rfl) ?_
                refine lv_iload C.1 C.2.1 dX5_share_70 (lv_at hl 4 rfl) ?_
                refine lv_iload C.1 C.2.1 dX5_share_72 (lv_at hl 5 rfl) ?_
                refine lv_ishr C.1 C.2.1 dX5_share_74 ?_
                refine lv_iconst (v := nI 1) C.1 C.2.1 dX5_share_75 (by decide +kernel) ?_
                refine gw_and1 C dX5_share_76 (by omega) ?_
                refine lv_iconst (v := nI 1) C.1 C.2.1 dX5_share_77 (by decide +kernel) ?_
                refine gw_icmp_ne (tgt := 92) C dX5_share_78 (by decide) (by omega) (by omega) (fun hc_78 => ?_) (fun hc_78 => ?_)
                · skip
                  refine lv_lconst (v := Int64.ofInt (0)) C.1 C.2.1 dX5_share_92 rfl ?_
                  exact join_93 (0)  _ _ _ (by rw [tb0' hc_78]; rfl) Hh (lv_sub hl [0, 1, 2, 3, 4, 5] rfl)
                · skip
                  refine lv_aload_n C.1 C.2.1 dX5_share_81 rfl (lv_at hl 0 rfl) ?_
                  refine gw_get (Cn := RX5) (T := TX5) (N := 29) C Hh 0 mw_at0 rfl uwX5 9 (by decide) rfl tw_732 rfl dX5_share_82 ?_
                  refine lv_iload C.1 C.2.1 dX5_share_85 (lv_at hl 5 rfl) ?_
                  refine gw_ld C Hh 8 mw_at8 (by decide) dX5_share_87 (by omega) ?_
                  refine W.eq (g2 := F0 m 88 ls [.int (nI (u.2.1 8 (i))), .long (Int64.ofInt (al))]) rfl ?_
                  refine gw_i2l C dX5_share_88 (by omega) ?_
                  refine lv_goto (tgt := 93) C.1 C.2.1 dX5_share_89 (by decide) ?_
                  exact join_93 (((u.2.1 8 i : Nat) : Int))  _ _ _ (by rw [if_pos (tb1 (by omega))]) Hh (lv_sub hl [0, 1, 2, 3, 4, 5] rfl)
          exact loop_60 _ (0) (0)  _ _ _ (by omega) (by rfl) (Nat.lt_succ_self _) Hh (lv_sub hl [2, 3, 4, 5, 1, 0] rfl)
        refine gw_if_eq (tgt := 49) C dX5_share_42 (by decide) (by split at hk_39 <;> omega) (fun hc_42 => ?_) (fun hc_42 => ?_)
        · skip
          refine lv_aload_n C.1 C.2.1 dX5_share_49 rfl (lv_at hl 1 rfl) ?_
          refine lv_iload_n C.1 C.2.1 dX5_share_50 rfl (lv_at hl 2 rfl) ?_
          refine lv_iload_n C.1 C.2.1 dX5_share_51 rfl (lv_at hl 3 rfl) ?_
          refine gw_fromI (w := mw G q) (u := (up1 u.1 0 (0), u.2.1, u.2.2)) C Hh (gw_runV (n := 2) (C1 := RX5) [.int (nI (g)), .int (nI (t))] C Hh (c_X5_usable l G q ((up1 u.1 0 (0), u.2.1, u.2.2)) (g) (t) (by exact sc_ok hsU hok) (by first | assumption | omega) (by first | assumption | omega) _) tw_847 tw_849 tw_53 tw_71 tw_850 (by decide +kernel) ⟨Nat.le_of_ble_eq_true rfl, Nat.le_of_ble_eq_true rfl⟩ 0 mw_at0 rfl rfl hl.1 (Nat.le_of_ble_eq_true rfl) dX5_share_52 ⟨Nat.zero_le _, Nat.zero_le _⟩) (fun rc_52 uc_52 H locs hp_52 Hh => ?_)
          obtain ⟨kc_52, rfl, hp_52⟩ := hp_52
          obtain ⟨hk_52, hu_52⟩ := hp_52
          rw [hu_52] at Hh
          clear hu_52
          exact join_55 (kc_52)  _ _ _ (by exact hk_52) Hh (lv_sub hl [1, 2, 3, 0] rfl)
        · skip
          refine lv_iconst (v := nI 0) C.1 C.2.1 dX5_share_45 (by decide +kernel) ?_
          refine lv_goto (tgt := 55) C.1 C.2.1 dX5_share_46 (by decide) ?_
          exact join_55 (0)  _ _ _ (by exact (ki_us hki (md_gd hok) (md_ar hok) hg6 (show 0 < u.2.1 3 g by split at hk_39 <;> omega) t).symm) Hh (lv_sub hl [1, 2, 3, 0] rfl)
      · skip
        exact absurd hc_30 (by decide)
