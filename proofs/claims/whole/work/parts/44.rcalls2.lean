theorem ix_n {x : Int32} {n c : Nat} {hc : 0 < c} (h : c = pif (inx x n) 1 0) : ∃ j, x = nI j ∧ j < n := inx_nI (pif_1 (by omega))
theorem rp_y {c : Nat} {u u1 : md_S} {Q : Prop} (h : c = 0) (h0 : u1.1 0 = 0) (hq : Q) : rp c u u1 Q := Or.inr ⟨h, h0, hq⟩
theorem up1_up1 (f : Nat → Nat) (k a b : Nat) : up1 (up1 f k a) k b = up1 f k b := by
  funext z
  unfold up1
  split <;> rfl
theorem up1_id9 {u : md_S} (h : md_ok u) : md_ok u := h
set_option maxHeartbeats 4000000 in
set_option maxRecDepth 100000 in
theorem c_X5_change (l : Launch) (G : gw_G) (q : Nat → Nat) (u : md_S) (x : Int32) (y : Int32) (z : Int32) (hm : md2 u) : gw_MI l yX5_change cX5_change 4 (some .int) 4 99 [.ref (q 0), .int (x), .int (y), .int (z)] G (mw G q) u (fun r u1 => ∃ k : Nat, r = nI k ∧ (rp (cdC (vw u) x y z) u u1 (k = rfallen u1 ∧ cv2 (rC u (tn x) (tn y) (tn z)) u1))) := by
  refine gw_entryI (own := RX5) (by decide) rfl (Nat.le_of_ble_eq_true rfl) ?_
  intro p e s m args below meth c A ls C Hh hl
  have hl : lv_has ls 4 [(0, .ref (q 0)), (1, .int (x)), (2, .int (y)), (3, .int (z))] := hl
  have hok := hm.1
  have hbd := hm.2
  have h01 := hok.1.1
  have h02 := hok.1.2
  refine lv_aload_n C.1 C.2.1 dX5_change_0 rfl (lv_at hl 0 rfl) ?_
  refine lv_aload_n C.1 C.2.1 dX5_change_1 rfl (lv_at hl 0 rfl) ?_
  refine lv_iload_n C.1 C.2.1 dX5_change_2 rfl (lv_at hl 1 rfl) ?_
  refine gw_fromI (w := mw G q) (u := u) C Hh (gw_runV (n := 1) (C1 := RX5) [.int (x)] C Hh (c_X5_isArrival l G q (u) (x) (by exact h01) _) tw_863 tw_865 tw_56 tw_71 tw_866 (by decide +kernel) ⟨Nat.le_of_ble_eq_true rfl, Nat.le_of_ble_eq_true rfl⟩ 0 mw_at0 rfl rfl hl.1 (Nat.le_of_ble_eq_true rfl) dX5_change_3 ⟨Nat.zero_le _, Nat.zero_le _⟩) (fun rc_3 uc_3 H locs hp_3 Hh => ?_)
  obtain ⟨kc_3, rfl, hp_3⟩ := hp_3
  obtain ⟨hk_3, hu_3⟩ := hp_3
  rw [hu_3] at Hh
  clear hu_3
  refine gw_if_ne (tgt := 13) C dX5_change_6 (by decide) (by rw [hk_3]; exact Nat.lt_of_le_of_lt (pif_le _) (by decide)) (fun hc_6 => ?_) (fun hc_6 => ?_)
  · skip
    obtain ⟨a, hx_a, hj_a⟩ := ix_n (hc := hc_6) hk_3
    rw [hx_a] at hl
    have ha9 := hok.2.2.2.1 a (by omega)
    refine lv_iload_n C.1 C.2.1 dX5_change_13 rfl (lv_at hl 2 rfl) ?_
    refine lv_iconst (v := nI 0) C.1 C.2.1 dX5_change_14 (by decide +kernel) ?_
    refine lv_bipush (v := nI 99) C.1 C.2.1 dX5_change_15 (by decide +kernel) ?_
    refine gw_fromI (w := mw G q) (u := u) C Hh (gw_runS (n := 3) [.int (y), .int (nI (0)), .int (nI (99))] C Hh (c_X5_in l G q (u) (y) (nI (0)) (nI (99))  _) tw_820 tw_821 tw_71 tw_822 (by decide +kernel) ⟨Nat.le_of_ble_eq_true rfl, Nat.le_of_ble_eq_true rfl⟩ rfl hl.1 (Nat.le_of_ble_eq_true rfl) dX5_change_17 ⟨Nat.zero_le _, Nat.zero_le _⟩) (fun rc_17 uc_17 H locs hp_17 Hh => ?_)
    obtain ⟨kc_17, rfl, hp_17⟩ := hp_17
    obtain ⟨hk_17, hu_17⟩ := hp_17
    rw [hu_17] at Hh
    clear hu_17
    have hi_17 := ir_m (by decide) (by decide) hk_17
    refine gw_if_eq (tgt := 33) C dX5_change_20 (by decide) (by rw [hi_17]; exact Nat.lt_of_le_of_lt (pif_le _) (by decide)) (fun hc_20 => ?_) (fun hc_20 => ?_)
    · skip
      refine lv_iconst (v := nI 2) C.1 C.2.1 dX5_change_33 (by decide +kernel) ?_
      refine lv_goto (tgt := 52) C.1 C.2.1 dX5_change_34 (by decide) ?_
      refine gw_put (Cn := RX5) (T := TX5) (N := 29) (ty0 := tyX5) (v := nI (2)) C Hh 0 mw_at0 rfl uwX5 tyX5_ok nmX5 0 (by decide) rfl tw_723 rfl (by decide +kernel) (Nat.le_of_ble_eq_true rfl) mw_num0 dX5_change_52 (fun H locs Hh => ?_)
      refine lv_aload_n C.1 C.2.1 dX5_change_55 rfl (lv_at hl 0 rfl) ?_
      refine gw_get (Cn := RX5) (T := TX5) (N := 29) C Hh 0 mw_at0 rfl uwX5 0 (by decide) rfl tw_723 rfl dX5_change_56 ?_
      refine W.eq (g2 := F0 m 59 ls [.int (nI (2))]) rfl ?_
      refine gw_if_le (tgt := 64) C dX5_change_59 (by decide) (by omega) (fun hc_59 => ?_) (fun hc_59 => ?_)
      · skip
        exact absurd hc_59 (by decide)
      · skip
        refine lv_iconst (v := nI 0) C.1 C.2.1 dX5_change_62 (by decide +kernel) ?_
        exact gw_iret (w := mw G q) (u := (up1 u.1 0 (2), u.2.1, u.2.2)) C Hh dX5_change_63 ⟨_, rfl, by first | exact rp_n (cdC_1 (pif_0 (hk_3.symm.trans hc_6))) (by decide) rfl | exact rp_n (cdC_2 (u := vw u) h01 hx_a hj_a (fun h => pif_0 (by rw [← hi_27]; exact hc_30) h.2)) (by decide) rfl | exact rp_n (cdC_2 (u := vw u) h01 hx_a hj_a (fun h => pif_0 (by rw [← hi_17]; exact hc_20) h.1)) (by decide) rfl | exact rp_n (hv9.trans (if_pos hc_44)) (by decide) rfl⟩
    · skip
      refine lv_iload_n C.1 C.2.1 dX5_change_23 rfl (lv_at hl 3 rfl) ?_
      refine lv_iconst (v := nI 0) C.1 C.2.1 dX5_change_24 (by decide +kernel) ?_
      refine lv_ldc (v := nI 1000000) C.1 C.2.1 C.cl (C.ts tw_826) dX5_change_25 ?_
      refine gw_fromI (w := mw G q) (u := u) C Hh (gw_runS (n := 3) [.int (z), .int (nI (0)), .int (nI (1000000))] C Hh (c_X5_in l G q (u) (z) (nI (0)) (nI (1000000))  _) tw_820 tw_821 tw_71 tw_822 (by decide +kernel) ⟨Nat.le_of_ble_eq_true rfl, Nat.le_of_ble_eq_true rfl⟩ rfl hl.1 (Nat.le_of_ble_eq_true rfl) dX5_change_27 ⟨Nat.zero_le _, Nat.zero_le _⟩) (fun rc_27 uc_27 H locs hp_27 Hh => ?_)
      obtain ⟨kc_27, rfl, hp_27⟩ := hp_27
      obtain ⟨hk_27, hu_27⟩ := hp_27
      rw [hu_27] at Hh
      clear hu_27
      have hi_27 := ir_m (by decide) (by decide) hk_27
      refine gw_if_ne (tgt := 37) C dX5_change_30 (by decide) (by rw [hi_27]; exact Nat.lt_of_le_of_lt (pif_le _) (by decide)) (fun hc_30 => ?_) (fun hc_30 => ?_)
      · skip
        obtain ⟨t, hx_t, hj_t⟩ := ir_n (hc := hc_20) hi_17
        rw [hx_t] at hl
        obtain ⟨n, hx_n, hj_n⟩ := ir_n (hc := hc_30) hi_27
        rw [hx_n] at hl
        have hv9 : cdC (vw u) x y z = if n < u.2.1 9 a then 3 else 0 := cdC_v h01 hx_a hj_a hx_t (by omega) hx_n (by omega)
        refine lv_iload_n C.1 C.2.1 dX5_change_37 rfl (lv_at hl 3 rfl) ?_
        refine lv_aload_n C.1 C.2.1 dX5_change_38 rfl (lv_at hl 0 rfl) ?_
        refine gw_get (Cn := RX5) (T := TX5) (N := 29) C Hh 0 mw_at0 rfl uwX5 10 (by decide) rfl tw_733 rfl dX5_change_39 ?_
        refine lv_iload_n C.1 C.2.1 dX5_change_42 rfl (lv_at hl 1 rfl) ?_
        refine gw_ld C Hh 9 mw_at9 (by decide) dX5_change_43 (by omega) ?_
        refine gw_icmp_ge (tgt := 51) C dX5_change_44 (by decide) (by omega) (by omega) (fun hc_44 => ?_) (fun hc_44 => ?_)
        · skip
          refine lv_iconst (v := nI 0) C.1 C.2.1 dX5_change_51 (by decide +kernel) ?_
          refine gw_put (Cn := RX5) (T := TX5) (N := 29) (ty0 := tyX5) (v := nI (0)) C Hh 0 mw_at0 rfl uwX5 tyX5_ok nmX5 0 (by decide) rfl tw_723 rfl (by decide +kernel) (Nat.le_of_ble_eq_true rfl) mw_num0 dX5_change_52 (fun H locs Hh => ?_)
          refine lv_aload_n C.1 C.2.1 dX5_change_55 rfl (lv_at hl 0 rfl) ?_
          refine gw_get (Cn := RX5) (T := TX5) (N := 29) C Hh 0 mw_at0 rfl uwX5 0 (by decide) rfl tw_723 rfl dX5_change_56 ?_
          refine W.eq (g2 := F0 m 59 ls [.int (nI (0))]) rfl ?_
          refine gw_if_le (tgt := 64) C dX5_change_59 (by decide) (by omega) (fun hc_59 => ?_) (fun hc_59 => ?_)
          · skip
            refine lv_aload_n C.1 C.2.1 dX5_change_64 rfl (lv_at hl 0 rfl) ?_
            refine gw_get (Cn := RX5) (T := TX5) (N := 29) C Hh 0 mw_at0 rfl uwX5 7 (by decide) rfl tw_730 rfl dX5_change_65 ?_
            refine lv_iload_n C.1 C.2.1 dX5_change_68 rfl (lv_at hl 1 rfl) ?_
            refine lv_iload_n C.1 C.2.1 dX5_change_69 rfl (lv_at hl 2 rfl) ?_
            refine gw_st C Hh 6 mw_at6 (by decide) mw_set6 dX5_change_70 (by omega) (fun H locs Hh => ?_)
            have Hh : gw_H G A s (mw G q (up1 u.1 0 (0), up2 u.2.1 6 (a) (t), u.2.2)) H locs := Hh
            refine lv_aload_n C.1 C.2.1 dX5_change_71 rfl (lv_at hl 0 rfl) ?_
            refine gw_get (Cn := RX5) (T := TX5) (N := 29) C Hh 0 mw_at0 rfl uwX5 9 (by decide) rfl tw_732 rfl dX5_change_72 ?_
            refine lv_iload_n C.1 C.2.1 dX5_change_75 rfl (lv_at hl 1 rfl) ?_
            refine lv_iload_n C.1 C.2.1 dX5_change_76 rfl (lv_at hl 3 rfl) ?_
            refine gw_st C Hh 8 mw_at8 (by decide) mw_set8 dX5_change_77 (by omega) (fun H locs Hh => ?_)
            have Hh : gw_H G A s (mw G q (up1 u.1 0 (0), up2 (up2 u.2.1 6 (a) (t)) 8 (a) (n), u.2.2)) H locs := Hh
            refine lv_aload_n C.1 C.2.1 dX5_change_78 rfl (lv_at hl 0 rfl) ?_
            refine gw_fromI (w := mw G q) (u := (up1 u.1 0 (0), up2 (up2 u.2.1 6 (a) (t)) 8 (a) (n), u.2.2)) C Hh (gw_runV (n := 0) (C1 := RX5) [] C Hh (c_X5_cover l G q ((up1 u.1 0 (0), up2 (up2 u.2.1 6 (a) (t)) 8 (a) (n), u.2.2))  (by exact (rC_ok hm (a := a) (t := t) (n := n) (by omega) (by omega) (by omega)).1) (by exact (rC_ok hm (a := a) (t := t) (n := n) (by omega) (by omega) (by omega)).2) _) tw_831 tw_833 tw_49 tw_71 tw_834 (by decide +kernel) ⟨Nat.le_of_ble_eq_true rfl, Nat.le_of_ble_eq_true rfl⟩ 0 mw_at0 rfl rfl hl.1 (Nat.le_of_ble_eq_true rfl) dX5_change_79 ⟨Nat.zero_le _, Nat.zero_le _⟩) (fun rc_79 uc_79 H locs hp_79 Hh => ?_)
            obtain ⟨kc_79, rfl, hp_79⟩ := hp_79
            exact gw_iret (w := mw G q) (u := uc_79) C Hh dX5_change_82 ⟨_, rfl, by refine rp_y (hv9.trans (if_neg (by omega))) (cv_code hp_79.1 rfl) ⟨cv_fallen hp_79, ?_⟩; rw [tn_eq hx_a (by omega), tn_eq hx_t (by omega), tn_eq hx_n (by omega)]; exact ⟨hp_79.1, hp_79.2.1⟩⟩
          · skip
            exact absurd hc_59 (by decide)
        · skip
          refine lv_iconst (v := nI 3) C.1 C.2.1 dX5_change_47 (by decide +kernel) ?_
          refine lv_goto (tgt := 52) C.1 C.2.1 dX5_change_48 (by decide) ?_
          refine gw_put (Cn := RX5) (T := TX5) (N := 29) (ty0 := tyX5) (v := nI (3)) C Hh 0 mw_at0 rfl uwX5 tyX5_ok nmX5 0 (by decide) rfl tw_723 rfl (by decide +kernel) (Nat.le_of_ble_eq_true rfl) mw_num0 dX5_change_52 (fun H locs Hh => ?_)
          refine lv_aload_n C.1 C.2.1 dX5_change_55 rfl (lv_at hl 0 rfl) ?_
          refine gw_get (Cn := RX5) (T := TX5) (N := 29) C Hh 0 mw_at0 rfl uwX5 0 (by decide) rfl tw_723 rfl dX5_change_56 ?_
          refine W.eq (g2 := F0 m 59 ls [.int (nI (3))]) rfl ?_
          refine gw_if_le (tgt := 64) C dX5_change_59 (by decide) (by omega) (fun hc_59 => ?_) (fun hc_59 => ?_)
          · skip
            exact absurd hc_59 (by decide)
          · skip
            refine lv_iconst (v := nI 0) C.1 C.2.1 dX5_change_62 (by decide +kernel) ?_
            exact gw_iret (w := mw G q) (u := (up1 u.1 0 (3), u.2.1, u.2.2)) C Hh dX5_change_63 ⟨_, rfl, by first | exact rp_n (cdC_1 (pif_0 (hk_3.symm.trans hc_6))) (by decide) rfl | exact rp_n (cdC_2 (u := vw u) h01 hx_a hj_a (fun h => pif_0 (by rw [← hi_27]; exact hc_30) h.2)) (by decide) rfl | exact rp_n (cdC_2 (u := vw u) h01 hx_a hj_a (fun h => pif_0 (by rw [← hi_17]; exact hc_20) h.1)) (by decide) rfl | exact rp_n (hv9.trans (if_pos hc_44)) (by decide) rfl⟩
      · skip
        refine lv_iconst (v := nI 2) C.1 C.2.1 dX5_change_33 (by decide +kernel) ?_
        refine lv_goto (tgt := 52) C.1 C.2.1 dX5_change_34 (by decide) ?_
        refine gw_put (Cn := RX5) (T := TX5) (N := 29) (ty0 := tyX5) (v := nI (2)) C Hh 0 mw_at0 rfl uwX5 tyX5_ok nmX5 0 (by decide) rfl tw_723 rfl (by decide +kernel) (Nat.le_of_ble_eq_true rfl) mw_num0 dX5_change_52 (fun H locs Hh => ?_)
        refine lv_aload_n C.1 C.2.1 dX5_change_55 rfl (lv_at hl 0 rfl) ?_
        refine gw_get (Cn := RX5) (T := TX5) (N := 29) C Hh 0 mw_at0 rfl uwX5 0 (by decide) rfl tw_723 rfl dX5_change_56 ?_
        refine W.eq (g2 := F0 m 59 ls [.int (nI (2))]) rfl ?_
        refine gw_if_le (tgt := 64) C dX5_change_59 (by decide) (by omega) (fun hc_59 => ?_) (fun hc_59 => ?_)
        · skip
          exact absurd hc_59 (by decide)
        · skip
          refine lv_iconst (v := nI 0) C.1 C.2.1 dX5_change_62 (by decide +kernel) ?_
          exact gw_iret (w := mw G q) (u := (up1 u.1 0 (2), u.2.1, u.2.2)) C Hh dX5_change_63 ⟨_, rfl, by first | exact rp_n (cdC_1 (pif_0 (hk_3.symm.trans hc_6))) (by decide) rfl | exact rp_n (cdC_2 (u := vw u) h01 hx_a hj_a (fun h => pif_0 (by rw [← hi_27]; exact hc_30) h.2)) (by decide) rfl | exact rp_n (cdC_2 (u := vw u) h01 hx_a hj_a (fun h => pif_0 (by rw [← hi_17]; exact hc_20) h.1)) (by decide) rfl | exact rp_n (hv9.trans (if_pos hc_44)) (by decide) rfl⟩
  · skip
    refine lv_iconst (v := nI 1) C.1 C.2.1 dX5_change_9 (by decide +kernel) ?_
    refine lv_goto (tgt := 52) C.1 C.2.1 dX5_change_10 (by decide) ?_
    refine gw_put (Cn := RX5) (T := TX5) (N := 29) (ty0 := tyX5) (v := nI (1)) C Hh 0 mw_at0 rfl uwX5 tyX5_ok nmX5 0 (by decide) rfl tw_723 rfl (by decide +kernel) (Nat.le_of_ble_eq_true rfl) mw_num0 dX5_change_52 (fun H locs Hh => ?_)
    refine lv_aload_n C.1 C.2.1 dX5_change_55 rfl (lv_at hl 0 rfl) ?_
    refine gw_get (Cn := RX5) (T := TX5) (N := 29) C Hh 0 mw_at0 rfl uwX5 0 (by decide) rfl tw_723 rfl dX5_change_56 ?_
    refine W.eq (g2 := F0 m 59 ls [.int (nI (1))]) rfl ?_
    refine gw_if_le (tgt := 64) C dX5_change_59 (by decide) (by omega) (fun hc_59 => ?_) (fun hc_59 => ?_)
    · skip
      exact absurd hc_59 (by decide)
    · skip
      refine lv_iconst (v := nI 0) C.1 C.2.1 dX5_change_62 (by decide +kernel) ?_
      exact gw_iret (w := mw G q) (u := (up1 u.1 0 (1), u.2.1, u.2.2)) C Hh dX5_change_63 ⟨_, rfl, by first | exact rp_n (cdC_1 (pif_0 (hk_3.symm.trans hc_6))) (by decide) rfl | exact rp_n (cdC_2 (u := vw u) h01 hx_a hj_a (fun h => pif_0 (by rw [← hi_27]; exact hc_30) h.2)) (by decide) rfl | exact rp_n (cdC_2 (u := vw u) h01 hx_a hj_a (fun h => pif_0 (by rw [← hi_17]; exact hc_20) h.1)) (by decide) rfl | exact rp_n (hv9.trans (if_pos hc_44)) (by decide) rfl⟩
set_option maxHeartbeats 4000000 in
set_option maxRecDepth 100000 in
theorem c_X5_aside (l : Launch) (G : gw_G) (q : Nat → Nat) (u : md_S) (x : Int32) (y : Int32) (hm : md2 u) : gw_MI l yX5_aside cX5_aside 3 (some .int) 4 99 [.ref (q 0), .int (x), .int (y)] G (mw G q) u (fun r u1 => ∃ k : Nat, r = nI k ∧ (rp (cdS (vw u) x y) u u1 (k = rfallen u1 ∧ cv2 (rS u (tn x) (tn y)) u1))) := by
  refine gw_entryI (own := RX5) (by decide) rfl (Nat.le_of_ble_eq_true rfl) ?_
  intro p e s m args below meth c A ls C Hh hl
  have hl : lv_has ls 3 [(0, .ref (q 0)), (1, .int (x)), (2, .int (y))] := hl
  have hok := hm.1
  have hbd := hm.2
  have h01 := hok.1.1
  have h02 := hok.1.2
  refine lv_aload_n C.1 C.2.1 dX5_aside_0 rfl (lv_at hl 0 rfl) ?_
  refine lv_aload_n C.1 C.2.1 dX5_aside_1 rfl (lv_at hl 0 rfl) ?_
  refine lv_iload_n C.1 C.2.1 dX5_aside_2 rfl (lv_at hl 1 rfl) ?_
  refine gw_fromI (w := mw G q) (u := u) C Hh (gw_runV (n := 1) (C1 := RX5) [.int (x)] C Hh (c_X5_isArrival l G q (u) (x) (by exact h01) _) tw_863 tw_865 tw_56 tw_71 tw_866 (by decide +kernel) ⟨Nat.le_of_ble_eq_true rfl, Nat.le_of_ble_eq_true rfl⟩ 0 mw_at0 rfl rfl hl.1 (Nat.le_of_ble_eq_true rfl) dX5_aside_3 ⟨Nat.zero_le _, Nat.zero_le _⟩) (fun rc_3 uc_3 H locs hp_3 Hh => ?_)
  obtain ⟨kc_3, rfl, hp_3⟩ := hp_3
  obtain ⟨hk_3, hu_3⟩ := hp_3
  rw [hu_3] at Hh
  clear hu_3
  refine gw_if_ne (tgt := 13) C dX5_aside_6 (by decide) (by rw [hk_3]; exact Nat.lt_of_le_of_lt (pif_le _) (by decide)) (fun hc_6 => ?_) (fun hc_6 => ?_)
  · skip
    obtain ⟨a, hx_a, hj_a⟩ := ix_n (hc := hc_6) hk_3
    rw [hx_a] at hl
    have ha9 := hok.2.2.2.1 a (by omega)
    refine lv_iload_n C.1 C.2.1 dX5_aside_13 rfl (lv_at hl 2 rfl) ?_
    refine lv_iconst (v := nI 0) C.1 C.2.1 dX5_aside_14 (by decide +kernel) ?_
    refine lv_aload_n C.1 C.2.1 dX5_aside_15 rfl (lv_at hl 0 rfl) ?_
    refine gw_get (Cn := RX5) (T := TX5) (N := 29) C Hh 0 mw_at0 rfl uwX5 9 (by decide) rfl tw_732 rfl dX5_aside_16 ?_
    refine lv_iload_n C.1 C.2.1 dX5_aside_19 rfl (lv_at hl 1 rfl) ?_
    refine gw_ld C Hh 8 mw_at8 (by decide) dX5_aside_20 (by omega) ?_
    refine gw_fromI (w := mw G q) (u := u) C Hh (gw_runS (n := 3) [.int (y), .int (nI (0)), .int (nI (u.2.1 8 (a)))] C Hh (c_X5_in l G q (u) (y) (nI (0)) (nI (u.2.1 8 (a)))  _) tw_820 tw_821 tw_71 tw_822 (by decide +kernel) ⟨Nat.le_of_ble_eq_true rfl, Nat.le_of_ble_eq_true rfl⟩ rfl hl.1 (Nat.le_of_ble_eq_true rfl) dX5_aside_21 ⟨Nat.zero_le _, Nat.zero_le _⟩) (fun rc_21 uc_21 H locs hp_21 Hh => ?_)
    obtain ⟨kc_21, rfl, hp_21⟩ := hp_21
    obtain ⟨hk_21, hu_21⟩ := hp_21
    rw [hu_21] at Hh
    clear hu_21
    have hi_21 := ir_m (by decide) (by omega) hk_21
    refine gw_if_ne (tgt := 31) C dX5_aside_24 (by decide) (by rw [hi_21]; exact Nat.lt_of_le_of_lt (pif_le _) (by decide)) (fun hc_24 => ?_) (fun hc_24 => ?_)
    · skip
      obtain ⟨n, hx_n, hj_n⟩ := ir_n (hc := hc_24) hi_21
      rw [hx_n] at hl
      refine lv_iconst (v := nI 0) C.1 C.2.1 dX5_aside_31 (by decide +kernel) ?_
      refine gw_put (Cn := RX5) (T := TX5) (N := 29) (ty0 := tyX5) (v := nI (0)) C Hh 0 mw_at0 rfl uwX5 tyX5_ok nmX5 0 (by decide) rfl tw_723 rfl (by decide +kernel) (Nat.le_of_ble_eq_true rfl) mw_num0 dX5_aside_32 (fun H locs Hh => ?_)
      refine lv_aload_n C.1 C.2.1 dX5_aside_35 rfl (lv_at hl 0 rfl) ?_
      refine gw_get (Cn := RX5) (T := TX5) (N := 29) C Hh 0 mw_at0 rfl uwX5 0 (by decide) rfl tw_723 rfl dX5_aside_36 ?_
      refine W.eq (g2 := F0 m 39 ls [.int (nI (0))]) rfl ?_
      refine gw_if_le (tgt := 44) C dX5_aside_39 (by decide) (by omega) (fun hc_39 => ?_) (fun hc_39 => ?_)
      · skip
        refine lv_aload_n C.1 C.2.1 dX5_aside_44 rfl (lv_at hl 0 rfl) ?_
        refine gw_get (Cn := RX5) (T := TX5) (N := 29) C Hh 0 mw_at0 rfl uwX5 10 (by decide) rfl tw_733 rfl dX5_aside_45 ?_
        refine lv_iload_n C.1 C.2.1 dX5_aside_48 rfl (lv_at hl 1 rfl) ?_
        refine lv_iload_n C.1 C.2.1 dX5_aside_49 rfl (lv_at hl 2 rfl) ?_
        refine gw_st C Hh 9 mw_at9 (by decide) mw_set9 dX5_aside_50 (by omega) (fun H locs Hh => ?_)
        have Hh : gw_H G A s (mw G q (up1 u.1 0 (0), up2 u.2.1 9 (a) (n), u.2.2)) H locs := Hh
        refine lv_aload_n C.1 C.2.1 dX5_aside_51 rfl (lv_at hl 0 rfl) ?_
        refine gw_fromI (w := mw G q) (u := (up1 u.1 0 (0), up2 u.2.1 9 (a) (n), u.2.2)) C Hh (gw_runV (n := 0) (C1 := RX5) [] C Hh (c_X5_cover l G q ((up1 u.1 0 (0), up2 u.2.1 9 (a) (n), u.2.2))  (by exact (rS_ok hm (a := a) (n := n) (by omega)).1) (by exact (rS_ok hm (a := a) (n := n) (by omega)).2) _) tw_831 tw_833 tw_49 tw_71 tw_834 (by decide +kernel) ⟨Nat.le_of_ble_eq_true rfl, Nat.le_of_ble_eq_true rfl⟩ 0 mw_at0 rfl rfl hl.1 (Nat.le_of_ble_eq_true rfl) dX5_aside_52 ⟨Nat.zero_le _, Nat.zero_le _⟩) (fun rc_52 uc_52 H locs hp_52 Hh => ?_)
        obtain ⟨kc_52, rfl, hp_52⟩ := hp_52
        exact gw_iret (w := mw G q) (u := uc_52) C Hh dX5_aside_55 ⟨_, rfl, by refine rp_y (cdS_v (u := vw u) h01 ha9.2.2.1 hx_a hj_a hx_n hj_n.2) (cv_code hp_52.1 rfl) ⟨cv_fallen hp_52, ?_⟩; rw [tn_eq hx_a (by omega), tn_eq hx_n (by omega)]; exact ⟨hp_52.1, hp_52.2.1⟩⟩
      · skip
        exact absurd hc_39 (by decide)
    · skip
      refine lv_iconst (v := nI 2) C.1 C.2.1 dX5_aside_27 (by decide +kernel) ?_
      refine lv_goto (tgt := 32) C.1 C.2.1 dX5_aside_28 (by decide) ?_
      refine gw_put (Cn := RX5) (T := TX5) (N := 29) (ty0 := tyX5) (v := nI (2)) C Hh 0 mw_at0 rfl uwX5 tyX5_ok nmX5 0 (by decide) rfl tw_723 rfl (by decide +kernel) (Nat.le_of_ble_eq_true rfl) mw_num0 dX5_aside_32 (fun H locs Hh => ?_)
      refine lv_aload_n C.1 C.2.1 dX5_aside_35 rfl (lv_at hl 0 rfl) ?_
      refine gw_get (Cn := RX5) (T := TX5) (N := 29) C Hh 0 mw_at0 rfl uwX5 0 (by decide) rfl tw_723 rfl dX5_aside_36 ?_
      refine W.eq (g2 := F0 m 39 ls [.int (nI (2))]) rfl ?_
      refine gw_if_le (tgt := 44) C dX5_aside_39 (by decide) (by omega) (fun hc_39 => ?_) (fun hc_39 => ?_)
      · skip
        exact absurd hc_39 (by decide)
      · skip
        refine lv_iconst (v := nI 0) C.1 C.2.1 dX5_aside_42 (by decide +kernel) ?_
        exact gw_iret (w := mw G q) (u := (up1 u.1 0 (2), u.2.1, u.2.2)) C Hh dX5_aside_43 ⟨_, rfl, by first | exact rp_n (cdS_1 (pif_0 (hk_3.symm.trans hc_6))) (by decide) rfl | exact rp_n (cdS_2 (u := vw u) h01 hx_a hj_a (pif_0 (hi_21.symm.trans hc_24))) (by decide) rfl⟩
  · skip
    refine lv_iconst (v := nI 1) C.1 C.2.1 dX5_aside_9 (by decide +kernel) ?_
    refine lv_goto (tgt := 32) C.1 C.2.1 dX5_aside_10 (by decide) ?_
    refine gw_put (Cn := RX5) (T := TX5) (N := 29) (ty0 := tyX5) (v := nI (1)) C Hh 0 mw_at0 rfl uwX5 tyX5_ok nmX5 0 (by decide) rfl tw_723 rfl (by decide +kernel) (Nat.le_of_ble_eq_true rfl) mw_num0 dX5_aside_32 (fun H locs Hh => ?_)
    refine lv_aload_n C.1 C.2.1 dX5_aside_35 rfl (lv_at hl 0 rfl) ?_
    refine gw_get (Cn := RX5) (T := TX5) (N := 29) C Hh 0 mw_at0 rfl uwX5 0 (by decide) rfl tw_723 rfl dX5_aside_36 ?_
    refine W.eq (g2 := F0 m 39 ls [.int (nI (1))]) rfl ?_
    refine gw_if_le (tgt := 44) C dX5_aside_39 (by decide) (by omega) (fun hc_39 => ?_) (fun hc_39 => ?_)
    · skip
      exact absurd hc_39 (by decide)
    · skip
      refine lv_iconst (v := nI 0) C.1 C.2.1 dX5_aside_42 (by decide +kernel) ?_
      exact gw_iret (w := mw G q) (u := (up1 u.1 0 (1), u.2.1, u.2.2)) C Hh dX5_aside_43 ⟨_, rfl, by first | exact rp_n (cdS_1 (pif_0 (hk_3.symm.trans hc_6))) (by decide) rfl | exact rp_n (cdS_2 (u := vw u) h01 hx_a hj_a (pif_0 (hi_21.symm.trans hc_24))) (by decide) rfl⟩
set_option maxHeartbeats 4000000 in
set_option maxRecDepth 100000 in
theorem c_X5_life (l : Launch) (G : gw_G) (q : Nat → Nat) (u : md_S) (x : Int32) (y : Int32) (hm : md2 u) : gw_MI l yX5_life cX5_life 3 (some .int) 4 99 [.ref (q 0), .int (x), .int (y)] G (mw G q) u (fun r u1 => ∃ k : Nat, r = nI k ∧ (rp (cdL x y) u u1 (k = rfallen u1 ∧ cv2 (rL u (tn x) (tn y)) u1))) := by
  refine gw_entryI (own := RX5) (by decide) rfl (Nat.le_of_ble_eq_true rfl) ?_
  intro p e s m args below meth c A ls C Hh hl
  have hl : lv_has ls 3 [(0, .ref (q 0)), (1, .int (x)), (2, .int (y))] := hl
  have hok := hm.1
  have hbd := hm.2
  have h01 := hok.1.1
  have h02 := hok.1.2
  refine lv_aload_n C.1 C.2.1 dX5_life_0 rfl (lv_at hl 0 rfl) ?_
  refine lv_iload_n C.1 C.2.1 dX5_life_1 rfl (lv_at hl 1 rfl) ?_
  refine gw_fromI (w := mw G q) (u := u) C Hh (gw_runS (n := 1) [.int (x)] C Hh (c_X5_isGood l G q (u) (x)  _) tw_823 tw_824 tw_71 tw_825 (by decide +kernel) ⟨Nat.le_of_ble_eq_true rfl, Nat.le_of_ble_eq_true rfl⟩ rfl hl.1 (Nat.le_of_ble_eq_true rfl) dX5_life_2 ⟨Nat.zero_le _, Nat.zero_le _⟩) (fun rc_2 uc_2 H locs hp_2 Hh => ?_)
  obtain ⟨kc_2, rfl, hp_2⟩ := hp_2
  obtain ⟨hk_2, hu_2⟩ := hp_2
  rw [hu_2] at Hh
  clear hu_2
  refine gw_if_eq (tgt := 22) C dX5_life_5 (by decide) (by rw [hk_2]; exact Nat.lt_of_le_of_lt (pif_le _) (by decide)) (fun hc_5 => ?_) (fun hc_5 => ?_)
  · skip
    refine lv_iconst (v := nI 1) C.1 C.2.1 dX5_life_22 (by decide +kernel) ?_
    refine gw_put (Cn := RX5) (T := TX5) (N := 29) (ty0 := tyX5) (v := nI (1)) C Hh 0 mw_at0 rfl uwX5 tyX5_ok nmX5 0 (by decide) rfl tw_723 rfl (by decide +kernel) (Nat.le_of_ble_eq_true rfl) mw_num0 dX5_life_23 (fun H locs Hh => ?_)
    refine lv_aload_n C.1 C.2.1 dX5_life_26 rfl (lv_at hl 0 rfl) ?_
    refine gw_get (Cn := RX5) (T := TX5) (N := 29) C Hh 0 mw_at0 rfl uwX5 0 (by decide) rfl tw_723 rfl dX5_life_27 ?_
    refine W.eq (g2 := F0 m 30 ls [.int (nI (1))]) rfl ?_
    refine gw_if_le (tgt := 35) C dX5_life_30 (by decide) (by omega) (fun hc_30 => ?_) (fun hc_30 => ?_)
    · skip
      exact absurd hc_30 (by decide)
    · skip
      refine lv_iconst (v := nI 0) C.1 C.2.1 dX5_life_33 (by decide +kernel) ?_
      exact gw_iret (w := mw G q) (u := (up1 u.1 0 (1), u.2.1, u.2.2)) C Hh dX5_life_34 ⟨_, rfl, by first | exact rp_n (cdL_1 (fun h => pif_0 (by rw [← hi_12]; exact hc_15) h.2)) (by decide) rfl | exact rp_n (cdL_1 (fun h => pif_0 (by rw [← hk_2]; exact hc_5) h.1)) (by decide) rfl⟩
  · skip
    refine lv_iload_n C.1 C.2.1 dX5_life_8 rfl (lv_at hl 2 rfl) ?_
    refine lv_iconst (v := nI 0) C.1 C.2.1 dX5_life_9 (by decide +kernel) ?_
    refine lv_bipush (v := nI 100) C.1 C.2.1 dX5_life_10 (by decide +kernel) ?_
    refine gw_fromI (w := mw G q) (u := u) C Hh (gw_runS (n := 3) [.int (y), .int (nI (0)), .int (nI (100))] C Hh (c_X5_in l G q (u) (y) (nI (0)) (nI (100))  _) tw_820 tw_821 tw_71 tw_822 (by decide +kernel) ⟨Nat.le_of_ble_eq_true rfl, Nat.le_of_ble_eq_true rfl⟩ rfl hl.1 (Nat.le_of_ble_eq_true rfl) dX5_life_12 ⟨Nat.zero_le _, Nat.zero_le _⟩) (fun rc_12 uc_12 H locs hp_12 Hh => ?_)
    obtain ⟨kc_12, rfl, hp_12⟩ := hp_12
    obtain ⟨hk_12, hu_12⟩ := hp_12
    rw [hu_12] at Hh
    clear hu_12
    have hi_12 := ir_m (by decide) (by decide) hk_12
    refine gw_if_eq (tgt := 22) C dX5_life_15 (by decide) (by rw [hi_12]; exact Nat.lt_of_le_of_lt (pif_le _) (by decide)) (fun hc_15 => ?_) (fun hc_15 => ?_)
    · skip
      refine lv_iconst (v := nI 1) C.1 C.2.1 dX5_life_22 (by decide +kernel) ?_
      refine gw_put (Cn := RX5) (T := TX5) (N := 29) (ty0 := tyX5) (v := nI (1)) C Hh 0 mw_at0 rfl uwX5 tyX5_ok nmX5 0 (by decide) rfl tw_723 rfl (by decide +kernel) (Nat.le_of_ble_eq_true rfl) mw_num0 dX5_life_23 (fun H locs Hh => ?_)
      refine lv_aload_n C.1 C.2.1 dX5_life_26 rfl (lv_at hl 0 rfl) ?_
      refine gw_get (Cn := RX5) (T := TX5) (N := 29) C Hh 0 mw_at0 rfl uwX5 0 (by decide) rfl tw_723 rfl dX5_life_27 ?_
      refine W.eq (g2 := F0 m 30 ls [.int (nI (1))]) rfl ?_
      refine gw_if_le (tgt := 35) C dX5_life_30 (by decide) (by omega) (fun hc_30 => ?_) (fun hc_30 => ?_)
      · skip
        exact absurd hc_30 (by decide)
      · skip
        refine lv_iconst (v := nI 0) C.1 C.2.1 dX5_life_33 (by decide +kernel) ?_
        exact gw_iret (w := mw G q) (u := (up1 u.1 0 (1), u.2.1, u.2.2)) C Hh dX5_life_34 ⟨_, rfl, by first | exact rp_n (cdL_1 (fun h => pif_0 (by rw [← hi_12]; exact hc_15) h.2)) (by decide) rfl | exact rp_n (cdL_1 (fun h => pif_0 (by rw [← hk_2]; exact hc_5) h.1)) (by decide) rfl⟩
    · skip
      obtain ⟨g, hx_g, hj_g⟩ := ir_n (hc := hc_5) hk_2
      rw [hx_g] at hl
      obtain ⟨n, hx_n, hj_n⟩ := ir_n (hc := hc_15) hi_12
      rw [hx_n] at hl
      refine lv_iconst (v := nI 0) C.1 C.2.1 dX5_life_18 (by decide +kernel) ?_
      refine lv_goto (tgt := 23) C.1 C.2.1 dX5_life_19 (by decide) ?_
      refine gw_put (Cn := RX5) (T := TX5) (N := 29) (ty0 := tyX5) (v := nI (0)) C Hh 0 mw_at0 rfl uwX5 tyX5_ok nmX5 0 (by decide) rfl tw_723 rfl (by decide +kernel) (Nat.le_of_ble_eq_true rfl) mw_num0 dX5_life_23 (fun H locs Hh => ?_)
      refine lv_aload_n C.1 C.2.1 dX5_life_26 rfl (lv_at hl 0 rfl) ?_
      refine gw_get (Cn := RX5) (T := TX5) (N := 29) C Hh 0 mw_at0 rfl uwX5 0 (by decide) rfl tw_723 rfl dX5_life_27 ?_
      refine W.eq (g2 := F0 m 30 ls [.int (nI (0))]) rfl ?_
      refine gw_if_le (tgt := 35) C dX5_life_30 (by decide) (by omega) (fun hc_30 => ?_) (fun hc_30 => ?_)
      · skip
        refine lv_aload_n C.1 C.2.1 dX5_life_35 rfl (lv_at hl 0 rfl) ?_
        refine gw_get (Cn := RX5) (T := TX5) (N := 29) C Hh 0 mw_at0 rfl uwX5 1 (by decide) rfl tw_724 rfl dX5_life_36 ?_
        refine lv_iload_n C.1 C.2.1 dX5_life_39 rfl (lv_at hl 1 rfl) ?_
        refine lv_iload_n C.1 C.2.1 dX5_life_40 rfl (lv_at hl 2 rfl) ?_
        refine gw_st C Hh 1 mw_at1 (by decide) mw_set1 dX5_life_41 (by omega) (fun H locs Hh => ?_)
        have Hh : gw_H G A s (mw G q (up1 u.1 0 (0), up2 u.2.1 1 (g) (n), u.2.2)) H locs := Hh
        refine lv_aload_n C.1 C.2.1 dX5_life_42 rfl (lv_at hl 0 rfl) ?_
        refine gw_fromI (w := mw G q) (u := (up1 u.1 0 (0), up2 u.2.1 1 (g) (n), u.2.2)) C Hh (gw_runV (n := 0) (C1 := RX5) [] C Hh (c_X5_cover l G q ((up1 u.1 0 (0), up2 u.2.1 1 (g) (n), u.2.2))  (by exact (rL_ok hm (g := g) (n := n) (by omega)).1) (by exact (rL_ok hm (g := g) (n := n) (by omega)).2) _) tw_831 tw_833 tw_49 tw_71 tw_834 (by decide +kernel) ⟨Nat.le_of_ble_eq_true rfl, Nat.le_of_ble_eq_true rfl⟩ 0 mw_at0 rfl rfl hl.1 (Nat.le_of_ble_eq_true rfl) dX5_life_43 ⟨Nat.zero_le _, Nat.zero_le _⟩) (fun rc_43 uc_43 H locs hp_43 Hh => ?_)
        obtain ⟨kc_43, rfl, hp_43⟩ := hp_43
        exact gw_iret (w := mw G q) (u := uc_43) C Hh dX5_life_46 ⟨_, rfl, by refine rp_y (cdL_v hx_g (by omega) hx_n (by omega)) (cv_code hp_43.1 rfl) ⟨cv_fallen hp_43, ?_⟩; rw [tn_eq hx_g (by omega), tn_eq hx_n (by omega)]; exact ⟨hp_43.1, hp_43.2.1⟩⟩
      · skip
        exact absurd hc_30 (by decide)
set_option maxHeartbeats 4000000 in
set_option maxRecDepth 100000 in
theorem c_X5_close (l : Launch) (G : gw_G) (q : Nat → Nat) (u : md_S) (x : Int32) (hm : md2 u) : gw_MI l yX5_close cX5_close 2 (some .int) 4 99 [.ref (q 0), .int (x)] G (mw G q) u (fun r u1 => ∃ k : Nat, r = nI k ∧ (rp (cdX (vw u) x) u u1 (k = rfallen u1 ∧ cv2 (rX u (tn x)) u1))) := by
  refine gw_entryI (own := RX5) (by decide) rfl (Nat.le_of_ble_eq_true rfl) ?_
  intro p e s m args below meth c A ls C Hh hl
  have hl : lv_has ls 2 [(0, .ref (q 0)), (1, .int (x))] := hl
  have hok := hm.1
  have hbd := hm.2
  have h01 := hok.1.1
  have h02 := hok.1.2
  refine lv_aload_n C.1 C.2.1 dX5_close_0 rfl (lv_at hl 0 rfl) ?_
  refine lv_aload_n C.1 C.2.1 dX5_close_1 rfl (lv_at hl 0 rfl) ?_
  refine lv_iload_n C.1 C.2.1 dX5_close_2 rfl (lv_at hl 1 rfl) ?_
  refine gw_fromI (w := mw G q) (u := u) C Hh (gw_runV (n := 1) (C1 := RX5) [.int (x)] C Hh (c_X5_isOrder l G q (u) (x) (by exact h02) _) tw_903 tw_905 tw_60 tw_71 tw_906 (by decide +kernel) ⟨Nat.le_of_ble_eq_true rfl, Nat.le_of_ble_eq_true rfl⟩ 0 mw_at0 rfl rfl hl.1 (Nat.le_of_ble_eq_true rfl) dX5_close_3 ⟨Nat.zero_le _, Nat.zero_le _⟩) (fun rc_3 uc_3 H locs hp_3 Hh => ?_)
  obtain ⟨kc_3, rfl, hp_3⟩ := hp_3
  obtain ⟨hk_3, hu_3⟩ := hp_3
  rw [hu_3] at Hh
  clear hu_3
  refine gw_if_ne (tgt := 13) C dX5_close_6 (by decide) (by rw [hk_3]; exact Nat.lt_of_le_of_lt (pif_le _) (by decide)) (fun hc_6 => ?_) (fun hc_6 => ?_)
  · skip
    obtain ⟨a, hx_a, hj_a⟩ := ix_n (hc := hc_6) hk_3
    rw [hx_a] at hl
    have ha9 := hok.2.2.2.2 a (by omega)
    have hv9 : cdX (vw u) x = if u.2.1 14 a = 2 then 2 else 0 := cdX_v h02 hx_a hj_a
    refine lv_iconst (v := nI 0) C.1 C.2.1 dX5_close_13 (by decide +kernel) ?_
    refine gw_put (Cn := RX5) (T := TX5) (N := 29) (ty0 := tyX5) (v := nI (0)) C Hh 0 mw_at0 rfl uwX5 tyX5_ok nmX5 0 (by decide) rfl tw_723 rfl (by decide +kernel) (Nat.le_of_ble_eq_true rfl) mw_num0 dX5_close_14 (fun H locs Hh => ?_)
    refine lv_aload_n C.1 C.2.1 dX5_close_17 rfl (lv_at hl 0 rfl) ?_
    refine gw_get (Cn := RX5) (T := TX5) (N := 29) C Hh 0 mw_at0 rfl uwX5 0 (by decide) rfl tw_723 rfl dX5_close_18 ?_
    refine W.eq (g2 := F0 m 21 ls [.int (nI (0))]) rfl ?_
    refine gw_if_ne (tgt := 43) C dX5_close_21 (by decide) (by omega) (fun hc_21 => ?_) (fun hc_21 => ?_)
    · skip
      exact absurd hc_21 (by decide)
    · skip
      refine lv_aload_n C.1 C.2.1 dX5_close_24 rfl (lv_at hl 0 rfl) ?_
      refine lv_aload_n C.1 C.2.1 dX5_close_25 rfl (lv_at hl 0 rfl) ?_
      refine gw_get (Cn := RX5) (T := TX5) (N := 29) C Hh 0 mw_at0 rfl uwX5 16 (by decide) rfl tw_739 rfl dX5_close_26 ?_
      refine lv_iload_n C.1 C.2.1 dX5_close_29 rfl (lv_at hl 1 rfl) ?_
      refine gw_ld C Hh 14 mw_at14 (by decide) dX5_close_30 (by omega) ?_
      refine W.eq (g2 := F0 m 31 ls [.int (nI (u.2.1 14 (a))), .ref (q 0)]) rfl ?_
      refine lv_iconst (v := nI 2) C.1 C.2.1 dX5_close_31 (by decide +kernel) ?_
      refine gw_icmp_ne (tgt := 39) C dX5_close_32 (by decide) (by omega) (by omega) (fun hc_32 => ?_) (fun hc_32 => ?_)
      · skip
        refine lv_iconst (v := nI 0) C.1 C.2.1 dX5_close_39 (by decide +kernel) ?_
        refine gw_put (Cn := RX5) (T := TX5) (N := 29) (ty0 := tyX5) (v := nI (0)) C Hh 0 mw_at0 rfl uwX5 tyX5_ok nmX5 0 (by decide) rfl tw_723 rfl (by decide +kernel) (Nat.le_of_ble_eq_true rfl) mw_num0 dX5_close_40 (fun H locs Hh => ?_)
        refine lv_aload_n C.1 C.2.1 dX5_close_43 rfl (lv_at hl 0 rfl) ?_
        refine gw_get (Cn := RX5) (T := TX5) (N := 29) C Hh 0 mw_at0 rfl uwX5 0 (by decide) rfl tw_723 rfl dX5_close_44 ?_
        refine W.eq (g2 := F0 m 47 ls [.int (nI (0))]) rfl ?_
        refine gw_if_le (tgt := 52) C dX5_close_47 (by decide) (by omega) (fun hc_47 => ?_) (fun hc_47 => ?_)
        · skip
          refine lv_aload_n C.1 C.2.1 dX5_close_52 rfl (lv_at hl 0 rfl) ?_
          refine gw_get (Cn := RX5) (T := TX5) (N := 29) C Hh 0 mw_at0 rfl uwX5 16 (by decide) rfl tw_739 rfl dX5_close_53 ?_
          refine lv_iload_n C.1 C.2.1 dX5_close_56 rfl (lv_at hl 1 rfl) ?_
          refine lv_iconst (v := nI 2) C.1 C.2.1 dX5_close_57 (by decide +kernel) ?_
          refine gw_st C Hh 14 mw_at14 (by decide) mw_set14 dX5_close_58 (by omega) (fun H locs Hh => ?_)
          have Hh : gw_H G A s (mw G q (up1 (up1 u.1 0 (0)) 0 (0), up2 u.2.1 14 (a) (2), u.2.2)) H locs := Hh
          refine lv_aload_n C.1 C.2.1 dX5_close_59 rfl (lv_at hl 0 rfl) ?_
          refine gw_fromI (w := mw G q) (u := (up1 (up1 u.1 0 (0)) 0 (0), up2 u.2.1 14 (a) (2), u.2.2)) C Hh (gw_runV (n := 0) (C1 := RX5) [] C Hh (c_X5_cover l G q ((up1 (up1 u.1 0 (0)) 0 (0), up2 u.2.1 14 (a) (2), u.2.2))  (by exact up1_id9 (rX_ok hm (a := a)).1) (by exact (rX_ok hm (a := a)).2) _) tw_831 tw_833 tw_49 tw_71 tw_834 (by decide +kernel) ⟨Nat.le_of_ble_eq_true rfl, Nat.le_of_ble_eq_true rfl⟩ 0 mw_at0 rfl rfl hl.1 (Nat.le_of_ble_eq_true rfl) dX5_close_60 ⟨Nat.zero_le _, Nat.zero_le _⟩) (fun rc_60 uc_60 H locs hp_60 Hh => ?_)
          obtain ⟨kc_60, rfl, hp_60⟩ := hp_60
          exact gw_iret (w := mw G q) (u := uc_60) C Hh dX5_close_63 ⟨_, rfl, by refine rp_y (hv9.trans (if_neg (by omega))) (cv_code hp_60.1 rfl) ⟨cv_fallen hp_60, ?_⟩; rw [tn_eq hx_a (by omega)]; have q9 := hp_60; rw [up1_up1] at q9; exact ⟨q9.1, q9.2.1⟩⟩
        · skip
          exact absurd hc_47 (by decide)
      · skip
        refine lv_iconst (v := nI 2) C.1 C.2.1 dX5_close_35 (by decide +kernel) ?_
        refine lv_goto (tgt := 40) C.1 C.2.1 dX5_close_36 (by decide) ?_
        refine gw_put (Cn := RX5) (T := TX5) (N := 29) (ty0 := tyX5) (v := nI (2)) C Hh 0 mw_at0 rfl uwX5 tyX5_ok nmX5 0 (by decide) rfl tw_723 rfl (by decide +kernel) (Nat.le_of_ble_eq_true rfl) mw_num0 dX5_close_40 (fun H locs Hh => ?_)
        refine lv_aload_n C.1 C.2.1 dX5_close_43 rfl (lv_at hl 0 rfl) ?_
        refine gw_get (Cn := RX5) (T := TX5) (N := 29) C Hh 0 mw_at0 rfl uwX5 0 (by decide) rfl tw_723 rfl dX5_close_44 ?_
        refine W.eq (g2 := F0 m 47 ls [.int (nI (2))]) rfl ?_
        refine gw_if_le (tgt := 52) C dX5_close_47 (by decide) (by omega) (fun hc_47 => ?_) (fun hc_47 => ?_)
        · skip
          exact absurd hc_47 (by decide)
        · skip
          refine lv_iconst (v := nI 0) C.1 C.2.1 dX5_close_50 (by decide +kernel) ?_
          exact gw_iret (w := mw G q) (u := (up1 (up1 u.1 0 (0)) 0 (2), u.2.1, u.2.2)) C Hh dX5_close_51 ⟨_, rfl, by first | exact rp_n (cdX_1 (pif_0 (hk_3.symm.trans hc_6))) (by decide) rfl | exact rp_n (hv9.trans (if_pos (by omega))) (by decide) (by rw [up1_up1])⟩
  · skip
    refine lv_iconst (v := nI 1) C.1 C.2.1 dX5_close_9 (by decide +kernel) ?_
    refine lv_goto (tgt := 14) C.1 C.2.1 dX5_close_10 (by decide) ?_
    refine gw_put (Cn := RX5) (T := TX5) (N := 29) (ty0 := tyX5) (v := nI (1)) C Hh 0 mw_at0 rfl uwX5 tyX5_ok nmX5 0 (by decide) rfl tw_723 rfl (by decide +kernel) (Nat.le_of_ble_eq_true rfl) mw_num0 dX5_close_14 (fun H locs Hh => ?_)
    refine lv_aload_n C.1 C.2.1 dX5_close_17 rfl (lv_at hl 0 rfl) ?_
    refine gw_get (Cn := RX5) (T := TX5) (N := 29) C Hh 0 mw_at0 rfl uwX5 0 (by decide) rfl tw_723 rfl dX5_close_18 ?_
    refine W.eq (g2 := F0 m 21 ls [.int (nI (1))]) rfl ?_
    refine gw_if_ne (tgt := 43) C dX5_close_21 (by decide) (by omega) (fun hc_21 => ?_) (fun hc_21 => ?_)
    · skip
      refine lv_aload_n C.1 C.2.1 dX5_close_43 rfl (lv_at hl 0 rfl) ?_
      refine gw_get (Cn := RX5) (T := TX5) (N := 29) C Hh 0 mw_at0 rfl uwX5 0 (by decide) rfl tw_723 rfl dX5_close_44 ?_
      refine W.eq (g2 := F0 m 47 ls [.int (nI (1))]) rfl ?_
      refine gw_if_le (tgt := 52) C dX5_close_47 (by decide) (by omega) (fun hc_47 => ?_) (fun hc_47 => ?_)
      · skip
        exact absurd hc_47 (by decide)
      · skip
        refine lv_iconst (v := nI 0) C.1 C.2.1 dX5_close_50 (by decide +kernel) ?_
        exact gw_iret (w := mw G q) (u := (up1 u.1 0 (1), u.2.1, u.2.2)) C Hh dX5_close_51 ⟨_, rfl, by first | exact rp_n (cdX_1 (pif_0 (hk_3.symm.trans hc_6))) (by decide) rfl | exact rp_n (hv9.trans (if_pos (by omega))) (by decide) (by rw [up1_up1])⟩
    · skip
      exact absurd hc_21 (by decide)
set_option maxHeartbeats 4000000 in
set_option maxRecDepth 100000 in
theorem c_X5_state (l : Launch) (G : gw_G) (q : Nat → Nat) (u : md_S) (x : Int32) (hm : md2 u) : gw_MI l yX5_state cX5_state 2 (some .int) 2 43 [.ref (q 0), .int (x)] G (mw G q) u (fun r u1 => ∃ k : Nat, r = nI k ∧ (rp (cdN (u.1 2) x) u u1 (k = u.2.1 14 (tn x) ∧ u1 = (up1 u.1 0 0, u.2)))) := by
  refine gw_entryI (own := RX5) (by decide) rfl (Nat.le_of_ble_eq_true rfl) ?_
  intro p e s m args below meth c A ls C Hh hl
  have hl : lv_has ls 2 [(0, .ref (q 0)), (1, .int (x))] := hl
  have hok := hm.1
  have hbd := hm.2
  have h01 := hok.1.1
  have h02 := hok.1.2
  refine lv_aload_n C.1 C.2.1 dX5_state_0 rfl (lv_at hl 0 rfl) ?_
  refine lv_aload_n C.1 C.2.1 dX5_state_1 rfl (lv_at hl 0 rfl) ?_
  refine lv_iload_n C.1 C.2.1 dX5_state_2 rfl (lv_at hl 1 rfl) ?_
  refine gw_fromI (w := mw G q) (u := u) C Hh (gw_runV (n := 1) (C1 := RX5) [.int (x)] C Hh (c_X5_isOrder l G q (u) (x) (by exact h02) _) tw_903 tw_905 tw_60 tw_71 tw_906 (by decide +kernel) ⟨Nat.le_of_ble_eq_true rfl, Nat.le_of_ble_eq_true rfl⟩ 0 mw_at0 rfl rfl hl.1 (Nat.le_of_ble_eq_true rfl) dX5_state_3 ⟨Nat.zero_le _, Nat.zero_le _⟩) (fun rc_3 uc_3 H locs hp_3 Hh => ?_)
  obtain ⟨kc_3, rfl, hp_3⟩ := hp_3
  obtain ⟨hk_3, hu_3⟩ := hp_3
  rw [hu_3] at Hh
  clear hu_3
  refine gw_if_eq (tgt := 13) C dX5_state_6 (by decide) (by rw [hk_3]; exact Nat.lt_of_le_of_lt (pif_le _) (by decide)) (fun hc_6 => ?_) (fun hc_6 => ?_)
  · skip
    refine lv_iconst (v := nI 1) C.1 C.2.1 dX5_state_13 (by decide +kernel) ?_
    refine gw_put (Cn := RX5) (T := TX5) (N := 29) (ty0 := tyX5) (v := nI (1)) C Hh 0 mw_at0 rfl uwX5 tyX5_ok nmX5 0 (by decide) rfl tw_723 rfl (by decide +kernel) (Nat.le_of_ble_eq_true rfl) mw_num0 dX5_state_14 (fun H locs Hh => ?_)
    refine lv_aload_n C.1 C.2.1 dX5_state_17 rfl (lv_at hl 0 rfl) ?_
    refine gw_get (Cn := RX5) (T := TX5) (N := 29) C Hh 0 mw_at0 rfl uwX5 0 (by decide) rfl tw_723 rfl dX5_state_18 ?_
    refine W.eq (g2 := F0 m 21 ls [.int (nI (1))]) rfl ?_
    refine gw_if_le (tgt := 28) C dX5_state_21 (by decide) (by omega) (fun hc_21 => ?_) (fun hc_21 => ?_)
    · skip
      exact absurd hc_21 (by decide)
    · skip
      refine lv_iconst (v := nI 0) C.1 C.2.1 dX5_state_24 (by decide +kernel) ?_
      refine lv_goto (tgt := 34) C.1 C.2.1 dX5_state_25 (by decide) ?_
      exact gw_iret (w := mw G q) (u := (up1 u.1 0 (1), u.2.1, u.2.2)) C Hh dX5_state_34 ⟨_, rfl, by first | exact rp_n (cdN_1 (pif_0 (hk_3.symm.trans hc_6))) (by decide) rfl | (refine rp_y (cdN_v h02 hx_a hj_a) rfl ⟨?_, rfl⟩; rw [tn_eq hx_a (by omega)])⟩
  · skip
    obtain ⟨a, hx_a, hj_a⟩ := ix_n (hc := hc_6) hk_3
    rw [hx_a] at hl
    refine lv_iconst (v := nI 0) C.1 C.2.1 dX5_state_9 (by decide +kernel) ?_
    refine lv_goto (tgt := 14) C.1 C.2.1 dX5_state_10 (by decide) ?_
    refine gw_put (Cn := RX5) (T := TX5) (N := 29) (ty0 := tyX5) (v := nI (0)) C Hh 0 mw_at0 rfl uwX5 tyX5_ok nmX5 0 (by decide) rfl tw_723 rfl (by decide +kernel) (Nat.le_of_ble_eq_true rfl) mw_num0 dX5_state_14 (fun H locs Hh => ?_)
    refine lv_aload_n C.1 C.2.1 dX5_state_17 rfl (lv_at hl 0 rfl) ?_
    refine gw_get (Cn := RX5) (T := TX5) (N := 29) C Hh 0 mw_at0 rfl uwX5 0 (by decide) rfl tw_723 rfl dX5_state_18 ?_
    refine W.eq (g2 := F0 m 21 ls [.int (nI (0))]) rfl ?_
    refine gw_if_le (tgt := 28) C dX5_state_21 (by decide) (by omega) (fun hc_21 => ?_) (fun hc_21 => ?_)
    · skip
      refine lv_aload_n C.1 C.2.1 dX5_state_28 rfl (lv_at hl 0 rfl) ?_
      refine gw_get (Cn := RX5) (T := TX5) (N := 29) C Hh 0 mw_at0 rfl uwX5 16 (by decide) rfl tw_739 rfl dX5_state_29 ?_
      refine lv_iload_n C.1 C.2.1 dX5_state_32 rfl (lv_at hl 1 rfl) ?_
      refine gw_ld C Hh 14 mw_at14 (by decide) dX5_state_33 (by omega) ?_
      refine W.eq (g2 := F0 m 34 ls [.int (nI (u.2.1 14 (a)))]) rfl ?_
      exact gw_iret (w := mw G q) (u := (up1 u.1 0 (0), u.2.1, u.2.2)) C Hh dX5_state_34 ⟨_, rfl, by first | exact rp_n (cdN_1 (pif_0 (hk_3.symm.trans hc_6))) (by decide) rfl | (refine rp_y (cdN_v h02 hx_a hj_a) rfl ⟨?_, rfl⟩; rw [tn_eq hx_a (by omega)])⟩
    · skip
      exact absurd hc_21 (by decide)
