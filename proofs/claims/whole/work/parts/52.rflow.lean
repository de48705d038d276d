/-! left, flow, bars -/
theorem enu_sum {w : pf_S} {D : Nat} {e : Nat → Nat} (he : enu w D e) (h10 : w.1 1 ≤ 10) (F : Nat → Nat) : fl_sum (fun j => F (e j)) D = fl_sum (fun d => pif (cvd w d) (F d) 0) 31 := by
  rw [rx (e := e) (F := F) (N := 31) (fun j hj => by have := (he.1 j hj).1; omega) (fun j k hj hk => pbf_ne (he.2.2 j k hj hk))]
  refine fl_sum_congr fun d _ => pif_iff ⟨fun ⟨i, hi, q⟩ => ?_, fun q => he.2.1 d q⟩
  rw [← q]
  exact he.1 i hi
/-- the entries of the plan, by their demands -/
def en2 (w : pf_S) (X : Nat → Nat → Nat) (E : Nat) (dr br : Nat → Nat) : Prop := (∀ r, r < E → cvd w (dr r) ∧ br r < w.1 0 ∧ 0 < X (dr r) (br r)) ∧ (∀ d b, cvd w d → b < w.1 0 → 0 < X d b → ∃ r, r < E ∧ dr r = d ∧ br r = b) ∧ ∀ r s, r < s → s < E → pbf w (dr r) (dr s) ∨ (dr r = dr s ∧ kx_lt (w.2 10) (br r) (br s))
theorem pl_en {u v : md_S} {X : Nat → Nat → Nat} (h : pl_post u X v) : ∃ dr br, en2 (vw u) X (v.1 4) dr br ∧ ∀ r, r < v.1 4 → v.2.1 20 r = dr r / 3 ∧ v.2.1 18 (v.2.1 21 r) = cmk (vw u) (dr r) ∧ v.2.1 21 r < 40 ∧ v.2.1 22 r = gd_dg (vw u) ((vw u).2 15 (dr r / 3)) (dr r % 3) ∧ v.2.1 23 r = br r ∧ v.2.1 24 r = X (dr r) (br r) := by
  obtain ⟨e, D, he, hD, -, h1, h2, h3, h4, h5, h6, jr, br, h7, h8, h9⟩ := h
  refine ⟨fun r => e (jr r), br, ⟨fun r hr => ?_, fun d b hd hb h0 => ?_, fun r s hrs hs => ?_⟩, fun r hr => ?_⟩
  · obtain ⟨⟨g1, g2, g3, g4⟩, g5⟩ := h7 r hr
    exact ⟨he.1 _ g2, g3, g4⟩
  · obtain ⟨j, j1, j2⟩ := he.2.1 d hd
    rw [← j2] at h0
    obtain ⟨r, r1, r2, r3⟩ := h8 j b j1 hb (Or.inl j1) h0
    exact ⟨r, r1, (congrArg e r2).trans j2, r3⟩
  · have g2 := (h7 s hs).1.2.1
    rcases h9 r s hrs hs with q | q
    · exact Or.inl (he.2.2 _ _ q g2)
    · exact Or.inr ⟨congrArg e q.1, q.2⟩
  · obtain ⟨⟨g1, g2, g3, g4⟩, g5, g6, g7, g8, g9⟩ := h7 r hr
    exact ⟨g5, by rw [g6]; exact (h4 _ g2).2.2, by rw [g6]; omega, g7, g8, g9⟩
theorem pl_has {u v : md_S} {X : Nat → Nat → Nat} (hok : md_ok u) (h : pl_post u X v) {a : Nat} (ha : a < u.1 1) : v.2.2 19 a = (fr_of (vw u) a : Int) - (fl_sum (fun d => pif (cvd (vw u) d) (X d a) 0) 31 : Int) := by
  obtain ⟨e, D, he, hD, -, h1, h2, h3, h4, h5, -⟩ := h
  rw [h5 a ha]
  unfold pn_h
  rw [pif_neg not_false, enu_sum he hok.1.2 (fun d => X d a)]
  show _ - _ - (0 : Int) = _
  omega
theorem n0_nI {z : Int32} (h : 0 ≤ z) : ∃ j, z = nI j ∧ j < 2 ^ 31 := by
  obtain ⟨j, h1, h2⟩ := nI_of (Int32.not_lt.mpr h)
  exact ⟨j, h2, h1⟩
theorem pl_cf {u v : md_S} {X : Nat → Nat → Nat} (h : pl_post u X v) : cf u v ∧ md_bd v ∧ v.1 4 ≤ 300 := by
  obtain ⟨e, D, he, hD, h4, h1, h2, -⟩ := h
  exact ⟨h1, h2, h4⟩
set_option maxHeartbeats 4000000 in
set_option maxRecDepth 100000 in
theorem c_X5_left (l : Launch) (G : gw_G) (q : Nat → Nat) (u : md_S) (x : Int32) (X : Nat → Nat → Nat) (hm : md2 u) (hX : X_ok (vw u) X) : gw_MI l yX5_left cX5_left 2 (some .int) 5 120 [.ref (q 0), .int (x)] G (mw G q) u (fun r u1 => ∃ k : Nat, r = nI k ∧ (rp (cdN (u.1 1) x) u u1 (sc u u1 ∧ md_bd u1 ∧ (k : Int) = (fr_of (vw u) (tn x) : Int) - (fl_sum (fun d => pif (cvd (vw u) d) (X d (tn x)) 0) 31 : Int)))) := by
  refine gw_entryI (own := RX5) (by decide) rfl (Nat.le_of_ble_eq_true rfl) ?_
  intro p e s m args below meth c A ls C Hh hl
  have hl : lv_has ls 2 [(0, .ref (q 0)), (1, .int (x))] := hl
  have hok := hm.1
  have hbd := hm.2
  have h01 := hok.1.1
  have h02 := hok.1.2
  have hsU : sc u (up1 u.1 0 0, u.2) := ⟨rfl, rfl, fun _ _ _ => rfl⟩
  have hbU : md_bd (up1 u.1 0 0, u.2) := bd_code hbd rfl rfl
  have hokU := sc_ok hsU hok
  refine lv_aload_n C.1 C.2.1 dX5_left_0 rfl (lv_at hl 0 rfl) ?_
  refine lv_aload_n C.1 C.2.1 dX5_left_1 rfl (lv_at hl 0 rfl) ?_
  refine lv_iload_n C.1 C.2.1 dX5_left_2 rfl (lv_at hl 1 rfl) ?_
  refine gw_fromI (w := mw G q) (u := u) C Hh (gw_runV (n := 1) (C1 := RX5) [.int (x)] C Hh (c_X5_isArrival l G q (u) (x) (by exact h01) _) tw_863 tw_865 tw_56 tw_71 tw_866 (by decide +kernel) ⟨Nat.le_of_ble_eq_true rfl, Nat.le_of_ble_eq_true rfl⟩ 0 mw_at0 rfl rfl hl.1 (Nat.le_of_ble_eq_true rfl) dX5_left_3 ⟨Nat.zero_le _, Nat.zero_le _⟩) (fun rc_3 uc_3 H locs hp_3 Hh => ?_)
  obtain ⟨kc_3, rfl, hp_3⟩ := hp_3
  obtain ⟨hk_3, hu_3⟩ := hp_3
  rw [hu_3] at Hh
  clear hu_3
  refine gw_if_eq (tgt := 13) C dX5_left_6 (by decide) (by rw [hk_3]; exact Nat.lt_of_le_of_lt (pif_le _) (by decide)) (fun hc_6 => ?_) (fun hc_6 => ?_)
  · skip
    refine lv_iconst (v := nI 1) C.1 C.2.1 dX5_left_13 (by decide +kernel) ?_
    refine gw_put (Cn := RX5) (T := TX5) (N := 29) (ty0 := tyX5) (v := nI (1)) C Hh 0 mw_at0 rfl uwX5 tyX5_ok nmX5 0 (by decide) rfl tw_723 rfl (by decide +kernel) (Nat.le_of_ble_eq_true rfl) mw_num0 dX5_left_14 (fun H locs Hh => ?_)
    refine lv_aload_n C.1 C.2.1 dX5_left_17 rfl (lv_at hl 0 rfl) ?_
    refine gw_get (Cn := RX5) (T := TX5) (N := 29) C Hh 0 mw_at0 rfl uwX5 0 (by decide) rfl tw_723 rfl dX5_left_18 ?_
    refine W.eq (g2 := F0 m 21 ls [.int (nI (1))]) rfl ?_
    refine gw_if_le (tgt := 26) C dX5_left_21 (by decide) (by omega) (fun hc_21 => ?_) (fun hc_21 => ?_)
    · skip
      exact absurd hc_21 (by decide)
    · skip
      refine lv_iconst (v := nI 0) C.1 C.2.1 dX5_left_24 (by decide +kernel) ?_
      exact gw_iret (w := mw G q) (u := (up1 u.1 0 (1), u.2.1, u.2.2)) C Hh dX5_left_25 ⟨_, rfl, by exact rp_n (cdN_1 (pif_0 (hk_3.symm.trans hc_6))) (by decide) rfl⟩
  · skip
    obtain ⟨a, hx_a, hj_a⟩ := ix_n (hc := hc_6) hk_3
    rw [hx_a] at hl
    refine lv_iconst (v := nI 0) C.1 C.2.1 dX5_left_9 (by decide +kernel) ?_
    refine lv_goto (tgt := 14) C.1 C.2.1 dX5_left_10 (by decide) ?_
    refine gw_put (Cn := RX5) (T := TX5) (N := 29) (ty0 := tyX5) (v := nI (0)) C Hh 0 mw_at0 rfl uwX5 tyX5_ok nmX5 0 (by decide) rfl tw_723 rfl (by decide +kernel) (Nat.le_of_ble_eq_true rfl) mw_num0 dX5_left_14 (fun H locs Hh => ?_)
    refine lv_aload_n C.1 C.2.1 dX5_left_17 rfl (lv_at hl 0 rfl) ?_
    refine gw_get (Cn := RX5) (T := TX5) (N := 29) C Hh 0 mw_at0 rfl uwX5 0 (by decide) rfl tw_723 rfl dX5_left_18 ?_
    refine W.eq (g2 := F0 m 21 ls [.int (nI (0))]) rfl ?_
    refine gw_if_le (tgt := 26) C dX5_left_21 (by decide) (by omega) (fun hc_21 => ?_) (fun hc_21 => ?_)
    · skip
      refine lv_aload_n C.1 C.2.1 dX5_left_26 rfl (lv_at hl 0 rfl) ?_
      refine gw_fromV (w := mw G q) (u := (up1 u.1 0 (0), u.2.1, u.2.2)) C Hh (gw_runV (n := 0) (C1 := RX5) [] C Hh (c_X5_plan l G q ((up1 u.1 0 (0), u.2.1, u.2.2)) (X) (by exact ⟨hokU, hbU⟩) (by exact hX) _) tw_925 tw_927 tw_62 tw_71 tw_928 (by decide +kernel) ⟨Nat.le_of_ble_eq_true rfl, Nat.le_of_ble_eq_true rfl⟩ 0 mw_at0 rfl rfl hl.1 (Nat.le_of_ble_eq_true rfl) dX5_left_27 ⟨Nat.zero_le _, Nat.zero_le _⟩) (fun uc_27 H locs hp_27 Hh => ?_)
      have hc27 := pl_cf hp_27
      have hh27 := pl_has hokU hp_27 hj_a
      have n27 : uc_27.1 1 = u.1 1 := hc27.1.1.1
      have hb27 := hc27.2.1.2.2 a (by omega)
      refine lv_aload_n C.1 C.2.1 dX5_left_30 rfl (lv_at hl 0 rfl) ?_
      refine gw_get (Cn := RX5) (T := TX5) (N := 29) C Hh 0 mw_at0 rfl uwX5 22 (by decide) rfl tw_745 rfl dX5_left_31 ?_
      refine lv_iload_n C.1 C.2.1 dX5_left_34 rfl (lv_at hl 1 rfl) ?_
      refine gw_lld C Hh 19 mw_at19 (by decide) dX5_left_35 (by omega) ?_
      refine gw_l2i C dX5_left_36 (by omega) (by omega) ?_
      exact gw_iret (w := mw G q) (u := uc_27) C Hh dX5_left_37 ⟨_, rfl, by refine rp_y (cdN_v h01 hx_a hj_a) hc27.1.2 ⟨hsU.tr hc27.1.1, hc27.2.1, ?_⟩; rw [tn_eq hx_a (by omega), Int.toNat_of_nonneg hb27.1]; exact hh27⟩
    · skip
      exact absurd hc_21 (by decide)
/-! flow -/
def fc (dr : Nat → Nat) (o r : Nat) : Nat := fl_sum (fun s => if dr s / 3 = o then 1 else 0) r
theorem fc_s (dr : Nat → Nat) (o r : Nat) : fc dr o (r + 1) = fc dr o r + if dr r / 3 = o then 1 else 0 := rfl
def rf_post (w : pf_S) (X : Nat → Nat → Nat) (o i wh k : Nat) : Prop := ∃ E dr br, en2 w X E dr br ∧ ((∃ r, r < E ∧ dr r / 3 = o ∧ fc dr o r = i ∧ k = if wh = 0 then br r else if wh = 1 then gd_dg w (w.2 15 o) (dr r % 3) else X (dr r) (br r)) ∨ (k = 4294967295 ∧ fc dr o E ≤ i))
set_option maxHeartbeats 4000000 in
set_option maxRecDepth 100000 in
theorem c_X5_flow (l : Launch) (G : gw_G) (q : Nat → Nat) (u : md_S) (x : Int32) (y : Int32) (z : Int32) (X : Nat → Nat → Nat) (hm : md2 u) (hX : X_ok (vw u) X) : gw_MI l yX5_flow cX5_flow 6 (some .int) 5 120 [.ref (q 0), .int (x), .int (y), .int (z)] G (mw G q) u (fun r u1 => ∃ k : Nat, r = nI k ∧ (rp (cdF (vw u) x y z) u u1 (sc u u1 ∧ md_bd u1 ∧ rf_post (vw u) X (tn x) (tn y) (tn z) k))) := by
  refine gw_entryI (own := RX5) (by decide) rfl (Nat.le_of_ble_eq_true rfl) ?_
  intro p e s m args below meth c A ls C Hh hl
  have hl : lv_has ls 6 [(0, .ref (q 0)), (1, .int (x)), (2, .int (y)), (3, .int (z))] := hl
  have hok := hm.1
  have hbd := hm.2
  have h01 := hok.1.1
  have h02 := hok.1.2
  have hsU : sc u (up1 u.1 0 0, u.2) := ⟨rfl, rfl, fun _ _ _ => rfl⟩
  have hbU : md_bd (up1 u.1 0 0, u.2) := bd_code hbd rfl rfl
  have hokU := sc_ok hsU hok
  refine lv_aload_n C.1 C.2.1 dX5_flow_0 rfl (lv_at hl 0 rfl) ?_
  refine lv_aload_n C.1 C.2.1 dX5_flow_1 rfl (lv_at hl 0 rfl) ?_
  refine lv_iload_n C.1 C.2.1 dX5_flow_2 rfl (lv_at hl 1 rfl) ?_
  refine gw_fromI (w := mw G q) (u := u) C Hh (gw_runV (n := 1) (C1 := RX5) [.int (x)] C Hh (c_X5_isOrder l G q (u) (x) (by exact h02) _) tw_903 tw_905 tw_60 tw_71 tw_906 (by decide +kernel) ⟨Nat.le_of_ble_eq_true rfl, Nat.le_of_ble_eq_true rfl⟩ 0 mw_at0 rfl rfl hl.1 (Nat.le_of_ble_eq_true rfl) dX5_flow_3 ⟨Nat.zero_le _, Nat.zero_le _⟩) (fun rc_3 uc_3 H locs hp_3 Hh => ?_)
  obtain ⟨kc_3, rfl, hp_3⟩ := hp_3
  obtain ⟨hk_3, hu_3⟩ := hp_3
  rw [hu_3] at Hh
  clear hu_3
  refine gw_if_ne (tgt := 13) C dX5_flow_6 (by decide) (by rw [hk_3]; exact Nat.lt_of_le_of_lt (pif_le _) (by decide)) (fun hc_6 => ?_) (fun hc_6 => ?_)
  · skip
    obtain ⟨o, hx_o, hj_o⟩ := ix_n (hc := hc_6) hk_3
    rw [hx_o] at hl
    have ho9 := hok.2.2.2.2 o (by omega)
    refine lv_iload_n C.1 C.2.1 dX5_flow_13 rfl (lv_at hl 2 rfl) ?_
    refine lv_if_lt (tgt := 26) C.1 C.2.1 dX5_flow_14 (by decide) (fun hc_14 => ?_) (fun hc_14 => ?_)
    · skip
      refine lv_iconst (v := nI 2) C.1 C.2.1 dX5_flow_26 (by decide +kernel) ?_
      refine lv_goto (tgt := 31) C.1 C.2.1 dX5_flow_27 (by decide) ?_
      refine gw_put (Cn := RX5) (T := TX5) (N := 29) (ty0 := tyX5) (v := nI (2)) C Hh 0 mw_at0 rfl uwX5 tyX5_ok nmX5 0 (by decide) rfl tw_723 rfl (by decide +kernel) (Nat.le_of_ble_eq_true rfl) mw_num0 dX5_flow_31 (fun H locs Hh => ?_)
      refine lv_aload_n C.1 C.2.1 dX5_flow_34 rfl (lv_at hl 0 rfl) ?_
      refine gw_get (Cn := RX5) (T := TX5) (N := 29) C Hh 0 mw_at0 rfl uwX5 0 (by decide) rfl tw_723 rfl dX5_flow_35 ?_
      refine W.eq (g2 := F0 m 38 ls [.int (nI (2))]) rfl ?_
      refine gw_if_ne (tgt := 59) C dX5_flow_38 (by decide) (by omega) (fun hc_38 => ?_) (fun hc_38 => ?_)
      · skip
        refine lv_aload_n C.1 C.2.1 dX5_flow_59 rfl (lv_at hl 0 rfl) ?_
        refine gw_get (Cn := RX5) (T := TX5) (N := 29) C Hh 0 mw_at0 rfl uwX5 0 (by decide) rfl tw_723 rfl dX5_flow_60 ?_
        refine W.eq (g2 := F0 m 63 ls [.int (nI (2))]) rfl ?_
        refine gw_if_le (tgt := 68) C dX5_flow_63 (by decide) (by omega) (fun hc_63 => ?_) (fun hc_63 => ?_)
        · skip
          exact absurd hc_63 (by decide)
        · skip
          refine lv_iconst (v := nI 0) C.1 C.2.1 dX5_flow_66 (by decide +kernel) ?_
          exact gw_iret (w := mw G q) (u := (up1 u.1 0 (2), u.2.1, u.2.2)) C Hh dX5_flow_67 ⟨_, rfl, by first | exact rp_n (cdF_1 (pif_0 (hk_3.symm.trans hc_6))) (by decide) rfl | exact rp_n (cdF_2 (u := vw u) h02 hx_o hj_o (fun h => h.1 hc_14)) (by decide) rfl | exact rp_n (cdF_2 (u := vw u) h02 hx_o hj_o (fun h => pif_0 (by rw [← hi_20]; exact hc_23) h.2)) (by decide) rfl | exact rp_n (hv9.trans (if_neg (by omega))) (by decide) (by first | rfl | rw [up1_up1])⟩
      · skip
        exact absurd hc_38 (by decide)
    · skip
      refine lv_iload_n C.1 C.2.1 dX5_flow_17 rfl (lv_at hl 3 rfl) ?_
      refine lv_iconst (v := nI 0) C.1 C.2.1 dX5_flow_18 (by decide +kernel) ?_
      refine lv_iconst (v := nI 2) C.1 C.2.1 dX5_flow_19 (by decide +kernel) ?_
      refine gw_fromI (w := mw G q) (u := u) C Hh (gw_runS (n := 3) [.int (z), .int (nI (0)), .int (nI (2))] C Hh (c_X5_in l G q (u) (z) (nI (0)) (nI (2))  _) tw_820 tw_821 tw_71 tw_822 (by decide +kernel) ⟨Nat.le_of_ble_eq_true rfl, Nat.le_of_ble_eq_true rfl⟩ rfl hl.1 (Nat.le_of_ble_eq_true rfl) dX5_flow_20 ⟨Nat.zero_le _, Nat.zero_le _⟩) (fun rc_20 uc_20 H locs hp_20 Hh => ?_)
      obtain ⟨kc_20, rfl, hp_20⟩ := hp_20
      obtain ⟨hk_20, hu_20⟩ := hp_20
      rw [hu_20] at Hh
      clear hu_20
      have hi_20 := ir_m (by decide) (by decide) hk_20
      refine gw_if_ne (tgt := 30) C dX5_flow_23 (by decide) (by rw [hi_20]; exact Nat.lt_of_le_of_lt (pif_le _) (by decide)) (fun hc_23 => ?_) (fun hc_23 => ?_)
      · skip
        obtain ⟨i, hx_i, hj_i⟩ := n0_nI (Int32.not_lt.mp hc_14)
        rw [hx_i] at hl
        obtain ⟨wh, hx_wh, hj_wh⟩ := ir_n (hc := hc_23) hi_20
        rw [hx_wh] at hl
        have hv9 : cdF (vw u) x y z = if u.2.1 14 o = 0 then 0 else 3 := cdF_v h02 hx_o hj_o hx_i hj_i hx_wh (by omega)
        refine lv_iconst (v := nI 0) C.1 C.2.1 dX5_flow_30 (by decide +kernel) ?_
        refine gw_put (Cn := RX5) (T := TX5) (N := 29) (ty0 := tyX5) (v := nI (0)) C Hh 0 mw_at0 rfl uwX5 tyX5_ok nmX5 0 (by decide) rfl tw_723 rfl (by decide +kernel) (Nat.le_of_ble_eq_true rfl) mw_num0 dX5_flow_31 (fun H locs Hh => ?_)
        refine lv_aload_n C.1 C.2.1 dX5_flow_34 rfl (lv_at hl 0 rfl) ?_
        refine gw_get (Cn := RX5) (T := TX5) (N := 29) C Hh 0 mw_at0 rfl uwX5 0 (by decide) rfl tw_723 rfl dX5_flow_35 ?_
        refine W.eq (g2 := F0 m 38 ls [.int (nI (0))]) rfl ?_
        refine gw_if_ne (tgt := 59) C dX5_flow_38 (by decide) (by omega) (fun hc_38 => ?_) (fun hc_38 => ?_)
        · skip
          exact absurd hc_38 (by decide)
        · skip
          refine lv_aload_n C.1 C.2.1 dX5_flow_41 rfl (lv_at hl 0 rfl) ?_
          refine lv_aload_n C.1 C.2.1 dX5_flow_42 rfl (lv_at hl 0 rfl) ?_
          refine gw_get (Cn := RX5) (T := TX5) (N := 29) C Hh 0 mw_at0 rfl uwX5 16 (by decide) rfl tw_739 rfl dX5_flow_43 ?_
          refine lv_iload_n C.1 C.2.1 dX5_flow_46 rfl (lv_at hl 1 rfl) ?_
          refine gw_ld C Hh 14 mw_at14 (by decide) dX5_flow_47 (by omega) ?_
          refine W.eq (g2 := F0 m 48 ls [.int (nI (u.2.1 14 (o))), .ref (q 0)]) rfl ?_
          refine gw_if_eq (tgt := 55) C dX5_flow_48 (by decide) (by omega) (fun hc_48 => ?_) (fun hc_48 => ?_)
          · skip
            refine lv_iconst (v := nI 0) C.1 C.2.1 dX5_flow_55 (by decide +kernel) ?_
            refine gw_put (Cn := RX5) (T := TX5) (N := 29) (ty0 := tyX5) (v := nI (0)) C Hh 0 mw_at0 rfl uwX5 tyX5_ok nmX5 0 (by decide) rfl tw_723 rfl (by decide +kernel) (Nat.le_of_ble_eq_true rfl) mw_num0 dX5_flow_56 (fun H locs Hh => ?_)
            rw [up1_up1] at Hh
            refine lv_aload_n C.1 C.2.1 dX5_flow_59 rfl (lv_at hl 0 rfl) ?_
            refine gw_get (Cn := RX5) (T := TX5) (N := 29) C Hh 0 mw_at0 rfl uwX5 0 (by decide) rfl tw_723 rfl dX5_flow_60 ?_
            refine W.eq (g2 := F0 m 63 ls [.int (nI (0))]) rfl ?_
            refine gw_if_le (tgt := 68) C dX5_flow_63 (by decide) (by omega) (fun hc_63 => ?_) (fun hc_63 => ?_)
            · skip
              refine lv_aload_n C.1 C.2.1 dX5_flow_68 rfl (lv_at hl 0 rfl) ?_
              refine gw_fromV (w := mw G q) (u := (up1 u.1 0 (0), u.2.1, u.2.2)) C Hh (gw_runV (n := 0) (C1 := RX5) [] C Hh (c_X5_plan l G q ((up1 u.1 0 (0), u.2.1, u.2.2)) (X) (by exact ⟨hokU, hbU⟩) (by exact hX) _) tw_925 tw_927 tw_62 tw_71 tw_928 (by decide +kernel) ⟨Nat.le_of_ble_eq_true rfl, Nat.le_of_ble_eq_true rfl⟩ 0 mw_at0 rfl rfl hl.1 (Nat.le_of_ble_eq_true rfl) dX5_flow_69 ⟨Nat.zero_le _, Nat.zero_le _⟩) (fun uc_69 H locs hp_69 Hh => ?_)
              have hc69 := pl_cf hp_69
              obtain ⟨dr, br, hen, her⟩ := pl_en hp_69
              have n69 : uc_69.1 2 = u.1 2 := hc69.1.1.2.1
              refine lv_iload_n C.1 C.2.1 dX5_flow_72 rfl (lv_at hl 2 rfl) ?_
              refine lv_istore (lv' := [(4, .int (nI (i))), (0, .ref (q 0)), (1, .int (nI (o))), (2, .int (nI (i))), (3, .int (nI (wh)))]) C.1 C.2.1 dX5_flow_73 hl (by decide) rfl (fun ls hl => ?_)
              refine lv_iconst (v := nI 0) C.1 C.2.1 dX5_flow_75 (by decide +kernel) ?_
              refine lv_istore (lv' := [(5, .int (nI (0))), (4, .int (nI (i))), (0, .ref (q 0)), (1, .int (nI (o))), (2, .int (nI (i))), (3, .int (nI (wh)))]) C.1 C.2.1 dX5_flow_76 hl (by decide) rfl (fun ls hl => ?_)
              have loop_78 : ∀ (fu : Nat) (lf : Nat) (r : Nat) (H : Heap) (locs : List Loc) (ls : Array Slot), (r ≤ uc_69.1 4) → (lf + fc dr o r = i) → uc_69.1 4 - r < fu → gw_H G A s (mw G q uc_69) H locs → lv_has ls 6 [(0, .ref (q 0)), (1, .int (nI (o))), (2, .int (nI (i))), (3, .int (nI (wh))), (4, .int (nI (lf))), (5, .int (nI (r)))] → W p l e (gw_rm 5 120) s m args below meth c H locs 0 0 (MQ below (va_Qi (fun r u1 => ∃ k : Nat, r = nI k ∧ (rp (cdF (vw u) x y z) u u1 (sc u u1 ∧ md_bd u1 ∧ rf_post (vw u) X (tn x) (tn y) (tn z) k))) (gw_at G A (mw G q)) A) args s 0 0 A) (F0 m 78 ls []) := by
                intro fu
                induction fu with
                | zero =>
                  intro lf r  H locs ls hr hlf hmf
                  exact absurd hmf (Nat.not_lt_zero _)
                | succ fu ih_78 =>
                  intro lf r  H locs ls hr hlf hmf Hh hl
                  refine lv_iload C.1 C.2.1 dX5_flow_78 (lv_at hl 5 rfl) ?_
                  refine lv_aload_n C.1 C.2.1 dX5_flow_80 rfl (lv_at hl 0 rfl) ?_
                  refine gw_get (Cn := RX5) (T := TX5) (N := 29) C Hh 0 mw_at0 rfl uwX5 23 (by decide) rfl tw_746 rfl dX5_flow_81 ?_
                  refine gw_icmp_ge (tgt := 152) C dX5_flow_84 (by decide) (by omega) (by omega) (fun hc_84 => ?_) (fun hc_84 => ?_)
                  · skip
                    refine lv_iconst (v := nI 4294967295) C.1 C.2.1 dX5_flow_152 (by decide +kernel) ?_
                    exact gw_iret (w := mw G q) (u := uc_69) C Hh dX5_flow_153 ⟨_, rfl, by refine rp_y (hv9.trans (if_pos (by omega))) hc69.1.2 ⟨hsU.tr hc69.1.1, hc69.2.1, uc_69.1 4, dr, br, hen, Or.inr ⟨rfl, ?_⟩⟩; rw [tn_eq hx_o (by omega), tn_eq hx_i (by omega), ← show r = uc_69.1 4 by omega]; omega⟩
                  · skip
                    have hr9 := her r hc_84
                    have hd9 : dr r / 3 < 10 := by (have : dr r / 3 < u.1 2 := (hen.1 r hc_84).1.1; omega)
                    have join_146 : ∀ (l2 : Nat) (H : Heap) (locs : List Loc) (ls : Array Slot), (l2 + fc dr o (r + 1) = i) → gw_H G A s (mw G q uc_69) H locs → lv_has ls 6 [(0, .ref (q 0)), (1, .int (nI (o))), (2, .int (nI (i))), (3, .int (nI (wh))), (4, .int (nI (l2))), (5, .int (nI (r)))] → W p l e (gw_rm 5 120) s m args below meth c H locs 0 0 (MQ below (va_Qi (fun r u1 => ∃ k : Nat, r = nI k ∧ (rp (cdF (vw u) x y z) u u1 (sc u u1 ∧ md_bd u1 ∧ rf_post (vw u) X (tn x) (tn y) (tn z) k))) (gw_at G A (mw G q)) A) args s 0 0 A) (F0 m 146 ls []) := by
                      intro l2  H locs ls hl2 Hh hl
                      refine lv_iinc (v := nI (r + 1)) (lv' := [(5, .int (nI (r + 1))), (0, .ref (q 0)), (1, .int (nI (o))), (2, .int (nI (i))), (3, .int (nI (wh))), (4, .int (nI (l2)))]) C.1 C.2.1 dX5_flow_146 hl (k := 5) rfl (nI_add _ 1) (by decide) rfl (fun ls hl => ?_)
                      refine lv_goto (tgt := 78) C.1 C.2.1 dX5_flow_149 (by decide) ?_
                      exact ih_78 (l2) (r + 1)  _ _ _ (by omega) (by exact hl2) (by omega) Hh (lv_sub hl [1, 2, 3, 4, 5, 0] rfl)
                    refine lv_aload_n C.1 C.2.1 dX5_flow_87 rfl (lv_at hl 0 rfl) ?_
                    refine gw_get (Cn := RX5) (T := TX5) (N := 29) C Hh 0 mw_at0 rfl uwX5 24 (by decide) rfl tw_747 rfl dX5_flow_88 ?_
                    refine lv_iload C.1 C.2.1 dX5_flow_91 (lv_at hl 5 rfl) ?_
                    refine gw_ld C Hh 20 mw_at20 (by decide) dX5_flow_93 (by omega) ?_
                    refine lv_iload_n C.1 C.2.1 dX5_flow_94 rfl (lv_at hl 1 rfl) ?_
                    refine gw_icmp_eq (tgt := 101) C dX5_flow_95 (by decide) (by rw [hr9.1]; omega) (by omega) (fun hc_95 => ?_) (fun hc_95 => ?_)
                    · skip
                      refine lv_iload C.1 C.2.1 dX5_flow_101 (lv_at hl 4 rfl) ?_
                      refine gw_if_ne (tgt := 143) C dX5_flow_103 (by decide) (by omega) (fun hc_103 => ?_) (fun hc_103 => ?_)
                      · skip
                        refine lv_iinc (v := nI (lf - 1)) (lv' := [(4, .int (nI (lf - 1))), (0, .ref (q 0)), (1, .int (nI (o))), (2, .int (nI (i))), (3, .int (nI (wh))), (5, .int (nI (r)))]) C.1 C.2.1 dX5_flow_143 hl (k := 4) rfl (sb_m1 (by omega)) (by decide) rfl (fun ls hl => ?_)
                        exact join_146 (lf - 1)  _ _ _ (by rw [fc_s, if_pos (by rw [← hr9.1]; exact hc_95)]; omega) Hh (lv_sub hl [1, 2, 3, 4, 0, 5] rfl)
                      · skip
                        refine lv_iload_n C.1 C.2.1 dX5_flow_106 rfl (lv_at hl 3 rfl) ?_
                        refine gw_if_ne (tgt := 120) C dX5_flow_107 (by decide) (by omega) (fun hc_107 => ?_) (fun hc_107 => ?_)
                        · skip
                          refine lv_iload_n C.1 C.2.1 dX5_flow_120 rfl (lv_at hl 3 rfl) ?_
                          refine lv_iconst (v := nI 1) C.1 C.2.1 dX5_flow_121 (by decide +kernel) ?_
                          refine gw_icmp_ne (tgt := 135) C dX5_flow_122 (by decide) (by omega) (by omega) (fun hc_122 => ?_) (fun hc_122 => ?_)
                          · skip
                            refine lv_aload_n C.1 C.2.1 dX5_flow_135 rfl (lv_at hl 0 rfl) ?_
                            refine gw_get (Cn := RX5) (T := TX5) (N := 29) C Hh 0 mw_at0 rfl uwX5 28 (by decide) rfl tw_751 rfl dX5_flow_136 ?_
                            refine lv_iload C.1 C.2.1 dX5_flow_139 (lv_at hl 5 rfl) ?_
                            refine gw_ld C Hh 24 mw_at24 (by decide) dX5_flow_141 (by omega) ?_
                            exact gw_iret (w := mw G q) (u := uc_69) C Hh dX5_flow_142 ⟨_, rfl, by refine rp_y (hv9.trans (if_pos (by omega))) hc69.1.2 ⟨hsU.tr hc69.1.1, hc69.2.1, uc_69.1 4, dr, br, hen, Or.inl ⟨r, hc_84, ?_, ?_, ?_⟩⟩; (rw [tn_eq hx_o (by omega), ← hr9.1]; exact hc_95); (rw [tn_eq hx_o (by omega), tn_eq hx_i (by omega)]; omega); (rw [tn_eq hx_wh (by omega), tn_eq hx_o (by omega), ← hc_95, hr9.1]; first | (rw [if_pos hc_107]; exact hr9.2.2.2.2.1) | (rw [if_neg (by omega), if_pos hc_122]; exact hr9.2.2.2.1) | (rw [if_neg (by omega), if_neg hc_122]; exact hr9.2.2.2.2.2))⟩
                          · skip
                            refine lv_aload_n C.1 C.2.1 dX5_flow_125 rfl (lv_at hl 0 rfl) ?_
                            refine gw_get (Cn := RX5) (T := TX5) (N := 29) C Hh 0 mw_at0 rfl uwX5 26 (by decide) rfl tw_749 rfl dX5_flow_126 ?_
                            refine lv_iload C.1 C.2.1 dX5_flow_129 (lv_at hl 5 rfl) ?_
                            refine gw_ld C Hh 22 mw_at22 (by decide) dX5_flow_131 (by omega) ?_
                            refine lv_goto (tgt := 142) C.1 C.2.1 dX5_flow_132 (by decide) ?_
                            exact gw_iret (w := mw G q) (u := uc_69) C Hh dX5_flow_142 ⟨_, rfl, by refine rp_y (hv9.trans (if_pos (by omega))) hc69.1.2 ⟨hsU.tr hc69.1.1, hc69.2.1, uc_69.1 4, dr, br, hen, Or.inl ⟨r, hc_84, ?_, ?_, ?_⟩⟩; (rw [tn_eq hx_o (by omega), ← hr9.1]; exact hc_95); (rw [tn_eq hx_o (by omega), tn_eq hx_i (by omega)]; omega); (rw [tn_eq hx_wh (by omega), tn_eq hx_o (by omega), ← hc_95, hr9.1]; first | (rw [if_pos hc_107]; exact hr9.2.2.2.2.1) | (rw [if_neg (by omega), if_pos hc_122]; exact hr9.2.2.2.1) | (rw [if_neg (by omega), if_neg hc_122]; exact hr9.2.2.2.2.2))⟩
                        · skip
                          refine lv_aload_n C.1 C.2.1 dX5_flow_110 rfl (lv_at hl 0 rfl) ?_
                          refine gw_get (Cn := RX5) (T := TX5) (N := 29) C Hh 0 mw_at0 rfl uwX5 27 (by decide) rfl tw_750 rfl dX5_flow_111 ?_
                          refine lv_iload C.1 C.2.1 dX5_flow_114 (lv_at hl 5 rfl) ?_
                          refine gw_ld C Hh 23 mw_at23 (by decide) dX5_flow_116 (by omega) ?_
                          refine lv_goto (tgt := 142) C.1 C.2.1 dX5_flow_117 (by decide) ?_
                          exact gw_iret (w := mw G q) (u := uc_69) C Hh dX5_flow_142 ⟨_, rfl, by refine rp_y (hv9.trans (if_pos (by omega))) hc69.1.2 ⟨hsU.tr hc69.1.1, hc69.2.1, uc_69.1 4, dr, br, hen, Or.inl ⟨r, hc_84, ?_, ?_, ?_⟩⟩; (rw [tn_eq hx_o (by omega), ← hr9.1]; exact hc_95); (rw [tn_eq hx_o (by omega), tn_eq hx_i (by omega)]; omega); (rw [tn_eq hx_wh (by omega), tn_eq hx_o (by omega), ← hc_95, hr9.1]; first | (rw [if_pos hc_107]; exact hr9.2.2.2.2.1) | (rw [if_neg (by omega), if_pos hc_122]; exact hr9.2.2.2.1) | (rw [if_neg (by omega), if_neg hc_122]; exact hr9.2.2.2.2.2))⟩
                    · skip
                      refine lv_goto (tgt := 146) C.1 C.2.1 dX5_flow_98 (by decide) ?_
                      exact join_146 (lf)  _ _ _ (by rw [fc_s, if_neg (by rw [← hr9.1]; exact hc_95)]; omega) Hh (lv_sub hl [0, 1, 2, 3, 4, 5] rfl)
              exact loop_78 _ (i) (0)  _ _ _ (by omega) (by rfl) (Nat.lt_succ_self _) Hh (lv_sub hl [2, 3, 4, 5, 1, 0] rfl)
            · skip
              exact absurd hc_63 (by decide)
          · skip
            refine lv_iconst (v := nI 3) C.1 C.2.1 dX5_flow_51 (by decide +kernel) ?_
            refine lv_goto (tgt := 56) C.1 C.2.1 dX5_flow_52 (by decide) ?_
            refine gw_put (Cn := RX5) (T := TX5) (N := 29) (ty0 := tyX5) (v := nI (3)) C Hh 0 mw_at0 rfl uwX5 tyX5_ok nmX5 0 (by decide) rfl tw_723 rfl (by decide +kernel) (Nat.le_of_ble_eq_true rfl) mw_num0 dX5_flow_56 (fun H locs Hh => ?_)
            rw [up1_up1] at Hh
            refine lv_aload_n C.1 C.2.1 dX5_flow_59 rfl (lv_at hl 0 rfl) ?_
            refine gw_get (Cn := RX5) (T := TX5) (N := 29) C Hh 0 mw_at0 rfl uwX5 0 (by decide) rfl tw_723 rfl dX5_flow_60 ?_
            refine W.eq (g2 := F0 m 63 ls [.int (nI (3))]) rfl ?_
            refine gw_if_le (tgt := 68) C dX5_flow_63 (by decide) (by omega) (fun hc_63 => ?_) (fun hc_63 => ?_)
            · skip
              exact absurd hc_63 (by decide)
            · skip
              refine lv_iconst (v := nI 0) C.1 C.2.1 dX5_flow_66 (by decide +kernel) ?_
              exact gw_iret (w := mw G q) (u := (up1 u.1 0 (3), u.2.1, u.2.2)) C Hh dX5_flow_67 ⟨_, rfl, by first | exact rp_n (cdF_1 (pif_0 (hk_3.symm.trans hc_6))) (by decide) rfl | exact rp_n (cdF_2 (u := vw u) h02 hx_o hj_o (fun h => h.1 hc_14)) (by decide) rfl | exact rp_n (cdF_2 (u := vw u) h02 hx_o hj_o (fun h => pif_0 (by rw [← hi_20]; exact hc_23) h.2)) (by decide) rfl | exact rp_n (hv9.trans (if_neg (by omega))) (by decide) (by first | rfl | rw [up1_up1])⟩
      · skip
        refine lv_iconst (v := nI 2) C.1 C.2.1 dX5_flow_26 (by decide +kernel) ?_
        refine lv_goto (tgt := 31) C.1 C.2.1 dX5_flow_27 (by decide) ?_
        refine gw_put (Cn := RX5) (T := TX5) (N := 29) (ty0 := tyX5) (v := nI (2)) C Hh 0 mw_at0 rfl uwX5 tyX5_ok nmX5 0 (by decide) rfl tw_723 rfl (by decide +kernel) (Nat.le_of_ble_eq_true rfl) mw_num0 dX5_flow_31 (fun H locs Hh => ?_)
        refine lv_aload_n C.1 C.2.1 dX5_flow_34 rfl (lv_at hl 0 rfl) ?_
        refine gw_get (Cn := RX5) (T := TX5) (N := 29) C Hh 0 mw_at0 rfl uwX5 0 (by decide) rfl tw_723 rfl dX5_flow_35 ?_
        refine W.eq (g2 := F0 m 38 ls [.int (nI (2))]) rfl ?_
        refine gw_if_ne (tgt := 59) C dX5_flow_38 (by decide) (by omega) (fun hc_38 => ?_) (fun hc_38 => ?_)
        · skip
          refine lv_aload_n C.1 C.2.1 dX5_flow_59 rfl (lv_at hl 0 rfl) ?_
          refine gw_get (Cn := RX5) (T := TX5) (N := 29) C Hh 0 mw_at0 rfl uwX5 0 (by decide) rfl tw_723 rfl dX5_flow_60 ?_
          refine W.eq (g2 := F0 m 63 ls [.int (nI (2))]) rfl ?_
          refine gw_if_le (tgt := 68) C dX5_flow_63 (by decide) (by omega) (fun hc_63 => ?_) (fun hc_63 => ?_)
          · skip
            exact absurd hc_63 (by decide)
          · skip
            refine lv_iconst (v := nI 0) C.1 C.2.1 dX5_flow_66 (by decide +kernel) ?_
            exact gw_iret (w := mw G q) (u := (up1 u.1 0 (2), u.2.1, u.2.2)) C Hh dX5_flow_67 ⟨_, rfl, by first | exact rp_n (cdF_1 (pif_0 (hk_3.symm.trans hc_6))) (by decide) rfl | exact rp_n (cdF_2 (u := vw u) h02 hx_o hj_o (fun h => h.1 hc_14)) (by decide) rfl | exact rp_n (cdF_2 (u := vw u) h02 hx_o hj_o (fun h => pif_0 (by rw [← hi_20]; exact hc_23) h.2)) (by decide) rfl | exact rp_n (hv9.trans (if_neg (by omega))) (by decide) (by first | rfl | rw [up1_up1])⟩
        · skip
          exact absurd hc_38 (by decide)
  · skip
    refine lv_iconst (v := nI 1) C.1 C.2.1 dX5_flow_9 (by decide +kernel) ?_
    refine lv_goto (tgt := 31) C.1 C.2.1 dX5_flow_10 (by decide) ?_
    refine gw_put (Cn := RX5) (T := TX5) (N := 29) (ty0 := tyX5) (v := nI (1)) C Hh 0 mw_at0 rfl uwX5 tyX5_ok nmX5 0 (by decide) rfl tw_723 rfl (by decide +kernel) (Nat.le_of_ble_eq_true rfl) mw_num0 dX5_flow_31 (fun H locs Hh => ?_)
    refine lv_aload_n C.1 C.2.1 dX5_flow_34 rfl (lv_at hl 0 rfl) ?_
    refine gw_get (Cn := RX5) (T := TX5) (N := 29) C Hh 0 mw_at0 rfl uwX5 0 (by decide) rfl tw_723 rfl dX5_flow_35 ?_
    refine W.eq (g2 := F0 m 38 ls [.int (nI (1))]) rfl ?_
    refine gw_if_ne (tgt := 59) C dX5_flow_38 (by decide) (by omega) (fun hc_38 => ?_) (fun hc_38 => ?_)
    · skip
      refine lv_aload_n C.1 C.2.1 dX5_flow_59 rfl (lv_at hl 0 rfl) ?_
      refine gw_get (Cn := RX5) (T := TX5) (N := 29) C Hh 0 mw_at0 rfl uwX5 0 (by decide) rfl tw_723 rfl dX5_flow_60 ?_
      refine W.eq (g2 := F0 m 63 ls [.int (nI (1))]) rfl ?_
      refine gw_if_le (tgt := 68) C dX5_flow_63 (by decide) (by omega) (fun hc_63 => ?_) (fun hc_63 => ?_)
      · skip
        exact absurd hc_63 (by decide)
      · skip
        refine lv_iconst (v := nI 0) C.1 C.2.1 dX5_flow_66 (by decide +kernel) ?_
        exact gw_iret (w := mw G q) (u := (up1 u.1 0 (1), u.2.1, u.2.2)) C Hh dX5_flow_67 ⟨_, rfl, by first | exact rp_n (cdF_1 (pif_0 (hk_3.symm.trans hc_6))) (by decide) rfl | exact rp_n (cdF_2 (u := vw u) h02 hx_o hj_o (fun h => h.1 hc_14)) (by decide) rfl | exact rp_n (cdF_2 (u := vw u) h02 hx_o hj_o (fun h => pif_0 (by rw [← hi_20]; exact hc_23) h.2)) (by decide) rfl | exact rp_n (hv9.trans (if_neg (by omega))) (by decide) (by first | rfl | rw [up1_up1])⟩
    · skip
      exact absurd hc_38 (by decide)
