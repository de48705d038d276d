/-! order -/
theorem us_f_of {u v : pf_S} (h0 : v.1 0 = u.1 0) (h5 : v.2 5 = u.2 5) (h6 : v.2 6 = u.2 6) (h10 : v.2 10 = u.2 10) (h11 : v.2 11 = u.2 11) (g t : Nat) : us_f v g t = us_f u g t := by
  have hm : ∀ i, us_m v g t i = us_m u g t i := by
    intro i
    induction i with
    | zero => rfl
    | succ i ih =>
      rw [us_m_succ, us_m_succ, ih]
      unfold us_c
      rw [h5, h6, h10, h11]
  unfold us_f
  rw [hm, h0]
theorem wr_at {u : pf_S} {d g n r : Nat} : (wr_S u d g n r).2 14 (u.1 1) = d ∧ (wr_S u d g n r).2 15 (u.1 1) = g ∧ (wr_S u d g n r).2 16 (u.1 1) = n ∧ (wr_S u d g n r).2 17 (u.1 1) = r := by
  have e14 : (wr_S u d g n r).2 14 (u.1 1) = if u.1 1 = u.1 1 then d else u.2 14 (u.1 1) := rfl
  have e15 : (wr_S u d g n r).2 15 (u.1 1) = if u.1 1 = u.1 1 then g else u.2 15 (u.1 1) := rfl
  have e16 : (wr_S u d g n r).2 16 (u.1 1) = if u.1 1 = u.1 1 then n else u.2 16 (u.1 1) := rfl
  have e17 : (wr_S u d g n r).2 17 (u.1 1) = if u.1 1 = u.1 1 then r else u.2 17 (u.1 1) := rfl
  rw [e14, e15, e16, e17]
  simp
theorem wr_us {u : pf_S} {d g n r : Nat} (x t : Nat) : us_f (wr_S u d g n r) x t = us_f u x t := us_f_of (u := u) (v := wr_S u d g n r) rfl rfl rfl rfl rfl x t
theorem wr_d {u : pf_S} {d g n r e : Nat} (h : cvd u e) : cmk (wr_S u d g n r) e = cmk u e ∧ od_w (wr_S u d g n r) (e / 3) (e % 3) = od_w u (e / 3) (e % 3) ∧ od_n (wr_S u d g n r) (e / 3) = od_n u (e / 3) := by
  have h1 := wr_o (u := u) (d := d) (g := g) (n := n) (r := r) h.1
  refine ⟨?_, ?_, ?_⟩
  · unfold cmk
    rw [h1.1, h1.2.1, wr_us]
    rfl
  · unfold od_w
    rw [h1.2.1, h1.2.2.1]
    rfl
  · unfold od_n
    rw [h1.2.1]
    rfl
theorem wr_n {u : pf_S} {d g n r : Nat} : od_n (wr_S u d g n r) (u.1 1) = gd_dn u g := by
  unfold od_n
  rw [wr_at.2.1]
  rfl
theorem wr_cvd {u : pf_S} {d g n r e : Nat} : cvd (wr_S u d g n r) e ↔ cvd u e := by
  unfold cvd
  show (e / 3 < u.1 1 ∧ u.2 18 (e / 3) = 0 ∧ _) ↔ _
  constructor
  · rintro ⟨h1, h2, h3⟩
    refine ⟨h1, h2, ?_⟩
    unfold od_n at h3 ⊢
    rw [(wr_o h1).2.1] at h3
    exact h3
  · rintro ⟨h1, h2, h3⟩
    refine ⟨h1, h2, ?_⟩
    unfold od_n at h3 ⊢
    rw [(wr_o h1).2.1]
    exact h3
theorem nw_pif {u : pf_S} {t g n r : Nat} (d : Nat) : nw_W (wr_S u t g n r) (u.1 1) d = pif (cvd u d ∨ (d / 3 = u.1 1 ∧ d % 3 < gd_dn u g)) (od_w (wr_S u t g n r) (d / 3) (d % 3)) 0 := by
  unfold nw_W jo_W
  rw [wr_n]
  by_cases q : d / 3 = u.1 1 ∧ d % 3 < gd_dn u g
  · rw [if_pos q, pif_pos (Or.inr q), q.1]
  · rw [if_neg q]
    unfold cv_W
    by_cases q1 : cvd u d
    · rw [if_pos (cvb_iff.mpr (wr_cvd.mpr q1)), pif_pos (Or.inl q1)]
    · rw [if_neg (fun h => q1 (wr_cvd.mp (cvb_iff.mp h))), pif_neg (fun h => h.elim q1 q)]
theorem ro_dls {u : md_S} {v z : md_S} {t g n r : Nat} (hok : md_ok u) (hg : g < 6) (hv : sc u v) (hd : dl (vw u) v (cvd (vw u))) (ha : dm_add v z (u.1 2) g t n (gd_dn (vw v) g)) :
    dls (wr_S (vw u) t g n r) z (fun d => cvd (vw u) d ∨ (d / 3 = u.1 2 ∧ d % 3 < gd_dn (vw u) g)) := by
  obtain ⟨e, h1, h2, h3⟩ := hd
  obtain ⟨a1, a2, a3, a4, a5, a6, a7, a8⟩ := ha
  rw [sc_vw hv] at a4 a7 a8
  have hdn := gd_dn_le (md_gd hok) hg
  have hat := wr_at (u := vw u) (d := t) (g := g) (n := n) (r := r)
  have n1 : (vw u).1 1 = u.1 2 := rfl
  rw [n1] at hat
  refine ⟨fun i => if i < v.1 3 then e i else u.1 2 * 3 + (i - v.1 3), fun i hi => ?_, fun d hd => ?_, fun i j hij hj => ?_⟩
  · dsimp only
    by_cases q : i < v.1 3
    · rw [if_pos q, (a7 i (Or.inl q)).2.2.1, (a7 i (Or.inl q)).2.2.2]
      have h4 := h1 i q
      have h5 := wr_d (u := vw u) (d := t) (g := g) (n := n) (r := r) h4.1
      rw [h5.1, h5.2.1]
      exact ⟨Or.inl h4.1, h4.2.2.2.1, h4.2.2.2.2⟩
    · rw [if_neg q]
      have h8 := a8 (i - v.1 3) (by omega)
      rw [show v.1 3 + (i - v.1 3) = i by omega] at h8
      have e1 : (u.1 2 * 3 + (i - v.1 3)) / 3 = u.1 2 := by omega
      have e2 : (u.1 2 * 3 + (i - v.1 3)) % 3 = i - v.1 3 := by omega
      unfold cmk od_w
      rw [e1, e2, h8.2.2.1, h8.2.2.2, hat.1, hat.2.1, hat.2.2.1, wr_us]
      exact ⟨Or.inr ⟨rfl, by omega⟩, rfl, rfl⟩
  · rcases hd with hd | ⟨hd1, hd2⟩
    · obtain ⟨i, i1, i2⟩ := h2 d hd
      exact ⟨i, by omega, by show (if i < v.1 3 then e i else _) = d; rw [if_pos i1]; exact i2⟩
    · refine ⟨v.1 3 + d % 3, by omega, ?_⟩
      show (if v.1 3 + d % 3 < v.1 3 then _ else u.1 2 * 3 + (v.1 3 + d % 3 - v.1 3)) = d
      rw [if_neg (by omega)]
      omega
  · show (if i < v.1 3 then e i else u.1 2 * 3 + (i - v.1 3)) ≠ (if j < v.1 3 then e j else u.1 2 * 3 + (j - v.1 3))
    by_cases q2 : j < v.1 3
    · rw [if_pos (by omega), if_pos q2]
      exact pbf_ne (h3 i j hij q2)
    · rw [if_neg q2]
      by_cases q1 : i < v.1 3
      · rw [if_pos q1]
        have := (h1 i q1).1.1
        rw [n1] at this
        omega
      · rw [if_neg q1]
        omega
theorem ro_hall {u : md_S} {v z : md_S} {t g n r : Nat} (hok : md_ok u) (hn : u.1 2 < 10) (hg : g < 6) (hv : sc u v) (hd : dl (vw u) v (cvd (vw u))) (hfr : ∀ a, a < u.1 1 → v.2.2 19 a = (fr_of (vw u) a : Int)) (ha : dm_add v z (u.1 2) g t n (gd_dn (vw v) g)) :
    (∀ S, S < 1 <<< z.1 1 → 0 ≤ sl z S) ↔ hall (u.1 1) (fr_of (vw u)) (nw_W (wr_S (vw u) t g n r) (u.1 2)) (cmk (wr_S (vw u) t g n r)) := by
  have hz1 : z.1 1 = u.1 1 := ha.1.1.trans hv.1
  have hdn := gd_dn_le (md_gd hok) hg
  have h := sl_hall (ro_dls (r := r) hok hg hv hd ha) (fun d hd => by
    rcases hd with hd | hd
    · have : d / 3 < u.1 2 := hd.1
      omega
    · omega) (fr := fr_of (vw u)) (Wt := nw_W (wr_S (vw u) t g n r) (u.1 2)) (fun a ha9 => by
    rw [ha.2.2.2.2.2.1]
    exact hfr a (by omega)) (fun d _ => nw_pif d)
  rw [hz1] at h ⊢
  exact h
def ra_S (u v : md_S) (t g n r : Nat) : Prop := v.1 1 = u.1 1 ∧ v.1 2 = u.1 2 + 1 ∧ (∀ k, 1 ≤ k → k ≤ 9 → v.2.1 k = u.2.1 k) ∧ ∀ p, v.2.1 10 p = (if p = u.1 2 then t else u.2.1 10 p) ∧ v.2.1 11 p = (if p = u.1 2 then g else u.2.1 11 p) ∧ v.2.1 12 p = (if p = u.1 2 then n else u.2.1 12 p) ∧ v.2.1 13 p = (if p = u.1 2 then r else u.2.1 13 p) ∧ v.2.1 14 p = (if p = u.1 2 then 0 else u.2.1 14 p)
def ro_post (u v : md_S) (t g n r k : Nat) : Prop := md_bd v ∧ ((k = 4294967295 ∧ sc u v ∧ ¬ hall (u.1 1) (fr_of (vw u)) (nw_W (wr_S (vw u) t g n r) (u.1 2)) (cmk (wr_S (vw u) t g n r))) ∨ (k = u.1 2 ∧ ra_S u v t g n r ∧ hall (u.1 1) (fr_of (vw u)) (nw_W (wr_S (vw u) t g n r) (u.1 2)) (cmk (wr_S (vw u) t g n r))))
theorem ra_of {u v : md_S} {t g n r : Nat} (h : sc u v) : ra_S u (up1 v.1 2 (v.1 2 + 1), up2 (up2 (up2 (up2 (up2 v.2.1 10 (v.1 2) t) 11 (v.1 2) g) 12 (v.1 2) n) 13 (v.1 2) r) 14 (v.1 2) 0, v.2.2) t g n r := by
  refine ⟨h.1, ?_, fun k k1 k2 => ?_, fun p => ⟨?_, ?_, ?_, ?_, ?_⟩⟩
  · show v.1 2 + 1 = _
    rw [h.2.1]
  · dsimp only
    rw [up2_ne _ (by omega), up2_ne _ (by omega), up2_ne _ (by omega), up2_ne _ (by omega), up2_ne _ (by omega)]
    exact h.2.2 k k1 (by omega)
  · rw [← h.2.1, ← h.2.2 10 (by decide) (by decide)]
    rfl
  · rw [← h.2.1, ← h.2.2 11 (by decide) (by decide)]
    rfl
  · rw [← h.2.1, ← h.2.2 12 (by decide) (by decide)]
    rfl
  · rw [← h.2.1, ← h.2.2 13 (by decide) (by decide)]
    rfl
  · rw [← h.2.1, ← h.2.2 14 (by decide) (by decide)]
    rfl
set_option maxHeartbeats 4000000 in
set_option maxRecDepth 100000 in
theorem c_X5_order (l : Launch) (G : gw_G) (q : Nat → Nat) (u : md_S) (x : Int32) (y : Int32) (z : Int32) (w : Int32) (hm : md2 u) : gw_MI l yX5_order cX5_order 5 (some .int) 4 96 [.ref (q 0), .int (x), .int (y), .int (z), .int (w)] G (mw G q) u (fun r u1 => ∃ k : Nat, r = nI k ∧ (rp (cdO (vw u) x y z w) u u1 (ro_post u u1 (tn x) (tn y) (tn z) (tn w) k))) := by
  refine gw_entryI (own := RX5) (by decide) rfl (Nat.le_of_ble_eq_true rfl) ?_
  intro p e s m args below meth c A ls C Hh hl
  have hl : lv_has ls 5 [(0, .ref (q 0)), (1, .int (x)), (2, .int (y)), (3, .int (z)), (4, .int (w))] := hl
  have hok := hm.1
  have hbd := hm.2
  have h01 := hok.1.1
  have h02 := hok.1.2
  refine lv_aload_n C.1 C.2.1 dX5_order_0 rfl (lv_at hl 0 rfl) ?_
  refine lv_iload_n C.1 C.2.1 dX5_order_1 rfl (lv_at hl 1 rfl) ?_
  refine lv_iconst (v := nI 0) C.1 C.2.1 dX5_order_2 (by decide +kernel) ?_
  refine lv_bipush (v := nI 99) C.1 C.2.1 dX5_order_3 (by decide +kernel) ?_
  refine gw_fromI (w := mw G q) (u := u) C Hh (gw_runS (n := 3) [.int (x), .int (nI (0)), .int (nI (99))] C Hh (c_X5_in l G q (u) (x) (nI (0)) (nI (99))  _) tw_820 tw_821 tw_71 tw_822 (by decide +kernel) ⟨Nat.le_of_ble_eq_true rfl, Nat.le_of_ble_eq_true rfl⟩ rfl hl.1 (Nat.le_of_ble_eq_true rfl) dX5_order_5 ⟨Nat.zero_le _, Nat.zero_le _⟩) (fun rc_5 uc_5 H locs hp_5 Hh => ?_)
  obtain ⟨kc_5, rfl, hp_5⟩ := hp_5
  obtain ⟨hk_5, hu_5⟩ := hp_5
  rw [hu_5] at Hh
  clear hu_5
  have hi_5 := ir_m (by decide) (by decide) hk_5
  refine gw_if_eq (tgt := 40) C dX5_order_8 (by decide) (by rw [hi_5]; exact Nat.lt_of_le_of_lt (pif_le _) (by decide)) (fun hc_8 => ?_) (fun hc_8 => ?_)
  · skip
    refine lv_iconst (v := nI 1) C.1 C.2.1 dX5_order_40 (by decide +kernel) ?_
    refine lv_goto (tgt := 58) C.1 C.2.1 dX5_order_41 (by decide) ?_
    refine gw_put (Cn := RX5) (T := TX5) (N := 29) (ty0 := tyX5) (v := nI (1)) C Hh 0 mw_at0 rfl uwX5 tyX5_ok nmX5 0 (by decide) rfl tw_723 rfl (by decide +kernel) (Nat.le_of_ble_eq_true rfl) mw_num0 dX5_order_58 (fun H locs Hh => ?_)
    refine lv_aload_n C.1 C.2.1 dX5_order_61 rfl (lv_at hl 0 rfl) ?_
    refine gw_get (Cn := RX5) (T := TX5) (N := 29) C Hh 0 mw_at0 rfl uwX5 0 (by decide) rfl tw_723 rfl dX5_order_62 ?_
    refine W.eq (g2 := F0 m 65 ls [.int (nI (1))]) rfl ?_
    refine gw_if_le (tgt := 70) C dX5_order_65 (by decide) (by omega) (fun hc_65 => ?_) (fun hc_65 => ?_)
    · skip
      exact absurd hc_65 (by decide)
    · skip
      refine lv_iconst (v := nI 0) C.1 C.2.1 dX5_order_68 (by decide +kernel) ?_
      exact gw_iret (w := mw G q) (u := (up1 u.1 0 (1), u.2.1, u.2.2)) C Hh dX5_order_69 ⟨_, rfl, by first | exact rp_n (hv9.trans (if_neg (by omega))) (by decide) rfl | exact rp_n (cdO_1 (fun h => pif_0 (by rw [← hi_34]; exact hc_37) h.2.2.2)) (by decide) rfl | exact rp_n (cdO_1 (fun h => pif_0 (by rw [← hi_23]; exact hc_26) h.2.2.1)) (by decide) rfl | exact rp_n (cdO_1 (fun h => pif_0 (by rw [← hk_12]; exact hc_15) h.2.1)) (by decide) rfl | exact rp_n (cdO_1 (fun h => pif_0 (by rw [← hi_5]; exact hc_8) h.1)) (by decide) rfl⟩
  · skip
    refine lv_iload_n C.1 C.2.1 dX5_order_11 rfl (lv_at hl 2 rfl) ?_
    refine gw_fromI (w := mw G q) (u := u) C Hh (gw_runS (n := 1) [.int (y)] C Hh (c_X5_isGood l G q (u) (y)  _) tw_823 tw_824 tw_71 tw_825 (by decide +kernel) ⟨Nat.le_of_ble_eq_true rfl, Nat.le_of_ble_eq_true rfl⟩ rfl hl.1 (Nat.le_of_ble_eq_true rfl) dX5_order_12 ⟨Nat.zero_le _, Nat.zero_le _⟩) (fun rc_12 uc_12 H locs hp_12 Hh => ?_)
    obtain ⟨kc_12, rfl, hp_12⟩ := hp_12
    obtain ⟨hk_12, hu_12⟩ := hp_12
    rw [hu_12] at Hh
    clear hu_12
    refine gw_if_eq (tgt := 40) C dX5_order_15 (by decide) (by rw [hk_12]; exact Nat.lt_of_le_of_lt (pif_le _) (by decide)) (fun hc_15 => ?_) (fun hc_15 => ?_)
    · skip
      refine lv_iconst (v := nI 1) C.1 C.2.1 dX5_order_40 (by decide +kernel) ?_
      refine lv_goto (tgt := 58) C.1 C.2.1 dX5_order_41 (by decide) ?_
      refine gw_put (Cn := RX5) (T := TX5) (N := 29) (ty0 := tyX5) (v := nI (1)) C Hh 0 mw_at0 rfl uwX5 tyX5_ok nmX5 0 (by decide) rfl tw_723 rfl (by decide +kernel) (Nat.le_of_ble_eq_true rfl) mw_num0 dX5_order_58 (fun H locs Hh => ?_)
      refine lv_aload_n C.1 C.2.1 dX5_order_61 rfl (lv_at hl 0 rfl) ?_
      refine gw_get (Cn := RX5) (T := TX5) (N := 29) C Hh 0 mw_at0 rfl uwX5 0 (by decide) rfl tw_723 rfl dX5_order_62 ?_
      refine W.eq (g2 := F0 m 65 ls [.int (nI (1))]) rfl ?_
      refine gw_if_le (tgt := 70) C dX5_order_65 (by decide) (by omega) (fun hc_65 => ?_) (fun hc_65 => ?_)
      · skip
        exact absurd hc_65 (by decide)
      · skip
        refine lv_iconst (v := nI 0) C.1 C.2.1 dX5_order_68 (by decide +kernel) ?_
        exact gw_iret (w := mw G q) (u := (up1 u.1 0 (1), u.2.1, u.2.2)) C Hh dX5_order_69 ⟨_, rfl, by first | exact rp_n (hv9.trans (if_neg (by omega))) (by decide) rfl | exact rp_n (cdO_1 (fun h => pif_0 (by rw [← hi_34]; exact hc_37) h.2.2.2)) (by decide) rfl | exact rp_n (cdO_1 (fun h => pif_0 (by rw [← hi_23]; exact hc_26) h.2.2.1)) (by decide) rfl | exact rp_n (cdO_1 (fun h => pif_0 (by rw [← hk_12]; exact hc_15) h.2.1)) (by decide) rfl | exact rp_n (cdO_1 (fun h => pif_0 (by rw [← hi_5]; exact hc_8) h.1)) (by decide) rfl⟩
    · skip
      refine lv_iload_n C.1 C.2.1 dX5_order_18 rfl (lv_at hl 3 rfl) ?_
      refine lv_iconst (v := nI 1) C.1 C.2.1 dX5_order_19 (by decide +kernel) ?_
      refine lv_sipush (v := nI 10000) C.1 C.2.1 dX5_order_20 (by decide +kernel) ?_
      refine gw_fromI (w := mw G q) (u := u) C Hh (gw_runS (n := 3) [.int (z), .int (nI (1)), .int (nI (10000))] C Hh (c_X5_in l G q (u) (z) (nI (1)) (nI (10000))  _) tw_820 tw_821 tw_71 tw_822 (by decide +kernel) ⟨Nat.le_of_ble_eq_true rfl, Nat.le_of_ble_eq_true rfl⟩ rfl hl.1 (Nat.le_of_ble_eq_true rfl) dX5_order_23 ⟨Nat.zero_le _, Nat.zero_le _⟩) (fun rc_23 uc_23 H locs hp_23 Hh => ?_)
      obtain ⟨kc_23, rfl, hp_23⟩ := hp_23
      obtain ⟨hk_23, hu_23⟩ := hp_23
      rw [hu_23] at Hh
      clear hu_23
      have hi_23 := ir_m (by decide) (by decide) hk_23
      refine gw_if_eq (tgt := 40) C dX5_order_26 (by decide) (by rw [hi_23]; exact Nat.lt_of_le_of_lt (pif_le _) (by decide)) (fun hc_26 => ?_) (fun hc_26 => ?_)
      · skip
        refine lv_iconst (v := nI 1) C.1 C.2.1 dX5_order_40 (by decide +kernel) ?_
        refine lv_goto (tgt := 58) C.1 C.2.1 dX5_order_41 (by decide) ?_
        refine gw_put (Cn := RX5) (T := TX5) (N := 29) (ty0 := tyX5) (v := nI (1)) C Hh 0 mw_at0 rfl uwX5 tyX5_ok nmX5 0 (by decide) rfl tw_723 rfl (by decide +kernel) (Nat.le_of_ble_eq_true rfl) mw_num0 dX5_order_58 (fun H locs Hh => ?_)
        refine lv_aload_n C.1 C.2.1 dX5_order_61 rfl (lv_at hl 0 rfl) ?_
        refine gw_get (Cn := RX5) (T := TX5) (N := 29) C Hh 0 mw_at0 rfl uwX5 0 (by decide) rfl tw_723 rfl dX5_order_62 ?_
        refine W.eq (g2 := F0 m 65 ls [.int (nI (1))]) rfl ?_
        refine gw_if_le (tgt := 70) C dX5_order_65 (by decide) (by omega) (fun hc_65 => ?_) (fun hc_65 => ?_)
        · skip
          exact absurd hc_65 (by decide)
        · skip
          refine lv_iconst (v := nI 0) C.1 C.2.1 dX5_order_68 (by decide +kernel) ?_
          exact gw_iret (w := mw G q) (u := (up1 u.1 0 (1), u.2.1, u.2.2)) C Hh dX5_order_69 ⟨_, rfl, by first | exact rp_n (hv9.trans (if_neg (by omega))) (by decide) rfl | exact rp_n (cdO_1 (fun h => pif_0 (by rw [← hi_34]; exact hc_37) h.2.2.2)) (by decide) rfl | exact rp_n (cdO_1 (fun h => pif_0 (by rw [← hi_23]; exact hc_26) h.2.2.1)) (by decide) rfl | exact rp_n (cdO_1 (fun h => pif_0 (by rw [← hk_12]; exact hc_15) h.2.1)) (by decide) rfl | exact rp_n (cdO_1 (fun h => pif_0 (by rw [← hi_5]; exact hc_8) h.1)) (by decide) rfl⟩
      · skip
        refine lv_iload C.1 C.2.1 dX5_order_29 (lv_at hl 4 rfl) ?_
        refine lv_iconst (v := nI 1) C.1 C.2.1 dX5_order_31 (by decide +kernel) ?_
        refine lv_bipush (v := nI 9) C.1 C.2.1 dX5_order_32 (by decide +kernel) ?_
        refine gw_fromI (w := mw G q) (u := u) C Hh (gw_runS (n := 3) [.int (w), .int (nI (1)), .int (nI (9))] C Hh (c_X5_in l G q (u) (w) (nI (1)) (nI (9))  _) tw_820 tw_821 tw_71 tw_822 (by decide +kernel) ⟨Nat.le_of_ble_eq_true rfl, Nat.le_of_ble_eq_true rfl⟩ rfl hl.1 (Nat.le_of_ble_eq_true rfl) dX5_order_34 ⟨Nat.zero_le _, Nat.zero_le _⟩) (fun rc_34 uc_34 H locs hp_34 Hh => ?_)
        obtain ⟨kc_34, rfl, hp_34⟩ := hp_34
        obtain ⟨hk_34, hu_34⟩ := hp_34
        rw [hu_34] at Hh
        clear hu_34
        have hi_34 := ir_m (by decide) (by decide) hk_34
        refine gw_if_ne (tgt := 44) C dX5_order_37 (by decide) (by rw [hi_34]; exact Nat.lt_of_le_of_lt (pif_le _) (by decide)) (fun hc_37 => ?_) (fun hc_37 => ?_)
        · skip
          obtain ⟨t, hx_t, hj_t⟩ := ir_n (hc := hc_8) hi_5
          rw [hx_t] at hl
          obtain ⟨g, hx_g, hj_g⟩ := ir_n (hc := hc_15) hk_12
          rw [hx_g] at hl
          obtain ⟨n, hx_n, hj_n⟩ := ir_n (hc := hc_26) hi_23
          rw [hx_n] at hl
          obtain ⟨r, hx_r, hj_r⟩ := ir_n (hc := hc_37) hi_34
          rw [hx_r] at hl
          have hg6 : g < 6 := by omega
          have hv9 : cdO (vw u) x y z w = if u.1 2 < 10 then 0 else 2 := cdO_v hx_t (by omega) hx_g hg6 hx_n (by omega) hx_r (by omega)
          refine lv_aload_n C.1 C.2.1 dX5_order_44 rfl (lv_at hl 0 rfl) ?_
          refine gw_get (Cn := RX5) (T := TX5) (N := 29) C Hh 0 mw_at0 rfl uwX5 11 (by decide) rfl tw_734 rfl dX5_order_45 ?_
          refine lv_bipush (v := nI 10) C.1 C.2.1 dX5_order_48 (by decide +kernel) ?_
          refine gw_icmp_ne (tgt := 57) C dX5_order_50 (by decide) (by omega) (by omega) (fun hc_50 => ?_) (fun hc_50 => ?_)
          · skip
            refine lv_iconst (v := nI 0) C.1 C.2.1 dX5_order_57 (by decide +kernel) ?_
            refine gw_put (Cn := RX5) (T := TX5) (N := 29) (ty0 := tyX5) (v := nI (0)) C Hh 0 mw_at0 rfl uwX5 tyX5_ok nmX5 0 (by decide) rfl tw_723 rfl (by decide +kernel) (Nat.le_of_ble_eq_true rfl) mw_num0 dX5_order_58 (fun H locs Hh => ?_)
            refine lv_aload_n C.1 C.2.1 dX5_order_61 rfl (lv_at hl 0 rfl) ?_
            refine gw_get (Cn := RX5) (T := TX5) (N := 29) C Hh 0 mw_at0 rfl uwX5 0 (by decide) rfl tw_723 rfl dX5_order_62 ?_
            refine W.eq (g2 := F0 m 65 ls [.int (nI (0))]) rfl ?_
            refine gw_if_le (tgt := 70) C dX5_order_65 (by decide) (by omega) (fun hc_65 => ?_) (fun hc_65 => ?_)
            · skip
              refine lv_aload_n C.1 C.2.1 dX5_order_70 rfl (lv_at hl 0 rfl) ?_
              refine gw_fromV (w := mw G q) (u := (up1 u.1 0 (0), u.2.1, u.2.2)) C Hh (gw_runV (n := 0) (C1 := RX5) [] C Hh (c_X5_collect l G q ((up1 u.1 0 (0), u.2.1, u.2.2))  (by exact sc_ok (u := u) ⟨rfl, rfl, fun _ _ _ => rfl⟩ hok) (by exact bd_code hbd rfl rfl) _) tw_895 tw_897 tw_59 tw_71 tw_898 (by decide +kernel) ⟨Nat.le_of_ble_eq_true rfl, Nat.le_of_ble_eq_true rfl⟩ 0 mw_at0 rfl rfl hl.1 (Nat.le_of_ble_eq_true rfl) dX5_order_71 ⟨Nat.zero_le _, Nat.zero_le _⟩) (fun uc_71 H locs hp_71 Hh => ?_)
              have hs71 : sc u uc_71 := hp_71.1.1
              have hok2 := sc_ok hs71 hok
              have n2 : uc_71.1 2 = u.1 2 := hs71.2.1
              have n3 := hp_71.2.2.1
              refine lv_aload_n C.1 C.2.1 dX5_order_74 rfl (lv_at hl 0 rfl) ?_
              refine lv_aload_n C.1 C.2.1 dX5_order_75 rfl (lv_at hl 0 rfl) ?_
              refine gw_get (Cn := RX5) (T := TX5) (N := 29) C Hh 0 mw_at0 rfl uwX5 11 (by decide) rfl tw_734 rfl dX5_order_76 ?_
              refine lv_iload_n C.1 C.2.1 dX5_order_79 rfl (lv_at hl 2 rfl) ?_
              refine lv_iload_n C.1 C.2.1 dX5_order_80 rfl (lv_at hl 3 rfl) ?_
              refine lv_iload_n C.1 C.2.1 dX5_order_81 rfl (lv_at hl 1 rfl) ?_
              refine gw_fromV (w := mw G q) (u := uc_71) C Hh (gw_runV (n := 4) (C1 := RX5) [.int (nI (uc_71.1 2)), .int (nI (g)), .int (nI (n)), .int (nI (t))] C Hh (c_X5_addOrder l G q (uc_71) (uc_71.1 2) (g) (n) (t) (by exact hok2) (by first | assumption | omega) (by first | assumption | omega) (by first | assumption | omega) (by first | assumption | omega) _) tw_839 tw_841 tw_51 tw_71 tw_842 (by decide +kernel) ⟨Nat.le_of_ble_eq_true rfl, Nat.le_of_ble_eq_true rfl⟩ 0 mw_at0 rfl rfl hl.1 (Nat.le_of_ble_eq_true rfl) dX5_order_82 ⟨Nat.zero_le _, Nat.zero_le _⟩) (fun uc_82 H locs hp_82 Hh => ?_)
              have hbd2 := dm_bd hok2 hp_71.2.1 hg6 (by omega) (by omega) hp_82
              have q82 := hp_82
              rw [n2] at q82
              have hH9 := ro_hall (r := r) hok (by omega) hg6 hs71 hp_71.2.2.2.1 hp_71.2.2.2.2 q82
              have hs82 : sc u uc_82 := hs71.tr hp_82.1
              have hc82 : uc_82.1 0 = 0 := hp_82.2.1.trans hp_71.1.2
              refine lv_aload_n C.1 C.2.1 dX5_order_85 rfl (lv_at hl 0 rfl) ?_
              refine gw_fromI (w := mw G q) (u := uc_82) C Hh (gw_runV (n := 0) (C1 := RX5) [] C Hh (c_X5_canBeMet l G q (uc_82)  (by rw [hs82.1]; exact h01) (by exact hbd2) _) tw_851 tw_853 tw_54 tw_71 tw_854 (by decide +kernel) ⟨Nat.le_of_ble_eq_true rfl, Nat.le_of_ble_eq_true rfl⟩ 0 mw_at0 rfl rfl hl.1 (Nat.le_of_ble_eq_true rfl) dX5_order_86 ⟨Nat.zero_le _, Nat.zero_le _⟩) (fun rc_86 uc_86 H locs hp_86 Hh => ?_)
              obtain ⟨kc_86, rfl, hp_86⟩ := hp_86
              obtain ⟨hk_86, hu_86⟩ := hp_86
              rw [hu_86] at Hh
              clear hu_86
              have h86 : kc_86 ≤ 1 := by (rcases hk_86 with h | h <;> omega)
              refine gw_if_ne (tgt := 94) C dX5_order_89 (by decide) (by omega) (fun hc_89 => ?_) (fun hc_89 => ?_)
              · skip
                refine lv_aload_n C.1 C.2.1 dX5_order_94 rfl (lv_at hl 0 rfl) ?_
                refine gw_get (Cn := RX5) (T := TX5) (N := 29) C Hh 0 mw_at0 rfl uwX5 12 (by decide) rfl tw_735 rfl dX5_order_95 ?_
                refine lv_aload_n C.1 C.2.1 dX5_order_98 rfl (lv_at hl 0 rfl) ?_
                refine gw_get (Cn := RX5) (T := TX5) (N := 29) C Hh 0 mw_at0 rfl uwX5 11 (by decide) rfl tw_734 rfl dX5_order_99 ?_
                refine lv_iload_n C.1 C.2.1 dX5_order_102 rfl (lv_at hl 1 rfl) ?_
                refine gw_st C Hh 10 mw_at10 (by decide) mw_set10 dX5_order_103 (by rw [hs82.2.1]; omega) (fun H locs Hh => ?_)
                have Hh : gw_H G A s (mw G q (uc_82.1, up2 uc_82.2.1 10 (uc_82.1 2) (t), uc_82.2.2)) H locs := Hh
                refine lv_aload_n C.1 C.2.1 dX5_order_104 rfl (lv_at hl 0 rfl) ?_
                refine gw_get (Cn := RX5) (T := TX5) (N := 29) C Hh 0 mw_at0 rfl uwX5 13 (by decide) rfl tw_736 rfl dX5_order_105 ?_
                refine lv_aload_n C.1 C.2.1 dX5_order_108 rfl (lv_at hl 0 rfl) ?_
                refine gw_get (Cn := RX5) (T := TX5) (N := 29) C Hh 0 mw_at0 rfl uwX5 11 (by decide) rfl tw_734 rfl dX5_order_109 ?_
                refine W.eq (g2 := F0 m 112 ls [.int (nI (uc_82.1 2)), .ref (q 11)]) rfl ?_
                refine lv_iload_n C.1 C.2.1 dX5_order_112 rfl (lv_at hl 2 rfl) ?_
                refine gw_st C Hh 11 mw_at11 (by decide) mw_set11 dX5_order_113 (by rw [hs82.2.1]; omega) (fun H locs Hh => ?_)
                have Hh : gw_H G A s (mw G q (uc_82.1, up2 (up2 uc_82.2.1 10 (uc_82.1 2) (t)) 11 (uc_82.1 2) (g), uc_82.2.2)) H locs := Hh
                refine lv_aload_n C.1 C.2.1 dX5_order_114 rfl (lv_at hl 0 rfl) ?_
                refine gw_get (Cn := RX5) (T := TX5) (N := 29) C Hh 0 mw_at0 rfl uwX5 14 (by decide) rfl tw_737 rfl dX5_order_115 ?_
                refine lv_aload_n C.1 C.2.1 dX5_order_118 rfl (lv_at hl 0 rfl) ?_
                refine gw_get (Cn := RX5) (T := TX5) (N := 29) C Hh 0 mw_at0 rfl uwX5 11 (by decide) rfl tw_734 rfl dX5_order_119 ?_
                refine W.eq (g2 := F0 m 122 ls [.int (nI (uc_82.1 2)), .ref (q 12)]) rfl ?_
                refine lv_iload_n C.1 C.2.1 dX5_order_122 rfl (lv_at hl 3 rfl) ?_
                refine gw_st C Hh 12 mw_at12 (by decide) mw_set12 dX5_order_123 (by rw [hs82.2.1]; omega) (fun H locs Hh => ?_)
                have Hh : gw_H G A s (mw G q (uc_82.1, up2 (up2 (up2 uc_82.2.1 10 (uc_82.1 2) (t)) 11 (uc_82.1 2) (g)) 12 (uc_82.1 2) (n), uc_82.2.2)) H locs := Hh
                refine lv_aload_n C.1 C.2.1 dX5_order_124 rfl (lv_at hl 0 rfl) ?_
                refine gw_get (Cn := RX5) (T := TX5) (N := 29) C Hh 0 mw_at0 rfl uwX5 15 (by decide) rfl tw_738 rfl dX5_order_125 ?_
                refine lv_aload_n C.1 C.2.1 dX5_order_128 rfl (lv_at hl 0 rfl) ?_
                refine gw_get (Cn := RX5) (T := TX5) (N := 29) C Hh 0 mw_at0 rfl uwX5 11 (by decide) rfl tw_734 rfl dX5_order_129 ?_
                refine W.eq (g2 := F0 m 132 ls [.int (nI (uc_82.1 2)), .ref (q 13)]) rfl ?_
                refine lv_iload C.1 C.2.1 dX5_order_132 (lv_at hl 4 rfl) ?_
                refine gw_st C Hh 13 mw_at13 (by decide) mw_set13 dX5_order_134 (by rw [hs82.2.1]; omega) (fun H locs Hh => ?_)
                have Hh : gw_H G A s (mw G q (uc_82.1, up2 (up2 (up2 (up2 uc_82.2.1 10 (uc_82.1 2) (t)) 11 (uc_82.1 2) (g)) 12 (uc_82.1 2) (n)) 13 (uc_82.1 2) (r), uc_82.2.2)) H locs := Hh
                refine lv_aload_n C.1 C.2.1 dX5_order_135 rfl (lv_at hl 0 rfl) ?_
                refine gw_get (Cn := RX5) (T := TX5) (N := 29) C Hh 0 mw_at0 rfl uwX5 16 (by decide) rfl tw_739 rfl dX5_order_136 ?_
                refine lv_aload_n C.1 C.2.1 dX5_order_139 rfl (lv_at hl 0 rfl) ?_
                refine gw_get (Cn := RX5) (T := TX5) (N := 29) C Hh 0 mw_at0 rfl uwX5 11 (by decide) rfl tw_734 rfl dX5_order_140 ?_
                refine W.eq (g2 := F0 m 143 ls [.int (nI (uc_82.1 2)), .ref (q 14)]) rfl ?_
                refine lv_iconst (v := nI 0) C.1 C.2.1 dX5_order_143 (by decide +kernel) ?_
                refine gw_st C Hh 14 mw_at14 (by decide) mw_set14 dX5_order_144 (by rw [hs82.2.1]; omega) (fun H locs Hh => ?_)
                have Hh : gw_H G A s (mw G q (uc_82.1, up2 (up2 (up2 (up2 (up2 uc_82.2.1 10 (uc_82.1 2) (t)) 11 (uc_82.1 2) (g)) 12 (uc_82.1 2) (n)) 13 (uc_82.1 2) (r)) 14 (uc_82.1 2) (0), uc_82.2.2)) H locs := Hh
                refine lv_aload_n C.1 C.2.1 dX5_order_145 rfl (lv_at hl 0 rfl) ?_
                refine lv_dup C.1 C.2.1 dX5_order_146 rfl ?_
                refine gw_get (Cn := RX5) (T := TX5) (N := 29) C Hh 0 mw_at0 rfl uwX5 11 (by decide) rfl tw_734 rfl dX5_order_147 ?_
                refine W.eq (g2 := F0 m 150 ls [.int (nI (uc_82.1 2)), .ref (q 0)]) rfl ?_
                refine lv_iconst (v := nI 1) C.1 C.2.1 dX5_order_150 (by decide +kernel) ?_
                refine gw_iadd C dX5_order_151 ?_
                refine gw_put (Cn := RX5) (T := TX5) (N := 29) (ty0 := tyX5) (v := nI ((uc_82.1 2) + 1)) C Hh 0 mw_at0 rfl uwX5 tyX5_ok nmX5 11 (by decide) rfl tw_734 rfl (by decide +kernel) (Nat.le_of_ble_eq_true rfl) mw_num2 dX5_order_152 (fun H locs Hh => ?_)
                refine lv_aload_n C.1 C.2.1 dX5_order_155 rfl (lv_at hl 0 rfl) ?_
                refine gw_get (Cn := RX5) (T := TX5) (N := 29) C Hh 0 mw_at0 rfl uwX5 11 (by decide) rfl tw_734 rfl dX5_order_156 ?_
                refine W.eq (g2 := F0 m 159 ls [.int (nI ((uc_82.1 2) + 1))]) rfl ?_
                refine lv_iconst (v := nI 1) C.1 C.2.1 dX5_order_159 (by decide +kernel) ?_
                refine gw_isub C dX5_order_160 (by rw [hs82.2.1]; omega) ?_
                exact gw_iret (w := mw G q) (u := (up1 uc_82.1 2 ((uc_82.1 2) + 1), up2 (up2 (up2 (up2 (up2 uc_82.2.1 10 (uc_82.1 2) (t)) 11 (uc_82.1 2) (g)) 12 (uc_82.1 2) (n)) 13 (uc_82.1 2) (r)) 14 (uc_82.1 2) (0), uc_82.2.2)) C Hh dX5_order_161 ⟨_, rfl, by refine rp_y (hv9.trans (if_pos (by omega))) hc82 ⟨bd_code hbd2 rfl rfl, Or.inr ⟨?_, ?_, ?_⟩⟩; (rw [hs82.2.1]; omega); (rw [tn_eq hx_t (by omega), tn_eq hx_g (by omega), tn_eq hx_n (by omega), tn_eq hx_r (by omega)]; exact ra_of hs82); (rw [tn_eq hx_t (by omega), tn_eq hx_g (by omega), tn_eq hx_n (by omega), tn_eq hx_r (by omega), ← hH9]; rcases hk_86 with ⟨-, h⟩ | ⟨h, -⟩; exact h; omega)⟩
              · skip
                refine lv_iconst (v := nI 4294967295) C.1 C.2.1 dX5_order_92 (by decide +kernel) ?_
                exact gw_iret (w := mw G q) (u := uc_82) C Hh dX5_order_93 ⟨_, rfl, by refine rp_y (hv9.trans (if_pos (by omega))) hc82 ⟨hbd2, Or.inl ⟨rfl, hs82, ?_⟩⟩; rw [tn_eq hx_t (by omega), tn_eq hx_g (by omega), tn_eq hx_n (by omega), tn_eq hx_r (by omega), ← hH9]; intro q; rcases hk_86 with h | ⟨h, S9, s1, s2⟩; omega; have := q S9 s1; omega⟩
            · skip
              exact absurd hc_65 (by decide)
          · skip
            refine lv_iconst (v := nI 2) C.1 C.2.1 dX5_order_53 (by decide +kernel) ?_
            refine lv_goto (tgt := 58) C.1 C.2.1 dX5_order_54 (by decide) ?_
            refine gw_put (Cn := RX5) (T := TX5) (N := 29) (ty0 := tyX5) (v := nI (2)) C Hh 0 mw_at0 rfl uwX5 tyX5_ok nmX5 0 (by decide) rfl tw_723 rfl (by decide +kernel) (Nat.le_of_ble_eq_true rfl) mw_num0 dX5_order_58 (fun H locs Hh => ?_)
            refine lv_aload_n C.1 C.2.1 dX5_order_61 rfl (lv_at hl 0 rfl) ?_
            refine gw_get (Cn := RX5) (T := TX5) (N := 29) C Hh 0 mw_at0 rfl uwX5 0 (by decide) rfl tw_723 rfl dX5_order_62 ?_
            refine W.eq (g2 := F0 m 65 ls [.int (nI (2))]) rfl ?_
            refine gw_if_le (tgt := 70) C dX5_order_65 (by decide) (by omega) (fun hc_65 => ?_) (fun hc_65 => ?_)
            · skip
              exact absurd hc_65 (by decide)
            · skip
              refine lv_iconst (v := nI 0) C.1 C.2.1 dX5_order_68 (by decide +kernel) ?_
              exact gw_iret (w := mw G q) (u := (up1 u.1 0 (2), u.2.1, u.2.2)) C Hh dX5_order_69 ⟨_, rfl, by first | exact rp_n (hv9.trans (if_neg (by omega))) (by decide) rfl | exact rp_n (cdO_1 (fun h => pif_0 (by rw [← hi_34]; exact hc_37) h.2.2.2)) (by decide) rfl | exact rp_n (cdO_1 (fun h => pif_0 (by rw [← hi_23]; exact hc_26) h.2.2.1)) (by decide) rfl | exact rp_n (cdO_1 (fun h => pif_0 (by rw [← hk_12]; exact hc_15) h.2.1)) (by decide) rfl | exact rp_n (cdO_1 (fun h => pif_0 (by rw [← hi_5]; exact hc_8) h.1)) (by decide) rfl⟩
        · skip
          refine lv_iconst (v := nI 1) C.1 C.2.1 dX5_order_40 (by decide +kernel) ?_
          refine lv_goto (tgt := 58) C.1 C.2.1 dX5_order_41 (by decide) ?_
          refine gw_put (Cn := RX5) (T := TX5) (N := 29) (ty0 := tyX5) (v := nI (1)) C Hh 0 mw_at0 rfl uwX5 tyX5_ok nmX5 0 (by decide) rfl tw_723 rfl (by decide +kernel) (Nat.le_of_ble_eq_true rfl) mw_num0 dX5_order_58 (fun H locs Hh => ?_)
          refine lv_aload_n C.1 C.2.1 dX5_order_61 rfl (lv_at hl 0 rfl) ?_
          refine gw_get (Cn := RX5) (T := TX5) (N := 29) C Hh 0 mw_at0 rfl uwX5 0 (by decide) rfl tw_723 rfl dX5_order_62 ?_
          refine W.eq (g2 := F0 m 65 ls [.int (nI (1))]) rfl ?_
          refine gw_if_le (tgt := 70) C dX5_order_65 (by decide) (by omega) (fun hc_65 => ?_) (fun hc_65 => ?_)
          · skip
            exact absurd hc_65 (by decide)
          · skip
            refine lv_iconst (v := nI 0) C.1 C.2.1 dX5_order_68 (by decide +kernel) ?_
            exact gw_iret (w := mw G q) (u := (up1 u.1 0 (1), u.2.1, u.2.2)) C Hh dX5_order_69 ⟨_, rfl, by first | exact rp_n (hv9.trans (if_neg (by omega))) (by decide) rfl | exact rp_n (cdO_1 (fun h => pif_0 (by rw [← hi_34]; exact hc_37) h.2.2.2)) (by decide) rfl | exact rp_n (cdO_1 (fun h => pif_0 (by rw [← hi_23]; exact hc_26) h.2.2.1)) (by decide) rfl | exact rp_n (cdO_1 (fun h => pif_0 (by rw [← hk_12]; exact hc_15) h.2.1)) (by decide) rfl | exact rp_n (cdO_1 (fun h => pif_0 (by rw [← hi_5]; exact hc_8) h.1)) (by decide) rfl⟩
