/-- the class's invariant over another state that has the same of what it speaks of -/
theorem cls_of {u v : pf_S} (hc : cls u) (hst : pf_st v) (h1 : v.1 = u.1) (k : ∀ j, j ∈ [5, 6, 10, 11, 12, 13, 18, 20] → v.2 j = u.2 j)
    (ko : ∀ o, o < u.1 1 → v.2 14 o = u.2 14 o ∧ v.2 15 o = u.2 15 o ∧ v.2 16 o = u.2 16 o ∧ v.2 17 o = u.2 17 o)
    (kg : ∀ o, o < u.1 1 → gd_dn v (u.2 15 o) = gd_dn u (u.2 15 o) ∧ ∀ x, x < gd_dn u (u.2 15 o) → gd_dg v (u.2 15 o) x = gd_dg u (u.2 15 o) x ∧ gd_d1 v (u.2 15 o) x = gd_d1 u (u.2 15 o) x)
    (h21 : ∀ j, j < 10 → v.2 21 j = u.2 21 j) (h22 : ∀ j, j < 310 → v.2 22 j = u.2 22 j) (hus : us_ok v) (h23 : ∀ d, d < 31 → cvd u d → v.2 23 d = u.2 23 d) :
    cls v ∧ (∀ d, cv_W v d = cv_W u d) ∧ ∀ d, cvd u d → cmk v d = cmk u d := by
  obtain ⟨hsu, hf, hmk, hpl⟩ := hc
  have hn := hsu.2.1.1
  have n0 : v.1 0 = u.1 0 := by rw [h1]
  have n1 : v.1 1 = u.1 1 := by rw [h1]
  have n2 : v.1 2 = u.1 2 := by rw [h1]
  have en : ∀ o, o < u.1 1 → od_n v o = od_n u o := fun o ho => by
    unfold od_n
    rw [(ko o ho).2.1]
    exact (kg o ho).1
  have eb : ∀ d, cvb v d = cvb u d := fun d => by
    unfold cvb
    rw [n1, k 18 (by decide)]
    by_cases q : d / 3 < u.1 1
    · rw [en _ q]
    · rw [decide_eq_false q]
      rfl
  have ec : ∀ d, cvd v d ↔ cvd u d := fun d => by rw [← cvb_iff, ← cvb_iff, eb]
  have ew : ∀ d, cv_W v d = cv_W u d := fun d => by
    unfold cv_W
    rw [eb]
    by_cases q : cvb u d = true
    · rw [if_pos q, if_pos q]
      have q1 := cvb_iff.mp q
      unfold od_w
      rw [(ko _ q1.1).2.2.1, (ko _ q1.1).2.1, ((kg _ q1.1).2 _ q1.2.2).2]
    · rw [if_neg q, if_neg q]
  have em : ∀ d, cvd u d → cmk v d = cmk u d := fun d q1 => by
    unfold cmk
    rw [(ko _ q1.1).2.1, (ko _ q1.1).1, ((kg _ q1.1).2 _ q1.2.2).1]
    unfold us_f
    rw [n0]
    have : ∀ g t i, us_m v g t i = us_m u g t i := fun g t i => by
      induction i with
      | zero => rfl
      | succ i ih =>
        rw [us_m_succ, us_m_succ, ih]
        unfold us_c
        rw [k 11 (by decide), k 6 (by decide), k 10 (by decide), k 5 (by decide)]
    exact this _ _ _
  have hx : ∀ e b, e < 31 → b < 10 → tk_x v e b = tk_x u e b := fun e b he hb => by
    unfold tk_x
    exact h22 _ (by omega)
  have hcv0 : ∀ e, e < 31 → ¬ cvd u e → cv_W u e = 0 := fun e he hne => by
    unfold cv_W
    rw [if_neg (fun s => hne (cvb_iff.mp s))]
  obtain ⟨f1, f2, f3, f4, f5, f6⟩ := hf
  have hfs : fs v (cv_W v) := by
    refine ⟨by rw [n0, n2]; exact f1, by rw [n0, k 10 (by decide), k 20 (by decide)]; exact f2, hus, fun a ha => ?_, fun d hd => ?_, fun d hd a ha hp => ?_⟩
    · rw [n0] at ha
      rw [k 12 (by decide), k 13 (by decide), ← f4 a ha]
      unfold tk_col
      rw [h21 a (by omega)]
      congr 1
      exact fl_sum_congr fun d hd => hx d a hd (by omega)
    · rw [ew, n0, ← f5 d hd]
      exact fl_sum_congr fun a ha => hx d a hd (by omega)
    · rw [n0] at ha
      rw [hx d a hd (by omega)] at hp
      by_cases q : cvd u d
      · rw [h23 d hd q]
        exact f6 d hd a ha hp
      · have q1 := fl_sum_one (tk_x u d) ha
        rw [f5 d hd, hcv0 d hd q] at q1
        omega
  have eR : ∀ d e, cvd u d → cvd u e → (pbf v e d ↔ pbf u e d) := fun d e hd he => by
    unfold pbf kx_lt
    rw [(ko _ hd.1).2.2.2, (ko _ he.1).2.2.2]
  refine ⟨⟨hst, hfs, fun d hd hcd => ?_, fun d hd hcd => ?_⟩, ew, em⟩
  · have hcu := (ec d).mp hcd
    rw [h23 d hd hcu, em d hcu]
    exact hmk d hd hcu
  · have hcu := (ec d).mp hcd
    have hp := hpl d hd hcu
    intro t ht hu
    rw [n0] at ht
    rw [k 20 (by decide), h23 d hd hcu] at hu
    have hz : ∀ z, z < u.1 0 → tk_x v d (u.2 20 z) = tk_x u d (u.2 20 z) := fun z hz => hx d _ hd (by have := f2.1 z hz; omega)
    rcases hp t ht hu with ⟨y, T, y1, y2, y3, y4, y5, y6⟩ | h9
    · left
      have y0 : ∀ e, e < 31 → ¬ cvd u e → ∀ a, a < u.1 0 → y e a = 0 := fun e he hne a ha => by
        have q1 := fl_sum_one (y e) ha
        rw [y1.1 e he, hcv0 e he hne] at q1
        omega
      refine ⟨y, T, ⟨fun e he => by rw [n0, ew]; exact y1.1 e he, fun e he a ha hp2 => ?_, by rw [n0, k 12 (by decide), k 13 (by decide)]; exact y1.2.2⟩, fun e he hce hb a ha => ?_, by rw [n0, k 12 (by decide), k 13 (by decide)]; exact y3, fun e he hce hb a ha hTa hp2 b hub => ?_, by rw [k 20 (by decide)]; exact y5, fun z h2 h3 h4 => ?_⟩
      · rw [n0] at ha
        by_cases q : cvd u e
        · rw [h23 e he q]
          exact y1.2.1 e he a ha hp2
        · rw [y0 e he q a ha] at hp2
          cases hp2
      · rw [n0] at ha
        rw [hx e a he (by omega)]
        exact y2 e he ((ec e).mp hce) (hb.imp (eR d e hcu ((ec e).mp hce)).mp id) a ha
      · rw [n0] at ha
        have hcu2 := (ec e).mp hce
        rw [h23 e he hcu2] at hub
        exact y4 e he hcu2 ((eR e d hcu2 hcu).mp hb) a ha hTa hp2 b hub
      · rw [n0] at h3
        rw [k 20 (by decide)] at h4 ⊢
        rw [hz z h3]
        exact y6 z h2 h3 h4
    · right
      intro z h2 h3
      rw [n0] at h3
      rw [k 20 (by decide), hz z h3]
      exact h9 z h2 h3
/-! count -/
def ct (u : pf_S) (j : Nat) : Nat := if j = 0 then u.1 0 else if j = 1 then u.1 1 else if j = 2 then fl_sum (fun a => if u.2 18 a = 0 then 1 else 0) (u.1 1) else if j = 3 then fallen u else if j = 4 then fl_sum (fun a => u.2 12 a - u.2 13 a) (u.1 0) else fl_sum (fun a => if u.2 18 a = 0 then fl_sum (od_w u a) (od_n u a) else 0) (u.1 1)
noncomputable def cnt (u : pf_S) (x : Int32) : Nat := pif (inr x 0 5) (ct u (tn x)) 4294967295
theorem cnt_v {u : pf_S} {x : Int32} {j : Nat} (h : x = nI j) (hj : j ≤ 5) : cnt u x = ct u j := by
  unfold cnt
  rw [pif_pos (inr_ok h (by decide) (Nat.zero_le _) hj), tn_eq h (by omega)]
theorem cnt_n {u : pf_S} {x : Int32} (h : ¬ inr x 0 5) : cnt u x = 4294967295 := pif_neg h
set_option maxHeartbeats 4000000 in
set_option maxRecDepth 100000 in
theorem c_X4_count (l : Launch) (G : gw_G) (q : Nat → Nat) (u : pf_S) (x : Int32) (h2 : cl2 u) : gw_MI l yX4_count cX4_count 2 (some .int) 4 88 [.ref (q 0), .int (x)] G (pw G q) u (fun r u1 => ∃ k : Nat, r = nI k ∧ (k = cnt u x ∧ u1 = u)) := by
  refine gw_entryI (own := RX4) (by decide) rfl (Nat.le_of_ble_eq_true rfl) ?_
  intro p e s m args below meth c A ls C Hh hl
  have hl : lv_has ls 2 [(0, .ref (q 0)), (1, .int (x))] := hl
  have hcl : cls u := h2.1
  have hgd : gd_ok u := h2.1.1.1
  have har : ar_ok u := h2.1.1.2.1
  have hod : od_ok u := h2.1.1.2.2
  have h10 : u.1 0 ≤ 10 := har.1
  have o10 : u.1 1 ≤ 10 := hod.1
  refine lv_iload_n C.1 C.2.1 dX4_count_0 rfl (lv_at hl 1 rfl) ?_
  rcases sw6 (x) with hsw | hsw | hsw | hsw | hsw | hsw | hsw
  · skip
    refine lv_tableIn (off := 39) (tgt := 40) C.1 C.2.1 dX4_count_1 (by rw [hsw]; decide) (by rw [hsw]; decide) (by rw [hsw]; decide) (by decide) ?_
    refine lv_aload_n C.1 C.2.1 dX4_count_40 rfl (lv_at hl 0 rfl) ?_
    refine gw_get (Cn := RX4) (T := TX4) (N := 4) C Hh 0 pw_at0 rfl uwX4 1 (by decide) rfl tw_219 rfl dX4_count_41 ?_
    refine gw_getN (Cn := RX0) (T := TX0) (N := 5) C Hh 2 pw_at2 rfl uwX0 0 (by decide) rfl tw_125 rfl dX4_count_44 ?_
    exact gw_iret (w := pw G q) (u := u) C Hh dX4_count_47 ⟨_, rfl, by exact ⟨(cnt_v hsw (by decide)).symm, rfl⟩⟩
  · skip
    refine lv_tableIn (off := 47) (tgt := 48) C.1 C.2.1 dX4_count_1 (by rw [hsw]; decide) (by rw [hsw]; decide) (by rw [hsw]; decide) (by decide) ?_
    refine lv_aload_n C.1 C.2.1 dX4_count_48 rfl (lv_at hl 0 rfl) ?_
    refine gw_get (Cn := RX4) (T := TX4) (N := 4) C Hh 0 pw_at0 rfl uwX4 2 (by decide) rfl tw_220 rfl dX4_count_49 ?_
    refine gw_getN (Cn := RX2) (T := TX2) (N := 7) C Hh 3 pw_at3 rfl uwX2 0 (by decide) rfl tw_152 rfl dX4_count_52 ?_
    exact gw_iret (w := pw G q) (u := u) C Hh dX4_count_55 ⟨_, rfl, by exact ⟨(cnt_v hsw (by decide)).symm, rfl⟩⟩
  · skip
    refine lv_tableIn (off := 55) (tgt := 56) C.1 C.2.1 dX4_count_1 (by rw [hsw]; decide) (by rw [hsw]; decide) (by rw [hsw]; decide) (by decide) ?_
    refine lv_aload_n C.1 C.2.1 dX4_count_56 rfl (lv_at hl 0 rfl) ?_
    refine gw_get (Cn := RX4) (T := TX4) (N := 4) C Hh 0 pw_at0 rfl uwX4 2 (by decide) rfl tw_220 rfl dX4_count_57 ?_
    refine lv_iconst (v := nI 0) C.1 C.2.1 dX4_count_60 (by decide +kernel) ?_
    refine gw_fromI (w := pw G q) (u := u) C Hh (gw_runVN (n := 1) (C1 := RX2) [.int (nI (0))] C Hh (c_X2_numberIn l G q (u) (0) (by first | assumption | omega) (by first | assumption | omega) _) tw_235 tw_237 tw_0 tw_69 tw_238 (by decide +kernel) ⟨Nat.le_of_ble_eq_true rfl, Nat.le_of_ble_eq_true rfl⟩ 3 pw_at3 rfl rfl hl.1 (Nat.le_of_ble_eq_true rfl) dX4_count_61 ⟨Nat.zero_le _, Nat.zero_le _⟩) (fun rc_61 uc_61 H locs hp_61 Hh => ?_)
    obtain ⟨kc_61, rfl, hp_61⟩ := hp_61
    obtain ⟨hk_61, hu_61⟩ := hp_61
    rw [hu_61] at Hh
    clear hu_61
    exact gw_iret (w := pw G q) (u := u) C Hh dX4_count_64 ⟨_, rfl, by exact ⟨hk_61.trans (cnt_v hsw (by decide)).symm, rfl⟩⟩
  · skip
    refine lv_tableIn (off := 64) (tgt := 65) C.1 C.2.1 dX4_count_1 (by rw [hsw]; decide) (by rw [hsw]; decide) (by rw [hsw]; decide) (by decide) ?_
    refine lv_aload_n C.1 C.2.1 dX4_count_65 rfl (lv_at hl 0 rfl) ?_
    refine gw_get (Cn := RX4) (T := TX4) (N := 4) C Hh 0 pw_at0 rfl uwX4 2 (by decide) rfl tw_220 rfl dX4_count_66 ?_
    refine lv_iconst (v := nI 1) C.1 C.2.1 dX4_count_69 (by decide +kernel) ?_
    refine gw_fromI (w := pw G q) (u := u) C Hh (gw_runVN (n := 1) (C1 := RX2) [.int (nI (1))] C Hh (c_X2_numberIn l G q (u) (1) (by first | assumption | omega) (by first | assumption | omega) _) tw_235 tw_237 tw_0 tw_69 tw_238 (by decide +kernel) ⟨Nat.le_of_ble_eq_true rfl, Nat.le_of_ble_eq_true rfl⟩ 3 pw_at3 rfl rfl hl.1 (Nat.le_of_ble_eq_true rfl) dX4_count_70 ⟨Nat.zero_le _, Nat.zero_le _⟩) (fun rc_70 uc_70 H locs hp_70 Hh => ?_)
    obtain ⟨kc_70, rfl, hp_70⟩ := hp_70
    obtain ⟨hk_70, hu_70⟩ := hp_70
    rw [hu_70] at Hh
    clear hu_70
    exact gw_iret (w := pw G q) (u := u) C Hh dX4_count_73 ⟨_, rfl, by exact ⟨hk_70.trans (cnt_v hsw (by decide)).symm, rfl⟩⟩
  · skip
    refine lv_tableIn (off := 73) (tgt := 74) C.1 C.2.1 dX4_count_1 (by rw [hsw]; decide) (by rw [hsw]; decide) (by rw [hsw]; decide) (by decide) ?_
    refine lv_aload_n C.1 C.2.1 dX4_count_74 rfl (lv_at hl 0 rfl) ?_
    refine gw_get (Cn := RX4) (T := TX4) (N := 4) C Hh 0 pw_at0 rfl uwX4 1 (by decide) rfl tw_219 rfl dX4_count_75 ?_
    refine gw_fromI (w := pw G q) (u := u) C Hh (gw_runVN (n := 0) (C1 := RX0) [] C Hh (c_X0_allFree l G q (u)  (by first | assumption | omega) _) tw_239 tw_241 tw_1 tw_68 tw_242 (by decide +kernel) ⟨Nat.le_of_ble_eq_true rfl, Nat.le_of_ble_eq_true rfl⟩ 2 pw_at2 rfl rfl hl.1 (Nat.le_of_ble_eq_true rfl) dX4_count_78 ⟨Nat.zero_le _, Nat.zero_le _⟩) (fun rc_78 uc_78 H locs hp_78 Hh => ?_)
    obtain ⟨kc_78, rfl, hp_78⟩ := hp_78
    obtain ⟨hk_78, hu_78⟩ := hp_78
    rw [hu_78] at Hh
    clear hu_78
    exact gw_iret (w := pw G q) (u := u) C Hh dX4_count_81 ⟨_, rfl, by exact ⟨hk_78.trans (cnt_v hsw (by decide)).symm, rfl⟩⟩
  · skip
    refine lv_tableIn (off := 81) (tgt := 82) C.1 C.2.1 dX4_count_1 (by rw [hsw]; decide) (by rw [hsw]; decide) (by rw [hsw]; decide) (by decide) ?_
    refine lv_aload_n C.1 C.2.1 dX4_count_82 rfl (lv_at hl 0 rfl) ?_
    refine gw_fromI (w := pw G q) (u := u) C Hh (gw_runV (n := 0) (C1 := RX4) [] C Hh (c_X4_allCoveredDemands l G q (u)  (by first | assumption | omega) (by first | assumption | omega) _) tw_247 tw_249 tw_3 tw_66 tw_250 (by decide +kernel) ⟨Nat.le_of_ble_eq_true rfl, Nat.le_of_ble_eq_true rfl⟩ 0 pw_at0 rfl rfl hl.1 (Nat.le_of_ble_eq_true rfl) dX4_count_83 ⟨Nat.zero_le _, Nat.zero_le _⟩) (fun rc_83 uc_83 H locs hp_83 Hh => ?_)
    obtain ⟨kc_83, rfl, hp_83⟩ := hp_83
    obtain ⟨hk_83, hu_83⟩ := hp_83
    rw [hu_83] at Hh
    clear hu_83
    exact gw_iret (w := pw G q) (u := u) C Hh dX4_count_86 ⟨_, rfl, by exact ⟨hk_83.trans (cnt_v hsw (by decide)).symm, rfl⟩⟩
  · skip
    refine lv_tableOut (tgt := 87) C.1 C.2.1 dX4_count_1 (by unfold inr at hsw; omega) (by decide) ?_
    refine lv_iconst (v := nI 4294967295) C.1 C.2.1 dX4_count_87 (by decide +kernel) ?_
    exact gw_iret (w := pw G q) (u := u) C Hh dX4_count_88 ⟨_, rfl, by exact ⟨(cnt_n hsw).symm, rfl⟩⟩
/-! bars -/
noncomputable def cdB (u : pf_S) (x y z : Int32) : Nat := pif (inr x 0 5 ∧ inr y 0 99 ∧ ¬ z < 0) (pif (0 < u.2 7 (tn x)) 2 0) 1
theorem cdB_1 {u : pf_S} {x y z : Int32} (h : ¬ (inr x 0 5 ∧ inr y 0 99 ∧ ¬ z < 0)) : cdB u x y z = 1 := pif_neg h
theorem cdB_v {u : pf_S} {x y z : Int32} {g t n : Nat} (hx : x = nI g) (hg : g < 6) (hy : y = nI t) (ht : t < 100) (hz : z = nI n) (hn : n < 2 ^ 31) : cdB u x y z = if 0 < u.2 7 g then 2 else 0 := by
  unfold cdB
  rw [pif_pos ⟨inr_ok hx (by decide) (Nat.zero_le _) (by omega), inr_ok hy (by decide) (Nat.zero_le _) (by omega), n0_ok hz hn⟩, tn_eq hx (by omega), pif_if]
def brB (u : pf_S) (R o : Nat) : Prop := ∃ x, x < od_n u o ∧ ∃ b, b < u.1 2 ∧ R.testBit b = true ∧ 0 < tk_x u (o * 3 + x) b
noncomputable def brc (u : pf_S) (R i : Nat) : Nat := fl_sum (fun o => pif (brB u R o) 1 0) i
theorem brc_s (u : pf_S) (R i : Nat) : brc u R (i + 1) = brc u R i + pif (brB u R i) 1 0 := rfl
theorem brc_le (u : pf_S) (R : Nat) : ∀ i, brc u R i ≤ i
  | 0 => Nat.le_refl _
  | i + 1 => by
    rw [brc_s]
    have := brc_le u R i
    by_cases h : brB u R i
    · rw [pif_pos h]; omega
    · rw [pif_neg h]; omega
theorem sp_mo {u v : pf_S} {S lo R : Nat} (h : sp_post u v S lo R) : mo_same u v := ⟨h.1.1, fun j hj => h.1.2 j (fun q => hj (by revert q; simp; omega)), fun j _ => by rw [h.1.2 21 (by decide)], fun j _ => by rw [h.1.2 22 (by decide)], fun d _ => by rw [h.1.2 23 (by decide)]⟩
theorem sp_cls {u v : pf_S} {S lo R : Nat} (hc : cls u) (h : sp_post u v S lo R) : cls v := mo_cls hc (sp_mo h) (fun a ha => by
  rw [h.1.2 23 (by decide)] at ha
  exact cl_us hc 30 (by decide) a ha)
set_option maxHeartbeats 4000000 in
set_option maxRecDepth 100000 in
theorem c_X4_bars (l : Launch) (G : gw_G) (q : Nat → Nat) (u : pf_S) (x : Int32) (y : Int32) (z : Int32) (hst9 : l.stackTraces = false) (h2 : cl2 u) : gx_MI l yX4_bars cX4_bars 7 (some .int) 8 124 [.ref (q 0), .int (x), .int (y), .int (z)] G (pw G q) u (fun r u1 => ∃ k : Nat, r = nI k ∧ (cdB u x y z = 0 ∧ ∃ R, sp_post u u1 (us_f u (tn x) (tn y)) 4294967295 R ∧ ((k < u1.1 1 ∧ brB u1 R k ∧ brc u1 R k = tn z) ∨ (k = 4294967295 ∧ brc u1 R (u1.1 1) ≤ tn z)))) (fun E u1 => u1 = u ∧ ((E = "java/lang/IllegalArgumentException" ∧ cdB u x y z = 1) ∨ (E = "java/lang/IllegalStateException" ∧ cdB u x y z = 2))) := by
  refine gx_entryI (own := RX4) (by decide) rfl (Nat.le_of_ble_eq_true rfl) ?_
  intro p e s m args below meth c A ls C X9 hex9 Hh hl
  have hl : lv_has ls 7 [(0, .ref (q 0)), (1, .int (x)), (2, .int (y)), (3, .int (z))] := hl
  have hcl : cls u := h2.1
  have hgd : gd_ok u := h2.1.1.1
  have har : ar_ok u := h2.1.1.2.1
  have hod : od_ok u := h2.1.1.2.2
  have h10 : u.1 0 ≤ 10 := har.1
  have o10 : u.1 1 ≤ 10 := hod.1
  have hcap : tk_cap u := fs_cap hcl.2.1 har
  have hus : us_ok u := hcl.2.1.2.2.1
  have hn2 : u.1 2 = u.1 0 := hcl.2.1.1
  refine lv_iload_n C.1 C.2.1 dX4_bars_0 rfl (lv_at hl 1 rfl) ?_
  refine gx_fromV (w := pw G q) (u := u) C hex9 Hh (gx_rS (n := 1) [.int (x)] C X9 Hh (c_X4_needGood l G q (u) (x) hst9  _) tw_357 tw_358 tw_66 tw_359 (by decide +kernel) ⟨Nat.le_of_ble_eq_true rfl, Nat.le_of_ble_eq_true rfl⟩ rfl hl.1 (Nat.le_of_ble_eq_true rfl) dX4_bars_1 ⟨Nat.le_of_ble_eq_true rfl, Nat.le_of_ble_eq_true rfl⟩) (fun E u1 hx9 => by exact ⟨hx9.2.2, Or.inl ⟨hx9.1, cdB_1 (fun h => hx9.2.1 h.1)⟩⟩) (fun uc_1 H locs hp_1 Hh => ?_)
  obtain ⟨hp_1, hu_1⟩ := hp_1
  rw [hu_1] at Hh
  clear hu_1
  obtain ⟨g, hx_1, hj_1⟩ := hp_1
  rw [hx_1] at hl
  refine lv_iload_n C.1 C.2.1 dX4_bars_4 rfl (lv_at hl 2 rfl) ?_
  refine gx_fromV (w := pw G q) (u := u) C hex9 Hh (gx_rS (n := 1) [.int (y)] C X9 Hh (c_X4_needTime l G q (u) (y) hst9  _) tw_281 tw_282 tw_66 tw_283 (by decide +kernel) ⟨Nat.le_of_ble_eq_true rfl, Nat.le_of_ble_eq_true rfl⟩ rfl hl.1 (Nat.le_of_ble_eq_true rfl) dX4_bars_5 ⟨Nat.le_of_ble_eq_true rfl, Nat.le_of_ble_eq_true rfl⟩) (fun E u1 hx9 => by exact ⟨hx9.2.2, Or.inl ⟨hx9.1, cdB_1 (fun h => hx9.2.1 h.2.1)⟩⟩) (fun uc_5 H locs hp_5 Hh => ?_)
  obtain ⟨hp_5, hu_5⟩ := hp_5
  rw [hu_5] at Hh
  clear hu_5
  obtain ⟨t, hx_5, hj_5⟩ := hp_5
  rw [hx_5] at hl
  refine lv_iload_n C.1 C.2.1 dX4_bars_8 rfl (lv_at hl 3 rfl) ?_
  refine gx_fromV (w := pw G q) (u := u) C hex9 Hh (gx_rS (n := 1) [.int (z)] C X9 Hh (c_X4_needNotBelowZero l G q (u) (z) hst9  _) tw_674 tw_675 tw_66 tw_676 (by decide +kernel) ⟨Nat.le_of_ble_eq_true rfl, Nat.le_of_ble_eq_true rfl⟩ rfl hl.1 (Nat.le_of_ble_eq_true rfl) dX4_bars_9 ⟨Nat.le_of_ble_eq_true rfl, Nat.le_of_ble_eq_true rfl⟩) (fun E u1 hx9 => by exact ⟨hx9.2.2, Or.inl ⟨hx9.1, cdB_1 (fun h => h.2.2 hx9.2.1)⟩⟩) (fun uc_9 H locs hp_9 Hh => ?_)
  obtain ⟨hp_9, hu_9⟩ := hp_9
  rw [hu_9] at Hh
  clear hu_9
  obtain ⟨n, hx_9, hj_9⟩ := hp_9
  rw [hx_9] at hl
  refine lv_aload_n C.1 C.2.1 dX4_bars_12 rfl (lv_at hl 0 rfl) ?_
  refine lv_iload_n C.1 C.2.1 dX4_bars_13 rfl (lv_at hl 1 rfl) ?_
  refine gx_fromV (w := pw G q) (u := u) C hex9 Hh (gx_rV (n := 1) (C1 := RX4) [.int (nI (g))] C X9 Hh (c_X4_needNoKit l G q (u) (g) hst9 (by first | assumption | omega) (by first | assumption | omega) _) tw_361 tw_363 tw_10 tw_66 tw_364 (by decide +kernel) ⟨Nat.le_of_ble_eq_true rfl, Nat.le_of_ble_eq_true rfl⟩ 0 pw_at0 rfl rfl hl.1 (Nat.le_of_ble_eq_true rfl) dX4_bars_14 ⟨Nat.le_of_ble_eq_true rfl, Nat.le_of_ble_eq_true rfl⟩) (fun E u1 hx9 => by exact ⟨hx9.2.2, Or.inr ⟨hx9.1, (cdB_v hx_1 hj_1 hx_5 hj_5 hx_9 hj_9).trans (if_pos hx9.2.1)⟩⟩) (fun uc_14 H locs hp_14 Hh => ?_)
  obtain ⟨hp_14, hu_14⟩ := hp_14
  rw [hu_14] at Hh
  clear hu_14
  refine lv_aload_n C.1 C.2.1 dX4_bars_17 rfl (lv_at hl 0 rfl) ?_
  refine gw_get (Cn := RX4) (T := TX4) (N := 4) C Hh 0 pw_at0 rfl uwX4 3 (by decide) rfl tw_221 rfl dX4_bars_18 ?_
  refine lv_aload_n C.1 C.2.1 dX4_bars_21 rfl (lv_at hl 0 rfl) ?_
  refine lv_iload_n C.1 C.2.1 dX4_bars_22 rfl (lv_at hl 1 rfl) ?_
  refine lv_iload_n C.1 C.2.1 dX4_bars_23 rfl (lv_at hl 2 rfl) ?_
  refine gw_fromI (w := pw G q) (u := u) C Hh (gw_runV (n := 2) (C1 := RX4) [.int (nI (g)), .int (nI (t))] C Hh (c_X4_usableFor l G q (u) (g) (t) (by first | assumption | omega) (by first | assumption | omega) (by first | assumption | omega) (by first | assumption | omega) _) tw_433 tw_435 tw_18 tw_66 tw_436 (by decide +kernel) ⟨Nat.le_of_ble_eq_true rfl, Nat.le_of_ble_eq_true rfl⟩ 0 pw_at0 rfl rfl hl.1 (Nat.le_of_ble_eq_true rfl) dX4_bars_24 ⟨Nat.zero_le _, Nat.zero_le _⟩) (fun rc_24 uc_24 H locs hp_24 Hh => ?_)
  obtain ⟨kc_24, rfl, hp_24⟩ := hp_24
  obtain ⟨hk_24, hu_24⟩ := hp_24
  rw [hu_24] at Hh
  clear hu_24
  refine lv_iconst (v := nI 4294967295) C.1 C.2.1 dX4_bars_27 (by decide +kernel) ?_
  refine gw_fromI (w := pw G q) (u := u) C Hh (gw_runVN (n := 2) (C1 := RX3) [.int (nI (kc_24)), .int (nI (4294967295))] C Hh (c_X3_spread l G q (u) (kc_24) (4294967295) (by first | assumption | omega) (by first | assumption | omega) (by intro a ha; rw [hk_24] at ha; rw [hn2]; exact us_f_lt ha) _) tw_678 tw_459 tw_23 tw_70 tw_460 (by decide +kernel) ⟨Nat.le_of_ble_eq_true rfl, Nat.le_of_ble_eq_true rfl⟩ 4 pw_at4 rfl rfl hl.1 (Nat.le_of_ble_eq_true rfl) dX4_bars_28 ⟨Nat.zero_le _, Nat.zero_le _⟩) (fun rc_28 uc_28 H locs hp_28 Hh => ?_)
  obtain ⟨kc_28, rfl, hp_28⟩ := hp_28
  have hcl2 : cls uc_28 := sp_cls hcl hp_28
  have hgd2 : gd_ok uc_28 := hcl2.1.1
  have hod2 : od_ok uc_28 := hcl2.1.2.2
  have hcap2 : tk_cap uc_28 := fs_cap hcl2.2.1 hcl2.1.2.1
  have hn1 : uc_28.1 1 ≤ 10 := hod2.1
  refine lv_istore (lv' := [(4, .int (nI (kc_28))), (0, .ref (q 0)), (1, .int (nI (g))), (2, .int (nI (t))), (3, .int (nI (n)))]) C.1 C.2.1 dX4_bars_31 hl (by decide) rfl (fun ls hl => ?_)
  refine lv_iconst (v := nI 0) C.1 C.2.1 dX4_bars_33 (by decide +kernel) ?_
  refine lv_istore (lv' := [(5, .int (nI (0))), (4, .int (nI (kc_28))), (0, .ref (q 0)), (1, .int (nI (g))), (2, .int (nI (t))), (3, .int (nI (n)))]) C.1 C.2.1 dX4_bars_34 hl (by decide) rfl (fun ls hl => ?_)
  refine lv_iconst (v := nI 0) C.1 C.2.1 dX4_bars_36 (by decide +kernel) ?_
  refine lv_istore (lv' := [(6, .int (nI (0))), (5, .int (nI (0))), (4, .int (nI (kc_28))), (0, .ref (q 0)), (1, .int (nI (g))), (2, .int (nI (t))), (3, .int (nI (n)))]) C.1 C.2.1 dX4_bars_37 hl (by decide) rfl (fun ls hl => ?_)
  have loop_39 : ∀ (fu : Nat) (i : Nat) (f : Nat) (H : Heap) (locs : List Loc) (ls : Array Slot), (i ≤ uc_28.1 1) → (f = brc uc_28 kc_28 i) → (f ≤ n) → uc_28.1 1 - i < fu → gw_H G A s (pw G q uc_28) H locs → lv_has ls 7 [(0, .ref (q 0)), (3, .int (nI (n))), (4, .int (nI (kc_28))), (5, .int (nI (f))), (6, .int (nI (i)))] → W p l e (gx_rm 8 124) s m args below meth c H locs 0 0 (gx_MQ below (va_Qi (fun r u1 => ∃ k : Nat, r = nI k ∧ (cdB u x y z = 0 ∧ ∃ R, sp_post u u1 (us_f u (tn x) (tn y)) 4294967295 R ∧ ((k < u1.1 1 ∧ brB u1 R k ∧ brc u1 R k = tn z) ∨ (k = 4294967295 ∧ brc u1 R (u1.1 1) ≤ tn z)))) (gw_at G A (pw G q)) A) (gx_XC G A (pw G q) (fun E u1 => u1 = u ∧ ((E = "java/lang/IllegalArgumentException" ∧ cdB u x y z = 1) ∨ (E = "java/lang/IllegalStateException" ∧ cdB u x y z = 2)))) args s A) (F0 m 39 ls []) := by
    intro fu
    induction fu with
    | zero =>
      intro i f  H locs ls hi hf hfn hmf
      exact absurd hmf (Nat.not_lt_zero _)
    | succ fu ih_39 =>
      intro i f  H locs ls hi hf hfn hmf Hh hl
      have hfi := brc_le uc_28 kc_28 i
      refine lv_iload C.1 C.2.1 dX4_bars_39 (lv_at hl 4 rfl) ?_
      refine lv_aload_n C.1 C.2.1 dX4_bars_41 rfl (lv_at hl 0 rfl) ?_
      refine gw_get (Cn := RX4) (T := TX4) (N := 4) C Hh 0 pw_at0 rfl uwX4 2 (by decide) rfl tw_220 rfl dX4_bars_42 ?_
      refine gw_getN (Cn := RX2) (T := TX2) (N := 7) C Hh 3 pw_at3 rfl uwX2 0 (by decide) rfl tw_152 rfl dX4_bars_45 ?_
      refine gw_icmp_ge (tgt := 80) C dX4_bars_48 (by decide) (by omega) (by omega) (fun hc_48 => ?_) (fun hc_48 => ?_)
      · skip
        refine lv_iconst (v := nI 4294967295) C.1 C.2.1 dX4_bars_80 (by decide +kernel) ?_
        refine gx_ret ?_
        exact gw_iret (w := pw G q) (u := uc_28) C Hh dX4_bars_81 ⟨_, rfl, by rw [tn_eq hx_1 (by omega), tn_eq hx_5 (by omega), tn_eq hx_9 (by omega)]; refine ⟨(cdB_v hx_1 hj_1 hx_5 hj_5 hx_9 hj_9).trans (if_neg (by omega)), kc_28, by rw [← hk_24]; exact hp_28, Or.inr ⟨rfl, ?_⟩⟩; have h9 : i = uc_28.1 1 := (by omega); rw [← h9]; omega⟩
      · skip
        refine lv_aload_n C.1 C.2.1 dX4_bars_51 rfl (lv_at hl 0 rfl) ?_
        refine lv_iload C.1 C.2.1 dX4_bars_52 (lv_at hl 4 rfl) ?_
        refine lv_iload C.1 C.2.1 dX4_bars_54 (lv_at hl 2 rfl) ?_
        refine gw_fromI (w := pw G q) (u := uc_28) C Hh (gw_runV (n := 2) (C1 := RX4) [.int (nI (i)), .int (nI (kc_28))] C Hh (c_X4_takesFrom l G q (uc_28) (i) (kc_28) (by exact hgd2) (by exact hod2) (by exact hcap2) (by first | assumption | omega) _) tw_679 tw_681 tw_44 tw_66 tw_682 (by decide +kernel) ⟨Nat.le_of_ble_eq_true rfl, Nat.le_of_ble_eq_true rfl⟩ 0 pw_at0 rfl rfl hl.1 (Nat.le_of_ble_eq_true rfl) dX4_bars_56 ⟨Nat.zero_le _, Nat.zero_le _⟩) (fun rc_56 uc_56 H locs hp_56 Hh => ?_)
        obtain ⟨kc_56, rfl, hp_56⟩ := hp_56
        obtain ⟨hk_56, hu_56⟩ := hp_56
        rw [hu_56] at Hh
        clear hu_56
        have join_74 : ∀ (f2 : Nat) (H : Heap) (locs : List Loc) (ls : Array Slot), (f2 = brc uc_28 kc_28 (i + 1)) → (f2 ≤ n) → gw_H G A s (pw G q uc_28) H locs → lv_has ls 7 [(0, .ref (q 0)), (3, .int (nI (n))), (4, .int (nI (kc_28))), (5, .int (nI (f2))), (6, .int (nI (i)))] → W p l e (gx_rm 8 124) s m args below meth c H locs 0 0 (gx_MQ below (va_Qi (fun r u1 => ∃ k : Nat, r = nI k ∧ (cdB u x y z = 0 ∧ ∃ R, sp_post u u1 (us_f u (tn x) (tn y)) 4294967295 R ∧ ((k < u1.1 1 ∧ brB u1 R k ∧ brc u1 R k = tn z) ∨ (k = 4294967295 ∧ brc u1 R (u1.1 1) ≤ tn z)))) (gw_at G A (pw G q)) A) (gx_XC G A (pw G q) (fun E u1 => u1 = u ∧ ((E = "java/lang/IllegalArgumentException" ∧ cdB u x y z = 1) ∨ (E = "java/lang/IllegalStateException" ∧ cdB u x y z = 2)))) args s A) (F0 m 74 ls []) := by
          intro f2  H locs ls hf2 hfn2 Hh hl
          refine lv_iinc (v := nI (i + 1)) (lv' := [(6, .int (nI (i + 1))), (0, .ref (q 0)), (3, .int (nI (n))), (4, .int (nI (kc_28))), (5, .int (nI (f2)))]) C.1 C.2.1 dX4_bars_74 hl (k := 4) rfl (nI_add _ 1) (by decide) rfl (fun ls hl => ?_)
          refine lv_goto (tgt := 39) C.1 C.2.1 dX4_bars_77 (by decide) ?_
          exact ih_39 (i + 1) (f2)  _ _ _ (by omega) (by exact hf2) (by exact hfn2) (by omega) Hh (lv_sub hl [1, 2, 3, 4, 0] rfl)
        refine gw_if_eq (tgt := 74) C dX4_bars_59 (by decide) (by rcases hk_56 with ⟨h, -⟩ | ⟨h, -⟩ <;> omega) (fun hc_59 => ?_) (fun hc_59 => ?_)
        · skip
          exact join_74 (f)  _ _ _ (by rw [brc_s, pif_neg (fun ⟨x1, h1, b1, h2, h3, h4⟩ => by (rcases hk_56 with ⟨h, -⟩ | ⟨-, h⟩; omega; have := h x1 h1 b1 h2 h3; omega))]; omega) (by omega) Hh (lv_sub hl [0, 1, 2, 3, 4] rfl)
        · skip
          refine lv_iload C.1 C.2.1 dX4_bars_62 (lv_at hl 3 rfl) ?_
          refine lv_iload_n C.1 C.2.1 dX4_bars_64 rfl (lv_at hl 1 rfl) ?_
          refine gw_icmp_ne (tgt := 71) C dX4_bars_65 (by decide) (by omega) (by omega) (fun hc_65 => ?_) (fun hc_65 => ?_)
          · skip
            refine lv_iinc (v := nI (f + 1)) (lv' := [(5, .int (nI (f + 1))), (0, .ref (q 0)), (3, .int (nI (n))), (4, .int (nI (kc_28))), (6, .int (nI (i)))]) C.1 C.2.1 dX4_bars_71 hl (k := 3) rfl (nI_add _ 1) (by decide) rfl (fun ls hl => ?_)
            exact join_74 (f + 1)  _ _ _ (by rw [brc_s, pif_pos (by (rcases hk_56 with ⟨-, h⟩ | ⟨h, -⟩; exact h; omega))]; omega) (by omega) Hh (lv_sub hl [1, 2, 3, 0, 4] rfl)
          · skip
            refine lv_iload C.1 C.2.1 dX4_bars_68 (lv_at hl 4 rfl) ?_
            refine gx_ret ?_
            exact gw_iret (w := pw G q) (u := uc_28) C Hh dX4_bars_70 ⟨_, rfl, by rw [tn_eq hx_1 (by omega), tn_eq hx_5 (by omega), tn_eq hx_9 (by omega)]; refine ⟨(cdB_v hx_1 hj_1 hx_5 hj_5 hx_9 hj_9).trans (if_neg (by omega)), kc_28, by rw [← hk_24]; exact hp_28, Or.inl ⟨hc_48, ?_, by omega⟩⟩; rcases hk_56 with ⟨-, h⟩ | ⟨h, -⟩; exact h; omega⟩
  exact loop_39 _ (0) (0)  _ _ _ (by omega) (by rfl) (by omega) (Nat.lt_succ_self _) Hh (lv_sub hl [3, 6, 2, 1, 0] rfl)
