theorem jo_ix {a i e : Nat} (h : e ≠ a * 3 + i) (hi : i < 3) : (e / 3 = a ∧ e % 3 < i + 1) ↔ (e / 3 = a ∧ e % 3 < i) := by omega
theorem jo_W_at {u : pf_S} {Wt : Nat → Nat} {a i n : Nat} (hi : i < n) (h3 : i < 3) : jo_W u Wt a n (a * 3 + i) = od_w u a i := by
  unfold jo_W
  have e1 : (a * 3 + i) / 3 = a := by omega
  have e2 : (a * 3 + i) % 3 = i := by omega
  rw [e1, e2, if_pos ⟨rfl, hi⟩]
theorem jo_W_no {u : pf_S} {Wt : Nat → Nat} {a i : Nat} (h3 : i < 3) : jo_W u Wt a i (a * 3 + i) = Wt (a * 3 + i) := by
  unfold jo_W
  rw [if_neg (by omega)]
theorem jo_M_at {u : pf_S} {a i n : Nat} (hi : i < n) (h3 : i < 3) : jo_M u a n (a * 3 + i) = us_f u (gd_dg u (u.2 15 a) i) (u.2 14 a) := by
  unfold jo_M
  have e1 : (a * 3 + i) / 3 = a := by omega
  have e2 : (a * 3 + i) % 3 = i := by omega
  rw [e1, e2, if_pos ⟨rfl, hi⟩]
theorem us_f_lt {u : pf_S} {g t a : Nat} (h : (us_f u g t).testBit a = true) : a < u.1 0 := (us_f_bit.mp h).1
theorem jo_mid {u v v' : pf_S} {Wt : Nat → Nat} {a i S : Nat} (h : jo_inv u Wt a i v) (hi : i < 3) (hz : ∀ x, x < 3 → Wt (a * 3 + x) = 0) (hS : S = us_f u (gd_dg u (u.2 15 a) i) (u.2 14 a)) (hv : v' = (v.1, up2 v.2 23 (a * 3 + i) S)) :
    jo_same u v' ∧ fs v' (jo_W u Wt a i) ∧ (∀ d, d < 31 → v'.2 23 d = if d = a * 3 + i then S else jo_M u a i d) ∧ (∀ j, j < 10 → v'.2 24 j = u.2 21 j) ∧ ∀ j, j < 310 → v'.2 25 j = u.2 22 j := by
  have k : ∀ j, j ≠ 23 → v'.2 j = v.2 j := fun j hj => by rw [hv]; exact up2_ne v.2 hj
  have e1 : v'.1 = v.1 := by rw [hv]
  refine ⟨⟨by rw [e1]; exact h.1.1, fun j hj => by rw [k j (fun q => hj (by rw [q]; decide))]; exact h.1.2 j hj⟩, fs_us h.2.2.2.1 hv (by rw [jo_W_no hi]; exact hz i hi) (fun b hb => by rw [h.1.1]; rw [hS] at hb; exact us_f_lt hb), fun d hd => ?_, by rw [k 24 (by decide)]; exact h.2.1, by rw [k 25 (by decide)]; exact h.2.2.1⟩
  have ks : v'.2 23 d = if d = a * 3 + i then S else v.2 23 d := by rw [hv]; show up2 v.2 23 _ S 23 d = _; rw [up2_at]
  rw [ks, h.2.2.2.2 d hd]
theorem jo_step {u v v' w : pf_S} {Wt : Nat → Nat} {a i S lo wv : Nat} (h : jo_inv u Wt a i v) (hi : i < 3) (hz : ∀ x, x < 3 → Wt (a * 3 + x) = 0) (hS : S = us_f u (gd_dg u (u.2 15 a) i) (u.2 14 a)) (hv : v' = (v.1, up2 v.2 23 (a * 3 + i) S)) (hw : wv = od_w u a i) (ht : ta_post v' w lo (a * 3 + i) wv 0) : jo_inv u Wt a (i + 1) w := by
  obtain ⟨m1, m2, m3, m4, m5⟩ := jo_mid h hi hz hS hv
  have tb := ht.1.1
  refine ⟨m1.tr (jo_same.of tb (by decide)), by rw [tb.2 24 (by decide)]; exact m4, by rw [tb.2 25 (by decide)]; exact m5, ?_, fun d hd => ?_⟩
  · have hf := fs_take m2 ht
    have e : (fun e => if e = a * 3 + i then jo_W u Wt a i (a * 3 + i) + wv else jo_W u Wt a i e) = jo_W u Wt a (i + 1) := by
      funext e
      by_cases q : e = a * 3 + i
      · rw [if_pos q, jo_W_no hi, hz i hi, q, jo_W_at (Nat.lt_succ_self i) hi, hw, Nat.zero_add]
      · rw [if_neg q]
        unfold jo_W
        simp only [jo_ix q hi]
    rw [e] at hf
    exact hf
  · rw [tb.2 23 (by decide), m3 d hd]
    by_cases q : d = a * 3 + i
    · rw [if_pos q, q, jo_M_at (Nat.lt_succ_self i) hi, hS]
    · rw [if_neg q]
      unfold jo_M
      simp only [jo_ix q hi]
theorem jo_fail {u v v' w z : pf_S} {Wt : Nat → Nat} {a i S wv k : Nat} (hst : pf_st u) (hf : fs u Wt) (ha : a < 10) (h : jo_inv u Wt a i v) (hn : i < od_n u a) (hi : i < 3) (hz : ∀ x, x < 3 → Wt (a * 3 + x) = 0) (hS : S = us_f u (gd_dg u (u.2 15 a) i) (u.2 14 a)) (hv : v' = (v.1, up2 v.2 23 (a * 3 + i) S)) (hw : wv = od_w u a i) (ht : ta_post v' w (tk_ot 4294967295 (a * 3 + i)) (a * 3 + i) wv k) (hk : 0 < k)
    (hr : st_buts [21, 22] w z ∧ (∀ j, j < 10 → z.2 21 j = w.2 24 j) ∧ ∀ j, j < 310 → z.2 22 j = w.2 25 j) : jo_post u Wt a 0 z := by
  obtain ⟨m1, m2, m3, m4, m5⟩ := jo_mid h hi hz hS hv
  have tb := ht.1.1
  have hn10 : u.1 0 ≤ 10 := hst.2.1.1
  have hzW : ∀ d, 0 < Wt d → d / 3 ≠ a := fun d hd q => by
    have := hz (d % 3) (by omega)
    rw [show a * 3 + d % 3 = d by omega] at this
    omega
  have j23 : ∀ d, d < 31 → d / 3 ≠ a → z.2 23 d = u.2 23 d := fun d hd q => by
    rw [hr.1.2 23 (by decide), tb.2 23 (by decide), m3 d hd, if_neg (by omega)]
    unfold jo_M
    rw [if_neg (fun s => q s.1)]
  have j1 : jo_same u z := (m1.tr (jo_same.of tb (by decide))).tr (jo_same.of hr.1 (by decide))
  have j21 : ∀ j, j < 10 → z.2 21 j = u.2 21 j := fun j hj => by rw [hr.2.1 j hj, tb.2 24 (by decide)]; exact m4 j hj
  have j22 : ∀ j, j < 310 → z.2 22 j = u.2 22 j := fun j hj => by rw [hr.2.2 j hj, tb.2 25 (by decide)]; exact m5 j hj
  have ju : us_ok z := by
    intro d hd b hb
    rw [hr.1.2 23 (by decide)] at hb
    rw [hr.1.1]
    exact ta_us ht.1 m2.2.2.1 d hd b hb
  refine ⟨j1, Or.inr ⟨rfl, fs_back hf hn10 j1 j21 j22 ju (fun d hd h0 => j23 d hd (hzW d h0)), j23, j21, j22, ?_⟩⟩
  have hno := fs_fail (W1 := jo_W u Wt a (od_n u a)) (M := jo_M u a (od_n u a)) m2 (by rw [m1.1]; exact hn10) (by omega) ht hk (by rw [jo_W_no hi]; exact hz i hi) (by rw [jo_W_at hn hi, hw]) (fun e he hne => ?_) (fun e he h0 => ?_)
  · rw [m1.1, m1.2 12 (by decide), m1.2 13 (by decide)] at hno
    exact hno
  · unfold jo_W
    by_cases q : e / 3 = a ∧ e % 3 < i
    · rw [if_pos q, if_pos ⟨q.1, by omega⟩]
      exact Nat.le_refl _
    · rw [if_neg q]
      by_cases q2 : e / 3 = a
      · have := hz (e % 3) (by omega)
        rw [show a * 3 + e % 3 = e by omega] at this
        rw [this]
        exact Nat.zero_le _
      · rw [if_neg (fun s => q2 s.1)]
        exact Nat.le_refl _
  · rw [m3 e he]
    by_cases q : e = a * 3 + i
    · rw [if_pos q, q, jo_M_at hn hi, hS]
    · rw [if_neg q]
      rcases h0 with h0 | h0
      · unfold jo_W at h0
        unfold jo_M
        by_cases q2 : e / 3 = a ∧ e % 3 < i
        · rw [if_pos q2, if_pos ⟨q2.1, by omega⟩]
        · rw [if_neg q2] at h0 ⊢
          rw [if_neg (fun s => hzW e h0 s.1)]
      · exact absurd h0 q
theorem jo_start {u v : pf_S} {Wt : Nat → Nat} {a : Nat} (hst : pf_st u) (hf : fs u Wt) (h : st_buts [24, 25] u v ∧ (∀ j, j < 10 → v.2 24 j = u.2 21 j) ∧ ∀ j, j < 310 → v.2 25 j = u.2 22 j) : jo_inv u Wt a 0 v := by
  have h23 : v.2 23 = u.2 23 := h.1.2 23 (by decide)
  have eW : jo_W u Wt a 0 = Wt := by
    funext d
    unfold jo_W
    rw [if_neg (by omega)]
  refine ⟨jo_same.of h.1 (by decide), h.2.1, h.2.2, ?_, fun d hd => ?_⟩
  · rw [eW]
    exact fs_back hf hst.2.1.1 (jo_same.of h.1 (by decide)) (fun j _ => by rw [h.1.2 21 (by decide)]) (fun j _ => by rw [h.1.2 22 (by decide)]) (fun d hd b hb => by rw [h23] at hb; rw [h.1.1]; exact hf.2.2.1 d hd b hb) (fun d _ _ => by rw [h23])
  · unfold jo_M
    rw [if_neg (by omega), h23]
set_option maxHeartbeats 4000000 in
set_option maxRecDepth 100000 in
theorem c_X4_joinsCovered (l : Launch) (G : gw_G) (q : Nat → Nat) (u : pf_S) (a : Nat) (Wt : Nat → Nat) (hst : pf_st u) (hf : fs u Wt) (ha : a < 10) (hz : ∀ x, x < 3 → Wt (a * 3 + x) = 0) : gw_MI l yX4_joinsCovered cX4_joinsCovered 4 (some .boolean) 4 109 [.ref (q 0), .int (nI (a))] G (pw G q) u (fun r u1 => ∃ k : Nat, r = nI k ∧ (jo_post u Wt a k u1)) := by
  refine gw_entryI (own := RX4) (by decide) rfl (Nat.le_of_ble_eq_true rfl) ?_
  intro p e s m args below meth c A ls C Hh hl
  have hl : lv_has ls 4 [(0, .ref (q 0)), (1, .int (nI (a)))] := hl
  refine lv_aload_n C.1 C.2.1 dX4_joinsCovered_0 rfl (lv_at hl 0 rfl) ?_
  refine gw_get (Cn := RX4) (T := TX4) (N := 4) C Hh 0 pw_at0 rfl uwX4 3 (by decide) rfl tw_221 rfl dX4_joinsCovered_1 ?_
  refine gw_fromV (w := pw G q) (u := u) C Hh (gw_runVN (n := 0) (C1 := RX3) [] C Hh (c_X3_save l G q (u)   _) tw_419 tw_421 tw_16 tw_70 tw_422 (by decide +kernel) ⟨Nat.le_of_ble_eq_true rfl, Nat.le_of_ble_eq_true rfl⟩ 4 pw_at4 rfl rfl hl.1 (Nat.le_of_ble_eq_true rfl) dX4_joinsCovered_4 ⟨Nat.zero_le _, Nat.zero_le _⟩) (fun uc_4 H locs hp_4 Hh => ?_)
  refine lv_iconst (v := nI 0) C.1 C.2.1 dX4_joinsCovered_7 (by decide +kernel) ?_
  refine lv_istore_n (lv' := [(2, .int (nI (0))), (0, .ref (q 0)), (1, .int (nI (a)))]) C.1 C.2.1 dX4_joinsCovered_8 rfl hl (by decide) rfl (fun ls hl => ?_)
  have loop_9 : ∀ (fu : Nat) (i : Nat) (uc : pf_S) (H : Heap) (locs : List Loc) (ls : Array Slot), (i ≤ od_n u a) → (jo_inv u Wt a i uc) → 3 - i < fu → gw_H G A s (pw G q uc) H locs → lv_has ls 4 [(0, .ref (q 0)), (1, .int (nI (a))), (2, .int (nI (i)))] → W p l e (gw_rm 4 109) s m args below meth c H locs 0 0 (MQ below (va_Qi (fun r u1 => ∃ k : Nat, r = nI k ∧ (jo_post u Wt a k u1)) (gw_at G A (pw G q)) A) args s 0 0 A) (F0 m 9 ls []) := by
    intro fu
    induction fu with
    | zero =>
      intro i uc H locs ls hi hv hmf
      exact absurd hmf (Nat.not_lt_zero _)
    | succ fu ih_9 =>
      intro i uc H locs ls hi hv hmf Hh hl
      have hsc := pf_st_of hv.1 hst
      have hnn := gd_dn_le hst.1 (hst.2.2.2.2.1 a ha)
      change 1 ≤ od_n u a ∧ od_n u a ≤ 3 at hnn
      have e15 : uc.2 15 = u.2 15 := hv.1.2 15 (by decide)
      have e14 : uc.2 14 = u.2 14 := hv.1.2 14 (by decide)
      have hg6 := hst.2.2.2.2.1 a ha
      have ht100 := hst.2.2.2.1 a ha
      refine lv_iload_n C.1 C.2.1 dX4_joinsCovered_9 rfl (lv_at hl 2 rfl) ?_
      refine lv_aload_n C.1 C.2.1 dX4_joinsCovered_10 rfl (lv_at hl 0 rfl) ?_
      refine lv_iload_n C.1 C.2.1 dX4_joinsCovered_11 rfl (lv_at hl 1 rfl) ?_
      refine gw_fromI (w := pw G q) (u := uc) C Hh (gw_runV (n := 1) (C1 := RX4) [.int (nI (a))] C Hh (c_X4_demandsOf l G q (uc) (a) (by exact hsc.1) (by exact hsc.2.2) (by first | assumption | omega) _) tw_251 tw_253 tw_4 tw_66 tw_254 (by decide +kernel) ⟨Nat.le_of_ble_eq_true rfl, Nat.le_of_ble_eq_true rfl⟩ 0 pw_at0 rfl rfl hl.1 (Nat.le_of_ble_eq_true rfl) dX4_joinsCovered_12 ⟨Nat.zero_le _, Nat.zero_le _⟩) (fun rc_12 uc_12 H locs hp_12 Hh => ?_)
      obtain ⟨kc_12, rfl, hp_12⟩ := hp_12
      obtain ⟨hk_12, hu_12⟩ := hp_12
      rw [hu_12] at Hh
      clear hu_12
      have hkn : kc_12 = od_n u a := hk_12.trans (jo_n hv.1 a)
      refine gw_icmp_ge (tgt := 96) C dX4_joinsCovered_15 (by decide) (by omega) (by omega) (fun hc_15 => ?_) (fun hc_15 => ?_)
      · skip
        refine lv_iconst (v := nI 1) C.1 C.2.1 dX4_joinsCovered_96 (by decide +kernel) ?_
        exact gw_zret (w := pw G q) (u := uc) C Hh dX4_joinsCovered_97 (by omega) ⟨_, rfl, by have hin : i = od_n u a := (by omega); subst hin; exact ⟨hv.1, Or.inl ⟨rfl, hv.2.2.2.1, hv.2.2.2.2⟩⟩⟩
      · skip
        refine lv_iload_n C.1 C.2.1 dX4_joinsCovered_18 rfl (lv_at hl 1 rfl) ?_
        refine lv_iload_n C.1 C.2.1 dX4_joinsCovered_19 rfl (lv_at hl 2 rfl) ?_
        refine gw_fromI (w := pw G q) (u := uc) C Hh (gw_runS (n := 2) [.int (nI (a)), .int (nI (i))] C Hh (c_X4_demandAt l G q (uc) (a) (i)  _) tw_426 tw_427 tw_66 tw_428 (by decide +kernel) ⟨Nat.le_of_ble_eq_true rfl, Nat.le_of_ble_eq_true rfl⟩ rfl hl.1 (Nat.le_of_ble_eq_true rfl) dX4_joinsCovered_20 ⟨Nat.zero_le _, Nat.zero_le _⟩) (fun rc_20 uc_20 H locs hp_20 Hh => ?_)
        obtain ⟨kc_20, rfl, hp_20⟩ := hp_20
        obtain ⟨hk_20, hu_20⟩ := hp_20
        rw [hu_20] at Hh
        clear hu_20
        subst hk_20
        refine lv_istore_n (lv' := [(3, .int (nI (a * 3 + i))), (0, .ref (q 0)), (1, .int (nI (a))), (2, .int (nI (i)))]) C.1 C.2.1 dX4_joinsCovered_23 rfl hl (by decide) rfl (fun ls hl => ?_)
        refine lv_aload_n C.1 C.2.1 dX4_joinsCovered_24 rfl (lv_at hl 1 rfl) ?_
        refine gw_get (Cn := RX4) (T := TX4) (N := 4) C Hh 0 pw_at0 rfl uwX4 3 (by decide) rfl tw_221 rfl dX4_joinsCovered_25 ?_
        refine gw_getN (Cn := RX3) (T := TX3) (N := 10) C Hh 4 pw_at4 rfl uwX3 4 (by decide) rfl tw_191 rfl dX4_joinsCovered_28 ?_
        refine lv_iload_n C.1 C.2.1 dX4_joinsCovered_31 rfl (lv_at hl 0 rfl) ?_
        refine lv_aload_n C.1 C.2.1 dX4_joinsCovered_32 rfl (lv_at hl 1 rfl) ?_
        refine lv_aload_n C.1 C.2.1 dX4_joinsCovered_33 rfl (lv_at hl 1 rfl) ?_
        refine gw_get (Cn := RX4) (T := TX4) (N := 4) C Hh 0 pw_at0 rfl uwX4 0 (by decide) rfl tw_218 rfl dX4_joinsCovered_34 ?_
        refine lv_aload_n C.1 C.2.1 dX4_joinsCovered_37 rfl (lv_at hl 1 rfl) ?_
        refine gw_get (Cn := RX4) (T := TX4) (N := 4) C Hh 0 pw_at0 rfl uwX4 2 (by decide) rfl tw_220 rfl dX4_joinsCovered_38 ?_
        refine gw_getN (Cn := RX2) (T := TX2) (N := 7) C Hh 3 pw_at3 rfl uwX2 2 (by decide) rfl tw_156 rfl dX4_joinsCovered_41 ?_
        refine lv_iload_n C.1 C.2.1 dX4_joinsCovered_44 rfl (lv_at hl 2 rfl) ?_
        refine gw_ld C Hh 15 pw_at15 (by decide) dX4_joinsCovered_45 (by omega) ?_
        refine lv_iload_n C.1 C.2.1 dX4_joinsCovered_46 rfl (lv_at hl 3 rfl) ?_
        refine gw_fromI (w := pw G q) (u := uc) C Hh (gw_runVN (n := 2) (C1 := RX1) [.int (nI (uc.2 15 (a))), .int (nI (i))] C Hh (c_X1_demandGood l G q (uc) (uc.2 15 (a)) (i) (by exact hsc.1) (by rw [e15]; exact hg6) (by omega) _) tw_429 tw_431 tw_17 tw_67 tw_432 (by decide +kernel) ⟨Nat.le_of_ble_eq_true rfl, Nat.le_of_ble_eq_true rfl⟩ 1 pw_at1 rfl rfl hl.1 (Nat.le_of_ble_eq_true rfl) dX4_joinsCovered_47 ⟨Nat.zero_le _, Nat.zero_le _⟩) (fun rc_47 uc_47 H locs hp_47 Hh => ?_)
        obtain ⟨kc_47, rfl, hp_47⟩ := hp_47
        obtain ⟨hk_47, hu_47⟩ := hp_47
        rw [hu_47] at Hh
        clear hu_47
        have hkg : kc_47 = gd_dg u (u.2 15 a) i := by rw [hk_47, jo_g hv.1, e15]
        have hkg6 : kc_47 < 6 := by rw [hkg]; exact gd_dg_lt hst.1 hg6 (by omega)
        refine lv_aload_n C.1 C.2.1 dX4_joinsCovered_50 rfl (lv_at hl 1 rfl) ?_
        refine gw_get (Cn := RX4) (T := TX4) (N := 4) C Hh 0 pw_at0 rfl uwX4 2 (by decide) rfl tw_220 rfl dX4_joinsCovered_51 ?_
        refine gw_getN (Cn := RX2) (T := TX2) (N := 7) C Hh 3 pw_at3 rfl uwX2 1 (by decide) rfl tw_154 rfl dX4_joinsCovered_54 ?_
        refine lv_iload_n C.1 C.2.1 dX4_joinsCovered_57 rfl (lv_at hl 2 rfl) ?_
        refine gw_ld C Hh 14 pw_at14 (by decide) dX4_joinsCovered_58 (by omega) ?_
        refine gw_fromI (w := pw G q) (u := uc) C Hh (gw_runV (n := 2) (C1 := RX4) [.int (nI (kc_47)), .int (nI (uc.2 14 (a)))] C Hh (c_X4_usableFor l G q (uc) (kc_47) (uc.2 14 (a)) (by exact hsc.1) (by exact hsc.2.1) (by exact hkg6) (by rw [e14]; exact ht100) _) tw_433 tw_435 tw_18 tw_66 tw_436 (by decide +kernel) ⟨Nat.le_of_ble_eq_true rfl, Nat.le_of_ble_eq_true rfl⟩ 0 pw_at0 rfl rfl hl.1 (Nat.le_of_ble_eq_true rfl) dX4_joinsCovered_59 ⟨Nat.zero_le _, Nat.zero_le _⟩) (fun rc_59 uc_59 H locs hp_59 Hh => ?_)
        obtain ⟨kc_59, rfl, hp_59⟩ := hp_59
        obtain ⟨hk_59, hu_59⟩ := hp_59
        rw [hu_59] at Hh
        clear hu_59
        have hSe : kc_59 = us_f u (gd_dg u (u.2 15 a) i) (u.2 14 a) := by rw [hk_59, jo_uf hv.1, hkg, e14]
        refine gw_st C Hh 23 pw_at23 (by decide) pw_set23 dX4_joinsCovered_62 (by omega) (fun H locs Hh => ?_)
        have Hh : gw_H G A s (pw G q (uc.1, up2 uc.2 23 (a * 3 + i) (kc_59))) H locs := Hh
        obtain ⟨v9, hv9⟩ : ∃ z : pf_S, z = (uc.1, up2 uc.2 23 (a * 3 + i) kc_59) := ⟨_, rfl⟩
        rw [← hv9] at Hh
        have hmid := jo_mid hv (by omega) hz hSe hv9
        have hs9 := pf_st_of hmid.1 hst
        have hn9 : v9.1 2 = u.1 0 := by rw [hmid.2.1.1, hmid.1.1]
        have hrow9 := hmid.2.1.2.1
        refine lv_aload_n C.1 C.2.1 dX4_joinsCovered_63 rfl (lv_at hl 1 rfl) ?_
        refine gw_get (Cn := RX4) (T := TX4) (N := 4) C Hh 0 pw_at0 rfl uwX4 3 (by decide) rfl tw_221 rfl dX4_joinsCovered_64 ?_
        refine lv_iload_n C.1 C.2.1 dX4_joinsCovered_67 rfl (lv_at hl 0 rfl) ?_
        refine lv_aload_n C.1 C.2.1 dX4_joinsCovered_68 rfl (lv_at hl 1 rfl) ?_
        refine lv_iload_n C.1 C.2.1 dX4_joinsCovered_69 rfl (lv_at hl 2 rfl) ?_
        refine lv_iload_n C.1 C.2.1 dX4_joinsCovered_70 rfl (lv_at hl 3 rfl) ?_
        refine gw_fromI (w := pw G q) (u := v9) C Hh (gw_runV (n := 2) (C1 := RX4) [.int (nI (a)), .int (nI (i))] C Hh (c_X4_wantedBy l G q (v9) (a) (i) (by exact hs9.1) (by exact hs9.2.2) (by first | assumption | omega) (by omega) _) tw_263 tw_265 tw_7 tw_66 tw_266 (by decide +kernel) ⟨Nat.le_of_ble_eq_true rfl, Nat.le_of_ble_eq_true rfl⟩ 0 pw_at0 rfl rfl hl.1 (Nat.le_of_ble_eq_true rfl) dX4_joinsCovered_71 ⟨Nat.zero_le _, Nat.zero_le _⟩) (fun rc_71 uc_71 H locs hp_71 Hh => ?_)
        obtain ⟨kc_71, rfl, hp_71⟩ := hp_71
        obtain ⟨hk_71, hu_71⟩ := hp_71
        rw [hu_71] at Hh
        clear hu_71
        have hWe : kc_71 = od_w u a i := hk_71.trans (jo_w hmid.1 a i)
        have hWl : kc_71 ≤ 1000000 := by rw [hWe]; exact od_w_le hst.1 hst.2.2 ha (by omega)
        refine lv_iconst (v := nI 4294967295) C.1 C.2.1 dX4_joinsCovered_74 (by decide +kernel) ?_
        refine gw_fromI (w := pw G q) (u := v9) C Hh (gw_runVN (n := 3) (C1 := RX3) [.int (nI (a * 3 + i)), .int (nI (kc_71)), .int (nI (4294967295))] C Hh (c_X3_take l G q (v9) (a * 3 + i) (kc_71) (4294967295) (by exact fs_cap hmid.2.1 hs9.2.1) (by exact hmid.2.1.2.2.1) (by omega) (by omega) (by rw [hmid.2.1.1]; exact hrow9.1) (by rw [hmid.2.1.1]; exact fun i j h1 h2 => kx_ne hrow9 h1 h2) _) tw_445 tw_447 tw_21 tw_70 tw_448 (by decide +kernel) ⟨Nat.le_of_ble_eq_true rfl, Nat.le_of_ble_eq_true rfl⟩ 4 pw_at4 rfl rfl hl.1 (Nat.le_of_ble_eq_true rfl) dX4_joinsCovered_75 ⟨Nat.zero_le _, Nat.zero_le _⟩) (fun rc_75 uc_75 H locs hp_75 Hh => ?_)
        obtain ⟨kc_75, rfl, hp_75⟩ := hp_75
        have hle := ta_le hp_75 (by rw [hn9]; exact hst.2.1.1)
        refine gw_if_le (tgt := 90) C dX4_joinsCovered_78 (by decide) (by omega) (fun hc_78 => ?_) (fun hc_78 => ?_)
        · skip
          refine lv_iinc (v := nI (i + 1)) (lv' := [(2, .int (nI (i + 1))), (3, .int (nI (a * 3 + i))), (0, .ref (q 0)), (1, .int (nI (a)))]) C.1 C.2.1 dX4_joinsCovered_90 hl (k := 3) rfl (nI_add _ 1) (by decide) rfl (fun ls hl => ?_)
          refine lv_goto (tgt := 9) C.1 C.2.1 dX4_joinsCovered_93 (by decide) ?_
          exact ih_9 (i + 1) (uc_75) _ _ _ (by first | assumption | omega) (by exact jo_step hv (by omega) hz hSe hv9 hWe (by rw [hc_78] at hp_75; exact hp_75)) (by omega) Hh (lv_sub hl [2, 3, 0] rfl)
        · skip
          refine lv_aload_n C.1 C.2.1 dX4_joinsCovered_81 rfl (lv_at hl 1 rfl) ?_
          refine gw_get (Cn := RX4) (T := TX4) (N := 4) C Hh 0 pw_at0 rfl uwX4 3 (by decide) rfl tw_221 rfl dX4_joinsCovered_82 ?_
          refine gw_fromV (w := pw G q) (u := uc_75) C Hh (gw_runVN (n := 0) (C1 := RX3) [] C Hh (c_X3_restore l G q (uc_75)   _) tw_482 tw_484 tw_27 tw_70 tw_485 (by decide +kernel) ⟨Nat.le_of_ble_eq_true rfl, Nat.le_of_ble_eq_true rfl⟩ 4 pw_at4 rfl rfl hl.1 (Nat.le_of_ble_eq_true rfl) dX4_joinsCovered_85 ⟨Nat.zero_le _, Nat.zero_le _⟩) (fun uc_85 H locs hp_85 Hh => ?_)
          refine lv_iconst (v := nI 0) C.1 C.2.1 dX4_joinsCovered_88 (by decide +kernel) ?_
          exact gw_zret (w := pw G q) (u := uc_85) C Hh dX4_joinsCovered_89 (by omega) ⟨_, rfl, by exact jo_fail hst hf ha hv (by omega) (by omega) hz hSe hv9 hWe hp_75 hc_78 hp_85⟩
  exact loop_9 _ (0) (uc_4) _ _ _ (by first | assumption | omega) (by exact jo_start hst hf hp_4) (Nat.lt_succ_self _) Hh (lv_sub hl [1, 2, 0] rfl)
