/-! share -/
def sh_b (u : pf_S) (g t : Nat) : Nat := fl_sum (fun a => if (us_f u g t).testBit a then u.2 12 a else 0) (u.1 0)
noncomputable def cdH (u : pf_S) (x y : Int32) : Nat := pif (inr x 0 5 ∧ inr y 0 99) (pif (sh_b u (tn x) (tn y) = 0) 2 0) 1
theorem cdH_1 {u : pf_S} {x y : Int32} (h : ¬ (inr x 0 5 ∧ inr y 0 99)) : cdH u x y = 1 := pif_neg h
theorem cdH_v {u : pf_S} {x y : Int32} {g t : Nat} (hx : x = nI g) (hg : g < 6) (hy : y = nI t) (ht : t < 100) : cdH u x y = if sh_b u g t = 0 then 2 else 0 := by
  unfold cdH
  rw [pif_pos ⟨inr_ok hx (by decide) (Nat.zero_le _) (by omega), inr_ok hy (by decide) (Nat.zero_le _) (by omega)⟩, tn_eq hx (by omega), tn_eq hy (by omega), pif_if]
theorem sh_le {u : pf_S} (h : ar_ok u) (g t : Nat) : sh_b u g t ≤ 10000000 := by
  unfold sh_b
  have h1 : fl_sum (fun a => if (us_f u g t).testBit a then u.2 12 a else 0) (u.1 0) ≤ u.1 0 * 1000000 := sum_le_c (fun a ha => by
    split
    · exact h.2.2.2.1 a (by have := h.1; omega)
    · omega)
  have := h.1
  omega
theorem ki_us {u : pf_S} (hk : ki u) (ho : gd_ok u) (ha : ar_ok u) {g : Nat} (hg : g < 6) (h0 : 0 < u.2 7 g) (t : Nat) : us_f u g t = 0 := by
  apply Nat.eq_of_testBit_eq
  intro i
  rw [Nat.zero_testBit]
  by_cases q : (us_f u g t).testBit i = true
  · exfalso
    obtain ⟨h1, h2⟩ := us_f_bit.mp q
    unfold us_c at h2
    have h3 := of_decide_eq_true h2
    have h5 := ha.2.2.1 i (by have := ha.1; omega)
    rcases h3.1 with h4 | h4
    · exact (hk g hg h0).1 i h1 h4
    · rw [((hk g hg h0).2 _ h5).1] at h4
      cases h4
  · exact Bool.eq_false_iff.mpr q
theorem mx_fr {u : pf_S} {S m : Nat} (h : mx u S m) : m ≤ fl_sum (fun a => if S.testBit a then fr_of u a else 0) (u.1 0) := by
  obtain ⟨⟨y, h1, h2, h3⟩, -⟩ := h
  have h4 := h1 30 (by decide)
  have e : fw_W u m 30 = m := rfl
  rw [e] at h4
  rw [← h4]
  refine fl_sum_le fun a ha => ?_
  by_cases q : S.testBit a = true
  · rw [if_pos q]
    exact Nat.le_trans (fl_sum_one (fun d => y d a) (by decide : 30 < 31)) (h3 a ha)
  · rw [if_neg q]
    refine Nat.le_of_not_lt fun hp => q ?_
    exact h2 30 (by decide) a ha hp
theorem sh_k {u : pf_S} (hk : ki u) (hc : cls u) {g t k : Nat} (hg : g < 6) (h0 : sh_b u g t ≠ 0) (h : gf_inv u g t (1 <<< gd_dn u g) k) : k ≤ sh_b u g t := by
  have hz : u.2 7 g = 0 := Nat.eq_zero_of_not_pos fun q => h0 (by
    unfold sh_b
    rw [ki_us hk hc.1.1 hc.1.2.1 hg q t]
    exact fl_sum_zero_of fun k _ => by simp)
  have e1 : gd_dn u g = 1 := by unfold gd_dn; rw [hz]; rfl
  have e2 : gd_dg u g 0 = g := by unfold gd_dg; rw [hz]; rfl
  have e3 : gf_o u g 1 1 = 1 := by
    show 0 + (if (1 : Nat).testBit 0 = true then gd_d1 u g 0 else 0) = 1
    unfold gd_d1
    rw [hz]
    rfl
  have e4 : gf_m u g t 1 1 = us_f u g t := by
    show (if (1 : Nat).testBit 0 = true then 0 ||| us_f u (gd_dg u g 0) t else 0) = _
    rw [e2, if_pos (by decide), Nat.zero_or]
  rw [e1] at h
  obtain ⟨m, h1, h2⟩ := h.1 1 (Nat.le_refl _) (by decide) (by rw [e1, e3]; decide)
  rw [e1, e3, Nat.div_one] at h2
  rw [e1, e4] at h1
  refine Nat.le_trans h2 (Nat.le_trans (mx_fr h1) (fl_sum_le fun a _ => ?_))
  split
  · unfold fr_of
    omega
  · exact Nat.le_refl _
theorem sh_int {m b : Nat} : ((1000 : Int) * (m : Int) / (b : Int)).toNat = 1000 * m / b := by
  have : ((1000 : Int) * (m : Int) / (b : Int)) = ((1000 * m / b : Nat) : Int) := by
    rw [Int.natCast_ediv, Int.natCast_mul]
    rfl
  rw [this]
  exact Int.toNat_natCast _
theorem sh_div {m b : Nat} (h : m ≤ b) (hb : 0 < b) : 1000 * m / b ≤ 1000 := by
  have : 1000 * m / b ≤ 1000 * b / b := Nat.div_le_div_right (by omega)
  rw [Nat.mul_div_cancel _ hb] at this
  exact this
theorem sh_i0 {m b : Nat} : (0 : Int) ≤ (1000 : Int) * (m : Int) / (b : Int) := Int.ediv_nonneg (by omega) (by omega)
theorem sh_i1 {m b : Nat} (h : m ≤ b) (hb : 0 < b) : (1000 : Int) * (m : Int) / (b : Int) < 2 ^ 31 := by
  have h1 := sh_div h hb
  have h2 := sh_int (m := m) (b := b)
  have h3 := sh_i0 (m := m) (b := b)
  omega
set_option maxHeartbeats 4000000 in
set_option maxRecDepth 100000 in
theorem c_X4_share (l : Launch) (G : gw_G) (q : Nat → Nat) (u : pf_S) (x : Int32) (y : Int32) (hst9 : l.stackTraces = false) (h2 : cl2 u) : gx_MI l yX4_share cX4_share 4 (some .int) 8 159 [.ref (q 0), .int (x), .int (y)] G (pw G q) u (fun r u1 => ∃ k : Nat, r = nI k ∧ (cdH u x y = 0 ∧ mo_same u u1 ∧ cls u1 ∧ ∃ m, gf_inv u (tn x) (tn y) (1 <<< gd_dn u (tn x)) m ∧ k = 1000 * m / sh_b u (tn x) (tn y))) (fun E u1 => u1 = u ∧ ((E = "java/lang/IllegalArgumentException" ∧ cdH u x y = 1) ∨ (E = "java/lang/ArithmeticException" ∧ cdH u x y = 2))) := by
  refine gx_entryI (own := RX4) (by decide) rfl (Nat.le_of_ble_eq_true rfl) ?_
  intro p e s m args below meth c A ls C X9 hex9 Hh hl
  have hl : lv_has ls 4 [(0, .ref (q 0)), (1, .int (x)), (2, .int (y))] := hl
  have hcl : cls u := h2.1
  have hgd : gd_ok u := h2.1.1.1
  have har : ar_ok u := h2.1.1.2.1
  have hod : od_ok u := h2.1.1.2.2
  have h10 : u.1 0 ≤ 10 := har.1
  have o10 : u.1 1 ≤ 10 := hod.1
  refine lv_iload_n C.1 C.2.1 dX4_share_0 rfl (lv_at hl 1 rfl) ?_
  refine gx_fromV (w := pw G q) (u := u) C hex9 Hh (gx_rS (n := 1) [.int (x)] C X9 Hh (c_X4_needGood l G q (u) (x) hst9  _) tw_357 tw_358 tw_66 tw_359 (by decide +kernel) ⟨Nat.le_of_ble_eq_true rfl, Nat.le_of_ble_eq_true rfl⟩ rfl hl.1 (Nat.le_of_ble_eq_true rfl) dX4_share_1 ⟨Nat.le_of_ble_eq_true rfl, Nat.le_of_ble_eq_true rfl⟩) (fun E u1 hx9 => by exact ⟨hx9.2.2, Or.inl ⟨hx9.1, cdH_1 (fun h => hx9.2.1 h.1)⟩⟩) (fun uc_1 H locs hp_1 Hh => ?_)
  obtain ⟨hp_1, hu_1⟩ := hp_1
  rw [hu_1] at Hh
  clear hu_1
  obtain ⟨g, hx_1, hj_1⟩ := hp_1
  rw [hx_1] at hl
  refine lv_iload_n C.1 C.2.1 dX4_share_4 rfl (lv_at hl 2 rfl) ?_
  refine gx_fromV (w := pw G q) (u := u) C hex9 Hh (gx_rS (n := 1) [.int (y)] C X9 Hh (c_X4_needTime l G q (u) (y) hst9  _) tw_281 tw_282 tw_66 tw_283 (by decide +kernel) ⟨Nat.le_of_ble_eq_true rfl, Nat.le_of_ble_eq_true rfl⟩ rfl hl.1 (Nat.le_of_ble_eq_true rfl) dX4_share_5 ⟨Nat.le_of_ble_eq_true rfl, Nat.le_of_ble_eq_true rfl⟩) (fun E u1 hx9 => by exact ⟨hx9.2.2, Or.inl ⟨hx9.1, cdH_1 (fun h => hx9.2.1 h.2)⟩⟩) (fun uc_5 H locs hp_5 Hh => ?_)
  obtain ⟨hp_5, hu_5⟩ := hp_5
  rw [hu_5] at Hh
  clear hu_5
  obtain ⟨t, hx_5, hj_5⟩ := hp_5
  rw [hx_5] at hl
  refine lv_aload_n C.1 C.2.1 dX4_share_8 rfl (lv_at hl 0 rfl) ?_
  refine gw_get (Cn := RX4) (T := TX4) (N := 4) C Hh 0 pw_at0 rfl uwX4 1 (by decide) rfl tw_219 rfl dX4_share_9 ?_
  refine lv_aload_n C.1 C.2.1 dX4_share_12 rfl (lv_at hl 0 rfl) ?_
  refine lv_iload_n C.1 C.2.1 dX4_share_13 rfl (lv_at hl 1 rfl) ?_
  refine lv_iload_n C.1 C.2.1 dX4_share_14 rfl (lv_at hl 2 rfl) ?_
  refine gw_fromI (w := pw G q) (u := u) C Hh (gw_runV (n := 2) (C1 := RX4) [.int (nI (g)), .int (nI (t))] C Hh (c_X4_usableFor l G q (u) (g) (t) (by first | assumption | omega) (by first | assumption | omega) (by first | assumption | omega) (by first | assumption | omega) _) tw_433 tw_435 tw_18 tw_66 tw_436 (by decide +kernel) ⟨Nat.le_of_ble_eq_true rfl, Nat.le_of_ble_eq_true rfl⟩ 0 pw_at0 rfl rfl hl.1 (Nat.le_of_ble_eq_true rfl) dX4_share_15 ⟨Nat.zero_le _, Nat.zero_le _⟩) (fun rc_15 uc_15 H locs hp_15 Hh => ?_)
  obtain ⟨kc_15, rfl, hp_15⟩ := hp_15
  obtain ⟨hk_15, hu_15⟩ := hp_15
  rw [hu_15] at Hh
  clear hu_15
  refine gw_fromI (w := pw G q) (u := u) C Hh (gw_runVN (n := 1) (C1 := RX0) [.int (nI (kc_15))] C Hh (c_X0_broughtBy l G q (u) (kc_15) (by first | assumption | omega) _) tw_645 tw_647 tw_43 tw_68 tw_648 (by decide +kernel) ⟨Nat.le_of_ble_eq_true rfl, Nat.le_of_ble_eq_true rfl⟩ 2 pw_at2 rfl rfl hl.1 (Nat.le_of_ble_eq_true rfl) dX4_share_18 ⟨Nat.zero_le _, Nat.zero_le _⟩) (fun rc_18 uc_18 H locs hp_18 Hh => ?_)
  obtain ⟨kc_18, rfl, hp_18⟩ := hp_18
  obtain ⟨hk_18, hu_18⟩ := hp_18
  rw [hu_18] at Hh
  clear hu_18
  have hb18 : kc_18 = sh_b u g t := by (rw [hk_18, hk_15]; rfl)
  have hb19 : kc_18 ≤ 10000000 := by (rw [hb18]; exact sh_le har g t)
  refine lv_istore_n (lv' := [(3, .int (nI (kc_18))), (0, .ref (q 0)), (1, .int (nI (g))), (2, .int (nI (t)))]) C.1 C.2.1 dX4_share_21 rfl hl (by decide) rfl (fun ls hl => ?_)
  refine lv_iload_n C.1 C.2.1 dX4_share_22 rfl (lv_at hl 0 rfl) ?_
  refine gw_if_ne (tgt := 36) C dX4_share_23 (by decide) (by omega) (fun hc_23 => ?_) (fun hc_23 => ?_)
  · skip
    refine lv_ldc2 (v := 1000) C.1 C.2.1 C.cl (C.ts tw_666) dX4_share_36 ?_
    refine W.eq (g2 := F0 m 39 ls [.long (Int64.ofInt (1000))]) rfl ?_
    refine lv_aload_n C.1 C.2.1 dX4_share_39 rfl (lv_at hl 1 rfl) ?_
    refine lv_iload_n C.1 C.2.1 dX4_share_40 rfl (lv_at hl 2 rfl) ?_
    refine lv_iload_n C.1 C.2.1 dX4_share_41 rfl (lv_at hl 3 rfl) ?_
    refine gw_fromI (w := pw G q) (u := u) C Hh (gw_runV (n := 2) (C1 := RX4) [.int (nI (g)), .int (nI (t))] C Hh (c_X4_greatestFurther l G q (u) (g) (t) (by first | assumption | omega) (by first | assumption | omega) (by first | assumption | omega) _) tw_622 tw_624 tw_41 tw_66 tw_625 (by decide +kernel) ⟨Nat.le_of_ble_eq_true rfl, Nat.le_of_ble_eq_true rfl⟩ 0 pw_at0 rfl rfl hl.1 (Nat.le_of_ble_eq_true rfl) dX4_share_42 ⟨Nat.zero_le _, Nat.zero_le _⟩) (fun rc_42 uc_42 H locs hp_42 Hh => ?_)
    obtain ⟨kc_42, rfl, hp_42⟩ := hp_42
    have hm9 : kc_42 ≤ kc_18 := by (rw [hb18]; exact sh_k h2.2.2 hcl hj_1 (by omega) hp_42.2.2)
    refine gw_i2l C dX4_share_45 (by omega) ?_
    refine gw_lmul C dX4_share_46 ?_
    refine lv_iload_n C.1 C.2.1 dX4_share_47 rfl (lv_at hl 0 rfl) ?_
    refine gw_i2l C dX4_share_48 (by omega) ?_
    refine gw_ldiv C dX4_share_49 (by unfold lg; omega) (by unfold lg; omega) (by omega) (by omega) ?_
    refine gw_l2i C dX4_share_50 (by exact sh_i0) (by exact sh_i1 hm9 hc_23) ?_
    refine gx_ret ?_
    exact gw_iret (w := pw G q) (u := uc_42) C Hh dX4_share_51 ⟨_, rfl, by rw [tn_eq hx_1 (by omega), tn_eq hx_5 (by omega)]; exact ⟨(cdH_v hx_1 hj_1 hx_5 hj_5).trans (if_neg (by omega)), hp_42.1, hp_42.2.1, kc_42, hp_42.2.2, by rw [← hb18]; exact sh_int⟩⟩
  · skip
    exact gx_throw (w := pw G q) (u := u) (E := "java/lang/ArithmeticException") (text := "/ by zero") (names := ["java/lang/RuntimeException", "java/lang/Exception"]) hst9 C X9 hex9 Hh hl.1 (by decide +kernel) (by decide +kernel) tw_650 tw_82 (by decide) ex_172_4 ex_172_5 ex_172_6 dX4_share_26 dX4_share_29 dX4_share_30 dX4_share_32 dX4_share_35 ⟨Nat.le_of_ble_eq_true rfl, Nat.le_of_ble_eq_true rfl, Nat.le_of_ble_eq_true rfl, Nat.le_of_ble_eq_true rfl⟩ (by exact ⟨rfl, Or.inr ⟨rfl, (cdH_v hx_1 hj_1 hx_5 hj_5).trans (if_pos (by omega))⟩⟩)
/-! kit -/
def kt_has (u : pf_S) (g x : Nat) : Prop := ∃ j, j < u.2 7 g ∧ u.2 8 (g * 3 + j) = x
def kt_use (u : pf_S) (x : Nat) : Prop := (∃ g, g < 6 ∧ ∃ j, j < u.2 7 g ∧ u.2 8 (g * 3 + j) = x) ∨ (∃ o, o < 6 ∧ (0 < u.2 6 (x * 6 + o) ∨ 0 < u.2 6 (o * 6 + x))) ∨ (∃ a, a < u.1 0 ∧ u.2 11 a = x) ∨ ∃ a, a < u.1 1 ∧ u.2 15 a = x
def kt_no (u : pf_S) (g x : Nat) : Prop := 0 < u.2 7 x ∨ g = x ∨ kt_has u g x ∨ kt_use u g
noncomputable def cdK (u : pf_S) (x y z : Int32) : Nat := pif (inr x 0 5 ∧ inr y 0 5 ∧ inr z 1 100) (pif (kt_no u (tn x) (tn y)) 2 (pif (u.2 7 (tn x) < 3) 0 3)) 1
theorem cdK_1 {u : pf_S} {x y z : Int32} (h : ¬ (inr x 0 5 ∧ inr y 0 5 ∧ inr z 1 100)) : cdK u x y z = 1 := pif_neg h
theorem cdK_v {u : pf_S} {x y z : Int32} {g t n : Nat} (hx : x = nI g) (hg : g < 6) (hy : y = nI t) (ht : t < 6) (hz : z = nI n) (hn : 1 ≤ n ∧ n ≤ 100) : cdK u x y z = pif (kt_no u g t) 2 (if u.2 7 g < 3 then 0 else 3) := by
  unfold cdK
  rw [pif_pos ⟨inr_ok hx (by decide) (Nat.zero_le _) (by omega), inr_ok hy (by decide) (Nat.zero_le _) (by omega), inr_ok hz (by decide) hn.1 hn.2⟩, tn_eq hx (by omega), tn_eq hy (by omega), pif_if (u.2 7 g < 3)]
def kt_S (u : pf_S) (g x n : Nat) : pf_S := (u.1, up2 (up2 (up2 u.2 8 (g * 3 + u.2 7 g) x) 9 (g * 3 + u.2 7 g) n) 7 g (u.2 7 g + 1))
set_option maxHeartbeats 4000000 in
set_option maxRecDepth 100000 in
theorem c_X4_kit (l : Launch) (G : gw_G) (q : Nat → Nat) (u : pf_S) (x : Int32) (y : Int32) (z : Int32) (hst9 : l.stackTraces = false) (h2 : cl2 u) : gx_MI l yX4_kit cX4_kit 4 (some .int) 8 124 [.ref (q 0), .int (x), .int (y), .int (z)] G (pw G q) u (fun r u1 => ∃ k : Nat, r = nI k ∧ (cdK u x y z = 0 ∧ k = u.2 7 (tn x) + 1 ∧ u1 = kt_S u (tn x) (tn y) (tn z))) (fun E u1 => u1 = u ∧ ((E = "java/lang/IllegalArgumentException" ∧ cdK u x y z = 1) ∨ (E = "java/lang/IllegalStateException" ∧ cdK u x y z = 2) ∨ (E = "java/lang/UnsupportedOperationException" ∧ cdK u x y z = 3))) := by
  refine gx_entryI (own := RX4) (by decide) rfl (Nat.le_of_ble_eq_true rfl) ?_
  intro p e s m args below meth c A ls C X9 hex9 Hh hl
  have hl : lv_has ls 4 [(0, .ref (q 0)), (1, .int (x)), (2, .int (y)), (3, .int (z))] := hl
  have hcl : cls u := h2.1
  have hgd : gd_ok u := h2.1.1.1
  have har : ar_ok u := h2.1.1.2.1
  have hod : od_ok u := h2.1.1.2.2
  have h10 : u.1 0 ≤ 10 := har.1
  have o10 : u.1 1 ≤ 10 := hod.1
  refine lv_iload_n C.1 C.2.1 dX4_kit_0 rfl (lv_at hl 1 rfl) ?_
  refine gx_fromV (w := pw G q) (u := u) C hex9 Hh (gx_rS (n := 1) [.int (x)] C X9 Hh (c_X4_needGood l G q (u) (x) hst9  _) tw_357 tw_358 tw_66 tw_359 (by decide +kernel) ⟨Nat.le_of_ble_eq_true rfl, Nat.le_of_ble_eq_true rfl⟩ rfl hl.1 (Nat.le_of_ble_eq_true rfl) dX4_kit_1 ⟨Nat.le_of_ble_eq_true rfl, Nat.le_of_ble_eq_true rfl⟩) (fun E u1 hx9 => by exact ⟨hx9.2.2, Or.inl ⟨hx9.1, cdK_1 (fun h => hx9.2.1 h.1)⟩⟩) (fun uc_1 H locs hp_1 Hh => ?_)
  obtain ⟨hp_1, hu_1⟩ := hp_1
  rw [hu_1] at Hh
  clear hu_1
  obtain ⟨g, hx_1, hj_1⟩ := hp_1
  rw [hx_1] at hl
  refine lv_iload_n C.1 C.2.1 dX4_kit_4 rfl (lv_at hl 2 rfl) ?_
  refine gx_fromV (w := pw G q) (u := u) C hex9 Hh (gx_rS (n := 1) [.int (y)] C X9 Hh (c_X4_needGood l G q (u) (y) hst9  _) tw_357 tw_358 tw_66 tw_359 (by decide +kernel) ⟨Nat.le_of_ble_eq_true rfl, Nat.le_of_ble_eq_true rfl⟩ rfl hl.1 (Nat.le_of_ble_eq_true rfl) dX4_kit_5 ⟨Nat.le_of_ble_eq_true rfl, Nat.le_of_ble_eq_true rfl⟩) (fun E u1 hx9 => by exact ⟨hx9.2.2, Or.inl ⟨hx9.1, cdK_1 (fun h => hx9.2.1 h.2.1)⟩⟩) (fun uc_5 H locs hp_5 Hh => ?_)
  obtain ⟨hp_5, hu_5⟩ := hp_5
  rw [hu_5] at Hh
  clear hu_5
  obtain ⟨t, hx_5, hj_5⟩ := hp_5
  rw [hx_5] at hl
  refine lv_iload_n C.1 C.2.1 dX4_kit_8 rfl (lv_at hl 3 rfl) ?_
  refine lv_iconst (v := nI 1) C.1 C.2.1 dX4_kit_9 (by decide +kernel) ?_
  refine lv_bipush (v := nI 100) C.1 C.2.1 dX4_kit_10 (by decide +kernel) ?_
  refine gx_fromV (w := pw G q) (u := u) C hex9 Hh (gx_rS (n := 3) [.int (z), .int (nI (1)), .int (nI (100))] C X9 Hh (c_X4_needWithin l G q (u) (z) (1) (100) hst9 (by decide) (by decide) _) tw_284 tw_285 tw_66 tw_286 (by decide +kernel) ⟨Nat.le_of_ble_eq_true rfl, Nat.le_of_ble_eq_true rfl⟩ rfl hl.1 (Nat.le_of_ble_eq_true rfl) dX4_kit_12 ⟨Nat.le_of_ble_eq_true rfl, Nat.le_of_ble_eq_true rfl⟩) (fun E u1 hx9 => by exact ⟨hx9.2.2, Or.inl ⟨hx9.1, cdK_1 (fun h => hx9.2.1 h.2.2)⟩⟩) (fun uc_12 H locs hp_12 Hh => ?_)
  obtain ⟨hp_12, hu_12⟩ := hp_12
  rw [hu_12] at Hh
  clear hu_12
  obtain ⟨n, hx_12, hj_12⟩ := hp_12
  rw [hx_12] at hl
  refine lv_aload_n C.1 C.2.1 dX4_kit_15 rfl (lv_at hl 0 rfl) ?_
  refine lv_iload_n C.1 C.2.1 dX4_kit_16 rfl (lv_at hl 2 rfl) ?_
  refine gx_fromV (w := pw G q) (u := u) C hex9 Hh (gx_rV (n := 1) (C1 := RX4) [.int (nI (t))] C X9 Hh (c_X4_needNoKit l G q (u) (t) hst9 (by first | assumption | omega) (by first | assumption | omega) _) tw_361 tw_363 tw_10 tw_66 tw_364 (by decide +kernel) ⟨Nat.le_of_ble_eq_true rfl, Nat.le_of_ble_eq_true rfl⟩ 0 pw_at0 rfl rfl hl.1 (Nat.le_of_ble_eq_true rfl) dX4_kit_17 ⟨Nat.le_of_ble_eq_true rfl, Nat.le_of_ble_eq_true rfl⟩) (fun E u1 hx9 => by exact ⟨hx9.2.2, Or.inr (Or.inl ⟨hx9.1, (cdK_v hx_1 hj_1 hx_5 hj_5 hx_12 hj_12).trans (pif_pos (Or.inl hx9.2.1))⟩)⟩) (fun uc_17 H locs hp_17 Hh => ?_)
  obtain ⟨hp_17, hu_17⟩ := hp_17
  rw [hu_17] at Hh
  clear hu_17
  have h3 := hgd.1 g hj_1
  refine lv_iload_n C.1 C.2.1 dX4_kit_20 rfl (lv_at hl 2 rfl) ?_
  refine lv_iload_n C.1 C.2.1 dX4_kit_21 rfl (lv_at hl 1 rfl) ?_
  refine gw_icmp_eq (tgt := 37) C dX4_kit_22 (by decide) (by omega) (by omega) (fun hc_22 => ?_) (fun hc_22 => ?_)
  · skip
    exact gx_throw (w := pw G q) (u := u) (E := "java/lang/IllegalStateException") (text := "the part is the good itself, or there already") (names := ["java/lang/RuntimeException", "java/lang/Exception"]) hst9 C X9 hex9 Hh hl.1 (by decide +kernel) (by decide +kernel) tw_366 tw_76 (by decide) ex_82_4 ex_82_5 ex_82_6 dX4_kit_37 dX4_kit_40 dX4_kit_41 dX4_kit_43 dX4_kit_46 ⟨Nat.le_of_ble_eq_true rfl, Nat.le_of_ble_eq_true rfl, Nat.le_of_ble_eq_true rfl, Nat.le_of_ble_eq_true rfl⟩ (by refine ⟨rfl, Or.inr (Or.inl ⟨rfl, (cdK_v hx_1 hj_1 hx_5 hj_5 hx_12 hj_12).trans (pif_pos (Or.inr ?_))⟩)⟩; first | exact Or.inl hc_22.symm | (rcases hk_31 with ⟨-, h⟩ | ⟨h, -⟩; exact Or.inr (Or.inl h); omega))
  · skip
    refine lv_aload_n C.1 C.2.1 dX4_kit_25 rfl (lv_at hl 0 rfl) ?_
    refine gw_get (Cn := RX4) (T := TX4) (N := 4) C Hh 0 pw_at0 rfl uwX4 0 (by decide) rfl tw_218 rfl dX4_kit_26 ?_
    refine lv_iload_n C.1 C.2.1 dX4_kit_29 rfl (lv_at hl 1 rfl) ?_
    refine lv_iload_n C.1 C.2.1 dX4_kit_30 rfl (lv_at hl 2 rfl) ?_
    refine gw_fromI (w := pw G q) (u := u) C Hh (gw_runVN (n := 2) (C1 := RX1) [.int (nI (g)), .int (nI (t))] C Hh (c_X1_hasPart l G q (u) (g) (t) (by first | assumption | omega) (by first | assumption | omega) (by first | assumption | omega) _) tw_558 tw_560 tw_32 tw_67 tw_561 (by decide +kernel) ⟨Nat.le_of_ble_eq_true rfl, Nat.le_of_ble_eq_true rfl⟩ 1 pw_at1 rfl rfl hl.1 (Nat.le_of_ble_eq_true rfl) dX4_kit_31 ⟨Nat.zero_le _, Nat.zero_le _⟩) (fun rc_31 uc_31 H locs hp_31 Hh => ?_)
    obtain ⟨kc_31, rfl, hp_31⟩ := hp_31
    obtain ⟨hk_31, hu_31⟩ := hp_31
    rw [hu_31] at Hh
    clear hu_31
    refine gw_if_eq (tgt := 47) C dX4_kit_34 (by decide) (by rcases hk_31 with ⟨h, -⟩ | ⟨h, -⟩ <;> omega) (fun hc_34 => ?_) (fun hc_34 => ?_)
    · skip
      refine lv_aload_n C.1 C.2.1 dX4_kit_47 rfl (lv_at hl 0 rfl) ?_
      refine gw_get (Cn := RX4) (T := TX4) (N := 4) C Hh 0 pw_at0 rfl uwX4 0 (by decide) rfl tw_218 rfl dX4_kit_48 ?_
      refine lv_iload_n C.1 C.2.1 dX4_kit_51 rfl (lv_at hl 1 rfl) ?_
      refine gw_fromI (w := pw G q) (u := u) C Hh (gw_runVN (n := 1) (C1 := RX1) [.int (nI (g))] C Hh (c_X1_isPart l G q (u) (g) (by first | assumption | omega) (by first | assumption | omega) _) tw_563 tw_565 tw_33 tw_67 tw_566 (by decide +kernel) ⟨Nat.le_of_ble_eq_true rfl, Nat.le_of_ble_eq_true rfl⟩ 1 pw_at1 rfl rfl hl.1 (Nat.le_of_ble_eq_true rfl) dX4_kit_52 ⟨Nat.zero_le _, Nat.zero_le _⟩) (fun rc_52 uc_52 H locs hp_52 Hh => ?_)
      obtain ⟨kc_52, rfl, hp_52⟩ := hp_52
      obtain ⟨hk_52, hu_52⟩ := hp_52
      rw [hu_52] at Hh
      clear hu_52
      refine gw_if_ne (tgt := 91) C dX4_kit_55 (by decide) (by rcases hk_52 with ⟨h, -⟩ | ⟨h, -⟩ <;> omega) (fun hc_55 => ?_) (fun hc_55 => ?_)
      · skip
        exact gx_throw (w := pw G q) (u := u) (E := "java/lang/IllegalStateException") (text := "the good is in use") (names := ["java/lang/RuntimeException", "java/lang/Exception"]) hst9 C X9 hex9 Hh hl.1 (by decide +kernel) (by decide +kernel) tw_366 tw_76 (by decide) ex_82_4 ex_82_5 ex_82_6 dX4_kit_91 dX4_kit_94 dX4_kit_95 dX4_kit_97 dX4_kit_100 ⟨Nat.le_of_ble_eq_true rfl, Nat.le_of_ble_eq_true rfl, Nat.le_of_ble_eq_true rfl, Nat.le_of_ble_eq_true rfl⟩ (by refine ⟨rfl, Or.inr (Or.inl ⟨rfl, (cdK_v hx_1 hj_1 hx_5 hj_5 hx_12 hj_12).trans (pif_pos (Or.inr (Or.inr (Or.inr ?_))))⟩)⟩; first | (rcases hk_85 with ⟨-, h⟩ | ⟨h, -⟩; refine Or.inr (Or.inr (Or.inr ?_)); exact h; omega) | (rcases hk_74 with ⟨-, h⟩ | ⟨h, -⟩; refine Or.inr (Or.inr (Or.inl ?_)); exact h; omega) | (rcases hk_63 with ⟨-, h⟩ | ⟨h, -⟩; refine Or.inr (Or.inl ?_); exact h; omega) | (rcases hk_52 with ⟨-, h⟩ | ⟨h, -⟩; refine Or.inl ?_; exact h; omega))
      · skip
        refine lv_aload_n C.1 C.2.1 dX4_kit_58 rfl (lv_at hl 0 rfl) ?_
        refine gw_get (Cn := RX4) (T := TX4) (N := 4) C Hh 0 pw_at0 rfl uwX4 0 (by decide) rfl tw_218 rfl dX4_kit_59 ?_
        refine lv_iload_n C.1 C.2.1 dX4_kit_62 rfl (lv_at hl 1 rfl) ?_
        refine gw_fromI (w := pw G q) (u := u) C Hh (gw_runVN (n := 1) (C1 := RX1) [.int (nI (g))] C Hh (c_X1_isInStandIn l G q (u) (g) (by first | assumption | omega) (by first | assumption | omega) _) tw_568 tw_570 tw_34 tw_67 tw_571 (by decide +kernel) ⟨Nat.le_of_ble_eq_true rfl, Nat.le_of_ble_eq_true rfl⟩ 1 pw_at1 rfl rfl hl.1 (Nat.le_of_ble_eq_true rfl) dX4_kit_63 ⟨Nat.zero_le _, Nat.zero_le _⟩) (fun rc_63 uc_63 H locs hp_63 Hh => ?_)
        obtain ⟨kc_63, rfl, hp_63⟩ := hp_63
        obtain ⟨hk_63, hu_63⟩ := hp_63
        rw [hu_63] at Hh
        clear hu_63
        refine gw_if_ne (tgt := 91) C dX4_kit_66 (by decide) (by rcases hk_63 with ⟨h, -⟩ | ⟨h, -⟩ <;> omega) (fun hc_66 => ?_) (fun hc_66 => ?_)
        · skip
          exact gx_throw (w := pw G q) (u := u) (E := "java/lang/IllegalStateException") (text := "the good is in use") (names := ["java/lang/RuntimeException", "java/lang/Exception"]) hst9 C X9 hex9 Hh hl.1 (by decide +kernel) (by decide +kernel) tw_366 tw_76 (by decide) ex_82_4 ex_82_5 ex_82_6 dX4_kit_91 dX4_kit_94 dX4_kit_95 dX4_kit_97 dX4_kit_100 ⟨Nat.le_of_ble_eq_true rfl, Nat.le_of_ble_eq_true rfl, Nat.le_of_ble_eq_true rfl, Nat.le_of_ble_eq_true rfl⟩ (by refine ⟨rfl, Or.inr (Or.inl ⟨rfl, (cdK_v hx_1 hj_1 hx_5 hj_5 hx_12 hj_12).trans (pif_pos (Or.inr (Or.inr (Or.inr ?_))))⟩)⟩; first | (rcases hk_85 with ⟨-, h⟩ | ⟨h, -⟩; refine Or.inr (Or.inr (Or.inr ?_)); exact h; omega) | (rcases hk_74 with ⟨-, h⟩ | ⟨h, -⟩; refine Or.inr (Or.inr (Or.inl ?_)); exact h; omega) | (rcases hk_63 with ⟨-, h⟩ | ⟨h, -⟩; refine Or.inr (Or.inl ?_); exact h; omega) | (rcases hk_52 with ⟨-, h⟩ | ⟨h, -⟩; refine Or.inl ?_; exact h; omega))
        · skip
          refine lv_aload_n C.1 C.2.1 dX4_kit_69 rfl (lv_at hl 0 rfl) ?_
          refine gw_get (Cn := RX4) (T := TX4) (N := 4) C Hh 0 pw_at0 rfl uwX4 1 (by decide) rfl tw_219 rfl dX4_kit_70 ?_
          refine lv_iload_n C.1 C.2.1 dX4_kit_73 rfl (lv_at hl 1 rfl) ?_
          refine gw_fromI (w := pw G q) (u := u) C Hh (gw_runVN (n := 1) (C1 := RX0) [.int (nI (g))] C Hh (c_X0_has l G q (u) (g) (by first | assumption | omega) (by first | assumption | omega) _) tw_572 tw_574 tw_35 tw_68 tw_575 (by decide +kernel) ⟨Nat.le_of_ble_eq_true rfl, Nat.le_of_ble_eq_true rfl⟩ 2 pw_at2 rfl rfl hl.1 (Nat.le_of_ble_eq_true rfl) dX4_kit_74 ⟨Nat.zero_le _, Nat.zero_le _⟩) (fun rc_74 uc_74 H locs hp_74 Hh => ?_)
          obtain ⟨kc_74, rfl, hp_74⟩ := hp_74
          obtain ⟨hk_74, hu_74⟩ := hp_74
          rw [hu_74] at Hh
          clear hu_74
          refine gw_if_ne (tgt := 91) C dX4_kit_77 (by decide) (by rcases hk_74 with ⟨h, -⟩ | ⟨h, -⟩ <;> omega) (fun hc_77 => ?_) (fun hc_77 => ?_)
          · skip
            exact gx_throw (w := pw G q) (u := u) (E := "java/lang/IllegalStateException") (text := "the good is in use") (names := ["java/lang/RuntimeException", "java/lang/Exception"]) hst9 C X9 hex9 Hh hl.1 (by decide +kernel) (by decide +kernel) tw_366 tw_76 (by decide) ex_82_4 ex_82_5 ex_82_6 dX4_kit_91 dX4_kit_94 dX4_kit_95 dX4_kit_97 dX4_kit_100 ⟨Nat.le_of_ble_eq_true rfl, Nat.le_of_ble_eq_true rfl, Nat.le_of_ble_eq_true rfl, Nat.le_of_ble_eq_true rfl⟩ (by refine ⟨rfl, Or.inr (Or.inl ⟨rfl, (cdK_v hx_1 hj_1 hx_5 hj_5 hx_12 hj_12).trans (pif_pos (Or.inr (Or.inr (Or.inr ?_))))⟩)⟩; first | (rcases hk_85 with ⟨-, h⟩ | ⟨h, -⟩; refine Or.inr (Or.inr (Or.inr ?_)); exact h; omega) | (rcases hk_74 with ⟨-, h⟩ | ⟨h, -⟩; refine Or.inr (Or.inr (Or.inl ?_)); exact h; omega) | (rcases hk_63 with ⟨-, h⟩ | ⟨h, -⟩; refine Or.inr (Or.inl ?_); exact h; omega) | (rcases hk_52 with ⟨-, h⟩ | ⟨h, -⟩; refine Or.inl ?_; exact h; omega))
          · skip
            refine lv_aload_n C.1 C.2.1 dX4_kit_80 rfl (lv_at hl 0 rfl) ?_
            refine gw_get (Cn := RX4) (T := TX4) (N := 4) C Hh 0 pw_at0 rfl uwX4 2 (by decide) rfl tw_220 rfl dX4_kit_81 ?_
            refine lv_iload_n C.1 C.2.1 dX4_kit_84 rfl (lv_at hl 1 rfl) ?_
            refine gw_fromI (w := pw G q) (u := u) C Hh (gw_runVN (n := 1) (C1 := RX2) [.int (nI (g))] C Hh (c_X2_has l G q (u) (g) (by first | assumption | omega) (by first | assumption | omega) _) tw_576 tw_578 tw_36 tw_69 tw_579 (by decide +kernel) ⟨Nat.le_of_ble_eq_true rfl, Nat.le_of_ble_eq_true rfl⟩ 3 pw_at3 rfl rfl hl.1 (Nat.le_of_ble_eq_true rfl) dX4_kit_85 ⟨Nat.zero_le _, Nat.zero_le _⟩) (fun rc_85 uc_85 H locs hp_85 Hh => ?_)
            obtain ⟨kc_85, rfl, hp_85⟩ := hp_85
            obtain ⟨hk_85, hu_85⟩ := hp_85
            rw [hu_85] at Hh
            clear hu_85
            refine gw_if_eq (tgt := 101) C dX4_kit_88 (by decide) (by rcases hk_85 with ⟨h, -⟩ | ⟨h, -⟩ <;> omega) (fun hc_88 => ?_) (fun hc_88 => ?_)
            · skip
              refine lv_aload_n C.1 C.2.1 dX4_kit_101 rfl (lv_at hl 0 rfl) ?_
              refine gw_get (Cn := RX4) (T := TX4) (N := 4) C Hh 0 pw_at0 rfl uwX4 0 (by decide) rfl tw_218 rfl dX4_kit_102 ?_
              refine gw_getN (Cn := RX1) (T := TX1) (N := 5) C Hh 1 pw_at1 rfl uwX1 2 (by decide) rfl tw_101 rfl dX4_kit_105 ?_
              refine lv_iload_n C.1 C.2.1 dX4_kit_108 rfl (lv_at hl 1 rfl) ?_
              refine gw_ld C Hh 7 pw_at7 (by decide) dX4_kit_109 (by omega) ?_
              refine lv_iconst (v := nI 3) C.1 C.2.1 dX4_kit_110 (by decide +kernel) ?_
              refine gw_icmp_lt (tgt := 124) C dX4_kit_111 (by decide) (by omega) (by omega) (fun hc_111 => ?_) (fun hc_111 => ?_)
              · skip
                refine lv_aload_n C.1 C.2.1 dX4_kit_124 rfl (lv_at hl 0 rfl) ?_
                refine gw_get (Cn := RX4) (T := TX4) (N := 4) C Hh 0 pw_at0 rfl uwX4 0 (by decide) rfl tw_218 rfl dX4_kit_125 ?_
                refine lv_iload_n C.1 C.2.1 dX4_kit_128 rfl (lv_at hl 1 rfl) ?_
                refine lv_iload_n C.1 C.2.1 dX4_kit_129 rfl (lv_at hl 2 rfl) ?_
                refine lv_iload_n C.1 C.2.1 dX4_kit_130 rfl (lv_at hl 3 rfl) ?_
                refine gw_fromI (w := pw G q) (u := u) C Hh (gw_runVN (n := 3) (C1 := RX1) [.int (nI (g)), .int (nI (t)), .int (nI (n))] C Hh (c_X1_addPart l G q (u) (g) (t) (n) (by first | assumption | omega) (by first | assumption | omega) (by first | assumption | omega) (by first | assumption | omega) _) tw_582 tw_584 tw_37 tw_67 tw_585 (by decide +kernel) ⟨Nat.le_of_ble_eq_true rfl, Nat.le_of_ble_eq_true rfl⟩ 1 pw_at1 rfl rfl hl.1 (Nat.le_of_ble_eq_true rfl) dX4_kit_131 ⟨Nat.zero_le _, Nat.zero_le _⟩) (fun rc_131 uc_131 H locs hp_131 Hh => ?_)
                obtain ⟨kc_131, rfl, hp_131⟩ := hp_131
                refine gx_ret ?_
                exact gw_iret (w := pw G q) (u := uc_131) C Hh dX4_kit_134 ⟨_, rfl, by rw [tn_eq hx_1 (by omega), tn_eq hx_5 (by omega), tn_eq hx_12 (by omega)]; exact ⟨(cdK_v hx_1 hj_1 hx_5 hj_5 hx_12 hj_12).trans ((pif_neg (fun h => by (rcases h with h | h | h | h | h | h | h; omega; omega; (rcases hk_31 with ⟨h9, -⟩ | ⟨-, h9⟩; omega; obtain ⟨j9, h1, h2⟩ := h; exact h9 j9 h1 h2); (rcases hk_52 with ⟨h9, -⟩ | ⟨-, h9⟩; omega; obtain ⟨g9, h0, j9, h1, h2⟩ := h; exact h9 g9 h0 j9 h1 h2); (rcases hk_63 with ⟨h9, -⟩ | ⟨-, h9⟩; omega; obtain ⟨o9, h0, h1⟩ := h; have := h9 o9 h0; omega); (rcases hk_74 with ⟨h9, -⟩ | ⟨-, h9⟩; omega; obtain ⟨a9, h0, h1⟩ := h; exact h9 a9 h0 h1); (rcases hk_85 with ⟨h9, -⟩ | ⟨-, h9⟩; omega; obtain ⟨a9, h0, h1⟩ := h; exact h9 a9 h0 h1)))).trans (if_pos (by omega))), hp_131.1, hp_131.2⟩⟩
              · skip
                exact gx_throw (w := pw G q) (u := u) (E := "java/lang/UnsupportedOperationException") (text := "no room for a part") (names := ["java/lang/RuntimeException", "java/lang/Exception"]) hst9 C X9 hex9 Hh hl.1 (by decide +kernel) (by decide +kernel) tw_382 tw_77 (by decide) ex_60_4 ex_60_5 ex_60_6 dX4_kit_114 dX4_kit_117 dX4_kit_118 dX4_kit_120 dX4_kit_123 ⟨Nat.le_of_ble_eq_true rfl, Nat.le_of_ble_eq_true rfl, Nat.le_of_ble_eq_true rfl, Nat.le_of_ble_eq_true rfl⟩ (by exact ⟨rfl, Or.inr (Or.inr ⟨rfl, (cdK_v hx_1 hj_1 hx_5 hj_5 hx_12 hj_12).trans ((pif_neg (fun h => by (rcases h with h | h | h | h | h | h | h; omega; omega; (rcases hk_31 with ⟨h9, -⟩ | ⟨-, h9⟩; omega; obtain ⟨j9, h1, h2⟩ := h; exact h9 j9 h1 h2); (rcases hk_52 with ⟨h9, -⟩ | ⟨-, h9⟩; omega; obtain ⟨g9, h0, j9, h1, h2⟩ := h; exact h9 g9 h0 j9 h1 h2); (rcases hk_63 with ⟨h9, -⟩ | ⟨-, h9⟩; omega; obtain ⟨o9, h0, h1⟩ := h; have := h9 o9 h0; omega); (rcases hk_74 with ⟨h9, -⟩ | ⟨-, h9⟩; omega; obtain ⟨a9, h0, h1⟩ := h; exact h9 a9 h0 h1); (rcases hk_85 with ⟨h9, -⟩ | ⟨-, h9⟩; omega; obtain ⟨a9, h0, h1⟩ := h; exact h9 a9 h0 h1)))).trans (if_neg (by omega)))⟩)⟩)
            · skip
              exact gx_throw (w := pw G q) (u := u) (E := "java/lang/IllegalStateException") (text := "the good is in use") (names := ["java/lang/RuntimeException", "java/lang/Exception"]) hst9 C X9 hex9 Hh hl.1 (by decide +kernel) (by decide +kernel) tw_366 tw_76 (by decide) ex_82_4 ex_82_5 ex_82_6 dX4_kit_91 dX4_kit_94 dX4_kit_95 dX4_kit_97 dX4_kit_100 ⟨Nat.le_of_ble_eq_true rfl, Nat.le_of_ble_eq_true rfl, Nat.le_of_ble_eq_true rfl, Nat.le_of_ble_eq_true rfl⟩ (by refine ⟨rfl, Or.inr (Or.inl ⟨rfl, (cdK_v hx_1 hj_1 hx_5 hj_5 hx_12 hj_12).trans (pif_pos (Or.inr (Or.inr (Or.inr ?_))))⟩)⟩; first | (rcases hk_85 with ⟨-, h⟩ | ⟨h, -⟩; refine Or.inr (Or.inr (Or.inr ?_)); exact h; omega) | (rcases hk_74 with ⟨-, h⟩ | ⟨h, -⟩; refine Or.inr (Or.inr (Or.inl ?_)); exact h; omega) | (rcases hk_63 with ⟨-, h⟩ | ⟨h, -⟩; refine Or.inr (Or.inl ?_); exact h; omega) | (rcases hk_52 with ⟨-, h⟩ | ⟨h, -⟩; refine Or.inl ?_; exact h; omega))
    · skip
      exact gx_throw (w := pw G q) (u := u) (E := "java/lang/IllegalStateException") (text := "the part is the good itself, or there already") (names := ["java/lang/RuntimeException", "java/lang/Exception"]) hst9 C X9 hex9 Hh hl.1 (by decide +kernel) (by decide +kernel) tw_366 tw_76 (by decide) ex_82_4 ex_82_5 ex_82_6 dX4_kit_37 dX4_kit_40 dX4_kit_41 dX4_kit_43 dX4_kit_46 ⟨Nat.le_of_ble_eq_true rfl, Nat.le_of_ble_eq_true rfl, Nat.le_of_ble_eq_true rfl, Nat.le_of_ble_eq_true rfl⟩ (by refine ⟨rfl, Or.inr (Or.inl ⟨rfl, (cdK_v hx_1 hj_1 hx_5 hj_5 hx_12 hj_12).trans (pif_pos (Or.inr ?_))⟩)⟩; first | exact Or.inl hc_22.symm | (rcases hk_31 with ⟨-, h⟩ | ⟨h, -⟩; exact Or.inr (Or.inl h); omega))
