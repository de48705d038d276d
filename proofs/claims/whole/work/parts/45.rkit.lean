theorem vw6 {u : md_S} {a g : Nat} (hg : g < 6) : (vw u).2 6 (a * 6 + g) = tbit (u.2.1 2 g) a := by
  show tbit (u.2.1 2 ((a * 6 + g) % 6)) ((a * 6 + g) / 6) = _
  rw [show (a * 6 + g) % 6 = g by omega, show (a * 6 + g) / 6 = a by omega]
theorem tb_ex {b : Nat} (h : b < 64) : b ≠ 0 ↔ ∃ k, k < 6 ∧ tbit b k = 1 := by
  constructor
  · intro h0
    refine Classical.byContradiction fun hn => h0 ?_
    apply Nat.eq_of_testBit_eq
    intro i
    rw [Nat.zero_testBit]
    by_cases q : i < 6
    · exact tb0' (fun e => hn ⟨i, q, e⟩)
    · exact Nat.testBit_lt_two_pow (Nat.lt_of_lt_of_le h (Nat.pow_le_pow_right (n := 2) (by decide) (by omega : 6 ≤ i)))
  · rintro ⟨k, -, h1⟩ h0
    rw [h0] at h1
    unfold tbit at h1
    rw [Nat.zero_testBit] at h1
    cases h1
theorem kt_iu {u : md_S} (hok : md_ok u) {g : Nat} (hg : g < 6) : kt_use (vw u) g ↔ ((∃ k, k < 6 ∧ ∃ j, j < u.2.1 3 k ∧ u.2.1 4 (3 * k + j) = g) ∨ iu u g 6 (u.1 1) (u.1 2)) := by
  have e1 : (∃ k, k < 6 ∧ ∃ j, j < (vw u).2 7 k ∧ (vw u).2 8 (k * 3 + j) = g) ↔ (∃ k, k < 6 ∧ ∃ j, j < u.2.1 3 k ∧ u.2.1 4 (3 * k + j) = g) := by
    constructor
    · rintro ⟨k, h1, j, h2, h3⟩
      exact ⟨k, h1, j, h2, by rw [Nat.mul_comm 3 k]; exact h3⟩
    · rintro ⟨k, h1, j, h2, h3⟩
      exact ⟨k, h1, j, h2, by rw [Nat.mul_comm 3 k] at h3; exact h3⟩
  have e2 : (∃ o, o < 6 ∧ (0 < (vw u).2 6 (g * 6 + o) ∨ 0 < (vw u).2 6 (o * 6 + g))) ↔ (u.2.1 2 g ≠ 0 ∨ ∃ k, k < 6 ∧ tbit (u.2.1 2 k) g = 1) := by
    rw [tb_ex (hok.2.1 g hg).2.1]
    constructor
    · rintro ⟨k, h1, h2 | h2⟩
      · rw [vw6 h1] at h2
        exact Or.inr ⟨k, h1, by have := tbit_le (u.2.1 2 k) g; omega⟩
      · rw [vw6 hg] at h2
        exact Or.inl ⟨k, h1, by have := tbit_le (u.2.1 2 g) k; omega⟩
    · rintro (⟨k, h1, h2⟩ | ⟨k, h1, h2⟩)
      · exact ⟨k, h1, Or.inr (by rw [vw6 hg]; omega)⟩
      · exact ⟨k, h1, Or.inl (by rw [vw6 h1]; omega)⟩
  unfold kt_use iu
  rw [e1, e2, or_assoc]
  exact Iff.rfl
set_option maxHeartbeats 4000000 in
set_option maxRecDepth 100000 in
theorem c_X5_standIn (l : Launch) (G : gw_G) (q : Nat → Nat) (u : md_S) (x : Int32) (y : Int32) (b : Nat) (hm : md2 u) (hb : b ≤ 1) : gw_MI l yX5_standIn cX5_standIn 4 (some .int) 4 99 [.ref (q 0), .int (x), .int (y), .int (nI (b))] G (mw G q) u (fun r u1 => ∃ k : Nat, r = nI k ∧ (rp (cdI (vw u) x y b) u u1 (k = rfallen u1 ∧ cv2 (rI u (tn x) (tn y) b) u1))) := by
  refine gw_entryI (own := RX5) (by decide) rfl (Nat.le_of_ble_eq_true rfl) ?_
  intro p e s m args below meth c A ls C Hh hl
  have hl : lv_has ls 4 [(0, .ref (q 0)), (1, .int (x)), (2, .int (y)), (3, .int (nI (b)))] := hl
  have hok := hm.1
  have hbd := hm.2
  have h01 := hok.1.1
  have h02 := hok.1.2
  refine lv_aload_n C.1 C.2.1 dX5_standIn_0 rfl (lv_at hl 0 rfl) ?_
  refine lv_iload_n C.1 C.2.1 dX5_standIn_1 rfl (lv_at hl 1 rfl) ?_
  refine gw_fromI (w := mw G q) (u := u) C Hh (gw_runS (n := 1) [.int (x)] C Hh (c_X5_isGood l G q (u) (x)  _) tw_823 tw_824 tw_71 tw_825 (by decide +kernel) ⟨Nat.le_of_ble_eq_true rfl, Nat.le_of_ble_eq_true rfl⟩ rfl hl.1 (Nat.le_of_ble_eq_true rfl) dX5_standIn_2 ⟨Nat.zero_le _, Nat.zero_le _⟩) (fun rc_2 uc_2 H locs hp_2 Hh => ?_)
  obtain ⟨kc_2, rfl, hp_2⟩ := hp_2
  obtain ⟨hk_2, hu_2⟩ := hp_2
  rw [hu_2] at Hh
  clear hu_2
  refine gw_if_eq (tgt := 20) C dX5_standIn_5 (by decide) (by rw [hk_2]; exact Nat.lt_of_le_of_lt (pif_le _) (by decide)) (fun hc_5 => ?_) (fun hc_5 => ?_)
  · skip
    refine lv_iconst (v := nI 1) C.1 C.2.1 dX5_standIn_20 (by decide +kernel) ?_
    refine lv_goto (tgt := 67) C.1 C.2.1 dX5_standIn_21 (by decide) ?_
    refine gw_put (Cn := RX5) (T := TX5) (N := 29) (ty0 := tyX5) (v := nI (1)) C Hh 0 mw_at0 rfl uwX5 tyX5_ok nmX5 0 (by decide) rfl tw_723 rfl (by decide +kernel) (Nat.le_of_ble_eq_true rfl) mw_num0 dX5_standIn_67 (fun H locs Hh => ?_)
    refine lv_aload_n C.1 C.2.1 dX5_standIn_70 rfl (lv_at hl 0 rfl) ?_
    refine gw_get (Cn := RX5) (T := TX5) (N := 29) C Hh 0 mw_at0 rfl uwX5 0 (by decide) rfl tw_723 rfl dX5_standIn_71 ?_
    refine W.eq (g2 := F0 m 74 ls [.int (nI (1))]) rfl ?_
    refine gw_if_le (tgt := 79) C dX5_standIn_74 (by decide) (by omega) (fun hc_74 => ?_) (fun hc_74 => ?_)
    · skip
      exact absurd hc_74 (by decide)
    · skip
      refine lv_iconst (v := nI 0) C.1 C.2.1 dX5_standIn_77 (by decide +kernel) ?_
      exact gw_iret (w := mw G q) (u := (up1 u.1 0 (1), u.2.1, u.2.2)) C Hh dX5_standIn_78 ⟨_, rfl, by first | exact rp_n (cdI_1 (fun h => h.2.2 (Classical.byContradiction hc_17))) (by decide) rfl | exact rp_n (cdI_1 (fun h => h.2.2 hc_17)) (by decide) rfl | exact rp_n (hv9.trans (if_pos (by split at hk_34 <;> split at hk_26 <;> omega))) (by decide) rfl | exact rp_n (hv9.trans (if_pos (by split at hk_26 <;> omega))) (by decide) rfl | exact rp_n (cdI_1 (fun h => pif_0 (by rw [← hk_9]; exact hc_12) h.2.1)) (by decide) rfl | exact rp_n (cdI_1 (fun h => pif_0 (by rw [← hk_2]; exact hc_5) h.1)) (by decide) rfl⟩
  · skip
    refine lv_iload_n C.1 C.2.1 dX5_standIn_8 rfl (lv_at hl 2 rfl) ?_
    refine gw_fromI (w := mw G q) (u := u) C Hh (gw_runS (n := 1) [.int (y)] C Hh (c_X5_isGood l G q (u) (y)  _) tw_823 tw_824 tw_71 tw_825 (by decide +kernel) ⟨Nat.le_of_ble_eq_true rfl, Nat.le_of_ble_eq_true rfl⟩ rfl hl.1 (Nat.le_of_ble_eq_true rfl) dX5_standIn_9 ⟨Nat.zero_le _, Nat.zero_le _⟩) (fun rc_9 uc_9 H locs hp_9 Hh => ?_)
    obtain ⟨kc_9, rfl, hp_9⟩ := hp_9
    obtain ⟨hk_9, hu_9⟩ := hp_9
    rw [hu_9] at Hh
    clear hu_9
    refine gw_if_eq (tgt := 20) C dX5_standIn_12 (by decide) (by rw [hk_9]; exact Nat.lt_of_le_of_lt (pif_le _) (by decide)) (fun hc_12 => ?_) (fun hc_12 => ?_)
    · skip
      refine lv_iconst (v := nI 1) C.1 C.2.1 dX5_standIn_20 (by decide +kernel) ?_
      refine lv_goto (tgt := 67) C.1 C.2.1 dX5_standIn_21 (by decide) ?_
      refine gw_put (Cn := RX5) (T := TX5) (N := 29) (ty0 := tyX5) (v := nI (1)) C Hh 0 mw_at0 rfl uwX5 tyX5_ok nmX5 0 (by decide) rfl tw_723 rfl (by decide +kernel) (Nat.le_of_ble_eq_true rfl) mw_num0 dX5_standIn_67 (fun H locs Hh => ?_)
      refine lv_aload_n C.1 C.2.1 dX5_standIn_70 rfl (lv_at hl 0 rfl) ?_
      refine gw_get (Cn := RX5) (T := TX5) (N := 29) C Hh 0 mw_at0 rfl uwX5 0 (by decide) rfl tw_723 rfl dX5_standIn_71 ?_
      refine W.eq (g2 := F0 m 74 ls [.int (nI (1))]) rfl ?_
      refine gw_if_le (tgt := 79) C dX5_standIn_74 (by decide) (by omega) (fun hc_74 => ?_) (fun hc_74 => ?_)
      · skip
        exact absurd hc_74 (by decide)
      · skip
        refine lv_iconst (v := nI 0) C.1 C.2.1 dX5_standIn_77 (by decide +kernel) ?_
        exact gw_iret (w := mw G q) (u := (up1 u.1 0 (1), u.2.1, u.2.2)) C Hh dX5_standIn_78 ⟨_, rfl, by first | exact rp_n (cdI_1 (fun h => h.2.2 (Classical.byContradiction hc_17))) (by decide) rfl | exact rp_n (cdI_1 (fun h => h.2.2 hc_17)) (by decide) rfl | exact rp_n (hv9.trans (if_pos (by split at hk_34 <;> split at hk_26 <;> omega))) (by decide) rfl | exact rp_n (hv9.trans (if_pos (by split at hk_26 <;> omega))) (by decide) rfl | exact rp_n (cdI_1 (fun h => pif_0 (by rw [← hk_9]; exact hc_12) h.2.1)) (by decide) rfl | exact rp_n (cdI_1 (fun h => pif_0 (by rw [← hk_2]; exact hc_5) h.1)) (by decide) rfl⟩
    · skip
      refine lv_iload_n C.1 C.2.1 dX5_standIn_15 rfl (lv_at hl 1 rfl) ?_
      refine lv_iload_n C.1 C.2.1 dX5_standIn_16 rfl (lv_at hl 2 rfl) ?_
      refine lv_icmp_ne (tgt := 24) C.1 C.2.1 dX5_standIn_17 (by decide) (fun hc_17 => ?_) (fun hc_17 => ?_)
      · skip
        obtain ⟨a, hx_a, hj_a⟩ := ir_n (hc := hc_5) hk_2
        rw [hx_a] at hl
        obtain ⟨g, hx_g, hj_g⟩ := ir_n (hc := hc_12) hk_9
        rw [hx_g] at hl
        have ha6 : a < 6 := by omega
        have hg6 : g < 6 := by omega
        have ha9 := hok.2.1 a ha6
        have hg9 := hok.2.1 g hg6
        have hne9 : a ≠ g := fun e => hc_17 (by rw [hx_a, hx_g, e])
        have tb9 := tbit_le (u.2.1 2 g) a
        have hv9 : cdI (vw u) x y b = if 0 < u.2.1 3 a ∨ 0 < u.2.1 3 g ∨ tbit (u.2.1 2 g) a = b then 2 else 0 := by (have q9 := cdI_v (u := vw u) (b := b) hx_a ha6 hx_g hg6 hne9; rw [vw6 hg6] at q9; exact q9)
        refine lv_aload_n C.1 C.2.1 dX5_standIn_24 rfl (lv_at hl 0 rfl) ?_
        refine lv_iload_n C.1 C.2.1 dX5_standIn_25 rfl (lv_at hl 1 rfl) ?_
        refine gw_fromI (w := mw G q) (u := u) C Hh (gw_runV (n := 1) (C1 := RX5) [.int (nI (a))] C Hh (c_X5_isKit l G q (u) (a) (by exact hok) (by first | assumption | omega) _) tw_827 tw_829 tw_48 tw_71 tw_830 (by decide +kernel) ⟨Nat.le_of_ble_eq_true rfl, Nat.le_of_ble_eq_true rfl⟩ 0 mw_at0 rfl rfl hl.1 (Nat.le_of_ble_eq_true rfl) dX5_standIn_26 ⟨Nat.zero_le _, Nat.zero_le _⟩) (fun rc_26 uc_26 H locs hp_26 Hh => ?_)
        obtain ⟨kc_26, rfl, hp_26⟩ := hp_26
        obtain ⟨hk_26, hu_26⟩ := hp_26
        rw [hu_26] at Hh
        clear hu_26
        refine gw_if_ne (tgt := 62) C dX5_standIn_29 (by decide) (by split at hk_26 <;> omega) (fun hc_29 => ?_) (fun hc_29 => ?_)
        · skip
          refine lv_iconst (v := nI 2) C.1 C.2.1 dX5_standIn_62 (by decide +kernel) ?_
          refine lv_goto (tgt := 67) C.1 C.2.1 dX5_standIn_63 (by decide) ?_
          refine gw_put (Cn := RX5) (T := TX5) (N := 29) (ty0 := tyX5) (v := nI (2)) C Hh 0 mw_at0 rfl uwX5 tyX5_ok nmX5 0 (by decide) rfl tw_723 rfl (by decide +kernel) (Nat.le_of_ble_eq_true rfl) mw_num0 dX5_standIn_67 (fun H locs Hh => ?_)
          refine lv_aload_n C.1 C.2.1 dX5_standIn_70 rfl (lv_at hl 0 rfl) ?_
          refine gw_get (Cn := RX5) (T := TX5) (N := 29) C Hh 0 mw_at0 rfl uwX5 0 (by decide) rfl tw_723 rfl dX5_standIn_71 ?_
          refine W.eq (g2 := F0 m 74 ls [.int (nI (2))]) rfl ?_
          refine gw_if_le (tgt := 79) C dX5_standIn_74 (by decide) (by omega) (fun hc_74 => ?_) (fun hc_74 => ?_)
          · skip
            exact absurd hc_74 (by decide)
          · skip
            refine lv_iconst (v := nI 0) C.1 C.2.1 dX5_standIn_77 (by decide +kernel) ?_
            exact gw_iret (w := mw G q) (u := (up1 u.1 0 (2), u.2.1, u.2.2)) C Hh dX5_standIn_78 ⟨_, rfl, by first | exact rp_n (cdI_1 (fun h => h.2.2 (Classical.byContradiction hc_17))) (by decide) rfl | exact rp_n (cdI_1 (fun h => h.2.2 hc_17)) (by decide) rfl | exact rp_n (hv9.trans (if_pos (by split at hk_34 <;> split at hk_26 <;> omega))) (by decide) rfl | exact rp_n (hv9.trans (if_pos (by split at hk_26 <;> omega))) (by decide) rfl | exact rp_n (cdI_1 (fun h => pif_0 (by rw [← hk_9]; exact hc_12) h.2.1)) (by decide) rfl | exact rp_n (cdI_1 (fun h => pif_0 (by rw [← hk_2]; exact hc_5) h.1)) (by decide) rfl⟩
        · skip
          refine lv_aload_n C.1 C.2.1 dX5_standIn_32 rfl (lv_at hl 0 rfl) ?_
          refine lv_iload_n C.1 C.2.1 dX5_standIn_33 rfl (lv_at hl 2 rfl) ?_
          refine gw_fromI (w := mw G q) (u := u) C Hh (gw_runV (n := 1) (C1 := RX5) [.int (nI (g))] C Hh (c_X5_isKit l G q (u) (g) (by exact hok) (by first | assumption | omega) _) tw_827 tw_829 tw_48 tw_71 tw_830 (by decide +kernel) ⟨Nat.le_of_ble_eq_true rfl, Nat.le_of_ble_eq_true rfl⟩ 0 mw_at0 rfl rfl hl.1 (Nat.le_of_ble_eq_true rfl) dX5_standIn_34 ⟨Nat.zero_le _, Nat.zero_le _⟩) (fun rc_34 uc_34 H locs hp_34 Hh => ?_)
          obtain ⟨kc_34, rfl, hp_34⟩ := hp_34
          obtain ⟨hk_34, hu_34⟩ := hp_34
          rw [hu_34] at Hh
          clear hu_34
          refine gw_if_ne (tgt := 62) C dX5_standIn_37 (by decide) (by split at hk_34 <;> omega) (fun hc_37 => ?_) (fun hc_37 => ?_)
          · skip
            refine lv_iconst (v := nI 2) C.1 C.2.1 dX5_standIn_62 (by decide +kernel) ?_
            refine lv_goto (tgt := 67) C.1 C.2.1 dX5_standIn_63 (by decide) ?_
            refine gw_put (Cn := RX5) (T := TX5) (N := 29) (ty0 := tyX5) (v := nI (2)) C Hh 0 mw_at0 rfl uwX5 tyX5_ok nmX5 0 (by decide) rfl tw_723 rfl (by decide +kernel) (Nat.le_of_ble_eq_true rfl) mw_num0 dX5_standIn_67 (fun H locs Hh => ?_)
            refine lv_aload_n C.1 C.2.1 dX5_standIn_70 rfl (lv_at hl 0 rfl) ?_
            refine gw_get (Cn := RX5) (T := TX5) (N := 29) C Hh 0 mw_at0 rfl uwX5 0 (by decide) rfl tw_723 rfl dX5_standIn_71 ?_
            refine W.eq (g2 := F0 m 74 ls [.int (nI (2))]) rfl ?_
            refine gw_if_le (tgt := 79) C dX5_standIn_74 (by decide) (by omega) (fun hc_74 => ?_) (fun hc_74 => ?_)
            · skip
              exact absurd hc_74 (by decide)
            · skip
              refine lv_iconst (v := nI 0) C.1 C.2.1 dX5_standIn_77 (by decide +kernel) ?_
              exact gw_iret (w := mw G q) (u := (up1 u.1 0 (2), u.2.1, u.2.2)) C Hh dX5_standIn_78 ⟨_, rfl, by first | exact rp_n (cdI_1 (fun h => h.2.2 (Classical.byContradiction hc_17))) (by decide) rfl | exact rp_n (cdI_1 (fun h => h.2.2 hc_17)) (by decide) rfl | exact rp_n (hv9.trans (if_pos (by split at hk_34 <;> split at hk_26 <;> omega))) (by decide) rfl | exact rp_n (hv9.trans (if_pos (by split at hk_26 <;> omega))) (by decide) rfl | exact rp_n (cdI_1 (fun h => pif_0 (by rw [← hk_9]; exact hc_12) h.2.1)) (by decide) rfl | exact rp_n (cdI_1 (fun h => pif_0 (by rw [← hk_2]; exact hc_5) h.1)) (by decide) rfl⟩
          · skip
            refine lv_aload_n C.1 C.2.1 dX5_standIn_40 rfl (lv_at hl 0 rfl) ?_
            refine gw_get (Cn := RX5) (T := TX5) (N := 29) C Hh 0 mw_at0 rfl uwX5 2 (by decide) rfl tw_725 rfl dX5_standIn_41 ?_
            refine lv_iload_n C.1 C.2.1 dX5_standIn_44 rfl (lv_at hl 2 rfl) ?_
            refine gw_ld C Hh 2 mw_at2 (by decide) dX5_standIn_45 (by omega) ?_
            refine lv_iload_n C.1 C.2.1 dX5_standIn_46 rfl (lv_at hl 1 rfl) ?_
            refine lv_ishr C.1 C.2.1 dX5_standIn_47 ?_
            refine lv_iconst (v := nI 1) C.1 C.2.1 dX5_standIn_48 (by decide +kernel) ?_
            refine gw_and1 C dX5_standIn_49 (by omega) ?_
            refine lv_iload_n C.1 C.2.1 dX5_standIn_50 rfl (lv_at hl 3 rfl) ?_
            refine gw_if_eq (tgt := 58) C dX5_standIn_51 (by decide) (by omega) (fun hc_51 => ?_) (fun hc_51 => ?_)
            · skip
              refine lv_iconst (v := nI 0) C.1 C.2.1 dX5_standIn_58 (by decide +kernel) ?_
              refine gw_icmp_ne (tgt := 66) C dX5_standIn_59 (by decide) (by omega) (by omega) (fun hc_59 => ?_) (fun hc_59 => ?_)
              · skip
                refine lv_iconst (v := nI 0) C.1 C.2.1 dX5_standIn_66 (by decide +kernel) ?_
                refine gw_put (Cn := RX5) (T := TX5) (N := 29) (ty0 := tyX5) (v := nI (0)) C Hh 0 mw_at0 rfl uwX5 tyX5_ok nmX5 0 (by decide) rfl tw_723 rfl (by decide +kernel) (Nat.le_of_ble_eq_true rfl) mw_num0 dX5_standIn_67 (fun H locs Hh => ?_)
                refine lv_aload_n C.1 C.2.1 dX5_standIn_70 rfl (lv_at hl 0 rfl) ?_
                refine gw_get (Cn := RX5) (T := TX5) (N := 29) C Hh 0 mw_at0 rfl uwX5 0 (by decide) rfl tw_723 rfl dX5_standIn_71 ?_
                refine W.eq (g2 := F0 m 74 ls [.int (nI (0))]) rfl ?_
                refine gw_if_le (tgt := 79) C dX5_standIn_74 (by decide) (by omega) (fun hc_74 => ?_) (fun hc_74 => ?_)
                · skip
                  refine lv_aload_n C.1 C.2.1 dX5_standIn_79 rfl (lv_at hl 0 rfl) ?_
                  refine gw_get (Cn := RX5) (T := TX5) (N := 29) C Hh 0 mw_at0 rfl uwX5 2 (by decide) rfl tw_725 rfl dX5_standIn_80 ?_
                  refine lv_iload_n C.1 C.2.1 dX5_standIn_83 rfl (lv_at hl 2 rfl) ?_
                  refine lv_iload_n C.1 C.2.1 dX5_standIn_84 rfl (lv_at hl 3 rfl) ?_
                  refine gw_if_eq (tgt := 101) C dX5_standIn_85 (by decide) (by omega) (fun hc_85 => ?_) (fun hc_85 => ?_)
                  · skip
                    refine lv_aload_n C.1 C.2.1 dX5_standIn_101 rfl (lv_at hl 0 rfl) ?_
                    refine gw_get (Cn := RX5) (T := TX5) (N := 29) C Hh 0 mw_at0 rfl uwX5 2 (by decide) rfl tw_725 rfl dX5_standIn_102 ?_
                    refine lv_iload_n C.1 C.2.1 dX5_standIn_105 rfl (lv_at hl 2 rfl) ?_
                    refine gw_ld C Hh 2 mw_at2 (by decide) dX5_standIn_106 (by omega) ?_
                    refine W.eq (g2 := F0 m 107 ls [.int (nI (u.2.1 2 (g))), .int (nI (g)), .ref (q 2)]) rfl ?_
                    refine lv_iconst (v := nI 1) C.1 C.2.1 dX5_standIn_107 (by decide +kernel) ?_
                    refine lv_iload_n C.1 C.2.1 dX5_standIn_108 rfl (lv_at hl 1 rfl) ?_
                    refine gw_ishl C dX5_standIn_109 (by omega) ?_
                    refine lv_iconst (v := nI 4294967295) C.1 C.2.1 dX5_standIn_110 (by decide +kernel) ?_
                    refine gw_ixor C dX5_standIn_111 ?_
                    refine gw_iand C dX5_standIn_112 ?_
                    refine gw_st C Hh 2 mw_at2 (by decide) mw_set2 dX5_standIn_113 (by omega) (fun H locs Hh => ?_)
                    have Hh : gw_H G A s (mw G q (up1 u.1 0 (0), up2 u.2.1 2 (g) ((u.2.1 2 (g)) &&& ((1 <<< a) ^^^ 4294967295)), u.2.2)) H locs := Hh
                    refine lv_aload_n C.1 C.2.1 dX5_standIn_114 rfl (lv_at hl 0 rfl) ?_
                    refine gw_fromI (w := mw G q) (u := (up1 u.1 0 (0), up2 u.2.1 2 (g) ((u.2.1 2 (g)) &&& ((1 <<< a) ^^^ 4294967295)), u.2.2)) C Hh (gw_runV (n := 0) (C1 := RX5) [] C Hh (c_X5_cover l G q ((up1 u.1 0 (0), up2 u.2.1 2 (g) ((u.2.1 2 (g)) &&& ((1 <<< a) ^^^ 4294967295)), u.2.2))  (by have q9 := rI_ok hm (a := a) (g := g) (b := b) (by omega) (by omega); unfold rI at q9; first | (rw [if_pos hc_85] at q9; exact q9.1) | (rw [if_neg (by omega)] at q9; exact q9.1)) (by have q9 := rI_ok hm (a := a) (g := g) (b := b) (by omega) (by omega); unfold rI at q9; first | (rw [if_pos hc_85] at q9; exact q9.2) | (rw [if_neg (by omega)] at q9; exact q9.2)) _) tw_831 tw_833 tw_49 tw_71 tw_834 (by decide +kernel) ⟨Nat.le_of_ble_eq_true rfl, Nat.le_of_ble_eq_true rfl⟩ 0 mw_at0 rfl rfl hl.1 (Nat.le_of_ble_eq_true rfl) dX5_standIn_115 ⟨Nat.zero_le _, Nat.zero_le _⟩) (fun rc_115 uc_115 H locs hp_115 Hh => ?_)
                    obtain ⟨kc_115, rfl, hp_115⟩ := hp_115
                    exact gw_iret (w := mw G q) (u := uc_115) C Hh dX5_standIn_118 ⟨_, rfl, by refine rp_y (hv9.trans (if_neg (by split at hk_34 <;> split at hk_26 <;> omega))) (cv_code hp_115.1 rfl) ⟨cv_fallen hp_115, ?_⟩; rw [tn_eq hx_a (by omega), tn_eq hx_g (by omega)]; unfold rI; first | (rw [if_pos hc_85]; exact ⟨hp_115.1, hp_115.2.1⟩) | (rw [if_neg (by omega)]; exact ⟨hp_115.1, hp_115.2.1⟩)⟩
                  · skip
                    refine lv_aload_n C.1 C.2.1 dX5_standIn_88 rfl (lv_at hl 0 rfl) ?_
                    refine gw_get (Cn := RX5) (T := TX5) (N := 29) C Hh 0 mw_at0 rfl uwX5 2 (by decide) rfl tw_725 rfl dX5_standIn_89 ?_
                    refine lv_iload_n C.1 C.2.1 dX5_standIn_92 rfl (lv_at hl 2 rfl) ?_
                    refine gw_ld C Hh 2 mw_at2 (by decide) dX5_standIn_93 (by omega) ?_
                    refine W.eq (g2 := F0 m 94 ls [.int (nI (u.2.1 2 (g))), .int (nI (g)), .ref (q 2)]) rfl ?_
                    refine lv_iconst (v := nI 1) C.1 C.2.1 dX5_standIn_94 (by decide +kernel) ?_
                    refine lv_iload_n C.1 C.2.1 dX5_standIn_95 rfl (lv_at hl 1 rfl) ?_
                    refine gw_ishl C dX5_standIn_96 (by omega) ?_
                    refine gw_ior C dX5_standIn_97 ?_
                    refine lv_goto (tgt := 113) C.1 C.2.1 dX5_standIn_98 (by decide) ?_
                    refine gw_st C Hh 2 mw_at2 (by decide) mw_set2 dX5_standIn_113 (by omega) (fun H locs Hh => ?_)
                    have Hh : gw_H G A s (mw G q (up1 u.1 0 (0), up2 u.2.1 2 (g) ((u.2.1 2 (g)) ||| (1 <<< a)), u.2.2)) H locs := Hh
                    refine lv_aload_n C.1 C.2.1 dX5_standIn_114 rfl (lv_at hl 0 rfl) ?_
                    refine gw_fromI (w := mw G q) (u := (up1 u.1 0 (0), up2 u.2.1 2 (g) ((u.2.1 2 (g)) ||| (1 <<< a)), u.2.2)) C Hh (gw_runV (n := 0) (C1 := RX5) [] C Hh (c_X5_cover l G q ((up1 u.1 0 (0), up2 u.2.1 2 (g) ((u.2.1 2 (g)) ||| (1 <<< a)), u.2.2))  (by have q9 := rI_ok hm (a := a) (g := g) (b := b) (by omega) (by omega); unfold rI at q9; first | (rw [if_pos hc_85] at q9; exact q9.1) | (rw [if_neg (by omega)] at q9; exact q9.1)) (by have q9 := rI_ok hm (a := a) (g := g) (b := b) (by omega) (by omega); unfold rI at q9; first | (rw [if_pos hc_85] at q9; exact q9.2) | (rw [if_neg (by omega)] at q9; exact q9.2)) _) tw_831 tw_833 tw_49 tw_71 tw_834 (by decide +kernel) ⟨Nat.le_of_ble_eq_true rfl, Nat.le_of_ble_eq_true rfl⟩ 0 mw_at0 rfl rfl hl.1 (Nat.le_of_ble_eq_true rfl) dX5_standIn_115 ⟨Nat.zero_le _, Nat.zero_le _⟩) (fun rc_115 uc_115 H locs hp_115 Hh => ?_)
                    obtain ⟨kc_115, rfl, hp_115⟩ := hp_115
                    exact gw_iret (w := mw G q) (u := uc_115) C Hh dX5_standIn_118 ⟨_, rfl, by refine rp_y (hv9.trans (if_neg (by split at hk_34 <;> split at hk_26 <;> omega))) (cv_code hp_115.1 rfl) ⟨cv_fallen hp_115, ?_⟩; rw [tn_eq hx_a (by omega), tn_eq hx_g (by omega)]; unfold rI; first | (rw [if_pos hc_85]; exact ⟨hp_115.1, hp_115.2.1⟩) | (rw [if_neg (by omega)]; exact ⟨hp_115.1, hp_115.2.1⟩)⟩
                · skip
                  exact absurd hc_74 (by decide)
              · skip
                refine lv_iconst (v := nI 2) C.1 C.2.1 dX5_standIn_62 (by decide +kernel) ?_
                refine lv_goto (tgt := 67) C.1 C.2.1 dX5_standIn_63 (by decide) ?_
                refine gw_put (Cn := RX5) (T := TX5) (N := 29) (ty0 := tyX5) (v := nI (2)) C Hh 0 mw_at0 rfl uwX5 tyX5_ok nmX5 0 (by decide) rfl tw_723 rfl (by decide +kernel) (Nat.le_of_ble_eq_true rfl) mw_num0 dX5_standIn_67 (fun H locs Hh => ?_)
                refine lv_aload_n C.1 C.2.1 dX5_standIn_70 rfl (lv_at hl 0 rfl) ?_
                refine gw_get (Cn := RX5) (T := TX5) (N := 29) C Hh 0 mw_at0 rfl uwX5 0 (by decide) rfl tw_723 rfl dX5_standIn_71 ?_
                refine W.eq (g2 := F0 m 74 ls [.int (nI (2))]) rfl ?_
                refine gw_if_le (tgt := 79) C dX5_standIn_74 (by decide) (by omega) (fun hc_74 => ?_) (fun hc_74 => ?_)
                · skip
                  exact absurd hc_74 (by decide)
                · skip
                  refine lv_iconst (v := nI 0) C.1 C.2.1 dX5_standIn_77 (by decide +kernel) ?_
                  exact gw_iret (w := mw G q) (u := (up1 u.1 0 (2), u.2.1, u.2.2)) C Hh dX5_standIn_78 ⟨_, rfl, by first | exact rp_n (cdI_1 (fun h => h.2.2 (Classical.byContradiction hc_17))) (by decide) rfl | exact rp_n (cdI_1 (fun h => h.2.2 hc_17)) (by decide) rfl | exact rp_n (hv9.trans (if_pos (by split at hk_34 <;> split at hk_26 <;> omega))) (by decide) rfl | exact rp_n (hv9.trans (if_pos (by split at hk_26 <;> omega))) (by decide) rfl | exact rp_n (cdI_1 (fun h => pif_0 (by rw [← hk_9]; exact hc_12) h.2.1)) (by decide) rfl | exact rp_n (cdI_1 (fun h => pif_0 (by rw [← hk_2]; exact hc_5) h.1)) (by decide) rfl⟩
            · skip
              refine lv_iconst (v := nI 1) C.1 C.2.1 dX5_standIn_54 (by decide +kernel) ?_
              refine lv_goto (tgt := 59) C.1 C.2.1 dX5_standIn_55 (by decide) ?_
              refine gw_icmp_ne (tgt := 66) C dX5_standIn_59 (by decide) (by omega) (by omega) (fun hc_59 => ?_) (fun hc_59 => ?_)
              · skip
                refine lv_iconst (v := nI 0) C.1 C.2.1 dX5_standIn_66 (by decide +kernel) ?_
                refine gw_put (Cn := RX5) (T := TX5) (N := 29) (ty0 := tyX5) (v := nI (0)) C Hh 0 mw_at0 rfl uwX5 tyX5_ok nmX5 0 (by decide) rfl tw_723 rfl (by decide +kernel) (Nat.le_of_ble_eq_true rfl) mw_num0 dX5_standIn_67 (fun H locs Hh => ?_)
                refine lv_aload_n C.1 C.2.1 dX5_standIn_70 rfl (lv_at hl 0 rfl) ?_
                refine gw_get (Cn := RX5) (T := TX5) (N := 29) C Hh 0 mw_at0 rfl uwX5 0 (by decide) rfl tw_723 rfl dX5_standIn_71 ?_
                refine W.eq (g2 := F0 m 74 ls [.int (nI (0))]) rfl ?_
                refine gw_if_le (tgt := 79) C dX5_standIn_74 (by decide) (by omega) (fun hc_74 => ?_) (fun hc_74 => ?_)
                · skip
                  refine lv_aload_n C.1 C.2.1 dX5_standIn_79 rfl (lv_at hl 0 rfl) ?_
                  refine gw_get (Cn := RX5) (T := TX5) (N := 29) C Hh 0 mw_at0 rfl uwX5 2 (by decide) rfl tw_725 rfl dX5_standIn_80 ?_
                  refine lv_iload_n C.1 C.2.1 dX5_standIn_83 rfl (lv_at hl 2 rfl) ?_
                  refine lv_iload_n C.1 C.2.1 dX5_standIn_84 rfl (lv_at hl 3 rfl) ?_
                  refine gw_if_eq (tgt := 101) C dX5_standIn_85 (by decide) (by omega) (fun hc_85 => ?_) (fun hc_85 => ?_)
                  · skip
                    refine lv_aload_n C.1 C.2.1 dX5_standIn_101 rfl (lv_at hl 0 rfl) ?_
                    refine gw_get (Cn := RX5) (T := TX5) (N := 29) C Hh 0 mw_at0 rfl uwX5 2 (by decide) rfl tw_725 rfl dX5_standIn_102 ?_
                    refine lv_iload_n C.1 C.2.1 dX5_standIn_105 rfl (lv_at hl 2 rfl) ?_
                    refine gw_ld C Hh 2 mw_at2 (by decide) dX5_standIn_106 (by omega) ?_
                    refine W.eq (g2 := F0 m 107 ls [.int (nI (u.2.1 2 (g))), .int (nI (g)), .ref (q 2)]) rfl ?_
                    refine lv_iconst (v := nI 1) C.1 C.2.1 dX5_standIn_107 (by decide +kernel) ?_
                    refine lv_iload_n C.1 C.2.1 dX5_standIn_108 rfl (lv_at hl 1 rfl) ?_
                    refine gw_ishl C dX5_standIn_109 (by omega) ?_
                    refine lv_iconst (v := nI 4294967295) C.1 C.2.1 dX5_standIn_110 (by decide +kernel) ?_
                    refine gw_ixor C dX5_standIn_111 ?_
                    refine gw_iand C dX5_standIn_112 ?_
                    refine gw_st C Hh 2 mw_at2 (by decide) mw_set2 dX5_standIn_113 (by omega) (fun H locs Hh => ?_)
                    have Hh : gw_H G A s (mw G q (up1 u.1 0 (0), up2 u.2.1 2 (g) ((u.2.1 2 (g)) &&& ((1 <<< a) ^^^ 4294967295)), u.2.2)) H locs := Hh
                    refine lv_aload_n C.1 C.2.1 dX5_standIn_114 rfl (lv_at hl 0 rfl) ?_
                    refine gw_fromI (w := mw G q) (u := (up1 u.1 0 (0), up2 u.2.1 2 (g) ((u.2.1 2 (g)) &&& ((1 <<< a) ^^^ 4294967295)), u.2.2)) C Hh (gw_runV (n := 0) (C1 := RX5) [] C Hh (c_X5_cover l G q ((up1 u.1 0 (0), up2 u.2.1 2 (g) ((u.2.1 2 (g)) &&& ((1 <<< a) ^^^ 4294967295)), u.2.2))  (by have q9 := rI_ok hm (a := a) (g := g) (b := b) (by omega) (by omega); unfold rI at q9; first | (rw [if_pos hc_85] at q9; exact q9.1) | (rw [if_neg (by omega)] at q9; exact q9.1)) (by have q9 := rI_ok hm (a := a) (g := g) (b := b) (by omega) (by omega); unfold rI at q9; first | (rw [if_pos hc_85] at q9; exact q9.2) | (rw [if_neg (by omega)] at q9; exact q9.2)) _) tw_831 tw_833 tw_49 tw_71 tw_834 (by decide +kernel) ⟨Nat.le_of_ble_eq_true rfl, Nat.le_of_ble_eq_true rfl⟩ 0 mw_at0 rfl rfl hl.1 (Nat.le_of_ble_eq_true rfl) dX5_standIn_115 ⟨Nat.zero_le _, Nat.zero_le _⟩) (fun rc_115 uc_115 H locs hp_115 Hh => ?_)
                    obtain ⟨kc_115, rfl, hp_115⟩ := hp_115
                    exact gw_iret (w := mw G q) (u := uc_115) C Hh dX5_standIn_118 ⟨_, rfl, by refine rp_y (hv9.trans (if_neg (by split at hk_34 <;> split at hk_26 <;> omega))) (cv_code hp_115.1 rfl) ⟨cv_fallen hp_115, ?_⟩; rw [tn_eq hx_a (by omega), tn_eq hx_g (by omega)]; unfold rI; first | (rw [if_pos hc_85]; exact ⟨hp_115.1, hp_115.2.1⟩) | (rw [if_neg (by omega)]; exact ⟨hp_115.1, hp_115.2.1⟩)⟩
                  · skip
                    refine lv_aload_n C.1 C.2.1 dX5_standIn_88 rfl (lv_at hl 0 rfl) ?_
                    refine gw_get (Cn := RX5) (T := TX5) (N := 29) C Hh 0 mw_at0 rfl uwX5 2 (by decide) rfl tw_725 rfl dX5_standIn_89 ?_
                    refine lv_iload_n C.1 C.2.1 dX5_standIn_92 rfl (lv_at hl 2 rfl) ?_
                    refine gw_ld C Hh 2 mw_at2 (by decide) dX5_standIn_93 (by omega) ?_
                    refine W.eq (g2 := F0 m 94 ls [.int (nI (u.2.1 2 (g))), .int (nI (g)), .ref (q 2)]) rfl ?_
                    refine lv_iconst (v := nI 1) C.1 C.2.1 dX5_standIn_94 (by decide +kernel) ?_
                    refine lv_iload_n C.1 C.2.1 dX5_standIn_95 rfl (lv_at hl 1 rfl) ?_
                    refine gw_ishl C dX5_standIn_96 (by omega) ?_
                    refine gw_ior C dX5_standIn_97 ?_
                    refine lv_goto (tgt := 113) C.1 C.2.1 dX5_standIn_98 (by decide) ?_
                    refine gw_st C Hh 2 mw_at2 (by decide) mw_set2 dX5_standIn_113 (by omega) (fun H locs Hh => ?_)
                    have Hh : gw_H G A s (mw G q (up1 u.1 0 (0), up2 u.2.1 2 (g) ((u.2.1 2 (g)) ||| (1 <<< a)), u.2.2)) H locs := Hh
                    refine lv_aload_n C.1 C.2.1 dX5_standIn_114 rfl (lv_at hl 0 rfl) ?_
                    refine gw_fromI (w := mw G q) (u := (up1 u.1 0 (0), up2 u.2.1 2 (g) ((u.2.1 2 (g)) ||| (1 <<< a)), u.2.2)) C Hh (gw_runV (n := 0) (C1 := RX5) [] C Hh (c_X5_cover l G q ((up1 u.1 0 (0), up2 u.2.1 2 (g) ((u.2.1 2 (g)) ||| (1 <<< a)), u.2.2))  (by have q9 := rI_ok hm (a := a) (g := g) (b := b) (by omega) (by omega); unfold rI at q9; first | (rw [if_pos hc_85] at q9; exact q9.1) | (rw [if_neg (by omega)] at q9; exact q9.1)) (by have q9 := rI_ok hm (a := a) (g := g) (b := b) (by omega) (by omega); unfold rI at q9; first | (rw [if_pos hc_85] at q9; exact q9.2) | (rw [if_neg (by omega)] at q9; exact q9.2)) _) tw_831 tw_833 tw_49 tw_71 tw_834 (by decide +kernel) ⟨Nat.le_of_ble_eq_true rfl, Nat.le_of_ble_eq_true rfl⟩ 0 mw_at0 rfl rfl hl.1 (Nat.le_of_ble_eq_true rfl) dX5_standIn_115 ⟨Nat.zero_le _, Nat.zero_le _⟩) (fun rc_115 uc_115 H locs hp_115 Hh => ?_)
                    obtain ⟨kc_115, rfl, hp_115⟩ := hp_115
                    exact gw_iret (w := mw G q) (u := uc_115) C Hh dX5_standIn_118 ⟨_, rfl, by refine rp_y (hv9.trans (if_neg (by split at hk_34 <;> split at hk_26 <;> omega))) (cv_code hp_115.1 rfl) ⟨cv_fallen hp_115, ?_⟩; rw [tn_eq hx_a (by omega), tn_eq hx_g (by omega)]; unfold rI; first | (rw [if_pos hc_85]; exact ⟨hp_115.1, hp_115.2.1⟩) | (rw [if_neg (by omega)]; exact ⟨hp_115.1, hp_115.2.1⟩)⟩
                · skip
                  exact absurd hc_74 (by decide)
              · skip
                refine lv_iconst (v := nI 2) C.1 C.2.1 dX5_standIn_62 (by decide +kernel) ?_
                refine lv_goto (tgt := 67) C.1 C.2.1 dX5_standIn_63 (by decide) ?_
                refine gw_put (Cn := RX5) (T := TX5) (N := 29) (ty0 := tyX5) (v := nI (2)) C Hh 0 mw_at0 rfl uwX5 tyX5_ok nmX5 0 (by decide) rfl tw_723 rfl (by decide +kernel) (Nat.le_of_ble_eq_true rfl) mw_num0 dX5_standIn_67 (fun H locs Hh => ?_)
                refine lv_aload_n C.1 C.2.1 dX5_standIn_70 rfl (lv_at hl 0 rfl) ?_
                refine gw_get (Cn := RX5) (T := TX5) (N := 29) C Hh 0 mw_at0 rfl uwX5 0 (by decide) rfl tw_723 rfl dX5_standIn_71 ?_
                refine W.eq (g2 := F0 m 74 ls [.int (nI (2))]) rfl ?_
                refine gw_if_le (tgt := 79) C dX5_standIn_74 (by decide) (by omega) (fun hc_74 => ?_) (fun hc_74 => ?_)
                · skip
                  exact absurd hc_74 (by decide)
                · skip
                  refine lv_iconst (v := nI 0) C.1 C.2.1 dX5_standIn_77 (by decide +kernel) ?_
                  exact gw_iret (w := mw G q) (u := (up1 u.1 0 (2), u.2.1, u.2.2)) C Hh dX5_standIn_78 ⟨_, rfl, by first | exact rp_n (cdI_1 (fun h => h.2.2 (Classical.byContradiction hc_17))) (by decide) rfl | exact rp_n (cdI_1 (fun h => h.2.2 hc_17)) (by decide) rfl | exact rp_n (hv9.trans (if_pos (by split at hk_34 <;> split at hk_26 <;> omega))) (by decide) rfl | exact rp_n (hv9.trans (if_pos (by split at hk_26 <;> omega))) (by decide) rfl | exact rp_n (cdI_1 (fun h => pif_0 (by rw [← hk_9]; exact hc_12) h.2.1)) (by decide) rfl | exact rp_n (cdI_1 (fun h => pif_0 (by rw [← hk_2]; exact hc_5) h.1)) (by decide) rfl⟩
      · skip
        refine lv_iconst (v := nI 1) C.1 C.2.1 dX5_standIn_20 (by decide +kernel) ?_
        refine lv_goto (tgt := 67) C.1 C.2.1 dX5_standIn_21 (by decide) ?_
        refine gw_put (Cn := RX5) (T := TX5) (N := 29) (ty0 := tyX5) (v := nI (1)) C Hh 0 mw_at0 rfl uwX5 tyX5_ok nmX5 0 (by decide) rfl tw_723 rfl (by decide +kernel) (Nat.le_of_ble_eq_true rfl) mw_num0 dX5_standIn_67 (fun H locs Hh => ?_)
        refine lv_aload_n C.1 C.2.1 dX5_standIn_70 rfl (lv_at hl 0 rfl) ?_
        refine gw_get (Cn := RX5) (T := TX5) (N := 29) C Hh 0 mw_at0 rfl uwX5 0 (by decide) rfl tw_723 rfl dX5_standIn_71 ?_
        refine W.eq (g2 := F0 m 74 ls [.int (nI (1))]) rfl ?_
        refine gw_if_le (tgt := 79) C dX5_standIn_74 (by decide) (by omega) (fun hc_74 => ?_) (fun hc_74 => ?_)
        · skip
          exact absurd hc_74 (by decide)
        · skip
          refine lv_iconst (v := nI 0) C.1 C.2.1 dX5_standIn_77 (by decide +kernel) ?_
          exact gw_iret (w := mw G q) (u := (up1 u.1 0 (1), u.2.1, u.2.2)) C Hh dX5_standIn_78 ⟨_, rfl, by first | exact rp_n (cdI_1 (fun h => h.2.2 (Classical.byContradiction hc_17))) (by decide) rfl | exact rp_n (cdI_1 (fun h => h.2.2 hc_17)) (by decide) rfl | exact rp_n (hv9.trans (if_pos (by split at hk_34 <;> split at hk_26 <;> omega))) (by decide) rfl | exact rp_n (hv9.trans (if_pos (by split at hk_26 <;> omega))) (by decide) rfl | exact rp_n (cdI_1 (fun h => pif_0 (by rw [← hk_9]; exact hc_12) h.2.1)) (by decide) rfl | exact rp_n (cdI_1 (fun h => pif_0 (by rw [← hk_2]; exact hc_5) h.1)) (by decide) rfl⟩
def rK (u : md_S) (g x n : Nat) : md_S := (up1 u.1 0 0, up2 (up2 (up2 u.2.1 4 (3 * g + u.2.1 3 g) x) 5 (3 * g + u.2.1 3 g) n) 3 g (u.2.1 3 g + 1), u.2.2)
theorem kt_hm {u : md_S} {g t : Nat} : kt_has (vw u) g t ↔ ∃ j, j < u.2.1 3 g ∧ u.2.1 4 (3 * g + j) = t := by
  constructor
  · rintro ⟨j, h2, h3⟩
    exact ⟨j, h2, by rw [Nat.mul_comm 3 g]; exact h3⟩
  · rintro ⟨j, h2, h3⟩
    exact ⟨j, h2, by rw [Nat.mul_comm 3 g] at h3; exact h3⟩
set_option maxHeartbeats 4000000 in
set_option maxRecDepth 100000 in
theorem c_X5_kit (l : Launch) (G : gw_G) (q : Nat → Nat) (u : md_S) (x : Int32) (y : Int32) (z : Int32) (hm : md2 u) : gw_MI l yX5_kit cX5_kit 5 (some .int) 2 42 [.ref (q 0), .int (x), .int (y), .int (z)] G (mw G q) u (fun r u1 => ∃ k : Nat, r = nI k ∧ (rp (cdK (vw u) x y z) u u1 (k = u.2.1 3 (tn x) + 1 ∧ u1 = rK u (tn x) (tn y) (tn z)))) := by
  refine gw_entryI (own := RX5) (by decide) rfl (Nat.le_of_ble_eq_true rfl) ?_
  intro p e s m args below meth c A ls C Hh hl
  have hl : lv_has ls 5 [(0, .ref (q 0)), (1, .int (x)), (2, .int (y)), (3, .int (z))] := hl
  have hok := hm.1
  have hbd := hm.2
  have h01 := hok.1.1
  have h02 := hok.1.2
  refine lv_aload_n C.1 C.2.1 dX5_kit_0 rfl (lv_at hl 0 rfl) ?_
  refine lv_iload_n C.1 C.2.1 dX5_kit_1 rfl (lv_at hl 1 rfl) ?_
  refine gw_fromI (w := mw G q) (u := u) C Hh (gw_runS (n := 1) [.int (x)] C Hh (c_X5_isGood l G q (u) (x)  _) tw_823 tw_824 tw_71 tw_825 (by decide +kernel) ⟨Nat.le_of_ble_eq_true rfl, Nat.le_of_ble_eq_true rfl⟩ rfl hl.1 (Nat.le_of_ble_eq_true rfl) dX5_kit_2 ⟨Nat.zero_le _, Nat.zero_le _⟩) (fun rc_2 uc_2 H locs hp_2 Hh => ?_)
  obtain ⟨kc_2, rfl, hp_2⟩ := hp_2
  obtain ⟨hk_2, hu_2⟩ := hp_2
  rw [hu_2] at Hh
  clear hu_2
  refine gw_if_eq (tgt := 25) C dX5_kit_5 (by decide) (by rw [hk_2]; exact Nat.lt_of_le_of_lt (pif_le _) (by decide)) (fun hc_5 => ?_) (fun hc_5 => ?_)
  · skip
    refine lv_iconst (v := nI 1) C.1 C.2.1 dX5_kit_25 (by decide +kernel) ?_
    refine lv_goto (tgt := 30) C.1 C.2.1 dX5_kit_26 (by decide) ?_
    refine gw_put (Cn := RX5) (T := TX5) (N := 29) (ty0 := tyX5) (v := nI (1)) C Hh 0 mw_at0 rfl uwX5 tyX5_ok nmX5 0 (by decide) rfl tw_723 rfl (by decide +kernel) (Nat.le_of_ble_eq_true rfl) mw_num0 dX5_kit_30 (fun H locs Hh => ?_)
    refine lv_aload_n C.1 C.2.1 dX5_kit_33 rfl (lv_at hl 0 rfl) ?_
    refine gw_get (Cn := RX5) (T := TX5) (N := 29) C Hh 0 mw_at0 rfl uwX5 0 (by decide) rfl tw_723 rfl dX5_kit_34 ?_
    refine W.eq (g2 := F0 m 37 ls [.int (nI (1))]) rfl ?_
    refine gw_if_ne (tgt := 74) C dX5_kit_37 (by decide) (by omega) (fun hc_37 => ?_) (fun hc_37 => ?_)
    · skip
      refine lv_iconst (v := nI 0) C.1 C.2.1 dX5_kit_74 (by decide +kernel) ?_
      refine lv_istore (lv' := [(4, .int (nI (0))), (0, .ref (q 0)), (1, .int (x)), (2, .int (y)), (3, .int (z))]) C.1 C.2.1 dX5_kit_75 hl (by decide) rfl (fun ls hl => ?_)
      refine lv_aload_n C.1 C.2.1 dX5_kit_77 rfl (lv_at hl 1 rfl) ?_
      refine gw_get (Cn := RX5) (T := TX5) (N := 29) C Hh 0 mw_at0 rfl uwX5 0 (by decide) rfl tw_723 rfl dX5_kit_78 ?_
      refine W.eq (g2 := F0 m 81 ls [.int (nI (1))]) rfl ?_
      refine gw_if_ne (tgt := 125) C dX5_kit_81 (by decide) (by omega) (fun hc_81 => ?_) (fun hc_81 => ?_)
      · skip
        refine lv_aload_n C.1 C.2.1 dX5_kit_125 rfl (lv_at hl 1 rfl) ?_
        refine gw_get (Cn := RX5) (T := TX5) (N := 29) C Hh 0 mw_at0 rfl uwX5 0 (by decide) rfl tw_723 rfl dX5_kit_126 ?_
        refine W.eq (g2 := F0 m 129 ls [.int (nI (1))]) rfl ?_
        refine gw_if_ne (tgt := 147) C dX5_kit_129 (by decide) (by omega) (fun hc_129 => ?_) (fun hc_129 => ?_)
        · skip
          refine lv_aload_n C.1 C.2.1 dX5_kit_147 rfl (lv_at hl 1 rfl) ?_
          refine gw_get (Cn := RX5) (T := TX5) (N := 29) C Hh 0 mw_at0 rfl uwX5 0 (by decide) rfl tw_723 rfl dX5_kit_148 ?_
          refine W.eq (g2 := F0 m 151 ls [.int (nI (1))]) rfl ?_
          refine gw_if_le (tgt := 156) C dX5_kit_151 (by decide) (by omega) (fun hc_151 => ?_) (fun hc_151 => ?_)
          · skip
            exact absurd hc_151 (by decide)
          · skip
            refine lv_iconst (v := nI 0) C.1 C.2.1 dX5_kit_154 (by decide +kernel) ?_
            exact gw_iret (w := mw G q) (u := (up1 u.1 0 (1), u.2.1, u.2.2)) C Hh dX5_kit_155 ⟨_, rfl, by first | exact rp_n (hv9.trans (pif_pos (Or.inr (Or.inr (Or.inl (kt_hm.mpr ⟨i, by omega, by omega⟩)))))) (by decide) rfl | exact rp_n (hv9.trans ((pif_neg hno9).trans (if_neg (by omega)))) (by decide) rfl | exact rp_n (hv9.trans (pif_pos (Or.inr (Or.inr (Or.inr ((kt_iu hok hg6).mpr (Or.inr (pif_1 (by have q := hc_66; rw [hk_63] at q; exact q))))))))) (by decide) rfl | exact rp_n (hv9.trans (pif_pos (Or.inr (Or.inr (Or.inr ((kt_iu hok hg6).mpr (Or.inl (pif_1 (by have q := hc_58; rw [hk_55] at q; exact q))))))))) (by decide) rfl | exact rp_n (hv9.trans (pif_pos (Or.inr (Or.inl hc_50.symm)))) (by decide) rfl | exact rp_n (hv9.trans (pif_pos (Or.inl (show 0 < u.2.1 3 t by split at hk_42 <;> omega)))) (by decide) rfl | exact rp_n (cdK_1 (fun h => pif_0 (by rw [← hi_19]; exact hc_22) h.2.2)) (by decide) rfl | exact rp_n (cdK_1 (fun h => pif_0 (by rw [← hk_9]; exact hc_12) h.2.1)) (by decide) rfl | exact rp_n (cdK_1 (fun h => pif_0 (by rw [← hk_2]; exact hc_5) h.1)) (by decide) rfl⟩
        · skip
          exact absurd hc_129 (by decide)
      · skip
        exact absurd hc_81 (by decide)
    · skip
      exact absurd hc_37 (by decide)
  · skip
    refine lv_iload_n C.1 C.2.1 dX5_kit_8 rfl (lv_at hl 2 rfl) ?_
    refine gw_fromI (w := mw G q) (u := u) C Hh (gw_runS (n := 1) [.int (y)] C Hh (c_X5_isGood l G q (u) (y)  _) tw_823 tw_824 tw_71 tw_825 (by decide +kernel) ⟨Nat.le_of_ble_eq_true rfl, Nat.le_of_ble_eq_true rfl⟩ rfl hl.1 (Nat.le_of_ble_eq_true rfl) dX5_kit_9 ⟨Nat.zero_le _, Nat.zero_le _⟩) (fun rc_9 uc_9 H locs hp_9 Hh => ?_)
    obtain ⟨kc_9, rfl, hp_9⟩ := hp_9
    obtain ⟨hk_9, hu_9⟩ := hp_9
    rw [hu_9] at Hh
    clear hu_9
    refine gw_if_eq (tgt := 25) C dX5_kit_12 (by decide) (by rw [hk_9]; exact Nat.lt_of_le_of_lt (pif_le _) (by decide)) (fun hc_12 => ?_) (fun hc_12 => ?_)
    · skip
      refine lv_iconst (v := nI 1) C.1 C.2.1 dX5_kit_25 (by decide +kernel) ?_
      refine lv_goto (tgt := 30) C.1 C.2.1 dX5_kit_26 (by decide) ?_
      refine gw_put (Cn := RX5) (T := TX5) (N := 29) (ty0 := tyX5) (v := nI (1)) C Hh 0 mw_at0 rfl uwX5 tyX5_ok nmX5 0 (by decide) rfl tw_723 rfl (by decide +kernel) (Nat.le_of_ble_eq_true rfl) mw_num0 dX5_kit_30 (fun H locs Hh => ?_)
      refine lv_aload_n C.1 C.2.1 dX5_kit_33 rfl (lv_at hl 0 rfl) ?_
      refine gw_get (Cn := RX5) (T := TX5) (N := 29) C Hh 0 mw_at0 rfl uwX5 0 (by decide) rfl tw_723 rfl dX5_kit_34 ?_
      refine W.eq (g2 := F0 m 37 ls [.int (nI (1))]) rfl ?_
      refine gw_if_ne (tgt := 74) C dX5_kit_37 (by decide) (by omega) (fun hc_37 => ?_) (fun hc_37 => ?_)
      · skip
        refine lv_iconst (v := nI 0) C.1 C.2.1 dX5_kit_74 (by decide +kernel) ?_
        refine lv_istore (lv' := [(4, .int (nI (0))), (0, .ref (q 0)), (1, .int (x)), (2, .int (y)), (3, .int (z))]) C.1 C.2.1 dX5_kit_75 hl (by decide) rfl (fun ls hl => ?_)
        refine lv_aload_n C.1 C.2.1 dX5_kit_77 rfl (lv_at hl 1 rfl) ?_
        refine gw_get (Cn := RX5) (T := TX5) (N := 29) C Hh 0 mw_at0 rfl uwX5 0 (by decide) rfl tw_723 rfl dX5_kit_78 ?_
        refine W.eq (g2 := F0 m 81 ls [.int (nI (1))]) rfl ?_
        refine gw_if_ne (tgt := 125) C dX5_kit_81 (by decide) (by omega) (fun hc_81 => ?_) (fun hc_81 => ?_)
        · skip
          refine lv_aload_n C.1 C.2.1 dX5_kit_125 rfl (lv_at hl 1 rfl) ?_
          refine gw_get (Cn := RX5) (T := TX5) (N := 29) C Hh 0 mw_at0 rfl uwX5 0 (by decide) rfl tw_723 rfl dX5_kit_126 ?_
          refine W.eq (g2 := F0 m 129 ls [.int (nI (1))]) rfl ?_
          refine gw_if_ne (tgt := 147) C dX5_kit_129 (by decide) (by omega) (fun hc_129 => ?_) (fun hc_129 => ?_)
          · skip
            refine lv_aload_n C.1 C.2.1 dX5_kit_147 rfl (lv_at hl 1 rfl) ?_
            refine gw_get (Cn := RX5) (T := TX5) (N := 29) C Hh 0 mw_at0 rfl uwX5 0 (by decide) rfl tw_723 rfl dX5_kit_148 ?_
            refine W.eq (g2 := F0 m 151 ls [.int (nI (1))]) rfl ?_
            refine gw_if_le (tgt := 156) C dX5_kit_151 (by decide) (by omega) (fun hc_151 => ?_) (fun hc_151 => ?_)
            · skip
              exact absurd hc_151 (by decide)
            · skip
              refine lv_iconst (v := nI 0) C.1 C.2.1 dX5_kit_154 (by decide +kernel) ?_
              exact gw_iret (w := mw G q) (u := (up1 u.1 0 (1), u.2.1, u.2.2)) C Hh dX5_kit_155 ⟨_, rfl, by first | exact rp_n (hv9.trans (pif_pos (Or.inr (Or.inr (Or.inl (kt_hm.mpr ⟨i, by omega, by omega⟩)))))) (by decide) rfl | exact rp_n (hv9.trans ((pif_neg hno9).trans (if_neg (by omega)))) (by decide) rfl | exact rp_n (hv9.trans (pif_pos (Or.inr (Or.inr (Or.inr ((kt_iu hok hg6).mpr (Or.inr (pif_1 (by have q := hc_66; rw [hk_63] at q; exact q))))))))) (by decide) rfl | exact rp_n (hv9.trans (pif_pos (Or.inr (Or.inr (Or.inr ((kt_iu hok hg6).mpr (Or.inl (pif_1 (by have q := hc_58; rw [hk_55] at q; exact q))))))))) (by decide) rfl | exact rp_n (hv9.trans (pif_pos (Or.inr (Or.inl hc_50.symm)))) (by decide) rfl | exact rp_n (hv9.trans (pif_pos (Or.inl (show 0 < u.2.1 3 t by split at hk_42 <;> omega)))) (by decide) rfl | exact rp_n (cdK_1 (fun h => pif_0 (by rw [← hi_19]; exact hc_22) h.2.2)) (by decide) rfl | exact rp_n (cdK_1 (fun h => pif_0 (by rw [← hk_9]; exact hc_12) h.2.1)) (by decide) rfl | exact rp_n (cdK_1 (fun h => pif_0 (by rw [← hk_2]; exact hc_5) h.1)) (by decide) rfl⟩
          · skip
            exact absurd hc_129 (by decide)
        · skip
          exact absurd hc_81 (by decide)
      · skip
        exact absurd hc_37 (by decide)
    · skip
      refine lv_iload_n C.1 C.2.1 dX5_kit_15 rfl (lv_at hl 3 rfl) ?_
      refine lv_iconst (v := nI 1) C.1 C.2.1 dX5_kit_16 (by decide +kernel) ?_
      refine lv_bipush (v := nI 100) C.1 C.2.1 dX5_kit_17 (by decide +kernel) ?_
      refine gw_fromI (w := mw G q) (u := u) C Hh (gw_runS (n := 3) [.int (z), .int (nI (1)), .int (nI (100))] C Hh (c_X5_in l G q (u) (z) (nI (1)) (nI (100))  _) tw_820 tw_821 tw_71 tw_822 (by decide +kernel) ⟨Nat.le_of_ble_eq_true rfl, Nat.le_of_ble_eq_true rfl⟩ rfl hl.1 (Nat.le_of_ble_eq_true rfl) dX5_kit_19 ⟨Nat.zero_le _, Nat.zero_le _⟩) (fun rc_19 uc_19 H locs hp_19 Hh => ?_)
      obtain ⟨kc_19, rfl, hp_19⟩ := hp_19
      obtain ⟨hk_19, hu_19⟩ := hp_19
      rw [hu_19] at Hh
      clear hu_19
      have hi_19 := ir_m (by decide) (by decide) hk_19
      refine gw_if_ne (tgt := 29) C dX5_kit_22 (by decide) (by rw [hi_19]; exact Nat.lt_of_le_of_lt (pif_le _) (by decide)) (fun hc_22 => ?_) (fun hc_22 => ?_)
      · skip
        obtain ⟨g, hx_g, hj_g⟩ := ir_n (hc := hc_5) hk_2
        rw [hx_g] at hl
        obtain ⟨t, hx_t, hj_t⟩ := ir_n (hc := hc_12) hk_9
        rw [hx_t] at hl
        obtain ⟨n, hx_n, hj_n⟩ := ir_n (hc := hc_22) hi_19
        rw [hx_n] at hl
        have hg6 : g < 6 := by omega
        have ht6 : t < 6 := by omega
        have hg9 := hok.2.1 g hg6
        have ht9 := hok.2.1 t ht6
        have hv9 : cdK (vw u) x y z = pif (kt_no (vw u) g t) 2 (if u.2.1 3 g < 3 then 0 else 3) := cdK_v hx_g hg6 hx_t ht6 hx_n (by omega)
        refine lv_iconst (v := nI 0) C.1 C.2.1 dX5_kit_29 (by decide +kernel) ?_
        refine gw_put (Cn := RX5) (T := TX5) (N := 29) (ty0 := tyX5) (v := nI (0)) C Hh 0 mw_at0 rfl uwX5 tyX5_ok nmX5 0 (by decide) rfl tw_723 rfl (by decide +kernel) (Nat.le_of_ble_eq_true rfl) mw_num0 dX5_kit_30 (fun H locs Hh => ?_)
        refine lv_aload_n C.1 C.2.1 dX5_kit_33 rfl (lv_at hl 0 rfl) ?_
        refine gw_get (Cn := RX5) (T := TX5) (N := 29) C Hh 0 mw_at0 rfl uwX5 0 (by decide) rfl tw_723 rfl dX5_kit_34 ?_
        refine W.eq (g2 := F0 m 37 ls [.int (nI (0))]) rfl ?_
        refine gw_if_ne (tgt := 74) C dX5_kit_37 (by decide) (by omega) (fun hc_37 => ?_) (fun hc_37 => ?_)
        · skip
          exact absurd hc_37 (by decide)
        · skip
          refine lv_aload_n C.1 C.2.1 dX5_kit_40 rfl (lv_at hl 0 rfl) ?_
          refine lv_iload_n C.1 C.2.1 dX5_kit_41 rfl (lv_at hl 2 rfl) ?_
          refine gw_fromI (w := mw G q) (u := (up1 u.1 0 (0), u.2.1, u.2.2)) C Hh (gw_runV (n := 1) (C1 := RX5) [.int (nI (t))] C Hh (c_X5_isKit l G q ((up1 u.1 0 (0), u.2.1, u.2.2)) (t) (by exact sc_ok (u := u) ⟨rfl, rfl, fun _ _ _ => rfl⟩ hok) (by first | assumption | omega) _) tw_827 tw_829 tw_48 tw_71 tw_830 (by decide +kernel) ⟨Nat.le_of_ble_eq_true rfl, Nat.le_of_ble_eq_true rfl⟩ 0 mw_at0 rfl rfl hl.1 (Nat.le_of_ble_eq_true rfl) dX5_kit_42 ⟨Nat.zero_le _, Nat.zero_le _⟩) (fun rc_42 uc_42 H locs hp_42 Hh => ?_)
          obtain ⟨kc_42, rfl, hp_42⟩ := hp_42
          obtain ⟨hk_42, hu_42⟩ := hp_42
          rw [hu_42] at Hh
          clear hu_42
          refine gw_if_ne (tgt := 69) C dX5_kit_45 (by decide) (by split at hk_42 <;> omega) (fun hc_45 => ?_) (fun hc_45 => ?_)
          · skip
            refine lv_aload_n C.1 C.2.1 dX5_kit_69 rfl (lv_at hl 0 rfl) ?_
            refine lv_iconst (v := nI 2) C.1 C.2.1 dX5_kit_70 (by decide +kernel) ?_
            refine gw_put (Cn := RX5) (T := TX5) (N := 29) (ty0 := tyX5) (v := nI (2)) C Hh 0 mw_at0 rfl uwX5 tyX5_ok nmX5 0 (by decide) rfl tw_723 rfl (by decide +kernel) (Nat.le_of_ble_eq_true rfl) mw_num0 dX5_kit_71 (fun H locs Hh => ?_)
            rw [up1_up1] at Hh
            refine lv_iconst (v := nI 0) C.1 C.2.1 dX5_kit_74 (by decide +kernel) ?_
            refine lv_istore (lv' := [(4, .int (nI (0))), (0, .ref (q 0)), (1, .int (nI (g))), (2, .int (nI (t))), (3, .int (nI (n)))]) C.1 C.2.1 dX5_kit_75 hl (by decide) rfl (fun ls hl => ?_)
            refine lv_aload_n C.1 C.2.1 dX5_kit_77 rfl (lv_at hl 1 rfl) ?_
            refine gw_get (Cn := RX5) (T := TX5) (N := 29) C Hh 0 mw_at0 rfl uwX5 0 (by decide) rfl tw_723 rfl dX5_kit_78 ?_
            refine W.eq (g2 := F0 m 81 ls [.int (nI (2))]) rfl ?_
            refine gw_if_ne (tgt := 125) C dX5_kit_81 (by decide) (by omega) (fun hc_81 => ?_) (fun hc_81 => ?_)
            · skip
              refine lv_aload_n C.1 C.2.1 dX5_kit_125 rfl (lv_at hl 1 rfl) ?_
              refine gw_get (Cn := RX5) (T := TX5) (N := 29) C Hh 0 mw_at0 rfl uwX5 0 (by decide) rfl tw_723 rfl dX5_kit_126 ?_
              refine W.eq (g2 := F0 m 129 ls [.int (nI (2))]) rfl ?_
              refine gw_if_ne (tgt := 147) C dX5_kit_129 (by decide) (by omega) (fun hc_129 => ?_) (fun hc_129 => ?_)
              · skip
                refine lv_aload_n C.1 C.2.1 dX5_kit_147 rfl (lv_at hl 1 rfl) ?_
                refine gw_get (Cn := RX5) (T := TX5) (N := 29) C Hh 0 mw_at0 rfl uwX5 0 (by decide) rfl tw_723 rfl dX5_kit_148 ?_
                refine W.eq (g2 := F0 m 151 ls [.int (nI (2))]) rfl ?_
                refine gw_if_le (tgt := 156) C dX5_kit_151 (by decide) (by omega) (fun hc_151 => ?_) (fun hc_151 => ?_)
                · skip
                  exact absurd hc_151 (by decide)
                · skip
                  refine lv_iconst (v := nI 0) C.1 C.2.1 dX5_kit_154 (by decide +kernel) ?_
                  exact gw_iret (w := mw G q) (u := (up1 u.1 0 (2), u.2.1, u.2.2)) C Hh dX5_kit_155 ⟨_, rfl, by first | exact rp_n (hv9.trans (pif_pos (Or.inr (Or.inr (Or.inl (kt_hm.mpr ⟨i, by omega, by omega⟩)))))) (by decide) rfl | exact rp_n (hv9.trans ((pif_neg hno9).trans (if_neg (by omega)))) (by decide) rfl | exact rp_n (hv9.trans (pif_pos (Or.inr (Or.inr (Or.inr ((kt_iu hok hg6).mpr (Or.inr (pif_1 (by have q := hc_66; rw [hk_63] at q; exact q))))))))) (by decide) rfl | exact rp_n (hv9.trans (pif_pos (Or.inr (Or.inr (Or.inr ((kt_iu hok hg6).mpr (Or.inl (pif_1 (by have q := hc_58; rw [hk_55] at q; exact q))))))))) (by decide) rfl | exact rp_n (hv9.trans (pif_pos (Or.inr (Or.inl hc_50.symm)))) (by decide) rfl | exact rp_n (hv9.trans (pif_pos (Or.inl (show 0 < u.2.1 3 t by split at hk_42 <;> omega)))) (by decide) rfl | exact rp_n (cdK_1 (fun h => pif_0 (by rw [← hi_19]; exact hc_22) h.2.2)) (by decide) rfl | exact rp_n (cdK_1 (fun h => pif_0 (by rw [← hk_9]; exact hc_12) h.2.1)) (by decide) rfl | exact rp_n (cdK_1 (fun h => pif_0 (by rw [← hk_2]; exact hc_5) h.1)) (by decide) rfl⟩
              · skip
                exact absurd hc_129 (by decide)
            · skip
              exact absurd hc_81 (by decide)
          · skip
            refine lv_iload_n C.1 C.2.1 dX5_kit_48 rfl (lv_at hl 2 rfl) ?_
            refine lv_iload_n C.1 C.2.1 dX5_kit_49 rfl (lv_at hl 1 rfl) ?_
            refine gw_icmp_eq (tgt := 69) C dX5_kit_50 (by decide) (by omega) (by omega) (fun hc_50 => ?_) (fun hc_50 => ?_)
            · skip
              refine lv_aload_n C.1 C.2.1 dX5_kit_69 rfl (lv_at hl 0 rfl) ?_
              refine lv_iconst (v := nI 2) C.1 C.2.1 dX5_kit_70 (by decide +kernel) ?_
              refine gw_put (Cn := RX5) (T := TX5) (N := 29) (ty0 := tyX5) (v := nI (2)) C Hh 0 mw_at0 rfl uwX5 tyX5_ok nmX5 0 (by decide) rfl tw_723 rfl (by decide +kernel) (Nat.le_of_ble_eq_true rfl) mw_num0 dX5_kit_71 (fun H locs Hh => ?_)
              rw [up1_up1] at Hh
              refine lv_iconst (v := nI 0) C.1 C.2.1 dX5_kit_74 (by decide +kernel) ?_
              refine lv_istore (lv' := [(4, .int (nI (0))), (0, .ref (q 0)), (1, .int (nI (g))), (2, .int (nI (t))), (3, .int (nI (n)))]) C.1 C.2.1 dX5_kit_75 hl (by decide) rfl (fun ls hl => ?_)
              refine lv_aload_n C.1 C.2.1 dX5_kit_77 rfl (lv_at hl 1 rfl) ?_
              refine gw_get (Cn := RX5) (T := TX5) (N := 29) C Hh 0 mw_at0 rfl uwX5 0 (by decide) rfl tw_723 rfl dX5_kit_78 ?_
              refine W.eq (g2 := F0 m 81 ls [.int (nI (2))]) rfl ?_
              refine gw_if_ne (tgt := 125) C dX5_kit_81 (by decide) (by omega) (fun hc_81 => ?_) (fun hc_81 => ?_)
              · skip
                refine lv_aload_n C.1 C.2.1 dX5_kit_125 rfl (lv_at hl 1 rfl) ?_
                refine gw_get (Cn := RX5) (T := TX5) (N := 29) C Hh 0 mw_at0 rfl uwX5 0 (by decide) rfl tw_723 rfl dX5_kit_126 ?_
                refine W.eq (g2 := F0 m 129 ls [.int (nI (2))]) rfl ?_
                refine gw_if_ne (tgt := 147) C dX5_kit_129 (by decide) (by omega) (fun hc_129 => ?_) (fun hc_129 => ?_)
                · skip
                  refine lv_aload_n C.1 C.2.1 dX5_kit_147 rfl (lv_at hl 1 rfl) ?_
                  refine gw_get (Cn := RX5) (T := TX5) (N := 29) C Hh 0 mw_at0 rfl uwX5 0 (by decide) rfl tw_723 rfl dX5_kit_148 ?_
                  refine W.eq (g2 := F0 m 151 ls [.int (nI (2))]) rfl ?_
                  refine gw_if_le (tgt := 156) C dX5_kit_151 (by decide) (by omega) (fun hc_151 => ?_) (fun hc_151 => ?_)
                  · skip
                    exact absurd hc_151 (by decide)
                  · skip
                    refine lv_iconst (v := nI 0) C.1 C.2.1 dX5_kit_154 (by decide +kernel) ?_
                    exact gw_iret (w := mw G q) (u := (up1 u.1 0 (2), u.2.1, u.2.2)) C Hh dX5_kit_155 ⟨_, rfl, by first | exact rp_n (hv9.trans (pif_pos (Or.inr (Or.inr (Or.inl (kt_hm.mpr ⟨i, by omega, by omega⟩)))))) (by decide) rfl | exact rp_n (hv9.trans ((pif_neg hno9).trans (if_neg (by omega)))) (by decide) rfl | exact rp_n (hv9.trans (pif_pos (Or.inr (Or.inr (Or.inr ((kt_iu hok hg6).mpr (Or.inr (pif_1 (by have q := hc_66; rw [hk_63] at q; exact q))))))))) (by decide) rfl | exact rp_n (hv9.trans (pif_pos (Or.inr (Or.inr (Or.inr ((kt_iu hok hg6).mpr (Or.inl (pif_1 (by have q := hc_58; rw [hk_55] at q; exact q))))))))) (by decide) rfl | exact rp_n (hv9.trans (pif_pos (Or.inr (Or.inl hc_50.symm)))) (by decide) rfl | exact rp_n (hv9.trans (pif_pos (Or.inl (show 0 < u.2.1 3 t by split at hk_42 <;> omega)))) (by decide) rfl | exact rp_n (cdK_1 (fun h => pif_0 (by rw [← hi_19]; exact hc_22) h.2.2)) (by decide) rfl | exact rp_n (cdK_1 (fun h => pif_0 (by rw [← hk_9]; exact hc_12) h.2.1)) (by decide) rfl | exact rp_n (cdK_1 (fun h => pif_0 (by rw [← hk_2]; exact hc_5) h.1)) (by decide) rfl⟩
                · skip
                  exact absurd hc_129 (by decide)
              · skip
                exact absurd hc_81 (by decide)
            · skip
              refine lv_aload_n C.1 C.2.1 dX5_kit_53 rfl (lv_at hl 0 rfl) ?_
              refine lv_iload_n C.1 C.2.1 dX5_kit_54 rfl (lv_at hl 1 rfl) ?_
              refine gw_fromI (w := mw G q) (u := (up1 u.1 0 (0), u.2.1, u.2.2)) C Hh (gw_runV (n := 1) (C1 := RX5) [.int (nI (g))] C Hh (c_X5_isPart l G q ((up1 u.1 0 (0), u.2.1, u.2.2)) (g) (by exact sc_ok (u := u) ⟨rfl, rfl, fun _ _ _ => rfl⟩ hok) (by first | assumption | omega) _) tw_883 tw_885 tw_57 tw_71 tw_886 (by decide +kernel) ⟨Nat.le_of_ble_eq_true rfl, Nat.le_of_ble_eq_true rfl⟩ 0 mw_at0 rfl rfl hl.1 (Nat.le_of_ble_eq_true rfl) dX5_kit_55 ⟨Nat.zero_le _, Nat.zero_le _⟩) (fun rc_55 uc_55 H locs hp_55 Hh => ?_)
              obtain ⟨kc_55, rfl, hp_55⟩ := hp_55
              obtain ⟨hk_55, hu_55⟩ := hp_55
              rw [hu_55] at Hh
              clear hu_55
              refine gw_if_ne (tgt := 69) C dX5_kit_58 (by decide) (by rw [hk_55]; exact Nat.lt_of_le_of_lt (pif_le _) (by decide)) (fun hc_58 => ?_) (fun hc_58 => ?_)
              · skip
                refine lv_aload_n C.1 C.2.1 dX5_kit_69 rfl (lv_at hl 0 rfl) ?_
                refine lv_iconst (v := nI 2) C.1 C.2.1 dX5_kit_70 (by decide +kernel) ?_
                refine gw_put (Cn := RX5) (T := TX5) (N := 29) (ty0 := tyX5) (v := nI (2)) C Hh 0 mw_at0 rfl uwX5 tyX5_ok nmX5 0 (by decide) rfl tw_723 rfl (by decide +kernel) (Nat.le_of_ble_eq_true rfl) mw_num0 dX5_kit_71 (fun H locs Hh => ?_)
                rw [up1_up1] at Hh
                refine lv_iconst (v := nI 0) C.1 C.2.1 dX5_kit_74 (by decide +kernel) ?_
                refine lv_istore (lv' := [(4, .int (nI (0))), (0, .ref (q 0)), (1, .int (nI (g))), (2, .int (nI (t))), (3, .int (nI (n)))]) C.1 C.2.1 dX5_kit_75 hl (by decide) rfl (fun ls hl => ?_)
                refine lv_aload_n C.1 C.2.1 dX5_kit_77 rfl (lv_at hl 1 rfl) ?_
                refine gw_get (Cn := RX5) (T := TX5) (N := 29) C Hh 0 mw_at0 rfl uwX5 0 (by decide) rfl tw_723 rfl dX5_kit_78 ?_
                refine W.eq (g2 := F0 m 81 ls [.int (nI (2))]) rfl ?_
                refine gw_if_ne (tgt := 125) C dX5_kit_81 (by decide) (by omega) (fun hc_81 => ?_) (fun hc_81 => ?_)
                · skip
                  refine lv_aload_n C.1 C.2.1 dX5_kit_125 rfl (lv_at hl 1 rfl) ?_
                  refine gw_get (Cn := RX5) (T := TX5) (N := 29) C Hh 0 mw_at0 rfl uwX5 0 (by decide) rfl tw_723 rfl dX5_kit_126 ?_
                  refine W.eq (g2 := F0 m 129 ls [.int (nI (2))]) rfl ?_
                  refine gw_if_ne (tgt := 147) C dX5_kit_129 (by decide) (by omega) (fun hc_129 => ?_) (fun hc_129 => ?_)
                  · skip
                    refine lv_aload_n C.1 C.2.1 dX5_kit_147 rfl (lv_at hl 1 rfl) ?_
                    refine gw_get (Cn := RX5) (T := TX5) (N := 29) C Hh 0 mw_at0 rfl uwX5 0 (by decide) rfl tw_723 rfl dX5_kit_148 ?_
                    refine W.eq (g2 := F0 m 151 ls [.int (nI (2))]) rfl ?_
                    refine gw_if_le (tgt := 156) C dX5_kit_151 (by decide) (by omega) (fun hc_151 => ?_) (fun hc_151 => ?_)
                    · skip
                      exact absurd hc_151 (by decide)
                    · skip
                      refine lv_iconst (v := nI 0) C.1 C.2.1 dX5_kit_154 (by decide +kernel) ?_
                      exact gw_iret (w := mw G q) (u := (up1 u.1 0 (2), u.2.1, u.2.2)) C Hh dX5_kit_155 ⟨_, rfl, by first | exact rp_n (hv9.trans (pif_pos (Or.inr (Or.inr (Or.inl (kt_hm.mpr ⟨i, by omega, by omega⟩)))))) (by decide) rfl | exact rp_n (hv9.trans ((pif_neg hno9).trans (if_neg (by omega)))) (by decide) rfl | exact rp_n (hv9.trans (pif_pos (Or.inr (Or.inr (Or.inr ((kt_iu hok hg6).mpr (Or.inr (pif_1 (by have q := hc_66; rw [hk_63] at q; exact q))))))))) (by decide) rfl | exact rp_n (hv9.trans (pif_pos (Or.inr (Or.inr (Or.inr ((kt_iu hok hg6).mpr (Or.inl (pif_1 (by have q := hc_58; rw [hk_55] at q; exact q))))))))) (by decide) rfl | exact rp_n (hv9.trans (pif_pos (Or.inr (Or.inl hc_50.symm)))) (by decide) rfl | exact rp_n (hv9.trans (pif_pos (Or.inl (show 0 < u.2.1 3 t by split at hk_42 <;> omega)))) (by decide) rfl | exact rp_n (cdK_1 (fun h => pif_0 (by rw [← hi_19]; exact hc_22) h.2.2)) (by decide) rfl | exact rp_n (cdK_1 (fun h => pif_0 (by rw [← hk_9]; exact hc_12) h.2.1)) (by decide) rfl | exact rp_n (cdK_1 (fun h => pif_0 (by rw [← hk_2]; exact hc_5) h.1)) (by decide) rfl⟩
                  · skip
                    exact absurd hc_129 (by decide)
                · skip
                  exact absurd hc_81 (by decide)
              · skip
                refine lv_aload_n C.1 C.2.1 dX5_kit_61 rfl (lv_at hl 0 rfl) ?_
                refine lv_iload_n C.1 C.2.1 dX5_kit_62 rfl (lv_at hl 1 rfl) ?_
                refine gw_fromI (w := mw G q) (u := (up1 u.1 0 (0), u.2.1, u.2.2)) C Hh (gw_runV (n := 1) (C1 := RX5) [.int (nI (g))] C Hh (c_X5_isUsed l G q ((up1 u.1 0 (0), u.2.1, u.2.2)) (g) (by exact sc_ok (u := u) ⟨rfl, rfl, fun _ _ _ => rfl⟩ hok) (by first | assumption | omega) _) tw_887 tw_889 tw_58 tw_71 tw_890 (by decide +kernel) ⟨Nat.le_of_ble_eq_true rfl, Nat.le_of_ble_eq_true rfl⟩ 0 mw_at0 rfl rfl hl.1 (Nat.le_of_ble_eq_true rfl) dX5_kit_63 ⟨Nat.zero_le _, Nat.zero_le _⟩) (fun rc_63 uc_63 H locs hp_63 Hh => ?_)
                obtain ⟨kc_63, rfl, hp_63⟩ := hp_63
                obtain ⟨hk_63, hu_63⟩ := hp_63
                rw [hu_63] at Hh
                clear hu_63
                refine gw_if_eq (tgt := 74) C dX5_kit_66 (by decide) (by rw [hk_63]; exact Nat.lt_of_le_of_lt (pif_le _) (by decide)) (fun hc_66 => ?_) (fun hc_66 => ?_)
                · skip
                  refine lv_iconst (v := nI 0) C.1 C.2.1 dX5_kit_74 (by decide +kernel) ?_
                  refine lv_istore (lv' := [(4, .int (nI (0))), (0, .ref (q 0)), (1, .int (nI (g))), (2, .int (nI (t))), (3, .int (nI (n)))]) C.1 C.2.1 dX5_kit_75 hl (by decide) rfl (fun ls hl => ?_)
                  refine lv_aload_n C.1 C.2.1 dX5_kit_77 rfl (lv_at hl 1 rfl) ?_
                  refine gw_get (Cn := RX5) (T := TX5) (N := 29) C Hh 0 mw_at0 rfl uwX5 0 (by decide) rfl tw_723 rfl dX5_kit_78 ?_
                  refine W.eq (g2 := F0 m 81 ls [.int (nI (0))]) rfl ?_
                  refine gw_if_ne (tgt := 125) C dX5_kit_81 (by decide) (by omega) (fun hc_81 => ?_) (fun hc_81 => ?_)
                  · skip
                    exact absurd hc_81 (by decide)
                  · skip
                    have loop_84 : ∀ (fu : Nat) (i : Nat) (H : Heap) (locs : List Loc) (ls : Array Slot), (i ≤ u.2.1 3 g) → (∀ j, j < i → u.2.1 4 (3 * g + j) ≠ t) → u.2.1 3 g - i < fu → gw_H G A s (mw G q (up1 u.1 0 (0), u.2.1, u.2.2)) H locs → lv_has ls 5 [(0, .ref (q 0)), (1, .int (nI (g))), (2, .int (nI (t))), (3, .int (nI (n))), (4, .int (nI (i)))] → W p l e (gw_rm 2 42) s m args below meth c H locs 0 0 (MQ below (va_Qi (fun r u1 => ∃ k : Nat, r = nI k ∧ (rp (cdK (vw u) x y z) u u1 (k = u.2.1 3 (tn x) + 1 ∧ u1 = rK u (tn x) (tn y) (tn z)))) (gw_at G A (mw G q)) A) args s 0 0 A) (F0 m 84 ls []) := by
                      intro fu
                      induction fu with
                      | zero =>
                        intro i  H locs ls hi hall hmf
                        exact absurd hmf (Nat.not_lt_zero _)
                      | succ fu ih_84 =>
                        intro i  H locs ls hi hall hmf Hh hl
                        refine lv_iload C.1 C.2.1 dX5_kit_84 (lv_at hl 4 rfl) ?_
                        refine lv_aload_n C.1 C.2.1 dX5_kit_86 rfl (lv_at hl 0 rfl) ?_
                        refine gw_get (Cn := RX5) (T := TX5) (N := 29) C Hh 0 mw_at0 rfl uwX5 3 (by decide) rfl tw_726 rfl dX5_kit_87 ?_
                        refine lv_iload_n C.1 C.2.1 dX5_kit_90 rfl (lv_at hl 1 rfl) ?_
                        refine gw_ld C Hh 3 mw_at3 (by decide) dX5_kit_91 (by omega) ?_
                        refine W.eq (g2 := F0 m 92 ls [.int (nI (u.2.1 3 (g))), .int (nI (i))]) rfl ?_
                        refine gw_icmp_ge (tgt := 125) C dX5_kit_92 (by decide) (by omega) (by omega) (fun hc_92 => ?_) (fun hc_92 => ?_)
                        · skip
                          have hno9 : ¬ kt_no (vw u) g t := by (rintro (h | h | h | h); (have h9 : 0 < u.2.1 3 t := h; split at hk_42 <;> omega); (exact hc_50 h.symm); (obtain ⟨j9, h1, h2⟩ := kt_hm.mp h; exact hall j9 (by omega) h2); (rcases (kt_iu hok hg6).mp h with h | h; exact pif_0 (hk_55.symm.trans hc_58) h; exact pif_0 (hk_63.symm.trans hc_66) h))
                          refine lv_aload_n C.1 C.2.1 dX5_kit_125 rfl (lv_at hl 0 rfl) ?_
                          refine gw_get (Cn := RX5) (T := TX5) (N := 29) C Hh 0 mw_at0 rfl uwX5 0 (by decide) rfl tw_723 rfl dX5_kit_126 ?_
                          refine W.eq (g2 := F0 m 129 ls [.int (nI (0))]) rfl ?_
                          refine gw_if_ne (tgt := 147) C dX5_kit_129 (by decide) (by omega) (fun hc_129 => ?_) (fun hc_129 => ?_)
                          · skip
                            exact absurd hc_129 (by decide)
                          · skip
                            refine lv_aload_n C.1 C.2.1 dX5_kit_132 rfl (lv_at hl 0 rfl) ?_
                            refine gw_get (Cn := RX5) (T := TX5) (N := 29) C Hh 0 mw_at0 rfl uwX5 3 (by decide) rfl tw_726 rfl dX5_kit_133 ?_
                            refine lv_iload_n C.1 C.2.1 dX5_kit_136 rfl (lv_at hl 1 rfl) ?_
                            refine gw_ld C Hh 3 mw_at3 (by decide) dX5_kit_137 (by omega) ?_
                            refine W.eq (g2 := F0 m 138 ls [.int (nI (u.2.1 3 (g)))]) rfl ?_
                            refine lv_iconst (v := nI 3) C.1 C.2.1 dX5_kit_138 (by decide +kernel) ?_
                            refine gw_icmp_ne (tgt := 147) C dX5_kit_139 (by decide) (by omega) (by omega) (fun hc_139 => ?_) (fun hc_139 => ?_)
                            · skip
                              refine lv_aload_n C.1 C.2.1 dX5_kit_147 rfl (lv_at hl 0 rfl) ?_
                              refine gw_get (Cn := RX5) (T := TX5) (N := 29) C Hh 0 mw_at0 rfl uwX5 0 (by decide) rfl tw_723 rfl dX5_kit_148 ?_
                              refine W.eq (g2 := F0 m 151 ls [.int (nI (0))]) rfl ?_
                              refine gw_if_le (tgt := 156) C dX5_kit_151 (by decide) (by omega) (fun hc_151 => ?_) (fun hc_151 => ?_)
                              · skip
                                refine lv_aload_n C.1 C.2.1 dX5_kit_156 rfl (lv_at hl 0 rfl) ?_
                                refine gw_get (Cn := RX5) (T := TX5) (N := 29) C Hh 0 mw_at0 rfl uwX5 4 (by decide) rfl tw_727 rfl dX5_kit_157 ?_
                                refine lv_iconst (v := nI 3) C.1 C.2.1 dX5_kit_160 (by decide +kernel) ?_
                                refine lv_iload_n C.1 C.2.1 dX5_kit_161 rfl (lv_at hl 1 rfl) ?_
                                refine gw_imul C dX5_kit_162 ?_
                                refine lv_aload_n C.1 C.2.1 dX5_kit_163 rfl (lv_at hl 0 rfl) ?_
                                refine gw_get (Cn := RX5) (T := TX5) (N := 29) C Hh 0 mw_at0 rfl uwX5 3 (by decide) rfl tw_726 rfl dX5_kit_164 ?_
                                refine lv_iload_n C.1 C.2.1 dX5_kit_167 rfl (lv_at hl 1 rfl) ?_
                                refine gw_ld C Hh 3 mw_at3 (by decide) dX5_kit_168 (by omega) ?_
                                refine W.eq (g2 := F0 m 169 ls [.int (nI (u.2.1 3 (g))), .int (nI (3 * g)), .ref (q 4)]) rfl ?_
                                refine gw_iadd C dX5_kit_169 ?_
                                refine lv_iload_n C.1 C.2.1 dX5_kit_170 rfl (lv_at hl 2 rfl) ?_
                                refine gw_st C Hh 4 mw_at4 (by decide) mw_set4 dX5_kit_171 (by omega) (fun H locs Hh => ?_)
                                have Hh : gw_H G A s (mw G q (up1 u.1 0 (0), up2 u.2.1 4 ((3 * g) + (u.2.1 3 (g))) (t), u.2.2)) H locs := Hh
                                refine lv_aload_n C.1 C.2.1 dX5_kit_172 rfl (lv_at hl 0 rfl) ?_
                                refine gw_get (Cn := RX5) (T := TX5) (N := 29) C Hh 0 mw_at0 rfl uwX5 5 (by decide) rfl tw_728 rfl dX5_kit_173 ?_
                                refine lv_iconst (v := nI 3) C.1 C.2.1 dX5_kit_176 (by decide +kernel) ?_
                                refine lv_iload_n C.1 C.2.1 dX5_kit_177 rfl (lv_at hl 1 rfl) ?_
                                refine gw_imul C dX5_kit_178 ?_
                                refine lv_aload_n C.1 C.2.1 dX5_kit_179 rfl (lv_at hl 0 rfl) ?_
                                refine gw_get (Cn := RX5) (T := TX5) (N := 29) C Hh 0 mw_at0 rfl uwX5 3 (by decide) rfl tw_726 rfl dX5_kit_180 ?_
                                refine lv_iload_n C.1 C.2.1 dX5_kit_183 rfl (lv_at hl 1 rfl) ?_
                                refine gw_ld C Hh 3 mw_at3 (by decide) dX5_kit_184 (by omega) ?_
                                refine W.eq (g2 := F0 m 185 ls [.int (nI (u.2.1 3 (g))), .int (nI (3 * g)), .ref (q 5)]) rfl ?_
                                refine gw_iadd C dX5_kit_185 ?_
                                refine lv_iload_n C.1 C.2.1 dX5_kit_186 rfl (lv_at hl 3 rfl) ?_
                                refine gw_st C Hh 5 mw_at5 (by decide) mw_set5 dX5_kit_187 (by omega) (fun H locs Hh => ?_)
                                have Hh : gw_H G A s (mw G q (up1 u.1 0 (0), up2 (up2 u.2.1 4 ((3 * g) + (u.2.1 3 (g))) (t)) 5 ((3 * g) + (u.2.1 3 (g))) (n), u.2.2)) H locs := Hh
                                refine lv_aload_n C.1 C.2.1 dX5_kit_188 rfl (lv_at hl 0 rfl) ?_
                                refine gw_get (Cn := RX5) (T := TX5) (N := 29) C Hh 0 mw_at0 rfl uwX5 3 (by decide) rfl tw_726 rfl dX5_kit_189 ?_
                                refine lv_iload_n C.1 C.2.1 dX5_kit_192 rfl (lv_at hl 1 rfl) ?_
                                refine lv_dup2_11 C.1 C.2.1 dX5_kit_193 rfl rfl ?_
                                refine gw_ld C Hh 3 mw_at3 (by decide) dX5_kit_194 (by omega) ?_
                                refine W.eq (g2 := F0 m 195 ls [.int (nI (u.2.1 3 (g))), .int (nI (g)), .ref (q 3)]) rfl ?_
                                refine lv_iconst (v := nI 1) C.1 C.2.1 dX5_kit_195 (by decide +kernel) ?_
                                refine gw_iadd C dX5_kit_196 ?_
                                refine gw_st C Hh 3 mw_at3 (by decide) mw_set3 dX5_kit_197 (by omega) (fun H locs Hh => ?_)
                                have Hh : gw_H G A s (mw G q (up1 u.1 0 (0), up2 (up2 (up2 u.2.1 4 ((3 * g) + (u.2.1 3 (g))) (t)) 5 ((3 * g) + (u.2.1 3 (g))) (n)) 3 (g) ((u.2.1 3 (g)) + 1), u.2.2)) H locs := Hh
                                refine lv_aload_n C.1 C.2.1 dX5_kit_198 rfl (lv_at hl 0 rfl) ?_
                                refine gw_get (Cn := RX5) (T := TX5) (N := 29) C Hh 0 mw_at0 rfl uwX5 3 (by decide) rfl tw_726 rfl dX5_kit_199 ?_
                                refine lv_iload_n C.1 C.2.1 dX5_kit_202 rfl (lv_at hl 1 rfl) ?_
                                refine gw_ld C Hh 3 mw_at3 (by decide) dX5_kit_203 (by omega) ?_
                                refine W.eq (g2 := F0 m 204 ls [.int (nI ((up2 u.2.1 3 (g) ((u.2.1 3 (g)) + 1)) 3 (g)))]) rfl ?_
                                exact gw_iret (w := mw G q) (u := (up1 u.1 0 (0), up2 (up2 (up2 u.2.1 4 ((3 * g) + (u.2.1 3 (g))) (t)) 5 ((3 * g) + (u.2.1 3 (g))) (n)) 3 (g) ((u.2.1 3 (g)) + 1), u.2.2)) C Hh dX5_kit_204 ⟨_, rfl, by refine rp_y (hv9.trans ((pif_neg hno9).trans (if_pos (by omega)))) rfl ⟨?_, ?_⟩; (rw [tn_eq hx_g (by omega), up2_at]; exact if_pos rfl); (rw [tn_eq hx_g (by omega), tn_eq hx_t (by omega), tn_eq hx_n (by omega)]; rfl)⟩
                              · skip
                                exact absurd hc_151 (by decide)
                            · skip
                              refine lv_aload_n C.1 C.2.1 dX5_kit_142 rfl (lv_at hl 0 rfl) ?_
                              refine lv_iconst (v := nI 3) C.1 C.2.1 dX5_kit_143 (by decide +kernel) ?_
                              refine gw_put (Cn := RX5) (T := TX5) (N := 29) (ty0 := tyX5) (v := nI (3)) C Hh 0 mw_at0 rfl uwX5 tyX5_ok nmX5 0 (by decide) rfl tw_723 rfl (by decide +kernel) (Nat.le_of_ble_eq_true rfl) mw_num0 dX5_kit_144 (fun H locs Hh => ?_)
                              rw [up1_up1] at Hh
                              refine lv_aload_n C.1 C.2.1 dX5_kit_147 rfl (lv_at hl 0 rfl) ?_
                              refine gw_get (Cn := RX5) (T := TX5) (N := 29) C Hh 0 mw_at0 rfl uwX5 0 (by decide) rfl tw_723 rfl dX5_kit_148 ?_
                              refine W.eq (g2 := F0 m 151 ls [.int (nI (3))]) rfl ?_
                              refine gw_if_le (tgt := 156) C dX5_kit_151 (by decide) (by omega) (fun hc_151 => ?_) (fun hc_151 => ?_)
                              · skip
                                exact absurd hc_151 (by decide)
                              · skip
                                refine lv_iconst (v := nI 0) C.1 C.2.1 dX5_kit_154 (by decide +kernel) ?_
                                exact gw_iret (w := mw G q) (u := (up1 u.1 0 (3), u.2.1, u.2.2)) C Hh dX5_kit_155 ⟨_, rfl, by first | exact rp_n (hv9.trans (pif_pos (Or.inr (Or.inr (Or.inl (kt_hm.mpr ⟨i, by omega, by omega⟩)))))) (by decide) rfl | exact rp_n (hv9.trans ((pif_neg hno9).trans (if_neg (by omega)))) (by decide) rfl | exact rp_n (hv9.trans (pif_pos (Or.inr (Or.inr (Or.inr ((kt_iu hok hg6).mpr (Or.inr (pif_1 (by have q := hc_66; rw [hk_63] at q; exact q))))))))) (by decide) rfl | exact rp_n (hv9.trans (pif_pos (Or.inr (Or.inr (Or.inr ((kt_iu hok hg6).mpr (Or.inl (pif_1 (by have q := hc_58; rw [hk_55] at q; exact q))))))))) (by decide) rfl | exact rp_n (hv9.trans (pif_pos (Or.inr (Or.inl hc_50.symm)))) (by decide) rfl | exact rp_n (hv9.trans (pif_pos (Or.inl (show 0 < u.2.1 3 t by split at hk_42 <;> omega)))) (by decide) rfl | exact rp_n (cdK_1 (fun h => pif_0 (by rw [← hi_19]; exact hc_22) h.2.2)) (by decide) rfl | exact rp_n (cdK_1 (fun h => pif_0 (by rw [← hk_9]; exact hc_12) h.2.1)) (by decide) rfl | exact rp_n (cdK_1 (fun h => pif_0 (by rw [← hk_2]; exact hc_5) h.1)) (by decide) rfl⟩
                        · skip
                          have hp9 := hok.2.2.1 (3 * g + i) (by omega)
                          refine lv_aload_n C.1 C.2.1 dX5_kit_95 rfl (lv_at hl 0 rfl) ?_
                          refine lv_aload_n C.1 C.2.1 dX5_kit_96 rfl (lv_at hl 0 rfl) ?_
                          refine gw_get (Cn := RX5) (T := TX5) (N := 29) C Hh 0 mw_at0 rfl uwX5 4 (by decide) rfl tw_727 rfl dX5_kit_97 ?_
                          refine lv_iconst (v := nI 3) C.1 C.2.1 dX5_kit_100 (by decide +kernel) ?_
                          refine lv_iload_n C.1 C.2.1 dX5_kit_101 rfl (lv_at hl 1 rfl) ?_
                          refine gw_imul C dX5_kit_102 ?_
                          refine lv_iload C.1 C.2.1 dX5_kit_103 (lv_at hl 4 rfl) ?_
                          refine gw_iadd C dX5_kit_105 ?_
                          refine gw_ld C Hh 4 mw_at4 (by decide) dX5_kit_106 (by omega) ?_
                          refine W.eq (g2 := F0 m 107 ls [.int (nI (u.2.1 4 ((3 * g) + i))), .ref (q 0)]) rfl ?_
                          refine lv_iload_n C.1 C.2.1 dX5_kit_107 rfl (lv_at hl 2 rfl) ?_
                          refine gw_icmp_ne (tgt := 115) C dX5_kit_108 (by decide) (by omega) (by omega) (fun hc_108 => ?_) (fun hc_108 => ?_)
                          · skip
                            refine lv_iconst (v := nI 0) C.1 C.2.1 dX5_kit_115 (by decide +kernel) ?_
                            refine gw_put (Cn := RX5) (T := TX5) (N := 29) (ty0 := tyX5) (v := nI (0)) C Hh 0 mw_at0 rfl uwX5 tyX5_ok nmX5 0 (by decide) rfl tw_723 rfl (by decide +kernel) (Nat.le_of_ble_eq_true rfl) mw_num0 dX5_kit_116 (fun H locs Hh => ?_)
                            rw [up1_up1] at Hh
                            refine lv_iinc (v := nI (i + 1)) (lv' := [(4, .int (nI (i + 1))), (0, .ref (q 0)), (1, .int (nI (g))), (2, .int (nI (t))), (3, .int (nI (n)))]) C.1 C.2.1 dX5_kit_119 hl (k := 4) rfl (nI_add _ 1) (by decide) rfl (fun ls hl => ?_)
                            refine lv_goto (tgt := 77) C.1 C.2.1 dX5_kit_122 (by decide) ?_
                            refine lv_aload_n C.1 C.2.1 dX5_kit_77 rfl (lv_at hl 1 rfl) ?_
                            refine gw_get (Cn := RX5) (T := TX5) (N := 29) C Hh 0 mw_at0 rfl uwX5 0 (by decide) rfl tw_723 rfl dX5_kit_78 ?_
                            refine W.eq (g2 := F0 m 81 ls [.int (nI (0))]) rfl ?_
                            refine gw_if_ne (tgt := 125) C dX5_kit_81 (by decide) (by omega) (fun hc_81 => ?_) (fun hc_81 => ?_)
                            · skip
                              exact absurd hc_81 (by decide)
                            · skip
                              exact ih_84 (i + 1)  _ _ _ (by omega) (by intro j hj; by_cases e : j = i; rw [e]; omega; exact hall j (by omega)) (by omega) Hh (lv_sub hl [1, 2, 3, 4, 0] rfl)
                          · skip
                            refine lv_iconst (v := nI 2) C.1 C.2.1 dX5_kit_111 (by decide +kernel) ?_
                            refine lv_goto (tgt := 116) C.1 C.2.1 dX5_kit_112 (by decide) ?_
                            refine gw_put (Cn := RX5) (T := TX5) (N := 29) (ty0 := tyX5) (v := nI (2)) C Hh 0 mw_at0 rfl uwX5 tyX5_ok nmX5 0 (by decide) rfl tw_723 rfl (by decide +kernel) (Nat.le_of_ble_eq_true rfl) mw_num0 dX5_kit_116 (fun H locs Hh => ?_)
                            rw [up1_up1] at Hh
                            refine lv_iinc (v := nI (i + 1)) (lv' := [(4, .int (nI (i + 1))), (0, .ref (q 0)), (1, .int (nI (g))), (2, .int (nI (t))), (3, .int (nI (n)))]) C.1 C.2.1 dX5_kit_119 hl (k := 4) rfl (nI_add _ 1) (by decide) rfl (fun ls hl => ?_)
                            refine lv_goto (tgt := 77) C.1 C.2.1 dX5_kit_122 (by decide) ?_
                            refine lv_aload_n C.1 C.2.1 dX5_kit_77 rfl (lv_at hl 1 rfl) ?_
                            refine gw_get (Cn := RX5) (T := TX5) (N := 29) C Hh 0 mw_at0 rfl uwX5 0 (by decide) rfl tw_723 rfl dX5_kit_78 ?_
                            refine W.eq (g2 := F0 m 81 ls [.int (nI (2))]) rfl ?_
                            refine gw_if_ne (tgt := 125) C dX5_kit_81 (by decide) (by omega) (fun hc_81 => ?_) (fun hc_81 => ?_)
                            · skip
                              refine lv_aload_n C.1 C.2.1 dX5_kit_125 rfl (lv_at hl 1 rfl) ?_
                              refine gw_get (Cn := RX5) (T := TX5) (N := 29) C Hh 0 mw_at0 rfl uwX5 0 (by decide) rfl tw_723 rfl dX5_kit_126 ?_
                              refine W.eq (g2 := F0 m 129 ls [.int (nI (2))]) rfl ?_
                              refine gw_if_ne (tgt := 147) C dX5_kit_129 (by decide) (by omega) (fun hc_129 => ?_) (fun hc_129 => ?_)
                              · skip
                                refine lv_aload_n C.1 C.2.1 dX5_kit_147 rfl (lv_at hl 1 rfl) ?_
                                refine gw_get (Cn := RX5) (T := TX5) (N := 29) C Hh 0 mw_at0 rfl uwX5 0 (by decide) rfl tw_723 rfl dX5_kit_148 ?_
                                refine W.eq (g2 := F0 m 151 ls [.int (nI (2))]) rfl ?_
                                refine gw_if_le (tgt := 156) C dX5_kit_151 (by decide) (by omega) (fun hc_151 => ?_) (fun hc_151 => ?_)
                                · skip
                                  exact absurd hc_151 (by decide)
                                · skip
                                  refine lv_iconst (v := nI 0) C.1 C.2.1 dX5_kit_154 (by decide +kernel) ?_
                                  exact gw_iret (w := mw G q) (u := (up1 u.1 0 (2), u.2.1, u.2.2)) C Hh dX5_kit_155 ⟨_, rfl, by first | exact rp_n (hv9.trans (pif_pos (Or.inr (Or.inr (Or.inl (kt_hm.mpr ⟨i, by omega, by omega⟩)))))) (by decide) rfl | exact rp_n (hv9.trans ((pif_neg hno9).trans (if_neg (by omega)))) (by decide) rfl | exact rp_n (hv9.trans (pif_pos (Or.inr (Or.inr (Or.inr ((kt_iu hok hg6).mpr (Or.inr (pif_1 (by have q := hc_66; rw [hk_63] at q; exact q))))))))) (by decide) rfl | exact rp_n (hv9.trans (pif_pos (Or.inr (Or.inr (Or.inr ((kt_iu hok hg6).mpr (Or.inl (pif_1 (by have q := hc_58; rw [hk_55] at q; exact q))))))))) (by decide) rfl | exact rp_n (hv9.trans (pif_pos (Or.inr (Or.inl hc_50.symm)))) (by decide) rfl | exact rp_n (hv9.trans (pif_pos (Or.inl (show 0 < u.2.1 3 t by split at hk_42 <;> omega)))) (by decide) rfl | exact rp_n (cdK_1 (fun h => pif_0 (by rw [← hi_19]; exact hc_22) h.2.2)) (by decide) rfl | exact rp_n (cdK_1 (fun h => pif_0 (by rw [← hk_9]; exact hc_12) h.2.1)) (by decide) rfl | exact rp_n (cdK_1 (fun h => pif_0 (by rw [← hk_2]; exact hc_5) h.1)) (by decide) rfl⟩
                              · skip
                                exact absurd hc_129 (by decide)
                            · skip
                              exact absurd hc_81 (by decide)
                    exact loop_84 _ (0)  _ _ _ (by omega) (by intro j hj; omega) (Nat.lt_succ_self _) Hh (lv_sub hl [1, 2, 3, 4, 0] rfl)
                · skip
                  refine lv_aload_n C.1 C.2.1 dX5_kit_69 rfl (lv_at hl 0 rfl) ?_
                  refine lv_iconst (v := nI 2) C.1 C.2.1 dX5_kit_70 (by decide +kernel) ?_
                  refine gw_put (Cn := RX5) (T := TX5) (N := 29) (ty0 := tyX5) (v := nI (2)) C Hh 0 mw_at0 rfl uwX5 tyX5_ok nmX5 0 (by decide) rfl tw_723 rfl (by decide +kernel) (Nat.le_of_ble_eq_true rfl) mw_num0 dX5_kit_71 (fun H locs Hh => ?_)
                  rw [up1_up1] at Hh
                  refine lv_iconst (v := nI 0) C.1 C.2.1 dX5_kit_74 (by decide +kernel) ?_
                  refine lv_istore (lv' := [(4, .int (nI (0))), (0, .ref (q 0)), (1, .int (nI (g))), (2, .int (nI (t))), (3, .int (nI (n)))]) C.1 C.2.1 dX5_kit_75 hl (by decide) rfl (fun ls hl => ?_)
                  refine lv_aload_n C.1 C.2.1 dX5_kit_77 rfl (lv_at hl 1 rfl) ?_
                  refine gw_get (Cn := RX5) (T := TX5) (N := 29) C Hh 0 mw_at0 rfl uwX5 0 (by decide) rfl tw_723 rfl dX5_kit_78 ?_
                  refine W.eq (g2 := F0 m 81 ls [.int (nI (2))]) rfl ?_
                  refine gw_if_ne (tgt := 125) C dX5_kit_81 (by decide) (by omega) (fun hc_81 => ?_) (fun hc_81 => ?_)
                  · skip
                    refine lv_aload_n C.1 C.2.1 dX5_kit_125 rfl (lv_at hl 1 rfl) ?_
                    refine gw_get (Cn := RX5) (T := TX5) (N := 29) C Hh 0 mw_at0 rfl uwX5 0 (by decide) rfl tw_723 rfl dX5_kit_126 ?_
                    refine W.eq (g2 := F0 m 129 ls [.int (nI (2))]) rfl ?_
                    refine gw_if_ne (tgt := 147) C dX5_kit_129 (by decide) (by omega) (fun hc_129 => ?_) (fun hc_129 => ?_)
                    · skip
                      refine lv_aload_n C.1 C.2.1 dX5_kit_147 rfl (lv_at hl 1 rfl) ?_
                      refine gw_get (Cn := RX5) (T := TX5) (N := 29) C Hh 0 mw_at0 rfl uwX5 0 (by decide) rfl tw_723 rfl dX5_kit_148 ?_
                      refine W.eq (g2 := F0 m 151 ls [.int (nI (2))]) rfl ?_
                      refine gw_if_le (tgt := 156) C dX5_kit_151 (by decide) (by omega) (fun hc_151 => ?_) (fun hc_151 => ?_)
                      · skip
                        exact absurd hc_151 (by decide)
                      · skip
                        refine lv_iconst (v := nI 0) C.1 C.2.1 dX5_kit_154 (by decide +kernel) ?_
                        exact gw_iret (w := mw G q) (u := (up1 u.1 0 (2), u.2.1, u.2.2)) C Hh dX5_kit_155 ⟨_, rfl, by first | exact rp_n (hv9.trans (pif_pos (Or.inr (Or.inr (Or.inl (kt_hm.mpr ⟨i, by omega, by omega⟩)))))) (by decide) rfl | exact rp_n (hv9.trans ((pif_neg hno9).trans (if_neg (by omega)))) (by decide) rfl | exact rp_n (hv9.trans (pif_pos (Or.inr (Or.inr (Or.inr ((kt_iu hok hg6).mpr (Or.inr (pif_1 (by have q := hc_66; rw [hk_63] at q; exact q))))))))) (by decide) rfl | exact rp_n (hv9.trans (pif_pos (Or.inr (Or.inr (Or.inr ((kt_iu hok hg6).mpr (Or.inl (pif_1 (by have q := hc_58; rw [hk_55] at q; exact q))))))))) (by decide) rfl | exact rp_n (hv9.trans (pif_pos (Or.inr (Or.inl hc_50.symm)))) (by decide) rfl | exact rp_n (hv9.trans (pif_pos (Or.inl (show 0 < u.2.1 3 t by split at hk_42 <;> omega)))) (by decide) rfl | exact rp_n (cdK_1 (fun h => pif_0 (by rw [← hi_19]; exact hc_22) h.2.2)) (by decide) rfl | exact rp_n (cdK_1 (fun h => pif_0 (by rw [← hk_9]; exact hc_12) h.2.1)) (by decide) rfl | exact rp_n (cdK_1 (fun h => pif_0 (by rw [← hk_2]; exact hc_5) h.1)) (by decide) rfl⟩
                    · skip
                      exact absurd hc_129 (by decide)
                  · skip
                    exact absurd hc_81 (by decide)
      · skip
        refine lv_iconst (v := nI 1) C.1 C.2.1 dX5_kit_25 (by decide +kernel) ?_
        refine lv_goto (tgt := 30) C.1 C.2.1 dX5_kit_26 (by decide) ?_
        refine gw_put (Cn := RX5) (T := TX5) (N := 29) (ty0 := tyX5) (v := nI (1)) C Hh 0 mw_at0 rfl uwX5 tyX5_ok nmX5 0 (by decide) rfl tw_723 rfl (by decide +kernel) (Nat.le_of_ble_eq_true rfl) mw_num0 dX5_kit_30 (fun H locs Hh => ?_)
        refine lv_aload_n C.1 C.2.1 dX5_kit_33 rfl (lv_at hl 0 rfl) ?_
        refine gw_get (Cn := RX5) (T := TX5) (N := 29) C Hh 0 mw_at0 rfl uwX5 0 (by decide) rfl tw_723 rfl dX5_kit_34 ?_
        refine W.eq (g2 := F0 m 37 ls [.int (nI (1))]) rfl ?_
        refine gw_if_ne (tgt := 74) C dX5_kit_37 (by decide) (by omega) (fun hc_37 => ?_) (fun hc_37 => ?_)
        · skip
          refine lv_iconst (v := nI 0) C.1 C.2.1 dX5_kit_74 (by decide +kernel) ?_
          refine lv_istore (lv' := [(4, .int (nI (0))), (0, .ref (q 0)), (1, .int (x)), (2, .int (y)), (3, .int (z))]) C.1 C.2.1 dX5_kit_75 hl (by decide) rfl (fun ls hl => ?_)
          refine lv_aload_n C.1 C.2.1 dX5_kit_77 rfl (lv_at hl 1 rfl) ?_
          refine gw_get (Cn := RX5) (T := TX5) (N := 29) C Hh 0 mw_at0 rfl uwX5 0 (by decide) rfl tw_723 rfl dX5_kit_78 ?_
          refine W.eq (g2 := F0 m 81 ls [.int (nI (1))]) rfl ?_
          refine gw_if_ne (tgt := 125) C dX5_kit_81 (by decide) (by omega) (fun hc_81 => ?_) (fun hc_81 => ?_)
          · skip
            refine lv_aload_n C.1 C.2.1 dX5_kit_125 rfl (lv_at hl 1 rfl) ?_
            refine gw_get (Cn := RX5) (T := TX5) (N := 29) C Hh 0 mw_at0 rfl uwX5 0 (by decide) rfl tw_723 rfl dX5_kit_126 ?_
            refine W.eq (g2 := F0 m 129 ls [.int (nI (1))]) rfl ?_
            refine gw_if_ne (tgt := 147) C dX5_kit_129 (by decide) (by omega) (fun hc_129 => ?_) (fun hc_129 => ?_)
            · skip
              refine lv_aload_n C.1 C.2.1 dX5_kit_147 rfl (lv_at hl 1 rfl) ?_
              refine gw_get (Cn := RX5) (T := TX5) (N := 29) C Hh 0 mw_at0 rfl uwX5 0 (by decide) rfl tw_723 rfl dX5_kit_148 ?_
              refine W.eq (g2 := F0 m 151 ls [.int (nI (1))]) rfl ?_
              refine gw_if_le (tgt := 156) C dX5_kit_151 (by decide) (by omega) (fun hc_151 => ?_) (fun hc_151 => ?_)
              · skip
                exact absurd hc_151 (by decide)
              · skip
                refine lv_iconst (v := nI 0) C.1 C.2.1 dX5_kit_154 (by decide +kernel) ?_
                exact gw_iret (w := mw G q) (u := (up1 u.1 0 (1), u.2.1, u.2.2)) C Hh dX5_kit_155 ⟨_, rfl, by first | exact rp_n (hv9.trans (pif_pos (Or.inr (Or.inr (Or.inl (kt_hm.mpr ⟨i, by omega, by omega⟩)))))) (by decide) rfl | exact rp_n (hv9.trans ((pif_neg hno9).trans (if_neg (by omega)))) (by decide) rfl | exact rp_n (hv9.trans (pif_pos (Or.inr (Or.inr (Or.inr ((kt_iu hok hg6).mpr (Or.inr (pif_1 (by have q := hc_66; rw [hk_63] at q; exact q))))))))) (by decide) rfl | exact rp_n (hv9.trans (pif_pos (Or.inr (Or.inr (Or.inr ((kt_iu hok hg6).mpr (Or.inl (pif_1 (by have q := hc_58; rw [hk_55] at q; exact q))))))))) (by decide) rfl | exact rp_n (hv9.trans (pif_pos (Or.inr (Or.inl hc_50.symm)))) (by decide) rfl | exact rp_n (hv9.trans (pif_pos (Or.inl (show 0 < u.2.1 3 t by split at hk_42 <;> omega)))) (by decide) rfl | exact rp_n (cdK_1 (fun h => pif_0 (by rw [← hi_19]; exact hc_22) h.2.2)) (by decide) rfl | exact rp_n (cdK_1 (fun h => pif_0 (by rw [← hk_9]; exact hc_12) h.2.1)) (by decide) rfl | exact rp_n (cdK_1 (fun h => pif_0 (by rw [← hk_2]; exact hc_5) h.1)) (by decide) rfl⟩
            · skip
              exact absurd hc_129 (by decide)
          · skip
            exact absurd hc_81 (by decide)
        · skip
          exact absurd hc_37 (by decide)
