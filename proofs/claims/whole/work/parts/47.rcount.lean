/-! count -/
theorem fl_by3 (f : Nat → Nat) : ∀ n, fl_sum f (n * 3) = fl_sum (fun a => f (a * 3) + f (a * 3 + 1) + f (a * 3 + 2)) n
  | 0 => rfl
  | n + 1 => by
    rw [show (n + 1) * 3 = n * 3 + 1 + 1 + 1 by omega, fl_sum_succ, fl_sum_succ, fl_sum_succ, fl_by3 f n, fl_sum_succ]
    omega
theorem fl_trunc {f : Nat → Nat} {n : Nat} : ∀ {m : Nat}, n ≤ m → (∀ k, n ≤ k → k < m → f k = 0) → fl_sum f m = fl_sum f n
  | 0, h, _ => by rw [show n = 0 by omega]
  | m + 1, h, hz => by
    by_cases q : n = m + 1
    · rw [q]
    · rw [fl_sum_succ, hz m (by omega) (by omega), fl_trunc (m := m) (by omega) (fun k h1 h2 => hz k h1 (by omega))]
      rfl
theorem cv_sum {w : pf_S} (hg : gd_ok w) (h15 : ∀ o, o < 10 → w.2 15 o < 6) (h10 : w.1 1 ≤ 10) : fl_sum (fun d => pif (cvd w d) (od_w w (d / 3) (d % 3)) 0) 31 = fl_sum (fun a => if w.2 18 a = 0 then fl_sum (od_w w a) (od_n w a) else 0) (w.1 1) := by
  have h0 : pif (cvd w 30) (od_w w (30 / 3) (30 % 3)) 0 = 0 := pif_neg (fun h => by have : 30 / 3 < w.1 1 := h.1; omega)
  rw [fl_sum_succ, h0, Nat.add_zero, show (30 : Nat) = 10 * 3 from rfl, fl_by3]
  refine Eq.trans (fl_trunc h10 (fun a h1 h2 => ?_)) (fl_sum_congr fun a ha => ?_)
  · have e : ∀ x, x < 3 → pif (cvd w (a * 3 + x)) (od_w w ((a * 3 + x) / 3) ((a * 3 + x) % 3)) 0 = 0 := fun x hx => pif_neg (fun h => by have := h.1; omega)
    have e0 := e 0 (by decide)
    have e1 := e 1 (by decide)
    have e2 := e 2 (by decide)
    rw [Nat.add_zero] at e0
    omega
  · have hn := gd_dn_le hg (h15 a (by omega))
    have e : ∀ x, x < 3 → pif (cvd w (a * 3 + x)) (od_w w ((a * 3 + x) / 3) ((a * 3 + x) % 3)) 0 = if w.2 18 a = 0 ∧ x < od_n w a then od_w w a x else 0 := fun x hx => by
      rw [show (a * 3 + x) / 3 = a by omega, show (a * 3 + x) % 3 = x by omega, ← pif_if]
      refine pif_iff ?_
      unfold cvd
      rw [show (a * 3 + x) / 3 = a by omega, show (a * 3 + x) % 3 = x by omega]
      exact ⟨fun h => h.2, fun h => ⟨ha, h⟩⟩
    have e0 := e 0 (by decide)
    have e1 := e 1 (by decide)
    have e2 := e 2 (by decide)
    rw [Nat.add_zero] at e0
    rw [e0, e1, e2]
    have hn2 : od_n w a = 1 ∨ od_n w a = 2 ∨ od_n w a = 3 := by
      have : od_n w a = gd_dn w (w.2 15 a) := rfl
      omega
    by_cases q : w.2 18 a = 0
    · rw [if_pos q]
      rcases hn2 with h | h | h <;> rw [h] <;> simp [q, fl_sum]
    · rw [if_neg q, if_neg (fun h => q h.1), if_neg (fun h => q h.1), if_neg (fun h => q h.1)]
theorem ct5 {u v : md_S} (hok : md_ok u) (h : dl (vw u) v (cvd (vw u))) : il_sum (v.2.2 17) (v.1 3) = (ct (vw u) 5 : Int) := by
  obtain ⟨e, he⟩ := h
  have h10 := hok.1.2
  rw [il_nat (g := fun i => (fun d => od_w (vw u) (d / 3) (d % 3)) (e i)) (fun i hi => (he.1 i hi).2.2.2.2), dlse_sum he.S (fun d hd => by
    have : d / 3 < u.1 2 := hd.1
    omega) (fun d => od_w (vw u) (d / 3) (d % 3)), cv_sum (md_gd hok) (fun o ho => (hok.2.2.2.2 o ho).2.1) h10]
  rfl
def ct_a (u : md_S) (j i : Nat) : Nat := if j < 4 then fl_sum (fun o => if u.2.1 14 o = j - 2 then 1 else 0) i else 0
def ct_b (u : md_S) (j i : Nat) : Nat := if j = 4 then fl_sum (fun a => u.2.1 8 a - u.2.1 9 a) i else 0
theorem ct_as {u : md_S} {j i : Nat} (h : j < 4) : ct_a u j (i + 1) = ct_a u j i + if u.2.1 14 i = j - 2 then 1 else 0 := by
  unfold ct_a
  rw [if_pos h, if_pos h, fl_sum_succ]
theorem ct_bs {u : md_S} {i : Nat} : ct_b u 4 (i + 1) = ct_b u 4 i + (u.2.1 8 i - u.2.1 9 i) := rfl
theorem ct_al {u : md_S} {j i : Nat} : ct_a u j i ≤ i := by
  unfold ct_a
  split
  · exact fl_sum_cnt (fun k => by split <;> omega) _
  · omega
theorem ct_bl {u : md_S} (hok : md_ok u) {j i : Nat} (hi : i ≤ u.1 1) : ct_b u j i ≤ 10000000 := by
  unfold ct_b
  have h1 := hok.1.1
  split
  · have := sum_le_c (f := fun a => u.2.1 8 a - u.2.1 9 a) (c := 1000000) (n := i) (fun a ha => by
      have := (hok.2.2.2.1 a (by omega)).2.2.1
      omega)
    omega
  · omega
theorem ct_e {u : md_S} {j : Nat} (h2 : 2 ≤ j) (h5 : j ≤ 4) : ct_a u j (u.1 2) + ct_b u j (u.1 1) = ct (vw u) j := by
  have hj : j = 2 ∨ j = 3 ∨ j = 4 := by omega
  rcases hj with e | e | e <;> subst e
  · rfl
  · rfl
  · show 0 + fl_sum (fun a => u.2.1 8 a - u.2.1 9 a) (u.1 1) = _
    rw [Nat.zero_add]
    rfl
theorem ct_a0 {u : md_S} {j i : Nat} (h : 4 ≤ j) : ct_a u j i = 0 := if_neg (by omega)
theorem ct_b0 {u : md_S} {j i : Nat} (h : j ≠ 4) : ct_b u j i = 0 := if_neg h
theorem il_17 {v : md_S} (h : md_bd v) {i : Nat} (hi : i ≤ 40) : 0 ≤ il_sum (v.2.2 17) i ∧ il_sum (v.2.2 17) i ≤ 40000000 := by
  have := il_bd (f := v.2.2 17) (m := 1000000) (n := i) (by decide) (fun k hk => (h.2.1 k (by omega)).2)
  omega
set_option maxHeartbeats 4000000 in
set_option maxRecDepth 100000 in
theorem c_X5_count (l : Launch) (G : gw_G) (q : Nat → Nat) (u : md_S) (x : Int32) (hm : md2 u) : gw_MI l yX5_count cX5_count 5 (some .int) 4 96 [.ref (q 0), .int (x)] G (mw G q) u (fun r u1 => ∃ k : Nat, r = nI k ∧ (k = cnt (vw u) x ∧ u1.1 0 = 0 ∧ sc u u1 ∧ md_bd u1)) := by
  refine gw_entryI (own := RX5) (by decide) rfl (Nat.le_of_ble_eq_true rfl) ?_
  intro p e s m args below meth c A ls C Hh hl
  have hl : lv_has ls 5 [(0, .ref (q 0)), (1, .int (x))] := hl
  have hok := hm.1
  have hbd := hm.2
  have h01 := hok.1.1
  have h02 := hok.1.2
  have hsU : sc u (up1 u.1 0 0, u.2) := ⟨rfl, rfl, fun _ _ _ => rfl⟩
  have hbU : md_bd (up1 u.1 0 0, u.2) := bd_code hbd rfl rfl
  refine lv_aload_n C.1 C.2.1 dX5_count_0 rfl (lv_at hl 0 rfl) ?_
  refine lv_iconst (v := nI 0) C.1 C.2.1 dX5_count_1 (by decide +kernel) ?_
  refine gw_put (Cn := RX5) (T := TX5) (N := 29) (ty0 := tyX5) (v := nI (0)) C Hh 0 mw_at0 rfl uwX5 tyX5_ok nmX5 0 (by decide) rfl tw_723 rfl (by decide +kernel) (Nat.le_of_ble_eq_true rfl) mw_num0 dX5_count_2 (fun H locs Hh => ?_)
  refine lv_iload_n C.1 C.2.1 dX5_count_5 rfl (lv_at hl 1 rfl) ?_
  refine lv_if_ne (tgt := 14) C.1 C.2.1 dX5_count_6 (by decide) (fun hc_6 => ?_) (fun hc_6 => ?_)
  · skip
    refine lv_iload_n C.1 C.2.1 dX5_count_14 rfl (lv_at hl 1 rfl) ?_
    refine lv_iconst (v := nI 1) C.1 C.2.1 dX5_count_15 (by decide +kernel) ?_
    refine lv_icmp_ne (tgt := 24) C.1 C.2.1 dX5_count_16 (by decide) (fun hc_16 => ?_) (fun hc_16 => ?_)
    · skip
      refine lv_iload_n C.1 C.2.1 dX5_count_24 rfl (lv_at hl 1 rfl) ?_
      refine lv_iconst (v := nI 2) C.1 C.2.1 dX5_count_25 (by decide +kernel) ?_
      refine lv_iconst (v := nI 5) C.1 C.2.1 dX5_count_26 (by decide +kernel) ?_
      refine gw_fromI (w := mw G q) (u := (up1 u.1 0 (0), u.2.1, u.2.2)) C Hh (gw_runS (n := 3) [.int (x), .int (nI (2)), .int (nI (5))] C Hh (c_X5_in l G q ((up1 u.1 0 (0), u.2.1, u.2.2)) (x) (nI (2)) (nI (5))  _) tw_820 tw_821 tw_71 tw_822 (by decide +kernel) ⟨Nat.le_of_ble_eq_true rfl, Nat.le_of_ble_eq_true rfl⟩ rfl hl.1 (Nat.le_of_ble_eq_true rfl) dX5_count_27 ⟨Nat.zero_le _, Nat.zero_le _⟩) (fun rc_27 uc_27 H locs hp_27 Hh => ?_)
      obtain ⟨kc_27, rfl, hp_27⟩ := hp_27
      obtain ⟨hk_27, hu_27⟩ := hp_27
      rw [hu_27] at Hh
      clear hu_27
      have hi_27 := ir_m (by decide) (by decide) hk_27
      refine gw_if_ne (tgt := 35) C dX5_count_30 (by decide) (by rw [hi_27]; exact Nat.lt_of_le_of_lt (pif_le _) (by decide)) (fun hc_30 => ?_) (fun hc_30 => ?_)
      · skip
        obtain ⟨j, hx_j, hj_j⟩ := ir_n (hc := hc_30) hi_27
        rw [hx_j] at hl
        refine lv_lconst (v := Int64.ofInt (0)) C.1 C.2.1 dX5_count_35 rfl ?_
        refine lv_lstore_n (lv' := [(2, .long (Int64.ofInt (0))), (0, .ref (q 0)), (1, .int (nI (j)))]) C.1 C.2.1 dX5_count_36 rfl hl (by decide) rfl (fun ls hl => ?_)
        refine lv_iconst (v := nI 0) C.1 C.2.1 dX5_count_37 (by decide +kernel) ?_
        refine lv_istore (lv' := [(4, .int (nI (0))), (2, .long (Int64.ofInt (0))), (0, .ref (q 0)), (1, .int (nI (j)))]) C.1 C.2.1 dX5_count_38 hl (by decide) rfl (fun ls hl => ?_)
        have loop_40 : ∀ (fu : Nat) (n : Int) (i : Nat) (H : Heap) (locs : List Loc) (ls : Array Slot), (i ≤ u.1 2) → (n = (ct_a u j i : Int)) → (4 ≤ j → i = 0) → u.1 2 - i < fu → gw_H G A s (mw G q (up1 u.1 0 (0), u.2.1, u.2.2)) H locs → lv_has ls 5 [(0, .ref (q 0)), (1, .int (nI (j))), (2, .long (Int64.ofInt (n))), (4, .int (nI (i)))] → W p l e (gw_rm 4 96) s m args below meth c H locs 0 0 (MQ below (va_Qi (fun r u1 => ∃ k : Nat, r = nI k ∧ (k = cnt (vw u) x ∧ u1.1 0 = 0 ∧ sc u u1 ∧ md_bd u1)) (gw_at G A (mw G q)) A) args s 0 0 A) (F0 m 40 ls []) := by
          intro fu
          induction fu with
          | zero =>
            intro n i  H locs ls hi hn hz hmf
            exact absurd hmf (Nat.not_lt_zero _)
          | succ fu ih_40 =>
            intro n i  H locs ls hi hn hz hmf Hh hl
            have join_81 : ∀ (n1 : Int) (H : Heap) (locs : List Loc) (ls : Array Slot), (n1 = (ct_a u j (u.1 2) : Int)) → gw_H G A s (mw G q (up1 u.1 0 (0), u.2.1, u.2.2)) H locs → lv_has ls 5 [(0, .ref (q 0)), (1, .int (nI (j))), (2, .long (Int64.ofInt (n1)))] → W p l e (gw_rm 4 96) s m args below meth c H locs 0 0 (MQ below (va_Qi (fun r u1 => ∃ k : Nat, r = nI k ∧ (k = cnt (vw u) x ∧ u1.1 0 = 0 ∧ sc u u1 ∧ md_bd u1)) (gw_at G A (mw G q)) A) args s 0 0 A) (F0 m 81 ls []) := by
              intro n1  H locs ls hn1 Hh hl
              refine lv_iconst (v := nI 0) C.1 C.2.1 dX5_count_81 (by decide +kernel) ?_
              refine lv_istore (lv' := [(4, .int (nI (0))), (0, .ref (q 0)), (1, .int (nI (j))), (2, .long (Int64.ofInt (n1)))]) C.1 C.2.1 dX5_count_82 hl (by decide) rfl (fun ls hl => ?_)
              have loop_84 : ∀ (fu : Nat) (n : Int) (i : Nat) (H : Heap) (locs : List Loc) (ls : Array Slot), (i ≤ u.1 1) → (n = (ct_a u j (u.1 2) + ct_b u j i : Int)) → u.1 1 - i < fu → gw_H G A s (mw G q (up1 u.1 0 (0), u.2.1, u.2.2)) H locs → lv_has ls 5 [(0, .ref (q 0)), (1, .int (nI (j))), (2, .long (Int64.ofInt (n))), (4, .int (nI (i)))] → W p l e (gw_rm 4 96) s m args below meth c H locs 0 0 (MQ below (va_Qi (fun r u1 => ∃ k : Nat, r = nI k ∧ (k = cnt (vw u) x ∧ u1.1 0 = 0 ∧ sc u u1 ∧ md_bd u1)) (gw_at G A (mw G q)) A) args s 0 0 A) (F0 m 84 ls []) := by
                intro fu
                induction fu with
                | zero =>
                  intro n i  H locs ls hi hn hmf
                  exact absurd hmf (Nat.not_lt_zero _)
                | succ fu ih_84 =>
                  intro n i  H locs ls hi hn hmf Hh hl
                  have join_123 : ∀ (n : Int) (H : Heap) (locs : List Loc) (ls : Array Slot), (n = (ct_a u j (u.1 2) + ct_b u j (u.1 1) : Int)) → gw_H G A s (mw G q (up1 u.1 0 (0), u.2.1, u.2.2)) H locs → lv_has ls 5 [(0, .ref (q 0)), (1, .int (nI (j))), (2, .long (Int64.ofInt (n)))] → W p l e (gw_rm 4 96) s m args below meth c H locs 0 0 (MQ below (va_Qi (fun r u1 => ∃ k : Nat, r = nI k ∧ (k = cnt (vw u) x ∧ u1.1 0 = 0 ∧ sc u u1 ∧ md_bd u1)) (gw_at G A (mw G q)) A) args s 0 0 A) (F0 m 123 ls []) := by
                    intro n  H locs ls hn Hh hl
                    refine lv_iload_n C.1 C.2.1 dX5_count_123 rfl (lv_at hl 1 rfl) ?_
                    refine lv_iconst (v := nI 5) C.1 C.2.1 dX5_count_124 (by decide +kernel) ?_
                    refine gw_icmp_ne (tgt := 160) C dX5_count_125 (by decide) (by omega) (by omega) (fun hc_125 => ?_) (fun hc_125 => ?_)
                    · skip
                      refine lv_lload_n C.1 C.2.1 dX5_count_160 rfl (lv_at hl 2 rfl) ?_
                      refine gw_l2i C dX5_count_161 (by first | (rw [hn2]; exact (il_17 hp_129.2.1 (by omega)).1) | (rw [hn]; omega)) (by first | (rw [hn2]; have := (il_17 hp_129.2.1 (i := i) (by omega)).2; omega) | (rw [hn]; have := ct_al (u := u) (j := j) (i := u.1 2); have := ct_bl hok (j := j) (Nat.le_refl (u.1 1)); omega)) ?_
                      exact gw_iret (w := mw G q) (u := (up1 u.1 0 (0), u.2.1, u.2.2)) C Hh dX5_count_162 ⟨_, rfl, by rw [cnt_v hx_j (by omega)]; first | (have q7 := ct5 (v := uc_129) (u := u) hok hp_129.2.2.2.1; rw [← show i = uc_129.1 3 by omega, ← hn2] at q7; refine ⟨?_, hp_129.1.2, hsU.tr hp_129.1.1, hp_129.2.1⟩; rw [q7, show j = 5 by omega]; exact Int.toNat_natCast _) | (refine ⟨?_, rfl, hsU, hbU⟩; rw [hn, ← Int.natCast_add, Int.toNat_natCast]; exact ct_e (by omega) (by omega))⟩
                    · skip
                      refine lv_aload_n C.1 C.2.1 dX5_count_128 rfl (lv_at hl 0 rfl) ?_
                      refine gw_fromV (w := mw G q) (u := (up1 u.1 0 (0), u.2.1, u.2.2)) C Hh (gw_runV (n := 0) (C1 := RX5) [] C Hh (c_X5_collect l G q ((up1 u.1 0 (0), u.2.1, u.2.2))  (by exact sc_ok hsU hok) (by exact hbU) _) tw_895 tw_897 tw_59 tw_71 tw_898 (by decide +kernel) ⟨Nat.le_of_ble_eq_true rfl, Nat.le_of_ble_eq_true rfl⟩ 0 mw_at0 rfl rfl hl.1 (Nat.le_of_ble_eq_true rfl) dX5_count_129 ⟨Nat.zero_le _, Nat.zero_le _⟩) (fun uc_129 H locs hp_129 Hh => ?_)
                      have h30 := hp_129.2.2.1
                      have n9 : n = 0 := by (rw [hn, ct_a0 (by omega), ct_b0 (by omega)]; rfl)
                      refine lv_iconst (v := nI 0) C.1 C.2.1 dX5_count_132 (by decide +kernel) ?_
                      refine lv_istore (lv' := [(4, .int (nI (0))), (0, .ref (q 0)), (1, .int (nI (j))), (2, .long (Int64.ofInt (n)))]) C.1 C.2.1 dX5_count_133 hl (by decide) rfl (fun ls hl => ?_)
                      have loop_135 : ∀ (fu : Nat) (n2 : Int) (i : Nat) (H : Heap) (locs : List Loc) (ls : Array Slot), (i ≤ uc_129.1 3) → (n2 = il_sum (uc_129.2.2 17) i) → uc_129.1 3 - i < fu → gw_H G A s (mw G q uc_129) H locs → lv_has ls 5 [(0, .ref (q 0)), (1, .int (nI (j))), (2, .long (Int64.ofInt (n2))), (4, .int (nI (i)))] → W p l e (gw_rm 4 96) s m args below meth c H locs 0 0 (MQ below (va_Qi (fun r u1 => ∃ k : Nat, r = nI k ∧ (k = cnt (vw u) x ∧ u1.1 0 = 0 ∧ sc u u1 ∧ md_bd u1)) (gw_at G A (mw G q)) A) args s 0 0 A) (F0 m 135 ls []) := by
                        intro fu
                        induction fu with
                        | zero =>
                          intro n2 i  H locs ls hi hn2 hmf
                          exact absurd hmf (Nat.not_lt_zero _)
                        | succ fu ih_135 =>
                          intro n2 i  H locs ls hi hn2 hmf Hh hl
                          refine lv_iload C.1 C.2.1 dX5_count_135 (lv_at hl 3 rfl) ?_
                          refine lv_aload_n C.1 C.2.1 dX5_count_137 rfl (lv_at hl 0 rfl) ?_
                          refine gw_get (Cn := RX5) (T := TX5) (N := 29) C Hh 0 mw_at0 rfl uwX5 17 (by decide) rfl tw_740 rfl dX5_count_138 ?_
                          refine gw_icmp_ge (tgt := 160) C dX5_count_141 (by decide) (by omega) (by omega) (fun hc_141 => ?_) (fun hc_141 => ?_)
                          · skip
                            refine lv_lload_n C.1 C.2.1 dX5_count_160 rfl (lv_at hl 2 rfl) ?_
                            refine gw_l2i C dX5_count_161 (by first | (rw [hn2]; exact (il_17 hp_129.2.1 (by omega)).1) | (rw [hn]; omega)) (by first | (rw [hn2]; have := (il_17 hp_129.2.1 (i := i) (by omega)).2; omega) | (rw [hn]; have := ct_al (u := u) (j := j) (i := u.1 2); have := ct_bl hok (j := j) (Nat.le_refl (u.1 1)); omega)) ?_
                            exact gw_iret (w := mw G q) (u := uc_129) C Hh dX5_count_162 ⟨_, rfl, by rw [cnt_v hx_j (by omega)]; first | (have q7 := ct5 (v := uc_129) (u := u) hok hp_129.2.2.2.1; rw [← show i = uc_129.1 3 by omega, ← hn2] at q7; refine ⟨?_, hp_129.1.2, hsU.tr hp_129.1.1, hp_129.2.1⟩; rw [q7, show j = 5 by omega]; exact Int.toNat_natCast _) | (refine ⟨?_, rfl, hsU, hbU⟩; rw [hn, ← Int.natCast_add, Int.toNat_natCast]; exact ct_e (by omega) (by omega))⟩
                          · skip
                            refine lv_lload_n C.1 C.2.1 dX5_count_144 rfl (lv_at hl 2 rfl) ?_
                            refine lv_aload_n C.1 C.2.1 dX5_count_145 rfl (lv_at hl 0 rfl) ?_
                            refine gw_get (Cn := RX5) (T := TX5) (N := 29) C Hh 0 mw_at0 rfl uwX5 20 (by decide) rfl tw_743 rfl dX5_count_146 ?_
                            refine lv_iload C.1 C.2.1 dX5_count_149 (lv_at hl 3 rfl) ?_
                            refine gw_lld C Hh 17 mw_at17 (by decide) dX5_count_151 (by omega) ?_
                            refine gw_ladd C dX5_count_152 ?_
                            refine lv_lstore_n (lv' := [(2, .long (Int64.ofInt (n2 + (uc_129.2.2 17 (i))))), (0, .ref (q 0)), (1, .int (nI (j))), (4, .int (nI (i)))]) C.1 C.2.1 dX5_count_153 rfl hl (by decide) rfl (fun ls hl => ?_)
                            refine lv_iinc (v := nI (i + 1)) (lv' := [(4, .int (nI (i + 1))), (2, .long (Int64.ofInt (n2 + (uc_129.2.2 17 (i))))), (0, .ref (q 0)), (1, .int (nI (j)))]) C.1 C.2.1 dX5_count_154 hl (k := 3) rfl (nI_add _ 1) (by decide) rfl (fun ls hl => ?_)
                            refine lv_goto (tgt := 135) C.1 C.2.1 dX5_count_157 (by decide) ?_
                            exact ih_135 (n2 + uc_129.2.2 17 i) (i + 1)  _ _ _ (by omega) (by rw [hn2]; rfl) (by omega) Hh (lv_sub hl [2, 3, 1, 0] rfl)
                      exact loop_135 _ (n) (0)  _ _ _ (by omega) (by rw [n9]; rfl) (Nat.lt_succ_self _) Hh (lv_sub hl [1, 2, 3, 0] rfl)
                  refine lv_iload C.1 C.2.1 dX5_count_84 (lv_at hl 3 rfl) ?_
                  refine lv_aload_n C.1 C.2.1 dX5_count_86 rfl (lv_at hl 0 rfl) ?_
                  refine gw_get (Cn := RX5) (T := TX5) (N := 29) C Hh 0 mw_at0 rfl uwX5 6 (by decide) rfl tw_729 rfl dX5_count_87 ?_
                  refine W.eq (g2 := F0 m 90 ls [.int (nI (u.1 1)), .int (nI (i))]) rfl ?_
                  refine gw_icmp_ge (tgt := 123) C dX5_count_90 (by decide) (by omega) (by omega) (fun hc_90 => ?_) (fun hc_90 => ?_)
                  · skip
                    exact join_123 (n)  _ _ _ (by rw [hn, show i = u.1 1 by omega]) Hh (lv_sub hl [0, 1, 2] rfl)
                  · skip
                    refine lv_iload_n C.1 C.2.1 dX5_count_93 rfl (lv_at hl 1 rfl) ?_
                    refine lv_iconst (v := nI 4) C.1 C.2.1 dX5_count_94 (by decide +kernel) ?_
                    refine gw_icmp_ne (tgt := 123) C dX5_count_95 (by decide) (by omega) (by omega) (fun hc_95 => ?_) (fun hc_95 => ?_)
                    · skip
                      exact join_123 (n)  _ _ _ (by rw [hn, ct_b0 hc_95, ct_b0 hc_95]) Hh (lv_sub hl [0, 1, 2] rfl)
                    · skip
                      have ha9 := hok.2.2.2.1 i (by omega)
                      refine lv_lload_n C.1 C.2.1 dX5_count_98 rfl (lv_at hl 2 rfl) ?_
                      refine lv_aload_n C.1 C.2.1 dX5_count_99 rfl (lv_at hl 0 rfl) ?_
                      refine gw_get (Cn := RX5) (T := TX5) (N := 29) C Hh 0 mw_at0 rfl uwX5 9 (by decide) rfl tw_732 rfl dX5_count_100 ?_
                      refine lv_iload C.1 C.2.1 dX5_count_103 (lv_at hl 3 rfl) ?_
                      refine gw_ld C Hh 8 mw_at8 (by decide) dX5_count_105 (by omega) ?_
                      refine W.eq (g2 := F0 m 106 ls [.int (nI (u.2.1 8 (i))), .long (Int64.ofInt (n))]) rfl ?_
                      refine lv_aload_n C.1 C.2.1 dX5_count_106 rfl (lv_at hl 0 rfl) ?_
                      refine gw_get (Cn := RX5) (T := TX5) (N := 29) C Hh 0 mw_at0 rfl uwX5 10 (by decide) rfl tw_733 rfl dX5_count_107 ?_
                      refine lv_iload C.1 C.2.1 dX5_count_110 (lv_at hl 3 rfl) ?_
                      refine gw_ld C Hh 9 mw_at9 (by decide) dX5_count_112 (by omega) ?_
                      refine W.eq (g2 := F0 m 113 ls [.int (nI (u.2.1 9 (i))), .int (nI (u.2.1 8 (i))), .long (Int64.ofInt (n))]) rfl ?_
                      refine gw_isub C dX5_count_113 (by omega) ?_
                      refine gw_i2l C dX5_count_114 (by omega) ?_
                      refine gw_ladd C dX5_count_115 ?_
                      refine lv_lstore_n (lv' := [(2, .long (Int64.ofInt (n + ((((u.2.1 8 (i)) - (u.2.1 9 (i)) : Nat) : Int))))), (0, .ref (q 0)), (1, .int (nI (j))), (4, .int (nI (i)))]) C.1 C.2.1 dX5_count_116 rfl hl (by decide) rfl (fun ls hl => ?_)
                      refine lv_iinc (v := nI (i + 1)) (lv' := [(4, .int (nI (i + 1))), (2, .long (Int64.ofInt (n + ((((u.2.1 8 (i)) - (u.2.1 9 (i)) : Nat) : Int))))), (0, .ref (q 0)), (1, .int (nI (j)))]) C.1 C.2.1 dX5_count_117 hl (k := 3) rfl (nI_add _ 1) (by decide) rfl (fun ls hl => ?_)
                      refine lv_goto (tgt := 84) C.1 C.2.1 dX5_count_120 (by decide) ?_
                      exact ih_84 (n + ((u.2.1 8 i - u.2.1 9 i : Nat) : Int)) (i + 1)  _ _ _ (by omega) (by rw [hn, hc_95, ct_bs, Int.natCast_add]; omega) (by omega) Hh (lv_sub hl [2, 3, 1, 0] rfl)
              exact loop_84 _ (n1) (0)  _ _ _ (by omega) (by rw [hn1]; unfold ct_b; split <;> (show _ = _ + (0 : Int); omega)) (Nat.lt_succ_self _) Hh (lv_sub hl [1, 2, 3, 0] rfl)
            refine lv_iload C.1 C.2.1 dX5_count_40 (lv_at hl 3 rfl) ?_
            refine lv_aload_n C.1 C.2.1 dX5_count_42 rfl (lv_at hl 0 rfl) ?_
            refine gw_get (Cn := RX5) (T := TX5) (N := 29) C Hh 0 mw_at0 rfl uwX5 11 (by decide) rfl tw_734 rfl dX5_count_43 ?_
            refine W.eq (g2 := F0 m 46 ls [.int (nI (u.1 2)), .int (nI (i))]) rfl ?_
            refine gw_icmp_ge (tgt := 81) C dX5_count_46 (by decide) (by omega) (by omega) (fun hc_46 => ?_) (fun hc_46 => ?_)
            · skip
              exact join_81 (n)  _ _ _ (by rw [hn, show i = u.1 2 by omega]) Hh (lv_sub hl [0, 1, 2] rfl)
            · skip
              refine lv_iload_n C.1 C.2.1 dX5_count_49 rfl (lv_at hl 1 rfl) ?_
              refine lv_iconst (v := nI 4) C.1 C.2.1 dX5_count_50 (by decide +kernel) ?_
              refine gw_icmp_ge (tgt := 81) C dX5_count_51 (by decide) (by omega) (by omega) (fun hc_51 => ?_) (fun hc_51 => ?_)
              · skip
                exact join_81 (n)  _ _ _ (by rw [hn, ct_a0 (by omega), ct_a0 (by omega)]) Hh (lv_sub hl [0, 1, 2] rfl)
              · skip
                have ho9 := hok.2.2.2.2 i (by omega)
                have join_73 : ∀ (v : Int) (H : Heap) (locs : List Loc) (ls : Array Slot), (v = ((if u.2.1 14 i = j - 2 then 1 else 0 : Nat) : Int)) → gw_H G A s (mw G q (up1 u.1 0 (0), u.2.1, u.2.2)) H locs → lv_has ls 5 [(0, .ref (q 0)), (1, .int (nI (j))), (2, .long (Int64.ofInt (n))), (4, .int (nI (i)))] → W p l e (gw_rm 4 96) s m args below meth c H locs 0 0 (MQ below (va_Qi (fun r u1 => ∃ k : Nat, r = nI k ∧ (k = cnt (vw u) x ∧ u1.1 0 = 0 ∧ sc u u1 ∧ md_bd u1)) (gw_at G A (mw G q)) A) args s 0 0 A) (F0 m 73 ls [.long (Int64.ofInt (v)), .long (Int64.ofInt (n))]) := by
                  intro v  H locs ls hv Hh hl
                  refine gw_ladd C dX5_count_73 ?_
                  refine lv_lstore_n (lv' := [(2, .long (Int64.ofInt (n + v))), (0, .ref (q 0)), (1, .int (nI (j))), (4, .int (nI (i)))]) C.1 C.2.1 dX5_count_74 rfl hl (by decide) rfl (fun ls hl => ?_)
                  refine lv_iinc (v := nI (i + 1)) (lv' := [(4, .int (nI (i + 1))), (2, .long (Int64.ofInt (n + v))), (0, .ref (q 0)), (1, .int (nI (j)))]) C.1 C.2.1 dX5_count_75 hl (k := 3) rfl (nI_add _ 1) (by decide) rfl (fun ls hl => ?_)
                  refine lv_goto (tgt := 40) C.1 C.2.1 dX5_count_78 (by decide) ?_
                  exact ih_40 (n + v) (i + 1)  _ _ _ (by omega) (by rw [hn, hv, ct_as (by omega), Int.natCast_add]) (by omega) (by omega) Hh (lv_sub hl [2, 3, 1, 0] rfl)
                refine lv_lload_n C.1 C.2.1 dX5_count_54 rfl (lv_at hl 2 rfl) ?_
                refine lv_aload_n C.1 C.2.1 dX5_count_55 rfl (lv_at hl 0 rfl) ?_
                refine gw_get (Cn := RX5) (T := TX5) (N := 29) C Hh 0 mw_at0 rfl uwX5 16 (by decide) rfl tw_739 rfl dX5_count_56 ?_
                refine lv_iload C.1 C.2.1 dX5_count_59 (lv_at hl 3 rfl) ?_
                refine gw_ld C Hh 14 mw_at14 (by decide) dX5_count_61 (by omega) ?_
                refine W.eq (g2 := F0 m 62 ls [.int (nI (u.2.1 14 (i))), .long (Int64.ofInt (n))]) rfl ?_
                refine lv_iload_n C.1 C.2.1 dX5_count_62 rfl (lv_at hl 1 rfl) ?_
                refine lv_iconst (v := nI 2) C.1 C.2.1 dX5_count_63 (by decide +kernel) ?_
                refine gw_isub C dX5_count_64 (by omega) ?_
                refine gw_icmp_ne (tgt := 72) C dX5_count_65 (by decide) (by omega) (by omega) (fun hc_65 => ?_) (fun hc_65 => ?_)
                · skip
                  refine lv_lconst (v := Int64.ofInt (0)) C.1 C.2.1 dX5_count_72 rfl ?_
                  exact join_73 (0)  _ _ _ (by rw [if_neg hc_65]; rfl) Hh (lv_sub hl [0, 1, 2, 3] rfl)
                · skip
                  refine lv_lconst (v := Int64.ofInt (1)) C.1 C.2.1 dX5_count_68 rfl ?_
                  refine lv_goto (tgt := 73) C.1 C.2.1 dX5_count_69 (by decide) ?_
                  exact join_73 (1)  _ _ _ (by rw [if_pos hc_65]; rfl) Hh (lv_sub hl [0, 1, 2, 3] rfl)
        exact loop_40 _ (0) (0)  _ _ _ (by omega) (by unfold ct_a; split <;> rfl) (by omega) (Nat.lt_succ_self _) Hh (lv_sub hl [2, 3, 1, 0] rfl)
      · skip
        refine lv_iconst (v := nI 4294967295) C.1 C.2.1 dX5_count_33 (by decide +kernel) ?_
        exact gw_iret (w := mw G q) (u := (up1 u.1 0 (0), u.2.1, u.2.2)) C Hh dX5_count_34 ⟨_, rfl, by exact ⟨(cnt_n (fun h => pif_0 (hi_27.symm.trans hc_30) (by obtain ⟨j9, h1, h2, h3⟩ := inr_nI h; refine inr_ok h1 (by decide) ?_ h3; rcases Nat.lt_or_ge j9 2 with q | q; exfalso; have q2 : j9 = 0 ∨ j9 = 1 := (by omega); rcases q2 with q2 | q2 <;> subst q2; exact hc_6 h1; exact hc_16 h1; exact q))).symm, rfl, hsU, hbU⟩⟩
    · skip
      refine lv_aload_n C.1 C.2.1 dX5_count_19 rfl (lv_at hl 0 rfl) ?_
      refine gw_get (Cn := RX5) (T := TX5) (N := 29) C Hh 0 mw_at0 rfl uwX5 11 (by decide) rfl tw_734 rfl dX5_count_20 ?_
      refine W.eq (g2 := F0 m 23 ls [.int (nI (u.1 2))]) rfl ?_
      exact gw_iret (w := mw G q) (u := (up1 u.1 0 (0), u.2.1, u.2.2)) C Hh dX5_count_23 ⟨_, rfl, by exact ⟨(cnt_v (u := vw u) (j := 1) hc_16 (by decide)).symm, rfl, hsU, hbU⟩⟩
  · skip
    refine lv_aload_n C.1 C.2.1 dX5_count_9 rfl (lv_at hl 0 rfl) ?_
    refine gw_get (Cn := RX5) (T := TX5) (N := 29) C Hh 0 mw_at0 rfl uwX5 6 (by decide) rfl tw_729 rfl dX5_count_10 ?_
    refine W.eq (g2 := F0 m 13 ls [.int (nI (u.1 1))]) rfl ?_
    exact gw_iret (w := mw G q) (u := (up1 u.1 0 (0), u.2.1, u.2.2)) C Hh dX5_count_13 ⟨_, rfl, by exact ⟨(cnt_v (u := vw u) (x := x) (j := 0) (by rw [hc_6]; rfl) (by decide)).symm, rfl, hsU, hbU⟩⟩
