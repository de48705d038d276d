/-! bars -/
def sub (a b : Nat) : Prop := ∀ i, a.testBit i = true → b.testBit i = true
theorem sub_or1 {a b : Nat} : sub a (a ||| b) := fun i h => by rw [Nat.testBit_or, h]; rfl
theorem sub_or2 {a b : Nat} : sub b (a ||| b) := fun i h => by rw [Nat.testBit_or, h, Bool.or_true]
theorem sub_tr {a b c : Nat} (h : sub a b) (g : sub b c) : sub a c := fun i hi => g i (h i hi)
def pop (a : Nat) : Nat := fl_sum (tbit a) 10
theorem pop_le (a : Nat) : pop a ≤ 10 := fl_sum_cnt (fun i => tbit_le a i) 10
theorem tbit_sub {a b i : Nat} (h : sub a b) : tbit a i ≤ tbit b i := by
  unfold tbit
  by_cases q : a.testBit i = true
  · rw [if_pos q, if_pos (h i q)]
    exact Nat.le_refl _
  · rw [if_neg q]
    exact Nat.zero_le _
theorem pop_lt {a b : Nat} (h : sub a b) (hb : b < 1024) (hne : a ≠ b) : pop a + 1 ≤ pop b := by
  have hx : ∃ i, i < 10 ∧ b.testBit i = true ∧ a.testBit i = false := by
    refine Classical.byContradiction fun hn => hne ?_
    apply Nat.eq_of_testBit_eq
    intro i
    by_cases q : a.testBit i = true
    · rw [q, h i q]
    · by_cases q2 : b.testBit i = true
      · exfalso
        by_cases q3 : i < 10
        · exact hn ⟨i, q3, q2, Bool.eq_false_iff.mpr q⟩
        · rw [Nat.testBit_lt_two_pow (Nat.lt_of_lt_of_le hb (Nat.pow_le_pow_right (n := 2) (by decide) (by omega : 10 ≤ i)))] at q2
          cases q2
      · rw [Bool.eq_false_iff.mpr q, Bool.eq_false_iff.mpr q2]
  obtain ⟨i, h1, h2, h3⟩ := hx
  have h4 := fl_sum_rest_le (f := tbit a) (g := tbit b) h1 (fun j _ _ => tbit_sub h)
  have e1 : tbit b i = 1 := by unfold tbit; rw [if_pos h2]
  have e2 : tbit a i = 0 := by unfold tbit; rw [h3]; rfl
  unfold pop
  omega
/-- what a set of arrivals leads to stays in it -/
def cls_b (w : pf_S) (X : Nat → Nat → Nat) (T : Nat → Prop) : Prop := ∀ d b, cvd w d → b < w.1 0 → 0 < X d b → T b → ∀ c, (cmk w d).testBit c = true → T c
def snd_b (w : pf_S) (X : Nat → Nat → Nat) (S C : Nat) : Prop := ∀ T : Nat → Prop, (∀ a, S.testBit a = true → T a) → cls_b w X T → ∀ a, C.testBit a = true → T a
/-- one pass: from the set C with who H, behind the first r entries -/
def ps_in (w : pf_S) (X : Nat → Nat → Nat) (dr br : Nat → Nat) (C H r C2 H2 : Nat) : Prop := sub C C2 ∧ sub H H2 ∧ C2 < 1024 ∧ (∀ s, s < r → C.testBit (br s) = true → sub (cmk w (dr s)) C2 ∧ H2.testBit (dr s / 3) = true)
def bs_in (w : pf_S) (X : Nat → Nat → Nat) (E : Nat) (dr br : Nat → Nat) (S0 q C H : Nat) : Prop := sub S0 C ∧ C < 1024 ∧ H < 1024 ∧ snd_b w X S0 C ∧ (∀ o, H.testBit o = true → ∃ s, s < E ∧ dr s / 3 = o ∧ C.testBit (br s) = true) ∧ ((∀ s, s < E → C.testBit (br s) = true → sub (cmk w (dr s)) C ∧ H.testBit (dr s / 3) = true) ∨ q ≤ pop C)
def who_in (w : pf_S) (X : Nat → Nat → Nat) (E : Nat) (dr br : Nat → Nat) (S0 C2 H2 : Nat) : Prop := C2 < 1024 ∧ H2 < 1024 ∧ snd_b w X S0 C2 ∧ ∀ o, H2.testBit o = true → ∃ s, s < E ∧ dr s / 3 = o ∧ C2.testBit (br s) = true
theorem ps_0 {w : pf_S} {X : Nat → Nat → Nat} {dr br : Nat → Nat} {C H : Nat} (h : C < 1024) : ps_in w X dr br C H 0 C H := ⟨fun _ h => h, fun _ h => h, h, fun s hs => by omega⟩
theorem ps_skip {w : pf_S} {X : Nat → Nat → Nat} {dr br : Nat → Nat} {C H r C2 H2 : Nat} (h : ps_in w X dr br C H r C2 H2) (hn : C2.testBit (br r) = false) : ps_in w X dr br C H (r + 1) C2 H2 := by
  obtain ⟨h1, h2, h3, h4⟩ := h
  refine ⟨h1, h2, h3, fun s hs hb => ?_⟩
  by_cases q : s = r
  · subst q
    rw [h1 _ hb] at hn
    cases hn
  · exact h4 s (by omega) hb
theorem cmk_1024 {w : pf_S} (h : w.1 0 ≤ 10) (d : Nat) : cmk w d < 1024 := us_1024 h _ _
theorem ps_put {w : pf_S} {X : Nat → Nat → Nat} {dr br : Nat → Nat} {C H r C2 H2 : Nat} (h10 : w.1 0 ≤ 10) (h : ps_in w X dr br C H r C2 H2) : ps_in w X dr br C H (r + 1) (C2 ||| cmk w (dr r)) (H2 ||| 1 <<< (dr r / 3)) := by
  obtain ⟨h1, h2, h3, h4⟩ := h
  refine ⟨sub_tr h1 sub_or1, sub_tr h2 sub_or1, Nat.or_lt_two_pow (n := 10) h3 (cmk_1024 h10 _), fun s hs hb => ?_⟩
  by_cases q : s = r
  · subst q
    refine ⟨sub_or2, ?_⟩
    rw [Nat.testBit_or, Nat.one_shiftLeft, Nat.testBit_two_pow_self, Bool.or_true]
  · obtain ⟨g1, g2⟩ := h4 s (by omega) hb
    exact ⟨sub_tr g1 sub_or1, sub_or1 _ g2⟩
theorem who_put {w : pf_S} {X : Nat → Nat → Nat} {E : Nat} {dr br : Nat → Nat} {S0 C2 H2 r : Nat} (h10 : w.1 0 ≤ 10) (ho : w.1 1 ≤ 10) (he : en2 w X E dr br) (hr : r < E) (h : who_in w X E dr br S0 C2 H2) (hb : C2.testBit (br r) = true) : who_in w X E dr br S0 (C2 ||| cmk w (dr r)) (H2 ||| 1 <<< (dr r / 3)) := by
  obtain ⟨h1, h2, h3, h4⟩ := h
  obtain ⟨e1, e2, e3⟩ := he.1 r hr
  have hlt : 1 <<< (dr r / 3) < 2 ^ 10 := by
    rw [Nat.one_shiftLeft]
    exact Nat.pow_lt_pow_right (by decide) (by have := e1.1; omega)
  refine ⟨Nat.or_lt_two_pow (n := 10) h1 (cmk_1024 h10 _), Nat.or_lt_two_pow (n := 10) h2 hlt, fun T t1 t2 a ha => ?_, fun o hoo => ?_⟩
  · rw [Nat.testBit_or, Bool.or_eq_true] at ha
    rcases ha with ha | ha
    · exact h3 T t1 t2 a ha
    · exact t2 (dr r) (br r) e1 e2 e3 (h3 T t1 t2 _ hb) a ha
  · rw [Nat.testBit_or, Bool.or_eq_true, Nat.one_shiftLeft, Nat.testBit_two_pow, decide_eq_true_eq] at hoo
    rcases hoo with hoo | hoo
    · obtain ⟨s, s1, s2, s3⟩ := h4 o hoo
      exact ⟨s, s1, s2, sub_or1 _ s3⟩
    · exact ⟨r, hr, hoo, sub_or1 _ hb⟩
theorem bs_pass {w : pf_S} {X : Nat → Nat → Nat} {E : Nat} {dr br : Nat → Nat} {S0 q C H C2 H2 : Nat} (h : bs_in w X E dr br S0 q C H) (hp : ps_in w X dr br C H E C2 H2) (hw : who_in w X E dr br S0 C2 H2) (hcl : (∀ s, s < E → C.testBit (br s) = true → sub (cmk w (dr s)) C ∧ H.testBit (dr s / 3) = true) → C2 = C) : bs_in w X E dr br S0 (q + 1) C2 H2 := by
  obtain ⟨h1, h2, h3, h4, h5, h6⟩ := h
  obtain ⟨p1, p2, p3, p4⟩ := hp
  refine ⟨sub_tr h1 p1, hw.1, hw.2.1, hw.2.2.1, hw.2.2.2, ?_⟩
  by_cases e : C2 = C
  · left
    intro s hs hb
    rw [e] at hb
    have := p4 s hs hb
    exact this
  · rcases h6 with h6 | h6
    · exact absurd (hcl h6) e
    · right
      have := pop_lt p1 p3 (fun z => e z.symm)
      omega
def rb_post (w : pf_S) (X : Nat → Nat → Nat) (g t i k : Nat) : Prop := ∃ C H : Nat, sub (us_f w g t) C ∧ snd_b w X (us_f w g t) C ∧ cls_b w X (fun a => C.testBit a = true) ∧ (∀ o, H.testBit o = true ↔ ∃ d b, cvd w d ∧ b < w.1 0 ∧ 0 < X d b ∧ d / 3 = o ∧ C.testBit b = true) ∧ ((k < w.1 1 ∧ H.testBit k = true ∧ fl_sum (tbit H) k = i) ∨ (k = 4294967295 ∧ fl_sum (tbit H) (w.1 1) ≤ i))
theorem bs_end {w : pf_S} {X : Nat → Nat → Nat} {E : Nat} {dr br : Nat → Nat} {g t C H i k : Nat} (he : en2 w X E dr br) (h : bs_in w X E dr br (us_f w g t) 11 C H) (hk : (k < w.1 1 ∧ H.testBit k = true ∧ fl_sum (tbit H) k = i) ∨ (k = 4294967295 ∧ fl_sum (tbit H) (w.1 1) ≤ i)) : rb_post w X g t i k := by
  obtain ⟨h1, h2, h3, h4, h5, h6⟩ := h
  have h7 := h6.resolve_right (by have := pop_le C; omega)
  refine ⟨C, H, h1, h4, fun d b hd hb h0 hC c hc => ?_, fun o => ⟨fun q => ?_, fun ⟨d, b, d1, d2, d3, d4, d5⟩ => ?_⟩, hk⟩
  · obtain ⟨r, r1, r2, r3⟩ := he.2.1 d b hd hb h0
    have := (h7 r r1 (by rw [r3]; exact hC)).1
    rw [r2] at this
    exact this c hc
  · obtain ⟨s, s1, s2, s3⟩ := h5 o q
    obtain ⟨e1, e2, e3⟩ := he.1 s s1
    exact ⟨dr s, br s, e1, e2, e3, s2, s3⟩
  · obtain ⟨r, r1, r2, r3⟩ := he.2.1 d b d1 d2 d3
    have := (h7 r r1 (by rw [r3]; exact d5)).2
    rw [r2, d4] at this
    exact this
theorem sub_or_eq {a b : Nat} (h : sub b a) : a ||| b = a := by
  apply Nat.eq_of_testBit_eq
  intro i
  rw [Nat.testBit_or]
  by_cases q : b.testBit i = true
  · rw [q, h i q]
    rfl
  · rw [Bool.eq_false_iff.mpr q, Bool.or_false]
set_option maxHeartbeats 4000000 in
set_option maxRecDepth 100000 in
theorem c_X5_bars (l : Launch) (G : gw_G) (q : Nat → Nat) (u : md_S) (x : Int32) (y : Int32) (z : Int32) (X : Nat → Nat → Nat) (hm : md2 u) (hX : X_ok (vw u) X) : gw_MI l yX5_bars cX5_bars 8 (some .int) 5 120 [.ref (q 0), .int (x), .int (y), .int (z)] G (mw G q) u (fun r u1 => ∃ k : Nat, r = nI k ∧ (rp (cdB (vw u) x y z) u u1 (sc u u1 ∧ md_bd u1 ∧ rb_post (vw u) X (tn x) (tn y) (tn z) k))) := by
  refine gw_entryI (own := RX5) (by decide) rfl (Nat.le_of_ble_eq_true rfl) ?_
  intro p e s m args below meth c A ls C Hh hl
  have hl : lv_has ls 8 [(0, .ref (q 0)), (1, .int (x)), (2, .int (y)), (3, .int (z))] := hl
  have hok := hm.1
  have hbd := hm.2
  have h01 := hok.1.1
  have h02 := hok.1.2
  have hsU : sc u (up1 u.1 0 0, u.2) := ⟨rfl, rfl, fun _ _ _ => rfl⟩
  have hbU : md_bd (up1 u.1 0 0, u.2) := bd_code hbd rfl rfl
  have hokU := sc_ok hsU hok
  refine lv_aload_n C.1 C.2.1 dX5_bars_0 rfl (lv_at hl 0 rfl) ?_
  refine lv_iload_n C.1 C.2.1 dX5_bars_1 rfl (lv_at hl 1 rfl) ?_
  refine gw_fromI (w := mw G q) (u := u) C Hh (gw_runS (n := 1) [.int (x)] C Hh (c_X5_isGood l G q (u) (x)  _) tw_823 tw_824 tw_71 tw_825 (by decide +kernel) ⟨Nat.le_of_ble_eq_true rfl, Nat.le_of_ble_eq_true rfl⟩ rfl hl.1 (Nat.le_of_ble_eq_true rfl) dX5_bars_2 ⟨Nat.zero_le _, Nat.zero_le _⟩) (fun rc_2 uc_2 H locs hp_2 Hh => ?_)
  obtain ⟨kc_2, rfl, hp_2⟩ := hp_2
  obtain ⟨hk_2, hu_2⟩ := hp_2
  rw [hu_2] at Hh
  clear hu_2
  refine gw_if_eq (tgt := 22) C dX5_bars_5 (by decide) (by rw [hk_2]; exact Nat.lt_of_le_of_lt (pif_le _) (by decide)) (fun hc_5 => ?_) (fun hc_5 => ?_)
  · skip
    refine lv_iconst (v := nI 1) C.1 C.2.1 dX5_bars_22 (by decide +kernel) ?_
    refine lv_goto (tgt := 39) C.1 C.2.1 dX5_bars_23 (by decide) ?_
    refine gw_put (Cn := RX5) (T := TX5) (N := 29) (ty0 := tyX5) (v := nI (1)) C Hh 0 mw_at0 rfl uwX5 tyX5_ok nmX5 0 (by decide) rfl tw_723 rfl (by decide +kernel) (Nat.le_of_ble_eq_true rfl) mw_num0 dX5_bars_39 (fun H locs Hh => ?_)
    refine lv_aload_n C.1 C.2.1 dX5_bars_42 rfl (lv_at hl 0 rfl) ?_
    refine gw_get (Cn := RX5) (T := TX5) (N := 29) C Hh 0 mw_at0 rfl uwX5 0 (by decide) rfl tw_723 rfl dX5_bars_43 ?_
    refine W.eq (g2 := F0 m 46 ls [.int (nI (1))]) rfl ?_
    refine gw_if_le (tgt := 51) C dX5_bars_46 (by decide) (by omega) (fun hc_46 => ?_) (fun hc_46 => ?_)
    · skip
      exact absurd hc_46 (by decide)
    · skip
      refine lv_iconst (v := nI 0) C.1 C.2.1 dX5_bars_49 (by decide +kernel) ?_
      exact gw_iret (w := mw G q) (u := (up1 u.1 0 (1), u.2.1, u.2.2)) C Hh dX5_bars_50 ⟨_, rfl, by first | exact rp_n (hv9.trans (if_pos (by split at hk_28 <;> omega))) (by decide) rfl | exact rp_n (cdB_1 (fun h => h.2.2 (Int32.not_le.mp hc_19))) (by decide) rfl | exact rp_n (cdB_1 (fun h => pif_0 (by rw [← hi_12]; exact hc_15) h.2.1)) (by decide) rfl | exact rp_n (cdB_1 (fun h => pif_0 (by rw [← hk_2]; exact hc_5) h.1)) (by decide) rfl⟩
  · skip
    refine lv_iload_n C.1 C.2.1 dX5_bars_8 rfl (lv_at hl 2 rfl) ?_
    refine lv_iconst (v := nI 0) C.1 C.2.1 dX5_bars_9 (by decide +kernel) ?_
    refine lv_bipush (v := nI 99) C.1 C.2.1 dX5_bars_10 (by decide +kernel) ?_
    refine gw_fromI (w := mw G q) (u := u) C Hh (gw_runS (n := 3) [.int (y), .int (nI (0)), .int (nI (99))] C Hh (c_X5_in l G q (u) (y) (nI (0)) (nI (99))  _) tw_820 tw_821 tw_71 tw_822 (by decide +kernel) ⟨Nat.le_of_ble_eq_true rfl, Nat.le_of_ble_eq_true rfl⟩ rfl hl.1 (Nat.le_of_ble_eq_true rfl) dX5_bars_12 ⟨Nat.zero_le _, Nat.zero_le _⟩) (fun rc_12 uc_12 H locs hp_12 Hh => ?_)
    obtain ⟨kc_12, rfl, hp_12⟩ := hp_12
    obtain ⟨hk_12, hu_12⟩ := hp_12
    rw [hu_12] at Hh
    clear hu_12
    have hi_12 := ir_m (by decide) (by decide) hk_12
    refine gw_if_eq (tgt := 22) C dX5_bars_15 (by decide) (by rw [hi_12]; exact Nat.lt_of_le_of_lt (pif_le _) (by decide)) (fun hc_15 => ?_) (fun hc_15 => ?_)
    · skip
      refine lv_iconst (v := nI 1) C.1 C.2.1 dX5_bars_22 (by decide +kernel) ?_
      refine lv_goto (tgt := 39) C.1 C.2.1 dX5_bars_23 (by decide) ?_
      refine gw_put (Cn := RX5) (T := TX5) (N := 29) (ty0 := tyX5) (v := nI (1)) C Hh 0 mw_at0 rfl uwX5 tyX5_ok nmX5 0 (by decide) rfl tw_723 rfl (by decide +kernel) (Nat.le_of_ble_eq_true rfl) mw_num0 dX5_bars_39 (fun H locs Hh => ?_)
      refine lv_aload_n C.1 C.2.1 dX5_bars_42 rfl (lv_at hl 0 rfl) ?_
      refine gw_get (Cn := RX5) (T := TX5) (N := 29) C Hh 0 mw_at0 rfl uwX5 0 (by decide) rfl tw_723 rfl dX5_bars_43 ?_
      refine W.eq (g2 := F0 m 46 ls [.int (nI (1))]) rfl ?_
      refine gw_if_le (tgt := 51) C dX5_bars_46 (by decide) (by omega) (fun hc_46 => ?_) (fun hc_46 => ?_)
      · skip
        exact absurd hc_46 (by decide)
      · skip
        refine lv_iconst (v := nI 0) C.1 C.2.1 dX5_bars_49 (by decide +kernel) ?_
        exact gw_iret (w := mw G q) (u := (up1 u.1 0 (1), u.2.1, u.2.2)) C Hh dX5_bars_50 ⟨_, rfl, by first | exact rp_n (hv9.trans (if_pos (by split at hk_28 <;> omega))) (by decide) rfl | exact rp_n (cdB_1 (fun h => h.2.2 (Int32.not_le.mp hc_19))) (by decide) rfl | exact rp_n (cdB_1 (fun h => pif_0 (by rw [← hi_12]; exact hc_15) h.2.1)) (by decide) rfl | exact rp_n (cdB_1 (fun h => pif_0 (by rw [← hk_2]; exact hc_5) h.1)) (by decide) rfl⟩
    · skip
      refine lv_iload_n C.1 C.2.1 dX5_bars_18 rfl (lv_at hl 3 rfl) ?_
      refine lv_if_ge (tgt := 26) C.1 C.2.1 dX5_bars_19 (by decide) (fun hc_19 => ?_) (fun hc_19 => ?_)
      · skip
        obtain ⟨g, hx_g, hj_g⟩ := ir_n (hc := hc_5) hk_2
        rw [hx_g] at hl
        obtain ⟨t, hx_t, hj_t⟩ := ir_n (hc := hc_15) hi_12
        rw [hx_t] at hl
        obtain ⟨n, hx_n, hj_n⟩ := n0_nI hc_19
        rw [hx_n] at hl
        have hg6 : g < 6 := by omega
        have hg9 := hok.2.1 g hg6
        have hv9 : cdB (vw u) x y z = if 0 < u.2.1 3 g then 2 else 0 := cdB_v hx_g hg6 hx_t (by omega) hx_n hj_n
        refine lv_aload_n C.1 C.2.1 dX5_bars_26 rfl (lv_at hl 0 rfl) ?_
        refine lv_iload_n C.1 C.2.1 dX5_bars_27 rfl (lv_at hl 1 rfl) ?_
        refine gw_fromI (w := mw G q) (u := u) C Hh (gw_runV (n := 1) (C1 := RX5) [.int (nI (g))] C Hh (c_X5_isKit l G q (u) (g) (by exact hok) (by first | assumption | omega) _) tw_827 tw_829 tw_48 tw_71 tw_830 (by decide +kernel) ⟨Nat.le_of_ble_eq_true rfl, Nat.le_of_ble_eq_true rfl⟩ 0 mw_at0 rfl rfl hl.1 (Nat.le_of_ble_eq_true rfl) dX5_bars_28 ⟨Nat.zero_le _, Nat.zero_le _⟩) (fun rc_28 uc_28 H locs hp_28 Hh => ?_)
        obtain ⟨kc_28, rfl, hp_28⟩ := hp_28
        obtain ⟨hk_28, hu_28⟩ := hp_28
        rw [hu_28] at Hh
        clear hu_28
        refine gw_if_eq (tgt := 38) C dX5_bars_31 (by decide) (by split at hk_28 <;> omega) (fun hc_31 => ?_) (fun hc_31 => ?_)
        · skip
          refine lv_iconst (v := nI 0) C.1 C.2.1 dX5_bars_38 (by decide +kernel) ?_
          refine gw_put (Cn := RX5) (T := TX5) (N := 29) (ty0 := tyX5) (v := nI (0)) C Hh 0 mw_at0 rfl uwX5 tyX5_ok nmX5 0 (by decide) rfl tw_723 rfl (by decide +kernel) (Nat.le_of_ble_eq_true rfl) mw_num0 dX5_bars_39 (fun H locs Hh => ?_)
          refine lv_aload_n C.1 C.2.1 dX5_bars_42 rfl (lv_at hl 0 rfl) ?_
          refine gw_get (Cn := RX5) (T := TX5) (N := 29) C Hh 0 mw_at0 rfl uwX5 0 (by decide) rfl tw_723 rfl dX5_bars_43 ?_
          refine W.eq (g2 := F0 m 46 ls [.int (nI (0))]) rfl ?_
          refine gw_if_le (tgt := 51) C dX5_bars_46 (by decide) (by omega) (fun hc_46 => ?_) (fun hc_46 => ?_)
          · skip
            refine lv_aload_n C.1 C.2.1 dX5_bars_51 rfl (lv_at hl 0 rfl) ?_
            refine gw_fromV (w := mw G q) (u := (up1 u.1 0 (0), u.2.1, u.2.2)) C Hh (gw_runV (n := 0) (C1 := RX5) [] C Hh (c_X5_plan l G q ((up1 u.1 0 (0), u.2.1, u.2.2)) (X) (by exact ⟨hokU, hbU⟩) (by exact hX) _) tw_925 tw_927 tw_62 tw_71 tw_928 (by decide +kernel) ⟨Nat.le_of_ble_eq_true rfl, Nat.le_of_ble_eq_true rfl⟩ 0 mw_at0 rfl rfl hl.1 (Nat.le_of_ble_eq_true rfl) dX5_bars_52 ⟨Nat.zero_le _, Nat.zero_le _⟩) (fun uc_52 H locs hp_52 Hh => ?_)
            have hc52 := pl_cf hp_52
            obtain ⟨dr, br, hen, her⟩ := pl_en hp_52
            have n52 : uc_52.1 2 = u.1 2 := hc52.1.1.2.1
            have hok52 := sc_ok (hsU.tr hc52.1.1) hok
            have hv52 : vw uc_52 = vw u := sc_vw (hsU.tr hc52.1.1)
            refine lv_aload_n C.1 C.2.1 dX5_bars_55 rfl (lv_at hl 0 rfl) ?_
            refine lv_iload_n C.1 C.2.1 dX5_bars_56 rfl (lv_at hl 1 rfl) ?_
            refine lv_iload_n C.1 C.2.1 dX5_bars_57 rfl (lv_at hl 2 rfl) ?_
            refine gw_fromI (w := mw G q) (u := uc_52) C Hh (gw_runV (n := 2) (C1 := RX5) [.int (nI (g)), .int (nI (t))] C Hh (c_X5_usable l G q (uc_52) (g) (t) (by exact hok52) (by first | assumption | omega) (by first | assumption | omega) _) tw_847 tw_849 tw_53 tw_71 tw_850 (by decide +kernel) ⟨Nat.le_of_ble_eq_true rfl, Nat.le_of_ble_eq_true rfl⟩ 0 mw_at0 rfl rfl hl.1 (Nat.le_of_ble_eq_true rfl) dX5_bars_58 ⟨Nat.zero_le _, Nat.zero_le _⟩) (fun rc_58 uc_58 H locs hp_58 Hh => ?_)
            obtain ⟨kc_58, rfl, hp_58⟩ := hp_58
            obtain ⟨hk_58, hu_58⟩ := hp_58
            rw [hu_58] at Hh
            clear hu_58
            have h58 : kc_58 = us_f (vw u) g t := by (rw [hk_58, hv52])
            refine lv_istore (lv' := [(4, .int (nI (kc_58))), (0, .ref (q 0)), (1, .int (nI (g))), (2, .int (nI (t))), (3, .int (nI (n)))]) C.1 C.2.1 dX5_bars_61 hl (by decide) rfl (fun ls hl => ?_)
            refine lv_iconst (v := nI 0) C.1 C.2.1 dX5_bars_63 (by decide +kernel) ?_
            refine lv_istore (lv' := [(5, .int (nI (0))), (4, .int (nI (kc_58))), (0, .ref (q 0)), (1, .int (nI (g))), (2, .int (nI (t))), (3, .int (nI (n)))]) C.1 C.2.1 dX5_bars_64 hl (by decide) rfl (fun ls hl => ?_)
            refine lv_iconst (v := nI 0) C.1 C.2.1 dX5_bars_66 (by decide +kernel) ?_
            refine lv_istore (lv' := [(6, .int (nI (0))), (5, .int (nI (0))), (4, .int (nI (kc_58))), (0, .ref (q 0)), (1, .int (nI (g))), (2, .int (nI (t))), (3, .int (nI (n)))]) C.1 C.2.1 dX5_bars_67 hl (by decide) rfl (fun ls hl => ?_)
            have loop_69 : ∀ (fu : Nat) (C9 : Nat) (H9 : Nat) (q9 : Nat) (H : Heap) (locs : List Loc) (ls : Array Slot), (q9 ≤ 11) → (bs_in (vw u) X (uc_52.1 4) dr br (us_f (vw u) g t) q9 C9 H9) → 11 - q9 < fu → gw_H G A s (mw G q uc_52) H locs → lv_has ls 8 [(0, .ref (q 0)), (1, .int (nI (g))), (2, .int (nI (t))), (3, .int (nI (n))), (4, .int (nI (C9))), (5, .int (nI (H9))), (6, .int (nI (q9)))] → W p l e (gw_rm 5 120) s m args below meth c H locs 0 0 (MQ below (va_Qi (fun r u1 => ∃ k : Nat, r = nI k ∧ (rp (cdB (vw u) x y z) u u1 (sc u u1 ∧ md_bd u1 ∧ rb_post (vw u) X (tn x) (tn y) (tn z) k))) (gw_at G A (mw G q)) A) args s 0 0 A) (F0 m 69 ls []) := by
              intro fu
              induction fu with
              | zero =>
                intro C9 H9 q9  H locs ls hq hB hmf
                exact absurd hmf (Nat.not_lt_zero _)
              | succ fu ih_69 =>
                intro C9 H9 q9  H locs ls hq hB hmf Hh hl
                refine lv_iload C.1 C.2.1 dX5_bars_69 (lv_at hl 6 rfl) ?_
                refine lv_bipush (v := nI 10) C.1 C.2.1 dX5_bars_71 (by decide +kernel) ?_
                refine gw_icmp_gt (tgt := 149) C dX5_bars_73 (by decide) (by omega) (by omega) (fun hc_73 => ?_) (fun hc_73 => ?_)
                · skip
                  refine lv_iload_n C.1 C.2.1 dX5_bars_149 rfl (lv_at hl 3 rfl) ?_
                  refine lv_istore (lv' := [(6, .int (nI (n))), (0, .ref (q 0)), (1, .int (nI (g))), (2, .int (nI (t))), (3, .int (nI (n))), (4, .int (nI (C9))), (5, .int (nI (H9)))]) C.1 C.2.1 dX5_bars_150 hl (by decide) rfl (fun ls hl => ?_)
                  refine lv_iconst (v := nI 0) C.1 C.2.1 dX5_bars_152 (by decide +kernel) ?_
                  refine lv_istore (lv' := [(7, .int (nI (0))), (6, .int (nI (n))), (0, .ref (q 0)), (1, .int (nI (g))), (2, .int (nI (t))), (3, .int (nI (n))), (4, .int (nI (C9))), (5, .int (nI (H9)))]) C.1 C.2.1 dX5_bars_153 hl (by decide) rfl (fun ls hl => ?_)
                  have loop_155 : ∀ (fu : Nat) (lf : Nat) (o : Nat) (H : Heap) (locs : List Loc) (ls : Array Slot), (o ≤ u.1 2) → (lf + fl_sum (tbit H9) o = n) → u.1 2 - o < fu → gw_H G A s (mw G q uc_52) H locs → lv_has ls 8 [(0, .ref (q 0)), (1, .int (nI (g))), (2, .int (nI (t))), (3, .int (nI (n))), (5, .int (nI (H9))), (6, .int (nI (lf))), (7, .int (nI (o)))] → W p l e (gw_rm 5 120) s m args below meth c H locs 0 0 (MQ below (va_Qi (fun r u1 => ∃ k : Nat, r = nI k ∧ (rp (cdB (vw u) x y z) u u1 (sc u u1 ∧ md_bd u1 ∧ rb_post (vw u) X (tn x) (tn y) (tn z) k))) (gw_at G A (mw G q)) A) args s 0 0 A) (F0 m 155 ls []) := by
                    intro fu
                    induction fu with
                    | zero =>
                      intro lf o  H locs ls ho hlf hmf
                      exact absurd hmf (Nat.not_lt_zero _)
                    | succ fu ih_155 =>
                      intro lf o  H locs ls ho hlf hmf Hh hl
                      refine lv_iload C.1 C.2.1 dX5_bars_155 (lv_at hl 6 rfl) ?_
                      refine lv_aload_n C.1 C.2.1 dX5_bars_157 rfl (lv_at hl 0 rfl) ?_
                      refine gw_get (Cn := RX5) (T := TX5) (N := 29) C Hh 0 mw_at0 rfl uwX5 11 (by decide) rfl tw_734 rfl dX5_bars_158 ?_
                      refine gw_icmp_ge (tgt := 194) C dX5_bars_161 (by decide) (by omega) (by omega) (fun hc_161 => ?_) (fun hc_161 => ?_)
                      · skip
                        refine lv_iconst (v := nI 4294967295) C.1 C.2.1 dX5_bars_194 (by decide +kernel) ?_
                        exact gw_iret (w := mw G q) (u := uc_52) C Hh dX5_bars_195 ⟨_, rfl, by refine rp_y (hv9.trans (if_neg (by split at hk_28 <;> omega))) hc52.1.2 ⟨hsU.tr hc52.1.1, hc52.2.1, ?_⟩; rw [tn_eq hx_g (by omega), tn_eq hx_t (by omega), tn_eq hx_n (by omega)]; refine bs_end hen (by rw [← show q9 = 11 by omega]; exact hB) (Or.inr ⟨rfl, ?_⟩); show fl_sum (tbit H9) (u.1 2) ≤ n; rw [← show o = u.1 2 by omega]; omega⟩
                      · skip
                        have tb8 := tbit_le H9 o
                        have join_188 : ∀ (l2 : Nat) (H : Heap) (locs : List Loc) (ls : Array Slot), (l2 + fl_sum (tbit H9) (o + 1) = n) → gw_H G A s (mw G q uc_52) H locs → lv_has ls 8 [(0, .ref (q 0)), (1, .int (nI (g))), (2, .int (nI (t))), (3, .int (nI (n))), (5, .int (nI (H9))), (6, .int (nI (l2))), (7, .int (nI (o)))] → W p l e (gw_rm 5 120) s m args below meth c H locs 0 0 (MQ below (va_Qi (fun r u1 => ∃ k : Nat, r = nI k ∧ (rp (cdB (vw u) x y z) u u1 (sc u u1 ∧ md_bd u1 ∧ rb_post (vw u) X (tn x) (tn y) (tn z) k))) (gw_at G A (mw G q)) A) args s 0 0 A) (F0 m 188 ls []) := by
                          intro l2  H locs ls hl2 Hh hl
                          refine lv_iinc (v := nI (o + 1)) (lv' := [(7, .int (nI (o + 1))), (0, .ref (q 0)), (1, .int (nI (g))), (2, .int (nI (t))), (3, .int (nI (n))), (5, .int (nI (H9))), (6, .int (nI (l2)))]) C.1 C.2.1 dX5_bars_188 hl (k := 6) rfl (nI_add _ 1) (by decide) rfl (fun ls hl => ?_)
                          refine lv_goto (tgt := 155) C.1 C.2.1 dX5_bars_191 (by decide) ?_
                          exact ih_155 (l2) (o + 1)  _ _ _ (by omega) (by exact hl2) (by omega) Hh (lv_sub hl [1, 2, 3, 4, 5, 6, 0] rfl)
                        refine lv_iload C.1 C.2.1 dX5_bars_164 (lv_at hl 4 rfl) ?_
                        refine lv_iload C.1 C.2.1 dX5_bars_166 (lv_at hl 6 rfl) ?_
                        refine lv_ishr C.1 C.2.1 dX5_bars_168 ?_
                        refine lv_iconst (v := nI 1) C.1 C.2.1 dX5_bars_169 (by decide +kernel) ?_
                        refine gw_and1 C dX5_bars_170 (by omega) ?_
                        refine gw_if_ne (tgt := 177) C dX5_bars_171 (by decide) (by omega) (fun hc_171 => ?_) (fun hc_171 => ?_)
                        · skip
                          refine lv_iload C.1 C.2.1 dX5_bars_177 (lv_at hl 5 rfl) ?_
                          refine gw_if_ne (tgt := 185) C dX5_bars_179 (by decide) (by omega) (fun hc_179 => ?_) (fun hc_179 => ?_)
                          · skip
                            refine lv_iinc (v := nI (lf - 1)) (lv' := [(6, .int (nI (lf - 1))), (0, .ref (q 0)), (1, .int (nI (g))), (2, .int (nI (t))), (3, .int (nI (n))), (5, .int (nI (H9))), (7, .int (nI (o)))]) C.1 C.2.1 dX5_bars_185 hl (k := 5) rfl (sb_m1 (by omega)) (by decide) rfl (fun ls hl => ?_)
                            exact join_188 (lf - 1)  _ _ _ (by rw [fl_sum_succ]; omega) Hh (lv_sub hl [1, 2, 3, 4, 5, 0, 6] rfl)
                          · skip
                            refine lv_iload C.1 C.2.1 dX5_bars_182 (lv_at hl 6 rfl) ?_
                            exact gw_iret (w := mw G q) (u := uc_52) C Hh dX5_bars_184 ⟨_, rfl, by refine rp_y (hv9.trans (if_neg (by split at hk_28 <;> omega))) hc52.1.2 ⟨hsU.tr hc52.1.1, hc52.2.1, ?_⟩; rw [tn_eq hx_g (by omega), tn_eq hx_t (by omega), tn_eq hx_n (by omega)]; refine bs_end hen (by rw [← show q9 = 11 by omega]; exact hB) (Or.inl ⟨show o < u.1 2 by omega, tb1 hc_171, by omega⟩)⟩
                        · skip
                          refine lv_goto (tgt := 188) C.1 C.2.1 dX5_bars_174 (by decide) ?_
                          exact join_188 (lf)  _ _ _ (by rw [fl_sum_succ]; omega) Hh (lv_sub hl [0, 1, 2, 3, 4, 5, 6] rfl)
                  exact loop_155 _ (n) (0)  _ _ _ (by omega) (by rfl) (Nat.lt_succ_self _) Hh (lv_sub hl [2, 3, 4, 5, 7, 1, 0] rfl)
                · skip
                  refine lv_iconst (v := nI 0) C.1 C.2.1 dX5_bars_76 (by decide +kernel) ?_
                  refine lv_istore (lv' := [(7, .int (nI (0))), (0, .ref (q 0)), (1, .int (nI (g))), (2, .int (nI (t))), (3, .int (nI (n))), (4, .int (nI (C9))), (5, .int (nI (H9))), (6, .int (nI (q9)))]) C.1 C.2.1 dX5_bars_77 hl (by decide) rfl (fun ls hl => ?_)
                  have loop_79 : ∀ (fu : Nat) (C2 : Nat) (H2 : Nat) (r : Nat) (H : Heap) (locs : List Loc) (ls : Array Slot), (r ≤ uc_52.1 4) → (ps_in (vw u) X dr br C9 H9 r C2 H2) → (who_in (vw u) X (uc_52.1 4) dr br (us_f (vw u) g t) C2 H2) → ((∀ s, s < uc_52.1 4 → C9.testBit (br s) = true → sub (cmk (vw u) (dr s)) C9 ∧ H9.testBit (dr s / 3) = true) → C2 = C9) → uc_52.1 4 - r < fu → gw_H G A s (mw G q uc_52) H locs → lv_has ls 8 [(0, .ref (q 0)), (1, .int (nI (g))), (2, .int (nI (t))), (3, .int (nI (n))), (4, .int (nI (C2))), (5, .int (nI (H2))), (6, .int (nI (q9))), (7, .int (nI (r)))] → W p l e (gw_rm 5 120) s m args below meth c H locs 0 0 (MQ below (va_Qi (fun r u1 => ∃ k : Nat, r = nI k ∧ (rp (cdB (vw u) x y z) u u1 (sc u u1 ∧ md_bd u1 ∧ rb_post (vw u) X (tn x) (tn y) (tn z) k))) (gw_at G A (mw G q)) A) args s 0 0 A) (F0 m 79 ls []) := by
                    intro fu
                    induction fu with
                    | zero =>
                      intro C2 H2 r  H locs ls hr hps hw hcl hmf
                      exact absurd hmf (Nat.not_lt_zero _)
                    | succ fu ih_79 =>
                      intro C2 H2 r  H locs ls hr hps hw hcl hmf Hh hl
                      refine lv_iload C.1 C.2.1 dX5_bars_79 (lv_at hl 7 rfl) ?_
                      refine lv_aload_n C.1 C.2.1 dX5_bars_81 rfl (lv_at hl 0 rfl) ?_
                      refine gw_get (Cn := RX5) (T := TX5) (N := 29) C Hh 0 mw_at0 rfl uwX5 23 (by decide) rfl tw_746 rfl dX5_bars_82 ?_
                      refine gw_icmp_ge (tgt := 143) C dX5_bars_85 (by decide) (by omega) (by omega) (fun hc_85 => ?_) (fun hc_85 => ?_)
                      · skip
                        refine lv_iinc (v := nI (q9 + 1)) (lv' := [(6, .int (nI (q9 + 1))), (0, .ref (q 0)), (1, .int (nI (g))), (2, .int (nI (t))), (3, .int (nI (n))), (4, .int (nI (C2))), (5, .int (nI (H2))), (7, .int (nI (r)))]) C.1 C.2.1 dX5_bars_143 hl (k := 6) rfl (nI_add _ 1) (by decide) rfl (fun ls hl => ?_)
                        refine lv_goto (tgt := 69) C.1 C.2.1 dX5_bars_146 (by decide) ?_
                        exact ih_69 (C2) (H2) (q9 + 1)  _ _ _ (by omega) (by refine bs_pass hB ?_ hw hcl; rw [← show r = uc_52.1 4 by omega]; exact hps) (by omega) Hh (lv_sub hl [1, 2, 3, 4, 5, 6, 0] rfl)
                      · skip
                        have hr9 := her r hc_85
                        have hen9 := hen.1 r hc_85
                        have hb9 : br r < 10 := by (have : br r < u.1 1 := hen9.2.1; omega)
                        have hd9 : dr r / 3 < 10 := by (have : dr r / 3 < u.1 2 := hen9.1.1; omega)
                        have tb9 := tbit_le C2 (uc_52.2.1 23 r)
                        have join_137 : ∀ (C3 : Nat) (H3 : Nat) (H : Heap) (locs : List Loc) (ls : Array Slot), (ps_in (vw u) X dr br C9 H9 (r + 1) C3 H3) → (who_in (vw u) X (uc_52.1 4) dr br (us_f (vw u) g t) C3 H3) → ((∀ s, s < uc_52.1 4 → C9.testBit (br s) = true → sub (cmk (vw u) (dr s)) C9 ∧ H9.testBit (dr s / 3) = true) → C3 = C9) → gw_H G A s (mw G q uc_52) H locs → lv_has ls 8 [(0, .ref (q 0)), (1, .int (nI (g))), (2, .int (nI (t))), (3, .int (nI (n))), (4, .int (nI (C3))), (5, .int (nI (H3))), (6, .int (nI (q9))), (7, .int (nI (r)))] → W p l e (gw_rm 5 120) s m args below meth c H locs 0 0 (MQ below (va_Qi (fun r u1 => ∃ k : Nat, r = nI k ∧ (rp (cdB (vw u) x y z) u u1 (sc u u1 ∧ md_bd u1 ∧ rb_post (vw u) X (tn x) (tn y) (tn z) k))) (gw_at G A (mw G q)) A) args s 0 0 A) (F0 m 137 ls []) := by
                          intro C3 H3  H locs ls hps3 hw3 hcl3 Hh hl
                          refine lv_iinc (v := nI (r + 1)) (lv' := [(7, .int (nI (r + 1))), (0, .ref (q 0)), (1, .int (nI (g))), (2, .int (nI (t))), (3, .int (nI (n))), (4, .int (nI (C3))), (5, .int (nI (H3))), (6, .int (nI (q9)))]) C.1 C.2.1 dX5_bars_137 hl (k := 7) rfl (nI_add _ 1) (by decide) rfl (fun ls hl => ?_)
                          refine lv_goto (tgt := 79) C.1 C.2.1 dX5_bars_140 (by decide) ?_
                          exact ih_79 (C3) (H3) (r + 1)  _ _ _ (by omega) (by exact hps3) (by exact hw3) (by exact hcl3) (by omega) Hh (lv_sub hl [1, 2, 3, 4, 5, 6, 7, 0] rfl)
                        refine lv_iload C.1 C.2.1 dX5_bars_88 (lv_at hl 4 rfl) ?_
                        refine lv_aload_n C.1 C.2.1 dX5_bars_90 rfl (lv_at hl 0 rfl) ?_
                        refine gw_get (Cn := RX5) (T := TX5) (N := 29) C Hh 0 mw_at0 rfl uwX5 27 (by decide) rfl tw_750 rfl dX5_bars_91 ?_
                        refine lv_iload C.1 C.2.1 dX5_bars_94 (lv_at hl 7 rfl) ?_
                        refine gw_ld C Hh 23 mw_at23 (by decide) dX5_bars_96 (by omega) ?_
                        refine lv_ishr C.1 C.2.1 dX5_bars_97 ?_
                        refine lv_iconst (v := nI 1) C.1 C.2.1 dX5_bars_98 (by decide +kernel) ?_
                        refine gw_and1 C dX5_bars_99 (by rw [hr9.2.2.2.2.1]; omega) ?_
                        refine gw_if_ne (tgt := 106) C dX5_bars_100 (by decide) (by omega) (fun hc_100 => ?_) (fun hc_100 => ?_)
                        · skip
                          refine lv_iload C.1 C.2.1 dX5_bars_106 (lv_at hl 4 rfl) ?_
                          refine lv_aload_n C.1 C.2.1 dX5_bars_108 rfl (lv_at hl 0 rfl) ?_
                          refine gw_get (Cn := RX5) (T := TX5) (N := 29) C Hh 0 mw_at0 rfl uwX5 21 (by decide) rfl tw_744 rfl dX5_bars_109 ?_
                          refine lv_aload_n C.1 C.2.1 dX5_bars_112 rfl (lv_at hl 0 rfl) ?_
                          refine gw_get (Cn := RX5) (T := TX5) (N := 29) C Hh 0 mw_at0 rfl uwX5 25 (by decide) rfl tw_748 rfl dX5_bars_113 ?_
                          refine lv_iload C.1 C.2.1 dX5_bars_116 (lv_at hl 7 rfl) ?_
                          refine gw_ld C Hh 21 mw_at21 (by decide) dX5_bars_118 (by omega) ?_
                          refine gw_ld C Hh 18 mw_at18 (by decide) dX5_bars_119 (by exact hr9.2.2.1) ?_
                          refine gw_ior C dX5_bars_120 ?_
                          refine lv_istore (lv' := [(4, .int (nI (C2 ||| (uc_52.2.1 18 (uc_52.2.1 21 (r)))))), (0, .ref (q 0)), (1, .int (nI (g))), (2, .int (nI (t))), (3, .int (nI (n))), (5, .int (nI (H2))), (6, .int (nI (q9))), (7, .int (nI (r)))]) C.1 C.2.1 dX5_bars_121 hl (by decide) rfl (fun ls hl => ?_)
                          refine lv_iload C.1 C.2.1 dX5_bars_123 (lv_at hl 5 rfl) ?_
                          refine lv_iconst (v := nI 1) C.1 C.2.1 dX5_bars_125 (by decide +kernel) ?_
                          refine lv_aload_n C.1 C.2.1 dX5_bars_126 rfl (lv_at hl 1 rfl) ?_
                          refine gw_get (Cn := RX5) (T := TX5) (N := 29) C Hh 0 mw_at0 rfl uwX5 24 (by decide) rfl tw_747 rfl dX5_bars_127 ?_
                          refine lv_iload C.1 C.2.1 dX5_bars_130 (lv_at hl 7 rfl) ?_
                          refine gw_ld C Hh 20 mw_at20 (by decide) dX5_bars_132 (by omega) ?_
                          refine gw_ishl C dX5_bars_133 (by rw [hr9.1]; omega) ?_
                          refine gw_ior C dX5_bars_134 ?_
                          refine lv_istore (lv' := [(5, .int (nI (H2 ||| (1 <<< (uc_52.2.1 20 (r)))))), (4, .int (nI (C2 ||| (uc_52.2.1 18 (uc_52.2.1 21 (r)))))), (0, .ref (q 0)), (1, .int (nI (g))), (2, .int (nI (t))), (3, .int (nI (n))), (6, .int (nI (q9))), (7, .int (nI (r)))]) C.1 C.2.1 dX5_bars_135 hl (by decide) rfl (fun ls hl => ?_)
                          exact join_137 (C2 ||| uc_52.2.1 18 (uc_52.2.1 21 r)) (H2 ||| 1 <<< uc_52.2.1 20 r)  _ _ _ (by rw [hr9.1, hr9.2.1]; exact ps_put h01 hps) (by rw [hr9.1, hr9.2.1]; exact who_put h01 h02 hen hc_85 hw (tb1 (by rw [← hr9.2.2.2.2.1]; exact hc_100))) (by intro z; rw [hr9.2.1, hcl z]; have q7 : C9.testBit (br r) = true := (by rw [← hcl z]; exact tb1 (by rw [← hr9.2.2.2.2.1]; exact hc_100)); exact sub_or_eq (z r hc_85 q7).1) Hh (lv_sub hl [2, 3, 4, 5, 1, 0, 6, 7] rfl)
                        · skip
                          refine lv_goto (tgt := 137) C.1 C.2.1 dX5_bars_103 (by decide) ?_
                          exact join_137 (C2) (H2)  _ _ _ (by exact ps_skip hps (tb0 (by rw [← hr9.2.2.2.2.1]; exact hc_100))) (by exact hw) (by exact hcl) Hh (lv_sub hl [0, 1, 2, 3, 4, 5, 6, 7] rfl)
                  exact loop_79 _ (C9) (H9) (0)  _ _ _ (by omega) (by exact ps_0 hB.2.1) (by exact ⟨hB.2.1, hB.2.2.1, hB.2.2.2.1, hB.2.2.2.2.1⟩) (by exact fun _ => rfl) (Nat.lt_succ_self _) Hh (lv_sub hl [1, 2, 3, 4, 5, 6, 7, 0] rfl)
            exact loop_69 _ (kc_58) (0) (0)  _ _ _ (by omega) (by rw [h58]; exact ⟨fun _ h => h, us_1024 h01 _ _, by decide, fun T t1 _ a ha => t1 a ha, fun o ho => by (rw [Nat.zero_testBit] at ho; cases ho), Or.inr (Nat.zero_le _)⟩) (Nat.lt_succ_self _) Hh (lv_sub hl [3, 4, 5, 6, 2, 1, 0] rfl)
          · skip
            exact absurd hc_46 (by decide)
        · skip
          refine lv_iconst (v := nI 2) C.1 C.2.1 dX5_bars_34 (by decide +kernel) ?_
          refine lv_goto (tgt := 39) C.1 C.2.1 dX5_bars_35 (by decide) ?_
          refine gw_put (Cn := RX5) (T := TX5) (N := 29) (ty0 := tyX5) (v := nI (2)) C Hh 0 mw_at0 rfl uwX5 tyX5_ok nmX5 0 (by decide) rfl tw_723 rfl (by decide +kernel) (Nat.le_of_ble_eq_true rfl) mw_num0 dX5_bars_39 (fun H locs Hh => ?_)
          refine lv_aload_n C.1 C.2.1 dX5_bars_42 rfl (lv_at hl 0 rfl) ?_
          refine gw_get (Cn := RX5) (T := TX5) (N := 29) C Hh 0 mw_at0 rfl uwX5 0 (by decide) rfl tw_723 rfl dX5_bars_43 ?_
          refine W.eq (g2 := F0 m 46 ls [.int (nI (2))]) rfl ?_
          refine gw_if_le (tgt := 51) C dX5_bars_46 (by decide) (by omega) (fun hc_46 => ?_) (fun hc_46 => ?_)
          · skip
            exact absurd hc_46 (by decide)
          · skip
            refine lv_iconst (v := nI 0) C.1 C.2.1 dX5_bars_49 (by decide +kernel) ?_
            exact gw_iret (w := mw G q) (u := (up1 u.1 0 (2), u.2.1, u.2.2)) C Hh dX5_bars_50 ⟨_, rfl, by first | exact rp_n (hv9.trans (if_pos (by split at hk_28 <;> omega))) (by decide) rfl | exact rp_n (cdB_1 (fun h => h.2.2 (Int32.not_le.mp hc_19))) (by decide) rfl | exact rp_n (cdB_1 (fun h => pif_0 (by rw [← hi_12]; exact hc_15) h.2.1)) (by decide) rfl | exact rp_n (cdB_1 (fun h => pif_0 (by rw [← hk_2]; exact hc_5) h.1)) (by decide) rfl⟩
      · skip
        refine lv_iconst (v := nI 1) C.1 C.2.1 dX5_bars_22 (by decide +kernel) ?_
        refine lv_goto (tgt := 39) C.1 C.2.1 dX5_bars_23 (by decide) ?_
        refine gw_put (Cn := RX5) (T := TX5) (N := 29) (ty0 := tyX5) (v := nI (1)) C Hh 0 mw_at0 rfl uwX5 tyX5_ok nmX5 0 (by decide) rfl tw_723 rfl (by decide +kernel) (Nat.le_of_ble_eq_true rfl) mw_num0 dX5_bars_39 (fun H locs Hh => ?_)
        refine lv_aload_n C.1 C.2.1 dX5_bars_42 rfl (lv_at hl 0 rfl) ?_
        refine gw_get (Cn := RX5) (T := TX5) (N := 29) C Hh 0 mw_at0 rfl uwX5 0 (by decide) rfl tw_723 rfl dX5_bars_43 ?_
        refine W.eq (g2 := F0 m 46 ls [.int (nI (1))]) rfl ?_
        refine gw_if_le (tgt := 51) C dX5_bars_46 (by decide) (by omega) (fun hc_46 => ?_) (fun hc_46 => ?_)
        · skip
          exact absurd hc_46 (by decide)
        · skip
          refine lv_iconst (v := nI 0) C.1 C.2.1 dX5_bars_49 (by decide +kernel) ?_
          exact gw_iret (w := mw G q) (u := (up1 u.1 0 (1), u.2.1, u.2.2)) C Hh dX5_bars_50 ⟨_, rfl, by first | exact rp_n (hv9.trans (if_pos (by split at hk_28 <;> omega))) (by decide) rfl | exact rp_n (cdB_1 (fun h => h.2.2 (Int32.not_le.mp hc_19))) (by decide) rfl | exact rp_n (cdB_1 (fun h => pif_0 (by rw [← hi_12]; exact hc_15) h.2.1)) (by decide) rfl | exact rp_n (cdB_1 (fun h => pif_0 (by rw [← hk_2]; exact hc_5) h.1)) (by decide) rfl⟩
