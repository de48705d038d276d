/-! taking for a demand from the arrivals in their turn -/
def tk_ot (lo d : Nat) : Nat := lo &&& ((1 <<< d) ^^^ 4294967295)
theorem tk_ot_self {lo d : Nat} (hd : d < 32) : (tk_ot lo d).testBit d = false := by
  unfold tk_ot
  rw [Nat.testBit_and, Nat.testBit_xor, Nat.one_shiftLeft, Nat.testBit_two_pow, show (4294967295 : Nat) = 2 ^ 32 - 1 from rfl, Nat.testBit_two_pow_sub_one]
  simp [hd]
theorem tk_ot_ne {lo d e : Nat} (he : e < 32) (h : e ≠ d) : (tk_ot lo d).testBit e = lo.testBit e := by
  unfold tk_ot
  rw [Nat.testBit_and, Nat.testBit_xor, Nat.one_shiftLeft, Nat.testBit_two_pow, show (4294967295 : Nat) = 2 ^ 32 - 1 from rfl, Nat.testBit_two_pow_sub_one]
  have : ¬ d = e := fun q => h q.symm
  simp [he, this]
def ta_rel (u v : pf_S) (lo d : Nat) : Prop :=
  st_buts [21, 22, 26, 27, 28] u v ∧ (∀ e, e < 31 → e ≠ d → fl_sum (tk_x v e) (u.1 2) = fl_sum (tk_x u e) (u.1 2)) ∧ (∀ b, b < 10 → tk_x u d b ≤ tk_x v d b) ∧ (∀ b, b < u.1 2 → tk_col v b = tk_col u b) ∧
  (∀ e, e < 31 → ∀ b, b < u.1 2 → 0 < tk_x v e b → 0 < tk_x u e b ∨ (u.2 23 e).testBit b = true) ∧ (∀ e, e < 31 → e ≠ d → lo.testBit e = false → ∀ b, b < 10 → tk_x v e b = tk_x u e b) ∧
  ∀ T : Nat → Prop, tk_shut u lo T → ∀ b, b < u.1 2 → T b → v.2 21 b = u.2 21 b ∧ ∀ e, e < 31 → tk_x v e b = tk_x u e b
theorem ta_rf {u : pf_S} {lo d : Nat} : ta_rel u u lo d := ⟨st_buts.rf, fun _ _ _ => rfl, fun _ _ => Nat.le_refl _, fun _ _ => rfl, fun _ _ _ _ h => Or.inl h, fun _ _ _ _ _ _ => rfl, fun _ _ _ _ _ => ⟨rfl, fun _ _ => rfl⟩⟩
theorem ta_cap {u v : pf_S} {lo d : Nat} (h : ta_rel u v lo d) (hc : tk_cap u) : tk_cap v := by
  refine ⟨by rw [h.1.1]; exact hc.1, fun b hb => ?_⟩
  rw [h.1.1] at hb
  have h1 := h.2.2.2.1 b hb
  have h2 := hc.2 b hb
  unfold tk_col at h1
  omega
theorem ta_us {u v : pf_S} {lo d : Nat} (h : ta_rel u v lo d) (hu : us_ok u) : us_ok v := by
  intro e he b hb
  rw [h.1.2 23 (by decide)] at hb
  rw [h.1.1]
  exact hu e he b hb
theorem ta_shut {u v : pf_S} {lo d : Nat} {T : Nat → Prop} (h : ta_rel u v lo d) (hT : tk_shut u lo T) : tk_shut v lo T := by
  have hn : v.1 2 = u.1 2 := by rw [h.1.1]
  have h23 : v.2 23 = u.2 23 := h.1.2 23 (by decide)
  refine ⟨fun b hb hb2 => ?_, fun e he hl b hb hb2 hx c hc => ?_⟩
  · rw [hn] at hb
    rw [(h.2.2.2.2.2.2 T hT b hb hb2).1]
    exact hT.1 b hb hb2
  · rw [hn] at hb
    rw [(h.2.2.2.2.2.2 T hT b hb hb2).2 e he] at hx
    rw [h23] at hc
    exact hT.2 e he hl b hb hb2 hx c hc
theorem ta_step {u v w : pf_S} {lo d a g : Nat} (h : ta_rel u v lo d) (ht : tf_rel v w lo d a g) (hus : (u.2 23 d).testBit a = true) : ta_rel u w lo d := by
  have hn : v.1 2 = u.1 2 := by rw [h.1.1]
  have h23 : v.2 23 = u.2 23 := h.1.2 23 (by decide)
  have hsh : ∀ T, tk_shut u lo T → tk_shut v lo T := fun T hT => ta_shut h hT
  obtain ⟨h1, h2, h3, h4, h5, h6, h7⟩ := h
  obtain ⟨t1, t2, t3, t4, t5, t6, t7, t8⟩ := ht
  rw [hn] at t2 t5 t6 t8
  refine ⟨h1.tr t1, fun e he hd => (t2 e he hd).trans (h2 e he hd), fun b hb => ?_, fun b hb => (t5 b hb).trans (h4 b hb), fun e he b hb hp => ?_, fun e he hd hl b hb => (t7 e he hd hl b hb).trans (h6 e he hd hl b hb), fun T hT b hb hTb => ?_⟩
  · have := h3 b hb
    by_cases q : b = a
    · rw [q] at this ⊢
      omega
    · rw [t3 b hb q]
      exact this
  · rcases t6 e he b hb hp with q | q | q
    · exact h5 e he b hb q
    · rw [h23] at q
      exact Or.inr q
    · rw [q.1, q.2]
      exact Or.inr hus
  · obtain ⟨g1, g2⟩ := h7 T hT b hb hTb
    obtain ⟨g3, g4⟩ := t8 T (hsh T hT) b hb hTb
    exact ⟨g3.trans g1, fun e he => (g4 e he).trans (g2 e he)⟩
/-- the sum of a row in which one place has grown -/
theorem tf_sum {v w : pf_S} {lo d a g n : Nat} (ht : tf_rel v w lo d a g) (ha : a < n) (hn : n ≤ 10) : fl_sum (tk_x w d) n = fl_sum (tk_x v d) n + g := by
  have := fl_sum_rest (f := tk_x w d) (g := tk_x v d) ha (fun b hb hba => ht.2.2.1 b (by omega) hba)
  rw [ht.2.2.2.1] at this
  omega
/-- at each arrival in its turn: it is shut, or nothing is missing and nothing taken behind it -/
def ta_ord (u v : pf_S) (lo d i mi : Nat) : Prop := ∀ j, j < i → (u.2 23 d).testBit (u.2 20 j) = true → (∃ T, tk_shut v lo T ∧ T (u.2 20 j) ∧ ∀ z, j < z → z < u.1 2 → T (u.2 20 z) → tk_x v d (u.2 20 z) = tk_x u d (u.2 20 z)) ∨ (mi = 0 ∧ ∀ z, j < z → z < u.1 2 → tk_x v d (u.2 20 z) = tk_x u d (u.2 20 z))
def ta_post (u u1 : pf_S) (lo d w k : Nat) : Prop := ta_rel u u1 lo d ∧ fl_sum (tk_x u1 d) (u.1 2) + k = fl_sum (tk_x u d) (u.1 2) + w ∧ ta_ord u u1 lo d (u.1 2) k
theorem ta_ord_step {u v w : pf_S} {lo d a g i mi k : Nat} (h : ta_ord u v lo d i mi) (hmi : 0 < mi) (ht : tf_rel v w lo d a g) (ha : u.2 20 i = a) (hn : u.1 2 ≤ 10) (hlt : ∀ z, z < u.1 2 → u.2 20 z < u.1 2) (hne : ∀ z, i < z → z < u.1 2 → u.2 20 z ≠ a) (hl : ∀ z, i ≤ z → z < u.1 2 → tk_x v d (u.2 20 z) = tk_x u d (u.2 20 z)) (hs : 0 < k → ∃ T, tk_shut w lo T ∧ T a) (hd : d < 31) (hvn : v.1 2 = u.1 2) : ta_ord u w lo d (i + 1) k := by
  intro j hj hus
  by_cases q : j = i
  · subst q
    by_cases hk : 0 < k
    · left
      rw [ha]
      obtain ⟨T, q1, q2⟩ := hs hk
      refine ⟨T, q1, q2, fun z h1 h2 _ => ?_⟩
      rw [ht.2.2.1 _ (by have := hlt z h2; omega) (hne z h1 h2)]
      exact hl z (by omega) h2
    · right
      refine ⟨by omega, fun z h1 h2 => ?_⟩
      rw [ht.2.2.1 _ (by have := hlt z h2; omega) (hne z h1 h2)]
      exact hl z (by omega) h2
  · rcases h j (by omega) hus with ⟨T, g1, g2, g3⟩ | ⟨g1, -⟩
    · refine Or.inl ⟨T, tf_shut ht g1, g2, fun z h1 h2 h3 => ?_⟩
      rw [(ht.2.2.2.2.2.2.2 T g1 _ (by rw [hvn]; exact hlt z h2) h3).2 d hd]
      exact g3 z h1 h2 h3
    · omega
theorem ta_ord_skip {u v : pf_S} {lo d i mi : Nat} (h : ta_ord u v lo d i mi) (hu : (u.2 23 d).testBit (u.2 20 i) = false) : ta_ord u v lo d (i + 1) mi := by
  intro j hj hus
  by_cases q : j = i
  · subst q
    rw [hu] at hus
    cases hus
  · exact h j (by omega) hus
set_option maxHeartbeats 4000000 in
set_option maxRecDepth 100000 in
theorem c_X3_take (l : Launch) (G : gw_G) (q : Nat → Nat) (u : pf_S) (d : Nat) (w : Nat) (lo : Nat) (hcap : tk_cap u) (hus : us_ok u) (hd : d < 31) (hw : w < 2 ^ 31) (hlt : ∀ z, z < u.1 2 → u.2 20 z < u.1 2) (hinj : ∀ i j, i < j → j < u.1 2 → u.2 20 i ≠ u.2 20 j) : gw_MI l yX3_take cX3_take 8 (some .int) 3 82 [.ref (q 4), .int (nI (d)), .int (nI (w)), .int (nI (lo))] G (pw G q) u (fun r u1 => ∃ k : Nat, r = nI k ∧ (ta_post u u1 (tk_ot lo d) d w k)) := by
  refine gw_entryI (own := RX3) (by decide) rfl (Nat.le_of_ble_eq_true rfl) ?_
  intro p e s m args below meth c A ls C Hh hl
  have hl : lv_has ls 8 [(0, .ref (q 4)), (1, .int (nI (d))), (2, .int (nI (w))), (3, .int (nI (lo)))] := hl
  refine lv_iload_n C.1 C.2.1 dX3_take_0 rfl (lv_at hl 3 rfl) ?_
  refine lv_iconst (v := nI 1) C.1 C.2.1 dX3_take_1 (by decide +kernel) ?_
  refine lv_iload_n C.1 C.2.1 dX3_take_2 rfl (lv_at hl 1 rfl) ?_
  refine gw_ishl C dX3_take_3 (by omega) ?_
  refine lv_iconst (v := nI 4294967295) C.1 C.2.1 dX3_take_4 (by decide +kernel) ?_
  refine gw_ixor C dX3_take_5 ?_
  refine gw_iand C dX3_take_6 ?_
  rw [show lo &&& ((1 <<< d) ^^^ 4294967295) = tk_ot lo d from rfl]
  refine lv_istore (lv' := [(4, .int (nI (tk_ot lo d))), (0, .ref (q 4)), (1, .int (nI (d))), (2, .int (nI (w))), (3, .int (nI (lo)))]) C.1 C.2.1 dX3_take_7 hl (by decide) rfl (fun ls hl => ?_)
  refine lv_iload_n C.1 C.2.1 dX3_take_9 rfl (lv_at hl 3 rfl) ?_
  refine lv_istore (lv' := [(5, .int (nI (w))), (4, .int (nI (tk_ot lo d))), (0, .ref (q 4)), (1, .int (nI (d))), (2, .int (nI (w))), (3, .int (nI (lo)))]) C.1 C.2.1 dX3_take_10 hl (by decide) rfl (fun ls hl => ?_)
  refine lv_iconst (v := nI 0) C.1 C.2.1 dX3_take_12 (by decide +kernel) ?_
  refine lv_istore (lv' := [(6, .int (nI (0))), (5, .int (nI (w))), (4, .int (nI (tk_ot lo d))), (0, .ref (q 4)), (1, .int (nI (d))), (2, .int (nI (w))), (3, .int (nI (lo)))]) C.1 C.2.1 dX3_take_13 hl (by decide) rfl (fun ls hl => ?_)
  have loop_15 : ∀ (fu : Nat) (i : Nat) (mi : Nat) (uc : pf_S) (H : Heap) (locs : List Loc) (ls : Array Slot), (i ≤ u.1 2) → (mi ≤ w) → (ta_rel u uc (tk_ot lo d) d) → (fl_sum (tk_x uc d) (u.1 2) + mi = fl_sum (tk_x u d) (u.1 2) + w) → (∀ z, i ≤ z → z < u.1 2 → tk_x uc d (u.2 20 z) = tk_x u d (u.2 20 z)) → (ta_ord u uc (tk_ot lo d) d i mi) → u.1 2 - i < fu → gw_H G A s (pw G q uc) H locs → lv_has ls 8 [(0, .ref (q 4)), (1, .int (nI (d))), (2, .int (nI (w))), (3, .int (nI (lo))), (4, .int (nI (tk_ot lo d))), (5, .int (nI (mi))), (6, .int (nI (i)))] → W p l e (gw_rm 3 82) s m args below meth c H locs 0 0 (MQ below (va_Qi (fun r u1 => ∃ k : Nat, r = nI k ∧ (ta_post u u1 (tk_ot lo d) d w k)) (gw_at G A (pw G q)) A) args s 0 0 A) (F0 m 15 ls []) := by
    intro fu
    induction fu with
    | zero =>
      intro i mi uc H locs ls hi hmw hv hsum hlat hord hmf
      exact absurd hmf (Nat.not_lt_zero _)
    | succ fu ih_15 =>
      intro i mi uc H locs ls hi hmw hv hsum hlat hord hmf Hh hl
      have hcv := ta_cap hv hcap
      have huv := ta_us hv hus
      have hn2 : uc.1 2 = u.1 2 := by rw [hv.1.1]
      have h0 := hcap.1
      have h20 : uc.2 20 = u.2 20 := hv.1.2 20 (by decide)
      have h23 : uc.2 23 = u.2 23 := hv.1.2 23 (by decide)
      refine lv_iload C.1 C.2.1 dX3_take_15 (lv_at hl 6 rfl) ?_
      refine lv_aload_n C.1 C.2.1 dX3_take_17 rfl (lv_at hl 0 rfl) ?_
      refine gw_get (Cn := RX3) (T := TX3) (N := 10) C Hh 4 pw_at4 rfl uwX3 0 (by decide) rfl tw_185 rfl dX3_take_18 ?_
      refine gw_icmp_ge (tgt := 71) C dX3_take_21 (by decide) (by omega) (by omega) (fun hc_21 => ?_) (fun hc_21 => ?_)
      · skip
        refine lv_iload C.1 C.2.1 dX3_take_71 (lv_at hl 5 rfl) ?_
        exact gw_iret (w := pw G q) (u := uc) C Hh dX3_take_73 ⟨_, rfl, by refine ⟨hv, hsum, ?_⟩; first | (rw [show u.1 2 = i by omega]; exact hord) | (intro j hj hu9; rcases Nat.lt_or_ge j i with q9 | q9; (exact hord j q9 hu9); exact Or.inr ⟨by omega, fun z h1 h2 => hlat z (by omega) h2⟩)⟩
      · skip
        refine lv_iload C.1 C.2.1 dX3_take_24 (lv_at hl 5 rfl) ?_
        refine gw_if_le (tgt := 71) C dX3_take_26 (by decide) (by omega) (fun hc_26 => ?_) (fun hc_26 => ?_)
        · skip
          refine lv_iload C.1 C.2.1 dX3_take_71 (lv_at hl 5 rfl) ?_
          exact gw_iret (w := pw G q) (u := uc) C Hh dX3_take_73 ⟨_, rfl, by refine ⟨hv, hsum, ?_⟩; first | (rw [show u.1 2 = i by omega]; exact hord) | (intro j hj hu9; rcases Nat.lt_or_ge j i with q9 | q9; (exact hord j q9 hu9); exact Or.inr ⟨by omega, fun z h1 h2 => hlat z (by omega) h2⟩)⟩
        · skip
          refine lv_aload_n C.1 C.2.1 dX3_take_29 rfl (lv_at hl 0 rfl) ?_
          refine gw_get (Cn := RX3) (T := TX3) (N := 10) C Hh 4 pw_at4 rfl uwX3 1 (by decide) rfl tw_186 rfl dX3_take_30 ?_
          refine lv_iload C.1 C.2.1 dX3_take_33 (lv_at hl 6 rfl) ?_
          refine gw_ld C Hh 20 pw_at20 (by decide) dX3_take_35 (by omega) ?_
          have hai := hlt i (by omega)
          refine lv_istore (lv' := [(7, .int (nI (uc.2 20 (i)))), (0, .ref (q 4)), (1, .int (nI (d))), (2, .int (nI (w))), (3, .int (nI (lo))), (4, .int (nI (tk_ot lo d))), (5, .int (nI (mi))), (6, .int (nI (i)))]) C.1 C.2.1 dX3_take_36 hl (by decide) rfl (fun ls hl => ?_)
          refine lv_aload_n C.1 C.2.1 dX3_take_38 rfl (lv_at hl 1 rfl) ?_
          refine gw_get (Cn := RX3) (T := TX3) (N := 10) C Hh 4 pw_at4 rfl uwX3 4 (by decide) rfl tw_190 rfl dX3_take_39 ?_
          refine lv_iload_n C.1 C.2.1 dX3_take_42 rfl (lv_at hl 2 rfl) ?_
          refine gw_ld C Hh 23 pw_at23 (by decide) dX3_take_43 (by omega) ?_
          refine lv_iload C.1 C.2.1 dX3_take_44 (lv_at hl 0 rfl) ?_
          refine gw_fromI (w := pw G q) (u := uc) C Hh (gw_runSN (n := 2) [.int (nI (uc.2 23 (d))), .int (nI (uc.2 20 (i)))] C Hh (c_X4_hasBit l G q (uc) (uc.2 23 (d)) (uc.2 20 (i)) (by rw [h20]; omega) _) tw_449 tw_450 tw_66 tw_451 (by decide +kernel) ⟨Nat.le_of_ble_eq_true rfl, Nat.le_of_ble_eq_true rfl⟩ rfl hl.1 (Nat.le_of_ble_eq_true rfl) dX3_take_46 ⟨Nat.zero_le _, Nat.zero_le _⟩) (fun rc_46 uc_46 H locs hp_46 Hh => ?_)
          obtain ⟨kc_46, rfl, hp_46⟩ := hp_46
          obtain ⟨hk_46, hu_46⟩ := hp_46
          rw [hu_46] at Hh
          clear hu_46
          have htl := tbit_le (uc.2 23 d) (uc.2 20 i)
          have join_65 : ∀ (mi2 : Nat) (ud : pf_S) (H : Heap) (locs : List Loc) (ls : Array Slot), (mi2 ≤ w) → (ta_rel u ud (tk_ot lo d) d) → (fl_sum (tk_x ud d) (u.1 2) + mi2 = fl_sum (tk_x u d) (u.1 2) + w) → (∀ z, i + 1 ≤ z → z < u.1 2 → tk_x ud d (u.2 20 z) = tk_x u d (u.2 20 z)) → (ta_ord u ud (tk_ot lo d) d (i + 1) mi2) → gw_H G A s (pw G q ud) H locs → lv_has ls 8 [(0, .ref (q 4)), (1, .int (nI (d))), (2, .int (nI (w))), (3, .int (nI (lo))), (4, .int (nI (tk_ot lo d))), (5, .int (nI (mi2))), (6, .int (nI (i)))] → W p l e (gw_rm 3 82) s m args below meth c H locs 0 0 (MQ below (va_Qi (fun r u1 => ∃ k : Nat, r = nI k ∧ (ta_post u u1 (tk_ot lo d) d w k)) (gw_at G A (pw G q)) A) args s 0 0 A) (F0 m 65 ls []) := by
            intro mi2 ud H locs ls hmw2 hv2 hsum2 hlat2 hord2 Hh hl
            refine lv_iinc (v := nI (i + 1)) (lv' := [(6, .int (nI (i + 1))), (0, .ref (q 4)), (1, .int (nI (d))), (2, .int (nI (w))), (3, .int (nI (lo))), (4, .int (nI (tk_ot lo d))), (5, .int (nI (mi2)))]) C.1 C.2.1 dX3_take_65 hl (k := 6) rfl (nI_add _ 1) (by decide) rfl (fun ls hl => ?_)
            refine lv_goto (tgt := 15) C.1 C.2.1 dX3_take_68 (by decide) ?_
            exact ih_15 (i + 1) (mi2) (ud) _ _ _ (by first | assumption | omega) (by first | assumption | omega) (by exact hv2) (by exact hsum2) (by exact hlat2) (by exact hord2) (by omega) Hh (lv_sub hl [1, 2, 3, 4, 5, 6, 0] rfl)
          refine gw_if_eq (tgt := 65) C dX3_take_49 (by decide) (by omega) (fun hc_49 => ?_) (fun hc_49 => ?_)
          · skip
            exact join_65 (mi) (uc) _ _ _ (by first | assumption | omega) (by exact hv) (by exact hsum) (by intro z h1 h2; exact hlat z (by omega) h2) (by exact ta_ord_skip hord (by rw [hk_46, h23, h20] at hc_49; exact tbit_zero hc_49)) Hh (lv_sub hl [1, 2, 3, 4, 5, 6, 7] rfl)
          · skip
            have husa : (u.2 23 d).testBit (uc.2 20 i) = true := by rw [← h23]; exact tbit_pos (by omega)
            refine lv_aload_n C.1 C.2.1 dX3_take_52 rfl (lv_at hl 1 rfl) ?_
            refine lv_iload_n C.1 C.2.1 dX3_take_53 rfl (lv_at hl 2 rfl) ?_
            refine lv_iload C.1 C.2.1 dX3_take_54 (lv_at hl 0 rfl) ?_
            refine lv_iload C.1 C.2.1 dX3_take_56 (lv_at hl 6 rfl) ?_
            refine lv_iload C.1 C.2.1 dX3_take_58 (lv_at hl 5 rfl) ?_
            refine gw_fromI (w := pw G q) (u := uc) C Hh (gw_runV (n := 4) (C1 := RX3) [.int (nI (d)), .int (nI (uc.2 20 (i))), .int (nI (mi)), .int (nI (tk_ot lo d))] C Hh (c_X3_takeFrom l G q (uc) (d) (uc.2 20 (i)) (mi) (tk_ot lo d) (by first | assumption | omega) (by first | assumption | omega) (by first | assumption | omega) (by rw [h20, hn2]; exact hai) (by exact tk_ot_self (by omega)) (by omega) _) tw_452 tw_454 tw_22 tw_70 tw_455 (by decide +kernel) ⟨Nat.le_of_ble_eq_true rfl, Nat.le_of_ble_eq_true rfl⟩ 4 pw_at4 rfl rfl hl.1 (Nat.le_of_ble_eq_true rfl) dX3_take_60 ⟨Nat.zero_le _, Nat.zero_le _⟩) (fun rc_60 uc_60 H locs hp_60 Hh => ?_)
            obtain ⟨kc_60, rfl, hp_60⟩ := hp_60
            obtain ⟨gg, hgw, hgf, hgs⟩ := hp_60
            refine lv_istore (lv' := [(5, .int (nI (kc_60))), (7, .int (nI (uc.2 20 (i)))), (0, .ref (q 4)), (1, .int (nI (d))), (2, .int (nI (w))), (3, .int (nI (lo))), (4, .int (nI (tk_ot lo d))), (6, .int (nI (i)))]) C.1 C.2.1 dX3_take_63 hl (by decide) rfl (fun ls hl => ?_)
            exact join_65 (kc_60) (uc_60) _ _ _ (by omega) (by exact ta_step hv hgf husa) (by have q9 := tf_sum (n := u.1 2) hgf (by rw [h20]; exact hai) h0; omega) (by intro z h1 h2; rw [hgf.2.2.1 _ (by have := hlt z h2; omega) (by rw [h20]; exact fun q9 => hinj i z (by omega) h2 q9.symm)]; exact hlat z (by omega) h2) (by exact ta_ord_step hord (by omega) hgf (by rw [h20]) h0 hlt (fun z h1 h2 => by rw [h20]; exact fun q9 => hinj i z h1 h2 q9.symm) hlat hgs hd hn2) Hh (lv_sub hl [2, 3, 4, 5, 6, 0, 7] rfl)
  exact loop_15 _ (0) (w) (u) _ _ _ (by first | assumption | omega) (by first | assumption | omega) (by exact ta_rf) (by rfl) (by intro z _ _; rfl) (by intro j hj; omega) (Nat.lt_succ_self _) Hh (lv_sub hl [3, 4, 5, 6, 2, 1, 0] rfl)
