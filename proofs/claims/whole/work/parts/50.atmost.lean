/-! atMost -/
def at_in (u : md_S) (d a N : Nat) (k : Int) : Prop := (k ≤ u.2.2 17 d ∧ k ≤ u.2.2 19 a ∧ ∀ S, S < N → S.testBit a = true → u.2.1 18 d &&& (S ^^^ 4294967295) ≠ 0 → k ≤ sl u S) ∧ (k = u.2.2 17 d ∨ k = u.2.2 19 a ∨ ∃ S, S < N ∧ S.testBit a = true ∧ u.2.1 18 d &&& (S ^^^ 4294967295) ≠ 0 ∧ k = sl u S)
theorem at_skip {u : md_S} {d a S : Nat} {k : Int} (h : at_in u d a S k) (h1 : S.testBit a = true → u.2.1 18 d &&& (S ^^^ 4294967295) ≠ 0 → k ≤ sl u S) : at_in u d a (S + 1) k := by
  obtain ⟨⟨h2, h3, h4⟩, h5⟩ := h
  refine ⟨⟨h2, h3, fun s hs h6 h7 => ?_⟩, h5.imp id (Or.imp id (fun ⟨s, s1, s2⟩ => ⟨s, by omega, s2⟩))⟩
  by_cases q : s = S
  · subst q
    exact h1 h6 h7
  · exact h4 s (by omega) h6 h7
theorem at_take {u : md_S} {d a S : Nat} {k : Int} (h : at_in u d a S k) (h1 : S.testBit a = true) (h2 : u.2.1 18 d &&& (S ^^^ 4294967295) ≠ 0) (h3 : sl u S < k) : at_in u d a (S + 1) (sl u S) := by
  obtain ⟨⟨h4, h5, h6⟩, -⟩ := h
  refine ⟨⟨by omega, by omega, fun s hs h7 h8 => ?_⟩, Or.inr (Or.inr ⟨S, by omega, h1, h2, rfl⟩)⟩
  by_cases q : s = S
  · subst q
    exact Int.le_refl _
  · have := h6 s (by omega) h7 h8
    omega
theorem at_lg {u : md_S} {d a S : Nat} {k : Int} (h10 : u.1 1 ≤ 10) (hb : md_bd u) (hd : d < 40) (ha : a < 10) (h : at_in u d a S k) : lg k := by
  have h1 := (hb.2.1 d hd).2
  have h2 := hb.2.2 a ha
  have h3 := h.1.1
  rcases h.2 with h4 | h4 | ⟨s, s1, s2, s3, s4⟩
  · exact ⟨by omega, by omega⟩
  · exact ⟨by omega, by omega⟩
  · have := sl_bd h10 hb s
    exact ⟨by omega, by omega⟩
set_option maxHeartbeats 4000000 in
set_option maxRecDepth 100000 in
theorem c_X5_atMost (l : Launch) (G : gw_G) (q : Nat → Nat) (u : md_S) (d : Nat) (a : Nat) (h10 : u.1 1 ≤ 10) (hbd : md_bd u) (hd : d < u.1 3) (ha : a < u.1 1) : gw_ML l yX5_atMost cX5_atMost 8 (some .long) 1 24 [.ref (q 0), .int (nI (d)), .int (nI (a))] G (mw G q) u (fun r u1 => ∃ k : Int, r = Int64.ofInt k ∧ (at_in u d a (1 <<< u.1 1) k ∧ u1 = u)) := by
  refine gw_entryL (own := RX5) (by decide) rfl (Nat.le_of_ble_eq_true rfl) ?_
  intro p e s m args below meth c A ls C Hh hl
  have hl : lv_has ls 8 [(0, .ref (q 0)), (1, .int (nI (d))), (2, .int (nI (a)))] := hl
  have hd4 := hbd.1
  have b1 := (hbd.2.1 d (by omega)).2
  have b2 := hbd.2.2 a (by omega)
  have b3 := (hbd.2.1 d (by omega)).1
  have hs9 := shl_le h10
  refine lv_aload_n C.1 C.2.1 dX5_atMost_0 rfl (lv_at hl 0 rfl) ?_
  refine gw_get (Cn := RX5) (T := TX5) (N := 29) C Hh 0 mw_at0 rfl uwX5 20 (by decide) rfl tw_743 rfl dX5_atMost_1 ?_
  refine lv_iload_n C.1 C.2.1 dX5_atMost_4 rfl (lv_at hl 1 rfl) ?_
  refine gw_lld C Hh 17 mw_at17 (by decide) dX5_atMost_5 (by omega) ?_
  refine lv_aload_n C.1 C.2.1 dX5_atMost_6 rfl (lv_at hl 0 rfl) ?_
  refine gw_get (Cn := RX5) (T := TX5) (N := 29) C Hh 0 mw_at0 rfl uwX5 22 (by decide) rfl tw_745 rfl dX5_atMost_7 ?_
  refine lv_iload_n C.1 C.2.1 dX5_atMost_10 rfl (lv_at hl 2 rfl) ?_
  refine gw_lld C Hh 19 mw_at19 (by decide) dX5_atMost_11 (by omega) ?_
  have join_31 : ∀ (n : Int) (H : Heap) (locs : List Loc) (ls : Array Slot), (at_in u d a 0 n) → gw_H G A s (mw G q u) H locs → lv_has ls 8 [(0, .ref (q 0)), (1, .int (nI (d))), (2, .int (nI (a)))] → W p l e (gw_rm 1 24) s m args below meth c H locs 0 0 (MQ below (va_Ql (fun r u1 => ∃ k : Int, r = Int64.ofInt k ∧ (at_in u d a (1 <<< u.1 1) k ∧ u1 = u)) (gw_at G A (mw G q)) A) args s 0 0 A) (F0 m 31 ls [.long (Int64.ofInt (n))]) := by
    intro n  H locs ls hn Hh hl
    refine lv_lstore_n (lv' := [(3, .long (Int64.ofInt (n))), (0, .ref (q 0)), (1, .int (nI (d))), (2, .int (nI (a)))]) C.1 C.2.1 dX5_atMost_31 rfl hl (by decide) rfl (fun ls hl => ?_)
    refine lv_iconst (v := nI 0) C.1 C.2.1 dX5_atMost_32 (by decide +kernel) ?_
    refine lv_istore (lv' := [(5, .int (nI (0))), (3, .long (Int64.ofInt (n))), (0, .ref (q 0)), (1, .int (nI (d))), (2, .int (nI (a)))]) C.1 C.2.1 dX5_atMost_33 hl (by decide) rfl (fun ls hl => ?_)
    have loop_35 : ∀ (fu : Nat) (n : Int) (S : Nat) (H : Heap) (locs : List Loc) (ls : Array Slot), (S ≤ 1 <<< u.1 1) → (at_in u d a S n) → 1 <<< u.1 1 - S < fu → gw_H G A s (mw G q u) H locs → lv_has ls 8 [(0, .ref (q 0)), (1, .int (nI (d))), (2, .int (nI (a))), (3, .long (Int64.ofInt (n))), (5, .int (nI (S)))] → W p l e (gw_rm 1 24) s m args below meth c H locs 0 0 (MQ below (va_Ql (fun r u1 => ∃ k : Int, r = Int64.ofInt k ∧ (at_in u d a (1 <<< u.1 1) k ∧ u1 = u)) (gw_at G A (mw G q)) A) args s 0 0 A) (F0 m 35 ls []) := by
      intro fu
      induction fu with
      | zero =>
        intro n S  H locs ls hS hn hmf
        exact absurd hmf (Nat.not_lt_zero _)
      | succ fu ih_35 =>
        intro n S  H locs ls hS hn hmf Hh hl
        have hl9 := at_lg h10 hbd (by omega) (by omega) hn
        refine lv_iload C.1 C.2.1 dX5_atMost_35 (lv_at hl 4 rfl) ?_
        refine lv_iconst (v := nI 1) C.1 C.2.1 dX5_atMost_37 (by decide +kernel) ?_
        refine lv_aload_n C.1 C.2.1 dX5_atMost_38 rfl (lv_at hl 0 rfl) ?_
        refine gw_get (Cn := RX5) (T := TX5) (N := 29) C Hh 0 mw_at0 rfl uwX5 6 (by decide) rfl tw_729 rfl dX5_atMost_39 ?_
        refine gw_ishl C dX5_atMost_42 (by omega) ?_
        refine gw_icmp_ge (tgt := 100) C dX5_atMost_43 (by decide) (by omega) (by omega) (fun hc_43 => ?_) (fun hc_43 => ?_)
        · skip
          refine lv_lload_n C.1 C.2.1 dX5_atMost_100 rfl (lv_at hl 3 rfl) ?_
          exact gw_lret (w := mw G q) (u := u) C Hh dX5_atMost_101 ⟨_, rfl, by exact ⟨by rw [← show S = 1 <<< u.1 1 by omega]; exact hn, rfl⟩⟩
        · skip
          have tb9 := tbit_le S a
          have join_94 : ∀ (n2 : Int) (H : Heap) (locs : List Loc) (ls : Array Slot), (at_in u d a (S + 1) n2) → gw_H G A s (mw G q u) H locs → lv_has ls 8 [(0, .ref (q 0)), (1, .int (nI (d))), (2, .int (nI (a))), (3, .long (Int64.ofInt (n2))), (5, .int (nI (S)))] → W p l e (gw_rm 1 24) s m args below meth c H locs 0 0 (MQ below (va_Ql (fun r u1 => ∃ k : Int, r = Int64.ofInt k ∧ (at_in u d a (1 <<< u.1 1) k ∧ u1 = u)) (gw_at G A (mw G q)) A) args s 0 0 A) (F0 m 94 ls []) := by
            intro n2  H locs ls hn2 Hh hl
            refine lv_iinc (v := nI (S + 1)) (lv' := [(5, .int (nI (S + 1))), (0, .ref (q 0)), (1, .int (nI (d))), (2, .int (nI (a))), (3, .long (Int64.ofInt (n2)))]) C.1 C.2.1 dX5_atMost_94 hl (k := 4) rfl (nI_add _ 1) (by decide) rfl (fun ls hl => ?_)
            refine lv_goto (tgt := 35) C.1 C.2.1 dX5_atMost_97 (by decide) ?_
            exact ih_35 (n2) (S + 1)  _ _ _ (by omega) (by exact hn2) (by omega) Hh (lv_sub hl [1, 2, 3, 4, 0] rfl)
          refine lv_iload C.1 C.2.1 dX5_atMost_46 (lv_at hl 4 rfl) ?_
          refine lv_iload_n C.1 C.2.1 dX5_atMost_48 rfl (lv_at hl 2 rfl) ?_
          refine lv_ishr C.1 C.2.1 dX5_atMost_49 ?_
          refine lv_iconst (v := nI 1) C.1 C.2.1 dX5_atMost_50 (by decide +kernel) ?_
          refine gw_and1 C dX5_atMost_51 (by omega) ?_
          refine gw_if_eq (tgt := 94) C dX5_atMost_52 (by decide) (by omega) (fun hc_52 => ?_) (fun hc_52 => ?_)
          · skip
            exact join_94 (n)  _ _ _ (by refine at_skip hn (fun q => ?_); rw [tb0 hc_52] at q; cases q) Hh (lv_sub hl [0, 1, 2, 3, 4] rfl)
          · skip
            refine lv_aload_n C.1 C.2.1 dX5_atMost_55 rfl (lv_at hl 0 rfl) ?_
            refine gw_get (Cn := RX5) (T := TX5) (N := 29) C Hh 0 mw_at0 rfl uwX5 21 (by decide) rfl tw_744 rfl dX5_atMost_56 ?_
            refine lv_iload_n C.1 C.2.1 dX5_atMost_59 rfl (lv_at hl 1 rfl) ?_
            refine gw_ld C Hh 18 mw_at18 (by decide) dX5_atMost_60 (by omega) ?_
            refine lv_iload C.1 C.2.1 dX5_atMost_61 (lv_at hl 4 rfl) ?_
            refine lv_iconst (v := nI 4294967295) C.1 C.2.1 dX5_atMost_63 (by decide +kernel) ?_
            refine gw_ixor C dX5_atMost_64 ?_
            refine gw_iand C dX5_atMost_65 ?_
            refine gw_if_ne (tgt := 72) C dX5_atMost_66 (by decide) (by exact Nat.lt_trans (and_lt b3) (by decide)) (fun hc_66 => ?_) (fun hc_66 => ?_)
            · skip
              refine lv_aload_n C.1 C.2.1 dX5_atMost_72 rfl (lv_at hl 0 rfl) ?_
              refine lv_iload C.1 C.2.1 dX5_atMost_73 (lv_at hl 4 rfl) ?_
              refine gw_fromL (w := mw G q) (u := u) C Hh (gw_runV (n := 1) (C1 := RX5) [.int (nI (S))] C Hh (c_X5_slack l G q (u) (S) (by first | assumption | omega) (by first | assumption | omega) _) tw_855 tw_857 tw_55 tw_71 tw_858 (by decide +kernel) ⟨Nat.le_of_ble_eq_true rfl, Nat.le_of_ble_eq_true rfl⟩ 0 mw_at0 rfl rfl hl.1 (Nat.le_of_ble_eq_true rfl) dX5_atMost_75 ⟨Nat.zero_le _, Nat.zero_le _⟩) (fun rc_75 uc_75 H locs hp_75 Hh => ?_)
              obtain ⟨kc_75, rfl, hp_75⟩ := hp_75
              obtain ⟨hk_75, hu_75⟩ := hp_75
              rw [hu_75] at Hh
              clear hu_75
              refine lv_lstore (lv' := [(6, .long (Int64.ofInt (kc_75))), (0, .ref (q 0)), (1, .int (nI (d))), (2, .int (nI (a))), (3, .long (Int64.ofInt (n))), (5, .int (nI (S)))]) C.1 C.2.1 dX5_atMost_78 hl (by decide) rfl (fun ls hl => ?_)
              have join_93 : ∀ (n3 : Int) (H : Heap) (locs : List Loc) (ls : Array Slot), (at_in u d a (S + 1) n3) → gw_H G A s (mw G q u) H locs → lv_has ls 8 [(0, .ref (q 0)), (1, .int (nI (d))), (2, .int (nI (a))), (5, .int (nI (S)))] → W p l e (gw_rm 1 24) s m args below meth c H locs 0 0 (MQ below (va_Ql (fun r u1 => ∃ k : Int, r = Int64.ofInt k ∧ (at_in u d a (1 <<< u.1 1) k ∧ u1 = u)) (gw_at G A (mw G q)) A) args s 0 0 A) (F0 m 93 ls [.long (Int64.ofInt (n3))]) := by
                intro n3  H locs ls hn3 Hh hl
                refine lv_lstore_n (lv' := [(3, .long (Int64.ofInt (n3))), (0, .ref (q 0)), (1, .int (nI (d))), (2, .int (nI (a))), (5, .int (nI (S)))]) C.1 C.2.1 dX5_atMost_93 rfl hl (by decide) rfl (fun ls hl => ?_)
                exact join_94 (n3)  _ _ _ (by exact hn3) Hh (lv_sub hl [1, 2, 3, 0, 4] rfl)
              refine lv_lload C.1 C.2.1 dX5_atMost_80 (lv_at hl 0 rfl) ?_
              refine lv_lload_n C.1 C.2.1 dX5_atMost_82 rfl (lv_at hl 4 rfl) ?_
              refine gw_lc_ge (tgt := 92) C dX5_atMost_83 dX5_atMost_84 (by decide) (by rw [hk_75]; exact sl_lg h10 hbd S) (by exact hl9) (fun hc_83 => ?_) (fun hc_83 => ?_)
              · skip
                refine lv_lload_n C.1 C.2.1 dX5_atMost_92 rfl (lv_at hl 4 rfl) ?_
                exact join_93 (n)  _ _ _ (by exact at_skip hn (fun _ _ => by rw [← hk_75]; exact hc_83)) Hh (lv_sub hl [1, 2, 3, 5] rfl)
              · skip
                refine lv_lload C.1 C.2.1 dX5_atMost_87 (lv_at hl 0 rfl) ?_
                refine lv_goto (tgt := 93) C.1 C.2.1 dX5_atMost_89 (by decide) ?_
                exact join_93 (kc_75)  _ _ _ (by rw [hk_75]; exact at_take hn (tb1 hc_52) (by omega) (by rw [← hk_75]; exact hc_83)) Hh (lv_sub hl [1, 2, 3, 5] rfl)
            · skip
              refine lv_goto (tgt := 94) C.1 C.2.1 dX5_atMost_69 (by decide) ?_
              exact join_94 (n)  _ _ _ (by exact at_skip hn (fun _ q => absurd hc_66 q)) Hh (lv_sub hl [0, 1, 2, 3, 4] rfl)
    exact loop_35 _ (n) (0)  _ _ _ (by exact Nat.zero_le _) (by exact hn) (Nat.lt_succ_self _) Hh (lv_sub hl [2, 3, 4, 1, 0] rfl)
  refine gw_lc_ge (tgt := 25) C dX5_atMost_12 dX5_atMost_13 (by decide) (by unfold lg; omega) (by unfold lg; omega) (fun hc_12 => ?_) (fun hc_12 => ?_)
  · skip
    refine lv_aload_n C.1 C.2.1 dX5_atMost_25 rfl (lv_at hl 0 rfl) ?_
    refine gw_get (Cn := RX5) (T := TX5) (N := 29) C Hh 0 mw_at0 rfl uwX5 22 (by decide) rfl tw_745 rfl dX5_atMost_26 ?_
    refine lv_iload_n C.1 C.2.1 dX5_atMost_29 rfl (lv_at hl 2 rfl) ?_
    refine gw_lld C Hh 19 mw_at19 (by decide) dX5_atMost_30 (by omega) ?_
    exact join_31 (u.2.2 19 a)  _ _ _ (by exact ⟨⟨by omega, by omega, fun s hs => by omega⟩, Or.inr (Or.inl rfl)⟩) Hh (lv_sub hl [0, 1, 2] rfl)
  · skip
    refine lv_aload_n C.1 C.2.1 dX5_atMost_16 rfl (lv_at hl 0 rfl) ?_
    refine gw_get (Cn := RX5) (T := TX5) (N := 29) C Hh 0 mw_at0 rfl uwX5 20 (by decide) rfl tw_743 rfl dX5_atMost_17 ?_
    refine lv_iload_n C.1 C.2.1 dX5_atMost_20 rfl (lv_at hl 1 rfl) ?_
    refine gw_lld C Hh 17 mw_at17 (by decide) dX5_atMost_21 (by omega) ?_
    refine lv_goto (tgt := 31) C.1 C.2.1 dX5_atMost_22 (by decide) ?_
    exact join_31 (u.2.2 17 d)  _ _ _ (by exact ⟨⟨by omega, by omega, fun s hs => by omega⟩, Or.inl rfl⟩) Hh (lv_sub hl [0, 1, 2] rfl)
/-! plan: X says what is taken; each step takes just that -/
def enu (w : pf_S) (D : Nat) (e : Nat → Nat) : Prop := (∀ i, i < D → cvd w (e i)) ∧ (∀ d, cvd w d → ∃ i, i < D ∧ e i = d) ∧ ∀ i j, i < j → j < D → pbf w (e i) (e j)
noncomputable def bf_s (w : pf_S) (X : Nat → Nat → Nat) (d : Nat) (B : Nat → Prop) : Nat := fl_sum (fun b => pif (B b) (X d b) 0) (w.1 0)
noncomputable def pn_h (w : pf_S) (X : Nat → Nat → Nat) (e : Nat → Nat) (i : Nat) (B : Nat → Prop) (b : Nat) : Int := (fr_of w b : Int) - (fl_sum (fun j => X (e j) b) i : Int) - (pif (B b) (X (e i) b) 0 : Int)
noncomputable def pn_m (w : pf_S) (X : Nat → Nat → Nat) (e : Nat → Nat) (i : Nat) (B : Nat → Prop) (j : Nat) : Int := if j < i then 0 else if j = i then (od_w w (e i / 3) (e i % 3) : Int) - (bf_s w X (e i) B : Int) else (od_w w (e j / 3) (e j % 3) : Int)
noncomputable def pn_sl (w : pf_S) (X : Nat → Nat → Nat) (e : Nat → Nat) (D i : Nat) (B : Nat → Prop) (S : Nat) : Int := il_sum (fun b => if S.testBit b then pn_h w X e i B b else 0) (w.1 0) - il_sum (fun j => if cmk w (e j) &&& (S ^^^ 4294967295) = 0 then pn_m w X e i B j else 0) D
def at_ab (w : pf_S) (X : Nat → Nat → Nat) (e : Nat → Nat) (D i a : Nat) (k : Int) : Prop :=
  (k ≤ pn_m w X e i (bfr (w.2 10) a) i ∧ k ≤ pn_h w X e i (bfr (w.2 10) a) a ∧ ∀ S, S < 1 <<< w.1 0 → S.testBit a = true → cmk w (e i) &&& (S ^^^ 4294967295) ≠ 0 → k ≤ pn_sl w X e D i (bfr (w.2 10) a) S) ∧
  (k = pn_m w X e i (bfr (w.2 10) a) i ∨ k = pn_h w X e i (bfr (w.2 10) a) a ∨ ∃ S, S < 1 <<< w.1 0 ∧ S.testBit a = true ∧ cmk w (e i) &&& (S ^^^ 4294967295) ≠ 0 ∧ k = pn_sl w X e D i (bfr (w.2 10) a) S)
def X_ok (w : pf_S) (X : Nat → Nat → Nat) : Prop := (∀ d, cvd w d → fl_sum (X d) (w.1 0) = od_w w (d / 3) (d % 3)) ∧ (∀ b, b < w.1 0 → fl_sum (fun d => X d b) 31 ≤ fr_of w b) ∧ (∀ d, cvd w d → ∀ b, b < w.1 0 → 0 < X d b → (cmk w d).testBit b = true) ∧
  ∀ D e, enu w D e → ∀ i a, i < D → a < w.1 0 → (cmk w (e i)).testBit a = true → ∀ k, at_ab w X e D i a k → k = (X (e i) a : Int)
/-- the entries that are there -/
def en_r (w : pf_S) (X : Nat → Nat → Nat) (e : Nat → Nat) (D i : Nat) (B : Nat → Prop) (v : md_S) (jr br : Nat → Nat) : Prop :=
  (∀ r, r < v.1 4 → ((jr r < i ∨ (jr r = i ∧ B (br r))) ∧ jr r < D ∧ br r < w.1 0 ∧ 0 < X (e (jr r)) (br r)) ∧ v.2.1 20 r = e (jr r) / 3 ∧ v.2.1 21 r = jr r ∧ v.2.1 22 r = gd_dg w (w.2 15 (e (jr r) / 3)) (e (jr r) % 3) ∧ v.2.1 23 r = br r ∧ v.2.1 24 r = X (e (jr r)) (br r)) ∧
  (∀ j b, j < D → b < w.1 0 → (j < i ∨ (j = i ∧ B b)) → 0 < X (e j) b → ∃ r, r < v.1 4 ∧ jr r = j ∧ br r = b) ∧
  ∀ r s, r < s → s < v.1 4 → jr r < jr s ∨ (jr r = jr s ∧ kx_lt (w.2 10) (br r) (br s))
def pn_in (u : md_S) (X : Nat → Nat → Nat) (e : Nat → Nat) (D i : Nat) (B : Nat → Prop) (v : md_S) : Prop :=
  cf u v ∧ md_bd v ∧ v.1 3 = D ∧ (∀ j, j < D → v.2.1 15 j = e j / 3 ∧ v.2.1 16 j = gd_dg (vw u) ((vw u).2 15 (e j / 3)) (e j % 3) ∧ v.2.1 18 j = cmk (vw u) (e j)) ∧ (∀ b, b < u.1 1 → v.2.2 19 b = pn_h (vw u) X e i B b) ∧ (∀ j, j < D → v.2.2 17 j = pn_m (vw u) X e i B j) ∧ ∃ jr br, en_r (vw u) X e D i B v jr br
theorem pn_B {u : md_S} {X : Nat → Nat → Nat} {e : Nat → Nat} {D i : Nat} {B1 B2 : Nat → Prop} {v : md_S} (hX : X_ok (vw u) X) (he : enu (vw u) D e) (hi : i < D) (h : pn_in u X e D i B1 v) (hB : ∀ b, b < u.1 1 → 0 < X (e i) b → (B1 b ↔ B2 b)) : pn_in u X e D i B2 v := by
  have hp : ∀ b, b < u.1 1 → pif (B1 b) (X (e i) b) 0 = pif (B2 b) (X (e i) b) 0 := fun b hb => by
    by_cases q : 0 < X (e i) b
    · exact pif_iff (hB b hb q)
    · have h0 : X (e i) b = 0 := Nat.eq_zero_of_not_pos q
      rw [h0]
      by_cases q1 : B1 b <;> by_cases q2 : B2 b <;> simp [pif_pos, pif_neg, q1, q2]
  obtain ⟨h1, h2, h3, h4, h5, h6, jr, br, h7, h8, h9⟩ := h
  refine ⟨h1, h2, h3, h4, fun b hb => ?_, fun j hj => ?_, jr, br, fun r hr => ?_, fun j b hj hb hc h0 => ?_, h9⟩
  · rw [h5 b hb]
    unfold pn_h
    rw [hp b hb]
  · rw [h6 j hj]
    unfold pn_m bf_s
    rw [fl_sum_congr (n := (vw u).1 0) (f := fun b => pif (B1 b) (X (e i) b) 0) (g := fun b => pif (B2 b) (X (e i) b) 0) (fun b hb => hp b hb)]
  · obtain ⟨⟨g1, g2, g3, g4⟩, g5⟩ := h7 r hr
    refine ⟨⟨g1.imp id (fun q => ⟨q.1, ?_⟩), g2, g3, g4⟩, g5⟩
    rw [q.1] at g4
    exact (hB _ g3 g4).mp q.2
  · refine h8 j b hj hb (hc.imp id (fun q => ⟨q.1, ?_⟩)) h0
    rw [q.1] at h0
    exact (hB _ hb h0).mpr q.2
theorem pn_next {u : md_S} {X : Nat → Nat → Nat} {e : Nat → Nat} {D i : Nat} {v : md_S} (hX : X_ok (vw u) X) (he : enu (vw u) D e) (hi : i < D) (h : pn_in u X e D i (fun _ => True) v) : pn_in u X e D (i + 1) (fun _ => False) v := by
  obtain ⟨h1, h2, h3, h4, h5, h6, jr, br, h7, h8, h9⟩ := h
  refine ⟨h1, h2, h3, h4, fun b hb => ?_, fun j hj => ?_, jr, br, fun r hr => ?_, fun j b hj hb hc h0 => ?_, h9⟩
  · rw [h5 b hb]
    unfold pn_h
    rw [pif_pos trivial, pif_neg not_false, fl_sum_succ, Int.natCast_add]
    omega
  · rw [h6 j hj]
    unfold pn_m
    by_cases q : j < i
    · rw [if_pos q, if_pos (by omega)]
    · rw [if_neg q]
      by_cases q2 : j = i
      · rw [if_pos q2, if_pos (by omega)]
        have e1 : bf_s (vw u) X (e i) (fun _ => True) = fl_sum (X (e i)) ((vw u).1 0) := fl_sum_congr fun b _ => pif_pos trivial
        rw [e1, hX.1 _ (he.1 i hi)]
        omega
      · rw [if_neg q2, if_neg (by omega)]
        by_cases q3 : j = i + 1
        · rw [if_pos q3, q3]
          have e1 : bf_s (vw u) X (e (i + 1)) (fun _ => False) = 0 := fl_sum_zero_of fun b _ => pif_neg not_false
          rw [e1]
          omega
        · rw [if_neg q3]
  · obtain ⟨⟨g1, g2, g3, g4⟩, g5⟩ := h7 r hr
    exact ⟨⟨Or.inl (by omega), g2, g3, g4⟩, g5⟩
  · refine h8 j b hj hb ?_ h0
    rcases hc with hc | hc
    · by_cases q : j = i
      · exact Or.inr ⟨q, trivial⟩
      · exact Or.inl (by omega)
    · exact hc.2.elim
theorem pn_0 {u v : md_S} {X : Nat → Nat → Nat} {e : Nat → Nat} (h : cl_post u v) (he : dle (vw u) v (cvd (vw u)) e) : pn_in u X e (v.1 3) 0 (fun _ => False) (up1 v.1 4 0, v.2) := by
  refine ⟨h.1.tr ⟨⟨rfl, rfl, fun _ _ _ => rfl⟩, rfl⟩, ⟨h.2.1.1, h.2.1.2⟩, rfl, fun j hj => ?_, fun b hb => ?_, fun j hj => ?_, fun _ => 0, fun _ => 0, fun r hr => absurd hr (Nat.not_lt_zero r), fun j b _ _ hc _ => ?_, fun r s _ hs => absurd hs (Nat.not_lt_zero s)⟩
  · have := (he.1 j hj).2
    exact ⟨this.1, this.2.1, this.2.2.1⟩
  · show v.2.2 19 b = _
    rw [h.2.2.2.2 b hb]
    unfold pn_h
    rw [pif_neg not_false]
    show _ = _ - (0 : Int) - (0 : Int)
    omega
  · show v.2.2 17 j = _
    rw [(he.1 j hj).2.2.2.2]
    unfold pn_m
    rw [if_neg (Nat.not_lt_zero j)]
    by_cases q : j = 0
    · rw [if_pos q, q]
      have e1 : bf_s (vw u) X (e 0) (fun _ => False) = 0 := fl_sum_zero_of fun b _ => pif_neg not_false
      rw [e1]
      omega
    · rw [if_neg q]
  · rcases hc with hc | hc
    · omega
    · exact hc.2.elim
theorem pn_sl_eq {u v : md_S} {X : Nat → Nat → Nat} {e : Nat → Nat} {D i : Nat} {B : Nat → Prop} (h : pn_in u X e D i B v) (S : Nat) : sl v S = pn_sl (vw u) X e D i B S := by
  obtain ⟨h1, h2, h3, h4, h5, h6, -⟩ := h
  unfold sl pn_sl
  rw [h3, h1.1.1]
  have e1 : il_sum (sl_a v S) (u.1 1) = il_sum (fun b => if S.testBit b then pn_h (vw u) X e i B b else 0) ((vw u).1 0) := il_congr fun b hb => by
    unfold sl_a
    rw [h5 b hb]
  have e2 : il_sum (sl_d v S) D = il_sum (fun j => if cmk (vw u) (e j) &&& (S ^^^ 4294967295) = 0 then pn_m (vw u) X e i B j else 0) D := il_congr fun j hj => by
    unfold sl_d
    rw [(h4 j hj).2.2, h6 j hj]
  rw [e1, e2]
theorem pn_at {u v : md_S} {X : Nat → Nat → Nat} {e : Nat → Nat} {D i a : Nat} {k : Int} (hX : X_ok (vw u) X) (he : enu (vw u) D e) (hi : i < D) (ha : a < u.1 1) (hm : (cmk (vw u) (e i)).testBit a = true) (h : pn_in u X e D i (bfr (u.2.1 6) a) v) (hk : at_in v i a (1 <<< v.1 1) k) : k = (X (e i) a : Int) := by
  refine hX.2.2.2 D e he i a hi ha hm k ?_
  have hs := pn_sl_eq h
  obtain ⟨h1, h2, h3, h4, h5, h6, -⟩ := h
  obtain ⟨⟨k1, k2, k3⟩, k4⟩ := hk
  rw [h6 i hi] at k1 k4
  rw [h5 a ha] at k2 k4
  rw [(h4 i hi).2.2, h1.1.1] at k3 k4
  simp only [hs] at k3 k4
  exact ⟨⟨k1, k2, k3⟩, k4⟩
