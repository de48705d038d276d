theorem tbit_1 {S a : Nat} (h : S.testBit a = true) : tbit S a = 1 := by simp [tbit, h]
theorem tbit_0 {S a : Nat} (h : S.testBit a = false) : tbit S a = 0 := by simp [tbit, h]
theorem tbit_pos {S a : Nat} (h : 0 < tbit S a) : S.testBit a = true := by
  unfold tbit at h
  split at h
  · assumption
  · omega
theorem tbit_zero {S a : Nat} (h : tbit S a = 0) : S.testBit a = false := by
  unfold tbit at h
  split at h
  · omega
  · rename_i h1
    exact Bool.eq_false_iff.mpr h1
theorem fl_sum_mono (f : Nat → Nat) {i j : Nat} (h : i ≤ j) : fl_sum f i ≤ fl_sum f j := by
  induction h with
  | refl => exact Nat.le_refl _
  | step _ ih => exact Nat.le_trans ih (Nat.le_add_right _ _)
theorem fl_tb_lt {S a b : Nat} (h : S.testBit a = true) (hab : a < b) : fl_sum (tbit S) a < fl_sum (tbit S) b := by
  have h1 := fl_sum_mono (tbit S) (show a + 1 ≤ b from hab)
  rw [fl_sum_succ, tbit_1 h] at h1
  omega
def rc_inv (u v : pf_S) (S L F B i : Nat) : Prop := st_buts [26, 27, 28] u v ∧ (∀ j, j < L → v.2 26 j = u.2 26 j) ∧ (∀ a, a < i → S.testBit a = true → v.2 26 (L + fl_sum (tbit S) a) = a ∧ v.2 27 a = F ∧ v.2 28 a = B) ∧ ∀ a, (i ≤ a ∨ S.testBit a = false) → v.2 27 a = u.2 27 a ∧ v.2 28 a = u.2 28 a
theorem rc_skip {u v : pf_S} {S L F B i : Nat} (h : rc_inv u v S L F B i) (hs : S.testBit i = false) : rc_inv u v S L F B (i + 1) := by
  refine ⟨h.1, h.2.1, fun a ha hb => ?_, fun a ha => h.2.2.2 a (by rcases ha with h1 | h1; (left; omega); (right; exact h1))⟩
  by_cases hai : a = i
  · subst hai
    rw [hs] at hb
    cases hb
  · exact h.2.2.1 a (by omega) hb
theorem rc_add {u v : pf_S} {S L F B i : Nat} (h : rc_inv u v S L F B i) (hs : S.testBit i = true) : rc_inv u (v.1, up2 (up2 (up2 v.2 26 (L + fl_sum (tbit S) i) i) 27 i F) 28 i B) S L F B (i + 1) := by
  refine ⟨((h.1.up (by decide)).up (k := 27) (by decide)).up (k := 28) (by decide), fun j hj => ?_, fun a ha hb => ?_, fun a ha => ?_⟩
  · have hne : ¬ j = L + fl_sum (tbit S) i := by omega
    simp [up2, hne, h.2.1 j hj]
  · by_cases hai : a = i
    · subst hai
      simp [up2]
    · obtain ⟨g1, g2, g3⟩ := h.2.2.1 a (by omega) hb
      have := fl_tb_lt hb (show a < i by omega)
      have hne : ¬ L + fl_sum (tbit S) a = L + fl_sum (tbit S) i := by omega
      have hne2 : ¬ fl_sum (tbit S) a = fl_sum (tbit S) i := by omega
      simp [up2, hne2, hai, g1, g2, g3]
  · have hne : ¬ a = i := by
      rintro rfl
      rcases ha with h1 | h1
      · omega
      · rw [hs] at h1; cases h1
    obtain ⟨g1, g2⟩ := h.2.2.2 a (by rcases ha with h1 | h1; (left; omega); (right; exact h1))
    simp [up2, hne, g1, g2]
set_option maxHeartbeats 4000000 in
set_option maxRecDepth 100000 in
theorem c_X3_reach (l : Launch) (G : gw_G) (q : Nat → Nat) (u : pf_S) (S : Nat) (L : Nat) (F : Nat) (B : Nat) (hn : u.1 2 ≤ 10) (hb : L + fl_sum (tbit S) (u.1 2) ≤ 10) : gw_MI l yX3_reach cX3_reach 7 (some .int) 0 0 [.ref (q 4), .int (nI (S)), .int (nI (L)), .int (nI (F)), .int (nI (B))] G (pw G q) u (fun r u1 => ∃ k : Nat, r = nI k ∧ (k = L + fl_sum (tbit S) (u.1 2) ∧ rc_inv u u1 S L F B (u.1 2))) := by
  refine gw_entryI (own := RX3) (by decide) rfl (Nat.le_of_ble_eq_true rfl) ?_
  intro p e s m args below meth c A ls C Hh hl
  have hl : lv_has ls 7 [(0, .ref (q 4)), (1, .int (nI (S))), (2, .int (nI (L))), (3, .int (nI (F))), (4, .int (nI (B)))] := hl
  refine lv_iload_n C.1 C.2.1 dX3_reach_0 rfl (lv_at hl 2 rfl) ?_
  refine lv_istore (lv' := [(5, .int (nI (L))), (0, .ref (q 4)), (1, .int (nI (S))), (2, .int (nI (L))), (3, .int (nI (F))), (4, .int (nI (B)))]) C.1 C.2.1 dX3_reach_1 hl (by decide) rfl (fun ls hl => ?_)
  refine lv_iconst (v := nI 0) C.1 C.2.1 dX3_reach_3 (by decide +kernel) ?_
  refine lv_istore (lv' := [(6, .int (nI (0))), (5, .int (nI (L))), (0, .ref (q 4)), (1, .int (nI (S))), (2, .int (nI (L))), (3, .int (nI (F))), (4, .int (nI (B)))]) C.1 C.2.1 dX3_reach_4 hl (by decide) rfl (fun ls hl => ?_)
  have loop_6 : ∀ (fu : Nat) (i : Nat) (tt : Nat) (uc : pf_S) (H : Heap) (locs : List Loc) (ls : Array Slot), (i ≤ u.1 2) → (tt = L + fl_sum (tbit S) i) → (rc_inv u uc S L F B i) → u.1 2 - i < fu → gw_H G A s (pw G q uc) H locs → lv_has ls 7 [(0, .ref (q 4)), (1, .int (nI (S))), (2, .int (nI (L))), (3, .int (nI (F))), (4, .int (nI (B))), (5, .int (nI (tt))), (6, .int (nI (i)))] → W p l e (gw_rm 0 0) s m args below meth c H locs 0 0 (MQ below (va_Qi (fun r u1 => ∃ k : Nat, r = nI k ∧ (k = L + fl_sum (tbit S) (u.1 2) ∧ rc_inv u u1 S L F B (u.1 2))) (gw_at G A (pw G q)) A) args s 0 0 A) (F0 m 6 ls []) := by
    intro fu
    induction fu with
    | zero =>
      intro i tt uc H locs ls hi htt hv hmf
      exact absurd hmf (Nat.not_lt_zero _)
    | succ fu ih_6 =>
      intro i tt uc H locs ls hi htt hv hmf Hh hl
      have hnn : uc.1 2 = u.1 2 := by rw [hv.1.1]
      have hmm := fl_sum_mono (tbit S) hi
      refine lv_iload C.1 C.2.1 dX3_reach_6 (lv_at hl 6 rfl) ?_
      refine lv_aload_n C.1 C.2.1 dX3_reach_8 rfl (lv_at hl 0 rfl) ?_
      refine gw_get (Cn := RX3) (T := TX3) (N := 10) C Hh 4 pw_at4 rfl uwX3 0 (by decide) rfl tw_185 rfl dX3_reach_9 ?_
      refine gw_icmp_ge (tgt := 66) C dX3_reach_12 (by decide) (by omega) (by omega) (fun hc_12 => ?_) (fun hc_12 => ?_)
      · skip
        refine lv_iload C.1 C.2.1 dX3_reach_66 (lv_at hl 5 rfl) ?_
        exact gw_iret (w := pw G q) (u := uc) C Hh dX3_reach_68 ⟨_, rfl, by have hin : i = u.1 2 := (by omega); exact ⟨by rw [htt, hin], by rw [← hin]; exact hv⟩⟩
      · skip
        refine lv_iload_n C.1 C.2.1 dX3_reach_15 rfl (lv_at hl 1 rfl) ?_
        refine lv_iload C.1 C.2.1 dX3_reach_16 (lv_at hl 6 rfl) ?_
        refine lv_ishr C.1 C.2.1 dX3_reach_18 ?_
        refine lv_iconst (v := nI 1) C.1 C.2.1 dX3_reach_19 (by decide +kernel) ?_
        refine gw_and1 C dX3_reach_20 (by omega) ?_
        have join_60 : ∀ (tt2 : Nat) (ud : pf_S) (H : Heap) (locs : List Loc) (ls : Array Slot), (tt2 = L + fl_sum (tbit S) (i + 1)) → (rc_inv u ud S L F B (i + 1)) → gw_H G A s (pw G q ud) H locs → lv_has ls 7 [(0, .ref (q 4)), (1, .int (nI (S))), (2, .int (nI (L))), (3, .int (nI (F))), (4, .int (nI (B))), (5, .int (nI (tt2))), (6, .int (nI (i)))] → W p l e (gw_rm 0 0) s m args below meth c H locs 0 0 (MQ below (va_Qi (fun r u1 => ∃ k : Nat, r = nI k ∧ (k = L + fl_sum (tbit S) (u.1 2) ∧ rc_inv u u1 S L F B (u.1 2))) (gw_at G A (pw G q)) A) args s 0 0 A) (F0 m 60 ls []) := by
          intro tt2 ud H locs ls htt2 hv2 Hh hl
          refine lv_iinc (v := nI (i + 1)) (lv' := [(6, .int (nI (i + 1))), (0, .ref (q 4)), (1, .int (nI (S))), (2, .int (nI (L))), (3, .int (nI (F))), (4, .int (nI (B))), (5, .int (nI (tt2)))]) C.1 C.2.1 dX3_reach_60 hl (k := 6) rfl (nI_add _ 1) (by decide) rfl (fun ls hl => ?_)
          refine lv_goto (tgt := 6) C.1 C.2.1 dX3_reach_63 (by decide) ?_
          exact ih_6 (i + 1) (tt2) (ud) _ _ _ (by omega) (by exact htt2) (by exact hv2) (by omega) Hh (lv_sub hl [1, 2, 3, 4, 5, 6, 0] rfl)
        have htl := tbit_le S i
        refine gw_if_eq (tgt := 60) C dX3_reach_21 (by decide) (by omega) (fun hc_21 => ?_) (fun hc_21 => ?_)
        · skip
          exact join_60 (tt) (uc) _ _ _ (by rw [htt, fl_sum_succ, hc_21]; rfl) (by exact rc_skip hv (tbit_zero hc_21)) Hh (lv_sub hl [0, 1, 2, 3, 4, 5, 6] rfl)
        · skip
          have hlt := fl_tb_lt (tbit_pos hc_21) (show i < u.1 2 by omega)
          refine lv_iload C.1 C.2.1 dX3_reach_24 (lv_at hl 5 rfl) ?_
          refine lv_bipush (v := nI 10) C.1 C.2.1 dX3_reach_26 (by decide +kernel) ?_
          refine gw_icmp_ge (tgt := 60) C dX3_reach_28 (by decide) (by omega) (by omega) (fun hc_28 => ?_) (fun hc_28 => ?_)
          · skip
            exact absurd hc_28 (by omega)
          · skip
            refine lv_aload_n C.1 C.2.1 dX3_reach_31 rfl (lv_at hl 0 rfl) ?_
            refine gw_get (Cn := RX3) (T := TX3) (N := 10) C Hh 4 pw_at4 rfl uwX3 7 (by decide) rfl tw_194 rfl dX3_reach_32 ?_
            refine lv_iload C.1 C.2.1 dX3_reach_35 (lv_at hl 5 rfl) ?_
            refine lv_iload C.1 C.2.1 dX3_reach_37 (lv_at hl 6 rfl) ?_
            refine gw_st C Hh 26 pw_at26 (by decide) pw_set26 dX3_reach_39 (by omega) (fun H locs Hh => ?_)
            have Hh : gw_H G A s (pw G q (uc.1, up2 uc.2 26 (tt) (i))) H locs := Hh
            refine lv_aload_n C.1 C.2.1 dX3_reach_40 rfl (lv_at hl 0 rfl) ?_
            refine gw_get (Cn := RX3) (T := TX3) (N := 10) C Hh 4 pw_at4 rfl uwX3 8 (by decide) rfl tw_195 rfl dX3_reach_41 ?_
            refine lv_iload C.1 C.2.1 dX3_reach_44 (lv_at hl 6 rfl) ?_
            refine lv_iload_n C.1 C.2.1 dX3_reach_46 rfl (lv_at hl 3 rfl) ?_
            refine gw_st C Hh 27 pw_at27 (by decide) pw_set27 dX3_reach_47 (by omega) (fun H locs Hh => ?_)
            have Hh : gw_H G A s (pw G q (uc.1, up2 (up2 uc.2 26 (tt) (i)) 27 (i) (F))) H locs := Hh
            refine lv_aload_n C.1 C.2.1 dX3_reach_48 rfl (lv_at hl 0 rfl) ?_
            refine gw_get (Cn := RX3) (T := TX3) (N := 10) C Hh 4 pw_at4 rfl uwX3 9 (by decide) rfl tw_196 rfl dX3_reach_49 ?_
            refine lv_iload C.1 C.2.1 dX3_reach_52 (lv_at hl 6 rfl) ?_
            refine lv_iload C.1 C.2.1 dX3_reach_54 (lv_at hl 4 rfl) ?_
            refine gw_st C Hh 28 pw_at28 (by decide) pw_set28 dX3_reach_56 (by omega) (fun H locs Hh => ?_)
            have Hh : gw_H G A s (pw G q (uc.1, up2 (up2 (up2 uc.2 26 (tt) (i)) 27 (i) (F)) 28 (i) (B))) H locs := Hh
            refine lv_iinc (v := nI (tt + 1)) (lv' := [(5, .int (nI (tt + 1))), (0, .ref (q 4)), (1, .int (nI (S))), (2, .int (nI (L))), (3, .int (nI (F))), (4, .int (nI (B))), (6, .int (nI (i)))]) C.1 C.2.1 dX3_reach_57 hl (k := 5) rfl (nI_add _ 1) (by decide) rfl (fun ls hl => ?_)
            exact join_60 (tt + 1) ((uc.1, up2 (up2 (up2 uc.2 26 (tt) (i)) 27 (i) (F)) 28 (i) (B))) _ _ _ (by rw [htt, fl_sum_succ, tbit_1 (tbit_pos hc_21)]; rfl) (by subst htt; exact rc_add hv (tbit_pos hc_21)) Hh (lv_sub hl [1, 2, 3, 4, 5, 0, 6] rfl)
  exact loop_6 _ (0) (L) (u) _ _ _ (by first | assumption | omega) (by rfl) (by exact ⟨st_buts.rf, fun _ _ => rfl, fun a h => by omega, fun _ _ => ⟨rfl, rfl⟩⟩) (Nat.lt_succ_self _) Hh (lv_sub hl [2, 3, 4, 5, 6, 1, 0] rfl)
