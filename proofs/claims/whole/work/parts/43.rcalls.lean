/-! the reference's calls -/
def iu (u : md_S) (g : Nat) (i a b : Nat) : Prop := u.2.1 2 g ≠ 0 ∨ (∃ k, k < i ∧ tbit (u.2.1 2 k) g = 1) ∨ (∃ x, x < a ∧ u.2.1 7 x = g) ∨ ∃ x, x < b ∧ u.2.1 11 x = g
theorem iu_0 {u : md_S} {g : Nat} : iu u g 0 0 0 ↔ u.2.1 2 g ≠ 0 := by
  constructor
  · rintro (h | ⟨k, h, -⟩ | ⟨k, h, -⟩ | ⟨k, h, -⟩)
    · exact h
    · omega
    · omega
    · omega
  · exact Or.inl
theorem iu_1 {u : md_S} {g i a b : Nat} : iu u g (i + 1) a b ↔ (iu u g i a b ∨ tbit (u.2.1 2 i) g = 1) := by
  constructor
  · rintro (h | ⟨k, h, h2⟩ | h)
    · exact Or.inl (Or.inl h)
    · by_cases q : k = i
      · subst q; exact Or.inr h2
      · exact Or.inl (Or.inr (Or.inl ⟨k, by omega, h2⟩))
    · exact Or.inl (Or.inr (Or.inr h))
  · rintro ((h | ⟨k, h, h2⟩ | h) | h)
    · exact Or.inl h
    · exact Or.inr (Or.inl ⟨k, by omega, h2⟩)
    · exact Or.inr (Or.inr h)
    · exact Or.inr (Or.inl ⟨i, by omega, h⟩)
theorem iu_2 {u : md_S} {g i a b : Nat} : iu u g i (a + 1) b ↔ (iu u g i a b ∨ u.2.1 7 a = g) := by
  constructor
  · rintro (h | h | ⟨k, h, h2⟩ | h)
    · exact Or.inl (Or.inl h)
    · exact Or.inl (Or.inr (Or.inl h))
    · by_cases q : k = a
      · subst q; exact Or.inr h2
      · exact Or.inl (Or.inr (Or.inr (Or.inl ⟨k, by omega, h2⟩)))
    · exact Or.inl (Or.inr (Or.inr (Or.inr h)))
  · rintro ((h | h | ⟨k, h, h2⟩ | h) | h)
    · exact Or.inl h
    · exact Or.inr (Or.inl h)
    · exact Or.inr (Or.inr (Or.inl ⟨k, by omega, h2⟩))
    · exact Or.inr (Or.inr (Or.inr h))
    · exact Or.inr (Or.inr (Or.inl ⟨a, by omega, h⟩))
theorem iu_3 {u : md_S} {g i a b : Nat} : iu u g i a (b + 1) ↔ (iu u g i a b ∨ u.2.1 11 b = g) := by
  constructor
  · rintro (h | h | h | ⟨k, h, h2⟩)
    · exact Or.inl (Or.inl h)
    · exact Or.inl (Or.inr (Or.inl h))
    · exact Or.inl (Or.inr (Or.inr (Or.inl h)))
    · by_cases q : k = b
      · subst q; exact Or.inr h2
      · exact Or.inl (Or.inr (Or.inr (Or.inr ⟨k, by omega, h2⟩)))
  · rintro ((h | h | h | ⟨k, h, h2⟩) | h)
    · exact Or.inl h
    · exact Or.inr (Or.inl h)
    · exact Or.inr (Or.inr (Or.inl h))
    · exact Or.inr (Or.inr (Or.inr ⟨k, by omega, h2⟩))
    · exact Or.inr (Or.inr (Or.inr ⟨b, by omega, h⟩))
theorem iu_n {u : md_S} {P : Prop} {b n : Nat} {q : Prop} (hb : b = pif P 1 0) (h : q ↔ (P ∨ n = 1)) (hn : n ≤ 1) (x : Nat) (hx : (x = 1 ∧ (0 < b ∨ n = 1)) ∨ (x = 0 ∧ b = 0 ∧ n ≠ 1)) : x = pif q 1 0 := by
  rcases hx with ⟨h1, h2⟩ | ⟨h1, h2, h3⟩
  · rw [h1, pif_pos (h.mpr (h2.imp (fun z => pif_1 (by omega)) id))]
  · rw [h1, pif_neg (fun z => (h.mp z).elim (pif_0 (by omega)) h3)]
set_option maxHeartbeats 4000000 in
set_option maxRecDepth 100000 in
theorem c_X5_isUsed (l : Launch) (G : gw_G) (q : Nat → Nat) (u : md_S) (g : Nat) (hok : md_ok u) (hg : g < 6) : gw_MI l yX5_isUsed cX5_isUsed 4 (some .boolean) 0 0 [.ref (q 0), .int (nI (g))] G (mw G q) u (fun r u1 => ∃ k : Nat, r = nI k ∧ (k = pif (iu u g 6 (u.1 1) (u.1 2)) 1 0 ∧ u1 = u)) := by
  refine gw_entryI (own := RX5) (by decide) rfl (Nat.le_of_ble_eq_true rfl) ?_
  intro p e s m args below meth c A ls C Hh hl
  have hl : lv_has ls 4 [(0, .ref (q 0)), (1, .int (nI (g)))] := hl
  have hg9 := (hok.2.1 g hg).2.1
  have h01 := hok.1.1
  have h02 := hok.1.2
  refine lv_aload_n C.1 C.2.1 dX5_isUsed_0 rfl (lv_at hl 0 rfl) ?_
  refine gw_get (Cn := RX5) (T := TX5) (N := 29) C Hh 0 mw_at0 rfl uwX5 2 (by decide) rfl tw_725 rfl dX5_isUsed_1 ?_
  refine lv_iload_n C.1 C.2.1 dX5_isUsed_4 rfl (lv_at hl 1 rfl) ?_
  refine gw_ld C Hh 2 mw_at2 (by decide) dX5_isUsed_5 (by omega) ?_
  have join_14 : ∀ (b0 : Nat) (H : Heap) (locs : List Loc) (ls : Array Slot), (b0 = pif (iu u g 0 0 0) 1 0) → gw_H G A s (mw G q u) H locs → lv_has ls 4 [(0, .ref (q 0)), (1, .int (nI (g)))] → W p l e (gw_rm 0 0) s m args below meth c H locs 0 0 (MQ below (va_Qi (fun r u1 => ∃ k : Nat, r = nI k ∧ (k = pif (iu u g 6 (u.1 1) (u.1 2)) 1 0 ∧ u1 = u)) (gw_at G A (mw G q)) A) args s 0 0 A) (F0 m 14 ls [.int (nI (b0))]) := by
    intro b0  H locs ls hb0 Hh hl
    refine lv_istore_n (lv' := [(2, .int (nI (b0))), (0, .ref (q 0)), (1, .int (nI (g)))]) C.1 C.2.1 dX5_isUsed_14 rfl hl (by decide) rfl (fun ls hl => ?_)
    refine lv_iconst (v := nI 0) C.1 C.2.1 dX5_isUsed_15 (by decide +kernel) ?_
    refine lv_istore_n (lv' := [(3, .int (nI (0))), (2, .int (nI (b0))), (0, .ref (q 0)), (1, .int (nI (g)))]) C.1 C.2.1 dX5_isUsed_16 rfl hl (by decide) rfl (fun ls hl => ?_)
    have loop_17 : ∀ (fu : Nat) (b : Nat) (i : Nat) (H : Heap) (locs : List Loc) (ls : Array Slot), (i ≤ 6) → (b = pif (iu u g i 0 0) 1 0) → 6 - i < fu → gw_H G A s (mw G q u) H locs → lv_has ls 4 [(0, .ref (q 0)), (1, .int (nI (g))), (2, .int (nI (b))), (3, .int (nI (i)))] → W p l e (gw_rm 0 0) s m args below meth c H locs 0 0 (MQ below (va_Qi (fun r u1 => ∃ k : Nat, r = nI k ∧ (k = pif (iu u g 6 (u.1 1) (u.1 2)) 1 0 ∧ u1 = u)) (gw_at G A (mw G q)) A) args s 0 0 A) (F0 m 17 ls []) := by
      intro fu
      induction fu with
      | zero =>
        intro b i  H locs ls hi hb hmf
        exact absurd hmf (Nat.not_lt_zero _)
      | succ fu ih_17 =>
        intro b i  H locs ls hi hb hmf Hh hl
        have hb9 : b ≤ 1 := by (rw [hb]; exact pif_le _)
        refine lv_iload_n C.1 C.2.1 dX5_isUsed_17 rfl (lv_at hl 3 rfl) ?_
        refine lv_bipush (v := nI 6) C.1 C.2.1 dX5_isUsed_18 (by decide +kernel) ?_
        refine gw_icmp_ge (tgt := 53) C dX5_isUsed_20 (by decide) (by omega) (by omega) (fun hc_20 => ?_) (fun hc_20 => ?_)
        · skip
          refine lv_iconst (v := nI 0) C.1 C.2.1 dX5_isUsed_53 (by decide +kernel) ?_
          refine lv_istore_n (lv' := [(3, .int (nI (0))), (0, .ref (q 0)), (1, .int (nI (g))), (2, .int (nI (b)))]) C.1 C.2.1 dX5_isUsed_54 rfl hl (by decide) rfl (fun ls hl => ?_)
          have loop_55 : ∀ (fu : Nat) (b : Nat) (i : Nat) (H : Heap) (locs : List Loc) (ls : Array Slot), (i ≤ u.1 1) → (b = pif (iu u g 6 i 0) 1 0) → u.1 1 - i < fu → gw_H G A s (mw G q u) H locs → lv_has ls 4 [(0, .ref (q 0)), (1, .int (nI (g))), (2, .int (nI (b))), (3, .int (nI (i)))] → W p l e (gw_rm 0 0) s m args below meth c H locs 0 0 (MQ below (va_Qi (fun r u1 => ∃ k : Nat, r = nI k ∧ (k = pif (iu u g 6 (u.1 1) (u.1 2)) 1 0 ∧ u1 = u)) (gw_at G A (mw G q)) A) args s 0 0 A) (F0 m 55 ls []) := by
            intro fu
            induction fu with
            | zero =>
              intro b i  H locs ls hi hb hmf
              exact absurd hmf (Nat.not_lt_zero _)
            | succ fu ih_55 =>
              intro b i  H locs ls hi hb hmf Hh hl
              have hb9 : b ≤ 1 := by (rw [hb]; exact pif_le _)
              refine lv_iload_n C.1 C.2.1 dX5_isUsed_55 rfl (lv_at hl 3 rfl) ?_
              refine lv_aload_n C.1 C.2.1 dX5_isUsed_56 rfl (lv_at hl 0 rfl) ?_
              refine gw_get (Cn := RX5) (T := TX5) (N := 29) C Hh 0 mw_at0 rfl uwX5 6 (by decide) rfl tw_729 rfl dX5_isUsed_57 ?_
              refine gw_icmp_ge (tgt := 89) C dX5_isUsed_60 (by decide) (by omega) (by omega) (fun hc_60 => ?_) (fun hc_60 => ?_)
              · skip
                refine lv_iconst (v := nI 0) C.1 C.2.1 dX5_isUsed_89 (by decide +kernel) ?_
                refine lv_istore_n (lv' := [(3, .int (nI (0))), (0, .ref (q 0)), (1, .int (nI (g))), (2, .int (nI (b)))]) C.1 C.2.1 dX5_isUsed_90 rfl hl (by decide) rfl (fun ls hl => ?_)
                have loop_91 : ∀ (fu : Nat) (b : Nat) (i : Nat) (H : Heap) (locs : List Loc) (ls : Array Slot), (i ≤ u.1 2) → (b = pif (iu u g 6 (u.1 1) i) 1 0) → u.1 2 - i < fu → gw_H G A s (mw G q u) H locs → lv_has ls 4 [(0, .ref (q 0)), (1, .int (nI (g))), (2, .int (nI (b))), (3, .int (nI (i)))] → W p l e (gw_rm 0 0) s m args below meth c H locs 0 0 (MQ below (va_Qi (fun r u1 => ∃ k : Nat, r = nI k ∧ (k = pif (iu u g 6 (u.1 1) (u.1 2)) 1 0 ∧ u1 = u)) (gw_at G A (mw G q)) A) args s 0 0 A) (F0 m 91 ls []) := by
                  intro fu
                  induction fu with
                  | zero =>
                    intro b i  H locs ls hi hb hmf
                    exact absurd hmf (Nat.not_lt_zero _)
                  | succ fu ih_91 =>
                    intro b i  H locs ls hi hb hmf Hh hl
                    have hb9 : b ≤ 1 := by (rw [hb]; exact pif_le _)
                    refine lv_iload_n C.1 C.2.1 dX5_isUsed_91 rfl (lv_at hl 3 rfl) ?_
                    refine lv_aload_n C.1 C.2.1 dX5_isUsed_92 rfl (lv_at hl 0 rfl) ?_
                    refine gw_get (Cn := RX5) (T := TX5) (N := 29) C Hh 0 mw_at0 rfl uwX5 11 (by decide) rfl tw_734 rfl dX5_isUsed_93 ?_
                    refine gw_icmp_ge (tgt := 125) C dX5_isUsed_96 (by decide) (by omega) (by omega) (fun hc_96 => ?_) (fun hc_96 => ?_)
                    · skip
                      refine lv_iload_n C.1 C.2.1 dX5_isUsed_125 rfl (lv_at hl 2 rfl) ?_
                      exact gw_zret (w := mw G q) (u := u) C Hh dX5_isUsed_126 (by omega) ⟨_, rfl, by exact ⟨by rw [hb, show i = u.1 2 by omega], rfl⟩⟩
                    · skip
                      have ha9 := hok.2.2.2.2 i (by omega)
                      have join_118 : ∀ (z : Nat) (H : Heap) (locs : List Loc) (ls : Array Slot), (z = pif (iu u g 6 (u.1 1) (i + 1)) 1 0) → gw_H G A s (mw G q u) H locs → lv_has ls 4 [(0, .ref (q 0)), (1, .int (nI (g))), (3, .int (nI (i)))] → W p l e (gw_rm 0 0) s m args below meth c H locs 0 0 (MQ below (va_Qi (fun r u1 => ∃ k : Nat, r = nI k ∧ (k = pif (iu u g 6 (u.1 1) (u.1 2)) 1 0 ∧ u1 = u)) (gw_at G A (mw G q)) A) args s 0 0 A) (F0 m 118 ls [.int (nI (z))]) := by
                        intro z  H locs ls hz Hh hl
                        refine lv_istore_n (lv' := [(2, .int (nI (z))), (0, .ref (q 0)), (1, .int (nI (g))), (3, .int (nI (i)))]) C.1 C.2.1 dX5_isUsed_118 rfl hl (by decide) rfl (fun ls hl => ?_)
                        refine lv_iinc (v := nI (i + 1)) (lv' := [(3, .int (nI (i + 1))), (2, .int (nI (z))), (0, .ref (q 0)), (1, .int (nI (g)))]) C.1 C.2.1 dX5_isUsed_119 hl (k := 3) rfl (nI_add _ 1) (by decide) rfl (fun ls hl => ?_)
                        refine lv_goto (tgt := 91) C.1 C.2.1 dX5_isUsed_122 (by decide) ?_
                        exact ih_91 (z) (i + 1)  _ _ _ (by omega) (by exact hz) (by omega) Hh (lv_sub hl [2, 3, 1, 0] rfl)
                      refine lv_iload_n C.1 C.2.1 dX5_isUsed_99 rfl (lv_at hl 2 rfl) ?_
                      refine gw_if_ne (tgt := 113) C dX5_isUsed_100 (by decide) (by omega) (fun hc_100 => ?_) (fun hc_100 => ?_)
                      · skip
                        refine lv_iconst (v := nI 1) C.1 C.2.1 dX5_isUsed_113 (by decide +kernel) ?_
                        refine lv_goto (tgt := 118) C.1 C.2.1 dX5_isUsed_114 (by decide) ?_
                        exact join_118 (1)  _ _ _ (by first | exact (pif_pos (iu_3.mpr (Or.inl (pif_1 (by omega))))).symm | exact (pif_pos (iu_3.mpr (Or.inr (by omega)))).symm) Hh (lv_sub hl [0, 1, 3] rfl)
                      · skip
                        refine lv_aload_n C.1 C.2.1 dX5_isUsed_103 rfl (lv_at hl 0 rfl) ?_
                        refine gw_get (Cn := RX5) (T := TX5) (N := 29) C Hh 0 mw_at0 rfl uwX5 13 (by decide) rfl tw_736 rfl dX5_isUsed_104 ?_
                        refine lv_iload_n C.1 C.2.1 dX5_isUsed_107 rfl (lv_at hl 3 rfl) ?_
                        refine gw_ld C Hh 11 mw_at11 (by decide) dX5_isUsed_108 (by omega) ?_
                        refine lv_iload_n C.1 C.2.1 dX5_isUsed_109 rfl (lv_at hl 1 rfl) ?_
                        refine gw_icmp_ne (tgt := 117) C dX5_isUsed_110 (by decide) (by omega) (by omega) (fun hc_110 => ?_) (fun hc_110 => ?_)
                        · skip
                          refine lv_iconst (v := nI 0) C.1 C.2.1 dX5_isUsed_117 (by decide +kernel) ?_
                          exact join_118 (0)  _ _ _ (by exact (pif_neg (fun h => (iu_3.mp h).elim (pif_0 (by omega)) (by omega))).symm) Hh (lv_sub hl [0, 1, 3] rfl)
                        · skip
                          refine lv_iconst (v := nI 1) C.1 C.2.1 dX5_isUsed_113 (by decide +kernel) ?_
                          refine lv_goto (tgt := 118) C.1 C.2.1 dX5_isUsed_114 (by decide) ?_
                          exact join_118 (1)  _ _ _ (by first | exact (pif_pos (iu_3.mpr (Or.inl (pif_1 (by omega))))).symm | exact (pif_pos (iu_3.mpr (Or.inr (by omega)))).symm) Hh (lv_sub hl [0, 1, 3] rfl)
                exact loop_91 _ (b) (0)  _ _ _ (by omega) (by rw [hb, show i = u.1 1 by omega]) (Nat.lt_succ_self _) Hh (lv_sub hl [1, 2, 3, 0] rfl)
              · skip
                have ha9 := hok.2.2.2.1 i (by omega)
                have join_82 : ∀ (z : Nat) (H : Heap) (locs : List Loc) (ls : Array Slot), (z = pif (iu u g 6 (i + 1) 0) 1 0) → gw_H G A s (mw G q u) H locs → lv_has ls 4 [(0, .ref (q 0)), (1, .int (nI (g))), (3, .int (nI (i)))] → W p l e (gw_rm 0 0) s m args below meth c H locs 0 0 (MQ below (va_Qi (fun r u1 => ∃ k : Nat, r = nI k ∧ (k = pif (iu u g 6 (u.1 1) (u.1 2)) 1 0 ∧ u1 = u)) (gw_at G A (mw G q)) A) args s 0 0 A) (F0 m 82 ls [.int (nI (z))]) := by
                  intro z  H locs ls hz Hh hl
                  refine lv_istore_n (lv' := [(2, .int (nI (z))), (0, .ref (q 0)), (1, .int (nI (g))), (3, .int (nI (i)))]) C.1 C.2.1 dX5_isUsed_82 rfl hl (by decide) rfl (fun ls hl => ?_)
                  refine lv_iinc (v := nI (i + 1)) (lv' := [(3, .int (nI (i + 1))), (2, .int (nI (z))), (0, .ref (q 0)), (1, .int (nI (g)))]) C.1 C.2.1 dX5_isUsed_83 hl (k := 3) rfl (nI_add _ 1) (by decide) rfl (fun ls hl => ?_)
                  refine lv_goto (tgt := 55) C.1 C.2.1 dX5_isUsed_86 (by decide) ?_
                  exact ih_55 (z) (i + 1)  _ _ _ (by omega) (by exact hz) (by omega) Hh (lv_sub hl [2, 3, 1, 0] rfl)
                refine lv_iload_n C.1 C.2.1 dX5_isUsed_63 rfl (lv_at hl 2 rfl) ?_
                refine gw_if_ne (tgt := 77) C dX5_isUsed_64 (by decide) (by omega) (fun hc_64 => ?_) (fun hc_64 => ?_)
                · skip
                  refine lv_iconst (v := nI 1) C.1 C.2.1 dX5_isUsed_77 (by decide +kernel) ?_
                  refine lv_goto (tgt := 82) C.1 C.2.1 dX5_isUsed_78 (by decide) ?_
                  exact join_82 (1)  _ _ _ (by first | exact (pif_pos (iu_2.mpr (Or.inl (pif_1 (by omega))))).symm | exact (pif_pos (iu_2.mpr (Or.inr (by omega)))).symm) Hh (lv_sub hl [0, 1, 3] rfl)
                · skip
                  refine lv_aload_n C.1 C.2.1 dX5_isUsed_67 rfl (lv_at hl 0 rfl) ?_
                  refine gw_get (Cn := RX5) (T := TX5) (N := 29) C Hh 0 mw_at0 rfl uwX5 8 (by decide) rfl tw_731 rfl dX5_isUsed_68 ?_
                  refine lv_iload_n C.1 C.2.1 dX5_isUsed_71 rfl (lv_at hl 3 rfl) ?_
                  refine gw_ld C Hh 7 mw_at7 (by decide) dX5_isUsed_72 (by omega) ?_
                  refine lv_iload_n C.1 C.2.1 dX5_isUsed_73 rfl (lv_at hl 1 rfl) ?_
                  refine gw_icmp_ne (tgt := 81) C dX5_isUsed_74 (by decide) (by omega) (by omega) (fun hc_74 => ?_) (fun hc_74 => ?_)
                  · skip
                    refine lv_iconst (v := nI 0) C.1 C.2.1 dX5_isUsed_81 (by decide +kernel) ?_
                    exact join_82 (0)  _ _ _ (by exact (pif_neg (fun h => (iu_2.mp h).elim (pif_0 (by omega)) (by omega))).symm) Hh (lv_sub hl [0, 1, 3] rfl)
                  · skip
                    refine lv_iconst (v := nI 1) C.1 C.2.1 dX5_isUsed_77 (by decide +kernel) ?_
                    refine lv_goto (tgt := 82) C.1 C.2.1 dX5_isUsed_78 (by decide) ?_
                    exact join_82 (1)  _ _ _ (by first | exact (pif_pos (iu_2.mpr (Or.inl (pif_1 (by omega))))).symm | exact (pif_pos (iu_2.mpr (Or.inr (by omega)))).symm) Hh (lv_sub hl [0, 1, 3] rfl)
          exact loop_55 _ (b) (0)  _ _ _ (by omega) (by rw [hb, show i = 6 by omega]) (Nat.lt_succ_self _) Hh (lv_sub hl [1, 2, 3, 0] rfl)
        · skip
          have tb9 := tbit_le (u.2.1 2 i) g
          have join_46 : ∀ (z : Nat) (H : Heap) (locs : List Loc) (ls : Array Slot), (z = pif (iu u g (i + 1) 0 0) 1 0) → gw_H G A s (mw G q u) H locs → lv_has ls 4 [(0, .ref (q 0)), (1, .int (nI (g))), (3, .int (nI (i)))] → W p l e (gw_rm 0 0) s m args below meth c H locs 0 0 (MQ below (va_Qi (fun r u1 => ∃ k : Nat, r = nI k ∧ (k = pif (iu u g 6 (u.1 1) (u.1 2)) 1 0 ∧ u1 = u)) (gw_at G A (mw G q)) A) args s 0 0 A) (F0 m 46 ls [.int (nI (z))]) := by
            intro z  H locs ls hz Hh hl
            refine lv_istore_n (lv' := [(2, .int (nI (z))), (0, .ref (q 0)), (1, .int (nI (g))), (3, .int (nI (i)))]) C.1 C.2.1 dX5_isUsed_46 rfl hl (by decide) rfl (fun ls hl => ?_)
            refine lv_iinc (v := nI (i + 1)) (lv' := [(3, .int (nI (i + 1))), (2, .int (nI (z))), (0, .ref (q 0)), (1, .int (nI (g)))]) C.1 C.2.1 dX5_isUsed_47 hl (k := 3) rfl (nI_add _ 1) (by decide) rfl (fun ls hl => ?_)
            refine lv_goto (tgt := 17) C.1 C.2.1 dX5_isUsed_50 (by decide) ?_
            exact ih_17 (z) (i + 1)  _ _ _ (by omega) (by exact hz) (by omega) Hh (lv_sub hl [2, 3, 1, 0] rfl)
          refine lv_iload_n C.1 C.2.1 dX5_isUsed_23 rfl (lv_at hl 2 rfl) ?_
          refine gw_if_ne (tgt := 41) C dX5_isUsed_24 (by decide) (by omega) (fun hc_24 => ?_) (fun hc_24 => ?_)
          · skip
            refine lv_iconst (v := nI 1) C.1 C.2.1 dX5_isUsed_41 (by decide +kernel) ?_
            refine lv_goto (tgt := 46) C.1 C.2.1 dX5_isUsed_42 (by decide) ?_
            exact join_46 (1)  _ _ _ (by first | exact (pif_pos (iu_1.mpr (Or.inl (pif_1 (by omega))))).symm | exact (pif_pos (iu_1.mpr (Or.inr (by omega)))).symm) Hh (lv_sub hl [0, 1, 3] rfl)
          · skip
            refine lv_aload_n C.1 C.2.1 dX5_isUsed_27 rfl (lv_at hl 0 rfl) ?_
            refine gw_get (Cn := RX5) (T := TX5) (N := 29) C Hh 0 mw_at0 rfl uwX5 2 (by decide) rfl tw_725 rfl dX5_isUsed_28 ?_
            refine lv_iload_n C.1 C.2.1 dX5_isUsed_31 rfl (lv_at hl 3 rfl) ?_
            refine gw_ld C Hh 2 mw_at2 (by decide) dX5_isUsed_32 (by omega) ?_
            refine lv_iload_n C.1 C.2.1 dX5_isUsed_33 rfl (lv_at hl 1 rfl) ?_
            refine lv_ishr C.1 C.2.1 dX5_isUsed_34 ?_
            refine lv_iconst (v := nI 1) C.1 C.2.1 dX5_isUsed_35 (by decide +kernel) ?_
            refine gw_and1 C dX5_isUsed_36 (by omega) ?_
            refine lv_iconst (v := nI 1) C.1 C.2.1 dX5_isUsed_37 (by decide +kernel) ?_
            refine gw_icmp_ne (tgt := 45) C dX5_isUsed_38 (by decide) (by omega) (by omega) (fun hc_38 => ?_) (fun hc_38 => ?_)
            · skip
              refine lv_iconst (v := nI 0) C.1 C.2.1 dX5_isUsed_45 (by decide +kernel) ?_
              exact join_46 (0)  _ _ _ (by exact (pif_neg (fun h => (iu_1.mp h).elim (pif_0 (by omega)) (by omega))).symm) Hh (lv_sub hl [0, 1, 3] rfl)
            · skip
              refine lv_iconst (v := nI 1) C.1 C.2.1 dX5_isUsed_41 (by decide +kernel) ?_
              refine lv_goto (tgt := 46) C.1 C.2.1 dX5_isUsed_42 (by decide) ?_
              exact join_46 (1)  _ _ _ (by first | exact (pif_pos (iu_1.mpr (Or.inl (pif_1 (by omega))))).symm | exact (pif_pos (iu_1.mpr (Or.inr (by omega)))).symm) Hh (lv_sub hl [0, 1, 3] rfl)
    exact loop_17 _ (b0) (0)  _ _ _ (by omega) (by exact hb0) (Nat.lt_succ_self _) Hh (lv_sub hl [2, 3, 1, 0] rfl)
  refine gw_if_eq (tgt := 13) C dX5_isUsed_6 (by decide) (by omega) (fun hc_6 => ?_) (fun hc_6 => ?_)
  · skip
    refine lv_iconst (v := nI 0) C.1 C.2.1 dX5_isUsed_13 (by decide +kernel) ?_
    exact join_14 (0)  _ _ _ (by exact (pif_neg (fun h => iu_0.mp h hc_6)).symm) Hh (lv_sub hl [0, 1] rfl)
  · skip
    refine lv_iconst (v := nI 1) C.1 C.2.1 dX5_isUsed_9 (by decide +kernel) ?_
    refine lv_goto (tgt := 14) C.1 C.2.1 dX5_isUsed_10 (by decide) ?_
    exact join_14 (1)  _ _ _ (by exact (pif_pos (iu_0.mpr (by omega))).symm) Hh (lv_sub hl [0, 1] rfl)
def rp (c : Nat) (u u1 : md_S) (Q : Prop) : Prop := (c ≠ 0 ∧ u1 = (up1 u.1 0 c, u.2)) ∨ (c = 0 ∧ u1.1 0 = 0 ∧ Q)
theorem rp_n {c d : Nat} {u u1 : md_S} {Q : Prop} (h : c = d) (hd : d ≠ 0) (hu : u1 = (up1 u.1 0 d, u.2)) : rp c u u1 Q := Or.inl ⟨by omega, by rw [h]; exact hu⟩
def cv2 (u v : md_S) : Prop := cv_post u v ∧ ∀ p, u.1 2 ≤ p → v.2.1 14 p = u.2.1 14 p
def rfallen (v : md_S) : Nat := fl_sum (fun a => if v.2.1 14 a = 1 then 1 else 0) (v.1 2)
theorem cv_fallen {u v : md_S} {k : Nat} (h : cv_post u v ∧ (∀ p, u.1 2 ≤ p → v.2.1 14 p = u.2.1 14 p) ∧ k = fl_sum (fun a => if v.2.1 14 a = 1 then 1 else 0) (u.1 2)) : k = rfallen v := by
  unfold rfallen
  rw [h.1.1.2.2.1]
  exact h.2.2
theorem cv_code {u v : md_S} (h : cv_post u v) (h0 : u.1 0 = 0) : v.1 0 = 0 := h.1.1.trans h0
def md2 (u : md_S) : Prop := md_ok u ∧ md_bd u
def rA (u : md_S) (t g n : Nat) : md_S := (up1 (up1 u.1 0 0) 1 (u.1 1 + 1), up2 (up2 (up2 (up2 u.2.1 6 (u.1 1) t) 7 (u.1 1) g) 8 (u.1 1) n) 9 (u.1 1) 0, u.2.2)
def rC (u : md_S) (a t n : Nat) : md_S := (up1 u.1 0 0, up2 (up2 u.2.1 6 a t) 8 a n, u.2.2)
def rS (u : md_S) (a n : Nat) : md_S := (up1 u.1 0 0, up2 u.2.1 9 a n, u.2.2)
def rL (u : md_S) (g n : Nat) : md_S := (up1 u.1 0 0, up2 u.2.1 1 g n, u.2.2)
def rI (u : md_S) (a g b : Nat) : md_S := (up1 u.1 0 0, up2 u.2.1 2 g (if b = 0 then u.2.1 2 g &&& ((1 <<< a) ^^^ 4294967295) else u.2.1 2 g ||| 1 <<< a), u.2.2)
def rX (u : md_S) (a : Nat) : md_S := (up1 u.1 0 0, up2 u.2.1 14 a 2, u.2.2)
theorem bd_code {u : md_S} (h : md_bd u) {f : Nat → Nat} {g : Nat → Nat → Nat} (h3 : f 3 = u.1 3) (h18 : g 18 = u.2.1 18) : md_bd (f, g, u.2.2) := by
  refine ⟨?_, fun d hd => ?_, h.2.2⟩
  · show f 3 ≤ 40
    rw [h3]
    exact h.1
  · show g 18 d < 1024 ∧ _
    rw [h18]
    exact h.2.1 d hd
theorem rA_ok {u : md_S} (h : md2 u) (h10 : u.1 1 < 10) {t g n : Nat} (ht : t < 100) (hg : g < 6) (hn : n ≤ 1000000) : md2 (rA u t g n) := by
  obtain ⟨⟨h1, h2, h3, h4, h5⟩, hb⟩ := h
  refine ⟨⟨⟨by show u.1 1 + 1 ≤ 10; omega, h1.2⟩, h2, h3, fun a ha => ?_, h5⟩, bd_code hb rfl rfl⟩
  have e6 : (rA u t g n).2.1 6 a = if a = u.1 1 then t else u.2.1 6 a := rfl
  have e7 : (rA u t g n).2.1 7 a = if a = u.1 1 then g else u.2.1 7 a := rfl
  have e8 : (rA u t g n).2.1 8 a = if a = u.1 1 then n else u.2.1 8 a := rfl
  have e9 : (rA u t g n).2.1 9 a = if a = u.1 1 then 0 else u.2.1 9 a := rfl
  rw [e6, e7, e8, e9]
  have := h4 a ha
  split <;> omega
theorem rC_ok {u : md_S} (h : md2 u) {a t n : Nat} (ht : t < 100) (hn : n ≤ 1000000) (h9 : u.2.1 9 a ≤ n) : md2 (rC u a t n) := by
  obtain ⟨⟨h1, h2, h3, h4, h5⟩, hb⟩ := h
  refine ⟨⟨h1, h2, h3, fun b hb => ?_, h5⟩, bd_code hb rfl rfl⟩
  have e6 : (rC u a t n).2.1 6 b = if b = a then t else u.2.1 6 b := rfl
  have e7 : (rC u a t n).2.1 7 b = u.2.1 7 b := rfl
  have e8 : (rC u a t n).2.1 8 b = if b = a then n else u.2.1 8 b := rfl
  have e9 : (rC u a t n).2.1 9 b = u.2.1 9 b := rfl
  rw [e6, e7, e8, e9]
  have := h4 b hb
  by_cases q : b = a
  · subst q
    rw [if_pos rfl, if_pos rfl]
    omega
  · rw [if_neg q, if_neg q]
    omega
theorem rS_ok {u : md_S} (h : md2 u) {a n : Nat} (hn : n ≤ u.2.1 8 a) : md2 (rS u a n) := by
  obtain ⟨⟨h1, h2, h3, h4, h5⟩, hb⟩ := h
  refine ⟨⟨h1, h2, h3, fun b hb => ?_, h5⟩, bd_code hb rfl rfl⟩
  have e6 : (rS u a n).2.1 6 b = u.2.1 6 b := rfl
  have e7 : (rS u a n).2.1 7 b = u.2.1 7 b := rfl
  have e8 : (rS u a n).2.1 8 b = u.2.1 8 b := rfl
  have e9 : (rS u a n).2.1 9 b = if b = a then n else u.2.1 9 b := rfl
  rw [e6, e7, e8, e9]
  have := h4 b hb
  by_cases q : b = a
  · subst q
    rw [if_pos rfl]
    omega
  · rw [if_neg q]
    omega
theorem rL_ok {u : md_S} (h : md2 u) {g n : Nat} (hn : n ≤ 100) : md2 (rL u g n) := by
  obtain ⟨⟨h1, h2, h3, h4, h5⟩, hb⟩ := h
  refine ⟨⟨h1, fun b hb => ?_, h3, h4, h5⟩, bd_code hb rfl rfl⟩
  have e1 : (rL u g n).2.1 1 b = if b = g then n else u.2.1 1 b := rfl
  have e2 : (rL u g n).2.1 2 b = u.2.1 2 b := rfl
  have e3 : (rL u g n).2.1 3 b = u.2.1 3 b := rfl
  rw [e1, e2, e3]
  have := h2 b hb
  split <;> omega
theorem rX_ok {u : md_S} (h : md2 u) {a : Nat} : md2 (rX u a) := by
  obtain ⟨⟨h1, h2, h3, h4, h5⟩, hb⟩ := h
  refine ⟨⟨h1, h2, h3, h4, fun b hb => ?_⟩, bd_code hb rfl rfl⟩
  have e : (rX u a).2.1 14 b = if b = a then 2 else u.2.1 14 b := rfl
  have := h5 b hb
  refine ⟨this.1, this.2.1, this.2.2.1, this.2.2.2.1, ?_⟩
  rw [e]
  split <;> omega
theorem rI_ok {u : md_S} (h : md2 u) {a g b : Nat} (ha : a < 6) (hg : g < 6) : md2 (rI u a g b) := by
  obtain ⟨⟨h1, h2, h3, h4, h5⟩, hb⟩ := h
  refine ⟨⟨h1, fun c hc => ?_, h3, h4, h5⟩, bd_code hb rfl rfl⟩
  have e1 : (rI u a g b).2.1 1 c = u.2.1 1 c := rfl
  have e2 : (rI u a g b).2.1 2 c = if c = g then (if b = 0 then u.2.1 2 g &&& ((1 <<< a) ^^^ 4294967295) else u.2.1 2 g ||| 1 <<< a) else u.2.1 2 c := rfl
  have e3 : (rI u a g b).2.1 3 c = u.2.1 3 c := rfl
  rw [e1, e2, e3]
  have := h2 c hc
  refine ⟨this.1, ?_, this.2.2⟩
  have h6 := (h2 g hg).2.1
  split
  · split
    · exact and_lt h6
    · have h7 : 1 <<< a < 2 ^ 6 := by
        rw [Nat.one_shiftLeft]
        exact Nat.pow_lt_pow_right (by decide) ha
      exact Nat.or_lt_two_pow (n := 6) h6 h7
  · exact this.2.1
theorem ir_n {x : Int32} {a b c : Nat} {hc : 0 < c} (h : c = pif (inr x a b) 1 0) : ∃ j, x = nI j ∧ a ≤ j ∧ j ≤ b := inr_nI (pif_1 (by omega))
theorem ir_m {x : Int32} {a b c : Nat} (ha : a < 2 ^ 31) (hb : b < 2 ^ 31) (h : c = pif (¬ x < nI a ∧ x ≤ nI b) 1 0) : c = pif (inr x a b) 1 0 := h.trans (pif_iff (in_ir ha hb))
set_option maxHeartbeats 4000000 in
set_option maxRecDepth 100000 in
theorem c_X5_arrival (l : Launch) (G : gw_G) (q : Nat → Nat) (u : md_S) (x : Int32) (y : Int32) (z : Int32) (hm : md2 u) : gw_MI l yX5_arrival cX5_arrival 4 (some .int) 4 99 [.ref (q 0), .int (x), .int (y), .int (z)] G (mw G q) u (fun r u1 => ∃ k : Nat, r = nI k ∧ (rp (cdA (vw u) x y z) u u1 (k = u.1 1 ∧ cv2 (rA u (tn x) (tn y) (tn z)) u1))) := by
  refine gw_entryI (own := RX5) (by decide) rfl (Nat.le_of_ble_eq_true rfl) ?_
  intro p e s m args below meth c A ls C Hh hl
  have hl : lv_has ls 4 [(0, .ref (q 0)), (1, .int (x)), (2, .int (y)), (3, .int (z))] := hl
  have hok := hm.1
  have hbd := hm.2
  have h01 := hok.1.1
  have h02 := hok.1.2
  refine lv_aload_n C.1 C.2.1 dX5_arrival_0 rfl (lv_at hl 0 rfl) ?_
  refine lv_iload_n C.1 C.2.1 dX5_arrival_1 rfl (lv_at hl 1 rfl) ?_
  refine lv_iconst (v := nI 0) C.1 C.2.1 dX5_arrival_2 (by decide +kernel) ?_
  refine lv_bipush (v := nI 99) C.1 C.2.1 dX5_arrival_3 (by decide +kernel) ?_
  refine gw_fromI (w := mw G q) (u := u) C Hh (gw_runS (n := 3) [.int (x), .int (nI (0)), .int (nI (99))] C Hh (c_X5_in l G q (u) (x) (nI (0)) (nI (99))  _) tw_820 tw_821 tw_71 tw_822 (by decide +kernel) ⟨Nat.le_of_ble_eq_true rfl, Nat.le_of_ble_eq_true rfl⟩ rfl hl.1 (Nat.le_of_ble_eq_true rfl) dX5_arrival_5 ⟨Nat.zero_le _, Nat.zero_le _⟩) (fun rc_5 uc_5 H locs hp_5 Hh => ?_)
  obtain ⟨kc_5, rfl, hp_5⟩ := hp_5
  obtain ⟨hk_5, hu_5⟩ := hp_5
  rw [hu_5] at Hh
  clear hu_5
  have hi_5 := ir_m (by decide) (by decide) hk_5
  refine gw_if_eq (tgt := 28) C dX5_arrival_8 (by decide) (by rw [hi_5]; exact Nat.lt_of_le_of_lt (pif_le _) (by decide)) (fun hc_8 => ?_) (fun hc_8 => ?_)
  · skip
    refine lv_iconst (v := nI 1) C.1 C.2.1 dX5_arrival_28 (by decide +kernel) ?_
    refine lv_goto (tgt := 58) C.1 C.2.1 dX5_arrival_29 (by decide) ?_
    refine gw_put (Cn := RX5) (T := TX5) (N := 29) (ty0 := tyX5) (v := nI (1)) C Hh 0 mw_at0 rfl uwX5 tyX5_ok nmX5 0 (by decide) rfl tw_723 rfl (by decide +kernel) (Nat.le_of_ble_eq_true rfl) mw_num0 dX5_arrival_58 (fun H locs Hh => ?_)
    refine lv_aload_n C.1 C.2.1 dX5_arrival_61 rfl (lv_at hl 0 rfl) ?_
    refine gw_get (Cn := RX5) (T := TX5) (N := 29) C Hh 0 mw_at0 rfl uwX5 0 (by decide) rfl tw_723 rfl dX5_arrival_62 ?_
    refine W.eq (g2 := F0 m 65 ls [.int (nI (1))]) rfl ?_
    refine gw_if_le (tgt := 70) C dX5_arrival_65 (by decide) (by omega) (fun hc_65 => ?_) (fun hc_65 => ?_)
    · skip
      exact absurd hc_65 (by decide)
    · skip
      refine lv_iconst (v := nI 0) C.1 C.2.1 dX5_arrival_68 (by decide +kernel) ?_
      exact gw_iret (w := mw G q) (u := (up1 u.1 0 (1), u.2.1, u.2.2)) C Hh dX5_arrival_69 ⟨_, rfl, by first | exact rp_n (cdA_1 (fun h => pif_0 (by rw [← hi_22]; exact hc_25) h.2.2)) (by decide) rfl | exact rp_n (cdA_1 (fun h => pif_0 (by rw [← hk_12]; exact hc_15) h.2.1)) (by decide) rfl | exact rp_n (cdA_1 (fun h => pif_0 (by rw [← hi_5]; exact hc_8) h.1)) (by decide) rfl | exact rp_n (hv9.trans (if_pos (by split at hk_34 <;> omega))) (by decide) rfl | exact rp_n (hv9.trans (by rw [if_neg (by split at hk_34 <;> omega), if_neg (by omega)])) (by decide) rfl⟩
  · skip
    refine lv_iload_n C.1 C.2.1 dX5_arrival_11 rfl (lv_at hl 2 rfl) ?_
    refine gw_fromI (w := mw G q) (u := u) C Hh (gw_runS (n := 1) [.int (y)] C Hh (c_X5_isGood l G q (u) (y)  _) tw_823 tw_824 tw_71 tw_825 (by decide +kernel) ⟨Nat.le_of_ble_eq_true rfl, Nat.le_of_ble_eq_true rfl⟩ rfl hl.1 (Nat.le_of_ble_eq_true rfl) dX5_arrival_12 ⟨Nat.zero_le _, Nat.zero_le _⟩) (fun rc_12 uc_12 H locs hp_12 Hh => ?_)
    obtain ⟨kc_12, rfl, hp_12⟩ := hp_12
    obtain ⟨hk_12, hu_12⟩ := hp_12
    rw [hu_12] at Hh
    clear hu_12
    refine gw_if_eq (tgt := 28) C dX5_arrival_15 (by decide) (by rw [hk_12]; exact Nat.lt_of_le_of_lt (pif_le _) (by decide)) (fun hc_15 => ?_) (fun hc_15 => ?_)
    · skip
      refine lv_iconst (v := nI 1) C.1 C.2.1 dX5_arrival_28 (by decide +kernel) ?_
      refine lv_goto (tgt := 58) C.1 C.2.1 dX5_arrival_29 (by decide) ?_
      refine gw_put (Cn := RX5) (T := TX5) (N := 29) (ty0 := tyX5) (v := nI (1)) C Hh 0 mw_at0 rfl uwX5 tyX5_ok nmX5 0 (by decide) rfl tw_723 rfl (by decide +kernel) (Nat.le_of_ble_eq_true rfl) mw_num0 dX5_arrival_58 (fun H locs Hh => ?_)
      refine lv_aload_n C.1 C.2.1 dX5_arrival_61 rfl (lv_at hl 0 rfl) ?_
      refine gw_get (Cn := RX5) (T := TX5) (N := 29) C Hh 0 mw_at0 rfl uwX5 0 (by decide) rfl tw_723 rfl dX5_arrival_62 ?_
      refine W.eq (g2 := F0 m 65 ls [.int (nI (1))]) rfl ?_
      refine gw_if_le (tgt := 70) C dX5_arrival_65 (by decide) (by omega) (fun hc_65 => ?_) (fun hc_65 => ?_)
      · skip
        exact absurd hc_65 (by decide)
      · skip
        refine lv_iconst (v := nI 0) C.1 C.2.1 dX5_arrival_68 (by decide +kernel) ?_
        exact gw_iret (w := mw G q) (u := (up1 u.1 0 (1), u.2.1, u.2.2)) C Hh dX5_arrival_69 ⟨_, rfl, by first | exact rp_n (cdA_1 (fun h => pif_0 (by rw [← hi_22]; exact hc_25) h.2.2)) (by decide) rfl | exact rp_n (cdA_1 (fun h => pif_0 (by rw [← hk_12]; exact hc_15) h.2.1)) (by decide) rfl | exact rp_n (cdA_1 (fun h => pif_0 (by rw [← hi_5]; exact hc_8) h.1)) (by decide) rfl | exact rp_n (hv9.trans (if_pos (by split at hk_34 <;> omega))) (by decide) rfl | exact rp_n (hv9.trans (by rw [if_neg (by split at hk_34 <;> omega), if_neg (by omega)])) (by decide) rfl⟩
    · skip
      refine lv_iload_n C.1 C.2.1 dX5_arrival_18 rfl (lv_at hl 3 rfl) ?_
      refine lv_iconst (v := nI 0) C.1 C.2.1 dX5_arrival_19 (by decide +kernel) ?_
      refine lv_ldc (v := nI 1000000) C.1 C.2.1 C.cl (C.ts tw_826) dX5_arrival_20 ?_
      refine gw_fromI (w := mw G q) (u := u) C Hh (gw_runS (n := 3) [.int (z), .int (nI (0)), .int (nI (1000000))] C Hh (c_X5_in l G q (u) (z) (nI (0)) (nI (1000000))  _) tw_820 tw_821 tw_71 tw_822 (by decide +kernel) ⟨Nat.le_of_ble_eq_true rfl, Nat.le_of_ble_eq_true rfl⟩ rfl hl.1 (Nat.le_of_ble_eq_true rfl) dX5_arrival_22 ⟨Nat.zero_le _, Nat.zero_le _⟩) (fun rc_22 uc_22 H locs hp_22 Hh => ?_)
      obtain ⟨kc_22, rfl, hp_22⟩ := hp_22
      obtain ⟨hk_22, hu_22⟩ := hp_22
      rw [hu_22] at Hh
      clear hu_22
      have hi_22 := ir_m (by decide) (by decide) hk_22
      refine gw_if_ne (tgt := 32) C dX5_arrival_25 (by decide) (by rw [hi_22]; exact Nat.lt_of_le_of_lt (pif_le _) (by decide)) (fun hc_25 => ?_) (fun hc_25 => ?_)
      · skip
        obtain ⟨t, hx_t, hj_t⟩ := ir_n (hc := hc_8) hi_5
        rw [hx_t] at hl
        obtain ⟨g, hx_g, hj_g⟩ := ir_n (hc := hc_15) hk_12
        rw [hx_g] at hl
        obtain ⟨n, hx_n, hj_n⟩ := ir_n (hc := hc_25) hi_22
        rw [hx_n] at hl
        have hg6 : g < 6 := by omega
        have hg9 := (hok.2.1 g hg6).2.2
        have hv9 : cdA (vw u) x y z = if 0 < u.2.1 3 g then 2 else if u.1 1 < 10 then 0 else 3 := cdA_v hx_t (by omega) hx_g hg6 hx_n (by omega)
        refine lv_aload_n C.1 C.2.1 dX5_arrival_32 rfl (lv_at hl 0 rfl) ?_
        refine lv_iload_n C.1 C.2.1 dX5_arrival_33 rfl (lv_at hl 2 rfl) ?_
        refine gw_fromI (w := mw G q) (u := u) C Hh (gw_runV (n := 1) (C1 := RX5) [.int (nI (g))] C Hh (c_X5_isKit l G q (u) (g) (by exact hok) (by first | assumption | omega) _) tw_827 tw_829 tw_48 tw_71 tw_830 (by decide +kernel) ⟨Nat.le_of_ble_eq_true rfl, Nat.le_of_ble_eq_true rfl⟩ 0 mw_at0 rfl rfl hl.1 (Nat.le_of_ble_eq_true rfl) dX5_arrival_34 ⟨Nat.zero_le _, Nat.zero_le _⟩) (fun rc_34 uc_34 H locs hp_34 Hh => ?_)
        obtain ⟨kc_34, rfl, hp_34⟩ := hp_34
        obtain ⟨hk_34, hu_34⟩ := hp_34
        rw [hu_34] at Hh
        clear hu_34
        refine gw_if_eq (tgt := 44) C dX5_arrival_37 (by decide) (by split at hk_34 <;> omega) (fun hc_37 => ?_) (fun hc_37 => ?_)
        · skip
          refine lv_aload_n C.1 C.2.1 dX5_arrival_44 rfl (lv_at hl 0 rfl) ?_
          refine gw_get (Cn := RX5) (T := TX5) (N := 29) C Hh 0 mw_at0 rfl uwX5 6 (by decide) rfl tw_729 rfl dX5_arrival_45 ?_
          refine lv_bipush (v := nI 10) C.1 C.2.1 dX5_arrival_48 (by decide +kernel) ?_
          refine gw_icmp_ne (tgt := 57) C dX5_arrival_50 (by decide) (by omega) (by omega) (fun hc_50 => ?_) (fun hc_50 => ?_)
          · skip
            refine lv_iconst (v := nI 0) C.1 C.2.1 dX5_arrival_57 (by decide +kernel) ?_
            refine gw_put (Cn := RX5) (T := TX5) (N := 29) (ty0 := tyX5) (v := nI (0)) C Hh 0 mw_at0 rfl uwX5 tyX5_ok nmX5 0 (by decide) rfl tw_723 rfl (by decide +kernel) (Nat.le_of_ble_eq_true rfl) mw_num0 dX5_arrival_58 (fun H locs Hh => ?_)
            refine lv_aload_n C.1 C.2.1 dX5_arrival_61 rfl (lv_at hl 0 rfl) ?_
            refine gw_get (Cn := RX5) (T := TX5) (N := 29) C Hh 0 mw_at0 rfl uwX5 0 (by decide) rfl tw_723 rfl dX5_arrival_62 ?_
            refine W.eq (g2 := F0 m 65 ls [.int (nI (0))]) rfl ?_
            refine gw_if_le (tgt := 70) C dX5_arrival_65 (by decide) (by omega) (fun hc_65 => ?_) (fun hc_65 => ?_)
            · skip
              refine lv_aload_n C.1 C.2.1 dX5_arrival_70 rfl (lv_at hl 0 rfl) ?_
              refine gw_get (Cn := RX5) (T := TX5) (N := 29) C Hh 0 mw_at0 rfl uwX5 7 (by decide) rfl tw_730 rfl dX5_arrival_71 ?_
              refine lv_aload_n C.1 C.2.1 dX5_arrival_74 rfl (lv_at hl 0 rfl) ?_
              refine gw_get (Cn := RX5) (T := TX5) (N := 29) C Hh 0 mw_at0 rfl uwX5 6 (by decide) rfl tw_729 rfl dX5_arrival_75 ?_
              refine W.eq (g2 := F0 m 78 ls [.int (nI (u.1 1)), .ref (q 6)]) rfl ?_
              refine lv_iload_n C.1 C.2.1 dX5_arrival_78 rfl (lv_at hl 1 rfl) ?_
              refine gw_st C Hh 6 mw_at6 (by decide) mw_set6 dX5_arrival_79 (by omega) (fun H locs Hh => ?_)
              have Hh : gw_H G A s (mw G q (up1 u.1 0 (0), up2 u.2.1 6 (u.1 1) (t), u.2.2)) H locs := Hh
              refine lv_aload_n C.1 C.2.1 dX5_arrival_80 rfl (lv_at hl 0 rfl) ?_
              refine gw_get (Cn := RX5) (T := TX5) (N := 29) C Hh 0 mw_at0 rfl uwX5 8 (by decide) rfl tw_731 rfl dX5_arrival_81 ?_
              refine lv_aload_n C.1 C.2.1 dX5_arrival_84 rfl (lv_at hl 0 rfl) ?_
              refine gw_get (Cn := RX5) (T := TX5) (N := 29) C Hh 0 mw_at0 rfl uwX5 6 (by decide) rfl tw_729 rfl dX5_arrival_85 ?_
              refine W.eq (g2 := F0 m 88 ls [.int (nI (u.1 1)), .ref (q 7)]) rfl ?_
              refine lv_iload_n C.1 C.2.1 dX5_arrival_88 rfl (lv_at hl 2 rfl) ?_
              refine gw_st C Hh 7 mw_at7 (by decide) mw_set7 dX5_arrival_89 (by omega) (fun H locs Hh => ?_)
              have Hh : gw_H G A s (mw G q (up1 u.1 0 (0), up2 (up2 u.2.1 6 (u.1 1) (t)) 7 (u.1 1) (g), u.2.2)) H locs := Hh
              refine lv_aload_n C.1 C.2.1 dX5_arrival_90 rfl (lv_at hl 0 rfl) ?_
              refine gw_get (Cn := RX5) (T := TX5) (N := 29) C Hh 0 mw_at0 rfl uwX5 9 (by decide) rfl tw_732 rfl dX5_arrival_91 ?_
              refine lv_aload_n C.1 C.2.1 dX5_arrival_94 rfl (lv_at hl 0 rfl) ?_
              refine gw_get (Cn := RX5) (T := TX5) (N := 29) C Hh 0 mw_at0 rfl uwX5 6 (by decide) rfl tw_729 rfl dX5_arrival_95 ?_
              refine W.eq (g2 := F0 m 98 ls [.int (nI (u.1 1)), .ref (q 8)]) rfl ?_
              refine lv_iload_n C.1 C.2.1 dX5_arrival_98 rfl (lv_at hl 3 rfl) ?_
              refine gw_st C Hh 8 mw_at8 (by decide) mw_set8 dX5_arrival_99 (by omega) (fun H locs Hh => ?_)
              have Hh : gw_H G A s (mw G q (up1 u.1 0 (0), up2 (up2 (up2 u.2.1 6 (u.1 1) (t)) 7 (u.1 1) (g)) 8 (u.1 1) (n), u.2.2)) H locs := Hh
              refine lv_aload_n C.1 C.2.1 dX5_arrival_100 rfl (lv_at hl 0 rfl) ?_
              refine gw_get (Cn := RX5) (T := TX5) (N := 29) C Hh 0 mw_at0 rfl uwX5 10 (by decide) rfl tw_733 rfl dX5_arrival_101 ?_
              refine lv_aload_n C.1 C.2.1 dX5_arrival_104 rfl (lv_at hl 0 rfl) ?_
              refine gw_get (Cn := RX5) (T := TX5) (N := 29) C Hh 0 mw_at0 rfl uwX5 6 (by decide) rfl tw_729 rfl dX5_arrival_105 ?_
              refine W.eq (g2 := F0 m 108 ls [.int (nI (u.1 1)), .ref (q 9)]) rfl ?_
              refine lv_iconst (v := nI 0) C.1 C.2.1 dX5_arrival_108 (by decide +kernel) ?_
              refine gw_st C Hh 9 mw_at9 (by decide) mw_set9 dX5_arrival_109 (by omega) (fun H locs Hh => ?_)
              have Hh : gw_H G A s (mw G q (up1 u.1 0 (0), up2 (up2 (up2 (up2 u.2.1 6 (u.1 1) (t)) 7 (u.1 1) (g)) 8 (u.1 1) (n)) 9 (u.1 1) (0), u.2.2)) H locs := Hh
              refine lv_aload_n C.1 C.2.1 dX5_arrival_110 rfl (lv_at hl 0 rfl) ?_
              refine lv_dup C.1 C.2.1 dX5_arrival_111 rfl ?_
              refine gw_get (Cn := RX5) (T := TX5) (N := 29) C Hh 0 mw_at0 rfl uwX5 6 (by decide) rfl tw_729 rfl dX5_arrival_112 ?_
              refine W.eq (g2 := F0 m 115 ls [.int (nI (u.1 1)), .ref (q 0)]) rfl ?_
              refine lv_iconst (v := nI 1) C.1 C.2.1 dX5_arrival_115 (by decide +kernel) ?_
              refine gw_iadd C dX5_arrival_116 ?_
              refine gw_put (Cn := RX5) (T := TX5) (N := 29) (ty0 := tyX5) (v := nI ((u.1 1) + 1)) C Hh 0 mw_at0 rfl uwX5 tyX5_ok nmX5 6 (by decide) rfl tw_729 rfl (by decide +kernel) (Nat.le_of_ble_eq_true rfl) mw_num1 dX5_arrival_117 (fun H locs Hh => ?_)
              refine lv_aload_n C.1 C.2.1 dX5_arrival_120 rfl (lv_at hl 0 rfl) ?_
              refine gw_fromI (w := mw G q) (u := (up1 (up1 u.1 0 (0)) 1 ((u.1 1) + 1), up2 (up2 (up2 (up2 u.2.1 6 (u.1 1) (t)) 7 (u.1 1) (g)) 8 (u.1 1) (n)) 9 (u.1 1) (0), u.2.2)) C Hh (gw_runV (n := 0) (C1 := RX5) [] C Hh (c_X5_cover l G q ((up1 (up1 u.1 0 (0)) 1 ((u.1 1) + 1), up2 (up2 (up2 (up2 u.2.1 6 (u.1 1) (t)) 7 (u.1 1) (g)) 8 (u.1 1) (n)) 9 (u.1 1) (0), u.2.2))  (by exact (rA_ok hm (by omega) (by omega) hg6 (by omega)).1) (by exact (rA_ok hm (by omega) (by omega) hg6 (by omega)).2) _) tw_831 tw_833 tw_49 tw_71 tw_834 (by decide +kernel) ⟨Nat.le_of_ble_eq_true rfl, Nat.le_of_ble_eq_true rfl⟩ 0 mw_at0 rfl rfl hl.1 (Nat.le_of_ble_eq_true rfl) dX5_arrival_121 ⟨Nat.zero_le _, Nat.zero_le _⟩) (fun rc_121 uc_121 H locs hp_121 Hh => ?_)
              obtain ⟨kc_121, rfl, hp_121⟩ := hp_121
              refine lv_pop C.1 C.2.1 dX5_arrival_124 rfl ?_
              refine lv_aload_n C.1 C.2.1 dX5_arrival_125 rfl (lv_at hl 0 rfl) ?_
              refine gw_get (Cn := RX5) (T := TX5) (N := 29) C Hh 0 mw_at0 rfl uwX5 6 (by decide) rfl tw_729 rfl dX5_arrival_126 ?_
              refine lv_iconst (v := nI 1) C.1 C.2.1 dX5_arrival_129 (by decide +kernel) ?_
              refine gw_isub C dX5_arrival_130 (by rw [hp_121.1.1.2.1]; show 1 ≤ u.1 1 + 1; omega) ?_
              exact gw_iret (w := mw G q) (u := uc_121) C Hh dX5_arrival_131 ⟨_, rfl, by refine Or.inr ⟨hv9.trans (by rw [if_neg (by split at hk_34 <;> omega), if_pos (by omega)]), cv_code hp_121.1 rfl, ?_, ?_⟩; (rw [hp_121.1.1.2.1]; show u.1 1 + 1 - 1 = _; omega); (rw [tn_eq hx_t (by omega), tn_eq hx_g (by omega), tn_eq hx_n (by omega)]; exact ⟨hp_121.1, hp_121.2.1⟩)⟩
            · skip
              exact absurd hc_65 (by decide)
          · skip
            refine lv_iconst (v := nI 3) C.1 C.2.1 dX5_arrival_53 (by decide +kernel) ?_
            refine lv_goto (tgt := 58) C.1 C.2.1 dX5_arrival_54 (by decide) ?_
            refine gw_put (Cn := RX5) (T := TX5) (N := 29) (ty0 := tyX5) (v := nI (3)) C Hh 0 mw_at0 rfl uwX5 tyX5_ok nmX5 0 (by decide) rfl tw_723 rfl (by decide +kernel) (Nat.le_of_ble_eq_true rfl) mw_num0 dX5_arrival_58 (fun H locs Hh => ?_)
            refine lv_aload_n C.1 C.2.1 dX5_arrival_61 rfl (lv_at hl 0 rfl) ?_
            refine gw_get (Cn := RX5) (T := TX5) (N := 29) C Hh 0 mw_at0 rfl uwX5 0 (by decide) rfl tw_723 rfl dX5_arrival_62 ?_
            refine W.eq (g2 := F0 m 65 ls [.int (nI (3))]) rfl ?_
            refine gw_if_le (tgt := 70) C dX5_arrival_65 (by decide) (by omega) (fun hc_65 => ?_) (fun hc_65 => ?_)
            · skip
              exact absurd hc_65 (by decide)
            · skip
              refine lv_iconst (v := nI 0) C.1 C.2.1 dX5_arrival_68 (by decide +kernel) ?_
              exact gw_iret (w := mw G q) (u := (up1 u.1 0 (3), u.2.1, u.2.2)) C Hh dX5_arrival_69 ⟨_, rfl, by first | exact rp_n (cdA_1 (fun h => pif_0 (by rw [← hi_22]; exact hc_25) h.2.2)) (by decide) rfl | exact rp_n (cdA_1 (fun h => pif_0 (by rw [← hk_12]; exact hc_15) h.2.1)) (by decide) rfl | exact rp_n (cdA_1 (fun h => pif_0 (by rw [← hi_5]; exact hc_8) h.1)) (by decide) rfl | exact rp_n (hv9.trans (if_pos (by split at hk_34 <;> omega))) (by decide) rfl | exact rp_n (hv9.trans (by rw [if_neg (by split at hk_34 <;> omega), if_neg (by omega)])) (by decide) rfl⟩
        · skip
          refine lv_iconst (v := nI 2) C.1 C.2.1 dX5_arrival_40 (by decide +kernel) ?_
          refine lv_goto (tgt := 58) C.1 C.2.1 dX5_arrival_41 (by decide) ?_
          refine gw_put (Cn := RX5) (T := TX5) (N := 29) (ty0 := tyX5) (v := nI (2)) C Hh 0 mw_at0 rfl uwX5 tyX5_ok nmX5 0 (by decide) rfl tw_723 rfl (by decide +kernel) (Nat.le_of_ble_eq_true rfl) mw_num0 dX5_arrival_58 (fun H locs Hh => ?_)
          refine lv_aload_n C.1 C.2.1 dX5_arrival_61 rfl (lv_at hl 0 rfl) ?_
          refine gw_get (Cn := RX5) (T := TX5) (N := 29) C Hh 0 mw_at0 rfl uwX5 0 (by decide) rfl tw_723 rfl dX5_arrival_62 ?_
          refine W.eq (g2 := F0 m 65 ls [.int (nI (2))]) rfl ?_
          refine gw_if_le (tgt := 70) C dX5_arrival_65 (by decide) (by omega) (fun hc_65 => ?_) (fun hc_65 => ?_)
          · skip
            exact absurd hc_65 (by decide)
          · skip
            refine lv_iconst (v := nI 0) C.1 C.2.1 dX5_arrival_68 (by decide +kernel) ?_
            exact gw_iret (w := mw G q) (u := (up1 u.1 0 (2), u.2.1, u.2.2)) C Hh dX5_arrival_69 ⟨_, rfl, by first | exact rp_n (cdA_1 (fun h => pif_0 (by rw [← hi_22]; exact hc_25) h.2.2)) (by decide) rfl | exact rp_n (cdA_1 (fun h => pif_0 (by rw [← hk_12]; exact hc_15) h.2.1)) (by decide) rfl | exact rp_n (cdA_1 (fun h => pif_0 (by rw [← hi_5]; exact hc_8) h.1)) (by decide) rfl | exact rp_n (hv9.trans (if_pos (by split at hk_34 <;> omega))) (by decide) rfl | exact rp_n (hv9.trans (by rw [if_neg (by split at hk_34 <;> omega), if_neg (by omega)])) (by decide) rfl⟩
      · skip
        refine lv_iconst (v := nI 1) C.1 C.2.1 dX5_arrival_28 (by decide +kernel) ?_
        refine lv_goto (tgt := 58) C.1 C.2.1 dX5_arrival_29 (by decide) ?_
        refine gw_put (Cn := RX5) (T := TX5) (N := 29) (ty0 := tyX5) (v := nI (1)) C Hh 0 mw_at0 rfl uwX5 tyX5_ok nmX5 0 (by decide) rfl tw_723 rfl (by decide +kernel) (Nat.le_of_ble_eq_true rfl) mw_num0 dX5_arrival_58 (fun H locs Hh => ?_)
        refine lv_aload_n C.1 C.2.1 dX5_arrival_61 rfl (lv_at hl 0 rfl) ?_
        refine gw_get (Cn := RX5) (T := TX5) (N := 29) C Hh 0 mw_at0 rfl uwX5 0 (by decide) rfl tw_723 rfl dX5_arrival_62 ?_
        refine W.eq (g2 := F0 m 65 ls [.int (nI (1))]) rfl ?_
        refine gw_if_le (tgt := 70) C dX5_arrival_65 (by decide) (by omega) (fun hc_65 => ?_) (fun hc_65 => ?_)
        · skip
          exact absurd hc_65 (by decide)
        · skip
          refine lv_iconst (v := nI 0) C.1 C.2.1 dX5_arrival_68 (by decide +kernel) ?_
          exact gw_iret (w := mw G q) (u := (up1 u.1 0 (1), u.2.1, u.2.2)) C Hh dX5_arrival_69 ⟨_, rfl, by first | exact rp_n (cdA_1 (fun h => pif_0 (by rw [← hi_22]; exact hc_25) h.2.2)) (by decide) rfl | exact rp_n (cdA_1 (fun h => pif_0 (by rw [← hk_12]; exact hc_15) h.2.1)) (by decide) rfl | exact rp_n (cdA_1 (fun h => pif_0 (by rw [← hi_5]; exact hc_8) h.1)) (by decide) rfl | exact rp_n (hv9.trans (if_pos (by split at hk_34 <;> omega))) (by decide) rfl | exact rp_n (hv9.trans (by rw [if_neg (by split at hk_34 <;> omega), if_neg (by omega)])) (by decide) rfl⟩
