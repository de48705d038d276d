theorem up2_ne (f : Nat → Nat → Nat) {k k' x v : Nat} (h : k' ≠ k) : up2 f k x v k' = f k' := by
  funext b
  simp [up2, h]
theorem up2_at (f : Nat → Nat → Nat) (k x v : Nat) : up2 f k x v k = fun b => if b = x then v else f k b := by
  funext b
  simp [up2]
theorem upA_ne (f : Nat → Nat → Nat) {k k' : Nat} {g : Nat → Nat} (h : k' ≠ k) : upA f k g k' = f k' := by
  funext b
  simp [upA, h]
theorem upA_at (f : Nat → Nat → Nat) (k : Nat) (g : Nat → Nat) : upA f k g k = g := by
  funext b
  simp [upA]
def ar_ok (u : pf_S) : Prop := u.1 0 ≤ 10 ∧ (∀ a, a < 10 → u.2 10 a < 100) ∧ (∀ a, a < 10 → u.2 11 a < 6) ∧ (∀ a, a < 10 → u.2 12 a ≤ 1000000) ∧ ∀ a, a < 10 → u.2 13 a ≤ u.2 12 a
/-- the order by a key (an arrival's time, an order's rank), of equal ones by number -/
def kx_lt (K : Nat → Nat) (a b : Nat) : Prop := K a < K b ∨ (K a = K b ∧ a < b)
/-- the first n in their order -/
def kx_row (K : Nat → Nat) (n : Nat) (b : Nat → Nat) : Prop := (∀ i, i < n → b i < n) ∧ ∀ i j, i < j → j < n → kx_lt K (b i) (b j)
/-- one array of the state apart, two states are the same -/
def st_but (k : Nat) (u v : pf_S) : Prop := v.1 = u.1 ∧ ∀ j, j ≠ k → v.2 j = u.2 j
theorem st_but.rf {k : Nat} {u : pf_S} : st_but k u u := ⟨rfl, fun _ _ => rfl⟩
theorem st_but.up {k x y : Nat} {u v : pf_S} (h : st_but k u v) : st_but k u (v.1, up2 v.2 k x y) := ⟨h.1, fun j hj => (up2_ne v.2 hj).trans (h.2 j hj)⟩
def so_in (K : Nat → Nat) (a t : Nat) (b : Nat → Nat) : Prop := (∀ i j, i < j → j ≤ a → i ≠ t → j ≠ t → kx_lt K (b i) (b j)) ∧ (∀ i, i ≤ a → i ≠ t → b i < a) ∧ ∀ j, t < j → j ≤ a → K a < K (b j)
theorem so_start {K : Nat → Nat} {a : Nat} {b : Nat → Nat} (h : kx_row K a b) : so_in K a a b := ⟨fun i j h1 h2 _ h4 => h.2 i j h1 (by omega), fun i h1 h2 => h.1 i (by omega), fun j h1 h2 => by omega⟩
theorem so_step {K : Nat → Nat} {a t : Nat} {b : Nat → Nat} (h : so_in K a t b) (h0 : 0 < t) (ht : t ≤ a) (hc : K a < K (b (t - 1))) : so_in K a (t - 1) (fun j => if j = t then b (t - 1) else b j) := by
  refine ⟨fun i j h1 h2 h3 h4 => ?_, fun i h1 h2 => ?_, fun j h1 h2 => ?_⟩ <;> dsimp only
  · by_cases hi : i = t
    · subst hi
      rw [if_pos rfl, if_neg (by omega)]
      exact h.1 (i - 1) j (by omega) h2 (by omega) (by omega)
    · rw [if_neg hi]
      by_cases hj : j = t
      · subst hj
        rw [if_pos rfl]
        exact h.1 i (j - 1) (by omega) (by omega) hi (by omega)
      · rw [if_neg hj]
        exact h.1 i j h1 h2 hi hj
  · by_cases hi : i = t
    · rw [if_pos hi]
      exact h.2.1 (t - 1) (by omega) (by omega)
    · rw [if_neg hi]
      exact h.2.1 i h1 hi
  · by_cases hj : j = t
    · rw [if_pos hj]
      exact hc
    · rw [if_neg hj]
      exact h.2.2 j (by omega) h2
theorem so_end {K : Nat → Nat} {a t : Nat} {b : Nat → Nat} (h : so_in K a t b) (ht : t ≤ a) (hc : t = 0 ∨ K (b (t - 1)) ≤ K a) : kx_row K (a + 1) (fun j => if j = t then a else b j) := by
  have hle : ∀ i, i < t → K (b i) ≤ K a := by
    intro i hi
    rcases hc with hc | hc
    · omega
    · by_cases h1 : i = t - 1
      · rw [h1]; exact hc
      · have := h.1 i (t - 1) (by omega) (by omega) (by omega) (by omega)
        unfold kx_lt at this
        omega
  refine ⟨fun i hi => ?_, fun i j h1 h2 => ?_⟩ <;> dsimp only
  · by_cases h1 : i = t
    · rw [if_pos h1]; omega
    · rw [if_neg h1]
      have := h.2.1 i (by omega) h1
      omega
  · by_cases hi : i = t
    · rw [if_pos hi, if_neg (by omega)]
      exact Or.inl (h.2.2 j (by omega) (by omega))
    · rw [if_neg hi]
      by_cases hj : j = t
      · rw [if_pos hj]
        have e1 := hle i (by omega)
        have e2 := h.2.1 i (by omega) hi
        unfold kx_lt
        omega
      · rw [if_neg hj]
        exact h.1 i j h1 (by omega) hi hj
set_option maxHeartbeats 4000000 in
set_option maxRecDepth 100000 in
theorem c_X4_hasBit (l : Launch) (G : gw_G) (q : Nat → Nat) (u : pf_S) (b : Nat) (i : Nat) (hi : i < 32) : gw_MI l yX4_hasBit cX4_hasBit 2 (some .boolean) 0 0 [.int (nI (b)), .int (nI (i))] G (pw G q) u (fun r u1 => ∃ k : Nat, r = nI k ∧ (k = tbit b i ∧ u1 = u)) := by
  refine gw_entryI (own := RX4) (by decide) rfl (Nat.le_of_ble_eq_true rfl) ?_
  intro p e s m args below meth c A ls C Hh hl
  have hl : lv_has ls 2 [(0, .int (nI (b))), (1, .int (nI (i)))] := hl
  refine lv_iload_n C.1 C.2.1 dX4_hasBit_0 rfl (lv_at hl 0 rfl) ?_
  refine lv_iload_n C.1 C.2.1 dX4_hasBit_1 rfl (lv_at hl 1 rfl) ?_
  refine lv_ishr C.1 C.2.1 dX4_hasBit_2 ?_
  refine lv_iconst (v := nI 1) C.1 C.2.1 dX4_hasBit_3 (by decide +kernel) ?_
  refine gw_and1 C dX4_hasBit_4 (by omega) ?_
  have hb := tbit_le b i
  refine gw_if_eq (tgt := 12) C dX4_hasBit_5 (by decide) (by omega) (fun hc_5 => ?_) (fun hc_5 => ?_)
  · skip
    refine lv_iconst (v := nI 0) C.1 C.2.1 dX4_hasBit_12 (by decide +kernel) ?_
    exact gw_zret (w := pw G q) (u := u) C Hh dX4_hasBit_13 (by omega) ⟨_, rfl, by refine ⟨?_, rfl⟩; first | rfl | omega | (split <;> omega)⟩
  · skip
    refine lv_iconst (v := nI 1) C.1 C.2.1 dX4_hasBit_8 (by decide +kernel) ?_
    refine lv_goto (tgt := 13) C.1 C.2.1 dX4_hasBit_9 (by decide) ?_
    exact gw_zret (w := pw G q) (u := u) C Hh dX4_hasBit_13 (by omega) ⟨_, rfl, by refine ⟨?_, rfl⟩; first | rfl | omega | (split <;> omega)⟩
set_option maxHeartbeats 4000000 in
set_option maxRecDepth 100000 in
theorem c_X4_demandAt (l : Launch) (G : gw_G) (q : Nat → Nat) (u : pf_S) (o : Nat) (x : Nat)  : gw_MI l yX4_demandAt cX4_demandAt 2 (some .int) 0 0 [.int (nI (o)), .int (nI (x))] G (pw G q) u (fun r u1 => ∃ k : Nat, r = nI k ∧ (k = o * 3 + x ∧ u1 = u)) := by
  refine gw_entryI (own := RX4) (by decide) rfl (Nat.le_of_ble_eq_true rfl) ?_
  intro p e s m args below meth c A ls C Hh hl
  have hl : lv_has ls 2 [(0, .int (nI (o))), (1, .int (nI (x)))] := hl
  refine lv_iload_n C.1 C.2.1 dX4_demandAt_0 rfl (lv_at hl 0 rfl) ?_
  refine lv_iconst (v := nI 3) C.1 C.2.1 dX4_demandAt_1 (by decide +kernel) ?_
  refine gw_imul C dX4_demandAt_2 ?_
  refine lv_iload_n C.1 C.2.1 dX4_demandAt_3 rfl (lv_at hl 1 rfl) ?_
  refine gw_iadd C dX4_demandAt_4 ?_
  exact gw_iret (w := pw G q) (u := u) C Hh dX4_demandAt_5 ⟨_, rfl, by refine ⟨?_, rfl⟩; first | rfl | omega | (split <;> omega)⟩
set_option maxHeartbeats 4000000 in
set_option maxRecDepth 100000 in
theorem c_X0_add (l : Launch) (G : gw_G) (q : Nat → Nat) (u : pf_S) (t : Nat) (g : Nat) (n : Nat) (hn : u.1 0 < 10) : gw_MI l yX0_add cX0_add 4 (some .int) 0 0 [.ref (q 2), .int (nI (t)), .int (nI (g)), .int (nI (n))] G (pw G q) u (fun r u1 => ∃ k : Nat, r = nI k ∧ (k = u.1 0 ∧ u1 = (up1 u.1 0 (u.1 0 + 1), up2 (up2 (up2 u.2 10 (u.1 0) t) 11 (u.1 0) g) 12 (u.1 0) n))) := by
  refine gw_entryI (own := RX0) (by decide) rfl (Nat.le_of_ble_eq_true rfl) ?_
  intro p e s m args below meth c A ls C Hh hl
  have hl : lv_has ls 4 [(0, .ref (q 2)), (1, .int (nI (t))), (2, .int (nI (g))), (3, .int (nI (n)))] := hl
  refine lv_aload_n C.1 C.2.1 dX0_add_0 rfl (lv_at hl 0 rfl) ?_
  refine gw_get (Cn := RX0) (T := TX0) (N := 5) C Hh 2 pw_at2 rfl uwX0 1 (by decide) rfl tw_126 rfl dX0_add_1 ?_
  refine lv_aload_n C.1 C.2.1 dX0_add_4 rfl (lv_at hl 0 rfl) ?_
  refine gw_get (Cn := RX0) (T := TX0) (N := 5) C Hh 2 pw_at2 rfl uwX0 0 (by decide) rfl tw_123 rfl dX0_add_5 ?_
  refine lv_iload_n C.1 C.2.1 dX0_add_8 rfl (lv_at hl 1 rfl) ?_
  refine gw_st C Hh 10 pw_at10 (by decide) pw_set10 dX0_add_9 (by omega) (fun H locs Hh => ?_)
  have Hh : gw_H G A s (pw G q (u.1, up2 u.2 10 (u.1 0) (t))) H locs := Hh
  refine lv_aload_n C.1 C.2.1 dX0_add_10 rfl (lv_at hl 0 rfl) ?_
  refine gw_get (Cn := RX0) (T := TX0) (N := 5) C Hh 2 pw_at2 rfl uwX0 2 (by decide) rfl tw_128 rfl dX0_add_11 ?_
  refine lv_aload_n C.1 C.2.1 dX0_add_14 rfl (lv_at hl 0 rfl) ?_
  refine gw_get (Cn := RX0) (T := TX0) (N := 5) C Hh 2 pw_at2 rfl uwX0 0 (by decide) rfl tw_123 rfl dX0_add_15 ?_
  refine W.eq (g2 := F0 m 18 ls [.int (nI (u.1 0)), .ref (q 11)]) rfl ?_
  refine lv_iload_n C.1 C.2.1 dX0_add_18 rfl (lv_at hl 2 rfl) ?_
  refine gw_st C Hh 11 pw_at11 (by decide) pw_set11 dX0_add_19 (by omega) (fun H locs Hh => ?_)
  have Hh : gw_H G A s (pw G q (u.1, up2 (up2 u.2 10 (u.1 0) (t)) 11 (u.1 0) (g))) H locs := Hh
  refine lv_aload_n C.1 C.2.1 dX0_add_20 rfl (lv_at hl 0 rfl) ?_
  refine gw_get (Cn := RX0) (T := TX0) (N := 5) C Hh 2 pw_at2 rfl uwX0 3 (by decide) rfl tw_130 rfl dX0_add_21 ?_
  refine lv_aload_n C.1 C.2.1 dX0_add_24 rfl (lv_at hl 0 rfl) ?_
  refine gw_get (Cn := RX0) (T := TX0) (N := 5) C Hh 2 pw_at2 rfl uwX0 0 (by decide) rfl tw_123 rfl dX0_add_25 ?_
  refine W.eq (g2 := F0 m 28 ls [.int (nI (u.1 0)), .ref (q 12)]) rfl ?_
  refine lv_iload_n C.1 C.2.1 dX0_add_28 rfl (lv_at hl 3 rfl) ?_
  refine gw_st C Hh 12 pw_at12 (by decide) pw_set12 dX0_add_29 (by omega) (fun H locs Hh => ?_)
  have Hh : gw_H G A s (pw G q (u.1, up2 (up2 (up2 u.2 10 (u.1 0) (t)) 11 (u.1 0) (g)) 12 (u.1 0) (n))) H locs := Hh
  refine lv_aload_n C.1 C.2.1 dX0_add_30 rfl (lv_at hl 0 rfl) ?_
  refine lv_dup C.1 C.2.1 dX0_add_31 rfl ?_
  refine gw_get (Cn := RX0) (T := TX0) (N := 5) C Hh 2 pw_at2 rfl uwX0 0 (by decide) rfl tw_123 rfl dX0_add_32 ?_
  refine W.eq (g2 := F0 m 35 ls [.int (nI (u.1 0)), .ref (q 2)]) rfl ?_
  refine lv_iconst (v := nI 1) C.1 C.2.1 dX0_add_35 (by decide +kernel) ?_
  refine gw_iadd C dX0_add_36 ?_
  refine gw_put (Cn := RX0) (T := TX0) (N := 5) (ty0 := tyX0) (v := nI ((u.1 0) + 1)) C Hh 2 pw_at2 rfl uwX0 tyX0_ok nmX0 0 (by decide) rfl tw_123 rfl (by decide +kernel) (Nat.le_of_ble_eq_true rfl) pw_num0 dX0_add_37 (fun H locs Hh => ?_)
  refine lv_aload_n C.1 C.2.1 dX0_add_40 rfl (lv_at hl 0 rfl) ?_
  refine gw_get (Cn := RX0) (T := TX0) (N := 5) C Hh 2 pw_at2 rfl uwX0 0 (by decide) rfl tw_123 rfl dX0_add_41 ?_
  refine W.eq (g2 := F0 m 44 ls [.int (nI ((u.1 0) + 1))]) rfl ?_
  refine lv_iconst (v := nI 1) C.1 C.2.1 dX0_add_44 (by decide +kernel) ?_
  refine gw_isub C dX0_add_45 (by omega) ?_
  exact gw_iret (w := pw G q) (u := (up1 u.1 0 ((u.1 0) + 1), up2 (up2 (up2 u.2 10 (u.1 0) (t)) 11 (u.1 0) (g)) 12 (u.1 0) (n))) C Hh dX0_add_46 ⟨_, rfl, by refine ⟨?_, rfl⟩; first | rfl | omega | (split <;> omega)⟩
set_option maxHeartbeats 4000000 in
set_option maxRecDepth 100000 in
theorem c_X0_has (l : Launch) (G : gw_G) (q : Nat → Nat) (u : pf_S) (g : Nat) (hok : ar_ok u) (hg : g < 6) : gw_MI l yX0_has cX0_has 3 (some .boolean) 0 0 [.ref (q 2), .int (nI (g))] G (pw G q) u (fun r u1 => ∃ k : Nat, r = nI k ∧ (((k = 1 ∧ ∃ a, a < u.1 0 ∧ u.2 11 a = g) ∨ (k = 0 ∧ ∀ a, a < u.1 0 → u.2 11 a ≠ g)) ∧ u1 = u)) := by
  refine gw_entryI (own := RX0) (by decide) rfl (Nat.le_of_ble_eq_true rfl) ?_
  intro p e s m args below meth c A ls C Hh hl
  have hl : lv_has ls 3 [(0, .ref (q 2)), (1, .int (nI (g)))] := hl
  have h0 := hok.1
  refine lv_iconst (v := nI 0) C.1 C.2.1 dX0_has_0 (by decide +kernel) ?_
  refine lv_istore_n (lv' := [(2, .int (nI (0))), (0, .ref (q 2)), (1, .int (nI (g)))]) C.1 C.2.1 dX0_has_1 rfl hl (by decide) rfl (fun ls hl => ?_)
  have loop_2 : ∀ (fu : Nat) (i : Nat) (H : Heap) (locs : List Loc) (ls : Array Slot), (i ≤ u.1 0) → (∀ j, j < i → u.2 11 j ≠ g) → u.1 0 - i < fu → gw_H G A s (pw G q u) H locs → lv_has ls 3 [(0, .ref (q 2)), (1, .int (nI (g))), (2, .int (nI (i)))] → W p l e (gw_rm 0 0) s m args below meth c H locs 0 0 (MQ below (va_Qi (fun r u1 => ∃ k : Nat, r = nI k ∧ (((k = 1 ∧ ∃ a, a < u.1 0 ∧ u.2 11 a = g) ∨ (k = 0 ∧ ∀ a, a < u.1 0 → u.2 11 a ≠ g)) ∧ u1 = u)) (gw_at G A (pw G q)) A) args s 0 0 A) (F0 m 2 ls []) := by
    intro fu
    induction fu with
    | zero =>
      intro i  H locs ls hi hno hmf
      exact absurd hmf (Nat.not_lt_zero _)
    | succ fu ih_2 =>
      intro i  H locs ls hi hno hmf Hh hl
      refine lv_iload_n C.1 C.2.1 dX0_has_2 rfl (lv_at hl 2 rfl) ?_
      refine lv_aload_n C.1 C.2.1 dX0_has_3 rfl (lv_at hl 0 rfl) ?_
      refine gw_get (Cn := RX0) (T := TX0) (N := 5) C Hh 2 pw_at2 rfl uwX0 0 (by decide) rfl tw_123 rfl dX0_has_4 ?_
      refine gw_icmp_ge (tgt := 28) C dX0_has_7 (by decide) (by omega) (by omega) (fun hc_7 => ?_) (fun hc_7 => ?_)
      · skip
        refine lv_iconst (v := nI 0) C.1 C.2.1 dX0_has_28 (by decide +kernel) ?_
        exact gw_zret (w := pw G q) (u := u) C Hh dX0_has_29 (by omega) ⟨_, rfl, by exact ⟨Or.inr ⟨rfl, fun j h => hno j (by omega)⟩, rfl⟩⟩
      · skip
        refine lv_aload_n C.1 C.2.1 dX0_has_10 rfl (lv_at hl 0 rfl) ?_
        refine gw_get (Cn := RX0) (T := TX0) (N := 5) C Hh 2 pw_at2 rfl uwX0 2 (by decide) rfl tw_128 rfl dX0_has_11 ?_
        refine lv_iload_n C.1 C.2.1 dX0_has_14 rfl (lv_at hl 2 rfl) ?_
        refine gw_ld C Hh 11 pw_at11 (by decide) dX0_has_15 (by omega) ?_
        have h8 := hok.2.2.1 i (by omega)
        refine lv_iload_n C.1 C.2.1 dX0_has_16 rfl (lv_at hl 1 rfl) ?_
        refine gw_icmp_ne (tgt := 22) C dX0_has_17 (by decide) (by omega) (by omega) (fun hc_17 => ?_) (fun hc_17 => ?_)
        · skip
          refine lv_iinc (v := nI (i + 1)) (lv' := [(2, .int (nI (i + 1))), (0, .ref (q 2)), (1, .int (nI (g)))]) C.1 C.2.1 dX0_has_22 hl (k := 2) rfl (nI_add _ 1) (by decide) rfl (fun ls hl => ?_)
          refine lv_goto (tgt := 2) C.1 C.2.1 dX0_has_25 (by decide) ?_
          exact ih_2 (i + 1)  _ _ _ (by first | assumption | omega) (by intro o h; by_cases h1 : o = i; (subst h1; omega); exact hno o (by omega)) (by omega) Hh (lv_sub hl [1, 2, 0] rfl)
        · skip
          refine lv_iconst (v := nI 1) C.1 C.2.1 dX0_has_20 (by decide +kernel) ?_
          exact gw_zret (w := pw G q) (u := u) C Hh dX0_has_21 (by omega) ⟨_, rfl, by exact ⟨Or.inl ⟨rfl, i, by omega, by omega⟩, rfl⟩⟩
  exact loop_2 _ (0)  _ _ _ (by first | assumption | omega) (by intro o h; omega) (Nat.lt_succ_self _) Hh (lv_sub hl [1, 2, 0] rfl)
set_option maxHeartbeats 4000000 in
set_option maxRecDepth 100000 in
theorem c_X0_free (l : Launch) (G : gw_G) (q : Nat → Nat) (u : pf_S) (a : Nat) (hok : ar_ok u) (ha : a < 10) : gw_MI l yX0_free cX0_free 2 (some .int) 0 0 [.ref (q 2), .int (nI (a))] G (pw G q) u (fun r u1 => ∃ k : Nat, r = nI k ∧ (k = u.2 12 a - u.2 13 a ∧ u1 = u)) := by
  refine gw_entryI (own := RX0) (by decide) rfl (Nat.le_of_ble_eq_true rfl) ?_
  intro p e s m args below meth c A ls C Hh hl
  have hl : lv_has ls 2 [(0, .ref (q 2)), (1, .int (nI (a)))] := hl
  refine lv_aload_n C.1 C.2.1 dX0_free_0 rfl (lv_at hl 0 rfl) ?_
  refine gw_get (Cn := RX0) (T := TX0) (N := 5) C Hh 2 pw_at2 rfl uwX0 3 (by decide) rfl tw_130 rfl dX0_free_1 ?_
  refine lv_iload_n C.1 C.2.1 dX0_free_4 rfl (lv_at hl 1 rfl) ?_
  refine gw_ld C Hh 12 pw_at12 (by decide) dX0_free_5 (by omega) ?_
  refine lv_aload_n C.1 C.2.1 dX0_free_6 rfl (lv_at hl 0 rfl) ?_
  refine gw_get (Cn := RX0) (T := TX0) (N := 5) C Hh 2 pw_at2 rfl uwX0 4 (by decide) rfl tw_132 rfl dX0_free_7 ?_
  refine lv_iload_n C.1 C.2.1 dX0_free_10 rfl (lv_at hl 1 rfl) ?_
  refine gw_ld C Hh 13 pw_at13 (by decide) dX0_free_11 (by omega) ?_
  refine gw_isub C dX0_free_12 (by exact hok.2.2.2.2 a ha) ?_
  exact gw_iret (w := pw G q) (u := u) C Hh dX0_free_13 ⟨_, rfl, by refine ⟨?_, rfl⟩; first | rfl | omega | (split <;> omega)⟩
set_option maxHeartbeats 4000000 in
set_option maxRecDepth 100000 in
theorem c_X0_allFree (l : Launch) (G : gw_G) (q : Nat → Nat) (u : pf_S)  (hok : ar_ok u) : gw_MI l yX0_allFree cX0_allFree 3 (some .int) 1 21 [.ref (q 2)] G (pw G q) u (fun r u1 => ∃ k : Nat, r = nI k ∧ (k = fl_sum (fun a => u.2 12 a - u.2 13 a) (u.1 0) ∧ u1 = u)) := by
  refine gw_entryI (own := RX0) (by decide) rfl (Nat.le_of_ble_eq_true rfl) ?_
  intro p e s m args below meth c A ls C Hh hl
  have hl : lv_has ls 3 [(0, .ref (q 2))] := hl
  have h0 := hok.1
  refine lv_iconst (v := nI 0) C.1 C.2.1 dX0_allFree_0 (by decide +kernel) ?_
  refine lv_istore_n (lv' := [(1, .int (nI (0))), (0, .ref (q 2))]) C.1 C.2.1 dX0_allFree_1 rfl hl (by decide) rfl (fun ls hl => ?_)
  refine lv_iconst (v := nI 0) C.1 C.2.1 dX0_allFree_2 (by decide +kernel) ?_
  refine lv_istore_n (lv' := [(2, .int (nI (0))), (1, .int (nI (0))), (0, .ref (q 2))]) C.1 C.2.1 dX0_allFree_3 rfl hl (by decide) rfl (fun ls hl => ?_)
  have loop_4 : ∀ (fu : Nat) (i : Nat) (z : Nat) (H : Heap) (locs : List Loc) (ls : Array Slot), (i ≤ u.1 0) → (z = fl_sum (fun a => u.2 12 a - u.2 13 a) i) → u.1 0 - i < fu → gw_H G A s (pw G q u) H locs → lv_has ls 3 [(0, .ref (q 2)), (1, .int (nI (z))), (2, .int (nI (i)))] → W p l e (gw_rm 1 21) s m args below meth c H locs 0 0 (MQ below (va_Qi (fun r u1 => ∃ k : Nat, r = nI k ∧ (k = fl_sum (fun a => u.2 12 a - u.2 13 a) (u.1 0) ∧ u1 = u)) (gw_at G A (pw G q)) A) args s 0 0 A) (F0 m 4 ls []) := by
    intro fu
    induction fu with
    | zero =>
      intro i z  H locs ls hi hz hmf
      exact absurd hmf (Nat.not_lt_zero _)
    | succ fu ih_4 =>
      intro i z  H locs ls hi hz hmf Hh hl
      refine lv_iload_n C.1 C.2.1 dX0_allFree_4 rfl (lv_at hl 2 rfl) ?_
      refine lv_aload_n C.1 C.2.1 dX0_allFree_5 rfl (lv_at hl 0 rfl) ?_
      refine gw_get (Cn := RX0) (T := TX0) (N := 5) C Hh 2 pw_at2 rfl uwX0 0 (by decide) rfl tw_123 rfl dX0_allFree_6 ?_
      refine gw_icmp_ge (tgt := 26) C dX0_allFree_9 (by decide) (by omega) (by omega) (fun hc_9 => ?_) (fun hc_9 => ?_)
      · skip
        refine lv_iload_n C.1 C.2.1 dX0_allFree_26 rfl (lv_at hl 1 rfl) ?_
        exact gw_iret (w := pw G q) (u := u) C Hh dX0_allFree_27 ⟨_, rfl, by refine ⟨?_, rfl⟩; rw [hz, show i = u.1 0 by omega]⟩
      · skip
        refine lv_iload_n C.1 C.2.1 dX0_allFree_12 rfl (lv_at hl 1 rfl) ?_
        refine lv_aload_n C.1 C.2.1 dX0_allFree_13 rfl (lv_at hl 0 rfl) ?_
        refine lv_iload_n C.1 C.2.1 dX0_allFree_14 rfl (lv_at hl 2 rfl) ?_
        refine gw_fromI (w := pw G q) (u := u) C Hh (gw_runV (n := 1) (C1 := RX0) [.int (nI (i))] C Hh (c_X0_free l G q (u) (i) (by first | assumption | omega) (by first | assumption | omega) _) tw_243 tw_245 tw_2 tw_68 tw_246 (by decide +kernel) ⟨Nat.le_of_ble_eq_true rfl, Nat.le_of_ble_eq_true rfl⟩ 2 pw_at2 rfl rfl hl.1 (Nat.le_of_ble_eq_true rfl) dX0_allFree_15 ⟨Nat.zero_le _, Nat.zero_le _⟩) (fun rc_15 uc_15 H locs hp_15 Hh => ?_)
        obtain ⟨kc_15, rfl, hp_15⟩ := hp_15
        obtain ⟨hk_15, hu_15⟩ := hp_15
        rw [hu_15] at Hh
        clear hu_15
        refine gw_iadd C dX0_allFree_18 ?_
        refine lv_istore_n (lv' := [(1, .int (nI (z + kc_15))), (0, .ref (q 2)), (2, .int (nI (i)))]) C.1 C.2.1 dX0_allFree_19 rfl hl (by decide) rfl (fun ls hl => ?_)
        refine lv_iinc (v := nI (i + 1)) (lv' := [(2, .int (nI (i + 1))), (1, .int (nI (z + kc_15))), (0, .ref (q 2))]) C.1 C.2.1 dX0_allFree_20 hl (k := 2) rfl (nI_add _ 1) (by decide) rfl (fun ls hl => ?_)
        refine lv_goto (tgt := 4) C.1 C.2.1 dX0_allFree_23 (by decide) ?_
        exact ih_4 (i + 1) (z + kc_15)  _ _ _ (by first | assumption | omega) (by rw [hz, hk_15]; rfl) (by omega) Hh (lv_sub hl [2, 1, 0] rfl)
  exact loop_4 _ (0) (0)  _ _ _ (by first | assumption | omega) (by rfl) (Nat.lt_succ_self _) Hh (lv_sub hl [2, 1, 0] rfl)
set_option maxHeartbeats 4000000 in
set_option maxRecDepth 100000 in
theorem c_X0_broughtBy (l : Launch) (G : gw_G) (q : Nat → Nat) (u : pf_S) (b : Nat) (hok : ar_ok u) : gw_MI l yX0_broughtBy cX0_broughtBy 4 (some .int) 1 21 [.ref (q 2), .int (nI (b))] G (pw G q) u (fun r u1 => ∃ k : Nat, r = nI k ∧ (k = fl_sum (fun a => if b.testBit a then u.2 12 a else 0) (u.1 0) ∧ u1 = u)) := by
  refine gw_entryI (own := RX0) (by decide) rfl (Nat.le_of_ble_eq_true rfl) ?_
  intro p e s m args below meth c A ls C Hh hl
  have hl : lv_has ls 4 [(0, .ref (q 2)), (1, .int (nI (b)))] := hl
  have h0 := hok.1
  refine lv_iconst (v := nI 0) C.1 C.2.1 dX0_broughtBy_0 (by decide +kernel) ?_
  refine lv_istore_n (lv' := [(2, .int (nI (0))), (0, .ref (q 2)), (1, .int (nI (b)))]) C.1 C.2.1 dX0_broughtBy_1 rfl hl (by decide) rfl (fun ls hl => ?_)
  refine lv_iconst (v := nI 0) C.1 C.2.1 dX0_broughtBy_2 (by decide +kernel) ?_
  refine lv_istore_n (lv' := [(3, .int (nI (0))), (2, .int (nI (0))), (0, .ref (q 2)), (1, .int (nI (b)))]) C.1 C.2.1 dX0_broughtBy_3 rfl hl (by decide) rfl (fun ls hl => ?_)
  have loop_4 : ∀ (fu : Nat) (i : Nat) (z : Nat) (H : Heap) (locs : List Loc) (ls : Array Slot), (i ≤ u.1 0) → (z = fl_sum (fun a => if b.testBit a then u.2 12 a else 0) i) → u.1 0 - i < fu → gw_H G A s (pw G q u) H locs → lv_has ls 4 [(0, .ref (q 2)), (1, .int (nI (b))), (2, .int (nI (z))), (3, .int (nI (i)))] → W p l e (gw_rm 1 21) s m args below meth c H locs 0 0 (MQ below (va_Qi (fun r u1 => ∃ k : Nat, r = nI k ∧ (k = fl_sum (fun a => if b.testBit a then u.2 12 a else 0) (u.1 0) ∧ u1 = u)) (gw_at G A (pw G q)) A) args s 0 0 A) (F0 m 4 ls []) := by
    intro fu
    induction fu with
    | zero =>
      intro i z  H locs ls hi hz hmf
      exact absurd hmf (Nat.not_lt_zero _)
    | succ fu ih_4 =>
      intro i z  H locs ls hi hz hmf Hh hl
      refine lv_iload_n C.1 C.2.1 dX0_broughtBy_4 rfl (lv_at hl 3 rfl) ?_
      refine lv_aload_n C.1 C.2.1 dX0_broughtBy_5 rfl (lv_at hl 0 rfl) ?_
      refine gw_get (Cn := RX0) (T := TX0) (N := 5) C Hh 2 pw_at2 rfl uwX0 0 (by decide) rfl tw_123 rfl dX0_broughtBy_6 ?_
      refine gw_icmp_ge (tgt := 35) C dX0_broughtBy_9 (by decide) (by omega) (by omega) (fun hc_9 => ?_) (fun hc_9 => ?_)
      · skip
        refine lv_iload_n C.1 C.2.1 dX0_broughtBy_35 rfl (lv_at hl 2 rfl) ?_
        exact gw_iret (w := pw G q) (u := u) C Hh dX0_broughtBy_36 ⟨_, rfl, by refine ⟨?_, rfl⟩; rw [hz, show i = u.1 0 by omega]⟩
      · skip
        refine lv_iload_n C.1 C.2.1 dX0_broughtBy_12 rfl (lv_at hl 1 rfl) ?_
        refine lv_iload_n C.1 C.2.1 dX0_broughtBy_13 rfl (lv_at hl 3 rfl) ?_
        refine gw_fromI (w := pw G q) (u := u) C Hh (gw_runSN (n := 2) [.int (nI (b)), .int (nI (i))] C Hh (c_X4_hasBit l G q (u) (b) (i) (by first | assumption | omega) _) tw_649 tw_450 tw_66 tw_451 (by decide +kernel) ⟨Nat.le_of_ble_eq_true rfl, Nat.le_of_ble_eq_true rfl⟩ rfl hl.1 (Nat.le_of_ble_eq_true rfl) dX0_broughtBy_14 ⟨Nat.zero_le _, Nat.zero_le _⟩) (fun rc_14 uc_14 H locs hp_14 Hh => ?_)
        obtain ⟨kc_14, rfl, hp_14⟩ := hp_14
        obtain ⟨hk_14, hu_14⟩ := hp_14
        rw [hu_14] at Hh
        clear hu_14
        have join_29 : ∀ (z2 : Nat) (H : Heap) (locs : List Loc) (ls : Array Slot), (z2 = fl_sum (fun a => if b.testBit a then u.2 12 a else 0) (i + 1)) → gw_H G A s (pw G q u) H locs → lv_has ls 4 [(0, .ref (q 2)), (1, .int (nI (b))), (2, .int (nI (z2))), (3, .int (nI (i)))] → W p l e (gw_rm 1 21) s m args below meth c H locs 0 0 (MQ below (va_Qi (fun r u1 => ∃ k : Nat, r = nI k ∧ (k = fl_sum (fun a => if b.testBit a then u.2 12 a else 0) (u.1 0) ∧ u1 = u)) (gw_at G A (pw G q)) A) args s 0 0 A) (F0 m 29 ls []) := by
          intro z2  H locs ls hz2 Hh hl
          refine lv_iinc (v := nI (i + 1)) (lv' := [(3, .int (nI (i + 1))), (0, .ref (q 2)), (1, .int (nI (b))), (2, .int (nI (z2)))]) C.1 C.2.1 dX0_broughtBy_29 hl (k := 3) rfl (nI_add _ 1) (by decide) rfl (fun ls hl => ?_)
          refine lv_goto (tgt := 4) C.1 C.2.1 dX0_broughtBy_32 (by decide) ?_
          exact ih_4 (i + 1) (z2)  _ _ _ (by first | assumption | omega) (by exact hz2) (by omega) Hh (lv_sub hl [1, 2, 3, 0] rfl)
        have hb := tbit_le b i
        refine gw_if_eq (tgt := 29) C dX0_broughtBy_17 (by decide) (by omega) (fun hc_17 => ?_) (fun hc_17 => ?_)
        · skip
          exact join_29 (z)  _ _ _ (by rw [hz]; show _ = _ + (if b.testBit i = true then u.2 12 i else 0); rw [if_neg (by unfold tbit at hk_14; split at hk_14 <;> first | omega | assumption)]; rfl) Hh (lv_sub hl [0, 1, 2, 3] rfl)
        · skip
          refine lv_iload_n C.1 C.2.1 dX0_broughtBy_20 rfl (lv_at hl 2 rfl) ?_
          refine lv_aload_n C.1 C.2.1 dX0_broughtBy_21 rfl (lv_at hl 0 rfl) ?_
          refine gw_get (Cn := RX0) (T := TX0) (N := 5) C Hh 2 pw_at2 rfl uwX0 3 (by decide) rfl tw_130 rfl dX0_broughtBy_22 ?_
          refine lv_iload_n C.1 C.2.1 dX0_broughtBy_25 rfl (lv_at hl 3 rfl) ?_
          refine gw_ld C Hh 12 pw_at12 (by decide) dX0_broughtBy_26 (by omega) ?_
          refine gw_iadd C dX0_broughtBy_27 ?_
          refine lv_istore_n (lv' := [(2, .int (nI (z + (u.2 12 (i))))), (0, .ref (q 2)), (1, .int (nI (b))), (3, .int (nI (i)))]) C.1 C.2.1 dX0_broughtBy_28 rfl hl (by decide) rfl (fun ls hl => ?_)
          exact join_29 (z + u.2 12 i)  _ _ _ (by rw [hz]; show _ = _ + (if b.testBit i = true then u.2 12 i else 0); rw [if_pos (by unfold tbit at hk_14; split at hk_14 <;> first | omega | assumption)]) Hh (lv_sub hl [1, 2, 0, 3] rfl)
  exact loop_4 _ (0) (0)  _ _ _ (by first | assumption | omega) (by rfl) (Nat.lt_succ_self _) Hh (lv_sub hl [2, 3, 1, 0] rfl)
set_option maxHeartbeats 4000000 in
set_option maxRecDepth 100000 in
theorem c_X0_sortByTime (l : Launch) (G : gw_G) (q : Nat → Nat) (u : pf_S)  (hok : ar_ok u) : gw_MV l yX0_sortByTime cX0_sortByTime 4 none 0 0 [.ref (q 2), .ref (q 20)] G (pw G q) u (fun u1 => st_but 20 u u1 ∧ kx_row (u.2 10) (u.1 0) (u1.2 20)) := by
  refine gw_entryV (own := RX0) (by decide) rfl (Nat.le_of_ble_eq_true rfl) ?_
  intro p e s m args below meth c A ls C Hh hl
  have hl : lv_has ls 4 [(0, .ref (q 2)), (1, .ref (q 20))] := hl
  refine lv_iconst (v := nI 0) C.1 C.2.1 dX0_sortByTime_0 (by decide +kernel) ?_
  refine lv_istore_n (lv' := [(2, .int (nI (0))), (0, .ref (q 2)), (1, .ref (q 20))]) C.1 C.2.1 dX0_sortByTime_1 rfl hl (by decide) rfl (fun ls hl => ?_)
  have loop_2 : ∀ (fu : Nat) (a : Nat) (uc : pf_S) (H : Heap) (locs : List Loc) (ls : Array Slot), (a ≤ u.1 0) → (st_but 20 u uc) → (kx_row (u.2 10) a (uc.2 20)) → u.1 0 - a < fu → gw_H G A s (pw G q uc) H locs → lv_has ls 4 [(0, .ref (q 2)), (1, .ref (q 20)), (2, .int (nI (a)))] → W p l e (gw_rm 0 0) s m args below meth c H locs 0 0 (MQ below (va_Qv (fun u1 => st_but 20 u u1 ∧ kx_row (u.2 10) (u.1 0) (u1.2 20)) (gw_at G A (pw G q)) A) args s 0 0 A) (F0 m 2 ls []) := by
    intro fu
    induction fu with
    | zero =>
      intro a uc H locs ls hi hfr hrow hmf
      exact absurd hmf (Nat.not_lt_zero _)
    | succ fu ih_2 =>
      intro a uc H locs ls hi hfr hrow hmf Hh hl
      have h0 := hok.1
      have hn0 : uc.1 0 = u.1 0 := by rw [hfr.1]
      refine lv_iload_n C.1 C.2.1 dX0_sortByTime_2 rfl (lv_at hl 2 rfl) ?_
      refine lv_aload_n C.1 C.2.1 dX0_sortByTime_3 rfl (lv_at hl 0 rfl) ?_
      refine gw_get (Cn := RX0) (T := TX0) (N := 5) C Hh 2 pw_at2 rfl uwX0 0 (by decide) rfl tw_123 rfl dX0_sortByTime_4 ?_
      refine gw_icmp_ge (tgt := 59) C dX0_sortByTime_7 (by decide) (by omega) (by omega) (fun hc_7 => ?_) (fun hc_7 => ?_)
      · skip
        exact gw_vret (w := pw G q) (u := uc) C Hh dX0_sortByTime_59 (by exact ⟨hfr, by rw [show u.1 0 = a by omega]; exact hrow⟩)
      · skip
        refine lv_iload_n C.1 C.2.1 dX0_sortByTime_10 rfl (lv_at hl 2 rfl) ?_
        refine lv_istore_n (lv' := [(3, .int (nI (a))), (0, .ref (q 2)), (1, .ref (q 20)), (2, .int (nI (a)))]) C.1 C.2.1 dX0_sortByTime_11 rfl hl (by decide) rfl (fun ls hl => ?_)
        have loop_12 : ∀ (fu : Nat) (t : Nat) (ud : pf_S) (H : Heap) (locs : List Loc) (ls : Array Slot), (t ≤ a) → (st_but 20 u ud) → (so_in (u.2 10) a t (ud.2 20)) → t < fu → gw_H G A s (pw G q ud) H locs → lv_has ls 4 [(0, .ref (q 2)), (1, .ref (q 20)), (2, .int (nI (a))), (3, .int (nI (t)))] → W p l e (gw_rm 0 0) s m args below meth c H locs 0 0 (MQ below (va_Qv (fun u1 => st_but 20 u u1 ∧ kx_row (u.2 10) (u.1 0) (u1.2 20)) (gw_at G A (pw G q)) A) args s 0 0 A) (F0 m 12 ls []) := by
          intro fu
          induction fu with
          | zero =>
            intro t ud H locs ls ht hfr2 hso hmf
            exact absurd hmf (Nat.not_lt_zero _)
          | succ fu ih_12 =>
            intro t ud H locs ls ht hfr2 hso hmf Hh hl
            have h10 : ud.2 10 = u.2 10 := hfr2.2 10 (by decide)
            have hta := hok.2.1 a (by omega)
            refine lv_iload_n C.1 C.2.1 dX0_sortByTime_12 rfl (lv_at hl 3 rfl) ?_
            refine gw_if_le (tgt := 49) C dX0_sortByTime_13 (by decide) (by omega) (fun hc_13 => ?_) (fun hc_13 => ?_)
            · skip
              refine lv_aload_n C.1 C.2.1 dX0_sortByTime_49 rfl (lv_at hl 1 rfl) ?_
              refine lv_iload_n C.1 C.2.1 dX0_sortByTime_50 rfl (lv_at hl 3 rfl) ?_
              refine lv_iload_n C.1 C.2.1 dX0_sortByTime_51 rfl (lv_at hl 2 rfl) ?_
              refine gw_st C Hh 20 pw_at20 (by decide) pw_set20 dX0_sortByTime_52 (by omega) (fun H locs Hh => ?_)
              have Hh : gw_H G A s (pw G q (ud.1, up2 ud.2 20 (t) (a))) H locs := Hh
              refine lv_iinc (v := nI (a + 1)) (lv' := [(2, .int (nI (a + 1))), (0, .ref (q 2)), (1, .ref (q 20)), (3, .int (nI (t)))]) C.1 C.2.1 dX0_sortByTime_53 hl (k := 2) rfl (nI_add _ 1) (by decide) rfl (fun ls hl => ?_)
              refine lv_goto (tgt := 2) C.1 C.2.1 dX0_sortByTime_56 (by decide) ?_
              exact ih_2 (a + 1) ((ud.1, up2 ud.2 20 (t) (a))) _ _ _ (by first | assumption | omega) (by exact hfr2.up) (by show kx_row (u.2 10) (a + 1) (up2 ud.2 20 t a 20); rw [up2_at]; exact so_end hso (by omega) (by first | omega | (right; rw [h10] at hc_32; exact hc_32))) (by omega) Hh (lv_sub hl [1, 2, 0] rfl)
            · skip
              refine lv_aload_n C.1 C.2.1 dX0_sortByTime_16 rfl (lv_at hl 0 rfl) ?_
              refine gw_get (Cn := RX0) (T := TX0) (N := 5) C Hh 2 pw_at2 rfl uwX0 1 (by decide) rfl tw_126 rfl dX0_sortByTime_17 ?_
              refine lv_aload_n C.1 C.2.1 dX0_sortByTime_20 rfl (lv_at hl 1 rfl) ?_
              refine lv_iload_n C.1 C.2.1 dX0_sortByTime_21 rfl (lv_at hl 3 rfl) ?_
              refine lv_iconst (v := nI 1) C.1 C.2.1 dX0_sortByTime_22 (by decide +kernel) ?_
              refine gw_isub C dX0_sortByTime_23 (by omega) ?_
              have hb := hso.2.1 (t - 1) (by omega) (by omega)
              refine gw_ld C Hh 20 pw_at20 (by decide) dX0_sortByTime_24 (by omega) ?_
              refine gw_ld C Hh 10 pw_at10 (by decide) dX0_sortByTime_25 (by omega) ?_
              refine lv_aload_n C.1 C.2.1 dX0_sortByTime_26 rfl (lv_at hl 0 rfl) ?_
              refine gw_get (Cn := RX0) (T := TX0) (N := 5) C Hh 2 pw_at2 rfl uwX0 1 (by decide) rfl tw_126 rfl dX0_sortByTime_27 ?_
              refine lv_iload_n C.1 C.2.1 dX0_sortByTime_30 rfl (lv_at hl 2 rfl) ?_
              refine gw_ld C Hh 10 pw_at10 (by decide) dX0_sortByTime_31 (by omega) ?_
              have htb := hok.2.1 (ud.2 20 (t - 1)) (by omega)
              refine gw_icmp_le (tgt := 49) C dX0_sortByTime_32 (by decide) (by rw [h10]; omega) (by rw [h10]; omega) (fun hc_32 => ?_) (fun hc_32 => ?_)
              · skip
                refine lv_aload_n C.1 C.2.1 dX0_sortByTime_49 rfl (lv_at hl 1 rfl) ?_
                refine lv_iload_n C.1 C.2.1 dX0_sortByTime_50 rfl (lv_at hl 3 rfl) ?_
                refine lv_iload_n C.1 C.2.1 dX0_sortByTime_51 rfl (lv_at hl 2 rfl) ?_
                refine gw_st C Hh 20 pw_at20 (by decide) pw_set20 dX0_sortByTime_52 (by omega) (fun H locs Hh => ?_)
                have Hh : gw_H G A s (pw G q (ud.1, up2 ud.2 20 (t) (a))) H locs := Hh
                refine lv_iinc (v := nI (a + 1)) (lv' := [(2, .int (nI (a + 1))), (0, .ref (q 2)), (1, .ref (q 20)), (3, .int (nI (t)))]) C.1 C.2.1 dX0_sortByTime_53 hl (k := 2) rfl (nI_add _ 1) (by decide) rfl (fun ls hl => ?_)
                refine lv_goto (tgt := 2) C.1 C.2.1 dX0_sortByTime_56 (by decide) ?_
                exact ih_2 (a + 1) ((ud.1, up2 ud.2 20 (t) (a))) _ _ _ (by first | assumption | omega) (by exact hfr2.up) (by show kx_row (u.2 10) (a + 1) (up2 ud.2 20 t a 20); rw [up2_at]; exact so_end hso (by omega) (by first | omega | (right; rw [h10] at hc_32; exact hc_32))) (by omega) Hh (lv_sub hl [1, 2, 0] rfl)
              · skip
                refine lv_aload_n C.1 C.2.1 dX0_sortByTime_35 rfl (lv_at hl 1 rfl) ?_
                refine lv_iload_n C.1 C.2.1 dX0_sortByTime_36 rfl (lv_at hl 3 rfl) ?_
                refine lv_aload_n C.1 C.2.1 dX0_sortByTime_37 rfl (lv_at hl 1 rfl) ?_
                refine lv_iload_n C.1 C.2.1 dX0_sortByTime_38 rfl (lv_at hl 3 rfl) ?_
                refine lv_iconst (v := nI 1) C.1 C.2.1 dX0_sortByTime_39 (by decide +kernel) ?_
                refine gw_isub C dX0_sortByTime_40 (by omega) ?_
                refine gw_ld C Hh 20 pw_at20 (by decide) dX0_sortByTime_41 (by omega) ?_
                refine gw_st C Hh 20 pw_at20 (by decide) pw_set20 dX0_sortByTime_42 (by omega) (fun H locs Hh => ?_)
                have Hh : gw_H G A s (pw G q (ud.1, up2 ud.2 20 (t) (ud.2 20 (t - 1)))) H locs := Hh
                refine lv_iinc (v := nI (t - 1)) (lv' := [(3, .int (nI (t - 1))), (0, .ref (q 2)), (1, .ref (q 20)), (2, .int (nI (a)))]) C.1 C.2.1 dX0_sortByTime_43 hl (k := 3) rfl (sb_m1 (by omega)) (by decide) rfl (fun ls hl => ?_)
                refine lv_goto (tgt := 12) C.1 C.2.1 dX0_sortByTime_46 (by decide) ?_
                exact ih_12 (t - 1) ((ud.1, up2 ud.2 20 (t) (ud.2 20 (t - 1)))) _ _ _ (by first | assumption | omega) (by exact hfr2.up) (by show so_in (u.2 10) a (t - 1) (up2 ud.2 20 t (ud.2 20 (t - 1)) 20); rw [up2_at]; exact so_step hso (by omega) ht (by rw [h10] at hc_32; omega)) (by omega) Hh (lv_sub hl [1, 2, 3, 0] rfl)
        exact loop_12 _ (a) (uc) _ _ _ (by first | assumption | omega) (by exact hfr) (by exact so_start hrow) (Nat.lt_succ_self _) Hh (lv_sub hl [1, 2, 3, 0] rfl)
  exact loop_2 _ (0) (u) _ _ _ (by first | assumption | omega) (by exact st_but.rf) (by exact ⟨fun i h => by omega, fun i j _ h => by omega⟩) (Nat.lt_succ_self _) Hh (lv_sub hl [1, 2, 0] rfl)
