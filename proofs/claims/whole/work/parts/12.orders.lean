def od_ok (u : pf_S) : Prop := u.1 1 ≤ 10 ∧ (∀ a, a < 10 → u.2 14 a < 100) ∧ (∀ a, a < 10 → u.2 15 a < 6) ∧ (∀ a, a < 10 → u.2 16 a ≤ 10000) ∧ (∀ a, a < 10 → u.2 17 a ≤ 9) ∧ (∀ a, a < 10 → u.2 18 a ≤ 2) ∧ kx_row (u.2 17) (u.1 1) (u.2 19)
theorem fl_sum_succ (f : Nat → Nat) (n : Nat) : fl_sum f (n + 1) = fl_sum f n + f n := rfl
theorem fl_sum_cnt {f : Nat → Nat} (h : ∀ k, f k ≤ 1) : ∀ n, fl_sum f n ≤ n
  | 0 => Nat.le_refl _
  | n + 1 => by
    have := fl_sum_cnt h n
    have := h n
    rw [fl_sum_succ]
    omega
theorem so_put {u v : pf_S} {k t a : Nat} (h : st_but k u v) : up2 v.2 k t a = upA u.2 k (fun j => if j = t then a else v.2 k j) := by
  funext x y
  by_cases hx : x = k
  · simp [up2, upA, hx]
  · simp [up2, upA, hx, h.2 x hx]
set_option maxHeartbeats 4000000 in
set_option maxRecDepth 100000 in
theorem c_X2_write (l : Launch) (G : gw_G) (q : Nat → Nat) (u : pf_S) (d : Nat) (g : Nat) (n : Nat) (rk : Nat) (hn : u.1 1 < 10) : gw_MI l yX2_write cX2_write 5 (some .int) 0 0 [.ref (q 3), .int (nI (d)), .int (nI (g)), .int (nI (n)), .int (nI (rk))] G (pw G q) u (fun r u1 => ∃ k : Nat, r = nI k ∧ (k = u.1 1 ∧ u1 = (u.1, up2 (up2 (up2 (up2 u.2 14 (u.1 1) d) 15 (u.1 1) g) 16 (u.1 1) n) 17 (u.1 1) rk))) := by
  refine gw_entryI (own := RX2) (by decide) rfl (Nat.le_of_ble_eq_true rfl) ?_
  intro p e s m args below meth c A ls C Hh hl
  have hl : lv_has ls 5 [(0, .ref (q 3)), (1, .int (nI (d))), (2, .int (nI (g))), (3, .int (nI (n))), (4, .int (nI (rk)))] := hl
  refine lv_aload_n C.1 C.2.1 dX2_write_0 rfl (lv_at hl 0 rfl) ?_
  refine gw_get (Cn := RX2) (T := TX2) (N := 7) C Hh 3 pw_at3 rfl uwX2 1 (by decide) rfl tw_153 rfl dX2_write_1 ?_
  refine lv_aload_n C.1 C.2.1 dX2_write_4 rfl (lv_at hl 0 rfl) ?_
  refine gw_get (Cn := RX2) (T := TX2) (N := 7) C Hh 3 pw_at3 rfl uwX2 0 (by decide) rfl tw_151 rfl dX2_write_5 ?_
  refine lv_iload_n C.1 C.2.1 dX2_write_8 rfl (lv_at hl 1 rfl) ?_
  refine gw_st C Hh 14 pw_at14 (by decide) pw_set14 dX2_write_9 (by omega) (fun H locs Hh => ?_)
  have Hh : gw_H G A s (pw G q (u.1, up2 u.2 14 (u.1 1) (d))) H locs := Hh
  refine lv_aload_n C.1 C.2.1 dX2_write_10 rfl (lv_at hl 0 rfl) ?_
  refine gw_get (Cn := RX2) (T := TX2) (N := 7) C Hh 3 pw_at3 rfl uwX2 2 (by decide) rfl tw_155 rfl dX2_write_11 ?_
  refine lv_aload_n C.1 C.2.1 dX2_write_14 rfl (lv_at hl 0 rfl) ?_
  refine gw_get (Cn := RX2) (T := TX2) (N := 7) C Hh 3 pw_at3 rfl uwX2 0 (by decide) rfl tw_151 rfl dX2_write_15 ?_
  refine W.eq (g2 := F0 m 18 ls [.int (nI (u.1 1)), .ref (q 15)]) rfl ?_
  refine lv_iload_n C.1 C.2.1 dX2_write_18 rfl (lv_at hl 2 rfl) ?_
  refine gw_st C Hh 15 pw_at15 (by decide) pw_set15 dX2_write_19 (by omega) (fun H locs Hh => ?_)
  have Hh : gw_H G A s (pw G q (u.1, up2 (up2 u.2 14 (u.1 1) (d)) 15 (u.1 1) (g))) H locs := Hh
  refine lv_aload_n C.1 C.2.1 dX2_write_20 rfl (lv_at hl 0 rfl) ?_
  refine gw_get (Cn := RX2) (T := TX2) (N := 7) C Hh 3 pw_at3 rfl uwX2 3 (by decide) rfl tw_157 rfl dX2_write_21 ?_
  refine lv_aload_n C.1 C.2.1 dX2_write_24 rfl (lv_at hl 0 rfl) ?_
  refine gw_get (Cn := RX2) (T := TX2) (N := 7) C Hh 3 pw_at3 rfl uwX2 0 (by decide) rfl tw_151 rfl dX2_write_25 ?_
  refine W.eq (g2 := F0 m 28 ls [.int (nI (u.1 1)), .ref (q 16)]) rfl ?_
  refine lv_iload_n C.1 C.2.1 dX2_write_28 rfl (lv_at hl 3 rfl) ?_
  refine gw_st C Hh 16 pw_at16 (by decide) pw_set16 dX2_write_29 (by omega) (fun H locs Hh => ?_)
  have Hh : gw_H G A s (pw G q (u.1, up2 (up2 (up2 u.2 14 (u.1 1) (d)) 15 (u.1 1) (g)) 16 (u.1 1) (n))) H locs := Hh
  refine lv_aload_n C.1 C.2.1 dX2_write_30 rfl (lv_at hl 0 rfl) ?_
  refine gw_get (Cn := RX2) (T := TX2) (N := 7) C Hh 3 pw_at3 rfl uwX2 4 (by decide) rfl tw_159 rfl dX2_write_31 ?_
  refine lv_aload_n C.1 C.2.1 dX2_write_34 rfl (lv_at hl 0 rfl) ?_
  refine gw_get (Cn := RX2) (T := TX2) (N := 7) C Hh 3 pw_at3 rfl uwX2 0 (by decide) rfl tw_151 rfl dX2_write_35 ?_
  refine W.eq (g2 := F0 m 38 ls [.int (nI (u.1 1)), .ref (q 17)]) rfl ?_
  refine lv_iload C.1 C.2.1 dX2_write_38 (lv_at hl 4 rfl) ?_
  refine gw_st C Hh 17 pw_at17 (by decide) pw_set17 dX2_write_40 (by omega) (fun H locs Hh => ?_)
  have Hh : gw_H G A s (pw G q (u.1, up2 (up2 (up2 (up2 u.2 14 (u.1 1) (d)) 15 (u.1 1) (g)) 16 (u.1 1) (n)) 17 (u.1 1) (rk))) H locs := Hh
  refine lv_aload_n C.1 C.2.1 dX2_write_41 rfl (lv_at hl 0 rfl) ?_
  refine gw_get (Cn := RX2) (T := TX2) (N := 7) C Hh 3 pw_at3 rfl uwX2 0 (by decide) rfl tw_151 rfl dX2_write_42 ?_
  refine W.eq (g2 := F0 m 45 ls [.int (nI (u.1 1))]) rfl ?_
  exact gw_iret (w := pw G q) (u := (u.1, up2 (up2 (up2 (up2 u.2 14 (u.1 1) (d)) 15 (u.1 1) (g)) 16 (u.1 1) (n)) 17 (u.1 1) (rk))) C Hh dX2_write_45 ⟨_, rfl, by refine ⟨?_, rfl⟩; first | rfl | omega | (split <;> omega)⟩
set_option maxHeartbeats 4000000 in
set_option maxRecDepth 100000 in
theorem c_X2_has (l : Launch) (G : gw_G) (q : Nat → Nat) (u : pf_S) (g : Nat) (hok : od_ok u) (hg : g < 6) : gw_MI l yX2_has cX2_has 3 (some .boolean) 0 0 [.ref (q 3), .int (nI (g))] G (pw G q) u (fun r u1 => ∃ k : Nat, r = nI k ∧ (((k = 1 ∧ ∃ a, a < u.1 1 ∧ u.2 15 a = g) ∨ (k = 0 ∧ ∀ a, a < u.1 1 → u.2 15 a ≠ g)) ∧ u1 = u)) := by
  refine gw_entryI (own := RX2) (by decide) rfl (Nat.le_of_ble_eq_true rfl) ?_
  intro p e s m args below meth c A ls C Hh hl
  have hl : lv_has ls 3 [(0, .ref (q 3)), (1, .int (nI (g)))] := hl
  have h0 := hok.1
  refine lv_iconst (v := nI 0) C.1 C.2.1 dX2_has_0 (by decide +kernel) ?_
  refine lv_istore_n (lv' := [(2, .int (nI (0))), (0, .ref (q 3)), (1, .int (nI (g)))]) C.1 C.2.1 dX2_has_1 rfl hl (by decide) rfl (fun ls hl => ?_)
  have loop_2 : ∀ (fu : Nat) (i : Nat) (H : Heap) (locs : List Loc) (ls : Array Slot), (i ≤ u.1 1) → (∀ j, j < i → u.2 15 j ≠ g) → u.1 1 - i < fu → gw_H G A s (pw G q u) H locs → lv_has ls 3 [(0, .ref (q 3)), (1, .int (nI (g))), (2, .int (nI (i)))] → W p l e (gw_rm 0 0) s m args below meth c H locs 0 0 (MQ below (va_Qi (fun r u1 => ∃ k : Nat, r = nI k ∧ (((k = 1 ∧ ∃ a, a < u.1 1 ∧ u.2 15 a = g) ∨ (k = 0 ∧ ∀ a, a < u.1 1 → u.2 15 a ≠ g)) ∧ u1 = u)) (gw_at G A (pw G q)) A) args s 0 0 A) (F0 m 2 ls []) := by
    intro fu
    induction fu with
    | zero =>
      intro i  H locs ls hi hno hmf
      exact absurd hmf (Nat.not_lt_zero _)
    | succ fu ih_2 =>
      intro i  H locs ls hi hno hmf Hh hl
      refine lv_iload_n C.1 C.2.1 dX2_has_2 rfl (lv_at hl 2 rfl) ?_
      refine lv_aload_n C.1 C.2.1 dX2_has_3 rfl (lv_at hl 0 rfl) ?_
      refine gw_get (Cn := RX2) (T := TX2) (N := 7) C Hh 3 pw_at3 rfl uwX2 0 (by decide) rfl tw_151 rfl dX2_has_4 ?_
      refine gw_icmp_ge (tgt := 28) C dX2_has_7 (by decide) (by omega) (by omega) (fun hc_7 => ?_) (fun hc_7 => ?_)
      · skip
        refine lv_iconst (v := nI 0) C.1 C.2.1 dX2_has_28 (by decide +kernel) ?_
        exact gw_zret (w := pw G q) (u := u) C Hh dX2_has_29 (by omega) ⟨_, rfl, by exact ⟨Or.inr ⟨rfl, fun j h => hno j (by omega)⟩, rfl⟩⟩
      · skip
        refine lv_aload_n C.1 C.2.1 dX2_has_10 rfl (lv_at hl 0 rfl) ?_
        refine gw_get (Cn := RX2) (T := TX2) (N := 7) C Hh 3 pw_at3 rfl uwX2 2 (by decide) rfl tw_155 rfl dX2_has_11 ?_
        refine lv_iload_n C.1 C.2.1 dX2_has_14 rfl (lv_at hl 2 rfl) ?_
        refine gw_ld C Hh 15 pw_at15 (by decide) dX2_has_15 (by omega) ?_
        have h8 := hok.2.2.1 i (by omega)
        refine lv_iload_n C.1 C.2.1 dX2_has_16 rfl (lv_at hl 1 rfl) ?_
        refine gw_icmp_ne (tgt := 22) C dX2_has_17 (by decide) (by omega) (by omega) (fun hc_17 => ?_) (fun hc_17 => ?_)
        · skip
          refine lv_iinc (v := nI (i + 1)) (lv' := [(2, .int (nI (i + 1))), (0, .ref (q 3)), (1, .int (nI (g)))]) C.1 C.2.1 dX2_has_22 hl (k := 2) rfl (nI_add _ 1) (by decide) rfl (fun ls hl => ?_)
          refine lv_goto (tgt := 2) C.1 C.2.1 dX2_has_25 (by decide) ?_
          exact ih_2 (i + 1)  _ _ _ (by first | assumption | omega) (by intro o h; by_cases h1 : o = i; (subst h1; omega); exact hno o (by omega)) (by omega) Hh (lv_sub hl [1, 2, 0] rfl)
        · skip
          refine lv_iconst (v := nI 1) C.1 C.2.1 dX2_has_20 (by decide +kernel) ?_
          exact gw_zret (w := pw G q) (u := u) C Hh dX2_has_21 (by omega) ⟨_, rfl, by exact ⟨Or.inl ⟨rfl, i, by omega, by omega⟩, rfl⟩⟩
  exact loop_2 _ (0)  _ _ _ (by first | assumption | omega) (by intro o h; omega) (Nat.lt_succ_self _) Hh (lv_sub hl [1, 2, 0] rfl)
set_option maxHeartbeats 4000000 in
set_option maxRecDepth 100000 in
theorem c_X2_numberIn (l : Launch) (G : gw_G) (q : Nat → Nat) (u : pf_S) (x : Nat) (hok : od_ok u) (hx : x ≤ 2) : gw_MI l yX2_numberIn cX2_numberIn 4 (some .int) 0 0 [.ref (q 3), .int (nI (x))] G (pw G q) u (fun r u1 => ∃ k : Nat, r = nI k ∧ (k = fl_sum (fun a => if u.2 18 a = x then 1 else 0) (u.1 1) ∧ u1 = u)) := by
  refine gw_entryI (own := RX2) (by decide) rfl (Nat.le_of_ble_eq_true rfl) ?_
  intro p e s m args below meth c A ls C Hh hl
  have hl : lv_has ls 4 [(0, .ref (q 3)), (1, .int (nI (x)))] := hl
  have h0 := hok.1
  refine lv_iconst (v := nI 0) C.1 C.2.1 dX2_numberIn_0 (by decide +kernel) ?_
  refine lv_istore_n (lv' := [(2, .int (nI (0))), (0, .ref (q 3)), (1, .int (nI (x)))]) C.1 C.2.1 dX2_numberIn_1 rfl hl (by decide) rfl (fun ls hl => ?_)
  refine lv_iconst (v := nI 0) C.1 C.2.1 dX2_numberIn_2 (by decide +kernel) ?_
  refine lv_istore_n (lv' := [(3, .int (nI (0))), (2, .int (nI (0))), (0, .ref (q 3)), (1, .int (nI (x)))]) C.1 C.2.1 dX2_numberIn_3 rfl hl (by decide) rfl (fun ls hl => ?_)
  have loop_4 : ∀ (fu : Nat) (i : Nat) (z : Nat) (H : Heap) (locs : List Loc) (ls : Array Slot), (i ≤ u.1 1) → (z = fl_sum (fun a => if u.2 18 a = x then 1 else 0) i) → u.1 1 - i < fu → gw_H G A s (pw G q u) H locs → lv_has ls 4 [(0, .ref (q 3)), (1, .int (nI (x))), (2, .int (nI (z))), (3, .int (nI (i)))] → W p l e (gw_rm 0 0) s m args below meth c H locs 0 0 (MQ below (va_Qi (fun r u1 => ∃ k : Nat, r = nI k ∧ (k = fl_sum (fun a => if u.2 18 a = x then 1 else 0) (u.1 1) ∧ u1 = u)) (gw_at G A (pw G q)) A) args s 0 0 A) (F0 m 4 ls []) := by
    intro fu
    induction fu with
    | zero =>
      intro i z  H locs ls hi hz hmf
      exact absurd hmf (Nat.not_lt_zero _)
    | succ fu ih_4 =>
      intro i z  H locs ls hi hz hmf Hh hl
      refine lv_iload_n C.1 C.2.1 dX2_numberIn_4 rfl (lv_at hl 3 rfl) ?_
      refine lv_aload_n C.1 C.2.1 dX2_numberIn_5 rfl (lv_at hl 0 rfl) ?_
      refine gw_get (Cn := RX2) (T := TX2) (N := 7) C Hh 3 pw_at3 rfl uwX2 0 (by decide) rfl tw_151 rfl dX2_numberIn_6 ?_
      refine gw_icmp_ge (tgt := 31) C dX2_numberIn_9 (by decide) (by omega) (by omega) (fun hc_9 => ?_) (fun hc_9 => ?_)
      · skip
        refine lv_iload_n C.1 C.2.1 dX2_numberIn_31 rfl (lv_at hl 2 rfl) ?_
        exact gw_iret (w := pw G q) (u := u) C Hh dX2_numberIn_32 ⟨_, rfl, by refine ⟨?_, rfl⟩; rw [hz, show i = u.1 1 by omega]⟩
      · skip
        refine lv_aload_n C.1 C.2.1 dX2_numberIn_12 rfl (lv_at hl 0 rfl) ?_
        refine gw_get (Cn := RX2) (T := TX2) (N := 7) C Hh 3 pw_at3 rfl uwX2 5 (by decide) rfl tw_160 rfl dX2_numberIn_13 ?_
        refine lv_iload_n C.1 C.2.1 dX2_numberIn_16 rfl (lv_at hl 3 rfl) ?_
        refine gw_ld C Hh 18 pw_at18 (by decide) dX2_numberIn_17 (by omega) ?_
        have h8 := hok.2.2.2.2.2.1 i (by omega)
        refine lv_iload_n C.1 C.2.1 dX2_numberIn_18 rfl (lv_at hl 1 rfl) ?_
        have join_25 : ∀ (z2 : Nat) (H : Heap) (locs : List Loc) (ls : Array Slot), (z2 = fl_sum (fun a => if u.2 18 a = x then 1 else 0) (i + 1)) → gw_H G A s (pw G q u) H locs → lv_has ls 4 [(0, .ref (q 3)), (1, .int (nI (x))), (2, .int (nI (z2))), (3, .int (nI (i)))] → W p l e (gw_rm 0 0) s m args below meth c H locs 0 0 (MQ below (va_Qi (fun r u1 => ∃ k : Nat, r = nI k ∧ (k = fl_sum (fun a => if u.2 18 a = x then 1 else 0) (u.1 1) ∧ u1 = u)) (gw_at G A (pw G q)) A) args s 0 0 A) (F0 m 25 ls []) := by
          intro z2  H locs ls hz2 Hh hl
          refine lv_iinc (v := nI (i + 1)) (lv' := [(3, .int (nI (i + 1))), (0, .ref (q 3)), (1, .int (nI (x))), (2, .int (nI (z2)))]) C.1 C.2.1 dX2_numberIn_25 hl (k := 3) rfl (nI_add _ 1) (by decide) rfl (fun ls hl => ?_)
          refine lv_goto (tgt := 4) C.1 C.2.1 dX2_numberIn_28 (by decide) ?_
          exact ih_4 (i + 1) (z2)  _ _ _ (by first | assumption | omega) (by exact hz2) (by omega) Hh (lv_sub hl [1, 2, 3, 0] rfl)
        refine gw_icmp_ne (tgt := 25) C dX2_numberIn_19 (by decide) (by omega) (by omega) (fun hc_19 => ?_) (fun hc_19 => ?_)
        · skip
          exact join_25 (z)  _ _ _ (by rw [hz, fl_sum_succ]; rw [if_neg hc_19]; rfl) Hh (lv_sub hl [0, 1, 2, 3] rfl)
        · skip
          refine lv_iinc (v := nI (z + 1)) (lv' := [(2, .int (nI (z + 1))), (0, .ref (q 3)), (1, .int (nI (x))), (3, .int (nI (i)))]) C.1 C.2.1 dX2_numberIn_22 hl (k := 2) rfl (nI_add _ 1) (by decide) rfl (fun ls hl => ?_)
          exact join_25 (z + 1)  _ _ _ (by rw [hz, fl_sum_succ]; rw [if_pos hc_19]) Hh (lv_sub hl [1, 2, 0, 3] rfl)
  exact loop_4 _ (0) (0)  _ _ _ (by first | assumption | omega) (by rfl) (Nat.lt_succ_self _) Hh (lv_sub hl [2, 3, 1, 0] rfl)
set_option maxHeartbeats 4000000 in
set_option maxRecDepth 100000 in
theorem c_X2_admit (l : Launch) (G : gw_G) (q : Nat → Nat) (u : pf_S)  (h0 : u.1 1 < 10) (hrk : ∀ a, a < 10 → u.2 17 a ≤ 9) (hrow : kx_row (u.2 17) (u.1 1) (u.2 19)) : gw_MV l yX2_admit cX2_admit 2 none 0 0 [.ref (q 3)] G (pw G q) u (fun u1 => ∃ b, kx_row (u.2 17) (u.1 1 + 1) b ∧ u1 = (up1 u.1 1 (u.1 1 + 1), up2 (upA u.2 19 b) 18 (u.1 1) 0)) := by
  refine gw_entryV (own := RX2) (by decide) rfl (Nat.le_of_ble_eq_true rfl) ?_
  intro p e s m args below meth c A ls C Hh hl
  have hl : lv_has ls 2 [(0, .ref (q 3))] := hl
  refine lv_aload_n C.1 C.2.1 dX2_admit_0 rfl (lv_at hl 0 rfl) ?_
  refine gw_get (Cn := RX2) (T := TX2) (N := 7) C Hh 3 pw_at3 rfl uwX2 0 (by decide) rfl tw_151 rfl dX2_admit_1 ?_
  refine lv_istore_n (lv' := [(1, .int (nI (u.1 1))), (0, .ref (q 3))]) C.1 C.2.1 dX2_admit_4 rfl hl (by decide) rfl (fun ls hl => ?_)
  have loop_5 : ∀ (fu : Nat) (t : Nat) (ud : pf_S) (H : Heap) (locs : List Loc) (ls : Array Slot), (t ≤ u.1 1) → (st_but 19 u ud) → (so_in (u.2 17) (u.1 1) t (ud.2 19)) → t < fu → gw_H G A s (pw G q ud) H locs → lv_has ls 2 [(0, .ref (q 3)), (1, .int (nI (t)))] → W p l e (gw_rm 0 0) s m args below meth c H locs 0 0 (MQ below (va_Qv (fun u1 => ∃ b, kx_row (u.2 17) (u.1 1 + 1) b ∧ u1 = (up1 u.1 1 (u.1 1 + 1), up2 (upA u.2 19 b) 18 (u.1 1) 0)) (gw_at G A (pw G q)) A) args s 0 0 A) (F0 m 5 ls []) := by
    intro fu
    induction fu with
    | zero =>
      intro t ud H locs ls ht hfr2 hso hmf
      exact absurd hmf (Nat.not_lt_zero _)
    | succ fu ih_5 =>
      intro t ud H locs ls ht hfr2 hso hmf Hh hl
      have h10 : ud.2 17 = u.2 17 := hfr2.2 17 (by decide)
      have hn1 : ud.1 1 = u.1 1 := by rw [hfr2.1]
      have hta := hrk (u.1 1) (by omega)
      refine lv_iload_n C.1 C.2.1 dX2_admit_5 rfl (lv_at hl 1 rfl) ?_
      refine gw_if_le (tgt := 54) C dX2_admit_6 (by decide) (by omega) (fun hc_6 => ?_) (fun hc_6 => ?_)
      · skip
        refine lv_aload_n C.1 C.2.1 dX2_admit_54 rfl (lv_at hl 0 rfl) ?_
        refine gw_get (Cn := RX2) (T := TX2) (N := 7) C Hh 3 pw_at3 rfl uwX2 6 (by decide) rfl tw_162 rfl dX2_admit_55 ?_
        refine lv_iload_n C.1 C.2.1 dX2_admit_58 rfl (lv_at hl 1 rfl) ?_
        refine lv_aload_n C.1 C.2.1 dX2_admit_59 rfl (lv_at hl 0 rfl) ?_
        refine gw_get (Cn := RX2) (T := TX2) (N := 7) C Hh 3 pw_at3 rfl uwX2 0 (by decide) rfl tw_151 rfl dX2_admit_60 ?_
        refine gw_st C Hh 19 pw_at19 (by decide) pw_set19 dX2_admit_63 (by omega) (fun H locs Hh => ?_)
        have Hh : gw_H G A s (pw G q (ud.1, up2 ud.2 19 (t) (ud.1 1))) H locs := Hh
        refine lv_aload_n C.1 C.2.1 dX2_admit_64 rfl (lv_at hl 0 rfl) ?_
        refine gw_get (Cn := RX2) (T := TX2) (N := 7) C Hh 3 pw_at3 rfl uwX2 5 (by decide) rfl tw_160 rfl dX2_admit_65 ?_
        refine lv_aload_n C.1 C.2.1 dX2_admit_68 rfl (lv_at hl 0 rfl) ?_
        refine gw_get (Cn := RX2) (T := TX2) (N := 7) C Hh 3 pw_at3 rfl uwX2 0 (by decide) rfl tw_151 rfl dX2_admit_69 ?_
        refine W.eq (g2 := F0 m 72 ls [.int (nI (ud.1 1)), .ref (q 18)]) rfl ?_
        refine lv_iconst (v := nI 0) C.1 C.2.1 dX2_admit_72 (by decide +kernel) ?_
        refine gw_st C Hh 18 pw_at18 (by decide) pw_set18 dX2_admit_73 (by omega) (fun H locs Hh => ?_)
        have Hh : gw_H G A s (pw G q (ud.1, up2 (up2 ud.2 19 (t) (ud.1 1)) 18 (ud.1 1) (0))) H locs := Hh
        refine lv_aload_n C.1 C.2.1 dX2_admit_74 rfl (lv_at hl 0 rfl) ?_
        refine lv_dup C.1 C.2.1 dX2_admit_75 rfl ?_
        refine gw_get (Cn := RX2) (T := TX2) (N := 7) C Hh 3 pw_at3 rfl uwX2 0 (by decide) rfl tw_151 rfl dX2_admit_76 ?_
        refine W.eq (g2 := F0 m 79 ls [.int (nI (ud.1 1)), .ref (q 3)]) rfl ?_
        refine lv_iconst (v := nI 1) C.1 C.2.1 dX2_admit_79 (by decide +kernel) ?_
        refine gw_iadd C dX2_admit_80 ?_
        refine gw_put (Cn := RX2) (T := TX2) (N := 7) (ty0 := tyX2) (v := nI ((ud.1 1) + 1)) C Hh 3 pw_at3 rfl uwX2 tyX2_ok nmX2 0 (by decide) rfl tw_151 rfl (by decide +kernel) (Nat.le_of_ble_eq_true rfl) pw_num1 dX2_admit_81 (fun H locs Hh => ?_)
        exact gw_vret (w := pw G q) (u := (up1 ud.1 1 ((ud.1 1) + 1), up2 (up2 ud.2 19 (t) (ud.1 1)) 18 (ud.1 1) (0))) C Hh dX2_admit_84 (by exact ⟨_, so_end hso (by omega) (by first | omega | (right; rw [h10, hn1] at hc_31; exact hc_31)), by rw [hn1, so_put hfr2, hfr2.1]⟩)
      · skip
        refine lv_aload_n C.1 C.2.1 dX2_admit_9 rfl (lv_at hl 0 rfl) ?_
        refine gw_get (Cn := RX2) (T := TX2) (N := 7) C Hh 3 pw_at3 rfl uwX2 4 (by decide) rfl tw_159 rfl dX2_admit_10 ?_
        refine lv_aload_n C.1 C.2.1 dX2_admit_13 rfl (lv_at hl 0 rfl) ?_
        refine gw_get (Cn := RX2) (T := TX2) (N := 7) C Hh 3 pw_at3 rfl uwX2 6 (by decide) rfl tw_162 rfl dX2_admit_14 ?_
        refine lv_iload_n C.1 C.2.1 dX2_admit_17 rfl (lv_at hl 1 rfl) ?_
        refine lv_iconst (v := nI 1) C.1 C.2.1 dX2_admit_18 (by decide +kernel) ?_
        refine gw_isub C dX2_admit_19 (by omega) ?_
        have hb := hso.2.1 (t - 1) (by omega) (by omega)
        refine gw_ld C Hh 19 pw_at19 (by decide) dX2_admit_20 (by omega) ?_
        refine gw_ld C Hh 17 pw_at17 (by decide) dX2_admit_21 (by omega) ?_
        refine lv_aload_n C.1 C.2.1 dX2_admit_22 rfl (lv_at hl 0 rfl) ?_
        refine gw_get (Cn := RX2) (T := TX2) (N := 7) C Hh 3 pw_at3 rfl uwX2 4 (by decide) rfl tw_159 rfl dX2_admit_23 ?_
        refine lv_aload_n C.1 C.2.1 dX2_admit_26 rfl (lv_at hl 0 rfl) ?_
        refine gw_get (Cn := RX2) (T := TX2) (N := 7) C Hh 3 pw_at3 rfl uwX2 0 (by decide) rfl tw_151 rfl dX2_admit_27 ?_
        refine gw_ld C Hh 17 pw_at17 (by decide) dX2_admit_30 (by omega) ?_
        have htb := hrk (ud.2 19 (t - 1)) (by omega)
        refine gw_icmp_le (tgt := 54) C dX2_admit_31 (by decide) (by rw [h10]; omega) (by rw [h10, hn1]; omega) (fun hc_31 => ?_) (fun hc_31 => ?_)
        · skip
          refine lv_aload_n C.1 C.2.1 dX2_admit_54 rfl (lv_at hl 0 rfl) ?_
          refine gw_get (Cn := RX2) (T := TX2) (N := 7) C Hh 3 pw_at3 rfl uwX2 6 (by decide) rfl tw_162 rfl dX2_admit_55 ?_
          refine lv_iload_n C.1 C.2.1 dX2_admit_58 rfl (lv_at hl 1 rfl) ?_
          refine lv_aload_n C.1 C.2.1 dX2_admit_59 rfl (lv_at hl 0 rfl) ?_
          refine gw_get (Cn := RX2) (T := TX2) (N := 7) C Hh 3 pw_at3 rfl uwX2 0 (by decide) rfl tw_151 rfl dX2_admit_60 ?_
          refine gw_st C Hh 19 pw_at19 (by decide) pw_set19 dX2_admit_63 (by omega) (fun H locs Hh => ?_)
          have Hh : gw_H G A s (pw G q (ud.1, up2 ud.2 19 (t) (ud.1 1))) H locs := Hh
          refine lv_aload_n C.1 C.2.1 dX2_admit_64 rfl (lv_at hl 0 rfl) ?_
          refine gw_get (Cn := RX2) (T := TX2) (N := 7) C Hh 3 pw_at3 rfl uwX2 5 (by decide) rfl tw_160 rfl dX2_admit_65 ?_
          refine lv_aload_n C.1 C.2.1 dX2_admit_68 rfl (lv_at hl 0 rfl) ?_
          refine gw_get (Cn := RX2) (T := TX2) (N := 7) C Hh 3 pw_at3 rfl uwX2 0 (by decide) rfl tw_151 rfl dX2_admit_69 ?_
          refine W.eq (g2 := F0 m 72 ls [.int (nI (ud.1 1)), .ref (q 18)]) rfl ?_
          refine lv_iconst (v := nI 0) C.1 C.2.1 dX2_admit_72 (by decide +kernel) ?_
          refine gw_st C Hh 18 pw_at18 (by decide) pw_set18 dX2_admit_73 (by omega) (fun H locs Hh => ?_)
          have Hh : gw_H G A s (pw G q (ud.1, up2 (up2 ud.2 19 (t) (ud.1 1)) 18 (ud.1 1) (0))) H locs := Hh
          refine lv_aload_n C.1 C.2.1 dX2_admit_74 rfl (lv_at hl 0 rfl) ?_
          refine lv_dup C.1 C.2.1 dX2_admit_75 rfl ?_
          refine gw_get (Cn := RX2) (T := TX2) (N := 7) C Hh 3 pw_at3 rfl uwX2 0 (by decide) rfl tw_151 rfl dX2_admit_76 ?_
          refine W.eq (g2 := F0 m 79 ls [.int (nI (ud.1 1)), .ref (q 3)]) rfl ?_
          refine lv_iconst (v := nI 1) C.1 C.2.1 dX2_admit_79 (by decide +kernel) ?_
          refine gw_iadd C dX2_admit_80 ?_
          refine gw_put (Cn := RX2) (T := TX2) (N := 7) (ty0 := tyX2) (v := nI ((ud.1 1) + 1)) C Hh 3 pw_at3 rfl uwX2 tyX2_ok nmX2 0 (by decide) rfl tw_151 rfl (by decide +kernel) (Nat.le_of_ble_eq_true rfl) pw_num1 dX2_admit_81 (fun H locs Hh => ?_)
          exact gw_vret (w := pw G q) (u := (up1 ud.1 1 ((ud.1 1) + 1), up2 (up2 ud.2 19 (t) (ud.1 1)) 18 (ud.1 1) (0))) C Hh dX2_admit_84 (by exact ⟨_, so_end hso (by omega) (by first | omega | (right; rw [h10, hn1] at hc_31; exact hc_31)), by rw [hn1, so_put hfr2, hfr2.1]⟩)
        · skip
          refine lv_aload_n C.1 C.2.1 dX2_admit_34 rfl (lv_at hl 0 rfl) ?_
          refine gw_get (Cn := RX2) (T := TX2) (N := 7) C Hh 3 pw_at3 rfl uwX2 6 (by decide) rfl tw_162 rfl dX2_admit_35 ?_
          refine lv_iload_n C.1 C.2.1 dX2_admit_38 rfl (lv_at hl 1 rfl) ?_
          refine lv_aload_n C.1 C.2.1 dX2_admit_39 rfl (lv_at hl 0 rfl) ?_
          refine gw_get (Cn := RX2) (T := TX2) (N := 7) C Hh 3 pw_at3 rfl uwX2 6 (by decide) rfl tw_162 rfl dX2_admit_40 ?_
          refine lv_iload_n C.1 C.2.1 dX2_admit_43 rfl (lv_at hl 1 rfl) ?_
          refine lv_iconst (v := nI 1) C.1 C.2.1 dX2_admit_44 (by decide +kernel) ?_
          refine gw_isub C dX2_admit_45 (by omega) ?_
          refine gw_ld C Hh 19 pw_at19 (by decide) dX2_admit_46 (by omega) ?_
          refine gw_st C Hh 19 pw_at19 (by decide) pw_set19 dX2_admit_47 (by omega) (fun H locs Hh => ?_)
          have Hh : gw_H G A s (pw G q (ud.1, up2 ud.2 19 (t) (ud.2 19 (t - 1)))) H locs := Hh
          refine lv_iinc (v := nI (t - 1)) (lv' := [(1, .int (nI (t - 1))), (0, .ref (q 3))]) C.1 C.2.1 dX2_admit_48 hl (k := 1) rfl (sb_m1 (by omega)) (by decide) rfl (fun ls hl => ?_)
          refine lv_goto (tgt := 5) C.1 C.2.1 dX2_admit_51 (by decide) ?_
          exact ih_5 (t - 1) ((ud.1, up2 ud.2 19 (t) (ud.2 19 (t - 1)))) _ _ _ (by first | assumption | omega) (by exact hfr2.up) (by show so_in (u.2 17) (u.1 1) (t - 1) (up2 ud.2 19 t (ud.2 19 (t - 1)) 19); rw [up2_at]; exact so_step hso (by omega) ht (by rw [h10, hn1] at hc_31; omega)) (by omega) Hh (lv_sub hl [1, 0] rfl)
  exact loop_5 _ (u.1 1) (u) _ _ _ (by first | assumption | omega) (by exact st_but.rf) (by exact so_start hrow) (Nat.lt_succ_self _) Hh (lv_sub hl [1, 0] rfl)
