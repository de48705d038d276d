/-- the demands of one order, or some first ones of them, behind what there was -/
def dm_add (u v : md_S) (o g t N i : Nat) : Prop :=
  sc u v ∧ v.1 0 = u.1 0 ∧ v.1 4 = u.1 4 ∧ v.1 3 = u.1 3 + i ∧ (∀ k, 19 ≤ k → v.2.1 k = u.2.1 k) ∧ v.2.2 19 = u.2.2 19 ∧
  (∀ d, (d < u.1 3 ∨ u.1 3 + i ≤ d) → v.2.1 15 d = u.2.1 15 d ∧ v.2.1 16 d = u.2.1 16 d ∧ v.2.1 18 d = u.2.1 18 d ∧ v.2.2 17 d = u.2.2 17 d) ∧
  ∀ x, x < i → v.2.1 15 (u.1 3 + x) = o ∧ v.2.1 16 (u.1 3 + x) = gd_dg (vw u) g x ∧ v.2.1 18 (u.1 3 + x) = us_f (vw u) (gd_dg (vw u) g x) t ∧ v.2.2 17 (u.1 3 + x) = ((N * gd_d1 (vw u) g x : Nat) : Int)
theorem dm_0 (u : md_S) (o g t N : Nat) : dm_add u u o g t N 0 := ⟨sc.rf, rfl, rfl, rfl, fun _ _ => rfl, rfl, fun _ _ => ⟨rfl, rfl, rfl, rfl⟩, fun x hx => by omega⟩
theorem up3_ne (f : Nat → Nat → Int) {k k' x : Nat} {v : Int} (h : k' ≠ k) : up3 f k x v k' = f k' := by
  funext b
  show (if k' = k then _ else f k' b) = f k' b
  rw [if_neg h]
theorem up3_at (f : Nat → Nat → Int) (k x : Nat) (v : Int) : up3 f k x v k = fun b => if b = x then v else f k b := by
  funext b
  show (if k = k then (if b = x then v else f k b) else f k b) = _
  rw [if_pos rfl]
theorem dm_s {u v : md_S} {o g t N i : Nat} (h : dm_add u v o g t N i) : dm_add u (ad_D v o (gd_dg (vw u) g i) t ((N * gd_d1 (vw u) g i : Nat) : Int)) o g t N (i + 1) := by
  obtain ⟨h1, h2, h3, h4, h5, h6, h7, h8⟩ := h
  have e15 : ∀ d, (ad_D v o (gd_dg (vw u) g i) t ((N * gd_d1 (vw u) g i : Nat) : Int)).2.1 15 d = if d = v.1 3 then o else v.2.1 15 d := fun d => rfl
  have e16 : ∀ d, (ad_D v o (gd_dg (vw u) g i) t ((N * gd_d1 (vw u) g i : Nat) : Int)).2.1 16 d = if d = v.1 3 then gd_dg (vw u) g i else v.2.1 16 d := fun d => rfl
  have e18 : ∀ d, (ad_D v o (gd_dg (vw u) g i) t ((N * gd_d1 (vw u) g i : Nat) : Int)).2.1 18 d = if d = v.1 3 then us_f (vw u) (gd_dg (vw u) g i) t else v.2.1 18 d := fun d => by
    rw [← sc_vw h1]
    rfl
  have e17 : ∀ d, (ad_D v o (gd_dg (vw u) g i) t ((N * gd_d1 (vw u) g i : Nat) : Int)).2.2 17 d = if d = v.1 3 then ((N * gd_d1 (vw u) g i : Nat) : Int) else v.2.2 17 d := fun d => rfl
  have ek : ∀ k, k ≠ 15 → k ≠ 16 → k ≠ 18 → (ad_D v o (gd_dg (vw u) g i) t ((N * gd_d1 (vw u) g i : Nat) : Int)).2.1 k = v.2.1 k := fun k k1 k2 k3 => by
    unfold ad_D
    dsimp only
    rw [up2_ne _ k3, up2_ne _ k2, up2_ne _ k1]
  refine ⟨h1.tr ⟨rfl, rfl, fun k k1 k2 => ?_⟩, h2, h3, ?_, fun k hk => ?_, ?_, fun d hd => ?_, fun x hx => ?_⟩
  · exact ek k (by omega) (by omega) (by omega)
  · show v.1 3 + 1 = _
    omega
  · exact (ek k (by omega) (by omega) (by omega)).trans (h5 k hk)
  · refine Eq.trans ?_ h6
    unfold ad_D
    dsimp only
    rw [up3_ne _ (by decide)]
  · rw [e15, e16, e18, e17, if_neg (by omega), if_neg (by omega), if_neg (by omega), if_neg (by omega)]
    exact h7 d (by omega)
  · rw [e15, e16, e18, e17]
    by_cases q : x = i
    · subst q
      rw [if_pos (by omega), if_pos (by omega), if_pos (by omega), if_pos (by omega)]
      exact ⟨rfl, rfl, rfl, rfl⟩
    · rw [if_neg (by omega), if_neg (by omega), if_neg (by omega), if_neg (by omega)]
      exact h8 x (by omega)
set_option maxHeartbeats 4000000 in
set_option maxRecDepth 100000 in
theorem c_X5_addOrder (l : Launch) (G : gw_G) (q : Nat → Nat) (u : md_S) (o : Nat) (g : Nat) (n : Nat) (t : Nat) (hok : md_ok u) (hg : g < 6) (hn : n ≤ 10000) (ht : t < 100) (hD : u.1 3 ≤ 37) : gw_MV l yX5_addOrder cX5_addOrder 6 none 2 50 [.ref (q 0), .int (nI (o)), .int (nI (g)), .int (nI (n)), .int (nI (t))] G (mw G q) u (fun u1 => dm_add u u1 o g t n (gd_dn (vw u) g)) := by
  refine gw_entryV (own := RX5) (by decide) rfl (Nat.le_of_ble_eq_true rfl) ?_
  intro p e s m args below meth c A ls C Hh hl
  have hl : lv_has ls 6 [(0, .ref (q 0)), (1, .int (nI (o))), (2, .int (nI (g))), (3, .int (nI (n))), (4, .int (nI (t)))] := hl
  have hg3 := (hok.2.1 g hg).2.2
  refine lv_aload_n C.1 C.2.1 dX5_addOrder_0 rfl (lv_at hl 0 rfl) ?_
  refine lv_iload_n C.1 C.2.1 dX5_addOrder_1 rfl (lv_at hl 2 rfl) ?_
  refine gw_fromI (w := mw G q) (u := u) C Hh (gw_runV (n := 1) (C1 := RX5) [.int (nI (g))] C Hh (c_X5_isKit l G q (u) (g) (by first | assumption | omega) (by first | assumption | omega) _) tw_827 tw_829 tw_48 tw_71 tw_830 (by decide +kernel) ⟨Nat.le_of_ble_eq_true rfl, Nat.le_of_ble_eq_true rfl⟩ 0 mw_at0 rfl rfl hl.1 (Nat.le_of_ble_eq_true rfl) dX5_addOrder_2 ⟨Nat.zero_le _, Nat.zero_le _⟩) (fun rc_2 uc_2 H locs hp_2 Hh => ?_)
  obtain ⟨kc_2, rfl, hp_2⟩ := hp_2
  obtain ⟨hk_2, hu_2⟩ := hp_2
  rw [hu_2] at Hh
  clear hu_2
  have ed : gd_dn (vw u) g = if 0 < u.2.1 3 g then u.2.1 3 g else 1 := rfl
  refine gw_if_ne (tgt := 19) C dX5_addOrder_5 (by decide) (by split at hk_2 <;> omega) (fun hc_5 => ?_) (fun hc_5 => ?_)
  · skip
    refine lv_iconst (v := nI 0) C.1 C.2.1 dX5_addOrder_19 (by decide +kernel) ?_
    refine lv_istore (lv' := [(5, .int (nI (0))), (0, .ref (q 0)), (1, .int (nI (o))), (2, .int (nI (g))), (3, .int (nI (n))), (4, .int (nI (t)))]) C.1 C.2.1 dX5_addOrder_20 hl (by decide) rfl (fun ls hl => ?_)
    have loop_22 : ∀ (fu : Nat) (i : Nat) (uc : md_S) (H : Heap) (locs : List Loc) (ls : Array Slot), (i ≤ u.2.1 3 g) → (dm_add u uc o g t n i) → u.2.1 3 g - i < fu → gw_H G A s (mw G q uc) H locs → lv_has ls 6 [(0, .ref (q 0)), (1, .int (nI (o))), (2, .int (nI (g))), (3, .int (nI (n))), (4, .int (nI (t))), (5, .int (nI (i)))] → W p l e (gw_rm 2 50) s m args below meth c H locs 0 0 (MQ below (va_Qv (fun u1 => dm_add u u1 o g t n (gd_dn (vw u) g)) (gw_at G A (mw G q)) A) args s 0 0 A) (F0 m 22 ls []) := by
      intro fu
      induction fu with
      | zero =>
        intro i uc H locs ls hi hd hmf
        exact absurd hmf (Nat.not_lt_zero _)
      | succ fu ih_22 =>
        intro i uc H locs ls hi hd hmf Hh hl
        have hok2 : md_ok uc := sc_ok hd.1 hok
        have h3 : uc.2.1 3 g = u.2.1 3 g := by rw [hd.1.2.2 3 (by decide) (by decide)]
        have h4 : uc.2.1 4 = u.2.1 4 := hd.1.2.2 4 (by decide) (by decide)
        have h5 : uc.2.1 5 = u.2.1 5 := hd.1.2.2 5 (by decide) (by decide)
        have h6 := hd.2.2.2.1
        refine lv_iload C.1 C.2.1 dX5_addOrder_22 (lv_at hl 5 rfl) ?_
        refine lv_aload_n C.1 C.2.1 dX5_addOrder_24 rfl (lv_at hl 0 rfl) ?_
        refine gw_get (Cn := RX5) (T := TX5) (N := 29) C Hh 0 mw_at0 rfl uwX5 3 (by decide) rfl tw_726 rfl dX5_addOrder_25 ?_
        refine lv_iload_n C.1 C.2.1 dX5_addOrder_28 rfl (lv_at hl 2 rfl) ?_
        refine gw_ld C Hh 3 mw_at3 (by decide) dX5_addOrder_29 (by omega) ?_
        refine gw_icmp_ge (tgt := 72) C dX5_addOrder_30 (by decide) (by omega) (by omega) (fun hc_30 => ?_) (fun hc_30 => ?_)
        · skip
          exact gw_vret (w := mw G q) (u := uc) C Hh dX5_addOrder_72 (by rw [ed, if_pos (by split at hk_2 <;> omega), ← show i = u.2.1 3 g by omega]; exact hd)
        · skip
          refine lv_aload_n C.1 C.2.1 dX5_addOrder_33 rfl (lv_at hl 0 rfl) ?_
          refine lv_iload_n C.1 C.2.1 dX5_addOrder_34 rfl (lv_at hl 1 rfl) ?_
          refine lv_aload_n C.1 C.2.1 dX5_addOrder_35 rfl (lv_at hl 0 rfl) ?_
          refine gw_get (Cn := RX5) (T := TX5) (N := 29) C Hh 0 mw_at0 rfl uwX5 4 (by decide) rfl tw_727 rfl dX5_addOrder_36 ?_
          refine lv_iconst (v := nI 3) C.1 C.2.1 dX5_addOrder_39 (by decide +kernel) ?_
          refine lv_iload_n C.1 C.2.1 dX5_addOrder_40 rfl (lv_at hl 2 rfl) ?_
          refine gw_imul C dX5_addOrder_41 ?_
          refine lv_iload C.1 C.2.1 dX5_addOrder_42 (lv_at hl 5 rfl) ?_
          refine gw_iadd C dX5_addOrder_44 ?_
          refine gw_ld C Hh 4 mw_at4 (by decide) dX5_addOrder_45 (by omega) ?_
          refine lv_iload_n C.1 C.2.1 dX5_addOrder_46 rfl (lv_at hl 3 rfl) ?_
          refine gw_i2l C dX5_addOrder_47 (by omega) ?_
          refine lv_aload_n C.1 C.2.1 dX5_addOrder_48 rfl (lv_at hl 0 rfl) ?_
          refine gw_get (Cn := RX5) (T := TX5) (N := 29) C Hh 0 mw_at0 rfl uwX5 5 (by decide) rfl tw_728 rfl dX5_addOrder_49 ?_
          refine lv_iconst (v := nI 3) C.1 C.2.1 dX5_addOrder_52 (by decide +kernel) ?_
          refine lv_iload_n C.1 C.2.1 dX5_addOrder_53 rfl (lv_at hl 2 rfl) ?_
          refine gw_imul C dX5_addOrder_54 ?_
          refine lv_iload C.1 C.2.1 dX5_addOrder_55 (lv_at hl 5 rfl) ?_
          refine gw_iadd C dX5_addOrder_57 ?_
          refine gw_ld C Hh 5 mw_at5 (by decide) dX5_addOrder_58 (by omega) ?_
          refine gw_i2l C dX5_addOrder_59 (by have := (hok2.2.2.1 (3 * g + i) (by omega)).2; omega) ?_
          refine gw_lmul C dX5_addOrder_60 ?_
          refine lv_iload C.1 C.2.1 dX5_addOrder_61 (lv_at hl 4 rfl) ?_
          refine gw_fromV (w := mw G q) (u := uc) C Hh (gw_runV (n := 4) (C1 := RX5) [.int (nI (o)), .int (nI (uc.2.1 4 ((3 * g) + i))), .long (Int64.ofInt ((((n : Nat) : Int)) * (((uc.2.1 5 ((3 * g) + i) : Nat) : Int)))), .int (nI (t))] C Hh (c_X5_addDemand l G q (uc) (o) (uc.2.1 4 ((3 * g) + i)) ((((n : Nat) : Int)) * (((uc.2.1 5 ((3 * g) + i) : Nat) : Int))) (t) (by exact hok2) (by exact (hok2.2.2.1 _ (by omega)).1) (by first | assumption | omega) (by first | assumption | omega) _) tw_843 tw_845 tw_52 tw_71 tw_846 (by decide +kernel) ⟨Nat.le_of_ble_eq_true rfl, Nat.le_of_ble_eq_true rfl⟩ 0 mw_at0 rfl rfl hl.1 (Nat.le_of_ble_eq_true rfl) dX5_addOrder_63 ⟨Nat.zero_le _, Nat.zero_le _⟩) (fun uc_63 H locs hp_63 Hh => ?_)
          refine lv_iinc (v := nI (i + 1)) (lv' := [(5, .int (nI (i + 1))), (0, .ref (q 0)), (1, .int (nI (o))), (2, .int (nI (g))), (3, .int (nI (n))), (4, .int (nI (t)))]) C.1 C.2.1 dX5_addOrder_66 hl (k := 5) rfl (nI_add _ 1) (by decide) rfl (fun ls hl => ?_)
          refine lv_goto (tgt := 22) C.1 C.2.1 dX5_addOrder_69 (by decide) ?_
          exact ih_22 (i + 1) (uc_63) _ _ _ (by omega) (by have h9 := dm_s hd; rw [hp_63]; have e1 : gd_dg (vw u) g i = uc.2.1 4 (3 * g + i) := (by unfold gd_dg; rw [if_pos (show 0 < (vw u).2 7 g by show 0 < u.2.1 3 g; omega), h4, Nat.mul_comm 3 g]; rfl); have e2 : gd_d1 (vw u) g i = uc.2.1 5 (3 * g + i) := (by unfold gd_d1; rw [if_pos (show 0 < (vw u).2 7 g by show 0 < u.2.1 3 g; omega), h5, Nat.mul_comm 3 g]; rfl); rw [e1, e2, Int.natCast_mul] at h9; exact h9) (by omega) Hh (lv_sub hl [1, 2, 3, 4, 5, 0] rfl)
    exact loop_22 _ (0) (u) _ _ _ (by omega) (by exact dm_0 _ _ _ _ _) (Nat.lt_succ_self _) Hh (lv_sub hl [1, 2, 3, 4, 5, 0] rfl)
  · skip
    refine lv_aload_n C.1 C.2.1 dX5_addOrder_8 rfl (lv_at hl 0 rfl) ?_
    refine lv_iload_n C.1 C.2.1 dX5_addOrder_9 rfl (lv_at hl 1 rfl) ?_
    refine lv_iload_n C.1 C.2.1 dX5_addOrder_10 rfl (lv_at hl 2 rfl) ?_
    refine lv_iload_n C.1 C.2.1 dX5_addOrder_11 rfl (lv_at hl 3 rfl) ?_
    refine gw_i2l C dX5_addOrder_12 (by omega) ?_
    refine lv_iload C.1 C.2.1 dX5_addOrder_13 (lv_at hl 4 rfl) ?_
    refine gw_fromV (w := mw G q) (u := u) C Hh (gw_runV (n := 4) (C1 := RX5) [.int (nI (o)), .int (nI (g)), .long (Int64.ofInt (((n : Nat) : Int))), .int (nI (t))] C Hh (c_X5_addDemand l G q (u) (o) (g) (((n : Nat) : Int)) (t) (by first | assumption | omega) (by first | assumption | omega) (by first | assumption | omega) (by first | assumption | omega) _) tw_843 tw_845 tw_52 tw_71 tw_846 (by decide +kernel) ⟨Nat.le_of_ble_eq_true rfl, Nat.le_of_ble_eq_true rfl⟩ 0 mw_at0 rfl rfl hl.1 (Nat.le_of_ble_eq_true rfl) dX5_addOrder_15 ⟨Nat.zero_le _, Nat.zero_le _⟩) (fun uc_15 H locs hp_15 Hh => ?_)
    exact gw_vret (w := mw G q) (u := uc_15) C Hh dX5_addOrder_18 (by have h0 : u.2.1 3 g = 0 := (by split at hk_2 <;> omega); have h9 := dm_s (dm_0 u o g t n); have e1 : gd_dg (vw u) g 0 = g := (by unfold gd_dg; rw [if_neg (show ¬ 0 < (vw u).2 7 g by show ¬ 0 < u.2.1 3 g; omega)]); have e2 : gd_d1 (vw u) g 0 = 1 := (by unfold gd_d1; rw [if_neg (show ¬ 0 < (vw u).2 7 g by show ¬ 0 < u.2.1 3 g; omega)]); rw [e1, e2, Nat.mul_one] at h9; rw [ed, if_neg (by omega), hp_15]; exact h9)
/-! the next one behind, by a key and by number -/
def nxl (K : Nat → Nat) (bh o : Nat) : Prop := bh = 4294967295 ∨ kx_lt K bh o
def nx_in (K : Nat → Nat) (Cn : Nat → Prop) (bh i b : Nat) : Prop := (b = 4294967295 ∧ ∀ o, o < i → Cn o → ¬ nxl K bh o) ∨ (b < i ∧ Cn b ∧ nxl K bh b ∧ ∀ o, o < i → Cn o → nxl K bh o → o = b ∨ kx_lt K b o)
theorem nx_0 {K : Nat → Nat} {Cn : Nat → Prop} {bh : Nat} : nx_in K Cn bh 0 4294967295 := Or.inl ⟨rfl, fun o h => by omega⟩
theorem nx_skip {K : Nat → Nat} {Cn : Nat → Prop} {bh i b : Nat} (h : nx_in K Cn bh i b) (hn : Cn i → ¬ nxl K bh i) : nx_in K Cn bh (i + 1) b := by
  rcases h with ⟨h1, h2⟩ | ⟨h1, h2, h3, h4⟩
  · refine Or.inl ⟨h1, fun o ho hc => ?_⟩
    by_cases q : o = i
    · subst q; exact hn hc
    · exact h2 o (by omega) hc
  · refine Or.inr ⟨by omega, h2, h3, fun o ho hc hl => ?_⟩
    by_cases q : o = i
    · subst q; exact absurd hl (hn hc)
    · exact h4 o (by omega) hc hl
theorem nx_keep {K : Nat → Nat} {Cn : Nat → Prop} {bh i b : Nat} (h : nx_in K Cn bh i b) (hb : b ≠ 4294967295) (hk : K b ≤ K i) : nx_in K Cn bh (i + 1) b := by
  rcases h with ⟨h1, h2⟩ | ⟨h1, h2, h3, h4⟩
  · exact absurd h1 hb
  · refine Or.inr ⟨by omega, h2, h3, fun o ho hc hl => ?_⟩
    by_cases q : o = i
    · subst q
      right
      unfold kx_lt
      omega
    · exact h4 o (by omega) hc hl
theorem nx_take {K : Nat → Nat} {Cn : Nat → Prop} {bh i b : Nat} (h : nx_in K Cn bh i b) (hc : Cn i) (hl : nxl K bh i) (hi : i ≤ 10) (hk : b = 4294967295 ∨ K i < K b) : nx_in K Cn bh (i + 1) i := by
  refine Or.inr ⟨by omega, hc, hl, fun o ho hco hlo => ?_⟩
  by_cases q : o = i
  · exact Or.inl q
  · right
    rcases h with ⟨h1, h2⟩ | ⟨h1, h2, h3, h4⟩
    · exact absurd hlo (h2 o (by omega) hco)
    · rcases h4 o (by omega) hco hlo with h5 | h5
      · subst h5
        rcases hk with h6 | h6
        · omega
        · exact Or.inl h6
      · unfold kx_lt at h5 ⊢
        omega
theorem nx_b {K : Nat → Nat} {Cn : Nat → Prop} {bh i b : Nat} (h : nx_in K Cn bh i b) (hi : i ≤ 10) : b = 4294967295 ∨ b < i := h.imp (·.1) (·.1)
def nx_C (u : md_S) (c o : Nat) : Prop := u.2.1 14 o ≠ 2 ∧ (c = 0 ∨ u.2.1 14 o = 0)
set_option maxHeartbeats 4000000 in
set_option maxRecDepth 100000 in
theorem c_X5_next (l : Launch) (G : gw_G) (q : Nat → Nat) (u : md_S) (bh : Nat) (cv : Nat) (hok : md_ok u) (hbh : bh = 4294967295 ∨ bh < u.1 2) (hcc : cv ≤ 1) : gw_MI l yX5_next cX5_next 6 (some .int) 0 0 [.ref (q 0), .int (nI (bh)), .int (nI (cv))] G (mw G q) u (fun r u1 => ∃ k : Nat, r = nI k ∧ (nx_in (u.2.1 13) (nx_C u cv) bh (u.1 2) k ∧ u1 = u)) := by
  refine gw_entryI (own := RX5) (by decide) rfl (Nat.le_of_ble_eq_true rfl) ?_
  intro p e s m args below meth c A ls C Hh hl
  have hl : lv_has ls 6 [(0, .ref (q 0)), (1, .int (nI (bh))), (2, .int (nI (cv)))] := hl
  refine lv_iconst (v := nI 4294967295) C.1 C.2.1 dX5_next_0 (by decide +kernel) ?_
  refine lv_istore_n (lv' := [(3, .int (nI (4294967295))), (0, .ref (q 0)), (1, .int (nI (bh))), (2, .int (nI (cv)))]) C.1 C.2.1 dX5_next_1 rfl hl (by decide) rfl (fun ls hl => ?_)
  refine lv_iconst (v := nI 0) C.1 C.2.1 dX5_next_2 (by decide +kernel) ?_
  refine lv_istore (lv' := [(4, .int (nI (0))), (3, .int (nI (4294967295))), (0, .ref (q 0)), (1, .int (nI (bh))), (2, .int (nI (cv)))]) C.1 C.2.1 dX5_next_3 hl (by decide) rfl (fun ls hl => ?_)
  have loop_5 : ∀ (fu : Nat) (b : Nat) (i : Nat) (H : Heap) (locs : List Loc) (ls : Array Slot), (i ≤ u.1 2) → (nx_in (u.2.1 13) (nx_C u cv) bh i b) → u.1 2 - i < fu → gw_H G A s (mw G q u) H locs → lv_has ls 6 [(0, .ref (q 0)), (1, .int (nI (bh))), (2, .int (nI (cv))), (3, .int (nI (b))), (4, .int (nI (i)))] → W p l e (gw_rm 0 0) s m args below meth c H locs 0 0 (MQ below (va_Qi (fun r u1 => ∃ k : Nat, r = nI k ∧ (nx_in (u.2.1 13) (nx_C u cv) bh (u.1 2) k ∧ u1 = u)) (gw_at G A (mw G q)) A) args s 0 0 A) (F0 m 5 ls []) := by
    intro fu
    induction fu with
    | zero =>
      intro b i  H locs ls hi hb hmf
      exact absurd hmf (Nat.not_lt_zero _)
    | succ fu ih_5 =>
      intro b i  H locs ls hi hb hmf Hh hl
      have h0 := hok.1.2
      have hb9 := nx_b hb (by omega)
      refine lv_iload C.1 C.2.1 dX5_next_5 (lv_at hl 4 rfl) ?_
      refine lv_aload_n C.1 C.2.1 dX5_next_7 rfl (lv_at hl 0 rfl) ?_
      refine gw_get (Cn := RX5) (T := TX5) (N := 29) C Hh 0 mw_at0 rfl uwX5 11 (by decide) rfl tw_734 rfl dX5_next_8 ?_
      refine gw_icmp_ge (tgt := 127) C dX5_next_11 (by decide) (by omega) (by omega) (fun hc_11 => ?_) (fun hc_11 => ?_)
      · skip
        refine lv_iload_n C.1 C.2.1 dX5_next_127 rfl (lv_at hl 3 rfl) ?_
        exact gw_iret (w := mw G q) (u := u) C Hh dX5_next_128 ⟨_, rfl, by have h9 : i = u.1 2 := (by omega); rw [← h9]; exact ⟨hb, rfl⟩⟩
      · skip
        have ho9 := hok.2.2.2.2 i (by omega)
        have join_121 : ∀ (b2 : Nat) (H : Heap) (locs : List Loc) (ls : Array Slot), (nx_in (u.2.1 13) (nx_C u cv) bh (i + 1) b2) → gw_H G A s (mw G q u) H locs → lv_has ls 6 [(0, .ref (q 0)), (1, .int (nI (bh))), (2, .int (nI (cv))), (3, .int (nI (b2))), (4, .int (nI (i)))] → W p l e (gw_rm 0 0) s m args below meth c H locs 0 0 (MQ below (va_Qi (fun r u1 => ∃ k : Nat, r = nI k ∧ (nx_in (u.2.1 13) (nx_C u cv) bh (u.1 2) k ∧ u1 = u)) (gw_at G A (mw G q)) A) args s 0 0 A) (F0 m 121 ls []) := by
          intro b2  H locs ls hb2 Hh hl
          refine lv_iinc (v := nI (i + 1)) (lv' := [(4, .int (nI (i + 1))), (0, .ref (q 0)), (1, .int (nI (bh))), (2, .int (nI (cv))), (3, .int (nI (b2)))]) C.1 C.2.1 dX5_next_121 hl (k := 4) rfl (nI_add _ 1) (by decide) rfl (fun ls hl => ?_)
          refine lv_goto (tgt := 5) C.1 C.2.1 dX5_next_124 (by decide) ?_
          exact ih_5 (b2) (i + 1)  _ _ _ (by omega) (by exact hb2) (by omega) Hh (lv_sub hl [1, 2, 3, 4, 0] rfl)
        refine lv_aload_n C.1 C.2.1 dX5_next_14 rfl (lv_at hl 0 rfl) ?_
        refine gw_get (Cn := RX5) (T := TX5) (N := 29) C Hh 0 mw_at0 rfl uwX5 16 (by decide) rfl tw_739 rfl dX5_next_15 ?_
        refine lv_iload C.1 C.2.1 dX5_next_18 (lv_at hl 4 rfl) ?_
        refine gw_ld C Hh 14 mw_at14 (by decide) dX5_next_20 (by omega) ?_
        refine lv_iconst (v := nI 2) C.1 C.2.1 dX5_next_21 (by decide +kernel) ?_
        refine gw_icmp_eq (tgt := 121) C dX5_next_22 (by decide) (by omega) (by omega) (fun hc_22 => ?_) (fun hc_22 => ?_)
        · skip
          exact join_121 (b)  _ _ _ (by exact nx_skip hb (fun q => absurd hc_22 q.1)) Hh (lv_sub hl [0, 1, 2, 3, 4] rfl)
        · skip
          have join_42 : ∀  (H : Heap) (locs : List Loc) (ls : Array Slot), (nx_C u cv i) → gw_H G A s (mw G q u) H locs → lv_has ls 6 [(0, .ref (q 0)), (1, .int (nI (bh))), (2, .int (nI (cv))), (3, .int (nI (b))), (4, .int (nI (i)))] → W p l e (gw_rm 0 0) s m args below meth c H locs 0 0 (MQ below (va_Qi (fun r u1 => ∃ k : Nat, r = nI k ∧ (nx_in (u.2.1 13) (nx_C u cv) bh (u.1 2) k ∧ u1 = u)) (gw_at G A (mw G q)) A) args s 0 0 A) (F0 m 42 ls []) := by
            intro   H locs ls hC9 Hh hl
            have join_90 : ∀ (lt : Nat) (H : Heap) (locs : List Loc) (ls : Array Slot), ((lt = 1 ∧ (bh = 4294967295 ∨ u.2.1 13 bh < u.2.1 13 i ∨ (u.2.1 13 bh = u.2.1 13 i ∧ bh < i))) ∨ (lt = 0 ∧ ¬ (bh = 4294967295 ∨ u.2.1 13 bh < u.2.1 13 i ∨ (u.2.1 13 bh = u.2.1 13 i ∧ bh < i)))) → gw_H G A s (mw G q u) H locs → lv_has ls 6 [(0, .ref (q 0)), (1, .int (nI (bh))), (2, .int (nI (cv))), (3, .int (nI (b))), (4, .int (nI (i)))] → W p l e (gw_rm 0 0) s m args below meth c H locs 0 0 (MQ below (va_Qi (fun r u1 => ∃ k : Nat, r = nI k ∧ (nx_in (u.2.1 13) (nx_C u cv) bh (u.1 2) k ∧ u1 = u)) (gw_at G A (mw G q)) A) args s 0 0 A) (F0 m 90 ls [.int (nI (lt))]) := by
              intro lt  H locs ls hlt Hh hl
              refine lv_istore (lv' := [(5, .int (nI (lt))), (0, .ref (q 0)), (1, .int (nI (bh))), (2, .int (nI (cv))), (3, .int (nI (b))), (4, .int (nI (i)))]) C.1 C.2.1 dX5_next_90 hl (by decide) rfl (fun ls hl => ?_)
              refine lv_iload C.1 C.2.1 dX5_next_92 (lv_at hl 0 rfl) ?_
              refine gw_if_eq (tgt := 121) C dX5_next_94 (by decide) (by omega) (fun hc_94 => ?_) (fun hc_94 => ?_)
              · skip
                exact join_121 (b)  _ _ _ (by exact nx_skip hb (fun _ q => by unfold nxl kx_lt at q; omega)) Hh (lv_sub hl [1, 2, 3, 4, 5] rfl)
              · skip
                refine lv_iload_n C.1 C.2.1 dX5_next_97 rfl (lv_at hl 4 rfl) ?_
                refine lv_iconst (v := nI 4294967295) C.1 C.2.1 dX5_next_98 (by decide +kernel) ?_
                refine gw_m1_eq (tgt := 118) C dX5_next_99 (by decide) (by omega) (fun hc_99 => ?_) (fun hc_99 => ?_)
                · skip
                  refine lv_iload C.1 C.2.1 dX5_next_118 (lv_at hl 5 rfl) ?_
                  refine lv_istore_n (lv' := [(3, .int (nI (i))), (5, .int (nI (lt))), (0, .ref (q 0)), (1, .int (nI (bh))), (2, .int (nI (cv))), (4, .int (nI (i)))]) C.1 C.2.1 dX5_next_120 rfl hl (by decide) rfl (fun ls hl => ?_)
                  exact join_121 (i)  _ _ _ (by first | exact nx_take hb hC9 (by unfold nxl kx_lt; omega) (by omega) (Or.inl hc_99) | exact nx_take hb hC9 (by unfold nxl kx_lt; omega) (by omega) (Or.inr hc_115)) Hh (lv_sub hl [2, 3, 4, 0, 5] rfl)
                · skip
                  have hob2 := hok.2.2.2.2 b (by omega)
                  refine lv_aload_n C.1 C.2.1 dX5_next_102 rfl (lv_at hl 1 rfl) ?_
                  refine gw_get (Cn := RX5) (T := TX5) (N := 29) C Hh 0 mw_at0 rfl uwX5 15 (by decide) rfl tw_738 rfl dX5_next_103 ?_
                  refine lv_iload C.1 C.2.1 dX5_next_106 (lv_at hl 5 rfl) ?_
                  refine gw_ld C Hh 13 mw_at13 (by decide) dX5_next_108 (by omega) ?_
                  refine lv_aload_n C.1 C.2.1 dX5_next_109 rfl (lv_at hl 1 rfl) ?_
                  refine gw_get (Cn := RX5) (T := TX5) (N := 29) C Hh 0 mw_at0 rfl uwX5 15 (by decide) rfl tw_738 rfl dX5_next_110 ?_
                  refine lv_iload_n C.1 C.2.1 dX5_next_113 rfl (lv_at hl 4 rfl) ?_
                  refine gw_ld C Hh 13 mw_at13 (by decide) dX5_next_114 (by omega) ?_
                  refine gw_icmp_ge (tgt := 121) C dX5_next_115 (by decide) (by omega) (by omega) (fun hc_115 => ?_) (fun hc_115 => ?_)
                  · skip
                    exact join_121 (b)  _ _ _ (by exact nx_keep hb hc_99 (by omega)) Hh (lv_sub hl [1, 2, 3, 4, 5] rfl)
                  · skip
                    refine lv_iload C.1 C.2.1 dX5_next_118 (lv_at hl 5 rfl) ?_
                    refine lv_istore_n (lv' := [(3, .int (nI (i))), (5, .int (nI (lt))), (0, .ref (q 0)), (1, .int (nI (bh))), (2, .int (nI (cv))), (4, .int (nI (i)))]) C.1 C.2.1 dX5_next_120 rfl hl (by decide) rfl (fun ls hl => ?_)
                    exact join_121 (i)  _ _ _ (by first | exact nx_take hb hC9 (by unfold nxl kx_lt; omega) (by omega) (Or.inl hc_99) | exact nx_take hb hC9 (by unfold nxl kx_lt; omega) (by omega) (Or.inr hc_115)) Hh (lv_sub hl [2, 3, 4, 0, 5] rfl)
            refine lv_iload_n C.1 C.2.1 dX5_next_42 rfl (lv_at hl 1 rfl) ?_
            refine lv_iconst (v := nI 4294967295) C.1 C.2.1 dX5_next_43 (by decide +kernel) ?_
            refine gw_m1_eq (tgt := 85) C dX5_next_44 (by decide) (by omega) (fun hc_44 => ?_) (fun hc_44 => ?_)
            · skip
              refine lv_iconst (v := nI 1) C.1 C.2.1 dX5_next_85 (by decide +kernel) ?_
              refine lv_goto (tgt := 90) C.1 C.2.1 dX5_next_86 (by decide) ?_
              exact join_90 (1)  _ _ _ (by omega) Hh (lv_sub hl [0, 1, 2, 3, 4] rfl)
            · skip
              have hob := hok.2.2.2.2 bh (by omega)
              refine lv_aload_n C.1 C.2.1 dX5_next_47 rfl (lv_at hl 0 rfl) ?_
              refine gw_get (Cn := RX5) (T := TX5) (N := 29) C Hh 0 mw_at0 rfl uwX5 15 (by decide) rfl tw_738 rfl dX5_next_48 ?_
              refine lv_iload C.1 C.2.1 dX5_next_51 (lv_at hl 4 rfl) ?_
              refine gw_ld C Hh 13 mw_at13 (by decide) dX5_next_53 (by omega) ?_
              refine lv_aload_n C.1 C.2.1 dX5_next_54 rfl (lv_at hl 0 rfl) ?_
              refine gw_get (Cn := RX5) (T := TX5) (N := 29) C Hh 0 mw_at0 rfl uwX5 15 (by decide) rfl tw_738 rfl dX5_next_55 ?_
              refine lv_iload_n C.1 C.2.1 dX5_next_58 rfl (lv_at hl 1 rfl) ?_
              refine gw_ld C Hh 13 mw_at13 (by decide) dX5_next_59 (by omega) ?_
              refine gw_icmp_gt (tgt := 85) C dX5_next_60 (by decide) (by omega) (by omega) (fun hc_60 => ?_) (fun hc_60 => ?_)
              · skip
                refine lv_iconst (v := nI 1) C.1 C.2.1 dX5_next_85 (by decide +kernel) ?_
                refine lv_goto (tgt := 90) C.1 C.2.1 dX5_next_86 (by decide) ?_
                exact join_90 (1)  _ _ _ (by omega) Hh (lv_sub hl [0, 1, 2, 3, 4] rfl)
              · skip
                refine lv_aload_n C.1 C.2.1 dX5_next_63 rfl (lv_at hl 0 rfl) ?_
                refine gw_get (Cn := RX5) (T := TX5) (N := 29) C Hh 0 mw_at0 rfl uwX5 15 (by decide) rfl tw_738 rfl dX5_next_64 ?_
                refine lv_iload C.1 C.2.1 dX5_next_67 (lv_at hl 4 rfl) ?_
                refine gw_ld C Hh 13 mw_at13 (by decide) dX5_next_69 (by omega) ?_
                refine lv_aload_n C.1 C.2.1 dX5_next_70 rfl (lv_at hl 0 rfl) ?_
                refine gw_get (Cn := RX5) (T := TX5) (N := 29) C Hh 0 mw_at0 rfl uwX5 15 (by decide) rfl tw_738 rfl dX5_next_71 ?_
                refine lv_iload_n C.1 C.2.1 dX5_next_74 rfl (lv_at hl 1 rfl) ?_
                refine gw_ld C Hh 13 mw_at13 (by decide) dX5_next_75 (by omega) ?_
                refine gw_icmp_ne (tgt := 89) C dX5_next_76 (by decide) (by omega) (by omega) (fun hc_76 => ?_) (fun hc_76 => ?_)
                · skip
                  refine lv_iconst (v := nI 0) C.1 C.2.1 dX5_next_89 (by decide +kernel) ?_
                  exact join_90 (0)  _ _ _ (by omega) Hh (lv_sub hl [0, 1, 2, 3, 4] rfl)
                · skip
                  refine lv_iload C.1 C.2.1 dX5_next_79 (lv_at hl 4 rfl) ?_
                  refine lv_iload_n C.1 C.2.1 dX5_next_81 rfl (lv_at hl 1 rfl) ?_
                  refine gw_icmp_le (tgt := 89) C dX5_next_82 (by decide) (by omega) (by omega) (fun hc_82 => ?_) (fun hc_82 => ?_)
                  · skip
                    refine lv_iconst (v := nI 0) C.1 C.2.1 dX5_next_89 (by decide +kernel) ?_
                    exact join_90 (0)  _ _ _ (by omega) Hh (lv_sub hl [0, 1, 2, 3, 4] rfl)
                  · skip
                    refine lv_iconst (v := nI 1) C.1 C.2.1 dX5_next_85 (by decide +kernel) ?_
                    refine lv_goto (tgt := 90) C.1 C.2.1 dX5_next_86 (by decide) ?_
                    exact join_90 (1)  _ _ _ (by omega) Hh (lv_sub hl [0, 1, 2, 3, 4] rfl)
          refine lv_iload_n C.1 C.2.1 dX5_next_25 rfl (lv_at hl 2 rfl) ?_
          refine gw_if_eq (tgt := 42) C dX5_next_26 (by decide) (by omega) (fun hc_26 => ?_) (fun hc_26 => ?_)
          · skip
            exact join_42   _ _ _ (by exact ⟨hc_22, Or.inl (by omega)⟩) Hh (lv_sub hl [0, 1, 2, 3, 4] rfl)
          · skip
            refine lv_aload_n C.1 C.2.1 dX5_next_29 rfl (lv_at hl 0 rfl) ?_
            refine gw_get (Cn := RX5) (T := TX5) (N := 29) C Hh 0 mw_at0 rfl uwX5 16 (by decide) rfl tw_739 rfl dX5_next_30 ?_
            refine lv_iload C.1 C.2.1 dX5_next_33 (lv_at hl 4 rfl) ?_
            refine gw_ld C Hh 14 mw_at14 (by decide) dX5_next_35 (by omega) ?_
            refine gw_if_eq (tgt := 42) C dX5_next_36 (by decide) (by omega) (fun hc_36 => ?_) (fun hc_36 => ?_)
            · skip
              exact join_42   _ _ _ (by exact ⟨hc_22, Or.inr (by omega)⟩) Hh (lv_sub hl [0, 1, 2, 3, 4] rfl)
            · skip
              refine lv_goto (tgt := 121) C.1 C.2.1 dX5_next_39 (by decide) ?_
              exact join_121 (b)  _ _ _ (by exact nx_skip hb (fun q => by have := q.2; omega)) Hh (lv_sub hl [0, 1, 2, 3, 4] rfl)
  exact loop_5 _ (4294967295) (0)  _ _ _ (by omega) (by exact nx_0) (Nat.lt_succ_self _) Hh (lv_sub hl [2, 3, 4, 1, 0] rfl)
