/-! greatest -/
def slk (w : pf_S) (S : Nat) : Int := (asum (fr_of w) S (w.1 0) : Int) - (hsum (cv_W w) (cmk w) S : Int)
def er (w : pf_S) (g t S x : Nat) : Nat := if us_f w (gd_dg w g x) t &&& (S ^^^ 4294967295) = 0 then gd_d1 w g x else 0
def gr_e (w : pf_S) (g t S : Nat) : Nat := fl_sum (er w g t S) (gd_dn w g)
def gt_in (w : pf_S) (g t S : Nat) (b : Int) : Prop := (∀ s, s < S → 0 < gr_e w g t s → b ≤ slk w s / (gr_e w g t s : Int)) ∧ (b = 4611686018427387904 ∨ ∃ s, s < S ∧ 0 < gr_e w g t s ∧ b = slk w s / (gr_e w g t s : Int))
def gr_post (w : pf_S) (g t k : Nat) : Prop := (∀ S, S < 1 <<< w.1 0 → 0 < gr_e w g t S → (k : Int) ≤ slk w S / (gr_e w g t S : Int)) ∧ ∃ S, S < 1 <<< w.1 0 ∧ 0 < gr_e w g t S ∧ (k : Int) = slk w S / (gr_e w g t S : Int)
theorem gt_0 {w : pf_S} {g t : Nat} : gt_in w g t 0 4611686018427387904 := ⟨fun s hs => by omega, Or.inl rfl⟩
theorem gt_skip {w : pf_S} {g t S : Nat} {b : Int} (h : gt_in w g t S b) (h1 : gr_e w g t S = 0 ∨ b ≤ slk w S / (gr_e w g t S : Int)) : gt_in w g t (S + 1) b := by
  refine ⟨fun s hs h0 => ?_, h.2.imp id (fun ⟨s, s1, s2⟩ => ⟨s, by omega, s2⟩)⟩
  by_cases q : s = S
  · subst q
    rcases h1 with h1 | h1
    · omega
    · exact h1
  · exact h.1 s (by omega) h0
theorem gt_take {w : pf_S} {g t S : Nat} {b : Int} (h : gt_in w g t S b) (h0 : 0 < gr_e w g t S) (h1 : slk w S / (gr_e w g t S : Int) < b) : gt_in w g t (S + 1) (slk w S / (gr_e w g t S : Int)) := by
  refine ⟨fun s hs h2 => ?_, Or.inr ⟨S, by omega, h0, rfl⟩⟩
  by_cases q : s = S
  · subst q
    exact Int.le_refl _
  · have := h.1 s (by omega) h2
    omega
theorem sl_cl {u v : md_S} (hok : md_ok u) (h : cl_post u v) (S : Nat) : sl v S = slk (vw u) S := by
  have h10 := hok.1.2
  have hv : v.1 1 = u.1 1 := h.1.1.1
  have e := sl_dl h.2.2.2.1.S (fun d hd => by have : d / 3 < u.1 2 := hd.1; omega) (fr := fr_of (vw u)) (Wt := cv_W (vw u)) (fun a ha => h.2.2.2.2 a (by omega)) (fun d _ => by
    unfold cv_W
    rw [← pif_if]
    exact pif_iff cvb_iff) S
  rw [e, hv]
  rfl
theorem il_trunc {f : Nat → Int} {n : Nat} : ∀ {m : Nat}, n ≤ m → (∀ k, n ≤ k → k < m → f k = 0) → il_sum f m = il_sum f n
  | 0, h, _ => by rw [show n = 0 by omega]
  | m + 1, h, hz => by
    by_cases q : n = m + 1
    · rw [q]
    · rw [il_s, hz m (by omega) (by omega), il_trunc (m := m) (by omega) (fun k h1 h2 => hz k h1 (by omega))]
      omega
theorem il_congr {f g : Nat → Int} : ∀ {n : Nat}, (∀ k, k < n → f k = g k) → il_sum f n = il_sum g n
  | 0, _ => rfl
  | n + 1, h => by rw [il_s, il_s, il_congr (fun k hk => h k (Nat.lt_succ_of_lt hk)), h n (Nat.lt_succ_self n)]
theorem gz_sl {v z : md_S} {o g t i : Nat} (h : dm_add v z o g t 0 i) (S : Nat) : sl z S = sl v S := by
  obtain ⟨a1, a2, a3, a4, a5, a6, a7, a8⟩ := h
  unfold sl
  have e1 : il_sum (sl_a z S) (z.1 1) = il_sum (sl_a v S) (v.1 1) := by
    rw [a1.1]
    refine il_congr fun a _ => ?_
    unfold sl_a
    rw [a6]
  have e2 : il_sum (sl_d z S) (z.1 3) = il_sum (sl_d v S) (v.1 3) := by
    rw [a4, il_trunc (n := v.1 3) (by omega) (fun k h1 h2 => ?_)]
    · refine il_congr fun d hd => ?_
      unfold sl_d
      rw [(a7 d (Or.inl hd)).2.2.1, (a7 d (Or.inl hd)).2.2.2]
    · have h8 := a8 (k - v.1 3) (by omega)
      rw [show v.1 3 + (k - v.1 3) = k by omega] at h8
      unfold sl_d
      rw [h8.2.2.2, Nat.zero_mul]
      split <;> rfl
  rw [e1, e2]
theorem us_full {w : pf_S} (h : w.1 0 ≤ 10) (g t : Nat) : us_f w g t &&& ((1 <<< w.1 0 - 1) ^^^ 4294967295) = 0 := by
  apply Nat.eq_of_testBit_eq
  intro i
  rw [Nat.zero_testBit, Nat.testBit_and]
  by_cases q : (us_f w g t).testBit i = true
  · have hi := us_f_lt q
    rw [Nat.testBit_xor, all_bit (by omega), Nat.one_shiftLeft, Nat.testBit_two_pow_sub_one]
    simp [hi]
  · rw [Bool.eq_false_iff.mpr q]
    rfl
theorem gr_full {w : pf_S} (h : w.1 0 ≤ 10) {g t : Nat} (hp : 0 < fl_sum (gd_d1 w g) (gd_dn w g)) : 0 < gr_e w g t (1 <<< w.1 0 - 1) := by
  unfold gr_e
  rw [fl_sum_congr (g := gd_d1 w g) (fun x _ => by unfold er; rw [if_pos (us_full h _ _)])]
  exact hp
theorem slk_bd {u v : md_S} (hok : md_ok u) (h : cl_post u v) (S : Nat) : -40000000 ≤ slk (vw u) S ∧ slk (vw u) S ≤ 10000000 := by
  rw [← sl_cl hok h S]
  exact sl_bd (by rw [h.1.1.1]; exact hok.1.1) h.2.1 S
theorem gr_el {w : pf_S} (hg : gd_ok w) {g t S : Nat} (h6 : g < 6) : ∀ {x : Nat}, x ≤ 3 → fl_sum (er w g t S) x ≤ x * 100
  | 0, _ => Nat.le_refl _
  | x + 1, h => by
    have h1 := gr_el hg (t := t) (S := S) h6 (x := x) (by omega)
    have h2 := gd_d1_le hg h6 (x := x) (by omega)
    rw [fl_sum_succ]
    have h3 : er w g t S x ≤ 100 := by
      unfold er
      split <;> omega
    omega
theorem gt_b {w : pf_S} {g t S : Nat} {b : Int} (h : gt_in w g t S b) (hb : ∀ s, 0 ≤ slk w s ∨ S ≤ s) (hu : ∀ s, slk w s ≤ 10000000) : 0 ≤ b ∧ b ≤ 4611686018427387904 ∧ (b = 4611686018427387904 ∨ b ≤ 10000000) := by
  rcases h.2 with h1 | ⟨s, s1, s2, s3⟩
  · rw [h1]
    exact ⟨by decide, by decide, Or.inl rfl⟩
  · have h2 : 0 ≤ slk w s := (hb s).resolve_right (by omega)
    have h3 : 0 ≤ slk w s / (gr_e w g t s : Int) := Int.ediv_nonneg h2 (by omega)
    have h4 : slk w s / (gr_e w g t s : Int) ≤ slk w s := Int.ediv_le_self _ h2
    have h5 := hu s
    omega
set_option maxHeartbeats 4000000 in
set_option maxRecDepth 100000 in
theorem c_X5_greatest (l : Launch) (G : gw_G) (q : Nat → Nat) (u : md_S) (g : Nat) (t : Nat) (hm : md2 u) (hg : g < 6) (ht : t < 100) (hmet : ∀ S, S < 1 <<< u.1 1 → 0 ≤ slk (vw u) S) (hpos : 0 < fl_sum (gd_d1 (vw u) g) (gd_dn (vw u) g)) : gw_MI l yX5_greatest cX5_greatest 10 (some .int) 4 96 [.ref (q 0), .int (nI (g)), .int (nI (t))] G (mw G q) u (fun r u1 => ∃ k : Nat, r = nI k ∧ (cf u u1 ∧ md_bd u1 ∧ gr_post (vw u) g t k)) := by
  refine gw_entryI (own := RX5) (by decide) rfl (Nat.le_of_ble_eq_true rfl) ?_
  intro p e s m args below meth c A ls C Hh hl
  have hl : lv_has ls 10 [(0, .ref (q 0)), (1, .int (nI (g))), (2, .int (nI (t)))] := hl
  have hok := hm.1
  have hbd := hm.2
  have h01 := hok.1.1
  have h02 := hok.1.2
  have hg9 := hok.2.1 g hg
  have hdn := gd_dn_le (md_gd hok) hg
  refine lv_aload_n C.1 C.2.1 dX5_greatest_0 rfl (lv_at hl 0 rfl) ?_
  refine gw_fromV (w := mw G q) (u := u) C Hh (gw_runV (n := 0) (C1 := RX5) [] C Hh (c_X5_collect l G q (u)  (by first | assumption | omega) (by first | assumption | omega) _) tw_895 tw_897 tw_59 tw_71 tw_898 (by decide +kernel) ⟨Nat.le_of_ble_eq_true rfl, Nat.le_of_ble_eq_true rfl⟩ 0 mw_at0 rfl rfl hl.1 (Nat.le_of_ble_eq_true rfl) dX5_greatest_1 ⟨Nat.zero_le _, Nat.zero_le _⟩) (fun uc_1 H locs hp_1 Hh => ?_)
  have hok1 := sc_ok hp_1.1.1 hok
  have n3 := hp_1.2.2.1
  have hv1 : vw uc_1 = vw u := sc_vw hp_1.1.1
  refine lv_aload_n C.1 C.2.1 dX5_greatest_4 rfl (lv_at hl 0 rfl) ?_
  refine gw_get (Cn := RX5) (T := TX5) (N := 29) C Hh 0 mw_at0 rfl uwX5 17 (by decide) rfl tw_740 rfl dX5_greatest_5 ?_
  refine lv_istore_n (lv' := [(3, .int (nI (uc_1.1 3))), (0, .ref (q 0)), (1, .int (nI (g))), (2, .int (nI (t)))]) C.1 C.2.1 dX5_greatest_8 rfl hl (by decide) rfl (fun ls hl => ?_)
  refine lv_aload_n C.1 C.2.1 dX5_greatest_9 rfl (lv_at hl 1 rfl) ?_
  refine lv_iconst (v := nI 4294967295) C.1 C.2.1 dX5_greatest_10 (by decide +kernel) ?_
  refine lv_iload_n C.1 C.2.1 dX5_greatest_11 rfl (lv_at hl 2 rfl) ?_
  refine lv_iconst (v := nI 0) C.1 C.2.1 dX5_greatest_12 (by decide +kernel) ?_
  refine lv_iload_n C.1 C.2.1 dX5_greatest_13 rfl (lv_at hl 3 rfl) ?_
  refine gw_fromV (w := mw G q) (u := uc_1) C Hh (gw_runV (n := 4) (C1 := RX5) [.int (nI (4294967295)), .int (nI (g)), .int (nI (0)), .int (nI (t))] C Hh (c_X5_addOrder l G q (uc_1) (4294967295) (g) (0) (t) (by exact hok1) (by first | assumption | omega) (by first | assumption | omega) (by first | assumption | omega) (by first | assumption | omega) _) tw_839 tw_841 tw_51 tw_71 tw_842 (by decide +kernel) ⟨Nat.le_of_ble_eq_true rfl, Nat.le_of_ble_eq_true rfl⟩ 0 mw_at0 rfl rfl hl.1 (Nat.le_of_ble_eq_true rfl) dX5_greatest_14 ⟨Nat.zero_le _, Nat.zero_le _⟩) (fun uc_14 H locs hp_14 Hh => ?_)
  have hbd2 := dm_bd hok1 hp_1.2.1 hg (by decide) (by omega) hp_14
  have q14 := hp_14
  rw [hv1] at q14
  obtain ⟨d1, d2, d3, d4, d5, d6, d7, d8⟩ := q14
  have hok14 := sc_ok d1 hok1
  have hsl9 : ∀ s, sl uc_14 s = slk (vw u) s := fun s => (gz_sl hp_14 s).trans (sl_cl hok hp_1 s)
  have hbd9 := slk_bd hok hp_1
  have n14 : uc_14.1 1 = u.1 1 := d1.1.trans hp_1.1.1.1
  have e14 : ∀ k, 1 ≤ k → k ≤ 14 → uc_14.2.1 k = u.2.1 k := fun k k1 k2 => (d1.2.2 k k1 k2).trans (hp_1.1.1.2.2 k k1 k2)
  have h14 : uc_14.1 1 ≤ 10 := by omega
  have hs9 := shl_le h01
  refine lv_ldc2 (v := 4611686018427387904) C.1 C.2.1 C.cl (C.ts tw_915) dX5_greatest_17 ?_
  refine W.eq (g2 := F0 m 20 ls [.long (Int64.ofInt (4611686018427387904))]) rfl ?_
  refine lv_lstore (lv' := [(4, .long (Int64.ofInt (4611686018427387904))), (3, .int (nI (uc_1.1 3))), (0, .ref (q 0)), (1, .int (nI (g))), (2, .int (nI (t)))]) C.1 C.2.1 dX5_greatest_20 hl (by decide) rfl (fun ls hl => ?_)
  refine lv_iconst (v := nI 0) C.1 C.2.1 dX5_greatest_22 (by decide +kernel) ?_
  refine lv_istore (lv' := [(6, .int (nI (0))), (4, .long (Int64.ofInt (4611686018427387904))), (3, .int (nI (uc_1.1 3))), (0, .ref (q 0)), (1, .int (nI (g))), (2, .int (nI (t)))]) C.1 C.2.1 dX5_greatest_23 hl (by decide) rfl (fun ls hl => ?_)
  have loop_25 : ∀ (fu : Nat) (b : Int) (S : Nat) (H : Heap) (locs : List Loc) (ls : Array Slot), (S ≤ 1 <<< u.1 1) → (gt_in (vw u) g t S b) → 1 <<< u.1 1 - S < fu → gw_H G A s (mw G q uc_14) H locs → lv_has ls 10 [(0, .ref (q 0)), (1, .int (nI (g))), (2, .int (nI (t))), (3, .int (nI (uc_1.1 3))), (4, .long (Int64.ofInt (b))), (6, .int (nI (S)))] → W p l e (gw_rm 4 96) s m args below meth c H locs 0 0 (MQ below (va_Qi (fun r u1 => ∃ k : Nat, r = nI k ∧ (cf u u1 ∧ md_bd u1 ∧ gr_post (vw u) g t k)) (gw_at G A (mw G q)) A) args s 0 0 A) (F0 m 25 ls []) := by
    intro fu
    induction fu with
    | zero =>
      intro b S  H locs ls hS hb hmf
      exact absurd hmf (Nat.not_lt_zero _)
    | succ fu ih_25 =>
      intro b S  H locs ls hS hb hmf Hh hl
      have hE8 : S = 1 <<< u.1 1 → b ≤ 10000000 := fun e => by (have q1 := hb.1 (1 <<< u.1 1 - 1) (by omega) (gr_full h01 hpos); have q2 := hmet (1 <<< u.1 1 - 1) (by omega); have q3 := Int.ediv_le_self (gr_e (vw u) g t (1 <<< u.1 1 - 1) : Int) q2; have q4 := (hbd9 (1 <<< u.1 1 - 1)).2; omega)
      have hbb := gt_b hb (fun s => (Nat.lt_or_ge s S).imp (fun q => hmet s (by omega)) id) (fun s => (hbd9 s).2)
      refine lv_iload C.1 C.2.1 dX5_greatest_25 (lv_at hl 5 rfl) ?_
      refine lv_iconst (v := nI 1) C.1 C.2.1 dX5_greatest_27 (by decide +kernel) ?_
      refine lv_aload_n C.1 C.2.1 dX5_greatest_28 rfl (lv_at hl 0 rfl) ?_
      refine gw_get (Cn := RX5) (T := TX5) (N := 29) C Hh 0 mw_at0 rfl uwX5 6 (by decide) rfl tw_729 rfl dX5_greatest_29 ?_
      rw [n14]
      refine gw_ishl C dX5_greatest_32 (by omega) ?_
      refine gw_icmp_ge (tgt := 142) C dX5_greatest_33 (by decide) (by omega) (by omega) (fun hc_33 => ?_) (fun hc_33 => ?_)
      · skip
        refine lv_aload_n C.1 C.2.1 dX5_greatest_142 rfl (lv_at hl 0 rfl) ?_
        refine lv_iload_n C.1 C.2.1 dX5_greatest_143 rfl (lv_at hl 3 rfl) ?_
        refine gw_put (Cn := RX5) (T := TX5) (N := 29) (ty0 := tyX5) (v := nI (uc_1.1 3)) C Hh 0 mw_at0 rfl uwX5 tyX5_ok nmX5 17 (by decide) rfl tw_740 rfl (by decide +kernel) (Nat.le_of_ble_eq_true rfl) mw_num3 dX5_greatest_144 (fun H locs Hh => ?_)
        refine lv_lload C.1 C.2.1 dX5_greatest_147 (lv_at hl 4 rfl) ?_
        refine gw_l2i C dX5_greatest_149 (by exact hbb.1) (by have q5 := hE8 (by omega); omega) ?_
        exact gw_iret (w := mw G q) (u := (up1 uc_14.1 3 (uc_1.1 3), uc_14.2.1, uc_14.2.2)) C Hh dX5_greatest_150 ⟨_, rfl, by refine ⟨⟨(hp_1.1.1.tr d1).tr ⟨rfl, rfl, fun _ _ _ => rfl⟩, d2.trans hp_1.1.2⟩, ⟨by show uc_1.1 3 ≤ 40; omega, hbd2.2⟩, ?_⟩; have hS1 : S = 1 <<< u.1 1 := (by omega); rw [hS1] at hb; have q0 : (b.toNat : Int) = b := Int.toNat_of_nonneg hbb.1; refine ⟨fun s s1 s2 => by rw [q0]; exact hb.1 s s1 s2, ?_⟩; rcases hb.2 with q1 | ⟨s, s1, s2, s3⟩; (have q5 := hE8 (by omega); omega); exact ⟨s, s1, s2, by rw [q0]; exact s3⟩⟩
      · skip
        refine lv_lconst (v := Int64.ofInt (0)) C.1 C.2.1 dX5_greatest_36 rfl ?_
        refine lv_lstore (lv' := [(7, .long (Int64.ofInt (0))), (0, .ref (q 0)), (1, .int (nI (g))), (2, .int (nI (t))), (3, .int (nI (uc_1.1 3))), (4, .long (Int64.ofInt (b))), (6, .int (nI (S)))]) C.1 C.2.1 dX5_greatest_37 hl (by decide) rfl (fun ls hl => ?_)
        refine lv_iload_n C.1 C.2.1 dX5_greatest_39 rfl (lv_at hl 4 rfl) ?_
        refine lv_istore (lv' := [(9, .int (nI (uc_1.1 3))), (7, .long (Int64.ofInt (0))), (0, .ref (q 0)), (1, .int (nI (g))), (2, .int (nI (t))), (3, .int (nI (uc_1.1 3))), (4, .long (Int64.ofInt (b))), (6, .int (nI (S)))]) C.1 C.2.1 dX5_greatest_40 hl (by decide) rfl (fun ls hl => ?_)
        have loop_42 : ∀ (fu : Nat) (ea : Int) (x : Nat) (H : Heap) (locs : List Loc) (ls : Array Slot), (x ≤ gd_dn (vw u) g) → (ea = (fl_sum (er (vw u) g t S) x : Int)) → gd_dn (vw u) g - x < fu → gw_H G A s (mw G q uc_14) H locs → lv_has ls 10 [(0, .ref (q 0)), (1, .int (nI (g))), (2, .int (nI (t))), (3, .int (nI (uc_1.1 3))), (4, .long (Int64.ofInt (b))), (6, .int (nI (S))), (7, .long (Int64.ofInt (ea))), (9, .int (nI (uc_1.1 3 + x)))] → W p l e (gw_rm 4 96) s m args below meth c H locs 0 0 (MQ below (va_Qi (fun r u1 => ∃ k : Nat, r = nI k ∧ (cf u u1 ∧ md_bd u1 ∧ gr_post (vw u) g t k)) (gw_at G A (mw G q)) A) args s 0 0 A) (F0 m 42 ls []) := by
          intro fu
          induction fu with
          | zero =>
            intro ea x  H locs ls hx hea hmf
            exact absurd hmf (Nat.not_lt_zero _)
          | succ fu ih_42 =>
            intro ea x  H locs ls hx hea hmf Hh hl
            refine lv_iload C.1 C.2.1 dX5_greatest_42 (lv_at hl 7 rfl) ?_
            refine lv_aload_n C.1 C.2.1 dX5_greatest_44 rfl (lv_at hl 0 rfl) ?_
            refine gw_get (Cn := RX5) (T := TX5) (N := 29) C Hh 0 mw_at0 rfl uwX5 17 (by decide) rfl tw_740 rfl dX5_greatest_45 ?_
            refine gw_icmp_ge (tgt := 103) C dX5_greatest_48 (by decide) (by omega) (by omega) (fun hc_48 => ?_) (fun hc_48 => ?_)
            · skip
              have hE9 : ea = (gr_e (vw u) g t S : Int) := by (rw [hea, show x = gd_dn (vw u) g by omega]; rfl)
              have hEl : gr_e (vw u) g t S ≤ 300 := by (have := gr_el (md_gd hok) (t := t) (S := S) hg hdn.2; unfold gr_e; omega)
              have join_136 : ∀ (b2 : Int) (H : Heap) (locs : List Loc) (ls : Array Slot), (gt_in (vw u) g t (S + 1) b2) → gw_H G A s (mw G q uc_14) H locs → lv_has ls 10 [(0, .ref (q 0)), (1, .int (nI (g))), (2, .int (nI (t))), (3, .int (nI (uc_1.1 3))), (4, .long (Int64.ofInt (b2))), (6, .int (nI (S)))] → W p l e (gw_rm 4 96) s m args below meth c H locs 0 0 (MQ below (va_Qi (fun r u1 => ∃ k : Nat, r = nI k ∧ (cf u u1 ∧ md_bd u1 ∧ gr_post (vw u) g t k)) (gw_at G A (mw G q)) A) args s 0 0 A) (F0 m 136 ls []) := by
                intro b2  H locs ls hb2 Hh hl
                refine lv_iinc (v := nI (S + 1)) (lv' := [(6, .int (nI (S + 1))), (0, .ref (q 0)), (1, .int (nI (g))), (2, .int (nI (t))), (3, .int (nI (uc_1.1 3))), (4, .long (Int64.ofInt (b2)))]) C.1 C.2.1 dX5_greatest_136 hl (k := 5) rfl (nI_add _ 1) (by decide) rfl (fun ls hl => ?_)
                refine lv_goto (tgt := 25) C.1 C.2.1 dX5_greatest_139 (by decide) ?_
                exact ih_25 (b2) (S + 1)  _ _ _ (by omega) (by exact hb2) (by omega) Hh (lv_sub hl [1, 2, 3, 4, 5, 0] rfl)
              refine lv_lload C.1 C.2.1 dX5_greatest_103 (lv_at hl 6 rfl) ?_
              refine lv_lconst (v := Int64.ofInt (0)) C.1 C.2.1 dX5_greatest_105 rfl ?_
              refine gw_lc_le (tgt := 136) C dX5_greatest_106 dX5_greatest_107 (by decide) (by unfold lg; omega) (by exact lg_0) (fun hc_106 => ?_) (fun hc_106 => ?_)
              · skip
                exact join_136 (b)  _ _ _ (by exact gt_skip hb (Or.inl (by omega))) Hh (lv_sub hl [0, 1, 2, 3, 4, 5] rfl)
              · skip
                refine lv_aload_n C.1 C.2.1 dX5_greatest_110 rfl (lv_at hl 0 rfl) ?_
                refine lv_iload C.1 C.2.1 dX5_greatest_111 (lv_at hl 5 rfl) ?_
                refine gw_fromL (w := mw G q) (u := uc_14) C Hh (gw_runV (n := 1) (C1 := RX5) [.int (nI (S))] C Hh (c_X5_slack l G q (uc_14) (S) (by exact h14) (by exact hbd2) _) tw_855 tw_857 tw_55 tw_71 tw_858 (by decide +kernel) ⟨Nat.le_of_ble_eq_true rfl, Nat.le_of_ble_eq_true rfl⟩ 0 mw_at0 rfl rfl hl.1 (Nat.le_of_ble_eq_true rfl) dX5_greatest_113 ⟨Nat.zero_le _, Nat.zero_le _⟩) (fun rc_113 uc_113 H locs hp_113 Hh => ?_)
                obtain ⟨kc_113, rfl, hp_113⟩ := hp_113
                obtain ⟨hk_113, hu_113⟩ := hp_113
                rw [hu_113] at Hh
                clear hu_113
                refine lv_lload C.1 C.2.1 dX5_greatest_116 (lv_at hl 6 rfl) ?_
                refine gw_ldiv C dX5_greatest_118 (by rw [hk_113]; exact sl_lg h14 hbd2 S) (by unfold lg; omega) (by rw [hk_113, hsl9]; exact hmet S (by omega)) (by omega) ?_
                refine lv_lload C.1 C.2.1 dX5_greatest_119 (lv_at hl 4 rfl) ?_
                refine gw_lc_ge (tgt := 136) C dX5_greatest_121 dX5_greatest_122 (by decide) (by have q1 : 0 ≤ slk (vw u) S := hmet S (by omega); have q2 := (hbd9 S).2; rw [hk_113, hsl9]; have q3 := Int.ediv_nonneg q1 (show (0 : Int) ≤ ea by omega); have q4 := Int.ediv_le_self ea q1; unfold lg; omega) (by unfold lg; omega) (fun hc_121 => ?_) (fun hc_121 => ?_)
                · skip
                  exact join_136 (b)  _ _ _ (by refine gt_skip hb (Or.inr ?_); rw [hk_113, hsl9, hE9] at hc_121; exact hc_121) Hh (lv_sub hl [0, 1, 2, 3, 4, 5] rfl)
                · skip
                  refine lv_aload_n C.1 C.2.1 dX5_greatest_125 rfl (lv_at hl 0 rfl) ?_
                  refine lv_iload C.1 C.2.1 dX5_greatest_126 (lv_at hl 5 rfl) ?_
                  refine gw_fromL (w := mw G q) (u := uc_14) C Hh (gw_runV (n := 1) (C1 := RX5) [.int (nI (S))] C Hh (c_X5_slack l G q (uc_14) (S) (by exact h14) (by exact hbd2) _) tw_855 tw_857 tw_55 tw_71 tw_858 (by decide +kernel) ⟨Nat.le_of_ble_eq_true rfl, Nat.le_of_ble_eq_true rfl⟩ 0 mw_at0 rfl rfl hl.1 (Nat.le_of_ble_eq_true rfl) dX5_greatest_128 ⟨Nat.zero_le _, Nat.zero_le _⟩) (fun rc_128 uc_128 H locs hp_128 Hh => ?_)
                  obtain ⟨kc_128, rfl, hp_128⟩ := hp_128
                  obtain ⟨hk_128, hu_128⟩ := hp_128
                  rw [hu_128] at Hh
                  clear hu_128
                  refine lv_lload C.1 C.2.1 dX5_greatest_131 (lv_at hl 6 rfl) ?_
                  refine gw_ldiv C dX5_greatest_133 (by rw [hk_128]; exact sl_lg h14 hbd2 S) (by unfold lg; omega) (by rw [hk_128, hsl9]; exact hmet S (by omega)) (by omega) ?_
                  refine lv_lstore (lv' := [(4, .long (Int64.ofInt (kc_128 / ea))), (0, .ref (q 0)), (1, .int (nI (g))), (2, .int (nI (t))), (3, .int (nI (uc_1.1 3))), (6, .int (nI (S))), (7, .long (Int64.ofInt (ea))), (9, .int (nI (uc_1.1 3 + x)))]) C.1 C.2.1 dX5_greatest_134 hl (by decide) rfl (fun ls hl => ?_)
                  exact join_136 (kc_128 / ea)  _ _ _ (by have q9 := hc_121; rw [hk_113, hsl9, hE9] at q9; rw [hk_128, hsl9, hE9]; exact gt_take hb (by omega) q9) Hh (lv_sub hl [1, 2, 3, 4, 0, 5] rfl)
            · skip
              have hm9 : uc_14.2.1 18 (uc_1.1 3 + x) = us_f (vw u) (gd_dg (vw u) g x) t := by (rw [← hv1]; exact (d8 x (by omega)).2.2.1)
              refine lv_aload_n C.1 C.2.1 dX5_greatest_51 rfl (lv_at hl 0 rfl) ?_
              refine gw_get (Cn := RX5) (T := TX5) (N := 29) C Hh 0 mw_at0 rfl uwX5 21 (by decide) rfl tw_744 rfl dX5_greatest_52 ?_
              refine lv_iload C.1 C.2.1 dX5_greatest_55 (lv_at hl 7 rfl) ?_
              have join_97 : ∀ (ea2 : Int) (H : Heap) (locs : List Loc) (ls : Array Slot), (ea2 = (fl_sum (er (vw u) g t S) (x + 1) : Int)) → gw_H G A s (mw G q uc_14) H locs → lv_has ls 10 [(0, .ref (q 0)), (1, .int (nI (g))), (2, .int (nI (t))), (3, .int (nI (uc_1.1 3))), (4, .long (Int64.ofInt (b))), (6, .int (nI (S))), (7, .long (Int64.ofInt (ea2))), (9, .int (nI (uc_1.1 3 + x)))] → W p l e (gw_rm 4 96) s m args below meth c H locs 0 0 (MQ below (va_Qi (fun r u1 => ∃ k : Nat, r = nI k ∧ (cf u u1 ∧ md_bd u1 ∧ gr_post (vw u) g t k)) (gw_at G A (mw G q)) A) args s 0 0 A) (F0 m 97 ls []) := by
                intro ea2  H locs ls hea2 Hh hl
                refine lv_iinc (v := nI (uc_1.1 3 + x + 1)) (lv' := [(9, .int (nI (uc_1.1 3 + x + 1))), (0, .ref (q 0)), (1, .int (nI (g))), (2, .int (nI (t))), (3, .int (nI (uc_1.1 3))), (4, .long (Int64.ofInt (b))), (6, .int (nI (S))), (7, .long (Int64.ofInt (ea2)))]) C.1 C.2.1 dX5_greatest_97 hl (k := 7) rfl (nI_add _ 1) (by decide) rfl (fun ls hl => ?_)
                refine lv_goto (tgt := 42) C.1 C.2.1 dX5_greatest_100 (by decide) ?_
                exact ih_42 (ea2) (x + 1)  _ _ _ (by omega) (by exact hea2) (by omega) Hh (lv_sub hl [1, 2, 3, 4, 5, 6, 7, 0] rfl)
              refine gw_ld C Hh 18 mw_at18 (by decide) dX5_greatest_57 (by omega) ?_
              refine lv_iload C.1 C.2.1 dX5_greatest_58 (lv_at hl 5 rfl) ?_
              refine lv_iconst (v := nI 4294967295) C.1 C.2.1 dX5_greatest_60 (by decide +kernel) ?_
              refine gw_ixor C dX5_greatest_61 ?_
              refine gw_iand C dX5_greatest_62 ?_
              refine gw_if_ne (tgt := 97) C dX5_greatest_63 (by decide) (by have := (hbd2.2.1 (uc_1.1 3 + x) (by omega)).1; exact Nat.lt_trans (and_lt this) (by decide)) (fun hc_63 => ?_) (fun hc_63 => ?_)
              · skip
                exact join_97 (ea)  _ _ _ (by rw [hea, fl_sum_succ]; unfold er; rw [if_neg (by rw [← hm9]; omega)]; rfl) Hh (lv_sub hl [0, 1, 2, 3, 4, 5, 6, 7] rfl)
              · skip
                have join_94 : ∀ (v : Int) (H : Heap) (locs : List Loc) (ls : Array Slot), (v = (er (vw u) g t S x : Int)) → gw_H G A s (mw G q uc_14) H locs → lv_has ls 10 [(0, .ref (q 0)), (1, .int (nI (g))), (2, .int (nI (t))), (3, .int (nI (uc_1.1 3))), (4, .long (Int64.ofInt (b))), (6, .int (nI (S))), (7, .long (Int64.ofInt (ea))), (9, .int (nI (uc_1.1 3 + x)))] → W p l e (gw_rm 4 96) s m args below meth c H locs 0 0 (MQ below (va_Qi (fun r u1 => ∃ k : Nat, r = nI k ∧ (cf u u1 ∧ md_bd u1 ∧ gr_post (vw u) g t k)) (gw_at G A (mw G q)) A) args s 0 0 A) (F0 m 94 ls [.long (Int64.ofInt (v)), .long (Int64.ofInt (ea))]) := by
                  intro v  H locs ls hv Hh hl
                  refine gw_ladd C dX5_greatest_94 ?_
                  refine lv_lstore (lv' := [(7, .long (Int64.ofInt (ea + v))), (0, .ref (q 0)), (1, .int (nI (g))), (2, .int (nI (t))), (3, .int (nI (uc_1.1 3))), (4, .long (Int64.ofInt (b))), (6, .int (nI (S))), (9, .int (nI (uc_1.1 3 + x)))]) C.1 C.2.1 dX5_greatest_95 hl (by decide) rfl (fun ls hl => ?_)
                  exact join_97 (ea + v)  _ _ _ (by rw [hea, fl_sum_succ, hv, Int.natCast_add]) Hh (lv_sub hl [1, 2, 3, 4, 5, 6, 0, 7] rfl)
                refine lv_lload C.1 C.2.1 dX5_greatest_66 (lv_at hl 6 rfl) ?_
                refine lv_aload_n C.1 C.2.1 dX5_greatest_68 rfl (lv_at hl 0 rfl) ?_
                refine lv_iload_n C.1 C.2.1 dX5_greatest_69 rfl (lv_at hl 1 rfl) ?_
                refine gw_fromI (w := mw G q) (u := uc_14) C Hh (gw_runV (n := 1) (C1 := RX5) [.int (nI (g))] C Hh (c_X5_isKit l G q (uc_14) (g) (by exact hok14) (by first | assumption | omega) _) tw_827 tw_829 tw_48 tw_71 tw_830 (by decide +kernel) ⟨Nat.le_of_ble_eq_true rfl, Nat.le_of_ble_eq_true rfl⟩ 0 mw_at0 rfl rfl hl.1 (Nat.le_of_ble_eq_true rfl) dX5_greatest_70 ⟨Nat.zero_le _, Nat.zero_le _⟩) (fun rc_70 uc_70 H locs hp_70 Hh => ?_)
                obtain ⟨kc_70, rfl, hp_70⟩ := hp_70
                obtain ⟨hk_70, hu_70⟩ := hp_70
                rw [hu_70] at Hh
                clear hu_70
                have e3g : uc_14.2.1 3 g = u.2.1 3 g := by rw [e14 3 (by decide) (by decide)]
                refine gw_if_eq (tgt := 93) C dX5_greatest_73 (by decide) (by split at hk_70 <;> omega) (fun hc_73 => ?_) (fun hc_73 => ?_)
                · skip
                  refine lv_lconst (v := Int64.ofInt (1)) C.1 C.2.1 dX5_greatest_93 rfl ?_
                  exact join_94 (1)  _ _ _ (by unfold er; rw [← hm9, if_pos hc_63]; unfold gd_d1; rw [if_neg (show ¬ 0 < (vw u).2 7 g by show ¬ 0 < u.2.1 3 g; split at hk_70 <;> omega)]; rfl) Hh (lv_sub hl [0, 1, 2, 3, 4, 5, 6, 7] rfl)
                · skip
                  refine lv_aload_n C.1 C.2.1 dX5_greatest_76 rfl (lv_at hl 0 rfl) ?_
                  refine gw_get (Cn := RX5) (T := TX5) (N := 29) C Hh 0 mw_at0 rfl uwX5 5 (by decide) rfl tw_728 rfl dX5_greatest_77 ?_
                  refine lv_iconst (v := nI 3) C.1 C.2.1 dX5_greatest_80 (by decide +kernel) ?_
                  refine lv_iload_n C.1 C.2.1 dX5_greatest_81 rfl (lv_at hl 1 rfl) ?_
                  refine gw_imul C dX5_greatest_82 ?_
                  refine lv_iload C.1 C.2.1 dX5_greatest_83 (lv_at hl 7 rfl) ?_
                  refine gw_iadd C dX5_greatest_85 ?_
                  refine lv_iload_n C.1 C.2.1 dX5_greatest_86 rfl (lv_at hl 3 rfl) ?_
                  refine gw_isub C dX5_greatest_87 (by omega) ?_
                  refine gw_ld C Hh 5 mw_at5 (by decide) dX5_greatest_88 (by split at hk_70 <;> omega) ?_
                  refine gw_i2l C dX5_greatest_89 (by have := (hok14.2.2.1 ((3 * g) + (uc_1.1 3 + x) - uc_1.1 3) (by split at hk_70 <;> omega)).2; omega) ?_
                  refine lv_goto (tgt := 94) C.1 C.2.1 dX5_greatest_90 (by decide) ?_
                  exact join_94 (((uc_14.2.1 5 ((3 * g) + (uc_1.1 3 + x) - uc_1.1 3) : Nat) : Int))  _ _ _ (by unfold er; rw [← hm9, if_pos hc_63]; unfold gd_d1; rw [if_pos (show 0 < (vw u).2 7 g by show 0 < u.2.1 3 g; split at hk_70 <;> omega), show (3 * g) + (uc_1.1 3 + x) - uc_1.1 3 = g * 3 + x by omega, e14 5 (by decide) (by decide)]; rfl) Hh (lv_sub hl [0, 1, 2, 3, 4, 5, 6, 7] rfl)
        exact loop_42 _ (0) (0)  _ _ _ (by omega) (by rfl) (Nat.lt_succ_self _) Hh (lv_sub hl [2, 3, 4, 5, 6, 7, 1, 0] rfl)
  exact loop_25 _ (4611686018427387904) (0)  _ _ _ (by exact Nat.zero_le _) (by exact gt_0) (Nat.lt_succ_self _) Hh (lv_sub hl [3, 4, 5, 2, 1, 0] rfl)
