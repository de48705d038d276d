theorem col_le {w : pf_S} {D i : Nat} {e : Nat → Nat} (he : enu w D e) (h10 : w.1 1 ≤ 10) (hi : i ≤ D) (F : Nat → Nat) : fl_sum (fun j => F (e j)) i ≤ fl_sum F 31 := by
  rw [rx (e := e) (F := F) (N := 31) (fun j hj => by have := (he.1 j (by omega)).1; omega) (fun j k hj hk => pbf_ne (he.2.2 j k hj (by omega)))]
  refine fl_sum_le fun d _ => ?_
  by_cases q : ∃ j, j < i ∧ e j = d
  · rw [pif_pos q]
    exact Nat.le_refl _
  · rw [pif_neg q]
    exact Nat.zero_le _
theorem bf_put {w : pf_S} {X : Nat → Nat → Nat} {d a : Nat} {B : Nat → Prop} (ha : a < w.1 0) (hB : ¬ B a) : bf_s w X d (fun b => B b ∨ b = a) = bf_s w X d B + X d a := by
  have h := fl_sum_rest (f := fun b => pif (B b ∨ b = a) (X d b) 0) (g := fun b => pif (B b) (X d b) 0) ha (fun j _ hne => pif_iff ⟨fun q => q.resolve_right hne, Or.inl⟩)
  rw [pif_pos (c := B a ∨ a = a) (Or.inr rfl), pif_neg hB] at h
  unfold bf_s
  omega
theorem bf_le {w : pf_S} {X : Nat → Nat → Nat} {d : Nat} {B : Nat → Prop} : bf_s w X d B ≤ fl_sum (X d) (w.1 0) := fl_sum_le fun b _ => by
  by_cases q : B b
  · rw [pif_pos q]
    exact Nat.le_refl _
  · rw [pif_neg q]
    exact Nat.zero_le _
def pn_v (v : md_S) (i a : Nat) (k : Int) : md_S := (up1 v.1 4 (v.1 4 + 1), up2 (up2 (up2 (up2 (up2 v.2.1 20 (v.1 4) (v.2.1 15 i)) 21 (v.1 4) i) 22 (v.1 4) (v.2.1 16 i)) 23 (v.1 4) a) 24 (v.1 4) k.toNat, up3 (up3 v.2.2 19 a (v.2.2 19 a - k)) 17 i (v.2.2 17 i - k))
theorem pn_put {u v : md_S} {X : Nat → Nat → Nat} {e : Nat → Nat} {D i a : Nat} {k : Int} (hok : md_ok u) (hX : X_ok (vw u) X) (he : enu (vw u) D e) (hi : i < D) (ha : a < u.1 1) (han : a ≠ 4294967295) (hk : k = (X (e i) a : Int)) (h0 : 0 < X (e i) a) (h : pn_in u X e D i (bfr (u.2.1 6) a) v) : pn_in u X e D i (fun b => bfr (u.2.1 6) a b ∨ b = a) (pn_v v i a k) := by
  have hBa : ¬ bfr (u.2.1 6) a a := fun q => kx_irr (q.resolve_left han)
  have h10 : (vw u).1 1 ≤ 10 := hok.1.2
  have hcol := col_le he h10 (i := i + 1) (by omega) (fun d => X d a)
  rw [fl_sum_succ] at hcol
  have hcol2 := hX.2.1 a ha
  have hrow := hX.1 _ (he.1 i hi)
  have hbf := bf_put (w := vw u) (X := X) (d := e i) (B := bfr (u.2.1 6) a) ha hBa
  have hbl := bf_le (w := vw u) (X := X) (d := e i) (B := fun b => bfr (u.2.1 6) a b ∨ b = a)
  obtain ⟨h1, h2, h3, h4, h5, h6, jr, br, h7, h8, h9⟩ := h
  have e19 : ∀ b, (pn_v v i a k).2.2 19 b = if b = a then v.2.2 19 a - k else v.2.2 19 b := fun b => rfl
  have e17 : ∀ j, (pn_v v i a k).2.2 17 j = if j = i then v.2.2 17 i - k else v.2.2 17 j := fun j => rfl
  have e20 : ∀ r, (pn_v v i a k).2.1 20 r = if r = v.1 4 then v.2.1 15 i else v.2.1 20 r := fun r => rfl
  have e21 : ∀ r, (pn_v v i a k).2.1 21 r = if r = v.1 4 then i else v.2.1 21 r := fun r => rfl
  have e22 : ∀ r, (pn_v v i a k).2.1 22 r = if r = v.1 4 then v.2.1 16 i else v.2.1 22 r := fun r => rfl
  have e23 : ∀ r, (pn_v v i a k).2.1 23 r = if r = v.1 4 then a else v.2.1 23 r := fun r => rfl
  have e24 : ∀ r, (pn_v v i a k).2.1 24 r = if r = v.1 4 then k.toNat else v.2.1 24 r := fun r => rfl
  have ek : ∀ m, m < 20 → (pn_v v i a k).2.1 m = v.2.1 m := fun m hm => by
    unfold pn_v
    dsimp only
    rw [up2_ne _ (by omega), up2_ne _ (by omega), up2_ne _ (by omega), up2_ne _ (by omega), up2_ne _ (by omega)]
  have n4 : (pn_v v i a k).1 4 = v.1 4 + 1 := rfl
  have hv5 := h5 a ha
  have hv6 := h6 i hi
  unfold pn_h at hv5
  unfold pn_m at hv6
  rw [pif_neg hBa] at hv5
  rw [if_neg (Nat.lt_irrefl i), if_pos rfl] at hv6
  have hdi := (h2.2.1 i (by have := h2.1; omega)).2
  have hai := h2.2.2 a (by have := hok.1.1; omega)
  refine ⟨h1.tr ⟨⟨rfl, rfl, fun m m1 m2 => ek m (by omega)⟩, rfl⟩, ⟨h2.1, fun d hd => ?_, fun b hb => ?_⟩, h3, fun j hj => ?_, fun b hb => ?_, fun j hj => ?_, fun r => if r = v.1 4 then i else jr r, fun r => if r = v.1 4 then a else br r, fun r hr => ?_, fun j b hj hb hc hp => ?_, fun r s hrs hs => ?_⟩
  · rw [ek 18 (by decide), e17]
    refine ⟨(h2.2.1 d hd).1, ?_⟩
    by_cases q : d = i
    · rw [if_pos q]
      omega
    · rw [if_neg q]
      exact (h2.2.1 d hd).2
  · rw [e19]
    by_cases q : b = a
    · rw [if_pos q]
      omega
    · rw [if_neg q]
      exact h2.2.2 b hb
  · rw [ek 15 (by decide), ek 16 (by decide), ek 18 (by decide)]
    exact h4 j hj
  · rw [e19]
    unfold pn_h
    by_cases q : b = a
    · subst q
      rw [if_pos rfl, pif_pos (c := bfr (u.2.1 6) b b ∨ b = b) (Or.inr rfl)]
      omega
    · rw [if_neg q, h5 b hb]
      unfold pn_h
      rw [pif_iff (c := bfr (u.2.1 6) a b ∨ b = a) (d := bfr (u.2.1 6) a b) ⟨fun z => z.resolve_right q, Or.inl⟩]
  · rw [e17]
    unfold pn_m
    by_cases q : j = i
    · subst q
      rw [if_pos rfl, if_neg (Nat.lt_irrefl j), if_pos rfl, hbf, Int.natCast_add]
      omega
    · rw [if_neg q, h6 j hj]
      unfold pn_m
      by_cases q2 : j < i
      · rw [if_pos q2, if_pos q2]
      · rw [if_neg q2, if_neg q2, if_neg q, if_neg q]
  · rw [n4] at hr
    rw [e20, e21, e22, e23, e24]
    dsimp only
    by_cases q : r = v.1 4
    · simp only [if_pos q]
      refine ⟨⟨Or.inr ⟨trivial, Or.inr trivial⟩, hi, ha, h0⟩, (h4 i hi).1, trivial, (h4 i hi).2.1, trivial, ?_⟩
      rw [hk]
      exact Int.toNat_natCast _
    · simp only [if_neg q]
      obtain ⟨⟨g1, g2, g3, g4⟩, g5⟩ := h7 r (by omega)
      exact ⟨⟨g1.imp id (fun z => ⟨z.1, Or.inl z.2⟩), g2, g3, g4⟩, g5⟩
  · by_cases q : j = i ∧ b = a
    · refine ⟨v.1 4, by rw [n4]; omega, ?_, ?_⟩
      · show (if v.1 4 = v.1 4 then i else _) = j
        rw [if_pos rfl, q.1]
      · show (if v.1 4 = v.1 4 then a else _) = b
        rw [if_pos rfl, q.2]
    · obtain ⟨r, r1, r2, r3⟩ := h8 j b hj hb (hc.imp id (fun z => ⟨z.1, z.2.resolve_right (fun y => q ⟨z.1, y⟩)⟩)) hp
      have hne : r ≠ v.1 4 := by omega
      exact ⟨r, by rw [n4]; omega, by show (if r = v.1 4 then i else jr r) = j; rw [if_neg hne]; exact r2, by show (if r = v.1 4 then a else br r) = b; rw [if_neg hne]; exact r3⟩
  · rw [n4] at hs
    dsimp only
    have hne : r ≠ v.1 4 := by omega
    rw [if_neg hne, if_neg hne]
    by_cases q : s = v.1 4
    · rw [if_pos q, if_pos q]
      obtain ⟨⟨g1, -⟩, -⟩ := h7 r (by omega)
      exact g1.imp id (fun z => ⟨z.1, z.2.resolve_left han⟩)
    · rw [if_neg q, if_neg q]
      exact h9 r s hrs (by omega)
def pl_post (u : md_S) (X : Nat → Nat → Nat) (v : md_S) : Prop := ∃ e D, enu (vw u) D e ∧ D ≤ 30 ∧ v.1 4 ≤ 300 ∧ pn_in u X e D D (fun _ => False) v
theorem pn_first {u v : md_S} {X : Nat → Nat → Nat} {e : Nat → Nat} {D i a : Nat} (hok : md_ok u) (hX : X_ok (vw u) X) (he : enu (vw u) D e) (hi : i < D) (h : pn_in u X e D i (fun _ => False) v) (hn : nx_in (u.2.1 6) (fun b => (cmk (vw u) (e i)).testBit b = true) 4294967295 (u.1 1) a) : pn_in u X e D i (bfr (u.2.1 6) a) v :=
  pn_B hX he hi h (fun b hb h0 => ⟨False.elim, fun q => bfr_0 hok.1.1 hn hb (hX.2.2.1 _ (he.1 i hi) b hb h0) q⟩)
theorem pn_step {u v : md_S} {X : Nat → Nat → Nat} {e : Nat → Nat} {D i a p : Nat} (hok : md_ok u) (hX : X_ok (vw u) X) (he : enu (vw u) D e) (hi : i < D) (han : a ≠ 4294967295) (h : pn_in u X e D i (fun b => bfr (u.2.1 6) a b ∨ b = a) v) (hn : nx_in (u.2.1 6) (fun b => (cmk (vw u) (e i)).testBit b = true) a (u.1 1) p) : pn_in u X e D i (bfr (u.2.1 6) p) v :=
  pn_B hX he hi h (fun b hb h0 => (bfr_s hok.1.1 han hn hb (hX.2.2.1 _ (he.1 i hi) b hb h0)).symm)
theorem pn_done {u v : md_S} {X : Nat → Nat → Nat} {e : Nat → Nat} {D i : Nat} (hX : X_ok (vw u) X) (he : enu (vw u) D e) (hi : i < D) (h : pn_in u X e D i (bfr (u.2.1 6) 4294967295) v) : pn_in u X e D (i + 1) (fun _ => False) v :=
  pn_next hX he hi (pn_B hX he hi h (fun b _ _ => ⟨fun _ => trivial, fun _ => Or.inl rfl⟩))
set_option maxHeartbeats 4000000 in
set_option maxRecDepth 100000 in
theorem c_X5_plan (l : Launch) (G : gw_G) (q : Nat → Nat) (u : md_S) (X : Nat → Nat → Nat) (hm : md2 u) (hX : X_ok (vw u) X) : gw_MV l yX5_plan cX5_plan 5 none 4 96 [.ref (q 0)] G (mw G q) u (fun u1 => pl_post u X u1) := by
  refine gw_entryV (own := RX5) (by decide) rfl (Nat.le_of_ble_eq_true rfl) ?_
  intro p e s m args below meth c A ls C Hh hl
  have hl : lv_has ls 5 [(0, .ref (q 0))] := hl
  have hok := hm.1
  have hbd := hm.2
  have h01 := hok.1.1
  have h02 := hok.1.2
  refine lv_aload_n C.1 C.2.1 dX5_plan_0 rfl (lv_at hl 0 rfl) ?_
  refine gw_fromV (w := mw G q) (u := u) C Hh (gw_runV (n := 0) (C1 := RX5) [] C Hh (c_X5_collect l G q (u)  (by first | assumption | omega) (by first | assumption | omega) _) tw_895 tw_897 tw_59 tw_71 tw_898 (by decide +kernel) ⟨Nat.le_of_ble_eq_true rfl, Nat.le_of_ble_eq_true rfl⟩ 0 mw_at0 rfl rfl hl.1 (Nat.le_of_ble_eq_true rfl) dX5_plan_1 ⟨Nat.zero_le _, Nat.zero_le _⟩) (fun uc_1 H locs hp_1 Hh => ?_)
  obtain ⟨e9, he9⟩ := hp_1.2.2.2.1
  have hen : enu (vw u) (uc_1.1 3) e9 := ⟨fun i hi => (he9.1 i hi).1, he9.2.1, he9.2.2⟩
  have hD := hp_1.2.2.1
  refine lv_aload_n C.1 C.2.1 dX5_plan_4 rfl (lv_at hl 0 rfl) ?_
  refine lv_iconst (v := nI 0) C.1 C.2.1 dX5_plan_5 (by decide +kernel) ?_
  refine gw_put (Cn := RX5) (T := TX5) (N := 29) (ty0 := tyX5) (v := nI (0)) C Hh 0 mw_at0 rfl uwX5 tyX5_ok nmX5 23 (by decide) rfl tw_746 rfl (by decide +kernel) (Nat.le_of_ble_eq_true rfl) mw_num4 dX5_plan_6 (fun H locs Hh => ?_)
  refine lv_iconst (v := nI 0) C.1 C.2.1 dX5_plan_9 (by decide +kernel) ?_
  refine lv_istore_n (lv' := [(1, .int (nI (0))), (0, .ref (q 0))]) C.1 C.2.1 dX5_plan_10 rfl hl (by decide) rfl (fun ls hl => ?_)
  have loop_11 : ∀ (fu : Nat) (i : Nat) (ua : md_S) (H : Heap) (locs : List Loc) (ls : Array Slot), (i ≤ uc_1.1 3) → (pn_in u X e9 (uc_1.1 3) i (fun _ => False) ua) → (ua.1 4 ≤ 10 * i) → uc_1.1 3 - i < fu → gw_H G A s (mw G q ua) H locs → lv_has ls 5 [(0, .ref (q 0)), (1, .int (nI (i)))] → W p l e (gw_rm 4 96) s m args below meth c H locs 0 0 (MQ below (va_Qv (fun u1 => pl_post u X u1) (gw_at G A (mw G q)) A) args s 0 0 A) (F0 m 11 ls []) := by
    intro fu
    induction fu with
    | zero =>
      intro i ua H locs ls hi hI hE hmf
      exact absurd hmf (Nat.not_lt_zero _)
    | succ fu ih_11 =>
      intro i ua H locs ls hi hI hE hmf Hh hl
      have n3 : ua.1 3 = uc_1.1 3 := hI.2.2.1
      have hoka : md_ok ua := sc_ok hI.1.1 hok
      have n1 : ua.1 1 = u.1 1 := hI.1.1.1
      refine lv_iload_n C.1 C.2.1 dX5_plan_11 rfl (lv_at hl 1 rfl) ?_
      refine lv_aload_n C.1 C.2.1 dX5_plan_12 rfl (lv_at hl 0 rfl) ?_
      refine gw_get (Cn := RX5) (T := TX5) (N := 29) C Hh 0 mw_at0 rfl uwX5 17 (by decide) rfl tw_740 rfl dX5_plan_13 ?_
      refine gw_icmp_ge (tgt := 164) C dX5_plan_16 (by decide) (by omega) (by omega) (fun hc_16 => ?_) (fun hc_16 => ?_)
      · skip
        exact gw_vret (w := mw G q) (u := ua) C Hh dX5_plan_164 (by have h9 : i = uc_1.1 3 := (by omega); rw [h9] at hI hE; exact ⟨e9, uc_1.1 3, hen, hD, by omega, hI⟩)
      · skip
        refine lv_aload_n C.1 C.2.1 dX5_plan_19 rfl (lv_at hl 0 rfl) ?_
        refine lv_iconst (v := nI 4294967295) C.1 C.2.1 dX5_plan_20 (by decide +kernel) ?_
        refine lv_aload_n C.1 C.2.1 dX5_plan_21 rfl (lv_at hl 0 rfl) ?_
        refine gw_get (Cn := RX5) (T := TX5) (N := 29) C Hh 0 mw_at0 rfl uwX5 21 (by decide) rfl tw_744 rfl dX5_plan_22 ?_
        refine lv_iload_n C.1 C.2.1 dX5_plan_25 rfl (lv_at hl 1 rfl) ?_
        refine gw_ld C Hh 18 mw_at18 (by decide) dX5_plan_26 (by omega) ?_
        refine gw_fromI (w := mw G q) (u := ua) C Hh (gw_runV (n := 2) (C1 := RX5) [.int (nI (4294967295)), .int (nI (ua.2.1 18 (i)))] C Hh (c_X5_nextArrival l G q (ua) (4294967295) (ua.2.1 18 (i)) (by exact hoka) (by first | assumption | omega) _) tw_929 tw_931 tw_63 tw_71 tw_932 (by decide +kernel) ⟨Nat.le_of_ble_eq_true rfl, Nat.le_of_ble_eq_true rfl⟩ 0 mw_at0 rfl rfl hl.1 (Nat.le_of_ble_eq_true rfl) dX5_plan_27 ⟨Nat.zero_le _, Nat.zero_le _⟩) (fun rc_27 uc_27 H locs hp_27 Hh => ?_)
        obtain ⟨kc_27, rfl, hp_27⟩ := hp_27
        obtain ⟨hk_27, hu_27⟩ := hp_27
        rw [hu_27] at Hh
        clear hu_27
        have h27 : nx_in (u.2.1 6) (fun b => (cmk (vw u) (e9 i)).testBit b = true) 4294967295 (u.1 1) kc_27 := by (have q9 := hk_27; rw [hI.1.1.1, hI.1.1.2.2 6 (by decide) (by decide), (hI.2.2.2.1 i (by omega)).2.2] at q9; exact q9)
        have b27 := nx_b h27 h01
        refine lv_istore_n (lv' := [(2, .int (nI (kc_27))), (0, .ref (q 0)), (1, .int (nI (i)))]) C.1 C.2.1 dX5_plan_30 rfl hl (by decide) rfl (fun ls hl => ?_)
        have loop_31 : ∀ (fu : Nat) (a : Nat) (uc : md_S) (H : Heap) (locs : List Loc) (ls : Array Slot), (pn_in u X e9 (uc_1.1 3) i (bfr (u.2.1 6) a) uc) → (uc.1 4 + mE (u.2.1 6) (fun b => (cmk (vw u) (e9 i)).testBit b = true) (u.1 1) a ≤ 10 * i + 10) → (a = 4294967295 ∨ (a < u.1 1 ∧ (cmk (vw u) (e9 i)).testBit a = true)) → mE (u.2.1 6) (fun b => (cmk (vw u) (e9 i)).testBit b = true) (u.1 1) a < fu → gw_H G A s (mw G q uc) H locs → lv_has ls 5 [(0, .ref (q 0)), (1, .int (nI (i))), (2, .int (nI (a)))] → W p l e (gw_rm 4 96) s m args below meth c H locs 0 0 (MQ below (va_Qv (fun u1 => pl_post u X u1) (gw_at G A (mw G q)) A) args s 0 0 A) (F0 m 31 ls []) := by
          intro fu
          induction fu with
          | zero =>
            intro a uc H locs ls hJ hE2 ha hmf
            exact absurd hmf (Nat.not_lt_zero _)
          | succ fu ih_31 =>
            intro a uc H locs ls hJ hE2 ha hmf Hh hl
            have n3c : uc.1 3 = uc_1.1 3 := hJ.2.2.1
            have hokc : md_ok uc := sc_ok hJ.1.1 hok
            have n1c : uc.1 1 = u.1 1 := hJ.1.1.1
            have hid : i < uc_1.1 3 := by omega
            refine lv_iload_n C.1 C.2.1 dX5_plan_31 rfl (lv_at hl 2 rfl) ?_
            refine lv_iconst (v := nI 4294967295) C.1 C.2.1 dX5_plan_32 (by decide +kernel) ?_
            refine gw_m1_eq (tgt := 158) C dX5_plan_33 (by decide) (by omega) (fun hc_33 => ?_) (fun hc_33 => ?_)
            · skip
              refine lv_iinc (v := nI (i + 1)) (lv' := [(1, .int (nI (i + 1))), (0, .ref (q 0)), (2, .int (nI (a)))]) C.1 C.2.1 dX5_plan_158 hl (k := 1) rfl (nI_add _ 1) (by decide) rfl (fun ls hl => ?_)
              refine lv_goto (tgt := 11) C.1 C.2.1 dX5_plan_161 (by decide) ?_
              exact ih_11 (i + 1) (uc) _ _ _ (by omega) (by rw [hc_33] at hJ; exact pn_done hX hen (by omega) hJ) (by omega) (by omega) Hh (lv_sub hl [1, 0] rfl)
            · skip
              have ha8 := ha.resolve_left hc_33
              refine lv_aload_n C.1 C.2.1 dX5_plan_36 rfl (lv_at hl 0 rfl) ?_
              refine lv_iload_n C.1 C.2.1 dX5_plan_37 rfl (lv_at hl 1 rfl) ?_
              refine lv_iload_n C.1 C.2.1 dX5_plan_38 rfl (lv_at hl 2 rfl) ?_
              refine gw_fromL (w := mw G q) (u := uc) C Hh (gw_runV (n := 2) (C1 := RX5) [.int (nI (i)), .int (nI (a))] C Hh (c_X5_atMost l G q (uc) (i) (a) (by omega) (by exact hJ.2.1) (by first | assumption | omega) (by first | assumption | omega) _) tw_933 tw_935 tw_64 tw_71 tw_936 (by decide +kernel) ⟨Nat.le_of_ble_eq_true rfl, Nat.le_of_ble_eq_true rfl⟩ 0 mw_at0 rfl rfl hl.1 (Nat.le_of_ble_eq_true rfl) dX5_plan_39 ⟨Nat.zero_le _, Nat.zero_le _⟩) (fun rc_39 uc_39 H locs hp_39 Hh => ?_)
              obtain ⟨kc_39, rfl, hp_39⟩ := hp_39
              obtain ⟨hk_39, hu_39⟩ := hp_39
              rw [hu_39] at Hh
              clear hu_39
              have h39 : kc_39 = (X (e9 i) a : Int) := pn_at hX hen (by omega) ha8.1 ha8.2 hJ hk_39
              have hxb : X (e9 i) a ≤ 1000000 := by (have q1 := fl_sum_one (fun d => X d a) (n := 31) (k := e9 i) (by (have := (hen.1 i (by omega)).1; have : (vw u).1 1 ≤ 10 := h02; omega)); have q2 := hX.2.1 a ha8.1; have q3 := fr_le (md_ar hok) a (by omega); omega)
              refine lv_lstore_n (lv' := [(3, .long (Int64.ofInt (kc_39))), (0, .ref (q 0)), (1, .int (nI (i))), (2, .int (nI (a)))]) C.1 C.2.1 dX5_plan_42 rfl hl (by decide) rfl (fun ls hl => ?_)
              have join_143 : ∀  (ue : md_S) (H : Heap) (locs : List Loc) (ls : Array Slot), (pn_in u X e9 (uc_1.1 3) i (fun b => bfr (u.2.1 6) a b ∨ b = a) ue) → (ue.1 4 + mE (u.2.1 6) (fun b => (cmk (vw u) (e9 i)).testBit b = true) (u.1 1) a ≤ 10 * i + 11) → gw_H G A s (mw G q ue) H locs → lv_has ls 5 [(0, .ref (q 0)), (1, .int (nI (i))), (2, .int (nI (a)))] → W p l e (gw_rm 4 96) s m args below meth c H locs 0 0 (MQ below (va_Qv (fun u1 => pl_post u X u1) (gw_at G A (mw G q)) A) args s 0 0 A) (F0 m 143 ls []) := by
                intro  ue H locs ls hK hE3 Hh hl
                have n1e : ue.1 1 = u.1 1 := hK.1.1.1
                have hoke : md_ok ue := sc_ok hK.1.1 hok
                have n3e : ue.1 3 = uc_1.1 3 := hK.2.2.1
                refine lv_aload_n C.1 C.2.1 dX5_plan_143 rfl (lv_at hl 0 rfl) ?_
                refine lv_iload_n C.1 C.2.1 dX5_plan_144 rfl (lv_at hl 2 rfl) ?_
                refine lv_aload_n C.1 C.2.1 dX5_plan_145 rfl (lv_at hl 0 rfl) ?_
                refine gw_get (Cn := RX5) (T := TX5) (N := 29) C Hh 0 mw_at0 rfl uwX5 21 (by decide) rfl tw_744 rfl dX5_plan_146 ?_
                refine lv_iload_n C.1 C.2.1 dX5_plan_149 rfl (lv_at hl 1 rfl) ?_
                refine gw_ld C Hh 18 mw_at18 (by decide) dX5_plan_150 (by omega) ?_
                refine gw_fromI (w := mw G q) (u := ue) C Hh (gw_runV (n := 2) (C1 := RX5) [.int (nI (a)), .int (nI (ue.2.1 18 (i)))] C Hh (c_X5_nextArrival l G q (ue) (a) (ue.2.1 18 (i)) (by exact hoke) (by first | assumption | omega) _) tw_929 tw_931 tw_63 tw_71 tw_932 (by decide +kernel) ⟨Nat.le_of_ble_eq_true rfl, Nat.le_of_ble_eq_true rfl⟩ 0 mw_at0 rfl rfl hl.1 (Nat.le_of_ble_eq_true rfl) dX5_plan_151 ⟨Nat.zero_le _, Nat.zero_le _⟩) (fun rc_151 uc_151 H locs hp_151 Hh => ?_)
                obtain ⟨kc_151, rfl, hp_151⟩ := hp_151
                obtain ⟨hk_151, hu_151⟩ := hp_151
                rw [hu_151] at Hh
                clear hu_151
                have h151 : nx_in (u.2.1 6) (fun b => (cmk (vw u) (e9 i)).testBit b = true) a (u.1 1) kc_151 := by (have q9 := hk_151; rw [hK.1.1.1, hK.1.1.2.2 6 (by decide) (by decide), (hK.2.2.2.1 i (by omega)).2.2] at q9; exact q9)
                have b151 := nx_b h151 h01
                have hm151 := mE_s ha8.1 hc_33 ha8.2 h151
                refine lv_istore_n (lv' := [(2, .int (nI (kc_151))), (0, .ref (q 0)), (1, .int (nI (i)))]) C.1 C.2.1 dX5_plan_154 rfl hl (by decide) rfl (fun ls hl => ?_)
                refine lv_goto (tgt := 31) C.1 C.2.1 dX5_plan_155 (by decide) ?_
                exact ih_31 (kc_151) (ue) _ _ _ (by exact pn_step hok hX hen hid hc_33 hK h151) (by omega) (by exact h151.imp (·.1) (fun q => ⟨q.1, q.2.1⟩)) (by omega) Hh (lv_sub hl [1, 2, 0] rfl)
              refine lv_lload_n C.1 C.2.1 dX5_plan_43 rfl (lv_at hl 0 rfl) ?_
              refine lv_lconst (v := Int64.ofInt (0)) C.1 C.2.1 dX5_plan_44 rfl ?_
              refine gw_lc_ne (tgt := 52) C dX5_plan_45 dX5_plan_46 (by decide) (by unfold lg; omega) (by exact lg_0) (fun hc_45 => ?_) (fun hc_45 => ?_)
              · skip
                refine lv_aload_n C.1 C.2.1 dX5_plan_52 rfl (lv_at hl 1 rfl) ?_
                refine gw_get (Cn := RX5) (T := TX5) (N := 29) C Hh 0 mw_at0 rfl uwX5 22 (by decide) rfl tw_745 rfl dX5_plan_53 ?_
                refine lv_iload_n C.1 C.2.1 dX5_plan_56 rfl (lv_at hl 3 rfl) ?_
                refine lv_dup2_11 C.1 C.2.1 dX5_plan_57 rfl rfl ?_
                refine gw_lld C Hh 19 mw_at19 (by decide) dX5_plan_58 (by omega) ?_
                refine lv_lload_n C.1 C.2.1 dX5_plan_59 rfl (lv_at hl 0 rfl) ?_
                refine gw_lsub C dX5_plan_60 ?_
                refine gw_lst C Hh 19 mw_at19 (by decide) mw_set19 dX5_plan_61 (by omega) (fun H locs Hh => ?_)
                have Hh : gw_H G A s (mw G q (uc.1, uc.2.1, up3 uc.2.2 19 (a) ((uc.2.2 19 (a)) - kc_39))) H locs := Hh
                refine lv_aload_n C.1 C.2.1 dX5_plan_62 rfl (lv_at hl 1 rfl) ?_
                refine gw_get (Cn := RX5) (T := TX5) (N := 29) C Hh 0 mw_at0 rfl uwX5 20 (by decide) rfl tw_743 rfl dX5_plan_63 ?_
                refine lv_iload_n C.1 C.2.1 dX5_plan_66 rfl (lv_at hl 2 rfl) ?_
                refine lv_dup2_11 C.1 C.2.1 dX5_plan_67 rfl rfl ?_
                refine gw_lld C Hh 17 mw_at17 (by decide) dX5_plan_68 (by omega) ?_
                refine W.eq (g2 := F0 m 69 ls [.long (Int64.ofInt (uc.2.2 17 (i))), .int (nI (i)), .ref (q 17)]) rfl ?_
                refine lv_lload_n C.1 C.2.1 dX5_plan_69 rfl (lv_at hl 0 rfl) ?_
                refine gw_lsub C dX5_plan_70 ?_
                refine gw_lst C Hh 17 mw_at17 (by decide) mw_set17 dX5_plan_71 (by omega) (fun H locs Hh => ?_)
                have Hh : gw_H G A s (mw G q (uc.1, uc.2.1, up3 (up3 uc.2.2 19 (a) ((uc.2.2 19 (a)) - kc_39)) 17 (i) ((uc.2.2 17 (i)) - kc_39))) H locs := Hh
                refine lv_aload_n C.1 C.2.1 dX5_plan_72 rfl (lv_at hl 1 rfl) ?_
                refine gw_get (Cn := RX5) (T := TX5) (N := 29) C Hh 0 mw_at0 rfl uwX5 24 (by decide) rfl tw_747 rfl dX5_plan_73 ?_
                refine lv_aload_n C.1 C.2.1 dX5_plan_76 rfl (lv_at hl 1 rfl) ?_
                refine gw_get (Cn := RX5) (T := TX5) (N := 29) C Hh 0 mw_at0 rfl uwX5 23 (by decide) rfl tw_746 rfl dX5_plan_77 ?_
                refine W.eq (g2 := F0 m 80 ls [.int (nI (uc.1 4)), .ref (q 20)]) rfl ?_
                refine lv_aload_n C.1 C.2.1 dX5_plan_80 rfl (lv_at hl 1 rfl) ?_
                refine gw_get (Cn := RX5) (T := TX5) (N := 29) C Hh 0 mw_at0 rfl uwX5 18 (by decide) rfl tw_741 rfl dX5_plan_81 ?_
                refine lv_iload_n C.1 C.2.1 dX5_plan_84 rfl (lv_at hl 2 rfl) ?_
                refine gw_ld C Hh 15 mw_at15 (by decide) dX5_plan_85 (by omega) ?_
                refine W.eq (g2 := F0 m 86 ls [.int (nI (uc.2.1 15 (i))), .int (nI (uc.1 4)), .ref (q 20)]) rfl ?_
                refine gw_st C Hh 20 mw_at20 (by decide) mw_set20 dX5_plan_86 (by omega) (fun H locs Hh => ?_)
                have Hh : gw_H G A s (mw G q (uc.1, up2 uc.2.1 20 (uc.1 4) (uc.2.1 15 (i)), up3 (up3 uc.2.2 19 (a) ((uc.2.2 19 (a)) - kc_39)) 17 (i) ((uc.2.2 17 (i)) - kc_39))) H locs := Hh
                refine lv_aload_n C.1 C.2.1 dX5_plan_87 rfl (lv_at hl 1 rfl) ?_
                refine gw_get (Cn := RX5) (T := TX5) (N := 29) C Hh 0 mw_at0 rfl uwX5 25 (by decide) rfl tw_748 rfl dX5_plan_88 ?_
                refine lv_aload_n C.1 C.2.1 dX5_plan_91 rfl (lv_at hl 1 rfl) ?_
                refine gw_get (Cn := RX5) (T := TX5) (N := 29) C Hh 0 mw_at0 rfl uwX5 23 (by decide) rfl tw_746 rfl dX5_plan_92 ?_
                refine W.eq (g2 := F0 m 95 ls [.int (nI (uc.1 4)), .ref (q 21)]) rfl ?_
                refine lv_iload_n C.1 C.2.1 dX5_plan_95 rfl (lv_at hl 2 rfl) ?_
                refine gw_st C Hh 21 mw_at21 (by decide) mw_set21 dX5_plan_96 (by omega) (fun H locs Hh => ?_)
                have Hh : gw_H G A s (mw G q (uc.1, up2 (up2 uc.2.1 20 (uc.1 4) (uc.2.1 15 (i))) 21 (uc.1 4) (i), up3 (up3 uc.2.2 19 (a) ((uc.2.2 19 (a)) - kc_39)) 17 (i) ((uc.2.2 17 (i)) - kc_39))) H locs := Hh
                refine lv_aload_n C.1 C.2.1 dX5_plan_97 rfl (lv_at hl 1 rfl) ?_
                refine gw_get (Cn := RX5) (T := TX5) (N := 29) C Hh 0 mw_at0 rfl uwX5 26 (by decide) rfl tw_749 rfl dX5_plan_98 ?_
                refine lv_aload_n C.1 C.2.1 dX5_plan_101 rfl (lv_at hl 1 rfl) ?_
                refine gw_get (Cn := RX5) (T := TX5) (N := 29) C Hh 0 mw_at0 rfl uwX5 23 (by decide) rfl tw_746 rfl dX5_plan_102 ?_
                refine W.eq (g2 := F0 m 105 ls [.int (nI (uc.1 4)), .ref (q 22)]) rfl ?_
                refine lv_aload_n C.1 C.2.1 dX5_plan_105 rfl (lv_at hl 1 rfl) ?_
                refine gw_get (Cn := RX5) (T := TX5) (N := 29) C Hh 0 mw_at0 rfl uwX5 19 (by decide) rfl tw_742 rfl dX5_plan_106 ?_
                refine lv_iload_n C.1 C.2.1 dX5_plan_109 rfl (lv_at hl 2 rfl) ?_
                refine gw_ld C Hh 16 mw_at16 (by decide) dX5_plan_110 (by omega) ?_
                refine W.eq (g2 := F0 m 111 ls [.int (nI (uc.2.1 16 (i))), .int (nI (uc.1 4)), .ref (q 22)]) rfl ?_
                refine gw_st C Hh 22 mw_at22 (by decide) mw_set22 dX5_plan_111 (by omega) (fun H locs Hh => ?_)
                have Hh : gw_H G A s (mw G q (uc.1, up2 (up2 (up2 uc.2.1 20 (uc.1 4) (uc.2.1 15 (i))) 21 (uc.1 4) (i)) 22 (uc.1 4) (uc.2.1 16 (i)), up3 (up3 uc.2.2 19 (a) ((uc.2.2 19 (a)) - kc_39)) 17 (i) ((uc.2.2 17 (i)) - kc_39))) H locs := Hh
                refine lv_aload_n C.1 C.2.1 dX5_plan_112 rfl (lv_at hl 1 rfl) ?_
                refine gw_get (Cn := RX5) (T := TX5) (N := 29) C Hh 0 mw_at0 rfl uwX5 27 (by decide) rfl tw_750 rfl dX5_plan_113 ?_
                refine lv_aload_n C.1 C.2.1 dX5_plan_116 rfl (lv_at hl 1 rfl) ?_
                refine gw_get (Cn := RX5) (T := TX5) (N := 29) C Hh 0 mw_at0 rfl uwX5 23 (by decide) rfl tw_746 rfl dX5_plan_117 ?_
                refine W.eq (g2 := F0 m 120 ls [.int (nI (uc.1 4)), .ref (q 23)]) rfl ?_
                refine lv_iload_n C.1 C.2.1 dX5_plan_120 rfl (lv_at hl 3 rfl) ?_
                refine gw_st C Hh 23 mw_at23 (by decide) mw_set23 dX5_plan_121 (by omega) (fun H locs Hh => ?_)
                have Hh : gw_H G A s (mw G q (uc.1, up2 (up2 (up2 (up2 uc.2.1 20 (uc.1 4) (uc.2.1 15 (i))) 21 (uc.1 4) (i)) 22 (uc.1 4) (uc.2.1 16 (i))) 23 (uc.1 4) (a), up3 (up3 uc.2.2 19 (a) ((uc.2.2 19 (a)) - kc_39)) 17 (i) ((uc.2.2 17 (i)) - kc_39))) H locs := Hh
                refine lv_aload_n C.1 C.2.1 dX5_plan_122 rfl (lv_at hl 1 rfl) ?_
                refine gw_get (Cn := RX5) (T := TX5) (N := 29) C Hh 0 mw_at0 rfl uwX5 28 (by decide) rfl tw_751 rfl dX5_plan_123 ?_
                refine lv_aload_n C.1 C.2.1 dX5_plan_126 rfl (lv_at hl 1 rfl) ?_
                refine gw_get (Cn := RX5) (T := TX5) (N := 29) C Hh 0 mw_at0 rfl uwX5 23 (by decide) rfl tw_746 rfl dX5_plan_127 ?_
                refine W.eq (g2 := F0 m 130 ls [.int (nI (uc.1 4)), .ref (q 24)]) rfl ?_
                refine lv_lload_n C.1 C.2.1 dX5_plan_130 rfl (lv_at hl 0 rfl) ?_
                refine gw_l2i C dX5_plan_131 (by omega) (by omega) ?_
                refine gw_st C Hh 24 mw_at24 (by decide) mw_set24 dX5_plan_132 (by omega) (fun H locs Hh => ?_)
                have Hh : gw_H G A s (mw G q (uc.1, up2 (up2 (up2 (up2 (up2 uc.2.1 20 (uc.1 4) (uc.2.1 15 (i))) 21 (uc.1 4) (i)) 22 (uc.1 4) (uc.2.1 16 (i))) 23 (uc.1 4) (a)) 24 (uc.1 4) ((kc_39).toNat), up3 (up3 uc.2.2 19 (a) ((uc.2.2 19 (a)) - kc_39)) 17 (i) ((uc.2.2 17 (i)) - kc_39))) H locs := Hh
                refine lv_aload_n C.1 C.2.1 dX5_plan_133 rfl (lv_at hl 1 rfl) ?_
                refine lv_dup C.1 C.2.1 dX5_plan_134 rfl ?_
                refine gw_get (Cn := RX5) (T := TX5) (N := 29) C Hh 0 mw_at0 rfl uwX5 23 (by decide) rfl tw_746 rfl dX5_plan_135 ?_
                refine W.eq (g2 := F0 m 138 ls [.int (nI (uc.1 4)), .ref (q 0)]) rfl ?_
                refine lv_iconst (v := nI 1) C.1 C.2.1 dX5_plan_138 (by decide +kernel) ?_
                refine gw_iadd C dX5_plan_139 ?_
                refine gw_put (Cn := RX5) (T := TX5) (N := 29) (ty0 := tyX5) (v := nI ((uc.1 4) + 1)) C Hh 0 mw_at0 rfl uwX5 tyX5_ok nmX5 23 (by decide) rfl tw_746 rfl (by decide +kernel) (Nat.le_of_ble_eq_true rfl) mw_num4 dX5_plan_140 (fun H locs Hh => ?_)
                exact join_143  ((up1 uc.1 4 ((uc.1 4) + 1), up2 (up2 (up2 (up2 (up2 uc.2.1 20 (uc.1 4) (uc.2.1 15 (i))) 21 (uc.1 4) (i)) 22 (uc.1 4) (uc.2.1 16 (i))) 23 (uc.1 4) (a)) 24 (uc.1 4) ((kc_39).toNat), up3 (up3 uc.2.2 19 (a) ((uc.2.2 19 (a)) - kc_39)) 17 (i) ((uc.2.2 17 (i)) - kc_39))) _ _ _ (by exact pn_put hok hX hen hid ha8.1 hc_33 h39 (by omega) hJ) (by show uc.1 4 + 1 + _ ≤ _; omega) Hh (lv_sub hl [1, 2, 3] rfl)
              · skip
                refine lv_goto (tgt := 143) C.1 C.2.1 dX5_plan_49 (by decide) ?_
                exact join_143  (uc) _ _ _ (by refine pn_B hX hen hid hJ (fun b hb h0 => ⟨Or.inl, fun q => q.elim id (fun e => ?_)⟩); exfalso; rw [e] at h0; omega) (by omega) Hh (lv_sub hl [1, 2, 3] rfl)
        exact loop_31 _ (kc_27) (ua) _ _ _ (by exact pn_first hok hX hen (by omega) hI h27) (by have := mE_le (u.2.1 6) (fun b => (cmk (vw u) (e9 i)).testBit b = true) (u.1 1) kc_27; omega) (by exact h27.imp (·.1) (fun q => ⟨q.1, q.2.1⟩)) (Nat.lt_succ_self _) Hh (lv_sub hl [1, 2, 0] rfl)
  exact loop_11 _ (0) ((up1 uc_1.1 4 (0), uc_1.2.1, uc_1.2.2)) _ _ _ (by omega) (by exact pn_0 hp_1 he9) (by exact Nat.le_refl _) (Nat.lt_succ_self _) Hh (lv_sub hl [1, 0] rfl)
