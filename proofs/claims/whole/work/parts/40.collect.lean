/-! collect -/
def cf (u v : md_S) : Prop := sc u v ∧ v.1 0 = u.1 0
theorem cf.rf {u : md_S} : cf u u := ⟨sc.rf, rfl⟩
theorem cf.tr {u v w : md_S} (h : cf u v) (g : cf v w) : cf u w := ⟨h.1.tr g.1, g.2.trans h.2⟩
def cl_in (u : md_S) (i : Nat) (v : md_S) : Prop := cf u v ∧ md_bd v ∧ v.1 3 ≤ 30 ∧ dl (vw u) v (cvd (vw u)) ∧ ∀ a, a < i → v.2.2 19 a = (fr_of (vw u) a : Int)
def cl_post (u v : md_S) : Prop := cl_in u (u.1 1) v
noncomputable def co_in (u : md_S) (o : Nat) (v : md_S) : Prop := cf u v ∧ md_bd v ∧ v.1 3 + 3 * mE (u.2.1 13) (nx_C u 1) (u.1 2) o ≤ 30 ∧ dl (vw u) v (fun d => cvd (vw u) d ∧ bfr (u.2.1 13) o (d / 3)) ∧ (o = 4294967295 ∨ (o < u.1 2 ∧ nx_C u 1 o))
theorem nx_C1 {u : md_S} {o : Nat} : nx_C u 1 o ↔ u.2.1 14 o = 0 := by
  unfold nx_C
  omega
theorem co_0 {u v : md_S} {o : Nat} (hok : md_ok u) (hb : md_bd u) (hv : v = (up1 u.1 3 0, u.2)) (h : nx_in (u.2.1 13) (nx_C u 1) 4294967295 (u.1 2) o) : co_in u o v := by
  subst hv
  have h2 := hok.1.2
  have hm := mE_le (u.2.1 13) (nx_C u 1) (u.1 2) o
  refine ⟨⟨⟨rfl, rfl, fun _ _ _ => rfl⟩, rfl⟩, ⟨Nat.zero_le _, hb.2⟩, ?_, ?_, ?_⟩
  · show 0 + 3 * _ ≤ 30
    omega
  · refine ⟨fun _ => 0, fun i hi => absurd hi (Nat.not_lt_zero i), fun d hd => ?_, fun i j _ hj => absurd hj (Nat.not_lt_zero j)⟩
    exact absurd hd.2 (bfr_0 h2 h hd.1.1 (nx_C1.mpr hd.1.2.1))
  · rcases h with ⟨h1, -⟩ | ⟨h1, h2, -⟩
    · exact Or.inl h1
    · exact Or.inr ⟨h1, h2⟩
theorem co_s {u v z : md_S} {o p : Nat} (hok : md_ok u) (h : co_in u o v) (ho : o ≠ 4294967295) (ha : dm_add v z o (u.2.1 11 o) (u.2.1 10 o) (u.2.1 12 o) (gd_dn (vw v) (u.2.1 11 o))) (hn : nx_in (u.2.1 13) (nx_C u 1) o (u.1 2) p) : co_in u p z ∧ mE (u.2.1 13) (nx_C u 1) (u.1 2) p < mE (u.2.1 13) (nx_C u 1) (u.1 2) o := by
  obtain ⟨h1, h2, h3, h4, h5⟩ := h
  have h6 := h5.resolve_left ho
  have hm := mE_s h6.1 ho h6.2 hn
  have hvw : vw v = vw u := sc_vw h1.1
  have hokv := sc_ok h1.1 hok
  have h10 := hok.1.2
  have hoo := hok.2.2.2.2 o (by omega)
  have hD : v.1 3 ≤ 37 := by omega
  have hbd := dm_bd hokv h2 hoo.2.1 hoo.2.2.1 hD ha
  rw [hvw] at ha
  have hdn := gd_dn_le (md_gd hok) hoo.2.1
  refine ⟨⟨h1.tr ⟨ha.1, ha.2.1⟩, hbd, ?_, ?_, ?_⟩, by omega⟩
  · rw [ha.2.2.2.1]
    omega
  · refine dl_iff (dl_add (o := o) h4 hdn.2 (fun g x => by rw [hvw]; exact ⟨rfl, rfl, rfl⟩) ha (fun d hd => hd.2.resolve_left ho)) (fun d => ?_)
    constructor
    · rintro (⟨q1, q2⟩ | ⟨q1, q2⟩)
      · exact ⟨q1, (bfr_s h10 ho hn q1.1 (nx_C1.mpr q1.2.1)).mpr (Or.inl q2)⟩
      · have hc : cvd (vw u) d := ⟨by rw [q1]; exact h6.1, by rw [q1]; exact nx_C1.mp h6.2, by rw [q1]; exact q2⟩
        exact ⟨hc, (bfr_s h10 ho hn hc.1 (nx_C1.mpr hc.2.1)).mpr (Or.inr q1)⟩
    · rintro ⟨q1, q2⟩
      rcases (bfr_s h10 ho hn q1.1 (nx_C1.mpr q1.2.1)).mp q2 with q3 | q3
      · exact Or.inl ⟨q1, q3⟩
      · refine Or.inr ⟨q3, ?_⟩
        have := q1.2.2
        rw [q3] at this
        exact this
  · rcases hn with ⟨g1, -⟩ | ⟨g1, g2, -⟩
    · exact Or.inl g1
    · exact Or.inr ⟨g1, g2⟩
theorem co_e {u v : md_S} (h : co_in u 4294967295 v) : cl_in u 0 v := ⟨h.1, h.2.1, by have := h.2.2.1; omega, dl_iff h.2.2.2.1 (fun d => ⟨fun q => q.1, fun q => ⟨q, Or.inl rfl⟩⟩), fun a ha => absurd ha (Nat.not_lt_zero a)⟩
theorem cl_s {u v : md_S} {i : Nat} (hok : md_ok u) (hi : i < u.1 1) (h : cl_in u i v) {x : Int} (hx : x = (fr_of (vw u) i : Int)) : cl_in u (i + 1) (v.1, v.2.1, up3 v.2.2 19 i x) := by
  obtain ⟨h1, h2, h3, h4, h5⟩ := h
  have e : ∀ a, up3 v.2.2 19 i x 19 a = if a = i then x else v.2.2 19 a := fun a => by rw [up3_at]
  refine ⟨h1.tr ⟨⟨rfl, rfl, fun _ _ _ => rfl⟩, rfl⟩, ⟨h2.1, h2.2.1, fun a ha => ?_⟩, h3, h4, fun a ha => ?_⟩
  · show 0 ≤ up3 v.2.2 19 i x 19 a ∧ up3 v.2.2 19 i x 19 a ≤ 1000000
    rw [e]
    by_cases q : a = i
    · rw [if_pos q, hx]
      have := fr_le (md_ar hok) i (by have := hok.1.1; omega)
      omega
    · rw [if_neg q]
      exact h2.2.2 a ha
  · show up3 v.2.2 19 i x 19 a = _
    rw [e]
    by_cases q : a = i
    · rw [if_pos q, hx, q]
    · rw [if_neg q]
      exact h5 a (by omega)
set_option maxHeartbeats 4000000 in
set_option maxRecDepth 100000 in
theorem c_X5_collect (l : Launch) (G : gw_G) (q : Nat → Nat) (u : md_S)  (hok : md_ok u) (hbd : md_bd u) : gw_MV l yX5_collect cX5_collect 2 none 3 75 [.ref (q 0)] G (mw G q) u (fun u1 => cl_post u u1) := by
  refine gw_entryV (own := RX5) (by decide) rfl (Nat.le_of_ble_eq_true rfl) ?_
  intro p e s m args below meth c A ls C Hh hl
  have hl : lv_has ls 2 [(0, .ref (q 0))] := hl
  refine lv_aload_n C.1 C.2.1 dX5_collect_0 rfl (lv_at hl 0 rfl) ?_
  refine lv_iconst (v := nI 0) C.1 C.2.1 dX5_collect_1 (by decide +kernel) ?_
  refine gw_put (Cn := RX5) (T := TX5) (N := 29) (ty0 := tyX5) (v := nI (0)) C Hh 0 mw_at0 rfl uwX5 tyX5_ok nmX5 17 (by decide) rfl tw_740 rfl (by decide +kernel) (Nat.le_of_ble_eq_true rfl) mw_num3 dX5_collect_2 (fun H locs Hh => ?_)
  refine lv_aload_n C.1 C.2.1 dX5_collect_5 rfl (lv_at hl 0 rfl) ?_
  refine lv_iconst (v := nI 4294967295) C.1 C.2.1 dX5_collect_6 (by decide +kernel) ?_
  refine lv_iconst (v := nI 1) C.1 C.2.1 dX5_collect_7 (by decide +kernel) ?_
  refine gw_fromI (w := mw G q) (u := (up1 u.1 3 (0), u.2.1, u.2.2)) C Hh (gw_runV (n := 2) (C1 := RX5) [.int (nI (4294967295)), .int (nI (1))] C Hh (c_X5_next l G q ((up1 u.1 3 (0), u.2.1, u.2.2)) (4294967295) (1) (by exact sc_ok ⟨rfl, rfl, fun _ _ _ => rfl⟩ hok) (by first | assumption | omega) (by first | assumption | omega) _) tw_835 tw_837 tw_50 tw_71 tw_838 (by decide +kernel) ⟨Nat.le_of_ble_eq_true rfl, Nat.le_of_ble_eq_true rfl⟩ 0 mw_at0 rfl rfl hl.1 (Nat.le_of_ble_eq_true rfl) dX5_collect_8 ⟨Nat.zero_le _, Nat.zero_le _⟩) (fun rc_8 uc_8 H locs hp_8 Hh => ?_)
  obtain ⟨kc_8, rfl, hp_8⟩ := hp_8
  obtain ⟨hk_8, hu_8⟩ := hp_8
  rw [hu_8] at Hh
  clear hu_8
  refine lv_istore_n (lv' := [(1, .int (nI (kc_8))), (0, .ref (q 0))]) C.1 C.2.1 dX5_collect_11 rfl hl (by decide) rfl (fun ls hl => ?_)
  have loop_12 : ∀ (fu : Nat) (o : Nat) (uc : md_S) (H : Heap) (locs : List Loc) (ls : Array Slot), (co_in u o uc) → mE (u.2.1 13) (nx_C u 1) (u.1 2) o < fu → gw_H G A s (mw G q uc) H locs → lv_has ls 2 [(0, .ref (q 0)), (1, .int (nI (o)))] → W p l e (gw_rm 3 75) s m args below meth c H locs 0 0 (MQ below (va_Qv (fun u1 => cl_post u u1) (gw_at G A (mw G q)) A) args s 0 0 A) (F0 m 12 ls []) := by
    intro fu
    induction fu with
    | zero =>
      intro o uc H locs ls hI hmf
      exact absurd hmf (Nat.not_lt_zero _)
    | succ fu ih_12 =>
      intro o uc H locs ls hI hmf Hh hl
      have e6 : ∀ k, 1 ≤ k → k ≤ 14 → uc.2.1 k = u.2.1 k := hI.1.1.2.2
      have hok2 : md_ok uc := sc_ok hI.1.1 hok
      have hm3 := hI.2.2.1
      have ho9 := hI.2.2.2.2
      have h02 := hok.1.2
      refine lv_iload_n C.1 C.2.1 dX5_collect_12 rfl (lv_at hl 1 rfl) ?_
      refine lv_iconst (v := nI 4294967295) C.1 C.2.1 dX5_collect_13 (by decide +kernel) ?_
      refine gw_m1_eq (tgt := 50) C dX5_collect_14 (by decide) (by omega) (fun hc_14 => ?_) (fun hc_14 => ?_)
      · skip
        refine lv_iconst (v := nI 0) C.1 C.2.1 dX5_collect_50 (by decide +kernel) ?_
        refine lv_istore_n (lv' := [(1, .int (nI (0))), (0, .ref (q 0))]) C.1 C.2.1 dX5_collect_51 rfl hl (by decide) rfl (fun ls hl => ?_)
        have loop_52 : ∀ (fu : Nat) (i : Nat) (ud : md_S) (H : Heap) (locs : List Loc) (ls : Array Slot), (i ≤ u.1 1) → (cl_in u i ud) → u.1 1 - i < fu → gw_H G A s (mw G q ud) H locs → lv_has ls 2 [(0, .ref (q 0)), (1, .int (nI (i)))] → W p l e (gw_rm 3 75) s m args below meth c H locs 0 0 (MQ below (va_Qv (fun u1 => cl_post u u1) (gw_at G A (mw G q)) A) args s 0 0 A) (F0 m 52 ls []) := by
          intro fu
          induction fu with
          | zero =>
            intro i ud H locs ls hi hJ hmf
            exact absurd hmf (Nat.not_lt_zero _)
          | succ fu ih_52 =>
            intro i ud H locs ls hi hJ hmf Hh hl
            have h01 := hok.1.1
            have n1 : ud.1 1 = u.1 1 := hJ.1.1.1
            have e8 : ud.2.1 8 = u.2.1 8 := hJ.1.1.2.2 8 (by decide) (by decide)
            have e9 : ud.2.1 9 = u.2.1 9 := hJ.1.1.2.2 9 (by decide) (by decide)
            refine lv_iload_n C.1 C.2.1 dX5_collect_52 rfl (lv_at hl 1 rfl) ?_
            refine lv_aload_n C.1 C.2.1 dX5_collect_53 rfl (lv_at hl 0 rfl) ?_
            refine gw_get (Cn := RX5) (T := TX5) (N := 29) C Hh 0 mw_at0 rfl uwX5 6 (by decide) rfl tw_729 rfl dX5_collect_54 ?_
            refine gw_icmp_ge (tgt := 86) C dX5_collect_57 (by decide) (by omega) (by omega) (fun hc_57 => ?_) (fun hc_57 => ?_)
            · skip
              exact gw_vret (w := mw G q) (u := ud) C Hh dX5_collect_86 (by have h9 : i = u.1 1 := (by omega); rw [h9] at hJ; exact hJ)
            · skip
              have ha9 := hok.2.2.2.1 i (by omega)
              have e8i : ud.2.1 8 i = u.2.1 8 i := by rw [e8]
              have e9i : ud.2.1 9 i = u.2.1 9 i := by rw [e9]
              refine lv_aload_n C.1 C.2.1 dX5_collect_60 rfl (lv_at hl 0 rfl) ?_
              refine gw_get (Cn := RX5) (T := TX5) (N := 29) C Hh 0 mw_at0 rfl uwX5 22 (by decide) rfl tw_745 rfl dX5_collect_61 ?_
              refine lv_iload_n C.1 C.2.1 dX5_collect_64 rfl (lv_at hl 1 rfl) ?_
              refine lv_aload_n C.1 C.2.1 dX5_collect_65 rfl (lv_at hl 0 rfl) ?_
              refine gw_get (Cn := RX5) (T := TX5) (N := 29) C Hh 0 mw_at0 rfl uwX5 9 (by decide) rfl tw_732 rfl dX5_collect_66 ?_
              refine lv_iload_n C.1 C.2.1 dX5_collect_69 rfl (lv_at hl 1 rfl) ?_
              refine gw_ld C Hh 8 mw_at8 (by decide) dX5_collect_70 (by omega) ?_
              refine lv_aload_n C.1 C.2.1 dX5_collect_71 rfl (lv_at hl 0 rfl) ?_
              refine gw_get (Cn := RX5) (T := TX5) (N := 29) C Hh 0 mw_at0 rfl uwX5 10 (by decide) rfl tw_733 rfl dX5_collect_72 ?_
              refine lv_iload_n C.1 C.2.1 dX5_collect_75 rfl (lv_at hl 1 rfl) ?_
              refine gw_ld C Hh 9 mw_at9 (by decide) dX5_collect_76 (by omega) ?_
              refine gw_isub C dX5_collect_77 (by omega) ?_
              refine gw_i2l C dX5_collect_78 (by omega) ?_
              refine gw_lst C Hh 19 mw_at19 (by decide) mw_set19 dX5_collect_79 (by omega) (fun H locs Hh => ?_)
              have Hh : gw_H G A s (mw G q (ud.1, ud.2.1, up3 ud.2.2 19 (i) ((((ud.2.1 8 (i)) - (ud.2.1 9 (i)) : Nat) : Int)))) H locs := Hh
              refine lv_iinc (v := nI (i + 1)) (lv' := [(1, .int (nI (i + 1))), (0, .ref (q 0))]) C.1 C.2.1 dX5_collect_80 hl (k := 1) rfl (nI_add _ 1) (by decide) rfl (fun ls hl => ?_)
              refine lv_goto (tgt := 52) C.1 C.2.1 dX5_collect_83 (by decide) ?_
              exact ih_52 (i + 1) ((ud.1, ud.2.1, up3 ud.2.2 19 (i) ((((ud.2.1 8 (i)) - (ud.2.1 9 (i)) : Nat) : Int)))) _ _ _ (by omega) (by refine cl_s hok (by omega) hJ ?_; rw [e8, e9]; rfl) (by omega) Hh (lv_sub hl [1, 0] rfl)
        exact loop_52 _ (0) (uc) _ _ _ (by omega) (by rw [hc_14] at hI; exact co_e hI) (Nat.lt_succ_self _) Hh (lv_sub hl [1, 0] rfl)
      · skip
        have ho8 := ho9.resolve_left hc_14
        have hoo := hok2.2.2.2.2 o (by omega)
        refine lv_aload_n C.1 C.2.1 dX5_collect_17 rfl (lv_at hl 0 rfl) ?_
        refine lv_iload_n C.1 C.2.1 dX5_collect_18 rfl (lv_at hl 1 rfl) ?_
        refine lv_aload_n C.1 C.2.1 dX5_collect_19 rfl (lv_at hl 0 rfl) ?_
        refine gw_get (Cn := RX5) (T := TX5) (N := 29) C Hh 0 mw_at0 rfl uwX5 13 (by decide) rfl tw_736 rfl dX5_collect_20 ?_
        refine lv_iload_n C.1 C.2.1 dX5_collect_23 rfl (lv_at hl 1 rfl) ?_
        refine gw_ld C Hh 11 mw_at11 (by decide) dX5_collect_24 (by omega) ?_
        refine lv_aload_n C.1 C.2.1 dX5_collect_25 rfl (lv_at hl 0 rfl) ?_
        refine gw_get (Cn := RX5) (T := TX5) (N := 29) C Hh 0 mw_at0 rfl uwX5 14 (by decide) rfl tw_737 rfl dX5_collect_26 ?_
        refine lv_iload_n C.1 C.2.1 dX5_collect_29 rfl (lv_at hl 1 rfl) ?_
        refine gw_ld C Hh 12 mw_at12 (by decide) dX5_collect_30 (by omega) ?_
        refine lv_aload_n C.1 C.2.1 dX5_collect_31 rfl (lv_at hl 0 rfl) ?_
        refine gw_get (Cn := RX5) (T := TX5) (N := 29) C Hh 0 mw_at0 rfl uwX5 12 (by decide) rfl tw_735 rfl dX5_collect_32 ?_
        refine lv_iload_n C.1 C.2.1 dX5_collect_35 rfl (lv_at hl 1 rfl) ?_
        refine gw_ld C Hh 10 mw_at10 (by decide) dX5_collect_36 (by omega) ?_
        refine gw_fromV (w := mw G q) (u := uc) C Hh (gw_runV (n := 4) (C1 := RX5) [.int (nI (o)), .int (nI (uc.2.1 11 (o))), .int (nI (uc.2.1 12 (o))), .int (nI (uc.2.1 10 (o)))] C Hh (c_X5_addOrder l G q (uc) (o) (uc.2.1 11 (o)) (uc.2.1 12 (o)) (uc.2.1 10 (o)) (by exact hok2) (by exact hoo.2.1) (by exact hoo.2.2.1) (by exact hoo.1) (by first | assumption | omega) _) tw_839 tw_841 tw_51 tw_71 tw_842 (by decide +kernel) ⟨Nat.le_of_ble_eq_true rfl, Nat.le_of_ble_eq_true rfl⟩ 0 mw_at0 rfl rfl hl.1 (Nat.le_of_ble_eq_true rfl) dX5_collect_37 ⟨Nat.zero_le _, Nat.zero_le _⟩) (fun uc_37 H locs hp_37 Hh => ?_)
        refine lv_aload_n C.1 C.2.1 dX5_collect_40 rfl (lv_at hl 0 rfl) ?_
        refine lv_iload_n C.1 C.2.1 dX5_collect_41 rfl (lv_at hl 1 rfl) ?_
        refine lv_iconst (v := nI 1) C.1 C.2.1 dX5_collect_42 (by decide +kernel) ?_
        refine gw_fromI (w := mw G q) (u := uc_37) C Hh (gw_runV (n := 2) (C1 := RX5) [.int (nI (o)), .int (nI (1))] C Hh (c_X5_next l G q (uc_37) (o) (1) (by exact sc_ok hp_37.1 hok2) (by right; rw [hp_37.1.2.1, hI.1.1.2.1]; exact ho8.1) (by first | assumption | omega) _) tw_835 tw_837 tw_50 tw_71 tw_838 (by decide +kernel) ⟨Nat.le_of_ble_eq_true rfl, Nat.le_of_ble_eq_true rfl⟩ 0 mw_at0 rfl rfl hl.1 (Nat.le_of_ble_eq_true rfl) dX5_collect_43 ⟨Nat.zero_le _, Nat.zero_le _⟩) (fun rc_43 uc_43 H locs hp_43 Hh => ?_)
        obtain ⟨kc_43, rfl, hp_43⟩ := hp_43
        obtain ⟨hk_43, hu_43⟩ := hp_43
        rw [hu_43] at Hh
        clear hu_43
        have hS9 := co_s hok hI hc_14 (by (have q9 := hp_37; rw [e6 11 (by decide) (by decide), e6 12 (by decide) (by decide), e6 10 (by decide) (by decide)] at q9; exact q9)) (by (have q8 := hk_43; rw [hp_37.1.2.1, hI.1.1.2.1, hp_37.1.2.2 13 (by decide) (by decide), e6 13 (by decide) (by decide)] at q8; have e99 : nx_C uc_37 1 = nx_C u 1 := (by funext z; unfold nx_C; rw [hp_37.1.2.2 14 (by decide) (by decide), e6 14 (by decide) (by decide)]); rw [e99] at q8; exact q8))
        refine lv_istore_n (lv' := [(1, .int (nI (kc_43))), (0, .ref (q 0))]) C.1 C.2.1 dX5_collect_46 rfl hl (by decide) rfl (fun ls hl => ?_)
        refine lv_goto (tgt := 12) C.1 C.2.1 dX5_collect_47 (by decide) ?_
        exact ih_12 (kc_43) (uc_37) _ _ _ (by exact hS9.1) (by have := hS9.2; omega) Hh (lv_sub hl [1, 0] rfl)
  exact loop_12 _ (kc_8) ((up1 u.1 3 (0), u.2.1, u.2.2)) _ _ _ (by exact co_0 hok hbd rfl hk_8) (Nat.lt_succ_self _) Hh (lv_sub hl [1, 0] rfl)
