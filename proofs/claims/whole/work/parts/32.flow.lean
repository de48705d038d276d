/-! flow -/
noncomputable def cdF (u : pf_S) (x y z : Int32) : Nat := pif (inx x (u.1 1)) (pif (¬ y < 0 ∧ inr z 0 2) (pif (u.2 18 (tn x) = 0) 0 3) 2) 1
theorem cdF_1 {u : pf_S} {x y z : Int32} (h : ¬ inx x (u.1 1)) : cdF u x y z = 1 := pif_neg h
theorem cdF_2 {u : pf_S} {x y z : Int32} {a : Nat} (h10 : u.1 1 ≤ 10) (hx : x = nI a) (ha : a < u.1 1) (h : ¬ (¬ y < 0 ∧ inr z 0 2)) : cdF u x y z = 2 := by
  unfold cdF
  rw [pif_pos (inx_ok hx (by omega) ha), pif_neg h]
theorem cdF_v {u : pf_S} {x y z : Int32} {a i w : Nat} (h10 : u.1 1 ≤ 10) (hx : x = nI a) (ha : a < u.1 1) (hy : y = nI i) (hi : i < 2 ^ 31) (hz : z = nI w) (hw : w ≤ 2) : cdF u x y z = if u.2 18 a = 0 then 0 else 3 := by
  unfold cdF
  rw [pif_pos (inx_ok hx (by omega) ha), pif_pos ⟨n0_ok hy hi, inr_ok hz (by decide) (Nat.zero_le _) hw⟩, tn_eq hx (by omega), pif_if]
def fw_n (u : pf_S) (d : Nat) : Nat := fl_sum (fun a => if 0 < tk_x u d a then 1 else 0) (u.1 2)
def fw_p (u : pf_S) (o : Nat) (p : Nat) : Nat := fl_sum (fun x => fw_n u (o * 3 + x)) p
def fw_t (u : pf_S) (d t : Nat) : Nat := fl_sum (fun t => if 0 < tk_x u d (u.2 20 t) then 1 else 0) t
theorem fw_s (u : pf_S) (o p : Nat) : fw_p u o (p + 1) = fw_p u o p + fw_n u (o * 3 + p) := rfl
theorem fw_le {u : pf_S} (d : Nat) : fw_n u d ≤ u.1 2 := fl_sum_cnt (fun k => by split <;> omega) _
def fw_at (u : pf_S) (d i w k : Nat) : Prop := (∃ t, t < u.1 2 ∧ 0 < tk_x u d (u.2 20 t) ∧ fw_t u d t = i ∧ k = if w = 0 then u.2 20 t else tk_x u d (u.2 20 t)) ∨ (k = 4294967295 ∧ fw_t u d (u.1 2) ≤ i)
def fw_post (u : pf_S) (o i w k : Nat) : Prop := (∃ p, p < od_n u o ∧ fw_p u o p ≤ i ∧ i < fw_p u o (p + 1) ∧ ((w = 1 ∧ k = gd_dg u (u.2 15 o) p) ∨ (w ≠ 1 ∧ fw_at u (o * 3 + p) (i - fw_p u o p) w k))) ∨ (k = 4294967295 ∧ fw_p u o (od_n u o) ≤ i)
set_option maxHeartbeats 4000000 in
set_option maxRecDepth 100000 in
theorem c_X4_flow (l : Launch) (G : gw_G) (q : Nat → Nat) (u : pf_S) (x : Int32) (y : Int32) (z : Int32) (hst9 : l.stackTraces = false) (h2 : cl2 u) : gx_MI l yX4_flow cX4_flow 8 (some .int) 7 104 [.ref (q 0), .int (x), .int (y), .int (z)] G (pw G q) u (fun r u1 => ∃ k : Nat, r = nI k ∧ (cdF u x y z = 0 ∧ fw_post u (tn x) (tn y) (tn z) k ∧ u1 = u)) (fun E u1 => u1 = u ∧ ((E = "java/util/NoSuchElementException" ∧ cdF u x y z = 1) ∨ (E = "java/lang/IllegalArgumentException" ∧ cdF u x y z = 2) ∨ (E = "java/lang/IllegalStateException" ∧ cdF u x y z = 3))) := by
  refine gx_entryI (own := RX4) (by decide) rfl (Nat.le_of_ble_eq_true rfl) ?_
  intro p e s m args below meth c A ls C X9 hex9 Hh hl
  have hl : lv_has ls 8 [(0, .ref (q 0)), (1, .int (x)), (2, .int (y)), (3, .int (z))] := hl
  have hcl : cls u := h2.1
  have hgd : gd_ok u := h2.1.1.1
  have har : ar_ok u := h2.1.1.2.1
  have hod : od_ok u := h2.1.1.2.2
  have h10 : u.1 0 ≤ 10 := har.1
  have o10 : u.1 1 ≤ 10 := hod.1
  have hcap : tk_cap u := fs_cap hcl.2.1 har
  have hn2 : u.1 2 = u.1 0 := hcl.2.1.1
  have hlt : ∀ z, z < u.1 2 → u.2 20 z < u.1 2 := fun z hz => by (rw [hn2] at hz ⊢; exact hcl.2.1.2.1.1 z hz)
  refine lv_aload_n C.1 C.2.1 dX4_flow_0 rfl (lv_at hl 0 rfl) ?_
  refine lv_iload_n C.1 C.2.1 dX4_flow_1 rfl (lv_at hl 1 rfl) ?_
  refine gx_fromV (w := pw G q) (u := u) C hex9 Hh (gx_rV (n := 1) (C1 := RX4) [.int (x)] C X9 Hh (c_X4_needOrder l G q (u) (x) hst9 (by first | assumption | omega) _) tw_609 tw_611 tw_40 tw_66 tw_612 (by decide +kernel) ⟨Nat.le_of_ble_eq_true rfl, Nat.le_of_ble_eq_true rfl⟩ 0 pw_at0 rfl rfl hl.1 (Nat.le_of_ble_eq_true rfl) dX4_flow_2 ⟨Nat.le_of_ble_eq_true rfl, Nat.le_of_ble_eq_true rfl⟩) (fun E u1 hx9 => by exact ⟨hx9.2.2, Or.inl ⟨hx9.1, cdF_1 (inx_no hx9.2.1)⟩⟩) (fun uc_2 H locs hp_2 Hh => ?_)
  obtain ⟨hp_2, hu_2⟩ := hp_2
  rw [hu_2] at Hh
  clear hu_2
  obtain ⟨a, hx_2, hj_2⟩ := hp_2
  rw [hx_2] at hl
  have h18 := hod.2.2.2.2.2.1 a (by omega)
  have h15 := hod.2.2.1 a (by omega)
  have hnn : 1 ≤ od_n u a ∧ od_n u a ≤ 3 := gd_dn_le hgd h15
  refine lv_iload_n C.1 C.2.1 dX4_flow_5 rfl (lv_at hl 2 rfl) ?_
  refine gx_fromV (w := pw G q) (u := u) C hex9 Hh (gx_rS (n := 1) [.int (y)] C X9 Hh (c_X4_needNotBelowZero l G q (u) (y) hst9  _) tw_674 tw_675 tw_66 tw_676 (by decide +kernel) ⟨Nat.le_of_ble_eq_true rfl, Nat.le_of_ble_eq_true rfl⟩ rfl hl.1 (Nat.le_of_ble_eq_true rfl) dX4_flow_6 ⟨Nat.le_of_ble_eq_true rfl, Nat.le_of_ble_eq_true rfl⟩) (fun E u1 hx9 => by exact ⟨hx9.2.2, Or.inr (Or.inl ⟨hx9.1, cdF_2 o10 hx_2 hj_2 (fun h => h.1 hx9.2.1)⟩)⟩) (fun uc_6 H locs hp_6 Hh => ?_)
  obtain ⟨hp_6, hu_6⟩ := hp_6
  rw [hu_6] at Hh
  clear hu_6
  obtain ⟨i, hx_6, hj_6⟩ := hp_6
  rw [hx_6] at hl
  refine lv_iload_n C.1 C.2.1 dX4_flow_9 rfl (lv_at hl 3 rfl) ?_
  refine lv_iconst (v := nI 0) C.1 C.2.1 dX4_flow_10 (by decide +kernel) ?_
  refine lv_iconst (v := nI 2) C.1 C.2.1 dX4_flow_11 (by decide +kernel) ?_
  refine gx_fromV (w := pw G q) (u := u) C hex9 Hh (gx_rS (n := 3) [.int (z), .int (nI (0)), .int (nI (2))] C X9 Hh (c_X4_needWithin l G q (u) (z) (0) (2) hst9 (by decide) (by decide) _) tw_284 tw_285 tw_66 tw_286 (by decide +kernel) ⟨Nat.le_of_ble_eq_true rfl, Nat.le_of_ble_eq_true rfl⟩ rfl hl.1 (Nat.le_of_ble_eq_true rfl) dX4_flow_12 ⟨Nat.le_of_ble_eq_true rfl, Nat.le_of_ble_eq_true rfl⟩) (fun E u1 hx9 => by exact ⟨hx9.2.2, Or.inr (Or.inl ⟨hx9.1, cdF_2 o10 hx_2 hj_2 (fun h => hx9.2.1 h.2)⟩)⟩) (fun uc_12 H locs hp_12 Hh => ?_)
  obtain ⟨hp_12, hu_12⟩ := hp_12
  rw [hu_12] at Hh
  clear hu_12
  obtain ⟨w, hx_12, hj_12⟩ := hp_12
  rw [hx_12] at hl
  refine lv_aload_n C.1 C.2.1 dX4_flow_15 rfl (lv_at hl 0 rfl) ?_
  refine gw_get (Cn := RX4) (T := TX4) (N := 4) C Hh 0 pw_at0 rfl uwX4 2 (by decide) rfl tw_220 rfl dX4_flow_16 ?_
  refine gw_getN (Cn := RX2) (T := TX2) (N := 7) C Hh 3 pw_at3 rfl uwX2 5 (by decide) rfl tw_161 rfl dX4_flow_19 ?_
  refine lv_iload_n C.1 C.2.1 dX4_flow_22 rfl (lv_at hl 1 rfl) ?_
  refine gw_ld C Hh 18 pw_at18 (by decide) dX4_flow_23 (by omega) ?_
  refine gw_if_eq (tgt := 37) C dX4_flow_24 (by decide) (by omega) (fun hc_24 => ?_) (fun hc_24 => ?_)
  · skip
    refine lv_iconst (v := nI 0) C.1 C.2.1 dX4_flow_37 (by decide +kernel) ?_
    refine lv_istore (lv' := [(4, .int (nI (0))), (0, .ref (q 0)), (1, .int (nI (a))), (2, .int (nI (i))), (3, .int (nI (w)))]) C.1 C.2.1 dX4_flow_38 hl (by decide) rfl (fun ls hl => ?_)
    refine lv_iconst (v := nI 0) C.1 C.2.1 dX4_flow_40 (by decide +kernel) ?_
    refine lv_istore (lv' := [(5, .int (nI (0))), (4, .int (nI (0))), (0, .ref (q 0)), (1, .int (nI (a))), (2, .int (nI (i))), (3, .int (nI (w)))]) C.1 C.2.1 dX4_flow_41 hl (by decide) rfl (fun ls hl => ?_)
    have loop_43 : ∀ (fu : Nat) (x1 : Nat) (ps : Nat) (H : Heap) (locs : List Loc) (ls : Array Slot), (x1 ≤ od_n u a) → (ps = fw_p u a x1) → (ps ≤ i) → od_n u a - x1 < fu → gw_H G A s (pw G q u) H locs → lv_has ls 8 [(0, .ref (q 0)), (1, .int (nI (a))), (2, .int (nI (i))), (3, .int (nI (w))), (4, .int (nI (ps))), (5, .int (nI (x1)))] → W p l e (gx_rm 7 104) s m args below meth c H locs 0 0 (gx_MQ below (va_Qi (fun r u1 => ∃ k : Nat, r = nI k ∧ (cdF u x y z = 0 ∧ fw_post u (tn x) (tn y) (tn z) k ∧ u1 = u)) (gw_at G A (pw G q)) A) (gx_XC G A (pw G q) (fun E u1 => u1 = u ∧ ((E = "java/util/NoSuchElementException" ∧ cdF u x y z = 1) ∨ (E = "java/lang/IllegalArgumentException" ∧ cdF u x y z = 2) ∨ (E = "java/lang/IllegalStateException" ∧ cdF u x y z = 3)))) args s A) (F0 m 43 ls []) := by
      intro fu
      induction fu with
      | zero =>
        intro x1 ps  H locs ls hx1 hps hpi hmf
        exact absurd hmf (Nat.not_lt_zero _)
      | succ fu ih_43 =>
        intro x1 ps  H locs ls hx1 hps hpi hmf Hh hl
        refine lv_iload C.1 C.2.1 dX4_flow_43 (lv_at hl 5 rfl) ?_
        refine lv_aload_n C.1 C.2.1 dX4_flow_45 rfl (lv_at hl 0 rfl) ?_
        refine lv_iload_n C.1 C.2.1 dX4_flow_46 rfl (lv_at hl 1 rfl) ?_
        refine gw_fromI (w := pw G q) (u := u) C Hh (gw_runV (n := 1) (C1 := RX4) [.int (nI (a))] C Hh (c_X4_demandsOf l G q (u) (a) (by first | assumption | omega) (by first | assumption | omega) (by first | assumption | omega) _) tw_251 tw_253 tw_4 tw_66 tw_254 (by decide +kernel) ⟨Nat.le_of_ble_eq_true rfl, Nat.le_of_ble_eq_true rfl⟩ 0 pw_at0 rfl rfl hl.1 (Nat.le_of_ble_eq_true rfl) dX4_flow_47 ⟨Nat.zero_le _, Nat.zero_le _⟩) (fun rc_47 uc_47 H locs hp_47 Hh => ?_)
        obtain ⟨kc_47, rfl, hp_47⟩ := hp_47
        obtain ⟨hk_47, hu_47⟩ := hp_47
        rw [hu_47] at Hh
        clear hu_47
        refine gw_icmp_ge (tgt := 143) C dX4_flow_50 (by decide) (by omega) (by omega) (fun hc_50 => ?_) (fun hc_50 => ?_)
        · skip
          refine lv_iconst (v := nI 4294967295) C.1 C.2.1 dX4_flow_143 (by decide +kernel) ?_
          refine gx_ret ?_
          exact gw_iret (w := pw G q) (u := u) C Hh dX4_flow_144 ⟨_, rfl, by rw [tn_eq hx_2 (by omega), tn_eq hx_6 (by omega), tn_eq hx_12 (by omega)]; refine ⟨(cdF_v o10 hx_2 hj_2 hx_6 hj_6 hx_12 hj_12.2).trans (if_pos hc_24), Or.inr ⟨rfl, ?_⟩, rfl⟩; have h9 : x1 = od_n u a := (by omega); rw [← h9, ← hps]; exact hpi⟩
        · skip
          refine lv_iload_n C.1 C.2.1 dX4_flow_53 rfl (lv_at hl 1 rfl) ?_
          refine lv_iload C.1 C.2.1 dX4_flow_54 (lv_at hl 5 rfl) ?_
          refine gw_fromI (w := pw G q) (u := u) C Hh (gw_runS (n := 2) [.int (nI (a)), .int (nI (x1))] C Hh (c_X4_demandAt l G q (u) (a) (x1)  _) tw_426 tw_427 tw_66 tw_428 (by decide +kernel) ⟨Nat.le_of_ble_eq_true rfl, Nat.le_of_ble_eq_true rfl⟩ rfl hl.1 (Nat.le_of_ble_eq_true rfl) dX4_flow_56 ⟨Nat.zero_le _, Nat.zero_le _⟩) (fun rc_56 uc_56 H locs hp_56 Hh => ?_)
          obtain ⟨kc_56, rfl, hp_56⟩ := hp_56
          obtain ⟨hk_56, hu_56⟩ := hp_56
          rw [hu_56] at Hh
          clear hu_56
          refine lv_istore (lv' := [(6, .int (nI (kc_56))), (0, .ref (q 0)), (1, .int (nI (a))), (2, .int (nI (i))), (3, .int (nI (w))), (4, .int (nI (ps))), (5, .int (nI (x1)))]) C.1 C.2.1 dX4_flow_59 hl (by decide) rfl (fun ls hl => ?_)
          refine lv_aload_n C.1 C.2.1 dX4_flow_61 rfl (lv_at hl 1 rfl) ?_
          refine gw_get (Cn := RX4) (T := TX4) (N := 4) C Hh 0 pw_at0 rfl uwX4 3 (by decide) rfl tw_221 rfl dX4_flow_62 ?_
          refine lv_iload C.1 C.2.1 dX4_flow_65 (lv_at hl 0 rfl) ?_
          refine gw_fromI (w := pw G q) (u := u) C Hh (gw_runVN (n := 1) (C1 := RX3) [.int (nI (kc_56))] C Hh (c_X3_partsOf l G q (u) (kc_56) (by first | assumption | omega) (by first | assumption | omega) _) tw_695 tw_697 tw_46 tw_70 tw_698 (by decide +kernel) ⟨Nat.le_of_ble_eq_true rfl, Nat.le_of_ble_eq_true rfl⟩ 4 pw_at4 rfl rfl hl.1 (Nat.le_of_ble_eq_true rfl) dX4_flow_67 ⟨Nat.zero_le _, Nat.zero_le _⟩) (fun rc_67 uc_67 H locs hp_67 Hh => ?_)
          obtain ⟨kc_67, rfl, hp_67⟩ := hp_67
          obtain ⟨hk_67, hu_67⟩ := hp_67
          rw [hu_67] at Hh
          clear hu_67
          have h67 : kc_67 ≤ 10 := by (rw [hk_67]; exact Nat.le_trans (fw_le (u := u) kc_56) (by omega))
          refine lv_istore (lv' := [(7, .int (nI (kc_67))), (6, .int (nI (kc_56))), (0, .ref (q 0)), (1, .int (nI (a))), (2, .int (nI (i))), (3, .int (nI (w))), (4, .int (nI (ps))), (5, .int (nI (x1)))]) C.1 C.2.1 dX4_flow_70 hl (by decide) rfl (fun ls hl => ?_)
          refine lv_iload_n C.1 C.2.1 dX4_flow_72 rfl (lv_at hl 4 rfl) ?_
          refine lv_iload C.1 C.2.1 dX4_flow_73 (lv_at hl 6 rfl) ?_
          refine gw_isub C dX4_flow_75 (by omega) ?_
          refine lv_iload C.1 C.2.1 dX4_flow_76 (lv_at hl 0 rfl) ?_
          refine gw_icmp_ge (tgt := 130) C dX4_flow_78 (by decide) (by omega) (by omega) (fun hc_78 => ?_) (fun hc_78 => ?_)
          · skip
            refine lv_iload C.1 C.2.1 dX4_flow_130 (lv_at hl 6 rfl) ?_
            refine lv_iload C.1 C.2.1 dX4_flow_132 (lv_at hl 0 rfl) ?_
            refine gw_iadd C dX4_flow_134 ?_
            refine lv_istore (lv' := [(4, .int (nI (ps + kc_67))), (7, .int (nI (kc_67))), (6, .int (nI (kc_56))), (0, .ref (q 0)), (1, .int (nI (a))), (2, .int (nI (i))), (3, .int (nI (w))), (5, .int (nI (x1)))]) C.1 C.2.1 dX4_flow_135 hl (by decide) rfl (fun ls hl => ?_)
            refine lv_iinc (v := nI (x1 + 1)) (lv' := [(5, .int (nI (x1 + 1))), (4, .int (nI (ps + kc_67))), (7, .int (nI (kc_67))), (6, .int (nI (kc_56))), (0, .ref (q 0)), (1, .int (nI (a))), (2, .int (nI (i))), (3, .int (nI (w)))]) C.1 C.2.1 dX4_flow_137 hl (k := 7) rfl (nI_add _ 1) (by decide) rfl (fun ls hl => ?_)
            refine lv_goto (tgt := 43) C.1 C.2.1 dX4_flow_140 (by decide) ?_
            exact ih_43 (x1 + 1) (ps + kc_67)  _ _ _ (by omega) (by rw [fw_s, hps, hk_67, hk_56]; rfl) (by omega) (by omega) Hh (lv_sub hl [4, 5, 6, 7, 1, 0] rfl)
          · skip
            refine lv_iload_n C.1 C.2.1 dX4_flow_81 rfl (lv_at hl 5 rfl) ?_
            refine lv_iconst (v := nI 1) C.1 C.2.1 dX4_flow_82 (by decide +kernel) ?_
            refine gw_icmp_ne (tgt := 107) C dX4_flow_83 (by decide) (by omega) (by omega) (fun hc_83 => ?_) (fun hc_83 => ?_)
            · skip
              refine lv_aload_n C.1 C.2.1 dX4_flow_107 rfl (lv_at hl 2 rfl) ?_
              refine gw_get (Cn := RX4) (T := TX4) (N := 4) C Hh 0 pw_at0 rfl uwX4 3 (by decide) rfl tw_221 rfl dX4_flow_108 ?_
              refine lv_iload C.1 C.2.1 dX4_flow_111 (lv_at hl 1 rfl) ?_
              refine lv_iload_n C.1 C.2.1 dX4_flow_113 rfl (lv_at hl 4 rfl) ?_
              refine lv_iload C.1 C.2.1 dX4_flow_114 (lv_at hl 6 rfl) ?_
              refine gw_isub C dX4_flow_116 (by omega) ?_
              refine lv_iload_n C.1 C.2.1 dX4_flow_117 rfl (lv_at hl 5 rfl) ?_
              refine gw_if_ne (tgt := 125) C dX4_flow_118 (by decide) (by omega) (fun hc_118 => ?_) (fun hc_118 => ?_)
              · skip
                refine lv_iconst (v := nI 0) C.1 C.2.1 dX4_flow_125 (by decide +kernel) ?_
                refine gw_fromI (w := pw G q) (u := u) C Hh (gw_runVN (n := 3) (C1 := RX3) [.int (nI (kc_56)), .int (nI (i - ps)), .int (nI (0))] C Hh (c_X3_partOf l G q (u) (kc_56) (i - ps) (0) (by first | assumption | omega) (by first | assumption | omega) (by first | assumption | omega) (by first | assumption | omega) (by first | assumption | omega) _) tw_699 tw_701 tw_47 tw_70 tw_702 (by decide +kernel) ⟨Nat.le_of_ble_eq_true rfl, Nat.le_of_ble_eq_true rfl⟩ 4 pw_at4 rfl rfl hl.1 (Nat.le_of_ble_eq_true rfl) dX4_flow_126 ⟨Nat.zero_le _, Nat.zero_le _⟩) (fun rc_126 uc_126 H locs hp_126 Hh => ?_)
                obtain ⟨kc_126, rfl, hp_126⟩ := hp_126
                obtain ⟨hk_126, hu_126⟩ := hp_126
                rw [hu_126] at Hh
                clear hu_126
                refine gx_ret ?_
                exact gw_iret (w := pw G q) (u := u) C Hh dX4_flow_129 ⟨_, rfl, by rw [tn_eq hx_2 (by omega), tn_eq hx_6 (by omega), tn_eq hx_12 (by omega)]; refine ⟨(cdF_v o10 hx_2 hj_2 hx_6 hj_6 hx_12 hj_12.2).trans (if_pos hc_24), ?_, rfl⟩; refine Or.inl ⟨x1, by omega, by omega, by (rw [fw_s, ← hps, ← hk_56]; have e9 : kc_67 = fw_n u kc_56 := hk_67; omega), ?_⟩; rw [← hps, ← hk_56]; first | exact Or.inl ⟨hc_83, hk_101⟩ | (refine Or.inr ⟨hc_83, ?_⟩; rcases hk_126 with ⟨t9, h1, h2, h3, h4⟩ | h1; exact Or.inl ⟨t9, h1, h2, h3, by (rw [h4]; first | rw [if_neg (by decide), if_pos hc_118] | rw [if_pos rfl, if_neg (by omega)])⟩; exact Or.inr h1)⟩
              · skip
                refine lv_iconst (v := nI 1) C.1 C.2.1 dX4_flow_121 (by decide +kernel) ?_
                refine lv_goto (tgt := 126) C.1 C.2.1 dX4_flow_122 (by decide) ?_
                refine gw_fromI (w := pw G q) (u := u) C Hh (gw_runVN (n := 3) (C1 := RX3) [.int (nI (kc_56)), .int (nI (i - ps)), .int (nI (1))] C Hh (c_X3_partOf l G q (u) (kc_56) (i - ps) (1) (by first | assumption | omega) (by first | assumption | omega) (by first | assumption | omega) (by first | assumption | omega) (by first | assumption | omega) _) tw_699 tw_701 tw_47 tw_70 tw_702 (by decide +kernel) ⟨Nat.le_of_ble_eq_true rfl, Nat.le_of_ble_eq_true rfl⟩ 4 pw_at4 rfl rfl hl.1 (Nat.le_of_ble_eq_true rfl) dX4_flow_126 ⟨Nat.zero_le _, Nat.zero_le _⟩) (fun rc_126 uc_126 H locs hp_126 Hh => ?_)
                obtain ⟨kc_126, rfl, hp_126⟩ := hp_126
                obtain ⟨hk_126, hu_126⟩ := hp_126
                rw [hu_126] at Hh
                clear hu_126
                refine gx_ret ?_
                exact gw_iret (w := pw G q) (u := u) C Hh dX4_flow_129 ⟨_, rfl, by rw [tn_eq hx_2 (by omega), tn_eq hx_6 (by omega), tn_eq hx_12 (by omega)]; refine ⟨(cdF_v o10 hx_2 hj_2 hx_6 hj_6 hx_12 hj_12.2).trans (if_pos hc_24), ?_, rfl⟩; refine Or.inl ⟨x1, by omega, by omega, by (rw [fw_s, ← hps, ← hk_56]; have e9 : kc_67 = fw_n u kc_56 := hk_67; omega), ?_⟩; rw [← hps, ← hk_56]; first | exact Or.inl ⟨hc_83, hk_101⟩ | (refine Or.inr ⟨hc_83, ?_⟩; rcases hk_126 with ⟨t9, h1, h2, h3, h4⟩ | h1; exact Or.inl ⟨t9, h1, h2, h3, by (rw [h4]; first | rw [if_neg (by decide), if_pos hc_118] | rw [if_pos rfl, if_neg (by omega)])⟩; exact Or.inr h1)⟩
            · skip
              refine lv_aload_n C.1 C.2.1 dX4_flow_86 rfl (lv_at hl 2 rfl) ?_
              refine gw_get (Cn := RX4) (T := TX4) (N := 4) C Hh 0 pw_at0 rfl uwX4 0 (by decide) rfl tw_218 rfl dX4_flow_87 ?_
              refine lv_aload_n C.1 C.2.1 dX4_flow_90 rfl (lv_at hl 2 rfl) ?_
              refine gw_get (Cn := RX4) (T := TX4) (N := 4) C Hh 0 pw_at0 rfl uwX4 2 (by decide) rfl tw_220 rfl dX4_flow_91 ?_
              refine gw_getN (Cn := RX2) (T := TX2) (N := 7) C Hh 3 pw_at3 rfl uwX2 2 (by decide) rfl tw_156 rfl dX4_flow_94 ?_
              refine lv_iload_n C.1 C.2.1 dX4_flow_97 rfl (lv_at hl 3 rfl) ?_
              refine gw_ld C Hh 15 pw_at15 (by decide) dX4_flow_98 (by omega) ?_
              refine lv_iload C.1 C.2.1 dX4_flow_99 (lv_at hl 7 rfl) ?_
              refine gw_fromI (w := pw G q) (u := u) C Hh (gw_runVN (n := 2) (C1 := RX1) [.int (nI (u.2 15 (a))), .int (nI (x1))] C Hh (c_X1_demandGood l G q (u) (u.2 15 (a)) (x1) (by first | assumption | omega) (by first | assumption | omega) (by first | assumption | omega) _) tw_429 tw_431 tw_17 tw_67 tw_432 (by decide +kernel) ⟨Nat.le_of_ble_eq_true rfl, Nat.le_of_ble_eq_true rfl⟩ 1 pw_at1 rfl rfl hl.1 (Nat.le_of_ble_eq_true rfl) dX4_flow_101 ⟨Nat.zero_le _, Nat.zero_le _⟩) (fun rc_101 uc_101 H locs hp_101 Hh => ?_)
              obtain ⟨kc_101, rfl, hp_101⟩ := hp_101
              obtain ⟨hk_101, hu_101⟩ := hp_101
              rw [hu_101] at Hh
              clear hu_101
              refine lv_goto (tgt := 129) C.1 C.2.1 dX4_flow_104 (by decide) ?_
              refine gx_ret ?_
              exact gw_iret (w := pw G q) (u := u) C Hh dX4_flow_129 ⟨_, rfl, by rw [tn_eq hx_2 (by omega), tn_eq hx_6 (by omega), tn_eq hx_12 (by omega)]; refine ⟨(cdF_v o10 hx_2 hj_2 hx_6 hj_6 hx_12 hj_12.2).trans (if_pos hc_24), ?_, rfl⟩; refine Or.inl ⟨x1, by omega, by omega, by (rw [fw_s, ← hps, ← hk_56]; have e9 : kc_67 = fw_n u kc_56 := hk_67; omega), ?_⟩; rw [← hps, ← hk_56]; first | exact Or.inl ⟨hc_83, hk_101⟩ | (refine Or.inr ⟨hc_83, ?_⟩; rcases hk_126 with ⟨t9, h1, h2, h3, h4⟩ | h1; exact Or.inl ⟨t9, h1, h2, h3, by (rw [h4]; first | rw [if_neg (by decide), if_pos hc_118] | rw [if_pos rfl, if_neg (by omega)])⟩; exact Or.inr h1)⟩
    exact loop_43 _ (0) (0)  _ _ _ (by omega) (by rfl) (by omega) (Nat.lt_succ_self _) Hh (lv_sub hl [2, 3, 4, 5, 1, 0] rfl)
  · skip
    exact gx_throw (w := pw G q) (u := u) (E := "java/lang/IllegalStateException") (text := "it is not covered") (names := ["java/lang/RuntimeException", "java/lang/Exception"]) hst9 C X9 hex9 Hh hl.1 (by decide +kernel) (by decide +kernel) tw_366 tw_76 (by decide) ex_82_4 ex_82_5 ex_82_6 dX4_flow_27 dX4_flow_30 dX4_flow_31 dX4_flow_33 dX4_flow_36 ⟨Nat.le_of_ble_eq_true rfl, Nat.le_of_ble_eq_true rfl, Nat.le_of_ble_eq_true rfl, Nat.le_of_ble_eq_true rfl⟩ (by exact ⟨rfl, Or.inr (Or.inr ⟨rfl, (cdF_v o10 hx_2 hj_2 hx_6 hj_6 hx_12 hj_12.2).trans (if_neg (by omega))⟩)⟩)
