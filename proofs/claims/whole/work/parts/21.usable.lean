/-- how much the p-th demand of an order wants -/
def od_w (u : pf_S) (a x : Nat) : Nat := u.2 16 a * gd_d1 u (u.2 15 a) x
def od_n (u : pf_S) (a : Nat) : Nat := gd_dn u (u.2 15 a)
theorem gd_dn_le {u : pf_S} (h : gd_ok u) {g : Nat} (hg : g < 6) : 1 ≤ gd_dn u g ∧ gd_dn u g ≤ 3 := by
  have := h.1 g hg
  unfold gd_dn
  split <;> omega
theorem gd_dg_lt {u : pf_S} (h : gd_ok u) {g x : Nat} (hg : g < 6) (hx : x < 3) : gd_dg u g x < 6 := by
  unfold gd_dg
  split
  · exact h.2.2.1 _ (by omega)
  · exact hg
theorem gd_d1_le {u : pf_S} (h : gd_ok u) {g x : Nat} (hg : g < 6) (hx : x < 3) : gd_d1 u g x ≤ 100 := by
  unfold gd_d1
  split
  · exact h.2.2.2.1 _ (by omega)
  · decide
theorem od_w_le {u : pf_S} (h : gd_ok u) (ho : od_ok u) {a x : Nat} (ha : a < 10) (hx : x < 3) : od_w u a x ≤ 1000000 := by
  unfold od_w
  have h1 := ho.2.2.2.1 a ha
  have h2 := gd_d1_le h (ho.2.2.1 a ha) hx
  exact Nat.le_trans (Nat.mul_le_mul h1 h2) (by decide)
/-- an arrival can be used for a demand of good g at the due time t -/
def us_c (u : pf_S) (g t a : Nat) : Bool := decide ((u.2 11 a = g ∨ 0 < u.2 6 (u.2 11 a * 6 + g)) ∧ u.2 10 a ≤ t ∧ t - u.2 10 a ≤ u.2 5 (u.2 11 a))
def us_m (u : pf_S) (g t : Nat) : Nat → Nat
  | 0 => 0
  | i + 1 => if us_c u g t i then us_m u g t i ||| 1 <<< i else us_m u g t i
theorem us_m_succ (u : pf_S) (g t i : Nat) : us_m u g t (i + 1) = if us_c u g t i then us_m u g t i ||| 1 <<< i else us_m u g t i := rfl
theorem us_m_bit {u : pf_S} {g t : Nat} : ∀ (i a : Nat), (us_m u g t i).testBit a = (decide (a < i) && us_c u g t a)
  | 0, a => by simp [us_m]
  | i + 1, a => by
    unfold us_m
    have ih := us_m_bit (u := u) (g := g) (t := t) i a
    by_cases hc : us_c u g t i = true
    · rw [if_pos hc, Nat.testBit_or, ih, Nat.one_shiftLeft, Nat.testBit_two_pow]
      by_cases h1 : a = i
      · subst h1
        simp [hc]
      · have h2 : ¬ i = a := fun q => h1 q.symm
        have h3 : decide (a < i + 1) = decide (a < i) := decide_eq_decide.mpr (by omega)
        simp [h2, h3]
    · rw [if_neg hc, ih]
      by_cases h1 : a = i
      · subst h1
        have : us_c u g t a = false := Bool.eq_false_iff.mpr hc
        simp [this]
      · have h3 : decide (a < i + 1) = decide (a < i) := decide_eq_decide.mpr (by omega)
        rw [h3]
/-- the arrivals that a demand of good g at the due time t may be met from -/
def us_f (u : pf_S) (g t : Nat) : Nat := us_m u g t (u.1 0)
theorem us_f_bit {u : pf_S} {g t a : Nat} : (us_f u g t).testBit a = true ↔ a < u.1 0 ∧ us_c u g t a = true := by
  unfold us_f
  rw [us_m_bit]
  simp
theorem nI_subN {x y : Nat} (hy : y ≤ 4294967296) : nI x - nI y = nI (x + 4294967296 - y) := by
  have e : nI x = nI (x + 4294967296) := by
    show Int32.ofNat x = Int32.ofNat (x + 4294967296)
    apply Int32.toBitVec_inj.1
    show BitVec.ofNat 32 x = BitVec.ofNat 32 (x + 4294967296)
    apply BitVec.eq_of_toNat_eq
    simp only [BitVec.toNat_ofNat]
    omega
  rw [e, pk_sub (by omega)]
section GWE
variable {p : Program} {l : Launch} {e : Env} {R : Room} {s : State} {m : MethodId} {args : Array Value} {below : List Frame} {meth : Method} {c : Code} {H : Heap} {locs : List Loc} {cells slots : Nat} {Q : State → Prop}
variable {cc : ByteArray} {pc : Nat} {ls : Array Slot} {rest : List Value} {G : gw_G} {A : Nat → Prop} {own : String} {nL : Nat} {ret : Option FieldType}
theorem gw_isubN {x y : Nat} (C : gw_C p s m args meth c G own cc nL ret) (hdg : decode cc pc = .ok (.isub, 1)) (h : y ≤ 4294967296) (kk : W p l e R s m args below meth c H locs cells slots Q (F0 m (pc + 1) ls (.int (nI (x + 4294967296 - y)) :: rest))) : W p l e R s m args below meth c H locs cells slots Q (F0 m pc ls (.int (nI y) :: .int (nI x) :: rest)) :=
  lv_isub C.1 C.2.1 hdg (by rw [nI_subN h]; exact kk)
theorem gw_if_ltN {x tgt : Nat} {off : Int} (C : gw_C p s m args meth c G own cc nL ret) (hdg : decode cc pc = .ok (.ifCond .lt off, 3)) (ht : (pc : Int) + off = (tgt : Int)) (hx : 2 ^ 31 ≤ x) (hx2 : x < 2 ^ 32) (kt : W p l e R s m args below meth c H locs cells slots Q (F0 m tgt ls rest)) : W p l e R s m args below meth c H locs cells slots Q (F0 m pc ls (.int (nI x) :: rest)) :=
  lv_if_lt C.1 C.2.1 hdg ht (fun _ => kt) (fun h => absurd (gw_neg hx hx2) h)
end GWE
set_option maxHeartbeats 4000000 in
set_option maxRecDepth 100000 in
theorem c_X4_demandsOf (l : Launch) (G : gw_G) (q : Nat → Nat) (u : pf_S) (a : Nat) (hgd : gd_ok u) (hod : od_ok u) (ha : a < 10) : gw_MI l yX4_demandsOf cX4_demandsOf 2 (some .int) 2 42 [.ref (q 0), .int (nI (a))] G (pw G q) u (fun r u1 => ∃ k : Nat, r = nI k ∧ (k = od_n u a ∧ u1 = u)) := by
  refine gw_entryI (own := RX4) (by decide) rfl (Nat.le_of_ble_eq_true rfl) ?_
  intro p e s m args below meth c A ls C Hh hl
  have hl : lv_has ls 2 [(0, .ref (q 0)), (1, .int (nI (a)))] := hl
  refine lv_aload_n C.1 C.2.1 dX4_demandsOf_0 rfl (lv_at hl 0 rfl) ?_
  refine gw_get (Cn := RX4) (T := TX4) (N := 4) C Hh 0 pw_at0 rfl uwX4 0 (by decide) rfl tw_218 rfl dX4_demandsOf_1 ?_
  refine lv_aload_n C.1 C.2.1 dX4_demandsOf_4 rfl (lv_at hl 0 rfl) ?_
  refine gw_get (Cn := RX4) (T := TX4) (N := 4) C Hh 0 pw_at0 rfl uwX4 2 (by decide) rfl tw_220 rfl dX4_demandsOf_5 ?_
  refine gw_getN (Cn := RX2) (T := TX2) (N := 7) C Hh 3 pw_at3 rfl uwX2 2 (by decide) rfl tw_156 rfl dX4_demandsOf_8 ?_
  refine lv_iload_n C.1 C.2.1 dX4_demandsOf_11 rfl (lv_at hl 1 rfl) ?_
  refine gw_ld C Hh 15 pw_at15 (by decide) dX4_demandsOf_12 (by omega) ?_
  refine gw_fromI (w := pw G q) (u := u) C Hh (gw_runVN (n := 1) (C1 := RX1) [.int (nI (u.2 15 (a)))] C Hh (c_X1_demandsOf l G q (u) (u.2 15 (a)) (by first | assumption | omega) (by exact hod.2.2.1 a ha) _) tw_255 tw_257 tw_5 tw_67 tw_258 (by decide +kernel) ⟨Nat.le_of_ble_eq_true rfl, Nat.le_of_ble_eq_true rfl⟩ 1 pw_at1 rfl rfl hl.1 (Nat.le_of_ble_eq_true rfl) dX4_demandsOf_13 ⟨Nat.zero_le _, Nat.zero_le _⟩) (fun rc_13 uc_13 H locs hp_13 Hh => ?_)
  obtain ⟨kc_13, rfl, hp_13⟩ := hp_13
  obtain ⟨hk_13, hu_13⟩ := hp_13
  rw [hu_13] at Hh
  clear hu_13
  exact gw_iret (w := pw G q) (u := u) C Hh dX4_demandsOf_16 ⟨_, rfl, by exact ⟨hk_13, rfl⟩⟩
set_option maxHeartbeats 4000000 in
set_option maxRecDepth 100000 in
theorem c_X4_wantedBy (l : Launch) (G : gw_G) (q : Nat → Nat) (u : pf_S) (a : Nat) (x : Nat) (hgd : gd_ok u) (hod : od_ok u) (ha : a < 10) (hx : x < 3) : gw_MI l yX4_wantedBy cX4_wantedBy 3 (some .int) 2 43 [.ref (q 0), .int (nI (a)), .int (nI (x))] G (pw G q) u (fun r u1 => ∃ k : Nat, r = nI k ∧ (k = od_w u a x ∧ u1 = u)) := by
  refine gw_entryI (own := RX4) (by decide) rfl (Nat.le_of_ble_eq_true rfl) ?_
  intro p e s m args below meth c A ls C Hh hl
  have hl : lv_has ls 3 [(0, .ref (q 0)), (1, .int (nI (a))), (2, .int (nI (x)))] := hl
  refine lv_aload_n C.1 C.2.1 dX4_wantedBy_0 rfl (lv_at hl 0 rfl) ?_
  refine gw_get (Cn := RX4) (T := TX4) (N := 4) C Hh 0 pw_at0 rfl uwX4 2 (by decide) rfl tw_220 rfl dX4_wantedBy_1 ?_
  refine gw_getN (Cn := RX2) (T := TX2) (N := 7) C Hh 3 pw_at3 rfl uwX2 3 (by decide) rfl tw_158 rfl dX4_wantedBy_4 ?_
  refine lv_iload_n C.1 C.2.1 dX4_wantedBy_7 rfl (lv_at hl 1 rfl) ?_
  refine gw_ld C Hh 16 pw_at16 (by decide) dX4_wantedBy_8 (by omega) ?_
  refine lv_aload_n C.1 C.2.1 dX4_wantedBy_9 rfl (lv_at hl 0 rfl) ?_
  refine gw_get (Cn := RX4) (T := TX4) (N := 4) C Hh 0 pw_at0 rfl uwX4 0 (by decide) rfl tw_218 rfl dX4_wantedBy_10 ?_
  refine lv_aload_n C.1 C.2.1 dX4_wantedBy_13 rfl (lv_at hl 0 rfl) ?_
  refine gw_get (Cn := RX4) (T := TX4) (N := 4) C Hh 0 pw_at0 rfl uwX4 2 (by decide) rfl tw_220 rfl dX4_wantedBy_14 ?_
  refine gw_getN (Cn := RX2) (T := TX2) (N := 7) C Hh 3 pw_at3 rfl uwX2 2 (by decide) rfl tw_156 rfl dX4_wantedBy_17 ?_
  refine lv_iload_n C.1 C.2.1 dX4_wantedBy_20 rfl (lv_at hl 1 rfl) ?_
  refine gw_ld C Hh 15 pw_at15 (by decide) dX4_wantedBy_21 (by omega) ?_
  refine lv_iload_n C.1 C.2.1 dX4_wantedBy_22 rfl (lv_at hl 2 rfl) ?_
  refine gw_fromI (w := pw G q) (u := u) C Hh (gw_runVN (n := 2) (C1 := RX1) [.int (nI (u.2 15 (a))), .int (nI (x))] C Hh (c_X1_numberForOne l G q (u) (u.2 15 (a)) (x) (by first | assumption | omega) (by exact hod.2.2.1 a ha) (by first | assumption | omega) _) tw_267 tw_269 tw_8 tw_67 tw_270 (by decide +kernel) ⟨Nat.le_of_ble_eq_true rfl, Nat.le_of_ble_eq_true rfl⟩ 1 pw_at1 rfl rfl hl.1 (Nat.le_of_ble_eq_true rfl) dX4_wantedBy_23 ⟨Nat.zero_le _, Nat.zero_le _⟩) (fun rc_23 uc_23 H locs hp_23 Hh => ?_)
  obtain ⟨kc_23, rfl, hp_23⟩ := hp_23
  obtain ⟨hk_23, hu_23⟩ := hp_23
  rw [hu_23] at Hh
  clear hu_23
  refine gw_imul C dX4_wantedBy_26 ?_
  exact gw_iret (w := pw G q) (u := u) C Hh dX4_wantedBy_27 ⟨_, rfl, by exact ⟨by rw [hk_23]; rfl, rfl⟩⟩
set_option maxHeartbeats 4000000 in
set_option maxRecDepth 100000 in
theorem c_X4_usableFor (l : Launch) (G : gw_G) (q : Nat → Nat) (u : pf_S) (g : Nat) (t : Nat) (hgd : gd_ok u) (har : ar_ok u) (hg : g < 6) (ht : t < 100) : gw_MI l yX4_usableFor cX4_usableFor 7 (some .int) 2 44 [.ref (q 0), .int (nI (g)), .int (nI (t))] G (pw G q) u (fun r u1 => ∃ k : Nat, r = nI k ∧ (k = us_f u g t ∧ u1 = u)) := by
  refine gw_entryI (own := RX4) (by decide) rfl (Nat.le_of_ble_eq_true rfl) ?_
  intro p e s m args below meth c A ls C Hh hl
  have hl : lv_has ls 7 [(0, .ref (q 0)), (1, .int (nI (g))), (2, .int (nI (t)))] := hl
  refine lv_iconst (v := nI 0) C.1 C.2.1 dX4_usableFor_0 (by decide +kernel) ?_
  refine lv_istore_n (lv' := [(3, .int (nI (0))), (0, .ref (q 0)), (1, .int (nI (g))), (2, .int (nI (t)))]) C.1 C.2.1 dX4_usableFor_1 rfl hl (by decide) rfl (fun ls hl => ?_)
  refine lv_iconst (v := nI 0) C.1 C.2.1 dX4_usableFor_2 (by decide +kernel) ?_
  refine lv_istore (lv' := [(4, .int (nI (0))), (3, .int (nI (0))), (0, .ref (q 0)), (1, .int (nI (g))), (2, .int (nI (t)))]) C.1 C.2.1 dX4_usableFor_3 hl (by decide) rfl (fun ls hl => ?_)
  have loop_5 : ∀ (fu : Nat) (i : Nat) (z : Nat) (H : Heap) (locs : List Loc) (ls : Array Slot), (i ≤ u.1 0) → (z = us_m u g t i) → u.1 0 - i < fu → gw_H G A s (pw G q u) H locs → lv_has ls 7 [(0, .ref (q 0)), (1, .int (nI (g))), (2, .int (nI (t))), (3, .int (nI (z))), (4, .int (nI (i)))] → W p l e (gw_rm 2 44) s m args below meth c H locs 0 0 (MQ below (va_Qi (fun r u1 => ∃ k : Nat, r = nI k ∧ (k = us_f u g t ∧ u1 = u)) (gw_at G A (pw G q)) A) args s 0 0 A) (F0 m 5 ls []) := by
    intro fu
    induction fu with
    | zero =>
      intro i z  H locs ls hi hz hmf
      exact absurd hmf (Nat.not_lt_zero _)
    | succ fu ih_5 =>
      intro i z  H locs ls hi hz hmf Hh hl
      have h0 := har.1
      refine lv_iload C.1 C.2.1 dX4_usableFor_5 (lv_at hl 4 rfl) ?_
      refine lv_aload_n C.1 C.2.1 dX4_usableFor_7 rfl (lv_at hl 0 rfl) ?_
      refine gw_get (Cn := RX4) (T := TX4) (N := 4) C Hh 0 pw_at0 rfl uwX4 1 (by decide) rfl tw_219 rfl dX4_usableFor_8 ?_
      refine gw_getN (Cn := RX0) (T := TX0) (N := 5) C Hh 2 pw_at2 rfl uwX0 0 (by decide) rfl tw_125 rfl dX4_usableFor_11 ?_
      refine gw_icmp_ge (tgt := 89) C dX4_usableFor_14 (by decide) (by omega) (by omega) (fun hc_14 => ?_) (fun hc_14 => ?_)
      · skip
        refine lv_iload_n C.1 C.2.1 dX4_usableFor_89 rfl (lv_at hl 3 rfl) ?_
        exact gw_iret (w := pw G q) (u := u) C Hh dX4_usableFor_90 ⟨_, rfl, by exact ⟨by rw [hz, show i = u.1 0 by omega]; rfl, rfl⟩⟩
      · skip
        have join_83 : ∀ (z2 : Nat) (H : Heap) (locs : List Loc) (ls : Array Slot), (z2 = us_m u g t (i + 1)) → gw_H G A s (pw G q u) H locs → lv_has ls 7 [(0, .ref (q 0)), (1, .int (nI (g))), (2, .int (nI (t))), (3, .int (nI (z2))), (4, .int (nI (i)))] → W p l e (gw_rm 2 44) s m args below meth c H locs 0 0 (MQ below (va_Qi (fun r u1 => ∃ k : Nat, r = nI k ∧ (k = us_f u g t ∧ u1 = u)) (gw_at G A (pw G q)) A) args s 0 0 A) (F0 m 83 ls []) := by
          intro z2  H locs ls hz2 Hh hl
          refine lv_iinc (v := nI (i + 1)) (lv' := [(4, .int (nI (i + 1))), (0, .ref (q 0)), (1, .int (nI (g))), (2, .int (nI (t))), (3, .int (nI (z2)))]) C.1 C.2.1 dX4_usableFor_83 hl (k := 4) rfl (nI_add _ 1) (by decide) rfl (fun ls hl => ?_)
          refine lv_goto (tgt := 5) C.1 C.2.1 dX4_usableFor_86 (by decide) ?_
          exact ih_5 (i + 1) (z2)  _ _ _ (by first | assumption | omega) (by exact hz2) (by omega) Hh (lv_sub hl [1, 2, 3, 4, 0] rfl)
        have hgi := har.2.2.1 i (by omega)
        have hti := har.2.1 i (by omega)
        have hli := hgd.2.2.2.2 (u.2 11 i) hgi
        have h6 := hgd.2.1 (u.2 11 i * 6 + g) (by omega)
        refine lv_aload_n C.1 C.2.1 dX4_usableFor_17 rfl (lv_at hl 0 rfl) ?_
        refine gw_get (Cn := RX4) (T := TX4) (N := 4) C Hh 0 pw_at0 rfl uwX4 1 (by decide) rfl tw_219 rfl dX4_usableFor_18 ?_
        refine gw_getN (Cn := RX0) (T := TX0) (N := 5) C Hh 2 pw_at2 rfl uwX0 2 (by decide) rfl tw_129 rfl dX4_usableFor_21 ?_
        refine lv_iload C.1 C.2.1 dX4_usableFor_24 (lv_at hl 4 rfl) ?_
        refine gw_ld C Hh 11 pw_at11 (by decide) dX4_usableFor_26 (by omega) ?_
        refine lv_istore (lv' := [(5, .int (nI (u.2 11 (i)))), (0, .ref (q 0)), (1, .int (nI (g))), (2, .int (nI (t))), (3, .int (nI (z))), (4, .int (nI (i)))]) C.1 C.2.1 dX4_usableFor_27 hl (by decide) rfl (fun ls hl => ?_)
        refine lv_iload_n C.1 C.2.1 dX4_usableFor_29 rfl (lv_at hl 3 rfl) ?_
        refine lv_aload_n C.1 C.2.1 dX4_usableFor_30 rfl (lv_at hl 1 rfl) ?_
        refine gw_get (Cn := RX4) (T := TX4) (N := 4) C Hh 0 pw_at0 rfl uwX4 1 (by decide) rfl tw_219 rfl dX4_usableFor_31 ?_
        refine gw_getN (Cn := RX0) (T := TX0) (N := 5) C Hh 2 pw_at2 rfl uwX0 1 (by decide) rfl tw_127 rfl dX4_usableFor_34 ?_
        refine lv_iload C.1 C.2.1 dX4_usableFor_37 (lv_at hl 5 rfl) ?_
        refine gw_ld C Hh 10 pw_at10 (by decide) dX4_usableFor_39 (by omega) ?_
        rcases Nat.lt_or_ge t (u.2 10 i) with hage | hage
        · refine gw_isubN C dX4_usableFor_40 (by omega) ?_
          refine lv_istore (lv' := [(6, .int (nI (t + 4294967296 - u.2 10 i))), (5, .int (nI (u.2 11 (i)))), (0, .ref (q 0)), (1, .int (nI (g))), (2, .int (nI (t))), (3, .int (nI (z))), (4, .int (nI (i)))]) C.1 C.2.1 dX4_usableFor_41 hl (by decide) rfl (fun ls hl => ?_)
          refine lv_aload_n C.1 C.2.1 dX4_usableFor_43 rfl (lv_at hl 2 rfl) ?_
          refine gw_get (Cn := RX4) (T := TX4) (N := 4) C Hh 0 pw_at0 rfl uwX4 0 (by decide) rfl tw_218 rfl dX4_usableFor_44 ?_
          refine lv_iload C.1 C.2.1 dX4_usableFor_47 (lv_at hl 1 rfl) ?_
          refine lv_iload_n C.1 C.2.1 dX4_usableFor_49 rfl (lv_at hl 3 rfl) ?_
          refine gw_fromI (w := pw G q) (u := u) C Hh (gw_runVN (n := 2) (C1 := RX1) [.int (nI (u.2 11 (i))), .int (nI (g))] C Hh (c_X1_meets l G q (u) (u.2 11 (i)) (g) (by first | assumption | omega) (by first | assumption | omega) (by first | assumption | omega) _) tw_437 tw_439 tw_19 tw_67 tw_440 (by decide +kernel) ⟨Nat.le_of_ble_eq_true rfl, Nat.le_of_ble_eq_true rfl⟩ 1 pw_at1 rfl rfl hl.1 (Nat.le_of_ble_eq_true rfl) dX4_usableFor_50 ⟨Nat.zero_le _, Nat.zero_le _⟩) (fun rc_50 uc_50 H locs hp_50 Hh => ?_)
          obtain ⟨kc_50, rfl, hp_50⟩ := hp_50
          obtain ⟨hk_50, hu_50⟩ := hp_50
          rw [hu_50] at Hh
          clear hu_50
          refine gw_if_eq (tgt := 83) C dX4_usableFor_53 (by decide) (by split at hk_50 <;> omega) (fun hc_53 => ?_) (fun hc_53 => ?_)
          · skip
            exact join_83 (z)  _ _ _ (by rw [hz, us_m_succ, if_neg (by unfold us_c; rw [decide_eq_true_eq]; split at hk_50 <;> omega)]) Hh (lv_sub hl [2, 3, 4, 5, 6] rfl)
          · skip
            refine lv_iload C.1 C.2.1 dX4_usableFor_56 (lv_at hl 0 rfl) ?_
            refine gw_if_ltN (tgt := 83) C dX4_usableFor_58 (by decide) (by omega) (by omega) ?_
            exact join_83 (z)  _ _ _ (by rw [hz, us_m_succ, if_neg (by unfold us_c; rw [decide_eq_true_eq]; omega)]) Hh (lv_sub hl [2, 3, 4, 5, 6] rfl)
        · refine gw_isub C dX4_usableFor_40 hage ?_
          refine lv_istore (lv' := [(6, .int (nI (t - u.2 10 i))), (5, .int (nI (u.2 11 (i)))), (0, .ref (q 0)), (1, .int (nI (g))), (2, .int (nI (t))), (3, .int (nI (z))), (4, .int (nI (i)))]) C.1 C.2.1 dX4_usableFor_41 hl (by decide) rfl (fun ls hl => ?_)
          refine lv_aload_n C.1 C.2.1 dX4_usableFor_43 rfl (lv_at hl 2 rfl) ?_
          refine gw_get (Cn := RX4) (T := TX4) (N := 4) C Hh 0 pw_at0 rfl uwX4 0 (by decide) rfl tw_218 rfl dX4_usableFor_44 ?_
          refine lv_iload C.1 C.2.1 dX4_usableFor_47 (lv_at hl 1 rfl) ?_
          refine lv_iload_n C.1 C.2.1 dX4_usableFor_49 rfl (lv_at hl 3 rfl) ?_
          refine gw_fromI (w := pw G q) (u := u) C Hh (gw_runVN (n := 2) (C1 := RX1) [.int (nI (u.2 11 (i))), .int (nI (g))] C Hh (c_X1_meets l G q (u) (u.2 11 (i)) (g) (by first | assumption | omega) (by first | assumption | omega) (by first | assumption | omega) _) tw_437 tw_439 tw_19 tw_67 tw_440 (by decide +kernel) ⟨Nat.le_of_ble_eq_true rfl, Nat.le_of_ble_eq_true rfl⟩ 1 pw_at1 rfl rfl hl.1 (Nat.le_of_ble_eq_true rfl) dX4_usableFor_50 ⟨Nat.zero_le _, Nat.zero_le _⟩) (fun rc_50 uc_50 H locs hp_50 Hh => ?_)
          obtain ⟨kc_50, rfl, hp_50⟩ := hp_50
          obtain ⟨hk_50, hu_50⟩ := hp_50
          rw [hu_50] at Hh
          clear hu_50
          refine gw_if_eq (tgt := 83) C dX4_usableFor_53 (by decide) (by split at hk_50 <;> omega) (fun hc_53 => ?_) (fun hc_53 => ?_)
          · skip
            exact join_83 (z)  _ _ _ (by rw [hz, us_m_succ, if_neg (by unfold us_c; rw [decide_eq_true_eq]; split at hk_50 <;> omega)]) Hh (lv_sub hl [2, 3, 4, 5, 6] rfl)
          · skip
            refine lv_iload C.1 C.2.1 dX4_usableFor_56 (lv_at hl 0 rfl) ?_
            refine gw_if_lt (tgt := 83) C dX4_usableFor_58 (by decide) (by omega) ?_
            refine lv_iload C.1 C.2.1 dX4_usableFor_61 (lv_at hl 0 rfl) ?_
            refine lv_aload_n C.1 C.2.1 dX4_usableFor_63 rfl (lv_at hl 2 rfl) ?_
            refine gw_get (Cn := RX4) (T := TX4) (N := 4) C Hh 0 pw_at0 rfl uwX4 0 (by decide) rfl tw_218 rfl dX4_usableFor_64 ?_
            refine gw_getN (Cn := RX1) (T := TX1) (N := 5) C Hh 1 pw_at1 rfl uwX1 0 (by decide) rfl tw_98 rfl dX4_usableFor_67 ?_
            refine lv_iload C.1 C.2.1 dX4_usableFor_70 (lv_at hl 1 rfl) ?_
            refine gw_ld C Hh 5 pw_at5 (by decide) dX4_usableFor_72 (by omega) ?_
            refine gw_icmp_gt (tgt := 83) C dX4_usableFor_73 (by decide) (by omega) (by omega) (fun hc_73 => ?_) (fun hc_73 => ?_)
            · skip
              exact join_83 (z)  _ _ _ (by rw [hz, us_m_succ, if_neg (by unfold us_c; rw [decide_eq_true_eq]; omega)]) Hh (lv_sub hl [2, 3, 4, 5, 6] rfl)
            · skip
              refine lv_iload_n C.1 C.2.1 dX4_usableFor_76 rfl (lv_at hl 5 rfl) ?_
              refine lv_iconst (v := nI 1) C.1 C.2.1 dX4_usableFor_77 (by decide +kernel) ?_
              refine lv_iload C.1 C.2.1 dX4_usableFor_78 (lv_at hl 6 rfl) ?_
              refine gw_ishl C dX4_usableFor_80 (by omega) ?_
              refine gw_ior C dX4_usableFor_81 ?_
              refine lv_istore_n (lv' := [(3, .int (nI (z ||| (1 <<< i)))), (6, .int (nI (t - u.2 10 i))), (5, .int (nI (u.2 11 (i)))), (0, .ref (q 0)), (1, .int (nI (g))), (2, .int (nI (t))), (4, .int (nI (i)))]) C.1 C.2.1 dX4_usableFor_82 rfl hl (by decide) rfl (fun ls hl => ?_)
              exact join_83 (z ||| 1 <<< i)  _ _ _ (by rw [hz, us_m_succ, if_pos (by unfold us_c; rw [decide_eq_true_eq]; split at hk_50 <;> omega)]) Hh (lv_sub hl [3, 4, 5, 0, 6] rfl)
  exact loop_5 _ (0) (0)  _ _ _ (by first | assumption | omega) (by rfl) (Nat.lt_succ_self _) Hh (lv_sub hl [2, 3, 4, 1, 0] rfl)
