/-! the spread over arrivals: what is reached, in turn, from where and by which demand -/
def sp_inv (n S lo : Nat) (x : Nat → Nat → Nat) (us : Nat → Nat) (R len : Nat) (v : pf_S) : Prop :=
  (∀ a, R.testBit a = true → a < n) ∧ len = fl_sum (tbit R) n ∧ (∀ i, i < len → R.testBit (v.2 26 i) = true) ∧ (∀ a, R.testBit a = true → ∃ i, i < len ∧ v.2 26 i = a) ∧ (∀ i j, i < j → j < len → v.2 26 i ≠ v.2 26 j) ∧
  (∀ i, i < len → S.testBit (v.2 26 i) = true ∨ ∃ j, j < i ∧ v.2 27 (v.2 26 i) = v.2 26 j ∧ v.2 28 (v.2 26 i) < 31 ∧ lo.testBit (v.2 28 (v.2 26 i)) = true ∧ 0 < x (v.2 28 (v.2 26 i)) (v.2 26 j) ∧ (us (v.2 28 (v.2 26 i))).testBit (v.2 26 i) = true) ∧ ∀ a, S.testBit a = true → R.testBit a = true
def sp_cl (lo : Nat) (x : Nat → Nat → Nat) (us : Nat → Nat) (R : Nat) (v : pf_S) (i d : Nat) : Prop :=
  (∀ j, j < i → ∀ z, z < 31 → lo.testBit z = true → 0 < x z (v.2 26 j) → ∀ b, (us z).testBit b = true → R.testBit b = true) ∧ ∀ z, z < d → lo.testBit z = true → 0 < x z (v.2 26 i) → ∀ b, (us z).testBit b = true → R.testBit b = true
/-- the places of a set's bits, counted -/
theorem rc_place {S n : Nat} : ∀ {i : Nat}, i < fl_sum (tbit S) n → ∃ a, a < n ∧ S.testBit a = true ∧ fl_sum (tbit S) a = i := by
  induction n with
  | zero => intro i h; exact absurd h (Nat.not_lt_zero _)
  | succ n ih =>
    intro i h
    rw [fl_sum_succ] at h
    by_cases h1 : i < fl_sum (tbit S) n
    · obtain ⟨a, h2, h3⟩ := ih h1
      exact ⟨a, by omega, h3⟩
    · have h2 := tbit_le S n
      exact ⟨n, Nat.lt_succ_self n, tbit_pos (by omega), by omega⟩
theorem sp_start {u v : pf_S} {n S lo B : Nat} {x : Nat → Nat → Nat} {us : Nat → Nat} (hS : ∀ a, S.testBit a = true → a < n) (h : rc_inv u v S 0 B B n) : sp_inv n S lo x us S (0 + fl_sum (tbit S) n) v := by
  have hp : ∀ a, S.testBit a = true → v.2 26 (fl_sum (tbit S) a) = a := fun a ha => by
    have := (h.2.2.1 a (hS a ha) ha).1
    rwa [Nat.zero_add] at this
  have hq : ∀ i, i < 0 + fl_sum (tbit S) n → S.testBit (v.2 26 i) = true := by
    intro i hi
    obtain ⟨a, h1, h2, h3⟩ := rc_place (S := S) (n := n) (i := i) (by omega)
    rw [← h3, hp a h2]
    exact h2
  refine ⟨hS, Nat.zero_add _, hq, fun a ha => ⟨fl_sum (tbit S) a, ?_, hp a ha⟩, fun i j hij hj => ?_, fun i hi => Or.inl (hq i hi), fun a ha => ha⟩
  · rw [Nat.zero_add]
    exact fl_tb_lt ha (hS a ha)
  · obtain ⟨a, h1, h2, h3⟩ := rc_place (S := S) (n := n) (i := i) (by omega)
    obtain ⟨b, g1, g2, g3⟩ := rc_place (S := S) (n := n) (i := j) (by omega)
    rw [← h3, ← g3, hp a h2, hp b g2]
    rintro rfl
    omega
theorem mk_bit {U R b : Nat} (hb : b < 32) : (U &&& (R ^^^ 4294967295)).testBit b = (U.testBit b && !R.testBit b) := by
  rw [Nat.testBit_and, Nat.testBit_xor, show (4294967295 : Nat) = 2 ^ 32 - 1 from rfl, Nat.testBit_two_pow_sub_one]
  simp [hb]
theorem mk_or {R M a : Nat} (h : M.testBit a = true → R.testBit a = false) : tbit (R ||| M) a = tbit R a + tbit M a := by
  unfold tbit
  rw [Nat.testBit_or]
  cases h1 : R.testBit a <;> cases h2 : M.testBit a <;> simp_all
theorem mk_sum {R M n : Nat} (h : ∀ a, M.testBit a = true → R.testBit a = false) : fl_sum (tbit (R ||| M)) n = fl_sum (tbit R) n + fl_sum (tbit M) n := by
  rw [← fl_sum_add]
  exact fl_sum_congr fun a _ => mk_or (h a)
theorem sp_add {n S lo R len L' d i : Nat} {x : Nat → Nat → Nat} {us : Nat → Nat} {v w : pf_S} {M : Nat} (h : sp_inv n S lo x us R len v) (hi : i < len) (hd : d < 31) (hlo : lo.testBit d = true) (hx : 0 < x d (v.2 26 i)) (hM : ∀ a, M.testBit a = true → a < n ∧ R.testBit a = false ∧ (us d).testBit a = true)
    (hr : rc_inv v w M len (v.2 26 i) d n) (hL : L' = len + fl_sum (tbit M) n) : sp_inv n S lo x us (R ||| M) L' w := by
  subst hL
  obtain ⟨h1, h2, h3, h4, h5, h6, h7⟩ := h
  have hnew : ∀ a, M.testBit a = true → w.2 26 (len + fl_sum (tbit M) a) = a := fun a ha => (hr.2.2.1 a (hM a ha).1 ha).1
  have hold : ∀ j, j < len → w.2 26 j = v.2 26 j := hr.2.1
  have hq : ∀ j, ¬ j < len → j < len + fl_sum (tbit M) n → ∃ a, a < n ∧ M.testBit a = true ∧ j = len + fl_sum (tbit M) a ∧ w.2 26 j = a := by
    intro j hj1 hj2
    obtain ⟨a, g1, g2, g3⟩ := rc_place (S := M) (n := n) (i := j - len) (by omega)
    have e1 : j = len + fl_sum (tbit M) a := by omega
    exact ⟨a, g1, g2, e1, by rw [e1, hnew a g2]⟩
  refine ⟨fun a ha => ?_, ?_, fun j hj => ?_, fun a ha => ?_, fun j k hjk hk => ?_, fun j hj => ?_, fun a ha => ?_⟩
  · rw [Nat.testBit_or, Bool.or_eq_true] at ha
    rcases ha with ha | ha
    · exact h1 a ha
    · exact (hM a ha).1
  · rw [mk_sum (fun a ha => (hM a ha).2.1), ← h2]
  · rw [Nat.testBit_or, Bool.or_eq_true]
    by_cases hjl : j < len
    · left
      rw [hold j hjl]
      exact h3 j hjl
    · obtain ⟨a, -, g2, -, g4⟩ := hq j hjl hj
      right
      rw [g4]
      exact g2
  · rw [Nat.testBit_or, Bool.or_eq_true] at ha
    rcases ha with ha | ha
    · obtain ⟨j, g1, g2⟩ := h4 a ha
      exact ⟨j, by omega, by rw [hold j g1]; exact g2⟩
    · exact ⟨len + fl_sum (tbit M) a, by have := fl_tb_lt ha (hM a ha).1; omega, hnew a ha⟩
  · by_cases hjl : j < len
    · by_cases hkl : k < len
      · rw [hold j hjl, hold k hkl]
        exact h5 j k hjk hkl
      · obtain ⟨a, -, g2, -, g4⟩ := hq k hkl hk
        rw [hold j hjl, g4]
        intro e
        have := h3 j hjl
        rw [e, (hM a g2).2.1] at this
        cases this
    · obtain ⟨a, -, g2, g3, g4⟩ := hq j hjl (by omega)
      obtain ⟨b, -, f2, f3, f4⟩ := hq k (by omega) hk
      rw [g4, f4]
      rintro rfl
      omega
  · by_cases hjl : j < len
    · rw [hold j hjl]
      rcases h6 j hjl with g | ⟨k, g1, g2, g3, g4, g5, g6⟩
      · exact Or.inl g
      · right
        have hnM : M.testBit (v.2 26 j) = false := by
          cases hc : M.testBit (v.2 26 j)
          · rfl
          · have := (hM _ hc).2.1
            rw [h3 j hjl] at this
            cases this
        obtain ⟨e1, e2⟩ := hr.2.2.2 (v.2 26 j) (Or.inr hnM)
        rw [e1, e2]
        exact ⟨k, g1, by rw [hold k (by omega)]; exact g2, g3, g4, by rw [hold k (by omega)]; exact g5, g6⟩
    · obtain ⟨a, g1, g2, g3, g4⟩ := hq j hjl hj
      obtain ⟨-, e1, e2⟩ := hr.2.2.1 a g1 g2
      right
      rw [g4, e1, e2]
      exact ⟨i, by omega, by rw [hold i hi], hd, hlo, by rw [hold i hi]; exact hx, (hM a g2).2.2⟩
  · rw [Nat.testBit_or, h7 a ha, Bool.true_or]
/-- closed so far: another demand of the same arrival, with nothing to add -/
theorem sp_cl_skip {lo R i d : Nat} {x : Nat → Nat → Nat} {us : Nat → Nat} {v : pf_S} (h : sp_cl lo x us R v i d) (hs : lo.testBit d = true → 0 < x d (v.2 26 i) → ∀ b, (us d).testBit b = true → R.testBit b = true) : sp_cl lo x us R v i (d + 1) := by
  refine ⟨h.1, fun z hz => ?_⟩
  by_cases e : z = d
  · subst e
    exact hs
  · exact h.2 z (by omega)
theorem sp_cl_mono {lo R M i d len : Nat} {x : Nat → Nat → Nat} {us : Nat → Nat} {v w : pf_S} (h : sp_cl lo x us R v i d) (hi : i < len) (hw : ∀ j, j < len → w.2 26 j = v.2 26 j) : sp_cl lo x us (R ||| M) w i d := by
  refine ⟨fun j hj z hz h1 h2 b hb => ?_, fun z hz h1 h2 b hb => ?_⟩
  · rw [hw j (by omega)] at h2
    rw [Nat.testBit_or, h.1 j hj z hz h1 h2 b hb, Bool.true_or]
  · rw [hw i hi] at h2
    rw [Nat.testBit_or, h.2 z hz h1 h2 b hb, Bool.true_or]
theorem sp_cl_next {lo R i : Nat} {x : Nat → Nat → Nat} {us : Nat → Nat} {v : pf_S} (h : sp_cl lo x us R v i 31) : sp_cl lo x us R v (i + 1) 0 := by
  refine ⟨fun j hj => ?_, fun z hz => by omega⟩
  by_cases e : j = i
  · subst e
    exact h.2
  · exact h.1 j (by omega)
theorem lt_1024 {S n : Nat} (hn : n ≤ 10) (h : ∀ a, S.testBit a = true → a < n) : S < 1024 := by
  refine Nat.lt_pow_two_of_testBit (n := 10) S (fun a ha => ?_)
  cases hc : S.testBit a
  · rfl
  · have := h a hc
    omega
theorem st_buts.tr {ks : List Nat} {u v w : pf_S} (h : st_buts ks u v) (g : st_buts ks v w) : st_buts ks u w := ⟨g.1.trans h.1, fun j hj => (g.2 j hj).trans (h.2 j hj)⟩
def us_ok (u : pf_S) : Prop := ∀ d, d < 31 → ∀ a, (u.2 23 d).testBit a = true → a < u.1 2
/-- what spread leaves: reached is closed under the shifts of loose demands -/
def sp_post (u u1 : pf_S) (S lo R : Nat) : Prop := st_buts [26, 27, 28] u u1 ∧ sp_inv (u.1 2) S lo (tk_x u) (u.2 23) R (fl_sum (tbit R) (u.1 2)) u1 ∧ ∀ a, R.testBit a = true → ∀ d, d < 31 → lo.testBit d = true → 0 < tk_x u d a → ∀ b, (u.2 23 d).testBit b = true → R.testBit b = true
set_option maxHeartbeats 4000000 in
set_option maxRecDepth 100000 in
theorem c_X3_spread (l : Launch) (G : gw_G) (q : Nat → Nat) (u : pf_S) (S : Nat) (lo : Nat) (hcap : tk_cap u) (hus : us_ok u) (hS : ∀ a, S.testBit a = true → a < u.1 2) : gw_MI l yX3_spread cX3_spread 9 (some .int) 1 26 [.ref (q 4), .int (nI (S)), .int (nI (lo))] G (pw G q) u (fun r u1 => ∃ k : Nat, r = nI k ∧ (sp_post u u1 S lo k)) := by
  refine gw_entryI (own := RX3) (by decide) rfl (Nat.le_of_ble_eq_true rfl) ?_
  intro p e s m args below meth c A ls C Hh hl
  have hl : lv_has ls 9 [(0, .ref (q 4)), (1, .int (nI (S))), (2, .int (nI (lo)))] := hl
  refine lv_iload_n C.1 C.2.1 dX3_spread_0 rfl (lv_at hl 1 rfl) ?_
  refine lv_istore_n (lv' := [(3, .int (nI (S))), (0, .ref (q 4)), (1, .int (nI (S))), (2, .int (nI (lo)))]) C.1 C.2.1 dX3_spread_1 rfl hl (by decide) rfl (fun ls hl => ?_)
  refine lv_aload_n C.1 C.2.1 dX3_spread_2 rfl (lv_at hl 1 rfl) ?_
  refine lv_iload_n C.1 C.2.1 dX3_spread_3 rfl (lv_at hl 2 rfl) ?_
  refine lv_iconst (v := nI 0) C.1 C.2.1 dX3_spread_4 (by decide +kernel) ?_
  refine lv_iconst (v := nI 4294967295) C.1 C.2.1 dX3_spread_5 (by decide +kernel) ?_
  refine lv_iconst (v := nI 4294967295) C.1 C.2.1 dX3_spread_6 (by decide +kernel) ?_
  refine gw_fromI (w := pw G q) (u := u) C Hh (gw_runV (n := 4) (C1 := RX3) [.int (nI (S)), .int (nI (0)), .int (nI (4294967295)), .int (nI (4294967295))] C Hh (c_X3_reach l G q (u) (S) (0) (4294967295) (4294967295) (by exact hcap.1) (by rw [Nat.zero_add]; exact Nat.le_trans (fl_sum_cnt (tbit_le S) _) hcap.1) _) tw_461 tw_463 tw_24 tw_70 tw_464 (by decide +kernel) ⟨Nat.le_of_ble_eq_true rfl, Nat.le_of_ble_eq_true rfl⟩ 4 pw_at4 rfl rfl hl.1 (Nat.le_of_ble_eq_true rfl) dX3_spread_7 ⟨Nat.zero_le _, Nat.zero_le _⟩) (fun rc_7 uc_7 H locs hp_7 Hh => ?_)
  obtain ⟨kc_7, rfl, hp_7⟩ := hp_7
  refine lv_istore (lv' := [(4, .int (nI (kc_7))), (3, .int (nI (S))), (0, .ref (q 4)), (1, .int (nI (S))), (2, .int (nI (lo)))]) C.1 C.2.1 dX3_spread_10 hl (by decide) rfl (fun ls hl => ?_)
  refine lv_iconst (v := nI 0) C.1 C.2.1 dX3_spread_12 (by decide +kernel) ?_
  refine lv_istore (lv' := [(5, .int (nI (0))), (4, .int (nI (kc_7))), (3, .int (nI (S))), (0, .ref (q 4)), (1, .int (nI (S))), (2, .int (nI (lo)))]) C.1 C.2.1 dX3_spread_13 hl (by decide) rfl (fun ls hl => ?_)
  have loop_15 : ∀ (fu : Nat) (i : Nat) (R : Nat) (len : Nat) (uc : pf_S) (H : Heap) (locs : List Loc) (ls : Array Slot), (i ≤ len) → (st_buts [26, 27, 28] u uc) → (sp_inv (u.1 2) S lo (tk_x u) (u.2 23) R len uc) → (sp_cl lo (tk_x u) (u.2 23) R uc i 0) → 10 - i < fu → gw_H G A s (pw G q uc) H locs → lv_has ls 9 [(0, .ref (q 4)), (1, .int (nI (S))), (2, .int (nI (lo))), (3, .int (nI (R))), (4, .int (nI (len))), (5, .int (nI (i)))] → W p l e (gw_rm 1 26) s m args below meth c H locs 0 0 (MQ below (va_Qi (fun r u1 => ∃ k : Nat, r = nI k ∧ (sp_post u u1 S lo k)) (gw_at G A (pw G q)) A) args s 0 0 A) (F0 m 15 ls []) := by
    intro fu
    induction fu with
    | zero =>
      intro i R len uc H locs ls hi hfr hv hcl hmf
      exact absurd hmf (Nat.not_lt_zero _)
    | succ fu ih_15 =>
      intro i R len uc H locs ls hi hfr hv hcl hmf Hh hl
      have h0 := hcap.1
      have hlen := fl_sum_cnt (tbit_le R) (u.1 2)
      have hle := hv.2.1
      refine lv_iload C.1 C.2.1 dX3_spread_15 (lv_at hl 5 rfl) ?_
      refine lv_iload C.1 C.2.1 dX3_spread_17 (lv_at hl 4 rfl) ?_
      refine gw_icmp_ge (tgt := 122) C dX3_spread_19 (by decide) (by omega) (by omega) (fun hc_19 => ?_) (fun hc_19 => ?_)
      · skip
        refine lv_iload_n C.1 C.2.1 dX3_spread_122 rfl (lv_at hl 3 rfl) ?_
        exact gw_iret (w := pw G q) (u := uc) C Hh dX3_spread_123 ⟨_, rfl, by have hin : i = len := (by omega); subst hin; refine ⟨hfr, (by rw [← hle]; exact hv), fun a ha d hd h1 h2 b hb => ?_⟩; obtain ⟨j, g1, g2⟩ := hv.2.2.2.1 a ha; exact hcl.1 j g1 d hd h1 (by rw [g2]; exact h2) b hb⟩
      · skip
        refine lv_iload C.1 C.2.1 dX3_spread_22 (lv_at hl 5 rfl) ?_
        refine lv_bipush (v := nI 10) C.1 C.2.1 dX3_spread_24 (by decide +kernel) ?_
        refine gw_icmp_ge (tgt := 122) C dX3_spread_26 (by decide) (by omega) (by omega) (fun hc_26 => ?_) (fun hc_26 => ?_)
        · skip
          refine lv_iload_n C.1 C.2.1 dX3_spread_122 rfl (lv_at hl 3 rfl) ?_
          exact gw_iret (w := pw G q) (u := uc) C Hh dX3_spread_123 ⟨_, rfl, by have hin : i = len := (by omega); subst hin; refine ⟨hfr, (by rw [← hle]; exact hv), fun a ha d hd h1 h2 b hb => ?_⟩; obtain ⟨j, g1, g2⟩ := hv.2.2.2.1 a ha; exact hcl.1 j g1 d hd h1 (by rw [g2]; exact h2) b hb⟩
        · skip
          refine lv_aload_n C.1 C.2.1 dX3_spread_29 rfl (lv_at hl 0 rfl) ?_
          refine gw_get (Cn := RX3) (T := TX3) (N := 10) C Hh 4 pw_at4 rfl uwX3 7 (by decide) rfl tw_194 rfl dX3_spread_30 ?_
          refine lv_iload C.1 C.2.1 dX3_spread_33 (lv_at hl 5 rfl) ?_
          refine gw_ld C Hh 26 pw_at26 (by decide) dX3_spread_35 (by omega) ?_
          have hlt : uc.2 26 i < u.1 2 := hv.1 _ (hv.2.2.1 i (by omega))
          obtain ⟨ar, hare⟩ : ∃ z, uc.2 26 i = z := ⟨_, rfl⟩
          rw [hare] at hlt ⊢
          refine lv_istore (lv' := [(6, .int (nI (ar))), (0, .ref (q 4)), (1, .int (nI (S))), (2, .int (nI (lo))), (3, .int (nI (R))), (4, .int (nI (len))), (5, .int (nI (i)))]) C.1 C.2.1 dX3_spread_36 hl (by decide) rfl (fun ls hl => ?_)
          refine lv_iconst (v := nI 0) C.1 C.2.1 dX3_spread_38 (by decide +kernel) ?_
          refine lv_istore (lv' := [(7, .int (nI (0))), (6, .int (nI (ar))), (0, .ref (q 4)), (1, .int (nI (S))), (2, .int (nI (lo))), (3, .int (nI (R))), (4, .int (nI (len))), (5, .int (nI (i)))]) C.1 C.2.1 dX3_spread_39 hl (by decide) rfl (fun ls hl => ?_)
          have loop_41 : ∀ (fu : Nat) (d : Nat) (R2 : Nat) (len2 : Nat) (ud : pf_S) (H : Heap) (locs : List Loc) (ls : Array Slot), (d ≤ 31) → (i < len2) → (ud.2 26 i = ar) → (st_buts [26, 27, 28] u ud) → (sp_inv (u.1 2) S lo (tk_x u) (u.2 23) R2 len2 ud) → (sp_cl lo (tk_x u) (u.2 23) R2 ud i d) → 31 - d < fu → gw_H G A s (pw G q ud) H locs → lv_has ls 9 [(0, .ref (q 4)), (1, .int (nI (S))), (2, .int (nI (lo))), (3, .int (nI (R2))), (4, .int (nI (len2))), (5, .int (nI (i))), (6, .int (nI (ar))), (7, .int (nI (d)))] → W p l e (gw_rm 1 26) s m args below meth c H locs 0 0 (MQ below (va_Qi (fun r u1 => ∃ k : Nat, r = nI k ∧ (sp_post u u1 S lo k)) (gw_at G A (pw G q)) A) args s 0 0 A) (F0 m 41 ls []) := by
            intro fu
            induction fu with
            | zero =>
              intro d R2 len2 ud H locs ls hd hi2 har hfr2 hv2 hcl2 hmf
              exact absurd hmf (Nat.not_lt_zero _)
            | succ fu ih_41 =>
              intro d R2 len2 ud H locs ls hd hi2 har hfr2 hv2 hcl2 hmf Hh hl
              have h22 : ud.2 22 = u.2 22 := hfr2.2 22 (by decide)
              have h23 : ud.2 23 = u.2 23 := hfr2.2 23 (by decide)
              have hn2 : ud.1 2 = u.1 2 := by rw [hfr2.1]
              have hlen2 := fl_sum_cnt (tbit_le R2) (u.1 2)
              have hle2 := hv2.2.1
              refine lv_iload C.1 C.2.1 dX3_spread_41 (lv_at hl 7 rfl) ?_
              refine lv_bipush (v := nI 31) C.1 C.2.1 dX3_spread_43 (by decide +kernel) ?_
              refine gw_icmp_ge (tgt := 116) C dX3_spread_45 (by decide) (by omega) (by omega) (fun hc_45 => ?_) (fun hc_45 => ?_)
              · skip
                refine lv_iinc (v := nI (i + 1)) (lv' := [(5, .int (nI (i + 1))), (0, .ref (q 4)), (1, .int (nI (S))), (2, .int (nI (lo))), (3, .int (nI (R2))), (4, .int (nI (len2))), (6, .int (nI (ar))), (7, .int (nI (d)))]) C.1 C.2.1 dX3_spread_116 hl (k := 5) rfl (nI_add _ 1) (by decide) rfl (fun ls hl => ?_)
                refine lv_goto (tgt := 15) C.1 C.2.1 dX3_spread_119 (by decide) ?_
                exact ih_15 (i + 1) (R2) (len2) (ud) _ _ _ (by first | assumption | omega) (by exact hfr2) (by exact hv2) (by exact sp_cl_next (by rw [show (31 : Nat) = d by omega]; exact hcl2)) (by omega) Hh (lv_sub hl [1, 2, 3, 4, 5, 0] rfl)
              · skip
                refine lv_aload_n C.1 C.2.1 dX3_spread_48 rfl (lv_at hl 0 rfl) ?_
                refine gw_get (Cn := RX3) (T := TX3) (N := 10) C Hh 4 pw_at4 rfl uwX3 4 (by decide) rfl tw_190 rfl dX3_spread_49 ?_
                refine lv_iload C.1 C.2.1 dX3_spread_52 (lv_at hl 7 rfl) ?_
                refine gw_ld C Hh 23 pw_at23 (by decide) dX3_spread_54 (by omega) ?_
                refine lv_iload_n C.1 C.2.1 dX3_spread_55 rfl (lv_at hl 3 rfl) ?_
                refine lv_iconst (v := nI 4294967295) C.1 C.2.1 dX3_spread_56 (by decide +kernel) ?_
                refine gw_ixor C dX3_spread_57 ?_
                refine gw_iand C dX3_spread_58 ?_
                obtain ⟨M, hM⟩ : ∃ z, u.2 23 d &&& (R2 ^^^ 4294967295) = z := ⟨_, rfl⟩
                have hU := lt_1024 hcap.1 (hus d (by omega))
                have hMl : M < 1024 := by rw [← hM]; exact Nat.lt_of_le_of_lt Nat.and_le_left hU
                have hMb : ∀ b, b < 32 → M.testBit b = ((u.2 23 d).testBit b && !R2.testBit b) := fun b hb => by rw [← hM]; exact mk_bit hb
                have hMs : ∀ a, M.testBit a = true → a < u.1 2 ∧ R2.testBit a = false ∧ (u.2 23 d).testBit a = true := fun a ha => by have h1 : (u.2 23 d).testBit a = true := (by rw [← hM, Nat.testBit_and, Bool.and_eq_true] at ha; exact ha.1); have h2 := hus d (by omega) a h1; have h3 := hMb a (by omega); rw [ha, h1] at h3; exact ⟨h2, (by cases hR : R2.testBit a; (rfl); (rw [hR] at h3; simp at h3)), h1⟩
                have hMn : fl_sum (tbit R2) (u.1 2) + fl_sum (tbit M) (u.1 2) ≤ u.1 2 := by rw [← mk_sum (fun a ha => (hMs a ha).2.1)]; exact fl_sum_cnt (tbit_le _) _
                rw [h23, hM]
                refine lv_istore (lv' := [(8, .int (nI (M))), (0, .ref (q 4)), (1, .int (nI (S))), (2, .int (nI (lo))), (3, .int (nI (R2))), (4, .int (nI (len2))), (5, .int (nI (i))), (6, .int (nI (ar))), (7, .int (nI (d)))]) C.1 C.2.1 dX3_spread_59 hl (by decide) rfl (fun ls hl => ?_)
                refine lv_iload C.1 C.2.1 dX3_spread_61 (lv_at hl 0 rfl) ?_
                have join_110 : ∀ (R3 : Nat) (len3 : Nat) (ue : pf_S) (H : Heap) (locs : List Loc) (ls : Array Slot), (i < len3) → (ue.2 26 i = ar) → (st_buts [26, 27, 28] u ue) → (sp_inv (u.1 2) S lo (tk_x u) (u.2 23) R3 len3 ue) → (sp_cl lo (tk_x u) (u.2 23) R3 ue i (d + 1)) → gw_H G A s (pw G q ue) H locs → lv_has ls 9 [(0, .ref (q 4)), (1, .int (nI (S))), (2, .int (nI (lo))), (3, .int (nI (R3))), (4, .int (nI (len3))), (5, .int (nI (i))), (6, .int (nI (ar))), (7, .int (nI (d)))] → W p l e (gw_rm 1 26) s m args below meth c H locs 0 0 (MQ below (va_Qi (fun r u1 => ∃ k : Nat, r = nI k ∧ (sp_post u u1 S lo k)) (gw_at G A (pw G q)) A) args s 0 0 A) (F0 m 110 ls []) := by
                  intro R3 len3 ue H locs ls hi3 har3 hfr3 hv3 hcl3 Hh hl
                  refine lv_iinc (v := nI (d + 1)) (lv' := [(7, .int (nI (d + 1))), (0, .ref (q 4)), (1, .int (nI (S))), (2, .int (nI (lo))), (3, .int (nI (R3))), (4, .int (nI (len3))), (5, .int (nI (i))), (6, .int (nI (ar)))]) C.1 C.2.1 dX3_spread_110 hl (k := 7) rfl (nI_add _ 1) (by decide) rfl (fun ls hl => ?_)
                  refine lv_goto (tgt := 41) C.1 C.2.1 dX3_spread_113 (by decide) ?_
                  exact ih_41 (d + 1) (R3) (len3) (ue) _ _ _ (by first | assumption | omega) (by exact hi3) (by exact har3) (by exact hfr3) (by exact hv3) (by exact hcl3) (by omega) Hh (lv_sub hl [1, 2, 3, 4, 5, 6, 7, 0] rfl)
                refine gw_if_eq (tgt := 110) C dX3_spread_63 (by decide) (by omega) (fun hc_63 => ?_) (fun hc_63 => ?_)
                · skip
                  exact join_110 (R2) (len2) (ud) _ _ _ (by exact hi2) (by exact har) (by exact hfr2) (by exact hv2) (by refine sp_cl_skip hcl2 (fun _ _ b hb => ?_); have hb1 := hus d (by omega) b hb; have e0 := hMb b (by omega); rw [hc_63, hb] at e0; cases hR : R2.testBit b; (rw [hR] at e0; simp at e0); rfl) Hh (lv_sub hl [1, 2, 3, 4, 5, 6, 7, 8] rfl)
                · skip
                  refine lv_iload_n C.1 C.2.1 dX3_spread_66 rfl (lv_at hl 3 rfl) ?_
                  refine lv_iload C.1 C.2.1 dX3_spread_67 (lv_at hl 8 rfl) ?_
                  refine gw_fromI (w := pw G q) (u := ud) C Hh (gw_runSN (n := 2) [.int (nI (lo)), .int (nI (d))] C Hh (c_X4_hasBit l G q (ud) (lo) (d) (by first | assumption | omega) _) tw_449 tw_450 tw_66 tw_451 (by decide +kernel) ⟨Nat.le_of_ble_eq_true rfl, Nat.le_of_ble_eq_true rfl⟩ rfl hl.1 (Nat.le_of_ble_eq_true rfl) dX3_spread_69 ⟨Nat.zero_le _, Nat.zero_le _⟩) (fun rc_69 uc_69 H locs hp_69 Hh => ?_)
                  obtain ⟨kc_69, rfl, hp_69⟩ := hp_69
                  obtain ⟨hk_69, hu_69⟩ := hp_69
                  rw [hu_69] at Hh
                  clear hu_69
                  have htl := tbit_le lo d
                  refine gw_if_eq (tgt := 110) C dX3_spread_72 (by decide) (by omega) (fun hc_72 => ?_) (fun hc_72 => ?_)
                  · skip
                    exact join_110 (R2) (len2) (ud) _ _ _ (by exact hi2) (by exact har) (by exact hfr2) (by exact hv2) (by refine sp_cl_skip hcl2 (fun h1 _ b hb => ?_); rw [hk_69] at hc_72; rw [tbit_zero hc_72] at h1; cases h1) Hh (lv_sub hl [1, 2, 3, 4, 5, 6, 7, 8] rfl)
                  · skip
                    refine lv_aload_n C.1 C.2.1 dX3_spread_75 rfl (lv_at hl 1 rfl) ?_
                    refine gw_get (Cn := RX3) (T := TX3) (N := 10) C Hh 4 pw_at4 rfl uwX3 3 (by decide) rfl tw_189 rfl dX3_spread_76 ?_
                    refine lv_iload C.1 C.2.1 dX3_spread_79 (lv_at hl 8 rfl) ?_
                    refine lv_bipush (v := nI 10) C.1 C.2.1 dX3_spread_81 (by decide +kernel) ?_
                    refine gw_imul C dX3_spread_83 ?_
                    refine lv_iload C.1 C.2.1 dX3_spread_84 (lv_at hl 7 rfl) ?_
                    refine gw_iadd C dX3_spread_86 ?_
                    refine gw_ld C Hh 22 pw_at22 (by decide) dX3_spread_87 (by omega) ?_
                    have hxx := hcap.x (show d < 31 by omega) hlt
                    refine gw_if_le (tgt := 110) C dX3_spread_88 (by decide) (by rw [h22]; exact Nat.lt_of_le_of_lt hxx (by decide)) (fun hc_88 => ?_) (fun hc_88 => ?_)
                    · skip
                      exact join_110 (R2) (len2) (ud) _ _ _ (by exact hi2) (by exact har) (by exact hfr2) (by exact hv2) (by refine sp_cl_skip hcl2 (fun _ h1 b hb => ?_); rw [har] at h1; unfold tk_x at h1; rw [h22] at hc_88; omega) Hh (lv_sub hl [1, 2, 3, 4, 5, 6, 7, 8] rfl)
                    · skip
                      refine lv_aload_n C.1 C.2.1 dX3_spread_91 rfl (lv_at hl 1 rfl) ?_
                      refine lv_iload C.1 C.2.1 dX3_spread_92 (lv_at hl 0 rfl) ?_
                      refine lv_iload C.1 C.2.1 dX3_spread_94 (lv_at hl 5 rfl) ?_
                      refine lv_iload C.1 C.2.1 dX3_spread_96 (lv_at hl 7 rfl) ?_
                      refine lv_iload C.1 C.2.1 dX3_spread_98 (lv_at hl 8 rfl) ?_
                      refine gw_fromI (w := pw G q) (u := ud) C Hh (gw_runV (n := 4) (C1 := RX3) [.int (nI (M)), .int (nI (len2)), .int (nI (ar)), .int (nI (d))] C Hh (c_X3_reach l G q (ud) (M) (len2) (ar) (d) (by rw [hn2]; exact hcap.1) (by rw [hn2]; omega) _) tw_461 tw_463 tw_24 tw_70 tw_464 (by decide +kernel) ⟨Nat.le_of_ble_eq_true rfl, Nat.le_of_ble_eq_true rfl⟩ 4 pw_at4 rfl rfl hl.1 (Nat.le_of_ble_eq_true rfl) dX3_spread_100 ⟨Nat.zero_le _, Nat.zero_le _⟩) (fun rc_100 uc_100 H locs hp_100 Hh => ?_)
                      obtain ⟨kc_100, rfl, hp_100⟩ := hp_100
                      refine lv_istore (lv' := [(4, .int (nI (kc_100))), (8, .int (nI (M))), (0, .ref (q 4)), (1, .int (nI (S))), (2, .int (nI (lo))), (3, .int (nI (R2))), (5, .int (nI (i))), (6, .int (nI (ar))), (7, .int (nI (d)))]) C.1 C.2.1 dX3_spread_103 hl (by decide) rfl (fun ls hl => ?_)
                      refine lv_iload_n C.1 C.2.1 dX3_spread_105 rfl (lv_at hl 5 rfl) ?_
                      refine lv_iload C.1 C.2.1 dX3_spread_106 (lv_at hl 1 rfl) ?_
                      refine gw_ior C dX3_spread_108 ?_
                      refine lv_istore_n (lv' := [(3, .int (nI (R2 ||| M))), (4, .int (nI (kc_100))), (8, .int (nI (M))), (0, .ref (q 4)), (1, .int (nI (S))), (2, .int (nI (lo))), (5, .int (nI (i))), (6, .int (nI (ar))), (7, .int (nI (d)))]) C.1 C.2.1 dX3_spread_109 rfl hl (by decide) rfl (fun ls hl => ?_)
                      exact join_110 (R2 ||| M) (kc_100) (uc_100) _ _ _ (by rw [hp_100.1]; omega) (by rw [hp_100.2.2.1 i hi2]; exact har) (by exact hfr2.tr hp_100.2.1) (by have hrc := hp_100.2; rw [hn2, ← har] at hrc; exact sp_add hv2 hi2 (by omega) (tbit_pos (by omega)) (by unfold tk_x; rw [har, ← h22]; exact hc_88) hMs hrc (by rw [hp_100.1, hn2])) (by refine sp_cl_skip (sp_cl_mono hcl2 hi2 hp_100.2.2.1) (fun _ _ b hb => ?_); have hb1 := hus d (by omega) b hb; have e0 := hMb b (by omega); rw [Nat.testBit_or, e0, hb]; cases R2.testBit b <;> rfl) Hh (lv_sub hl [3, 4, 5, 0, 1, 6, 7, 8] rfl)
          exact loop_41 _ (0) (R) (len) (uc) _ _ _ (by first | assumption | omega) (by first | assumption | omega) (by exact hare) (by exact hfr) (by exact hv) (by exact hcl) (Nat.lt_succ_self _) Hh (lv_sub hl [2, 3, 4, 5, 6, 7, 1, 0] rfl)
  exact loop_15 _ (0) (S) (kc_7) (uc_7) _ _ _ (by first | assumption | omega) (by exact hp_7.2.1) (by rw [hp_7.1]; exact sp_start hS hp_7.2) (by exact ⟨fun j hj => by omega, fun z hz => by omega⟩) (Nat.lt_succ_self _) Hh (lv_sub hl [3, 4, 5, 2, 1, 0] rfl)
