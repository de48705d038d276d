/-! taking for a demand from one arrival -/
/-- a set of arrivals that is full, and out of which no loose demand can go -/
def tk_shut (u : pf_S) (lo : Nat) (T : Nat → Prop) : Prop := (∀ b, b < u.1 2 → T b → u.2 21 b = 0) ∧ ∀ e, e < 31 → lo.testBit e = true → ∀ b, b < u.1 2 → T b → 0 < tk_x u e b → ∀ c, (u.2 23 e).testBit c = true → T c
/-- g more are taken for d from a; the others have shifted, or stayed -/
def tf_rel (u v : pf_S) (lo d a g : Nat) : Prop :=
  st_buts [21, 22, 26, 27, 28] u v ∧ (∀ e, e < 31 → e ≠ d → fl_sum (tk_x v e) (u.1 2) = fl_sum (tk_x u e) (u.1 2)) ∧ (∀ b, b < 10 → b ≠ a → tk_x v d b = tk_x u d b) ∧ tk_x v d a = tk_x u d a + g ∧ (∀ b, b < u.1 2 → tk_col v b = tk_col u b) ∧
  (∀ e, e < 31 → ∀ b, b < u.1 2 → 0 < tk_x v e b → 0 < tk_x u e b ∨ (u.2 23 e).testBit b = true ∨ (e = d ∧ b = a)) ∧ (∀ e, e < 31 → e ≠ d → lo.testBit e = false → ∀ b, b < 10 → tk_x v e b = tk_x u e b) ∧
  ∀ T : Nat → Prop, tk_shut u lo T → ∀ b, b < u.1 2 → T b → v.2 21 b = u.2 21 b ∧ ∀ e, e < 31 → tk_x v e b = tk_x u e b
theorem tf_rf {u : pf_S} {lo d a : Nat} : tf_rel u u lo d a 0 := ⟨st_buts.rf, fun _ _ _ => rfl, fun _ _ _ => rfl, rfl, fun _ _ => rfl, fun _ _ _ _ h => Or.inl h, fun _ _ _ _ _ _ => rfl, fun _ _ _ _ _ => ⟨rfl, fun _ _ => rfl⟩⟩
theorem st_buts.wk {ks ks' : List Nat} {u v : pf_S} (h : st_buts ks u v) (hs : ∀ k ∈ ks, k ∈ ks') : st_buts ks' u v := ⟨h.1, fun j hj => h.2 j (fun q => hj (hs j q))⟩
theorem tk_x_of {u v : pf_S} (h : v.2 22 = u.2 22) (d a : Nat) : tk_x v d a = tk_x u d a := by
  unfold tk_x
  rw [h]
theorem tf_buts {u v w : pf_S} {lo d a g : Nat} (h : tf_rel u v lo d a g) (hb : st_buts [26, 27, 28] v w) : tf_rel u w lo d a g := by
  have hx : ∀ e b, tk_x w e b = tk_x v e b := tk_x_of (hb.2 22 (by decide))
  have hr : w.2 21 = v.2 21 := hb.2 21 (by decide)
  obtain ⟨h1, h2, h3, h4, h5, h6, h7, h8⟩ := h
  refine ⟨h1.tr (hb.wk (by decide)), fun e he hd => ?_, fun b hb1 hb2 => by rw [hx]; exact h3 b hb1 hb2, by rw [hx]; exact h4, fun b hb1 => ?_, fun e he b hb1 hp => h6 e he b hb1 (by rw [hx] at hp; exact hp), fun e he hd hl b hb1 => by rw [hx]; exact h7 e he hd hl b hb1, fun T hT b hb1 hb2 => ?_⟩
  · rw [show tk_x w e = tk_x v e from funext (hx e)]
    exact h2 e he hd
  · have : tk_col w b = tk_col v b := by
      unfold tk_col
      rw [hr]
      congr 1
      exact fl_sum_congr fun e _ => hx e b
    rw [this]
    exact h5 b hb1
  · obtain ⟨g1, g2⟩ := h8 T hT b hb1 hb2
    exact ⟨by rw [hr]; exact g1, fun e he => by rw [hx]; exact g2 e he⟩
theorem tf_cap {u v : pf_S} {lo d a g : Nat} (h : tf_rel u v lo d a g) (hc : tk_cap u) : tk_cap v := by
  refine ⟨by rw [h.1.1]; exact hc.1, fun b hb => ?_⟩
  rw [h.1.1] at hb
  have h1 := h.2.2.2.2.1 b hb
  have h2 := hc.2 b hb
  unfold tk_col at h1
  omega
theorem tf_us {u v : pf_S} {lo d a g : Nat} (h : tf_rel u v lo d a g) (hu : us_ok u) : us_ok v := by
  intro e he b hb
  rw [h.1.2 23 (by decide)] at hb
  rw [h.1.1]
  exact hu e he b hb
/-- what was shut stays so -/
theorem tf_shut {u v : pf_S} {lo d a g : Nat} {T : Nat → Prop} (h : tf_rel u v lo d a g) (hT : tk_shut u lo T) : tk_shut v lo T := by
  have hn : v.1 2 = u.1 2 := by rw [h.1.1]
  have h23 : v.2 23 = u.2 23 := h.1.2 23 (by decide)
  refine ⟨fun b hb hb2 => ?_, fun e he hl b hb hb2 hx c hc => ?_⟩
  · rw [hn] at hb
    rw [(h.2.2.2.2.2.2.2 T hT b hb hb2).1]
    exact hT.1 b hb hb2
  · rw [hn] at hb
    rw [(h.2.2.2.2.2.2.2 T hT b hb hb2).2 e he] at hx
    rw [h23] at hc
    exact hT.2 e he hl b hb hb2 hx c hc
theorem pl_out {u : pf_S} {lo first : Nat} {T : Nat → Prop} (hT : tk_shut u lo T) : ∀ {L : List Nat}, pl u lo first 1 L → (∀ a, L.head? = some a → ¬ T a) → ∀ b ∈ L, ¬ T b
  | [c], _, h, b, hb => by
    rw [List.mem_singleton] at hb
    rw [hb]
    exact h c rfl
  | c :: x :: t, hp, h, b, hb => by
    obtain ⟨⟨g1, g2, g3, g4, g5, g6, g7⟩, g8⟩ := hp
    rcases List.mem_cons.mp hb with rfl | hb
    · exact h b rfl
    · refine pl_out hT g8 (fun a ha => ?_) b hb
      cases ha
      intro hx
      exact h c rfl (hT.2 _ g4 g5 x (pl_lt g8 rfl) hx (by omega) c g7)
theorem pl_first {u : pf_S} {lo first m : Nat} : ∀ {M : List Nat}, pl u lo first m M → first ∈ M
  | [c], h => by
    rw [h.1]
    exact List.mem_cons_self
  | c :: b :: t, h => List.mem_cons_of_mem _ (pl_first h.2)
theorem tf_step {u v w : pf_S} {lo d a g last k : Nat} {L : List Nat} (hc : tk_cap u) (h : tf_rel u v lo d a g) (hd : d < 31) (ha : a < u.1 2) (hlo : lo.testBit d = false) (hpl : pl v lo a 1 L) (hhd : L.head? = some last) (hroom : 0 < v.2 21 last) (hs : sh_rel v w lo a last k L) :
    tf_rel u (w.1, up2 w.2 22 (d * 10 + a) (w.2 22 (d * 10 + a) + k)) lo d a (g + k) := by
  have hn : v.1 2 = u.1 2 := by rw [h.1.1]
  have h10 := hc.1
  have haL : a ∈ L := pl_first hpl
  obtain ⟨h1, h2, h3, h4, h5, h6, h7, h8⟩ := h
  obtain ⟨s1, s2, s3, s4, s5, s6, s7⟩ := hs
  rw [hn] at s3 s4 s5
  obtain ⟨z, hz⟩ : ∃ z : pf_S, z = (w.1, up2 w.2 22 (d * 10 + a) (w.2 22 (d * 10 + a) + k)) := ⟨_, rfl⟩
  have hX : ∀ e b, b < 10 → tk_x z e b = if e = d ∧ b = a then tk_x w e b + k else tk_x w e b := by
    intro e b hb
    rw [hz]
    unfold tk_x
    show up2 w.2 22 (d * 10 + a) _ 22 (e * 10 + b) = _
    rw [up2_at]
    dsimp only
    by_cases q : e = d ∧ b = a
    · rw [if_pos (by rw [q.1, q.2]), if_pos q, q.1, q.2]
    · rw [if_neg (fun q2 => q (by omega)), if_neg q]
  have hK : ∀ j, j ≠ 22 → z.2 j = w.2 j := fun j hj => by rw [hz]; exact up2_ne w.2 hj
  have hR : z.2 21 = w.2 21 := hK 21 (by decide)
  have hz1 : z.1 = w.1 := by rw [hz]
  rw [← hz]
  refine ⟨⟨by rw [hz1, s1.1]; exact h1.1, fun j hj => ?_⟩, fun e he hed => ?_, fun b hb hba => ?_, ?_, fun b hb => ?_, fun e he b hb hp => ?_, fun e he hed hl b hb => ?_, fun T hT b hb hTb => ?_⟩
  · rw [hK j (fun q => hj (by rw [q]; decide)), s1.2 j (fun q => hj (by simp at q ⊢; omega))]
    exact h1.2 j hj
  · have e1 : fl_sum (tk_x z e) (u.1 2) = fl_sum (tk_x w e) (u.1 2) := fl_sum_congr fun b hb => by rw [hX e b (by omega), if_neg (fun q => hed q.1)]
    rw [e1, s3 e he]
    exact h2 e he hed
  · rw [hX d b hb, if_neg (fun q => hba q.2), s6 d hd hlo b hb]
    exact h3 b hb hba
  · rw [hX d a (by omega), if_pos ⟨rfl, rfl⟩, s6 d hd hlo a (by omega), h4]
    omega
  · have e2 := fl_sum_rest (f := fun e => tk_x z e b) (g := fun e => tk_x w e b) hd (fun e _ hed => by
      show tk_x z e b = tk_x w e b
      rw [hX e b (by omega), if_neg (fun q => hed q.1)])
    rw [hX d b (by omega)] at e2
    have e3 := s4 b hb
    have e4 := h5 b hb
    unfold tk_col at e3 e4 ⊢
    rw [hR]
    by_cases q : b = a
    · rw [if_pos ⟨rfl, q⟩] at e2
      rw [if_pos q] at e3
      omega
    · rw [if_neg (fun q2 => q q2.2)] at e2
      rw [if_neg q] at e3
      omega
  · rw [hX e b (by omega)] at hp
    by_cases q : e = d ∧ b = a
    · exact Or.inr (Or.inr q)
    · rw [if_neg q] at hp
      rcases s5 e he b hb hp with s | s
      · exact h6 e he b hb s
      · right
        left
        rw [h1.2 23 (by decide)] at s
        exact s
  · rw [hX e b hb, if_neg (fun q => hed q.1), s6 e he hl b hb]
    exact h7 e he hed hl b hb
  · have hTv : tk_shut v lo T := by
      refine tf_shut (d := d) (a := a) (g := g) ⟨h1, h2, h3, h4, h5, h6, h7, h8⟩ hT
    have hout := pl_out hTv hpl (fun x hx hTx => by
      rw [hhd] at hx
      cases hx
      have := hTv.1 last (pl_lt hpl hhd) hTx
      omega)
    have hbL : b ∉ L := fun q => hout b q hTb
    have hba : b ≠ a := fun q => hbL (by rw [q]; exact haL)
    have hbl : b ≠ last := by
      intro q
      apply hbL
      rw [q]
      cases L with
      | nil => cases hhd
      | cons c t => cases hhd; exact List.mem_cons_self
    obtain ⟨g1, g2⟩ := h8 T hT b hb hTb
    refine ⟨?_, fun e he => ?_⟩
    · rw [hR, s2 b (by omega), if_neg hbl]
      exact g1
    · rw [hX e b (by omega), if_neg (fun q => hba q.2), s7 b (by omega) hbL e he]
      exact g2 e he
theorem fl_tb_n {R n : Nat} (hn : n ≤ 10) (h : ∀ a, R.testBit a = true → a < n) : fl_sum (tbit R) 10 = fl_sum (tbit R) n := by
  have key : ∀ m, n ≤ m → fl_sum (tbit R) m = fl_sum (tbit R) n := by
    intro m hm
    induction hm with
    | refl => rfl
    | step hm ih =>
      rename_i m
      rw [fl_sum_succ, ih]
      have : tbit R m = 0 := by
        unfold tbit
        split
        · rename_i q
          have hm2 : n ≤ m := hm
          have := h m q
          omega
        · rfl
      omega
  exact key 10 hn
/-- reached arrivals without room are shut -/
theorem sp_shut {u v : pf_S} {S lo R : Nat} (h : sp_post u v S lo R) (hr : ∀ i, i < fl_sum (tbit R) (u.1 2) → v.2 21 (v.2 26 i) = 0) : tk_shut v lo (fun b => R.testBit b = true) := by
  have hx : ∀ e b, tk_x v e b = tk_x u e b := tk_x_of (h.1.2 22 (by decide))
  refine ⟨fun b _ hb => ?_, fun e he hl b _ hb hp c hc => ?_⟩
  · obtain ⟨i, g1, g2⟩ := h.2.1.2.2.2.1 b hb
    rw [← g2]
    exact hr i g1
  · rw [hx] at hp
    rw [h.1.2 23 (by decide)] at hc
    exact h.2.2 b hb e he hl hp c hc
theorem sp_path {u v : pf_S} {first lo R i : Nat} (h : sp_post u v (1 <<< first) lo R) (hn : u.1 2 ≤ 10) (hi : i < fl_sum (tbit R) (u.1 2)) : v.2 26 i < v.1 2 ∧ ∃ L, pl v lo first 1 L ∧ L.head? = some (v.2 26 i) ∧ L.length ≤ 10 ∧ L.Nodup := by
  have hx : tk_x v = tk_x u := funext fun e => funext fun b => tk_x_of (h.1.2 22 (by decide)) e b
  have h1 : v.1 2 = u.1 2 := by rw [h.1.1]
  have h2 : v.2 23 = u.2 23 := h.1.2 23 (by decide)
  have hs := h.2.1
  rw [← h1, ← hx, ← h2] at hs
  obtain ⟨L, g1, g2, g3, g4, g5⟩ := pl_of hs i (by rw [h1]; exact hi)
  have hl := fl_sum_cnt (tbit_le R) (u.1 2)
  exact ⟨hs.1 _ (hs.2.2.1 i (by rw [h1]; exact hi)), L, g1, g2, by omega, g3⟩
def tf_post (u u1 : pf_S) (lo d a w k : Nat) : Prop := ∃ g, k + g = w ∧ tf_rel u u1 lo d a g ∧ (0 < k → ∃ T, tk_shut u1 lo T ∧ T a)
theorem fl_two {f : Nat → Nat} : ∀ {n i j : Nat}, i < n → j < n → j ≠ i → f i + f j ≤ fl_sum f n
  | 0, _, _, h, _, _ => absurd h (Nat.not_lt_zero _)
  | n + 1, i, j, hi, hj, hne => by
    rw [fl_sum_succ]
    by_cases h1 : i = n
    · subst h1
      have := fl_sum_one f (show j < i by omega)
      omega
    · by_cases h2 : j = n
      · subst h2
        have := fl_sum_one f (show i < j by omega)
        omega
      · have := fl_two (f := f) (show i < n by omega) (show j < n by omega) hne
        omega
set_option maxHeartbeats 4000000 in
set_option maxRecDepth 100000 in
theorem c_X3_takeFrom (l : Launch) (G : gw_G) (q : Nat → Nat) (u : pf_S) (d : Nat) (a : Nat) (w : Nat) (lo : Nat) (hcap : tk_cap u) (hus : us_ok u) (hd : d < 31) (ha : a < u.1 2) (hlo : lo.testBit d = false) (hw : w < 2 ^ 31) : gw_MI l yX3_takeFrom cX3_takeFrom 9 (some .int) 2 54 [.ref (q 4), .int (nI (d)), .int (nI (a)), .int (nI (w)), .int (nI (lo))] G (pw G q) u (fun r u1 => ∃ k : Nat, r = nI k ∧ (tf_post u u1 lo d a w k)) := by
  refine gw_entryI (own := RX3) (by decide) rfl (Nat.le_of_ble_eq_true rfl) ?_
  intro p e s m args below meth c A ls C Hh hl
  have hl : lv_has ls 9 [(0, .ref (q 4)), (1, .int (nI (d))), (2, .int (nI (a))), (3, .int (nI (w))), (4, .int (nI (lo)))] := hl
  refine lv_iload_n C.1 C.2.1 dX3_takeFrom_0 rfl (lv_at hl 3 rfl) ?_
  refine lv_istore (lv' := [(5, .int (nI (w))), (0, .ref (q 4)), (1, .int (nI (d))), (2, .int (nI (a))), (3, .int (nI (w))), (4, .int (nI (lo)))]) C.1 C.2.1 dX3_takeFrom_1 hl (by decide) rfl (fun ls hl => ?_)
  refine lv_iconst (v := nI 0) C.1 C.2.1 dX3_takeFrom_3 (by decide +kernel) ?_
  refine lv_istore (lv' := [(6, .int (nI (0))), (5, .int (nI (w))), (0, .ref (q 4)), (1, .int (nI (d))), (2, .int (nI (a))), (3, .int (nI (w))), (4, .int (nI (lo)))]) C.1 C.2.1 dX3_takeFrom_4 hl (by decide) rfl (fun ls hl => ?_)
  have loop_6 : ∀ (fu : Nat) (mi : Nat) (sh : Nat) (g : Nat) (uc : pf_S) (H : Heap) (locs : List Loc) (ls : Array Slot), (mi + g = w) → (sh ≤ g) → (tf_rel u uc lo d a g) → (sh ≤ 1000000) → 1000000 - sh < fu → gw_H G A s (pw G q uc) H locs → lv_has ls 9 [(0, .ref (q 4)), (1, .int (nI (d))), (2, .int (nI (a))), (3, .int (nI (w))), (4, .int (nI (lo))), (5, .int (nI (mi))), (6, .int (nI (sh)))] → W p l e (gw_rm 2 54) s m args below meth c H locs 0 0 (MQ below (va_Qi (fun r u1 => ∃ k : Nat, r = nI k ∧ (tf_post u u1 lo d a w k)) (gw_at G A (pw G q)) A) args s 0 0 A) (F0 m 6 ls []) := by
    intro fu
    induction fu with
    | zero =>
      intro mi sh g uc H locs ls hg hsg hv hs6 hmf
      exact absurd hmf (Nat.not_lt_zero _)
    | succ fu ih_6 =>
      intro mi sh g uc H locs ls hg hsg hv hs6 hmf Hh hl
      have hcv := tf_cap hv hcap
      have huv := tf_us hv hus
      have hn2 : uc.1 2 = u.1 2 := by rw [hv.1.1]
      have h0 := hcap.1
      have hra := hcv.2 a (by omega)
      refine lv_iload C.1 C.2.1 dX3_takeFrom_6 (lv_at hl 6 rfl) ?_
      refine lv_ldc (v := nI 1000000) C.1 C.2.1 C.cl (C.ts tw_456) dX3_takeFrom_8 ?_
      refine gw_icmp_ge (tgt := 94) C dX3_takeFrom_10 (by decide) (by omega) (by omega) (fun hc_10 => ?_) (fun hc_10 => ?_)
      · skip
        refine lv_iload C.1 C.2.1 dX3_takeFrom_94 (lv_at hl 5 rfl) ?_
        exact gw_iret (w := pw G q) (u := uc) C Hh dX3_takeFrom_96 ⟨_, rfl, by refine ⟨g, hg, hv, fun hk0 => ?_⟩; refine ⟨fun b => b = a, ⟨fun b hb hba => ?_, fun e9 he9 hl9 b hb hba hp => ?_⟩, rfl⟩; (subst hba; have q1 := hv.2.2.2.1; have q2 := fl_sum_one (fun e => tk_x uc e b) hd; omega); (subst hba; exfalso; have q1 := hv.2.2.2.1; have q2 := fl_two hd he9 (fun q9 => by rw [← q9, hl9] at hlo; cases hlo) (f := fun e => tk_x uc e b); omega)⟩
      · skip
        refine lv_iload C.1 C.2.1 dX3_takeFrom_13 (lv_at hl 5 rfl) ?_
        refine gw_if_le (tgt := 94) C dX3_takeFrom_15 (by decide) (by omega) (fun hc_15 => ?_) (fun hc_15 => ?_)
        · skip
          refine lv_iload C.1 C.2.1 dX3_takeFrom_94 (lv_at hl 5 rfl) ?_
          exact gw_iret (w := pw G q) (u := uc) C Hh dX3_takeFrom_96 ⟨_, rfl, by refine ⟨g, hg, hv, fun hk0 => ?_⟩; refine ⟨fun b => b = a, ⟨fun b hb hba => ?_, fun e9 he9 hl9 b hb hba hp => ?_⟩, rfl⟩; (subst hba; have q1 := hv.2.2.2.1; have q2 := fl_sum_one (fun e => tk_x uc e b) hd; omega); (subst hba; exfalso; have q1 := hv.2.2.2.1; have q2 := fl_two hd he9 (fun q9 => by rw [← q9, hl9] at hlo; cases hlo) (f := fun e => tk_x uc e b); omega)⟩
        · skip
          refine lv_aload_n C.1 C.2.1 dX3_takeFrom_18 rfl (lv_at hl 0 rfl) ?_
          refine gw_get (Cn := RX3) (T := TX3) (N := 10) C Hh 4 pw_at4 rfl uwX3 2 (by decide) rfl tw_187 rfl dX3_takeFrom_19 ?_
          refine lv_iload_n C.1 C.2.1 dX3_takeFrom_22 rfl (lv_at hl 2 rfl) ?_
          refine gw_ld C Hh 21 pw_at21 (by decide) dX3_takeFrom_23 (by omega) ?_
          have join_44 : ∀ (la : Nat) (ud : pf_S) (H : Heap) (locs : List Loc) (ls : Array Slot), (tf_rel u ud lo d a g) → ((la = 4294967295 ∧ ∃ T, tk_shut ud lo T ∧ T a) ∨ (la < u.1 2 ∧ ∃ L, pl ud lo a 1 L ∧ L.head? = some la ∧ L.length ≤ 10 ∧ L.Nodup ∧ 0 < ud.2 21 la)) → gw_H G A s (pw G q ud) H locs → lv_has ls 9 [(0, .ref (q 4)), (1, .int (nI (d))), (2, .int (nI (a))), (3, .int (nI (w))), (4, .int (nI (lo))), (5, .int (nI (mi))), (6, .int (nI (sh)))] → W p l e (gw_rm 2 54) s m args below meth c H locs 0 0 (MQ below (va_Qi (fun r u1 => ∃ k : Nat, r = nI k ∧ (tf_post u u1 lo d a w k)) (gw_at G A (pw G q)) A) args s 0 0 A) (F0 m 44 ls [.int (nI (la))]) := by
            intro la ud H locs ls hv2 hla Hh hl
            have hcd := tf_cap hv2 hcap
            have hd2 : ud.1 2 = u.1 2 := by rw [hv2.1.1]
            refine lv_istore (lv' := [(7, .int (nI (la))), (0, .ref (q 4)), (1, .int (nI (d))), (2, .int (nI (a))), (3, .int (nI (w))), (4, .int (nI (lo))), (5, .int (nI (mi))), (6, .int (nI (sh)))]) C.1 C.2.1 dX3_takeFrom_44 hl (by decide) rfl (fun ls hl => ?_)
            refine lv_iload C.1 C.2.1 dX3_takeFrom_46 (lv_at hl 0 rfl) ?_
            rcases hla with ⟨hla, hsat⟩ | ⟨hla, L, hpl, hhd, hln, hnd, hrm⟩
            · refine gw_if_geN (tgt := 54) C dX3_takeFrom_48 (by decide) (by omega) (by omega) ?_
              refine lv_iload C.1 C.2.1 dX3_takeFrom_51 (lv_at hl 6 rfl) ?_
              exact gw_iret (w := pw G q) (u := ud) C Hh dX3_takeFrom_53 ⟨_, rfl, by exact ⟨g, hg, hv2, fun _ => hsat⟩⟩
            · refine gw_if_ge (tgt := 54) C dX3_takeFrom_48 (by decide) (by omega) ?_
              refine lv_aload_n C.1 C.2.1 dX3_takeFrom_54 rfl (lv_at hl 1 rfl) ?_
              refine lv_iload_n C.1 C.2.1 dX3_takeFrom_55 rfl (lv_at hl 3 rfl) ?_
              refine lv_iload C.1 C.2.1 dX3_takeFrom_56 (lv_at hl 0 rfl) ?_
              refine lv_iload C.1 C.2.1 dX3_takeFrom_58 (lv_at hl 6 rfl) ?_
              refine gw_fromI (w := pw G q) (u := ud) C Hh (gw_runV (n := 3) (C1 := RX3) [.int (nI (a)), .int (nI (la)), .int (nI (mi))] C Hh (c_X3_shift l G q (ud) (a) (la) (mi) (lo) (L) (by exact hcd) (by omega) (by exact hpl) (by exact hhd) (by exact hln) (by exact hnd) (by omega) (by omega) (by exact hrm) _) tw_475 tw_477 tw_26 tw_70 tw_478 (by decide +kernel) ⟨Nat.le_of_ble_eq_true rfl, Nat.le_of_ble_eq_true rfl⟩ 4 pw_at4 rfl rfl hl.1 (Nat.le_of_ble_eq_true rfl) dX3_takeFrom_60 ⟨Nat.zero_le _, Nat.zero_le _⟩) (fun rc_60 uc_60 H locs hp_60 Hh => ?_)
              obtain ⟨kc_60, rfl, hp_60⟩ := hp_60
              have hk1 := hp_60.1
              have hk2 := hp_60.2.1
              refine lv_istore (lv' := [(8, .int (nI (kc_60))), (7, .int (nI (la))), (0, .ref (q 4)), (1, .int (nI (d))), (2, .int (nI (a))), (3, .int (nI (w))), (4, .int (nI (lo))), (5, .int (nI (mi))), (6, .int (nI (sh)))]) C.1 C.2.1 dX3_takeFrom_63 hl (by decide) rfl (fun ls hl => ?_)
              refine lv_aload_n C.1 C.2.1 dX3_takeFrom_65 rfl (lv_at hl 2 rfl) ?_
              refine gw_get (Cn := RX3) (T := TX3) (N := 10) C Hh 4 pw_at4 rfl uwX3 3 (by decide) rfl tw_189 rfl dX3_takeFrom_66 ?_
              refine lv_iload_n C.1 C.2.1 dX3_takeFrom_69 rfl (lv_at hl 3 rfl) ?_
              refine lv_bipush (v := nI 10) C.1 C.2.1 dX3_takeFrom_70 (by decide +kernel) ?_
              refine gw_imul C dX3_takeFrom_72 ?_
              refine lv_iload_n C.1 C.2.1 dX3_takeFrom_73 rfl (lv_at hl 4 rfl) ?_
              refine gw_iadd C dX3_takeFrom_74 ?_
              refine lv_dup2_11 C.1 C.2.1 dX3_takeFrom_75 rfl rfl ?_
              refine gw_ld C Hh 22 pw_at22 (by decide) dX3_takeFrom_76 (by omega) ?_
              refine lv_iload C.1 C.2.1 dX3_takeFrom_77 (lv_at hl 0 rfl) ?_
              refine gw_iadd C dX3_takeFrom_79 ?_
              refine gw_st C Hh 22 pw_at22 (by decide) pw_set22 dX3_takeFrom_80 (by omega) (fun H locs Hh => ?_)
              have Hh : gw_H G A s (pw G q (uc_60.1, up2 uc_60.2 22 ((d * 10) + a) ((uc_60.2 22 ((d * 10) + a)) + kc_60))) H locs := Hh
              refine lv_iload C.1 C.2.1 dX3_takeFrom_81 (lv_at hl 7 rfl) ?_
              refine lv_iload C.1 C.2.1 dX3_takeFrom_83 (lv_at hl 0 rfl) ?_
              refine gw_isub C dX3_takeFrom_85 (by exact hp_60.2.1) ?_
              refine lv_istore (lv' := [(5, .int (nI (mi - kc_60))), (8, .int (nI (kc_60))), (7, .int (nI (la))), (0, .ref (q 4)), (1, .int (nI (d))), (2, .int (nI (a))), (3, .int (nI (w))), (4, .int (nI (lo))), (6, .int (nI (sh)))]) C.1 C.2.1 dX3_takeFrom_86 hl (by decide) rfl (fun ls hl => ?_)
              refine lv_iinc (v := nI (sh + 1)) (lv' := [(6, .int (nI (sh + 1))), (5, .int (nI (mi - kc_60))), (8, .int (nI (kc_60))), (7, .int (nI (la))), (0, .ref (q 4)), (1, .int (nI (d))), (2, .int (nI (a))), (3, .int (nI (w))), (4, .int (nI (lo)))]) C.1 C.2.1 dX3_takeFrom_88 hl (k := 8) rfl (nI_add _ 1) (by decide) rfl (fun ls hl => ?_)
              refine lv_goto (tgt := 6) C.1 C.2.1 dX3_takeFrom_91 (by decide) ?_
              exact ih_6 (mi - kc_60) (sh + 1) (g + kc_60) ((uc_60.1, up2 uc_60.2 22 ((d * 10) + a) ((uc_60.2 22 ((d * 10) + a)) + kc_60))) _ _ _ (by omega) (by omega) (by exact tf_step hcap hv2 hd ha hlo hpl hhd hrm hp_60.2.2) (by omega) (by omega) Hh (lv_sub hl [4, 5, 6, 7, 8, 1, 0] rfl)
          refine gw_if_le (tgt := 31) C dX3_takeFrom_24 (by decide) (by omega) (fun hc_24 => ?_) (fun hc_24 => ?_)
          · skip
            refine lv_aload_n C.1 C.2.1 dX3_takeFrom_31 rfl (lv_at hl 0 rfl) ?_
            refine lv_aload_n C.1 C.2.1 dX3_takeFrom_32 rfl (lv_at hl 0 rfl) ?_
            refine lv_iconst (v := nI 1) C.1 C.2.1 dX3_takeFrom_33 (by decide +kernel) ?_
            refine lv_iload_n C.1 C.2.1 dX3_takeFrom_34 rfl (lv_at hl 2 rfl) ?_
            refine gw_ishl C dX3_takeFrom_35 (by omega) ?_
            refine lv_iload C.1 C.2.1 dX3_takeFrom_36 (lv_at hl 4 rfl) ?_
            have haS : (1 <<< a).testBit a = true := by rw [Nat.one_shiftLeft, Nat.testBit_two_pow]; simp
            have haB : ∀ b, (1 <<< a).testBit b = true → b < uc.1 2 := fun b hb => by rw [Nat.one_shiftLeft, Nat.testBit_two_pow, decide_eq_true_eq] at hb; omega
            refine gw_fromI (w := pw G q) (u := uc) C Hh (gw_runV (n := 2) (C1 := RX3) [.int (nI (1 <<< a)), .int (nI (lo))] C Hh (c_X3_spread l G q (uc) (1 <<< a) (lo) (by first | assumption | omega) (by first | assumption | omega) (by exact haB) _) tw_457 tw_459 tw_23 tw_70 tw_460 (by decide +kernel) ⟨Nat.le_of_ble_eq_true rfl, Nat.le_of_ble_eq_true rfl⟩ 4 pw_at4 rfl rfl hl.1 (Nat.le_of_ble_eq_true rfl) dX3_takeFrom_38 ⟨Nat.zero_le _, Nat.zero_le _⟩) (fun rc_38 uc_38 H locs hp_38 Hh => ?_)
            obtain ⟨kc_38, rfl, hp_38⟩ := hp_38
            have hSR := hp_38.2.1.2.2.2.2.2.2
            have hcn : fl_sum (tbit kc_38) 10 = fl_sum (tbit kc_38) (uc.1 2) := fl_tb_n (by omega) hp_38.2.1.1
            refine gw_fromI (w := pw G q) (u := uc_38) C Hh (gw_runV (n := 1) (C1 := RX3) [.int (nI (kc_38))] C Hh (c_X3_nearestRoom l G q (uc_38) (kc_38) (by exact tf_cap (tf_buts hv hp_38.1) hcap) (by exact lt_1024 (by omega) hp_38.2.1.1) (by intro i hi; exact (by have hpp := sp_path (i := i) hp_38 (by omega) (by rw [← hcn]; exact hi); exact hpp.1)) _) tw_465 tw_467 tw_25 tw_70 tw_468 (by decide +kernel) ⟨Nat.le_of_ble_eq_true rfl, Nat.le_of_ble_eq_true rfl⟩ 4 pw_at4 rfl rfl hl.1 (Nat.le_of_ble_eq_true rfl) dX3_takeFrom_41 ⟨Nat.zero_le _, Nat.zero_le _⟩) (fun rc_41 uc_41 H locs hp_41 Hh => ?_)
            obtain ⟨kc_41, rfl, hp_41⟩ := hp_41
            obtain ⟨hk_41, hu_41⟩ := hp_41
            rw [hu_41] at Hh
            clear hu_41
            exact join_44 (kc_41) (uc_38) _ _ _ (by exact tf_buts hv hp_38.1) (by rcases hk_41 with ⟨h1, h2⟩ | ⟨i, h1, h2, h3⟩; (exact Or.inl ⟨h1, _, sp_shut hp_38 (fun i hi => h2 i (by rw [hcn]; exact hi)), hSR a haS⟩); (have hpp := sp_path (i := i) hp_38 (by omega) (by rw [← hcn]; exact h1)); exact Or.inr ⟨by rw [h2, ← hn2, ← hp_38.1.1]; exact hpp.1, by obtain ⟨L, q1, q2, q3, q4⟩ := hpp.2; exact ⟨L, q1, by rw [h2]; exact q2, q3, q4, by rw [h2]; exact h3⟩⟩) Hh (lv_sub hl [0, 1, 2, 3, 4, 5, 6] rfl)
          · skip
            refine lv_iload_n C.1 C.2.1 dX3_takeFrom_27 rfl (lv_at hl 2 rfl) ?_
            refine lv_goto (tgt := 44) C.1 C.2.1 dX3_takeFrom_28 (by decide) ?_
            exact join_44 (a) (uc) _ _ _ (by exact hv) (by exact Or.inr ⟨ha, [a], ⟨rfl, by omega⟩, rfl, by simp, by simp, hc_24⟩) Hh (lv_sub hl [0, 1, 2, 3, 4, 5, 6] rfl)
  exact loop_6 _ (w) (0) (0) (u) _ _ _ (by omega) (by first | assumption | omega) (by exact tf_rf) (by first | assumption | omega) (Nat.lt_succ_self _) Hh (lv_sub hl [2, 3, 4, 5, 6, 1, 0] rfl)
