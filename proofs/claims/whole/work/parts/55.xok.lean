/-! The class's plan is what the reference's plan takes, step by step -/
theorem pbf_asym {w : pf_S} {a b : Nat} (h : pbf w a b) : ¬ pbf w b a := by
  intro g
  rcases h with h | ⟨h1, h2⟩
  · rcases g with g | ⟨g1, g2⟩
    · exact kx_irr (kx_tr h g)
    · rw [g1] at h
      exact kx_irr h
  · rcases g with g | ⟨g1, g2⟩
    · rw [h1] at g
      exact kx_irr g
    · omega
theorem pbf_tri {w : pf_S} (a b : Nat) : pbf w a b ∨ a = b ∨ pbf w b a := by
  rcases kx_tri (K := w.2 17) (a / 3) (b / 3) with h | h | h
  · exact Or.inl (Or.inl h)
  · rcases Nat.lt_trichotomy (a % 3) (b % 3) with q | q | q
    · exact Or.inl (Or.inr ⟨h, q⟩)
    · exact Or.inr (Or.inl (by omega))
    · exact Or.inr (Or.inr (Or.inr ⟨h.symm, q⟩))
  · exact Or.inr (Or.inr (Or.inl h))
theorem enu_lt {w : pf_S} {D i j : Nat} {e : Nat → Nat} (he : enu w D e) (hi : i < D) (hj : j < D) : j < i ↔ pbf w (e j) (e i) := by
  constructor
  · intro h
    exact he.2.2 j i h hi
  · intro h
    refine Nat.lt_of_not_le fun q => ?_
    rcases Nat.lt_or_eq_of_le q with q | q
    · exact pbf_asym h (he.2.2 i j q hj)
    · rw [q] at h
      exact pbf_ne h rfl
theorem enu_inj {w : pf_S} {D i j : Nat} {e : Nat → Nat} (he : enu w D e) (hi : i < D) (hj : j < D) (h : e j = e i) : j = i := by
  rcases Nat.lt_trichotomy j i with q | q | q
  · exact absurd h (pbf_ne (he.2.2 j i q hi))
  · exact q
  · exact absurd h.symm (pbf_ne (he.2.2 i j q hj))
/-- what those before d take -/
noncomputable def PB (w : pf_S) (X : Nat → Nat → Nat) (d b : Nat) : Nat := fl_sum (fun f => pif (cvd w f ∧ pbf w f d) (X f b) 0) 31
noncomputable def PA (w : pf_S) (X : Nat → Nat → Nat) (d b : Nat) : Nat := fl_sum (fun f => pif (cvd w f ∧ pbf w d f) (X f b) 0) 31
theorem pb_eq {w : pf_S} {D i : Nat} {e : Nat → Nat} (he : enu w D e) (h10 : w.1 1 ≤ 10) (hi : i < D) (X : Nat → Nat → Nat) (b : Nat) : fl_sum (fun j => X (e j) b) i = PB w X (e i) b := by
  rw [rx (e := e) (F := fun f => X f b) (N := 31) (D := i) (fun j hj => by have := (he.1 j (by omega)).1; omega) (fun j k hj hk => pbf_ne (he.2.2 j k hj (by omega)))]
  refine fl_sum_congr fun f _ => pif_iff ⟨fun ⟨j, j1, j2⟩ => ?_, fun ⟨q1, q2⟩ => ?_⟩
  · rw [← j2]
    exact ⟨he.1 j (by omega), he.2.2 j i j1 hi⟩
  · obtain ⟨j, j1, j2⟩ := he.2.1 f q1
    refine ⟨j, (enu_lt he hi j1).mpr (by rw [j2]; exact q2), j2⟩
theorem sp_3 {w : pf_S} {F : Nat → Nat} {d : Nat} (hd : d < 31) (hc : cvd w d) (h0 : ∀ f, f < 31 → ¬ cvd w f → F f = 0) : fl_sum F 31 = fl_sum (fun f => pif (cvd w f ∧ pbf w f d) (F f) 0) 31 + F d + fl_sum (fun f => pif (cvd w f ∧ pbf w d f) (F f) 0) 31 := by
  have e1 : fl_sum (fun f => if f = d then F d else 0) 31 = F d := by
    have := fl_sum_rest (f := fun f => if f = d then F d else 0) (g := fun _ => 0) hd (fun j _ hj => if_neg hj)
    rw [fl_sum_zero, if_pos rfl] at this
    omega
  rw [← e1, ← fl_sum_add, ← fl_sum_add]
  refine fl_sum_congr fun f hf => ?_
  by_cases q : cvd w f
  · rcases pbf_tri (w := w) f d with h | h | h
    · rw [pif_pos ⟨q, h⟩, if_neg (pbf_ne h), pif_neg (fun z => pbf_asym h z.2)]
      omega
    · subst h
      rw [if_pos rfl, pif_neg (c := cvd w f ∧ pbf w f f) (fun z => pbf_ne z.2 rfl)]
      omega
    · rw [pif_neg (fun z => pbf_asym h z.2), if_neg (fun z => pbf_ne h z.symm), pif_pos ⟨q, h⟩]
      omega
  · rw [pif_neg (fun z => q z.1), pif_neg (fun z => q z.1), h0 f hf q]
    split
    · rename_i h
      rw [← h, h0 f hf q]
    · rfl
/-- how much a demand still wants -/
noncomputable def mN (w : pf_S) (X : Nat → Nat → Nat) (d : Nat) (B : Nat → Prop) (f : Nat) : Nat := pif (pbf w f d) 0 (if f = d then od_w w (d / 3) (d % 3) - bf_s w X d B else od_w w (f / 3) (f % 3))
theorem pn_mN {w : pf_S} {D i j : Nat} {e : Nat → Nat} {X : Nat → Nat → Nat} {B : Nat → Prop} (he : enu w D e) (hi : i < D) (hj : j < D) (hb : bf_s w X (e i) B ≤ od_w w (e i / 3) (e i % 3)) : pn_m w X e i B j = (mN w X (e i) B (e j) : Int) := by
  unfold pn_m mN
  by_cases q : j < i
  · rw [if_pos q, pif_pos ((enu_lt he hi hj).mp q)]
    rfl
  · rw [if_neg q, pif_neg (fun z => q ((enu_lt he hi hj).mpr z))]
    by_cases q2 : j = i
    · rw [if_pos q2, if_pos (by rw [q2])]
      omega
    · rw [if_neg q2, if_neg (fun z => q2 (enu_inj he hi hj z))]
theorem pn_D {w : pf_S} {D i : Nat} {e : Nat → Nat} {X : Nat → Nat → Nat} {B : Nat → Prop} (he : enu w D e) (h10 : w.1 1 ≤ 10) (hi : i < D) (hb : bf_s w X (e i) B ≤ od_w w (e i / 3) (e i % 3)) (S : Nat) (hS : cmk w (e i) &&& (S ^^^ 4294967295) ≠ 0) :
    il_sum (fun j => if cmk w (e j) &&& (S ^^^ 4294967295) = 0 then pn_m w X e i B j else 0) D = (fl_sum (fun f => pif (cvd w f ∧ pbf w (e i) f) (if cmk w f &&& (S ^^^ 4294967295) = 0 then od_w w (f / 3) (f % 3) else 0) 0) 31 : Int) := by
  rw [il_nat (g := fun j => (fun f => if cmk w f &&& (S ^^^ 4294967295) = 0 then mN w X (e i) B f else 0) (e j)) (fun j hj => by
    rw [pn_mN he hi hj hb]
    dsimp only
    split <;> rfl), enu_sum he h10 (fun f => if cmk w f &&& (S ^^^ 4294967295) = 0 then mN w X (e i) B f else 0)]
  congr 1
  refine fl_sum_congr fun f hf => ?_
  by_cases q : cvd w f
  · rw [pif_pos q]
    rcases pbf_tri (w := w) f (e i) with h | h | h
    · unfold mN
      rw [pif_pos (c := pbf w f (e i)) h, pif_neg (c := cvd w f ∧ pbf w (e i) f) (fun z => pbf_asym h z.2)]
      split <;> rfl
    · subst h
      rw [if_neg hS, pif_neg (fun z => pbf_ne z.2 rfl)]
    · unfold mN
      rw [pif_pos (c := cvd w f ∧ pbf w (e i) f) ⟨q, h⟩, pif_neg (c := pbf w f (e i)) (pbf_asym h), if_neg (c := f = e i) (fun z => pbf_ne h z.symm)]
  · rw [pif_neg q, pif_neg (fun z => q z.1)]
noncomputable def hN (w : pf_S) (X : Nat → Nat → Nat) (d : Nat) (B : Nat → Prop) (b : Nat) : Nat := fr_of w b - PB w X d b - pif (B b) (X d b) 0
theorem pl_d31 {w : pf_S} (h10 : w.1 1 ≤ 10) {d : Nat} (h : cvd w d) : d < 31 := by
  have := h.1
  omega
theorem bf_a {w : pf_S} {X : Nat → Nat → Nat} {d a : Nat} (ha : a < w.1 0) (hn : w.1 0 ≤ 10) : bf_s w X d (bfr (w.2 10) a) + X d a ≤ fl_sum (X d) (w.1 0) := by
  have h := bf_put (w := w) (X := X) (d := d) (B := bfr (w.2 10) a) ha (fun q => kx_irr (q.resolve_left (by omega)))
  have h2 := bf_le (w := w) (X := X) (d := d) (B := fun b => bfr (w.2 10) a b ∨ b = a)
  omega
theorem fl_in_sum {f : Nat → Nat → Nat} {S n : Nat} {Pf : Nat → Prop} : fl_sum (fun b => if S.testBit b then fl_sum (fun e => pif (Pf e) (f e b) 0) 31 else 0) n = fl_sum (fun e => pif (Pf e) (fl_sum (fun b => if S.testBit b then f e b else 0) n) 0) 31 := by
  have h1 : fl_sum (fun b => if S.testBit b then fl_sum (fun e => pif (Pf e) (f e b) 0) 31 else 0) n = fl_sum (fun b => fl_sum (fun e => pif (Pf e) (if S.testBit b then f e b else 0) 0) 31) n := fl_sum_congr fun b _ => by
    by_cases q : S.testBit b = true
    · rw [if_pos q]
      refine fl_sum_congr fun e _ => ?_
      rw [if_pos q]
    · rw [if_neg q]
      refine (fl_sum_zero_of fun e _ => ?_).symm
      rw [if_neg q]
      by_cases q2 : Pf e
      · rw [pif_pos q2]
      · rw [pif_neg q2]
  rw [h1, fl_sum_swap]
  refine fl_sum_congr fun e _ => ?_
  by_cases q2 : Pf e
  · rw [pif_pos q2]
    exact fl_sum_congr fun b _ => pif_pos q2
  · rw [pif_neg q2]
    exact fl_sum_zero_of fun b _ => pif_neg q2
theorem pif_mono {c : Prop} {a b : Nat} (h : c → a ≤ b) : pif c a 0 ≤ pif c b 0 := by
  by_cases q : c
  · rw [pif_pos q, pif_pos q]
    exact h q
  · rw [pif_neg q, pif_neg q]
    exact Nat.le_refl _
theorem cls_ok {u : pf_S} (h : cls u) : mk_ok (u.1 0) (cmk u) := ⟨h.1.2.1.1, fun d _ a ha => us_f_lt ha⟩
set_option maxHeartbeats 1000000 in
theorem cls_X {u : pf_S} (hc : cls u) : X_ok u (tk_x u) := by
  obtain ⟨hst, hf, hmk, hpl⟩ := id hc
  have h10 : u.1 1 ≤ 10 := hst.2.2.1
  have hn : u.1 0 ≤ 10 := hst.2.1.1
  have hM := cls_ok hc
  obtain ⟨f1, f2, f3, f4, f5, f6⟩ := hf
  have hW : ∀ d, cvd u d → cv_W u d = od_w u (d / 3) (d % 3) := fun d h => by
    unfold cv_W
    rw [if_pos (cvb_iff.mpr h)]
  have hW0 : ∀ d, ¬ cvd u d → cv_W u d = 0 := fun d h => by
    unfold cv_W
    rw [if_neg (fun q => h (cvb_iff.mp q))]
  have x1 : ∀ d, cvd u d → fl_sum (tk_x u d) (u.1 0) = od_w u (d / 3) (d % 3) := fun d h => (f5 d (pl_d31 h10 h)).trans (hW d h)
  have x2 : ∀ b, b < u.1 0 → fl_sum (fun d => tk_x u d b) 31 ≤ fr_of u b := fun b hb => by
    have h1 := f4 b hb
    unfold tk_col at h1
    unfold fr_of
    omega
  have x3 : ∀ d, cvd u d → ∀ b, b < u.1 0 → 0 < tk_x u d b → (cmk u d).testBit b = true := fun d h b hb hp => by
    rw [← hmk d (pl_d31 h10 h) h]
    exact f6 d (pl_d31 h10 h) b hb hp
  refine ⟨x1, x2, x3, fun D e he i a hi ha hma k hk => ?_⟩
  have hcd := he.1 i hi
  have hd31 := pl_d31 h10 hcd
  have x0 : ∀ f, f < 31 → ¬ cvd u f → ∀ b, b < u.1 0 → tk_x u f b = 0 := fun f hf h b hb => by
    have h1 := fl_sum_one (tk_x u f) hb
    rw [f5 f hf, hW0 f h] at h1
    omega
  have han : a ≠ 4294967295 := by omega
  have hBa : ¬ bfr (u.2 10) a a := fun q => kx_irr (q.resolve_left han)
  have hba := bf_a (w := u) (X := tk_x u) (d := e i) ha hn
  rw [x1 _ hcd] at hba
  have hbW : bf_s u (tk_x u) (e i) (bfr (u.2 10) a) ≤ od_w u (e i / 3) (e i % 3) := by omega
  have hmi : pn_m u (tk_x u) e i (bfr (u.2 10) a) i = (od_w u (e i / 3) (e i % 3) : Int) - (bf_s u (tk_x u) (e i) (bfr (u.2 10) a) : Int) := by
    unfold pn_m
    rw [if_neg (Nat.lt_irrefl i), if_pos rfl]
  -- what an arrival still has
  have hsp : ∀ b, b < u.1 0 → fl_sum (fun d => tk_x u d b) 31 = PB u (tk_x u) (e i) b + tk_x u (e i) b + PA u (tk_x u) (e i) b := fun b hb => sp_3 hd31 hcd (fun f hf h => x0 f hf h b hb)
  have hpif : ∀ b, pif (bfr (u.2 10) a b) (tk_x u (e i) b) 0 ≤ tk_x u (e i) b := fun b => by
    by_cases q : bfr (u.2 10) a b
    · rw [pif_pos q]
      exact Nat.le_refl _
    · rw [pif_neg q]
      exact Nat.zero_le _
  have hph : ∀ b, b < u.1 0 → pn_h u (tk_x u) e i (bfr (u.2 10) a) b = (hN u (tk_x u) (e i) (bfr (u.2 10) a) b : Int) := fun b hb => by
    unfold pn_h hN
    rw [pb_eq he h10 hi]
    have h1 := x2 b hb
    have h2 := hsp b hb
    have h3 := hpif b
    omega
  have hSS : ∀ S : Nat, il_sum (fun b => if S.testBit b then pn_h u (tk_x u) e i (bfr (u.2 10) a) b else 0) (u.1 0) = (fl_sum (fun b => if S.testBit b then hN u (tk_x u) (e i) (bfr (u.2 10) a) b else 0) (u.1 0) : Int) := fun S => il_nat fun b hb => by
    rw [hph b hb]
    split <;> rfl
  -- each bound is at least what the plan takes
  have lo1 : (tk_x u (e i) a : Int) ≤ pn_m u (tk_x u) e i (bfr (u.2 10) a) i := by
    rw [hmi]
    omega
  have lo2 : (tk_x u (e i) a : Int) ≤ pn_h u (tk_x u) e i (bfr (u.2 10) a) a := by
    rw [hph a ha]
    unfold hN
    rw [pif_neg hBa]
    have h1 := x2 a ha
    have h2 := hsp a ha
    omega
  have lo3 : ∀ S : Nat, S.testBit a = true → cmk u (e i) &&& (S ^^^ 4294967295) ≠ 0 → (tk_x u (e i) a : Int) ≤ pn_sl u (tk_x u) e D i (bfr (u.2 10) a) S := fun S hSa hSm => by
    unfold pn_sl
    rw [hSS S, pn_D he h10 hi hbW S hSm]
    have g1 : fl_sum (fun b => if S.testBit b then (if b = a then tk_x u (e i) a else 0) + PA u (tk_x u) (e i) b else 0) (u.1 0) ≤ fl_sum (fun b => if S.testBit b then hN u (tk_x u) (e i) (bfr (u.2 10) a) b else 0) (u.1 0) := fl_sum_le fun b hb => by
      split
      · unfold hN
        have h1 := x2 b hb
        have h2 := hsp b hb
        by_cases q : b = a
        · subst q
          rw [if_pos rfl, pif_neg hBa]
          omega
        · rw [if_neg q]
          have h3 := hpif b
          omega
      · exact Nat.le_refl _
    have g2 : fl_sum (fun b => if S.testBit b then (if b = a then tk_x u (e i) a else 0) + PA u (tk_x u) (e i) b else 0) (u.1 0) = fl_sum (fun b => if b = a then tk_x u (e i) a else 0) (u.1 0) + fl_sum (fun b => if S.testBit b then PA u (tk_x u) (e i) b else 0) (u.1 0) := by
      rw [← fl_sum_add]
      refine fl_sum_congr fun b _ => ?_
      by_cases q : S.testBit b = true
      · rw [if_pos q, if_pos q]
      · rw [if_neg q, if_neg q, if_neg (fun z => q (by rw [z]; exact hSa))]
    have g3 : fl_sum (fun b => if b = a then tk_x u (e i) a else 0) (u.1 0) = tk_x u (e i) a := by
      have := fl_sum_rest (f := fun b => if b = a then tk_x u (e i) a else 0) (g := fun _ => 0) ha (fun j _ hj => if_neg hj)
      rw [fl_sum_zero, if_pos rfl] at this
      omega
    have g4 : fl_sum (fun b => if S.testBit b then PA u (tk_x u) (e i) b else 0) (u.1 0) = fl_sum (fun f => pif (cvd u f ∧ pbf u (e i) f) (fl_sum (fun b => if S.testBit b then tk_x u f b else 0) (u.1 0)) 0) 31 := fl_in_sum
    have g5 : fl_sum (fun f => pif (cvd u f ∧ pbf u (e i) f) (if cmk u f &&& (S ^^^ 4294967295) = 0 then od_w u (f / 3) (f % 3) else 0) 0) 31 ≤ fl_sum (fun f => pif (cvd u f ∧ pbf u (e i) f) (fl_sum (fun b => if S.testBit b then tk_x u f b else 0) (u.1 0)) 0) 31 := fl_sum_le fun f hf => pif_mono fun q => by
      by_cases z : cmk u f &&& (S ^^^ 4294967295) = 0
      · rw [if_pos z, ← x1 f q.1]
        refine fl_sum_le fun b hb => ?_
        by_cases z2 : 0 < tk_x u f b
        · rw [if_pos ((mk_sub hM hf).mp z b (x3 f q.1 b hb z2))]
          exact Nat.le_refl _
        · omega
      · rw [if_neg z]
        exact Nat.zero_le _
    omega
  have hge : (tk_x u (e i) a : Int) ≤ k := by
    rcases hk.2 with q | q | ⟨S, s1, s2, s3, s4⟩
    · rw [q]; exact lo1
    · rw [q]; exact lo2
    · rw [s4]; exact lo3 S s2 s3
  -- and one of them is no more
  obtain ⟨t, ht, hta⟩ := kx_all f2 ha
  have hlate : (∀ z, t < z → z < u.1 0 → tk_x u (e i) (u.2 20 z) = 0) → k ≤ (tk_x u (e i) a : Int) := fun hz => by
    have h1 := hk.1.1
    rw [hmi] at h1
    have h2 := bf_put (w := u) (X := tk_x u) (d := e i) (B := bfr (u.2 10) a) ha hBa
    have h3 : bf_s u (tk_x u) (e i) (fun b => bfr (u.2 10) a b ∨ b = a) = fl_sum (tk_x u (e i)) (u.1 0) := fl_sum_congr fun b hb => by
      by_cases q : bfr (u.2 10) a b ∨ b = a
      · rw [pif_pos q]
      · rw [pif_neg q]
        obtain ⟨z, z1, z2⟩ := kx_all f2 hb
        have h4 : kx_lt (u.2 10) a b := by
          rcases kx_tri (K := u.2 10) a b with r | r | r
          · exact r
          · exact absurd (Or.inr r.symm) q
          · exact absurd (Or.inl (Or.inr r)) q
        rw [← z2]
        exact (hz z (kx_tot f2 ht z1 (by rw [hta, z2]; exact h4)) z1).symm
    rw [x1 _ hcd] at h3
    omega
  have hle : k ≤ (tk_x u (e i) a : Int) := by
    rcases hpl (e i) hd31 hcd t ht (by rw [hmk _ hd31 hcd, hta]; exact hma) with ⟨y, T, y1, y2, y3, y4, y5, y6⟩ | hz
    · rw [hta] at y5
      have hbT := bm_bit (R := T) (u.1 0)
      by_cases hsubT : cmk u (e i) &&& (bm T (u.1 0) ^^^ 4294967295) = 0
      · refine hlate fun z z1 z2 => ?_
        by_cases q : 0 < tk_x u (e i) (u.2 20 z)
        · have h1 := (mk_sub hM hd31).mp hsubT _ (x3 _ hcd _ (f2.1 z z2) q)
          exact y6 z z1 z2 ((hbT _).mp h1).2
        · omega
      · have hSa : (bm T (u.1 0)).testBit a = true := (hbT a).mpr ⟨ha, y5⟩
        have h1 := hk.1.2.2 (bm T (u.1 0)) (bm_lt T _) hSa hsubT
        refine Int.le_trans h1 ?_
        unfold pn_sl
        rw [hSS, pn_D he h10 hi hbW _ hsubT]
        generalize hSd : bm T (u.1 0) = S at *
        have y0 : ∀ f, f < 31 → ¬ cvd u f → ∀ b, b < u.1 0 → y f b = 0 := fun f hf h b hb => by
          have h1 := fl_sum_one (y f) hb
          rw [y1.1 f hf, hW0 f h] at h1
          omega
        have g1 : ∀ b, b < u.1 0 → S.testBit b = true → hN u (tk_x u) (e i) (bfr (u.2 10) a) b = (if b = a then tk_x u (e i) a else 0) + PA u y (e i) b := fun b hb hSb => by
          have hTb := ((hbT b).mp hSb).2
          have h2 := y3 b hb hTb
          have h3 : fl_sum (fun e => y e b) 31 = fl_sum (fun f => pif (cvd u f ∧ pbf u f (e i)) (y f b) 0) 31 + y (e i) b + PA u y (e i) b := sp_3 hd31 hcd (fun f hf h => y0 f hf h b hb)
          have h4 : fl_sum (fun f => pif (cvd u f ∧ pbf u f (e i)) (y f b) 0) 31 = PB u (tk_x u) (e i) b := fl_sum_congr fun f hf => by
            by_cases q : cvd u f ∧ pbf u f (e i)
            · rw [pif_pos q, pif_pos q]
              exact y2 f hf q.1 (Or.inl q.2) b hb
            · rw [pif_neg q, pif_neg q]
          have h5 : y (e i) b = tk_x u (e i) b := y2 (e i) hd31 hcd (Or.inr rfl) b hb
          have hfr : fr_of u b = u.2 12 b - u.2 13 b := rfl
          unfold hN
          by_cases q : b = a
          · subst q
            rw [if_pos rfl, pif_neg hBa]
            omega
          · rw [if_neg q]
            by_cases q2 : bfr (u.2 10) a b
            · rw [pif_pos q2]
              omega
            · rw [pif_neg q2]
              have h6 : tk_x u (e i) b = 0 := by
                obtain ⟨z, z1, z2⟩ := kx_all f2 hb
                have h7 : kx_lt (u.2 10) a b := by
                  rcases kx_tri (K := u.2 10) a b with r | r | r
                  · exact r
                  · exact absurd r.symm q
                  · exact absurd (Or.inr r) q2
                rw [← z2]
                exact y6 z (kx_tot f2 ht z1 (by rw [hta, z2]; exact h7)) z1 (by rw [z2]; exact hTb)
              omega
        have g2 : fl_sum (fun b => if S.testBit b then hN u (tk_x u) (e i) (bfr (u.2 10) a) b else 0) (u.1 0) = fl_sum (fun b => if b = a then tk_x u (e i) a else 0) (u.1 0) + fl_sum (fun b => if S.testBit b then PA u y (e i) b else 0) (u.1 0) := by
          rw [← fl_sum_add]
          refine fl_sum_congr fun b hb => ?_
          by_cases q : S.testBit b = true
          · rw [if_pos q, if_pos q]
            exact g1 b hb q
          · rw [if_neg q, if_neg q, if_neg (fun z => q (by rw [z]; exact hSa))]
        have g3 : fl_sum (fun b => if b = a then tk_x u (e i) a else 0) (u.1 0) = tk_x u (e i) a := by
          have := fl_sum_rest (f := fun b => if b = a then tk_x u (e i) a else 0) (g := fun _ => 0) ha (fun j _ hj => if_neg hj)
          rw [fl_sum_zero, if_pos rfl] at this
          omega
        have g4 : fl_sum (fun b => if S.testBit b then PA u y (e i) b else 0) (u.1 0) = fl_sum (fun f => pif (cvd u f ∧ pbf u (e i) f) (fl_sum (fun b => if S.testBit b then y f b else 0) (u.1 0)) 0) 31 := fl_in_sum
        have g5 : fl_sum (fun f => pif (cvd u f ∧ pbf u (e i) f) (fl_sum (fun b => if S.testBit b then y f b else 0) (u.1 0)) 0) 31 ≤ fl_sum (fun f => pif (cvd u f ∧ pbf u (e i) f) (if cmk u f &&& (S ^^^ 4294967295) = 0 then od_w u (f / 3) (f % 3) else 0) 0) 31 := fl_sum_le fun f hf => pif_mono fun q => by
          by_cases z : cmk u f &&& (S ^^^ 4294967295) = 0
          · rw [if_pos z, ← hW f q.1, ← y1.1 f hf]
            refine fl_sum_le fun b _ => ?_
            split <;> omega
          · rw [if_neg z]
            refine Nat.le_of_eq (fl_sum_zero_of fun b hb => ?_)
            by_cases z2 : S.testBit b = true
            · rw [if_pos z2]
              refine Nat.eq_zero_of_not_pos fun z3 => z ((mk_sub hM hf).mpr fun c hcc => ?_)
              have hTc := y4 f hf q.1 q.2 b hb ((hbT b).mp z2).2 z3 c (by rw [hmk f hf q.1]; exact hcc)
              exact (hbT c).mpr ⟨us_f_lt hcc, hTc⟩
            · rw [if_neg z2]
        omega
    · exact hlate hz
  omega
