/-! which orders are covered -/
def fr_of (u : pf_S) : Nat → Nat := fun b => u.2 12 b - u.2 13 b
def cvb (u : pf_S) (d : Nat) : Bool := decide (d / 3 < u.1 1) && (decide (u.2 18 (d / 3) = 0) && decide (d % 3 < od_n u (d / 3)))
theorem cvb_iff {u : pf_S} {d : Nat} : cvb u d = true ↔ cvd u d := by
  unfold cvb cvd
  simp
def klb (K : Nat → Nat) (a b : Nat) : Bool := decide (K a < K b) || (decide (K a = K b) && decide (a < b))
theorem klb_iff {K : Nat → Nat} {a b : Nat} : klb K a b = true ↔ kx_lt K a b := by
  unfold klb kx_lt
  simp
/-- the arrivals of the d-th demand, by its order -/
def cmk (u : pf_S) (d : Nat) : Nat := us_f u (gd_dg u (u.2 15 (d / 3)) (d % 3)) (u.2 14 (d / 3))
/-- what covered orders want -/
def cv_W (u : pf_S) : Nat → Nat := fun d => if cvb u d then od_w u (d / 3) (d % 3) else 0
/-- what order a wants with the covered ones before it -/
def cw_W (u : pf_S) (a : Nat) : Nat → Nat := fun d => if (decide (d / 3 = a) && decide (d % 3 < od_n u a)) || (cvb u d && klb (u.2 17) (d / 3) a) then od_w u (d / 3) (d % 3) else 0
def so_spec (u : pf_S) (a : Nat) : Prop := (u.2 18 a = 0 ∧ Feas (u.1 0) (fr_of u) (cw_W u a) (cmk u)) ∨ (u.2 18 a = 1 ∧ ¬ Feas (u.1 0) (fr_of u) (cw_W u a) (cmk u))
theorem Feas_congr {n : Nat} {fr W1 W2 M1 M2 : Nat → Nat} (h : Feas n fr W1 M1) (hW : ∀ d, d < 31 → W1 d = W2 d) (hM : ∀ d, d < 31 → 0 < W1 d → M1 d = M2 d) : Feas n fr W2 M2 := by
  obtain ⟨y, y1, y2, y3⟩ := h
  refine ⟨y, fun d hd => (y1 d hd).trans (hW d hd), fun d hd a ha hp => ?_, y3⟩
  have h0 : 0 < W1 d := by
    rw [← y1 d hd]
    exact Nat.lt_of_lt_of_le hp (fl_sum_one _ ha)
  rw [← hM d hd h0]
  exact y2 d hd a ha hp
theorem fs_congr {u : pf_S} {W1 W2 : Nat → Nat} (h : fs u W1) (hW : ∀ d, d < 31 → W1 d = W2 d) : fs u W2 := ⟨h.1, h.2.1, h.2.2.1, h.2.2.2.1, fun d hd => (h.2.2.2.2.1 d hd).trans (hW d hd), h.2.2.2.2.2⟩
theorem fs_feas {u : pf_S} {Wt : Nat → Nat} (h : fs u Wt) : Feas (u.1 0) (fr_of u) Wt (u.2 23) := ⟨tk_x u, h.2.2.2.2.1, h.2.2.2.2.2, fun a ha => by
  have := h.2.2.2.1 a ha
  unfold tk_col at this
  show _ ≤ u.2 12 a - u.2 13 a
  omega⟩
/-- all but the states and the takings -/
def se_same (u v : pf_S) : Prop := v.1 0 = u.1 0 ∧ v.1 1 = u.1 1 ∧ ∀ j, j < 20 → j ≠ 18 → v.2 j = u.2 j
theorem se_same.tr {u v w : pf_S} (h : se_same u v) (g : se_same v w) : se_same u w := ⟨g.1.trans h.1, g.2.1.trans h.2.1, fun j h1 h2 => (g.2.2 j h1 h2).trans (h.2.2 j h1 h2)⟩
theorem se_of {u v : pf_S} (h : jo_same u v) : se_same u v := ⟨by rw [h.1], by rw [h.1], fun j h1 _ => h.2 j (by simp; omega)⟩
theorem se_n {u v : pf_S} (h : se_same u v) (a : Nat) : od_n v a = od_n u a := by
  unfold od_n gd_dn
  rw [h.2.2 7 (by decide) (by decide), h.2.2 15 (by decide) (by decide)]
theorem se_w {u v : pf_S} (h : se_same u v) (a x : Nat) : od_w v a x = od_w u a x := by
  unfold od_w gd_d1
  rw [h.2.2 7 (by decide) (by decide), h.2.2 15 (by decide) (by decide), h.2.2 16 (by decide) (by decide), h.2.2 9 (by decide) (by decide)]
theorem se_uf {u v : pf_S} (h : se_same u v) (g t : Nat) : us_f v g t = us_f u g t := by
  have hc : ∀ a, us_c v g t a = us_c u g t a := fun a => by
    unfold us_c
    rw [h.2.2 5 (by decide) (by decide), h.2.2 6 (by decide) (by decide), h.2.2 10 (by decide) (by decide), h.2.2 11 (by decide) (by decide)]
  have hm : ∀ i, us_m v g t i = us_m u g t i := by
    intro i
    induction i with
    | zero => rfl
    | succ i ih => rw [us_m_succ, us_m_succ, hc, ih]
  unfold us_f
  rw [hm, h.1]
theorem se_m {u v : pf_S} (h : se_same u v) (d : Nat) : cmk v d = cmk u d := by
  unfold cmk
  rw [se_uf h, h.2.2 15 (by decide) (by decide), h.2.2 14 (by decide) (by decide)]
  congr 1
  unfold gd_dg
  rw [h.2.2 7 (by decide) (by decide), h.2.2 8 (by decide) (by decide)]
theorem se_st {u v : pf_S} (h : se_same u v) (hs : pf_st u) (h18 : ∀ a, a < 10 → v.2 18 a ≤ 2) : pf_st v := by
  have a : ∀ j, j < 20 → j ≠ 18 → v.2 j = u.2 j := h.2.2
  have e1 : gd_ok v ↔ gd_ok u := by unfold gd_ok; rw [a 5 (by decide) (by decide), a 6 (by decide) (by decide), a 7 (by decide) (by decide), a 8 (by decide) (by decide), a 9 (by decide) (by decide)]
  have e2 : ar_ok v ↔ ar_ok u := by unfold ar_ok; rw [h.1, a 10 (by decide) (by decide), a 11 (by decide) (by decide), a 12 (by decide) (by decide), a 13 (by decide) (by decide)]
  obtain ⟨o1, o2, o3, o4, o5, o6, o7⟩ := hs.2.2
  refine ⟨e1.mpr hs.1, e2.mpr hs.2.1, by rw [h.2.1]; exact o1, by rw [a 14 (by decide) (by decide)]; exact o2, by rw [a 15 (by decide) (by decide)]; exact o3, by rw [a 16 (by decide) (by decide)]; exact o4, by rw [a 17 (by decide) (by decide)]; exact o5, h18, by rw [h.2.1, a 17 (by decide) (by decide), a 19 (by decide) (by decide)]; exact o7⟩
/-- the spec of an order's state depends on the states before it alone -/
theorem so_keep {u v : pf_S} {a : Nat} (h : so_spec u a) (hs : se_same u v) (ha : v.2 18 a = u.2 18 a) (hb : ∀ b, b < u.1 1 → kx_lt (u.2 17) b a → v.2 18 b = u.2 18 b) : so_spec v a := by
  have h17 : v.2 17 = u.2 17 := hs.2.2 17 (by decide) (by decide)
  have e1 : cw_W v a = cw_W u a := by
    funext d
    unfold cw_W
    rw [se_n hs, se_w hs, h17]
    by_cases q : klb (u.2 17) (d / 3) a = true
    · have : cvb v d = cvb u d := by
        unfold cvb
        rw [hs.2.1, se_n hs]
        by_cases q2 : d / 3 < u.1 1
        · rw [hb (d / 3) q2 (klb_iff.mp q)]
        · simp [q2]
      rw [this]
    · rw [Bool.eq_false_iff.mpr q, Bool.and_false, Bool.and_false]
  have e2 : cmk v = cmk u := funext (se_m hs)
  have e3 : fr_of v = fr_of u := by
    funext b
    unfold fr_of
    rw [hs.2.2 12 (by decide) (by decide), hs.2.2 13 (by decide) (by decide)]
  unfold so_spec
  rw [e1, e2, e3, hs.1, ha]
  exact h
def st_inv (u : pf_S) (i : Nat) (Wt : Nat → Nat) (v : pf_S) : Prop := se_same u v ∧ pf_st v ∧ fs v Wt ∧ (∀ d, d < 31 → (cvd v d ∧ ∃ j, j < i ∧ u.2 19 j = d / 3) → Wt d = od_w v (d / 3) (d % 3) ∧ v.2 23 d = cmk v d) ∧ (∀ d, d < 31 → ¬ (cvd v d ∧ ∃ j, j < i ∧ u.2 19 j = d / 3) → Wt d = 0) ∧
  (∀ j, j < i → (u.2 18 (u.2 19 j) ≠ 2 → so_spec v (u.2 19 j)) ∧ (u.2 18 (u.2 19 j) = 2 → v.2 18 (u.2 19 j) = 2)) ∧ ∀ j, i ≤ j → j < u.1 1 → v.2 18 (u.2 19 j) = u.2 18 (u.2 19 j)
theorem st_closed {u v : pf_S} {i : Nat} {Wt : Nat → Nat} (h : st_inv u i Wt v) (hi : i < u.1 1) (hc : v.2 18 (u.2 19 i) = 2) : st_inv u (i + 1) Wt v := by
  obtain ⟨h1, h2, h3, h4, h5, h6, h7⟩ := h
  have he : ∀ d, cvd v d → ((∃ j, j < i + 1 ∧ u.2 19 j = d / 3) ↔ ∃ j, j < i ∧ u.2 19 j = d / 3) := by
    intro d hd
    constructor
    · rintro ⟨j, j1, j2⟩
      refine ⟨j, ?_, j2⟩
      by_cases q : j = i
      · rw [q] at j2
        have := hd.2.1
        rw [← j2, hc] at this
        cases this
      · omega
    · rintro ⟨j, j1, j2⟩
      exact ⟨j, by omega, j2⟩
  refine ⟨h1, h2, h3, fun d hd hq => h4 d hd ⟨hq.1, (he d hq.1).mp hq.2⟩, fun d hd hq => h5 d hd (fun s => hq ⟨s.1, (he d s.1).mpr s.2⟩), fun j hj => ?_, fun j h8 h9 => h7 j (by omega) h9⟩
  by_cases q : j = i
  · rw [q]
    refine ⟨fun s => absurd ?_ s, fun _ => hc⟩
    rw [← h7 i (Nat.le_refl _) hi]
    exact hc
  · exact h6 j (by omega)
theorem st_join {u v w z : pf_S} {i a k x : Nat} {Wt : Nat → Nat} (hst : pf_st u) (h : st_inv u i Wt v) (hi : i < u.1 1) (ha : u.2 19 i = a) (hnc : v.2 18 a ≠ 2) (hj : jo_post v Wt a k w) (hx : (k = 1 ∧ x = 0) ∨ (k = 0 ∧ x = 1)) (hz : z = (w.1, up2 w.2 18 a x)) : ∃ Wt2, st_inv u (i + 1) Wt2 z := by
  obtain ⟨h1, h2, h3, h4, h5, h6, h7⟩ := h
  have hrow : kx_row (u.2 17) (u.1 1) (u.2 19) := hst.2.2.2.2.2.2.2.2
  have han : a < u.1 1 := by rw [← ha]; exact hrow.1 i hi
  have hn10 : u.1 1 ≤ 10 := hst.2.2.1
  have zk : ∀ j, j ≠ 18 → z.2 j = w.2 j := fun j hj => by rw [hz]; exact up2_ne w.2 hj
  have z1 : z.1 = w.1 := by rw [hz]
  have z18 : ∀ b, z.2 18 b = if b = a then x else w.2 18 b := fun b => by rw [hz]; show up2 w.2 18 a x 18 b = _; rw [up2_at]
  have vw : se_same v w := se_of hj.1
  have w18 : w.2 18 = v.2 18 := hj.1.2 18 (by decide)
  have wz : se_same w z := ⟨by rw [z1], by rw [z1], fun j _ h => zk j h⟩
  have vz : se_same v z := vw.tr wz
  have uz : se_same u z := h1.tr vz
  have hfz : ∀ W0, fs w W0 → fs z W0 := by
    intro W0 hf
    obtain ⟨f1, f2, f3, f4, f5, f6⟩ := hf
    have hX : ∀ e b, tk_x z e b = tk_x w e b := tk_x_of (zk 22 (by decide))
    refine ⟨by rw [z1]; exact f1, by rw [z1, zk 10 (by decide), zk 20 (by decide)]; exact f2, fun e he b hb => by rw [zk 23 (by decide)] at hb; rw [z1]; exact f3 e he b hb, fun b hb => ?_, fun e he => ?_, fun e he b hb hp => ?_⟩
    · rw [z1] at hb
      unfold tk_col
      rw [zk 21 (by decide), zk 12 (by decide), zk 13 (by decide), show (fun e => tk_x z e b) = fun e => tk_x w e b from funext fun e => hX e b]
      exact f4 b hb
    · rw [z1, show tk_x z e = tk_x w e from funext (hX e)]
      exact f5 e he
    · rw [z1] at hb
      rw [hX] at hp
      rw [zk 23 (by decide)]
      exact f6 e he b hb hp
  have hzst : pf_st z := by
    refine se_st vz h2 (fun b hb => ?_)
    rw [z18 b]
    split
    · omega
    · rw [w18]
      exact h2.2.2.2.2.2.2.2.1 b hb
  -- which demands are covered now
  have hcz : ∀ d, d / 3 ≠ a → (cvd z d ↔ cvd v d) := by
    intro d hd
    unfold cvd
    rw [vz.2.1, se_n vz, z18, if_neg hd, w18]
  have hcza : ∀ d, d / 3 = a → (cvd z d ↔ x = 0 ∧ d % 3 < od_n v a) := by
    intro d hd
    unfold cvd
    rw [vz.2.1, se_n vz, z18, if_pos hd, hd, h1.2.1]
    exact ⟨fun s => s.2, fun s => ⟨han, s⟩⟩
  have hpr : ∀ d, d / 3 ≠ a → ((∃ j, j < i + 1 ∧ u.2 19 j = d / 3) ↔ ∃ j, j < i ∧ u.2 19 j = d / 3) := by
    intro d hd
    constructor
    · rintro ⟨j, j1, j2⟩
      refine ⟨j, ?_, j2⟩
      by_cases q : j = i
      · rw [q, ha] at j2
        exact absurd j2.symm hd
      · omega
    · rintro ⟨j, j1, j2⟩
      exact ⟨j, by omega, j2⟩
  have hpa : ¬ ∃ j, j < i ∧ u.2 19 j = a := by
    rintro ⟨j, j1, j2⟩
    exact kx_ne hrow j1 hi (by rw [j2, ha])
  have hWa : ∀ d, d < 31 → d / 3 = a → Wt d = 0 := fun d hd hda => h5 d hd (fun s => hpa (by rw [hda] at s; exact s.2))
  -- what a wants with the covered ones before it
  have hcw : ∀ d, d < 31 → jo_W v Wt a (od_n v a) d = cw_W z a d := by
    intro d hd
    unfold jo_W cw_W
    rw [se_n vz, se_w vz]
    by_cases q : d / 3 = a
    · by_cases q2 : d % 3 < od_n v a
      · rw [if_pos ⟨q, q2⟩, if_pos (by simp [q, q2]), q]
      · rw [if_neg (fun s => q2 s.2), if_neg, hWa d hd q]
        rw [q]
        have : klb (z.2 17) a a = false := Bool.eq_false_iff.mpr (fun s => by have := klb_iff.mp s; unfold kx_lt at this; omega)
        simp [q2, this]
    · rw [if_neg (fun s => q s.1)]
      have hz17 : z.2 17 = u.2 17 := uz.2.2 17 (by decide) (by decide)
      by_cases q2 : cvd v d ∧ ∃ j, j < i ∧ u.2 19 j = d / 3
      · rw [(h4 d hd q2).1, if_pos]
        have c1 : cvb z d = true := cvb_iff.mpr ((hcz d q).mpr q2.1)
        obtain ⟨j, j1, j2⟩ := q2.2
        have c2 : klb (z.2 17) (d / 3) a = true := klb_iff.mpr (by rw [hz17, ← j2, ← ha]; exact hrow.2 j i j1 hi)
        simp [c1, c2]
      · rw [h5 d hd q2, if_neg]
        intro s
        simp [q] at s
        refine q2 ⟨(hcz d q).mp (cvb_iff.mp s.1), ?_⟩
        have c1 := (hcz d q).mp (cvb_iff.mp s.1)
        have c2 := klb_iff.mp s.2
        rw [hz17] at c2
        obtain ⟨j, j1, j2⟩ := kx_all hrow (show d / 3 < u.1 1 by rw [← h1.2.1]; exact c1.1)
        refine ⟨j, ?_, j2⟩
        rw [← j2, ← ha] at c2
        exact kx_tot hrow j1 hi c2
  have hmk : ∀ d, d < 31 → 0 < jo_W v Wt a (od_n v a) d → jo_M v a (od_n v a) d = cmk z d := by
    intro d hd h0
    unfold jo_W at h0
    unfold jo_M
    rw [se_m vz]
    by_cases q : d / 3 = a ∧ d % 3 < od_n v a
    · rw [if_pos q]
      unfold cmk
      rw [q.1]
    · rw [if_neg q] at h0 ⊢
      by_cases q2 : cvd v d ∧ ∃ j, j < i ∧ u.2 19 j = d / 3
      · exact (h4 d hd q2).2
      · rw [h5 d hd q2] at h0
        cases h0
  have hfr : fr_of z = fr_of v := by
    funext b
    unfold fr_of
    rw [vz.2.2 12 (by decide) (by decide), vz.2.2 13 (by decide) (by decide)]
  have hkeep : ∀ j, j < i → u.2 18 (u.2 19 j) ≠ 2 → so_spec z (u.2 19 j) := by
    intro j hj1 hj2
    have hne : ∀ b, kx_lt (u.2 17) b (u.2 19 j) ∨ b = u.2 19 j → b ≠ a := by
      rintro b hb rfl
      rcases hb with hb | hb
      · rw [← ha] at hb
        have := kx_tot hrow hi (by omega) hb
        omega
      · exact kx_ne hrow hj1 hi (by rw [ha]; exact hb.symm)
    refine so_keep ((h6 j hj1).1 hj2) vz ?_ (fun b _ hb => ?_)
    · rw [z18, if_neg (hne _ (Or.inr rfl)), w18]
    · rw [h1.2.2 17 (by decide) (by decide)] at hb
      rw [z18, if_neg (hne b (Or.inl hb)), w18]
  have hlast : ∀ j, i + 1 ≤ j → j < u.1 1 → z.2 18 (u.2 19 j) = u.2 18 (u.2 19 j) := by
    intro j hj1 hj2
    rw [z18, if_neg (fun q => kx_ne hrow (show i < j by omega) hj2 (by rw [ha]; exact q.symm)), w18]
    exact h7 j (by omega) hj2
  have hcl : ∀ j, j < i + 1 → u.2 18 (u.2 19 j) = 2 → z.2 18 (u.2 19 j) = 2 := by
    intro j hj1 hj2
    by_cases q : j = i
    · exfalso
      rw [q] at hj2
      rw [← h7 i (Nat.le_refl _) hi, ha] at hj2
      exact hnc hj2
    · rw [z18, if_neg (fun s => kx_ne hrow (show j < i by omega) hi (by rw [ha]; exact s)), w18]
      exact (h6 j (by omega)).2 hj2
  have hspec : so_spec z a → (∀ j, j < i + 1 → (u.2 18 (u.2 19 j) ≠ 2 → so_spec z (u.2 19 j)) ∧ (u.2 18 (u.2 19 j) = 2 → z.2 18 (u.2 19 j) = 2)) := by
    intro hs j hj1
    refine ⟨fun h8 => ?_, hcl j hj1⟩
    by_cases q : j = i
    · rw [q, ha]
      exact hs
    · exact hkeep j (by omega) h8
  rcases hj.2 with ⟨k1, k2, k3⟩ | ⟨k1, k2, k3, -, -, k6⟩
  · have hx0 : x = 0 := by omega
    refine ⟨jo_W v Wt a (od_n v a), uz, hzst, hfz _ k2, fun d hd hq => ?_, fun d hd hq => ?_, hspec (Or.inl ⟨by rw [z18, if_pos rfl, hx0], ?_⟩), hlast⟩
    · rw [se_w vz, se_m vz, zk 23 (by decide), k3 d hd]
      by_cases q : d / 3 = a
      · have q2 := ((hcza d q).mp hq.1).2
        unfold jo_W jo_M cmk
        rw [if_pos ⟨q, q2⟩, if_pos ⟨q, q2⟩, q]
        exact ⟨rfl, rfl⟩
      · unfold jo_W jo_M
        rw [if_neg (fun s => q s.1), if_neg (fun s => q s.1)]
        exact h4 d hd ⟨(hcz d q).mp hq.1, (hpr d q).mp hq.2⟩
    · unfold jo_W
      by_cases q : d / 3 = a
      · rw [if_neg, hWa d hd q]
        rintro ⟨-, s⟩
        exact hq ⟨(hcza d q).mpr ⟨hx0, s⟩, i, Nat.lt_succ_self i, by rw [ha, q]⟩
      · rw [if_neg (fun s => q s.1)]
        exact h5 d hd (fun s => hq ⟨(hcz d q).mpr s.1, (hpr d q).mpr s.2⟩)
    · have hF := fs_feas k2
      have e0 : w.1 0 = z.1 0 := by rw [z1]
      have e1 : fr_of w = fr_of z := by
        funext b
        unfold fr_of
        rw [zk 12 (by decide), zk 13 (by decide)]
      rw [e0, e1] at hF
      exact Feas_congr hF hcw (fun d hd h0 => by rw [k3 d hd]; exact hmk d hd h0)
  · have hx1 : x = 1 := by omega
    refine ⟨Wt, uz, hzst, hfz _ k2, fun d hd hq => ?_, fun d hd hq => ?_, hspec (Or.inr ⟨by rw [z18, if_pos rfl, hx1], fun hF => ?_⟩), hlast⟩
    · by_cases q : d / 3 = a
      · have := ((hcza d q).mp hq.1).1
        omega
      · rw [se_w vz, se_m vz, zk 23 (by decide), k3 d hd q]
        exact h4 d hd ⟨(hcz d q).mp hq.1, (hpr d q).mp hq.2⟩
    · by_cases q : d / 3 = a
      · exact hWa d hd q
      · exact h5 d hd (fun s => hq ⟨(hcz d q).mpr s.1, (hpr d q).mpr s.2⟩)
    · refine k6 ?_
      have e0 : z.1 0 = v.1 0 := vz.1
      rw [e0, hfr] at hF
      exact Feas_congr hF (fun d hd => (hcw d hd).symm) (fun d hd h0 => by
        rw [← hcw d hd] at h0
        exact (hmk d hd h0).symm)
theorem st_start {u v : pf_S} (hst : pf_st u) (h : cl_inv u v ∧ (∀ a, a < u.1 0 → v.2 21 a = u.2 12 a - u.2 13 a) ∧ ∀ j, j < 310 → v.2 22 j = 0) (hus : ∀ d, d < 31 → ∀ a, (u.2 23 d).testBit a = true → a < u.1 0) : st_inv u 0 (fun _ => 0) v := by
  obtain ⟨⟨c1, c2, c3⟩, c4, c5⟩ := h
  have n0 : v.1 0 = u.1 0 := by rw [c1]; rfl
  have n1 : v.1 1 = u.1 1 := by rw [c1]; rfl
  have n2 : v.1 2 = u.1 0 := by rw [c1]; rfl
  have hn := hst.2.1.1
  have hse : se_same u v := ⟨n0, n1, fun j h1 _ => c2 j (by simp; omega)⟩
  have hx : ∀ e a, e < 31 → a < 10 → tk_x v e a = 0 := fun e a he ha => c5 _ (by omega)
  refine ⟨hse, se_st hse hst (fun a ha => by rw [c2 18 (by decide)]; exact hst.2.2.2.2.2.2.2.1 a ha), ⟨by rw [n2, n0], by rw [n0, c2 10 (by decide)]; exact c3, fun d hd a ha => ?_, fun a ha => ?_, fun d hd => ?_, fun d hd a ha hp => ?_⟩, fun d hd hq => ?_, fun _ _ _ => rfl, fun j hj => by omega, fun j _ hj => by rw [c2 18 (by decide)]⟩
  · rw [c2 23 (by decide)] at ha
    rw [n2]
    exact hus d hd a ha
  · rw [n0] at ha
    unfold tk_col
    rw [c4 a ha, c2 12 (by decide), c2 13 (by decide), fl_sum_zero_of (fun e he => hx e a he (by omega))]
    rfl
  · rw [n0]
    exact fl_sum_zero_of fun a ha => hx d a hd (by omega)
  · rw [n0] at ha
    rw [hx d a hd (by omega)] at hp
    cases hp
  · obtain ⟨j, j1, -⟩ := hq.2
    omega
/-- what the class keeps between calls: its covered orders met by the plan -/
def cls (u : pf_S) : Prop := pf_st u ∧ fs u (cv_W u) ∧ (∀ d, d < 31 → cvd u d → u.2 23 d = cmk u d) ∧ ∀ d, d < 31 → cvd u d → pl_ok u (cv_W u) (tk_x u) d
/-- what settling leaves -/
def se_post (u v : pf_S) : Prop := se_same u v ∧ cls v ∧ ∀ a, a < u.1 1 → (u.2 18 a ≠ 2 → so_spec v a) ∧ (u.2 18 a = 2 → v.2 18 a = 2)
/-- a plan of a state with the same arrays behind it is a plan of the other one -/
theorem pl_ok_of {u v : pf_S} {W1 W2 : Nat → Nat} {x : Nat → Nat → Nat} {d : Nat} (h : pl_ok u W1 x d) (hj : jo_same u v) (h23 : v.2 23 = u.2 23) (hW : ∀ d, d < 31 → W1 d = W2 d) : pl_ok v W2 x d := by
  have k : ∀ j, j ∉ [21, 22, 23, 24, 25, 26, 27, 28] → v.2 j = u.2 j := hj.2
  have ec : ∀ e, cvd v e ↔ cvd u e := fun e => by unfold cvd; rw [hj.1, k 18 (by decide), jo_n hj]
  have eb : ∀ e f, pbf v e f ↔ pbf u e f := fun e f => by unfold pbf; rw [k 17 (by decide)]
  have ey : ∀ y, fl_y v W2 y ↔ fl_y u W1 y := fun y => by
    unfold fl_y
    rw [hj.1, h23, k 12 (by decide), k 13 (by decide)]
    exact ⟨fun s => ⟨fun e he => (s.1 e he).trans (hW e he).symm, s.2⟩, fun s => ⟨fun e he => (s.1 e he).trans (hW e he), s.2⟩⟩
  unfold pl_ok at h ⊢
  simp only [ec, eb, ey, hj.1, h23, k 12 (by decide), k 13 (by decide), k 20 (by decide)]
  exact h
theorem se_end {u v w : pf_S} {Wt : Nat → Nat} (hst : pf_st u) (h : st_inv u (u.1 1) Wt v) (hm : mp_post v Wt w) : se_post u w := by
  obtain ⟨h1, h2, h3, h4, h5, h6, h7⟩ := h
  obtain ⟨m1, m2, m3, m4⟩ := hm
  have hrow : kx_row (u.2 17) (u.1 1) (u.2 19) := hst.2.2.2.2.2.2.2.2
  have vw := se_of m1
  have hall : ∀ d, cvd v d → ∃ j, j < u.1 1 ∧ u.2 19 j = d / 3 := fun d hd => kx_all hrow (by rw [← h1.2.1]; exact hd.1)
  have w18 : w.2 18 = v.2 18 := m1.2 18 (by decide)
  have ec : ∀ e, cvd w e ↔ cvd v e := fun e => by unfold cvd; rw [m1.1, w18, jo_n m1]
  have hW : ∀ d, d < 31 → Wt d = cv_W w d := by
    intro d hd
    unfold cv_W
    rw [jo_w m1]
    by_cases q : cvd v d
    · rw [if_pos (cvb_iff.mpr ((ec d).mpr q))]
      exact (h4 d hd ⟨q, hall d q⟩).1
    · rw [if_neg (fun s => q ((ec d).mp (cvb_iff.mp s)))]
      exact h5 d hd (fun s => q s.1)
  refine ⟨h1.tr vw, ⟨pf_st_of m1 h2, fs_congr m3 hW, fun d hd hc => ?_, fun d hd hc => pl_ok_of (m4 d hd ((ec d).mp hc)) m1 m2 hW⟩, fun a ha => ?_⟩
  · rw [m2, se_m vw]
    exact (h4 d hd ⟨(ec d).mp hc, hall d ((ec d).mp hc)⟩).2
  · obtain ⟨j, j1, j2⟩ := kx_all hrow ha
    rw [← j2]
    refine ⟨fun s => so_keep ((h6 j j1).1 s) vw (by rw [w18]) (fun b _ _ => by rw [w18]), fun s => by rw [w18]; exact (h6 j j1).2 s⟩
set_option maxHeartbeats 4000000 in
set_option maxRecDepth 100000 in
theorem c_X4_settle (l : Launch) (G : gw_G) (q : Nat → Nat) (u : pf_S)  (hst : pf_st u) (hus : ∀ d, d < 31 → ∀ a, (u.2 23 d).testBit a = true → a < u.1 0) : gw_MI l yX4_settle cX4_settle 3 (some .int) 5 134 [.ref (q 0)] G (pw G q) u (fun r u1 => ∃ k : Nat, r = nI k ∧ (k = fl_sum (fun a => if u1.2 18 a = 1 then 1 else 0) (u.1 1) ∧ se_post u u1)) := by
  refine gw_entryI (own := RX4) (by decide) rfl (Nat.le_of_ble_eq_true rfl) ?_
  intro p e s m args below meth c A ls C Hh hl
  have hl : lv_has ls 3 [(0, .ref (q 0))] := hl
  refine lv_aload_n C.1 C.2.1 dX4_settle_0 rfl (lv_at hl 0 rfl) ?_
  refine gw_get (Cn := RX4) (T := TX4) (N := 4) C Hh 0 pw_at0 rfl uwX4 3 (by decide) rfl tw_221 rfl dX4_settle_1 ?_
  refine lv_aload_n C.1 C.2.1 dX4_settle_4 rfl (lv_at hl 0 rfl) ?_
  refine gw_get (Cn := RX4) (T := TX4) (N := 4) C Hh 0 pw_at0 rfl uwX4 1 (by decide) rfl tw_219 rfl dX4_settle_5 ?_
  refine gw_fromV (w := pw G q) (u := u) C Hh (gw_runVN (n := 1) (C1 := RX3) [.ref (q 2)] C Hh (c_X3_clear l G q (u)  (by exact hst.2.1) _) tw_406 tw_408 tw_13 tw_70 tw_409 (by decide +kernel) ⟨Nat.le_of_ble_eq_true rfl, Nat.le_of_ble_eq_true rfl⟩ 4 pw_at4 rfl rfl hl.1 (Nat.le_of_ble_eq_true rfl) dX4_settle_8 ⟨Nat.zero_le _, Nat.zero_le _⟩) (fun uc_8 H locs hp_8 Hh => ?_)
  refine lv_iconst (v := nI 0) C.1 C.2.1 dX4_settle_11 (by decide +kernel) ?_
  refine lv_istore_n (lv' := [(1, .int (nI (0))), (0, .ref (q 0))]) C.1 C.2.1 dX4_settle_12 rfl hl (by decide) rfl (fun ls hl => ?_)
  have loop_13 : ∀ (fu : Nat) (i : Nat) (Wt : Nat → Nat) (uc : pf_S) (H : Heap) (locs : List Loc) (ls : Array Slot), (i ≤ u.1 1) → (st_inv u i Wt uc) → u.1 1 - i < fu → gw_H G A s (pw G q uc) H locs → lv_has ls 3 [(0, .ref (q 0)), (1, .int (nI (i)))] → W p l e (gw_rm 5 134) s m args below meth c H locs 0 0 (MQ below (va_Qi (fun r u1 => ∃ k : Nat, r = nI k ∧ (k = fl_sum (fun a => if u1.2 18 a = 1 then 1 else 0) (u.1 1) ∧ se_post u u1)) (gw_at G A (pw G q)) A) args s 0 0 A) (F0 m 13 ls []) := by
    intro fu
    induction fu with
    | zero =>
      intro i Wt uc H locs ls hi hv hmf
      exact absurd hmf (Nat.not_lt_zero _)
    | succ fu ih_13 =>
      intro i Wt uc H locs ls hi hv hmf Hh hl
      have hsc := hv.2.1
      have hn1 : uc.1 1 = u.1 1 := hv.1.2.1
      have h10 := hst.2.2.1
      have e19 : uc.2 19 = u.2 19 := hv.1.2.2 19 (by decide) (by decide)
      refine lv_iload_n C.1 C.2.1 dX4_settle_13 rfl (lv_at hl 1 rfl) ?_
      refine lv_aload_n C.1 C.2.1 dX4_settle_14 rfl (lv_at hl 0 rfl) ?_
      refine gw_get (Cn := RX4) (T := TX4) (N := 4) C Hh 0 pw_at0 rfl uwX4 2 (by decide) rfl tw_220 rfl dX4_settle_15 ?_
      refine gw_getN (Cn := RX2) (T := TX2) (N := 7) C Hh 3 pw_at3 rfl uwX2 0 (by decide) rfl tw_152 rfl dX4_settle_18 ?_
      refine gw_icmp_ge (tgt := 75) C dX4_settle_21 (by decide) (by omega) (by omega) (fun hc_21 => ?_) (fun hc_21 => ?_)
      · skip
        have hin : i = u.1 1 := by omega
        refine lv_aload_n C.1 C.2.1 dX4_settle_75 rfl (lv_at hl 0 rfl) ?_
        refine gw_fromV (w := pw G q) (u := uc) C Hh (gw_runV (n := 0) (C1 := RX4) [] C Hh (c_X4_makePlan l G q (uc) (Wt) (by exact hsc) (by exact hv.2.2.1) (by intro d hd hc; exact (hv.2.2.2.1 d hd ⟨hc, by have q9 := kx_all hst.2.2.2.2.2.2.2.2 (show d / 3 < u.1 1 by rw [← hn1]; exact hc.1); rw [hin]; exact q9⟩).1) _) tw_486 tw_488 tw_28 tw_66 tw_489 (by decide +kernel) ⟨Nat.le_of_ble_eq_true rfl, Nat.le_of_ble_eq_true rfl⟩ 0 pw_at0 rfl rfl hl.1 (Nat.le_of_ble_eq_true rfl) dX4_settle_76 ⟨Nat.zero_le _, Nat.zero_le _⟩) (fun uc_76 H locs hp_76 Hh => ?_)
        have hse : se_post u uc_76 := se_end hst (by rw [← hin]; exact hv) hp_76
        refine lv_aload_n C.1 C.2.1 dX4_settle_79 rfl (lv_at hl 0 rfl) ?_
        refine gw_get (Cn := RX4) (T := TX4) (N := 4) C Hh 0 pw_at0 rfl uwX4 2 (by decide) rfl tw_220 rfl dX4_settle_80 ?_
        refine lv_iconst (v := nI 1) C.1 C.2.1 dX4_settle_83 (by decide +kernel) ?_
        refine gw_fromI (w := pw G q) (u := uc_76) C Hh (gw_runVN (n := 1) (C1 := RX2) [.int (nI (1))] C Hh (c_X2_numberIn l G q (uc_76) (1) (by exact hse.2.1.1.2.2) (by decide) _) tw_235 tw_237 tw_0 tw_69 tw_238 (by decide +kernel) ⟨Nat.le_of_ble_eq_true rfl, Nat.le_of_ble_eq_true rfl⟩ 3 pw_at3 rfl rfl hl.1 (Nat.le_of_ble_eq_true rfl) dX4_settle_84 ⟨Nat.zero_le _, Nat.zero_le _⟩) (fun rc_84 uc_84 H locs hp_84 Hh => ?_)
        obtain ⟨kc_84, rfl, hp_84⟩ := hp_84
        obtain ⟨hk_84, hu_84⟩ := hp_84
        rw [hu_84] at Hh
        clear hu_84
        exact gw_iret (w := pw G q) (u := uc_76) C Hh dX4_settle_87 ⟨_, rfl, by refine ⟨?_, hse⟩; rw [hk_84, hse.1.2.1]⟩
      · skip
        refine lv_aload_n C.1 C.2.1 dX4_settle_24 rfl (lv_at hl 0 rfl) ?_
        refine gw_get (Cn := RX4) (T := TX4) (N := 4) C Hh 0 pw_at0 rfl uwX4 2 (by decide) rfl tw_220 rfl dX4_settle_25 ?_
        refine gw_getN (Cn := RX2) (T := TX2) (N := 7) C Hh 3 pw_at3 rfl uwX2 6 (by decide) rfl tw_163 rfl dX4_settle_28 ?_
        refine lv_iload_n C.1 C.2.1 dX4_settle_31 rfl (lv_at hl 1 rfl) ?_
        refine gw_ld C Hh 19 pw_at19 (by decide) dX4_settle_32 (by omega) ?_
        rw [e19]
        refine lv_istore_n (lv' := [(2, .int (nI (u.2 19 i))), (0, .ref (q 0)), (1, .int (nI (i)))]) C.1 C.2.1 dX4_settle_33 rfl hl (by decide) rfl (fun ls hl => ?_)
        have join_69 : ∀ (Wt2 : Nat → Nat) (ud : pf_S) (H : Heap) (locs : List Loc) (ls : Array Slot), (st_inv u (i + 1) Wt2 ud) → gw_H G A s (pw G q ud) H locs → lv_has ls 3 [(0, .ref (q 0)), (1, .int (nI (i)))] → W p l e (gw_rm 5 134) s m args below meth c H locs 0 0 (MQ below (va_Qi (fun r u1 => ∃ k : Nat, r = nI k ∧ (k = fl_sum (fun a => if u1.2 18 a = 1 then 1 else 0) (u.1 1) ∧ se_post u u1)) (gw_at G A (pw G q)) A) args s 0 0 A) (F0 m 69 ls []) := by
          intro Wt2 ud H locs ls hv2 Hh hl
          refine lv_iinc (v := nI (i + 1)) (lv' := [(1, .int (nI (i + 1))), (0, .ref (q 0))]) C.1 C.2.1 dX4_settle_69 hl (k := 1) rfl (nI_add _ 1) (by decide) rfl (fun ls hl => ?_)
          refine lv_goto (tgt := 13) C.1 C.2.1 dX4_settle_72 (by decide) ?_
          exact ih_13 (i + 1) (Wt2) (ud) _ _ _ (by first | assumption | omega) (by exact hv2) (by omega) Hh (lv_sub hl [1, 0] rfl)
        have ho9 : u.2 19 i < u.1 1 := hst.2.2.2.2.2.2.2.2.1 i (by omega)
        refine lv_aload_n C.1 C.2.1 dX4_settle_34 rfl (lv_at hl 1 rfl) ?_
        refine gw_get (Cn := RX4) (T := TX4) (N := 4) C Hh 0 pw_at0 rfl uwX4 2 (by decide) rfl tw_220 rfl dX4_settle_35 ?_
        refine gw_getN (Cn := RX2) (T := TX2) (N := 7) C Hh 3 pw_at3 rfl uwX2 5 (by decide) rfl tw_161 rfl dX4_settle_38 ?_
        refine lv_iload_n C.1 C.2.1 dX4_settle_41 rfl (lv_at hl 0 rfl) ?_
        refine gw_ld C Hh 18 pw_at18 (by decide) dX4_settle_42 (by omega) ?_
        refine lv_iconst (v := nI 2) C.1 C.2.1 dX4_settle_43 (by decide +kernel) ?_
        have h18 := hsc.2.2.2.2.2.2.2.1 (u.2 19 i) (by omega)
        refine gw_icmp_eq (tgt := 69) C dX4_settle_44 (by decide) (by omega) (by omega) (fun hc_44 => ?_) (fun hc_44 => ?_)
        · skip
          exact join_69 (Wt) (uc) _ _ _ (by exact st_closed hv (by omega) hc_44) Hh (lv_sub hl [1, 2] rfl)
        · skip
          refine lv_aload_n C.1 C.2.1 dX4_settle_47 rfl (lv_at hl 1 rfl) ?_
          refine gw_get (Cn := RX4) (T := TX4) (N := 4) C Hh 0 pw_at0 rfl uwX4 2 (by decide) rfl tw_220 rfl dX4_settle_48 ?_
          refine gw_getN (Cn := RX2) (T := TX2) (N := 7) C Hh 3 pw_at3 rfl uwX2 5 (by decide) rfl tw_161 rfl dX4_settle_51 ?_
          refine lv_iload_n C.1 C.2.1 dX4_settle_54 rfl (lv_at hl 0 rfl) ?_
          refine lv_aload_n C.1 C.2.1 dX4_settle_55 rfl (lv_at hl 1 rfl) ?_
          refine lv_iload_n C.1 C.2.1 dX4_settle_56 rfl (lv_at hl 0 rfl) ?_
          refine gw_fromI (w := pw G q) (u := uc) C Hh (gw_runV (n := 1) (C1 := RX4) [.int (nI (u.2 19 i))] C Hh (c_X4_joinsCovered l G q (uc) (u.2 19 i) (Wt) (by exact hsc) (by exact hv.2.2.1) (by omega) (by intro x hx; exact hv.2.2.2.2.1 _ (by omega) (by rintro ⟨-, j, j1, j2⟩; exact kx_ne hst.2.2.2.2.2.2.2.2 j1 (show i < u.1 1 by omega) (by rw [j2]; omega))) _) tw_415 tw_417 tw_15 tw_66 tw_418 (by decide +kernel) ⟨Nat.le_of_ble_eq_true rfl, Nat.le_of_ble_eq_true rfl⟩ 0 pw_at0 rfl rfl hl.1 (Nat.le_of_ble_eq_true rfl) dX4_settle_57 ⟨Nat.zero_le _, Nat.zero_le _⟩) (fun rc_57 uc_57 H locs hp_57 Hh => ?_)
          obtain ⟨kc_57, rfl, hp_57⟩ := hp_57
          have hk01 : kc_57 ≤ 1 := by rcases hp_57.2 with h9 | h9; (rw [h9.1]; omega); (rw [h9.1]; omega)
          refine gw_if_eq (tgt := 67) C dX4_settle_60 (by decide) (by omega) (fun hc_60 => ?_) (fun hc_60 => ?_)
          · skip
            refine lv_iconst (v := nI 1) C.1 C.2.1 dX4_settle_67 (by decide +kernel) ?_
            refine gw_st C Hh 18 pw_at18 (by decide) pw_set18 dX4_settle_68 (by omega) (fun H locs Hh => ?_)
            obtain ⟨Wt9, hWt9⟩ := st_join hst hv (by omega) rfl hc_44 hp_57 (x := 1) (by omega) rfl
            have Hh : gw_H G A s (pw G q (uc_57.1, up2 uc_57.2 18 (u.2 19 i) (1))) H locs := Hh
            exact join_69 (Wt9) ((uc_57.1, up2 uc_57.2 18 (u.2 19 i) (1))) _ _ _ (by exact hWt9) Hh (lv_sub hl [1, 2] rfl)
          · skip
            refine lv_iconst (v := nI 0) C.1 C.2.1 dX4_settle_63 (by decide +kernel) ?_
            refine lv_goto (tgt := 68) C.1 C.2.1 dX4_settle_64 (by decide) ?_
            refine gw_st C Hh 18 pw_at18 (by decide) pw_set18 dX4_settle_68 (by omega) (fun H locs Hh => ?_)
            obtain ⟨Wt9, hWt9⟩ := st_join hst hv (by omega) rfl hc_44 hp_57 (x := 0) (by omega) rfl
            have Hh : gw_H G A s (pw G q (uc_57.1, up2 uc_57.2 18 (u.2 19 i) (0))) H locs := Hh
            exact join_69 (Wt9) ((uc_57.1, up2 uc_57.2 18 (u.2 19 i) (0))) _ _ _ (by exact hWt9) Hh (lv_sub hl [1, 2] rfl)
  exact loop_13 _ (0) (fun _ => 0) (uc_8) _ _ _ (by first | assumption | omega) (by exact st_start hst hp_8 hus) (Nat.lt_succ_self _) Hh (lv_sub hl [1, 0] rfl)
