/-! the plan -/
theorem gb_col {v v1 : pf_S} {d a : Nat} (h : gb_inv v d (v.1 2) v1) (hd : d < 31) (hn : v.1 2 ≤ 10) (ha : a < v.1 2) : tk_col v1 a = tk_col v a := by
  obtain ⟨h1, h2⟩ := h.2.1 a ha
  have s := fl_sum_rest (f := fun e => tk_x v1 e a) (g := fun e => tk_x v e a) hd (fun e _ he => h.2.2.2 e a he (by omega))
  rw [h2] at s
  unfold tk_col
  rw [h1]
  omega
/-- a demand that was met takes anew, the loose ones giving way: it is met again -/
theorem mp_take {v v1 w : pf_S} {Wt : Nat → Nat} {d lo wv k : Nat} (hf : fs v Wt) (har : ar_ok v) (hd : d < 31) (hg : gb_inv v d (v.1 2) v1) (hw : wv = Wt d) (ht : ta_post v1 w (tk_ot lo d) d wv k) :
    k = 0 ∧ fs w Wt ∧ ∀ e, e < 31 → e ≠ d → (tk_ot lo d).testBit e = false → ∀ a, a < 10 → tk_x w e a = tk_x v e a := by
  have hn := har.1
  obtain ⟨f1, f2, f3, f4, f5, f6⟩ := hf
  have g1 : v1.1 = v.1 := hg.1.1
  have gk : ∀ j, j ∉ [21, 22] → v1.2 j = v.2 j := hg.1.2
  obtain ⟨t1, t2, t3⟩ := ht
  have e1 : w.1 = v.1 := t1.1.1.trans g1
  have wk : ∀ j, j ∉ [21, 22, 26, 27, 28] → w.2 j = v.2 j := fun j hj => (t1.1.2 j hj).trans (gk j (fun q => hj (by simp at q ⊢; omega)))
  have hn1 : v1.1 2 = v.1 0 := by rw [g1]; exact f1
  have hrow : ∀ e, e < 31 → e ≠ d → fl_sum (tk_x w e) (v.1 0) = Wt e := fun e he hed => by
    have := t1.2.1 e he hed
    rw [hn1] at this
    rw [this, fl_sum_congr (f := tk_x v1 e) (g := tk_x v e) (fun a ha => hg.2.2.2 e a hed (by omega))]
    exact f5 e he
  have hcol : ∀ a, a < v.1 0 → tk_col w a = v.2 12 a - v.2 13 a := fun a ha => by
    rw [t1.2.2.2.1 a (by rw [hn1]; exact ha), gb_col hg hd (by rw [f1]; exact hn) (by rw [f1]; exact ha)]
    exact f4 a ha
  have hzero : fl_sum (tk_x v1 d) (v.1 0) = 0 := fl_sum_zero_of fun a ha => (hg.2.1 a (by rw [f1]; exact ha)).2
  have hfix : ∀ e, e < 31 → e ≠ d → (tk_ot lo d).testBit e = false → ∀ a, a < 10 → tk_x w e a = tk_x v e a := fun e he hed hl a ha => (t1.2.2.2.2.2.1 e he hed hl a ha).trans (hg.2.2.2 e a hed ha)
  rw [hn1, hzero] at t2
  have hk : k = 0 := by
    refine Classical.byContradiction fun hk0 => ?_
    have R0 : ∃ R : Nat → Bool, ∀ a, R a = true ↔ ∃ T, tk_shut w (tk_ot lo d) T ∧ T a := ⟨fun a => @decide _ (Classical.propDecidable (∃ T, tk_shut w (tk_ot lo d) T ∧ T a)), fun a => by
      rw [@decide_eq_true_eq _ (Classical.propDecidable _)]⟩
    obtain ⟨R, hR⟩ := R0
    have hw2 : w.1 2 = v.1 0 := by rw [e1]; exact f1
    have hcut := fl_cut (nA := v.1 0) (nD := 31) (fr := fun a => v.2 12 a - v.2 13 a) (us := fun e a => (v.2 23 e).testBit a = true) (x := tk_x w) (y := tk_x v) (R := R) (L := fun e => (tk_ot lo d).testBit e = true) (d0 := d) hd
      (fun e he _ a ha hp => f6 e he a ha hp)
      (fun a ha _ => by
        have := f4 a ha
        unfold tk_col at this
        show _ ≤ v.2 12 a - v.2 13 a
        omega)
      (fun a ha hRa => by
        obtain ⟨T, g3, g4⟩ := (hR a).mp hRa
        have q1 := g3.1 a (by rw [hw2]; exact ha) g4
        have q2 := hcol a ha
        unfold tk_col at q2
        rw [q1, Nat.zero_add] at q2
        rw [← q2]
        exact Nat.le_refl _)
      (fun e he hed hl r hr hRr hp a ha hMa => by
        obtain ⟨T, g3, g4⟩ := (hR r).mp hRr
        refine (hR a).mpr ⟨T, g3, g3.2 e he hl r (by rw [hw2]; exact hr) g4 hp a ?_⟩
        rw [wk 23 (by decide)]
        exact hMa)
      (fun e he hed _ => by
        rw [hrow e he hed, f5 e he]
        exact Nat.le_refl _)
      (fun e he hed hl a ha _ => by
        rw [hfix e he hed (Bool.eq_false_iff.mpr hl) a (by omega)]
        exact Nat.le_refl _)
    have q1 : fl_sum (fl_in R (tk_x v d)) (v.1 0) = fl_sum (tk_x v d) (v.1 0) := fl_in_all fun a ha hp => by
      have hu := f6 d hd a ha hp
      obtain ⟨j, j1, j2⟩ := kx_all f2 ha
      rcases t3 j (by rw [hn1]; exact j1) (by rw [gk 23 (by decide), gk 20 (by decide), j2]; exact hu) with ⟨T, g3, g4, -⟩ | ⟨g3, -⟩
      · rw [gk 20 (by decide), j2] at g4
        exact (hR a).mpr ⟨T, g3, g4⟩
      · exact absurd g3 hk0
    have q2 : fl_sum (fl_in R (tk_x w d)) (v.1 0) ≤ fl_sum (tk_x w d) (v.1 0) := fl_in_le
    rw [q1, f5 d hd] at hcut
    omega
  refine ⟨hk, ⟨by rw [e1]; exact f1, by rw [e1, wk 10 (by decide), wk 20 (by decide)]; exact f2, fun e he a ha => ?_, fun a ha => ?_, fun e he => ?_, fun e he a ha hp => ?_⟩, hfix⟩
  · rw [wk 23 (by decide)] at ha
    rw [e1]
    exact f3 e he a ha
  · rw [e1] at ha
    rw [wk 12 (by decide), wk 13 (by decide)]
    exact hcol a ha
  · rw [e1]
    by_cases q : e = d
    · rw [q]
      omega
    · exact hrow e he q
  · rw [e1] at ha
    rw [wk 23 (by decide)]
    rcases t1.2.2.2.2.1 e he a (by rw [hn1]; exact ha) hp with g | g
    · by_cases q : e = d
      · rw [q, (hg.2.1 a (by rw [f1]; exact ha)).2] at g
        omega
      · rw [hg.2.2.2 e a q (by omega)] at g
        exact f6 e he a ha g
    · rw [gk 23 (by decide)] at g
      exact g
/-- a demand of a covered order -/
def cvd (u : pf_S) (d : Nat) : Prop := d / 3 < u.1 1 ∧ u.2 18 (d / 3) = 0 ∧ d % 3 < od_n u (d / 3)
/-- e is planned before d -/
def pbf (u : pf_S) (e d : Nat) : Prop := kx_lt (u.2 17) (e / 3) (d / 3) ∨ (e / 3 = d / 3 ∧ e % 3 < d % 3)
/-- a flow that meets what is wanted -/
def fl_y (u : pf_S) (Wt : Nat → Nat) (y : Nat → Nat → Nat) : Prop := (∀ e, e < 31 → fl_sum (y e) (u.1 0) = Wt e) ∧ (∀ e, e < 31 → ∀ a, a < u.1 0 → 0 < y e a → (u.2 23 e).testBit a = true) ∧ ∀ a, a < u.1 0 → fl_sum (fun e => y e a) 31 ≤ u.2 12 a - u.2 13 a
/-- demand d takes as much as is possible of each arrival in its turn, what was planned before it being fixed -/
def pl_ok (u : pf_S) (Wt : Nat → Nat) (x : Nat → Nat → Nat) (d : Nat) : Prop := ∀ t, t < u.1 0 → (u.2 23 d).testBit (u.2 20 t) = true →
  (∃ (y : Nat → Nat → Nat) (T : Nat → Prop), fl_y u Wt y ∧ (∀ e, e < 31 → cvd u e → (pbf u e d ∨ e = d) → ∀ a, a < u.1 0 → y e a = x e a) ∧ (∀ a, a < u.1 0 → T a → fl_sum (fun e => y e a) 31 = u.2 12 a - u.2 13 a) ∧
    (∀ e, e < 31 → cvd u e → pbf u d e → ∀ a, a < u.1 0 → T a → 0 < y e a → ∀ b, (u.2 23 e).testBit b = true → T b) ∧ T (u.2 20 t) ∧ ∀ z, t < z → z < u.1 0 → T (u.2 20 z) → x d (u.2 20 z) = 0) ∨ ∀ z, t < z → z < u.1 0 → x d (u.2 20 z) = 0
/-- planned already, with i orders and p demands of the next one gone through -/
def prd (u : pf_S) (i p e : Nat) : Prop := ∃ j, j < u.1 1 ∧ u.2 19 j = e / 3 ∧ (j < i ∨ (j = i ∧ e % 3 < p))
theorem kx_tot {K b : Nat → Nat} {n i j : Nat} (h : kx_row K n b) (hi : i < n) (hj : j < n) (hl : kx_lt K (b i) (b j)) : i < j := by
  rcases Nat.lt_trichotomy i j with q | q | q
  · exact q
  · rw [q] at hl
    unfold kx_lt at hl
    omega
  · have := h.2 j i q hi
    unfold kx_lt at this hl
    omega
theorem kx_inj {K b : Nat → Nat} {n i j : Nat} (h : kx_row K n b) (hi : i < n) (hj : j < n) (hl : b i = b j) : i = j := by
  rcases Nat.lt_trichotomy i j with q | q | q
  · exact absurd hl (kx_ne h q hj)
  · exact q
  · exact absurd hl.symm (kx_ne h q hi)
/-- what is before a planned one is planned -/
theorem prd_down {u : pf_S} {i p e d : Nat} (ho : od_ok u) (hd : prd u i p d) (he : cvd u e) (hb : pbf u e d) : prd u i p e := by
  have hrow := ho.2.2.2.2.2.2
  obtain ⟨j, j1, j2, j3⟩ := hd
  obtain ⟨k, k1, k2⟩ := kx_all hrow he.1
  refine ⟨k, k1, k2, ?_⟩
  rcases hb with hb | hb
  · rw [← j2, ← k2] at hb
    have := kx_tot hrow k1 j1 hb
    omega
  · have : k = j := kx_inj hrow k1 j1 (by rw [k2, j2]; exact hb.1)
    omega
/-- what is behind the next one isn't planned, nor is it the next one -/
theorem prd_up {u : pf_S} {i p e d : Nat} (ho : od_ok u) (hi : i < u.1 1) (hd1 : d / 3 = u.2 19 i) (hd2 : d % 3 = p) (hb : pbf u d e) : ¬ prd u i (p + 1) e := by
  have hrow := ho.2.2.2.2.2.2
  rintro ⟨j, j1, j2, j3⟩
  rcases hb with hb | hb
  · rw [hd1, ← j2] at hb
    have := kx_tot hrow hi j1 hb
    omega
  · have : i = j := kx_inj hrow hi j1 (by rw [j2, ← hb.1, hd1])
    omega
def mp_inv (u : pf_S) (Wt : Nat → Nat) (i p lo : Nat) (v : pf_S) : Prop := jo_same u v ∧ v.2 23 = u.2 23 ∧ fs v Wt ∧ (∀ e, e < 31 → (lo.testBit e = true ↔ ¬ (cvd u e ∧ prd u i p e))) ∧ ∀ d, d < 31 → cvd u d → prd u i p d → pl_ok u Wt (tk_x v) d
/-- rows of planned demands stay, so their plan does -/
theorem pl_ok_keep {u : pf_S} {Wt : Nat → Nat} {x x2 : Nat → Nat → Nat} {d : Nat} (h : pl_ok u Wt x d) (hn : u.1 0 ≤ 10) (hrow : ∀ i, i < u.1 0 → u.2 20 i < u.1 0) (hk : ∀ e, e < 31 → cvd u e → (pbf u e d ∨ e = d) → ∀ a, a < 10 → x2 e a = x e a) (hd : d < 31) (hc : cvd u d) : pl_ok u Wt x2 d := by
  have hz : ∀ z, z < u.1 0 → x2 d (u.2 20 z) = x d (u.2 20 z) := fun z hz => hk d hd hc (Or.inr rfl) _ (by have := hrow z hz; omega)
  intro t ht hu
  rcases h t ht hu with ⟨y, T, y1, y2, y3, y4, y5, y6⟩ | h1
  · exact Or.inl ⟨y, T, y1, fun e he hce hb a ha => by rw [hk e he hce hb a (by omega)]; exact y2 e he hce hb a ha, y3, y4, y5, fun z h1 h2 h3 => by rw [hz z h2]; exact y6 z h1 h2 h3⟩
  · exact Or.inr fun z h2 h3 => by rw [hz z h3]; exact h1 z h2 h3
theorem mp_step {u v v1 w : pf_S} {Wt : Nat → Nat} {i p lo d wv k : Nat} (hst : pf_st u) (hv : mp_inv u Wt i p lo v) (hi : i < u.1 1) (hd1 : d / 3 = u.2 19 i) (hd2 : d % 3 = p) (hd : d < 31) (hc : cvd u d) (hg : gb_inv v d (v.1 2) v1) (hw : wv = Wt d) (ht : ta_post v1 w (tk_ot (tk_ot lo d) d) d wv k) : mp_inv u Wt i (p + 1) (tk_ot lo d) w := by
  obtain ⟨m1, m2, m3, m4, m5⟩ := hv
  have hsv := pf_st_of m1 hst
  obtain ⟨hk, hfw, hfix⟩ := mp_take m3 hsv.2.1 hd hg hw ht
  have hn : u.1 0 ≤ 10 := hst.2.1.1
  have e1 : v.1 = u.1 := m1.1
  have hrow : kx_row (v.2 10) (v.1 0) (v.2 20) := m3.2.1
  have h20 : v.2 20 = u.2 20 := m1.2 20 (by decide)
  rw [e1, h20] at hrow
  have hwb : st_buts [21, 22, 26, 27, 28] v w := (hg.1.wk (by decide)).tr ht.1.1
  have hnew : ∀ e, prd u i (p + 1) e → e ≠ d → prd u i p e := by
    rintro e ⟨j, j1, j2, j3⟩ hne
    refine ⟨j, j1, j2, ?_⟩
    rcases j3 with j3 | ⟨j3, j4⟩
    · exact Or.inl j3
    · refine Or.inr ⟨j3, ?_⟩
      rw [j3] at j2
      omega
  have hold : ∀ e, prd u i p e → prd u i (p + 1) e := by
    rintro e ⟨j, j1, j2, j3⟩
    exact ⟨j, j1, j2, by omega⟩
  have hself : prd u i (p + 1) d := ⟨i, hi, hd1.symm, Or.inr ⟨rfl, by omega⟩⟩
  have hlo : ∀ e, e < 31 → ((tk_ot lo d).testBit e = true ↔ ¬ (cvd u e ∧ prd u i (p + 1) e)) := by
    intro e he
    by_cases q : e = d
    · subst q
      rw [tk_ot_self (by omega)]
      exact ⟨fun z => absurd z (by decide), fun z => absurd ⟨hc, hself⟩ z⟩
    · rw [tk_ot_ne (by omega) q, m4 e he]
      exact ⟨fun z s => z ⟨s.1, hnew e s.2 q⟩, fun z s => z ⟨s.1, hold e s.2⟩⟩
  have hot : ∀ e, e < 31 → e ≠ d → (tk_ot (tk_ot lo d) d).testBit e = (tk_ot lo d).testBit e := fun e he hne => tk_ot_ne (by omega) hne
  refine ⟨m1.tr (jo_same.of hwb (by decide)), by rw [hwb.2 23 (by decide)]; exact m2, hfw, hlo, fun z hz hcz hpz => ?_⟩
  by_cases q : z = d
  · subst q
    intro t htt hu
    have hv1n : v1.1 2 = u.1 0 := by rw [hg.1.1, m3.1, e1]
    have h120 : v1.2 20 = u.2 20 := by rw [hg.1.2 20 (by decide)]; exact h20
    have h123 : v1.2 23 = u.2 23 := by rw [hg.1.2 23 (by decide)]; exact m2
    have hz0 : ∀ a, a < u.1 0 → tk_x v1 z a = 0 := fun a ha => (hg.2.1 a (by rw [m3.1, e1]; exact ha)).2
    have t3 := ht.2.2
    rw [hv1n] at t3
    rcases t3 t htt (by rw [h123, h120]; exact hu) with ⟨T, g1, g2, g3⟩ | ⟨-, g3⟩
    · left
      have hw1 : w.1 = u.1 := by rw [hwb.1]; exact e1
      have hw23 : w.2 23 = u.2 23 := by rw [hwb.2 23 (by decide)]; exact m2
      have hw12 : w.2 12 = u.2 12 := by rw [hwb.2 12 (by decide)]; exact m1.2 12 (by decide)
      have hw13 : w.2 13 = u.2 13 := by rw [hwb.2 13 (by decide)]; exact m1.2 13 (by decide)
      obtain ⟨f1, f2, f3, f4, f5, f6⟩ := hfw
      rw [hw1] at f1 f5 f6 f4
      rw [hw12, hw13] at f4
      rw [hw23] at f6
      refine ⟨tk_x w, T, ⟨f5, f6, fun a ha => ?_⟩, fun e he _ _ a _ => rfl, fun a ha hTa => ?_, fun e he hce hb a ha hTa hx b hub => ?_, ?_, fun y h1 h2 h3 => ?_⟩
      · have := f4 a ha
        unfold tk_col at this
        omega
      · have q1 := f4 a ha
        have q2 := g1.1 a (by rw [hw1, f1]; exact ha) hTa
        unfold tk_col at q1
        omega
      · refine g1.2 e he ?_ a (by rw [hw1, f1]; exact ha) hTa hx b (by rw [hw23]; exact hub)
        have hne : e ≠ z := by
          rintro rfl
          unfold pbf kx_lt at hb
          omega
        rw [hot e he hne, hlo e he]
        exact fun s => prd_up hst.2.2 hi hd1 hd2 hb s.2
      · rw [h120] at g2
        exact g2
      · rw [h120, hv1n] at g3
        rw [g3 y h1 h2 h3]
        exact hz0 _ (hrow.1 y h2)
    · right
      intro y h1 h2
      rw [h120, hv1n] at g3
      rw [g3 y h1 h2]
      exact hz0 _ (hrow.1 y h2)
  · have hpz2 := hnew z hpz q
    refine pl_ok_keep (m5 z hz hcz hpz2) hn hrow.1 (fun e he hce hb a ha => ?_) hz hcz
    have hpe : prd u i p e := by
      rcases hb with hb | hb
      · exact prd_down hst.2.2 hpz2 hce hb
      · rw [hb]; exact hpz2
    have hne : e ≠ d := by
      rintro rfl
      obtain ⟨j, j1, j2, j3⟩ := hpe
      have : j = i := kx_inj hst.2.2.2.2.2.2.2.2 j1 hi (by rw [j2, hd1])
      omega
    refine hfix e he hne ?_ a ha
    rw [hot e he hne]
    refine Bool.eq_false_iff.mpr fun s => (hlo e he).mp s ⟨hce, hold e hpe⟩
theorem mp_next {u v : pf_S} {Wt : Nat → Nat} {i lo : Nat} {p : Nat} (h : mp_inv u Wt i p lo v) (hi : i < u.1 1) (ho : od_ok u) (hp : ∀ e, cvd u e → e / 3 = u.2 19 i → e % 3 < p) : mp_inv u Wt (i + 1) 0 lo v := by
  obtain ⟨m1, m2, m3, m4, m5⟩ := h
  have he : ∀ e, cvd u e → (prd u (i + 1) 0 e ↔ prd u i p e) := by
    intro e hc
    constructor
    · rintro ⟨j, j1, j2, j3⟩
      refine ⟨j, j1, j2, ?_⟩
      by_cases q : j = i
      · rw [q] at j2
        exact Or.inr ⟨q, hp e hc j2.symm⟩
      · left; omega
    · rintro ⟨j, j1, j2, j3⟩
      exact ⟨j, j1, j2, by omega⟩
  refine ⟨m1, m2, m3, fun e h31 => ?_, fun d hd hc hpd => m5 d hd hc ((he d hc).mp hpd)⟩
  rw [m4 e h31]
  exact ⟨fun z s => z ⟨s.1, (he e s.1).mp s.2⟩, fun z s => z ⟨s.1, (he e s.1).mpr s.2⟩⟩
def mp_post (u : pf_S) (Wt : Nat → Nat) (v : pf_S) : Prop := jo_same u v ∧ v.2 23 = u.2 23 ∧ fs v Wt ∧ ∀ d, d < 31 → cvd u d → pl_ok u Wt (tk_x v) d
set_option maxHeartbeats 4000000 in
set_option maxRecDepth 100000 in
theorem c_X4_makePlan (l : Launch) (G : gw_G) (q : Nat → Nat) (u : pf_S) (Wt : Nat → Nat) (hst : pf_st u) (hf : fs u Wt) (hW : ∀ d, d < 31 → cvd u d → Wt d = od_w u (d / 3) (d % 3)) : gw_MV l yX4_makePlan cX4_makePlan 6 none 4 109 [.ref (q 0)] G (pw G q) u (fun u1 => mp_post u Wt u1) := by
  refine gw_entryV (own := RX4) (by decide) rfl (Nat.le_of_ble_eq_true rfl) ?_
  intro p e s m args below meth c A ls C Hh hl
  have hl : lv_has ls 6 [(0, .ref (q 0))] := hl
  refine lv_iconst (v := nI 4294967295) C.1 C.2.1 dX4_makePlan_0 (by decide +kernel) ?_
  refine lv_istore_n (lv' := [(1, .int (nI (4294967295))), (0, .ref (q 0))]) C.1 C.2.1 dX4_makePlan_1 rfl hl (by decide) rfl (fun ls hl => ?_)
  refine lv_iconst (v := nI 0) C.1 C.2.1 dX4_makePlan_2 (by decide +kernel) ?_
  refine lv_istore_n (lv' := [(2, .int (nI (0))), (1, .int (nI (4294967295))), (0, .ref (q 0))]) C.1 C.2.1 dX4_makePlan_3 rfl hl (by decide) rfl (fun ls hl => ?_)
  have loop_4 : ∀ (fu : Nat) (i : Nat) (lo : Nat) (uc : pf_S) (H : Heap) (locs : List Loc) (ls : Array Slot), (i ≤ u.1 1) → (mp_inv u Wt i 0 lo uc) → u.1 1 - i < fu → gw_H G A s (pw G q uc) H locs → lv_has ls 6 [(0, .ref (q 0)), (1, .int (nI (lo))), (2, .int (nI (i)))] → W p l e (gw_rm 4 109) s m args below meth c H locs 0 0 (MQ below (va_Qv (fun u1 => mp_post u Wt u1) (gw_at G A (pw G q)) A) args s 0 0 A) (F0 m 4 ls []) := by
    intro fu
    induction fu with
    | zero =>
      intro i lo uc H locs ls hi hv hmf
      exact absurd hmf (Nat.not_lt_zero _)
    | succ fu ih_4 =>
      intro i lo uc H locs ls hi hv hmf Hh hl
      have hsc := pf_st_of hv.1 hst
      have hn1 : uc.1 1 = u.1 1 := by rw [hv.1.1]
      have h10 := hst.2.2.1
      have e19 : uc.2 19 = u.2 19 := hv.1.2 19 (by decide)
      have e18 : uc.2 18 = u.2 18 := hv.1.2 18 (by decide)
      refine lv_iload_n C.1 C.2.1 dX4_makePlan_4 rfl (lv_at hl 2 rfl) ?_
      refine lv_aload_n C.1 C.2.1 dX4_makePlan_5 rfl (lv_at hl 0 rfl) ?_
      refine gw_get (Cn := RX4) (T := TX4) (N := 4) C Hh 0 pw_at0 rfl uwX4 2 (by decide) rfl tw_220 rfl dX4_makePlan_6 ?_
      refine gw_getN (Cn := RX2) (T := TX2) (N := 7) C Hh 3 pw_at3 rfl uwX2 0 (by decide) rfl tw_152 rfl dX4_makePlan_9 ?_
      refine gw_icmp_ge (tgt := 106) C dX4_makePlan_12 (by decide) (by omega) (by omega) (fun hc_12 => ?_) (fun hc_12 => ?_)
      · skip
        exact gw_vret (w := pw G q) (u := uc) C Hh dX4_makePlan_106 (by have hin : i = u.1 1 := (by omega); refine ⟨hv.1, hv.2.1, hv.2.2.1, fun d hd hc => hv.2.2.2.2 d hd hc ?_⟩; obtain ⟨j, j1, j2⟩ := kx_all hst.2.2.2.2.2.2.2.2 hc.1; exact ⟨j, j1, j2, by omega⟩)
      · skip
        refine lv_aload_n C.1 C.2.1 dX4_makePlan_15 rfl (lv_at hl 0 rfl) ?_
        refine gw_get (Cn := RX4) (T := TX4) (N := 4) C Hh 0 pw_at0 rfl uwX4 2 (by decide) rfl tw_220 rfl dX4_makePlan_16 ?_
        refine gw_getN (Cn := RX2) (T := TX2) (N := 7) C Hh 3 pw_at3 rfl uwX2 6 (by decide) rfl tw_163 rfl dX4_makePlan_19 ?_
        refine lv_iload_n C.1 C.2.1 dX4_makePlan_22 rfl (lv_at hl 2 rfl) ?_
        refine gw_ld C Hh 19 pw_at19 (by decide) dX4_makePlan_23 (by omega) ?_
        rw [e19]
        refine lv_istore_n (lv' := [(3, .int (nI (u.2 19 i))), (0, .ref (q 0)), (1, .int (nI (lo))), (2, .int (nI (i)))]) C.1 C.2.1 dX4_makePlan_24 rfl hl (by decide) rfl (fun ls hl => ?_)
        refine lv_aload_n C.1 C.2.1 dX4_makePlan_25 rfl (lv_at hl 1 rfl) ?_
        refine gw_get (Cn := RX4) (T := TX4) (N := 4) C Hh 0 pw_at0 rfl uwX4 2 (by decide) rfl tw_220 rfl dX4_makePlan_26 ?_
        refine gw_getN (Cn := RX2) (T := TX2) (N := 7) C Hh 3 pw_at3 rfl uwX2 5 (by decide) rfl tw_161 rfl dX4_makePlan_29 ?_
        refine lv_iload_n C.1 C.2.1 dX4_makePlan_32 rfl (lv_at hl 0 rfl) ?_
        have ho9 : u.2 19 i < u.1 1 := hst.2.2.2.2.2.2.2.2.1 i (by omega)
        refine gw_ld C Hh 18 pw_at18 (by decide) dX4_makePlan_33 (by omega) ?_
        have join_100 : ∀ (lo3 : Nat) (ue : pf_S) (H : Heap) (locs : List Loc) (ls : Array Slot), (mp_inv u Wt (i + 1) 0 lo3 ue) → gw_H G A s (pw G q ue) H locs → lv_has ls 6 [(0, .ref (q 0)), (1, .int (nI (lo3))), (2, .int (nI (i)))] → W p l e (gw_rm 4 109) s m args below meth c H locs 0 0 (MQ below (va_Qv (fun u1 => mp_post u Wt u1) (gw_at G A (pw G q)) A) args s 0 0 A) (F0 m 100 ls []) := by
          intro lo3 ue H locs ls hv3 Hh hl
          refine lv_iinc (v := nI (i + 1)) (lv' := [(2, .int (nI (i + 1))), (0, .ref (q 0)), (1, .int (nI (lo3)))]) C.1 C.2.1 dX4_makePlan_100 hl (k := 2) rfl (nI_add _ 1) (by decide) rfl (fun ls hl => ?_)
          refine lv_goto (tgt := 4) C.1 C.2.1 dX4_makePlan_103 (by decide) ?_
          exact ih_4 (i + 1) (lo3) (ue) _ _ _ (by first | assumption | omega) (by exact hv3) (by omega) Hh (lv_sub hl [1, 2, 0] rfl)
        have h18 := hst.2.2.2.2.2.2.2.1 (u.2 19 i) (by omega)
        rw [← e18] at h18
        refine gw_if_ne (tgt := 100) C dX4_makePlan_34 (by decide) (by omega) (fun hc_34 => ?_) (fun hc_34 => ?_)
        · skip
          exact join_100 (lo) (uc) _ _ _ (by exact mp_next hv (by omega) hst.2.2 (fun e9 hc9 h9 => by have := hc9.2.1; rw [h9] at this; rw [e18] at hc_34; omega)) Hh (lv_sub hl [1, 2, 3] rfl)
        · skip
          have hst0 : u.2 18 (u.2 19 i) = 0 := by rw [← e18]; exact hc_34
          refine lv_iconst (v := nI 0) C.1 C.2.1 dX4_makePlan_37 (by decide +kernel) ?_
          refine lv_istore (lv' := [(4, .int (nI (0))), (3, .int (nI (u.2 19 i))), (0, .ref (q 0)), (1, .int (nI (lo))), (2, .int (nI (i)))]) C.1 C.2.1 dX4_makePlan_38 hl (by decide) rfl (fun ls hl => ?_)
          have loop_40 : ∀ (fu : Nat) (x : Nat) (lo2 : Nat) (ud : pf_S) (H : Heap) (locs : List Loc) (ls : Array Slot), (x ≤ od_n u (u.2 19 i)) → (mp_inv u Wt i x lo2 ud) → 3 - x < fu → gw_H G A s (pw G q ud) H locs → lv_has ls 6 [(0, .ref (q 0)), (1, .int (nI (lo2))), (2, .int (nI (i))), (3, .int (nI (u.2 19 i))), (4, .int (nI (x)))] → W p l e (gw_rm 4 109) s m args below meth c H locs 0 0 (MQ below (va_Qv (fun u1 => mp_post u Wt u1) (gw_at G A (pw G q)) A) args s 0 0 A) (F0 m 40 ls []) := by
            intro fu
            induction fu with
            | zero =>
              intro x lo2 ud H locs ls hx hv2 hmf
              exact absurd hmf (Nat.not_lt_zero _)
            | succ fu ih_40 =>
              intro x lo2 ud H locs ls hx hv2 hmf Hh hl
              have hs2 := pf_st_of hv2.1 hst
              have ho10 : u.2 19 i < u.1 1 := hst.2.2.2.2.2.2.2.2.1 i (by omega)
              have hnn := gd_dn_le hst.1 (hst.2.2.2.2.1 (u.2 19 i) (by omega))
              change 1 ≤ od_n u (u.2 19 i) ∧ od_n u (u.2 19 i) ≤ 3 at hnn
              refine lv_iload C.1 C.2.1 dX4_makePlan_40 (lv_at hl 4 rfl) ?_
              refine lv_aload_n C.1 C.2.1 dX4_makePlan_42 rfl (lv_at hl 0 rfl) ?_
              refine lv_iload_n C.1 C.2.1 dX4_makePlan_43 rfl (lv_at hl 3 rfl) ?_
              refine gw_fromI (w := pw G q) (u := ud) C Hh (gw_runV (n := 1) (C1 := RX4) [.int (nI (u.2 19 i))] C Hh (c_X4_demandsOf l G q (ud) (u.2 19 i) (by exact hs2.1) (by exact hs2.2.2) (by first | assumption | omega) _) tw_251 tw_253 tw_4 tw_66 tw_254 (by decide +kernel) ⟨Nat.le_of_ble_eq_true rfl, Nat.le_of_ble_eq_true rfl⟩ 0 pw_at0 rfl rfl hl.1 (Nat.le_of_ble_eq_true rfl) dX4_makePlan_44 ⟨Nat.zero_le _, Nat.zero_le _⟩) (fun rc_44 uc_44 H locs hp_44 Hh => ?_)
              obtain ⟨kc_44, rfl, hp_44⟩ := hp_44
              obtain ⟨hk_44, hu_44⟩ := hp_44
              rw [hu_44] at Hh
              clear hu_44
              have hkn : kc_44 = od_n u (u.2 19 i) := hk_44.trans (jo_n hv2.1 _)
              refine gw_icmp_ge (tgt := 100) C dX4_makePlan_47 (by decide) (by omega) (by omega) (fun hc_47 => ?_) (fun hc_47 => ?_)
              · skip
                exact join_100 (lo2) (ud) _ _ _ (by exact mp_next hv2 (by omega) hst.2.2 (fun e9 hc9 h9 => by have := hc9.2.2; rw [h9] at this; omega)) Hh (lv_sub hl [0, 1, 2] rfl)
              · skip
                refine lv_iload_n C.1 C.2.1 dX4_makePlan_50 rfl (lv_at hl 3 rfl) ?_
                refine lv_iload C.1 C.2.1 dX4_makePlan_51 (lv_at hl 4 rfl) ?_
                refine gw_fromI (w := pw G q) (u := ud) C Hh (gw_runS (n := 2) [.int (nI (u.2 19 i)), .int (nI (x))] C Hh (c_X4_demandAt l G q (ud) (u.2 19 i) (x)  _) tw_426 tw_427 tw_66 tw_428 (by decide +kernel) ⟨Nat.le_of_ble_eq_true rfl, Nat.le_of_ble_eq_true rfl⟩ rfl hl.1 (Nat.le_of_ble_eq_true rfl) dX4_makePlan_53 ⟨Nat.zero_le _, Nat.zero_le _⟩) (fun rc_53 uc_53 H locs hp_53 Hh => ?_)
                obtain ⟨kc_53, rfl, hp_53⟩ := hp_53
                obtain ⟨hk_53, hu_53⟩ := hp_53
                rw [hu_53] at Hh
                clear hu_53
                subst hk_53
                refine lv_istore (lv' := [(5, .int (nI (u.2 19 i * 3 + x))), (0, .ref (q 0)), (1, .int (nI (lo2))), (2, .int (nI (i))), (3, .int (nI (u.2 19 i))), (4, .int (nI (x)))]) C.1 C.2.1 dX4_makePlan_56 hl (by decide) rfl (fun ls hl => ?_)
                have hcd : cvd u (u.2 19 i * 3 + x) := ⟨by omega, by rw [show (u.2 19 i * 3 + x) / 3 = u.2 19 i by omega]; exact hst0, by rw [show (u.2 19 i * 3 + x) / 3 = u.2 19 i by omega]; omega⟩
                refine lv_iload_n C.1 C.2.1 dX4_makePlan_58 rfl (lv_at hl 2 rfl) ?_
                refine lv_iconst (v := nI 1) C.1 C.2.1 dX4_makePlan_59 (by decide +kernel) ?_
                refine lv_iload C.1 C.2.1 dX4_makePlan_60 (lv_at hl 0 rfl) ?_
                refine gw_ishl C dX4_makePlan_62 (by omega) ?_
                refine lv_iconst (v := nI 4294967295) C.1 C.2.1 dX4_makePlan_63 (by decide +kernel) ?_
                refine gw_ixor C dX4_makePlan_64 ?_
                refine gw_iand C dX4_makePlan_65 ?_
                rw [show lo2 &&& ((1 <<< (u.2 19 i * 3 + x)) ^^^ 4294967295) = tk_ot lo2 (u.2 19 i * 3 + x) from rfl]
                refine lv_istore_n (lv' := [(1, .int (nI (tk_ot lo2 (u.2 19 i * 3 + x)))), (5, .int (nI (u.2 19 i * 3 + x))), (0, .ref (q 0)), (2, .int (nI (i))), (3, .int (nI (u.2 19 i))), (4, .int (nI (x)))]) C.1 C.2.1 dX4_makePlan_66 rfl hl (by decide) rfl (fun ls hl => ?_)
                refine lv_aload_n C.1 C.2.1 dX4_makePlan_67 rfl (lv_at hl 2 rfl) ?_
                refine gw_get (Cn := RX4) (T := TX4) (N := 4) C Hh 0 pw_at0 rfl uwX4 3 (by decide) rfl tw_221 rfl dX4_makePlan_68 ?_
                refine lv_iload C.1 C.2.1 dX4_makePlan_71 (lv_at hl 1 rfl) ?_
                refine gw_fromV (w := pw G q) (u := ud) C Hh (gw_runVN (n := 1) (C1 := RX3) [.int (nI (u.2 19 i * 3 + x))] C Hh (c_X3_giveBack l G q (ud) (u.2 19 i * 3 + x) (by exact fs_cap hv2.2.2.1 hs2.2.1) (by omega) _) tw_490 tw_492 tw_29 tw_70 tw_493 (by decide +kernel) ⟨Nat.le_of_ble_eq_true rfl, Nat.le_of_ble_eq_true rfl⟩ 4 pw_at4 rfl rfl hl.1 (Nat.le_of_ble_eq_true rfl) dX4_makePlan_73 ⟨Nat.zero_le _, Nat.zero_le _⟩) (fun uc_73 H locs hp_73 Hh => ?_)
                have hgb := hp_73
                have hcv := fs_cap hv2.2.2.1 hs2.2.1
                have hnv : uc_73.1 2 = ud.1 2 := by rw [hgb.1.1]
                have hs3 := pf_st_of (hv2.1.tr (jo_same.of hgb.1 (by decide))) hst
                have hcg : tk_cap uc_73 := ⟨by rw [hnv]; exact hcv.1, fun a9 h9 => by rw [hnv] at h9; have q9 := gb_col hgb (by omega) hcv.1 h9; have q8 := hcv.2 a9 h9; unfold tk_col at q9; omega⟩
                have hrw : kx_row (ud.2 10) (ud.1 0) (ud.2 20) := hv2.2.2.1.2.1
                have hn20 : ud.1 2 = ud.1 0 := hv2.2.2.1.1
                refine lv_aload_n C.1 C.2.1 dX4_makePlan_76 rfl (lv_at hl 2 rfl) ?_
                refine gw_get (Cn := RX4) (T := TX4) (N := 4) C Hh 0 pw_at0 rfl uwX4 3 (by decide) rfl tw_221 rfl dX4_makePlan_77 ?_
                refine lv_iload C.1 C.2.1 dX4_makePlan_80 (lv_at hl 1 rfl) ?_
                refine lv_aload_n C.1 C.2.1 dX4_makePlan_82 rfl (lv_at hl 2 rfl) ?_
                refine lv_iload_n C.1 C.2.1 dX4_makePlan_83 rfl (lv_at hl 4 rfl) ?_
                refine lv_iload C.1 C.2.1 dX4_makePlan_84 (lv_at hl 5 rfl) ?_
                refine gw_fromI (w := pw G q) (u := uc_73) C Hh (gw_runV (n := 2) (C1 := RX4) [.int (nI (u.2 19 i)), .int (nI (x))] C Hh (c_X4_wantedBy l G q (uc_73) (u.2 19 i) (x) (by exact hs3.1) (by exact hs3.2.2) (by omega) (by omega) _) tw_263 tw_265 tw_7 tw_66 tw_266 (by decide +kernel) ⟨Nat.le_of_ble_eq_true rfl, Nat.le_of_ble_eq_true rfl⟩ 0 pw_at0 rfl rfl hl.1 (Nat.le_of_ble_eq_true rfl) dX4_makePlan_86 ⟨Nat.zero_le _, Nat.zero_le _⟩) (fun rc_86 uc_86 H locs hp_86 Hh => ?_)
                obtain ⟨kc_86, rfl, hp_86⟩ := hp_86
                obtain ⟨hk_86, hu_86⟩ := hp_86
                rw [hu_86] at Hh
                clear hu_86
                have hWe : kc_86 = Wt (u.2 19 i * 3 + x) := by rw [hk_86, jo_w (hv2.1.tr (jo_same.of hgb.1 (by decide))), hW _ (by omega) hcd, show (u.2 19 i * 3 + x) / 3 = u.2 19 i by omega, show (u.2 19 i * 3 + x) % 3 = x by omega]
                have hWl : kc_86 ≤ 1000000 := by rw [hk_86]; exact od_w_le hs3.1 hs3.2.2 (by omega) (by omega)
                refine lv_iload_n C.1 C.2.1 dX4_makePlan_89 rfl (lv_at hl 0 rfl) ?_
                refine gw_fromI (w := pw G q) (u := uc_73) C Hh (gw_runVN (n := 3) (C1 := RX3) [.int (nI (u.2 19 i * 3 + x)), .int (nI (kc_86)), .int (nI (tk_ot lo2 (u.2 19 i * 3 + x)))] C Hh (c_X3_take l G q (uc_73) (u.2 19 i * 3 + x) (kc_86) (tk_ot lo2 (u.2 19 i * 3 + x)) (by exact hcg) (by intro d9 h9 a9 hb9; rw [hgb.1.2 23 (by decide)] at hb9; rw [hnv]; exact hv2.2.2.1.2.2.1 d9 h9 a9 hb9) (by omega) (by omega) (by rw [hnv, hn20, hgb.1.2 20 (by decide)]; exact hrw.1) (by rw [hnv, hn20, hgb.1.2 20 (by decide)]; exact fun i j h1 h2 => kx_ne hrw h1 h2) _) tw_445 tw_447 tw_21 tw_70 tw_448 (by decide +kernel) ⟨Nat.le_of_ble_eq_true rfl, Nat.le_of_ble_eq_true rfl⟩ 4 pw_at4 rfl rfl hl.1 (Nat.le_of_ble_eq_true rfl) dX4_makePlan_90 ⟨Nat.zero_le _, Nat.zero_le _⟩) (fun rc_90 uc_90 H locs hp_90 Hh => ?_)
                obtain ⟨kc_90, rfl, hp_90⟩ := hp_90
                refine lv_pop C.1 C.2.1 dX4_makePlan_93 rfl ?_
                refine lv_iinc (v := nI (x + 1)) (lv' := [(4, .int (nI (x + 1))), (1, .int (nI (tk_ot lo2 (u.2 19 i * 3 + x)))), (5, .int (nI (u.2 19 i * 3 + x))), (0, .ref (q 0)), (2, .int (nI (i))), (3, .int (nI (u.2 19 i)))]) C.1 C.2.1 dX4_makePlan_94 hl (k := 5) rfl (nI_add _ 1) (by decide) rfl (fun ls hl => ?_)
                refine lv_goto (tgt := 40) C.1 C.2.1 dX4_makePlan_97 (by decide) ?_
                exact ih_40 (x + 1) (tk_ot lo2 (u.2 19 i * 3 + x)) (uc_90) _ _ _ (by first | assumption | omega) (by exact mp_step hst hv2 (by omega) (by omega) (by omega) (by omega) hcd hgb hWe hp_90) (by omega) Hh (lv_sub hl [3, 1, 4, 5, 0] rfl)
          exact loop_40 _ (0) (lo) (uc) _ _ _ (by first | assumption | omega) (by exact hv) (Nat.lt_succ_self _) Hh (lv_sub hl [2, 3, 4, 1, 0] rfl)
  exact loop_4 _ (0) (4294967295) (u) _ _ _ (by first | assumption | omega) (by refine ⟨jo_same.rf, rfl, hf, fun e he => ⟨fun _ s9 => ?_, fun _ => all_bit (by omega)⟩, fun d hd hc hp => ?_⟩; (obtain ⟨j, j1, j2, j3⟩ := s9.2; omega); (obtain ⟨j, j1, j2, j3⟩ := hp; omega)) (Nat.lt_succ_self _) Hh (lv_sub hl [2, 1, 0] rfl)
