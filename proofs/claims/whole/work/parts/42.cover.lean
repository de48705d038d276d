/-! cover -/
def no2 (u : md_S) (p : Nat) : Prop := u.2.1 14 p ≠ 2
def pr (u : md_S) (o p : Nat) : Prop := p < u.1 2 ∧ no2 u p ∧ bfr (u.2.1 13) o p
noncomputable def cv_in (u : md_S) (o f : Nat) (v : md_S) : Prop :=
  sx u v ∧ md_bd v ∧ v.1 3 + 3 * mE (u.2.1 13) (no2 u) (u.1 2) o ≤ 30 ∧ dl (vw u) v (fun d => pr u o (d / 3) ∧ v.2.1 14 (d / 3) = 0 ∧ d % 3 < od_n (vw u) (d / 3)) ∧ (∀ a, a < u.1 1 → v.2.2 19 a = (fr_of (vw u) a : Int)) ∧
  (∀ p, pr u o p → so_hall (vw v) p) ∧ (∀ p, ¬ pr u o p → v.2.1 14 p = u.2.1 14 p) ∧ f = fl_sum (fun p => pif (pr u o p ∧ v.2.1 14 p = 1) 1 0) (u.1 2) ∧ (o = 4294967295 ∨ (o < u.1 2 ∧ no2 u o))
theorem nx_iff {K : Nat → Nat} {C1 C2 : Nat → Prop} {bh i b : Nat} (h : nx_in K C1 bh i b) (hc : ∀ o, o < i → (C1 o ↔ C2 o)) : nx_in K C2 bh i b := by
  rcases h with ⟨h1, h2⟩ | ⟨h1, h2, h3, h4⟩
  · exact Or.inl ⟨h1, fun o ho hc2 => h2 o ho ((hc o ho).mpr hc2)⟩
  · exact Or.inr ⟨h1, (hc b h1).mp h2, h3, fun o ho hc2 => h4 o ho ((hc o ho).mpr hc2)⟩
theorem cv_st {u v : md_S} {o f : Nat} (h : cv_in u o f v) (p : Nat) : u.2.1 14 p = 2 ↔ v.2.1 14 p = 2 := by
  by_cases q : pr u o p
  · have h1 := h.2.2.2.2.2.1 p q
    have h2 : (vw v).2 18 p = v.2.1 14 p := rfl
    unfold so_hall at h1
    rw [h2] at h1
    constructor
    · intro r
      exact absurd r q.2.1
    · intro r
      rcases h1 with h1 | h1 <;> omega
  · rw [h.2.2.2.2.2.2.1 p q]
theorem sx_ok {u v : md_S} (h : sx u v) (hok : md_ok u) (hs : ∀ p, p < 10 → v.2.1 14 p ≤ 2) : md_ok v := by
  obtain ⟨h0, h1, h2, h3⟩ := h
  unfold md_ok
  rw [h1, h2, h3 1 (by decide) (by decide), h3 2 (by decide) (by decide), h3 3 (by decide) (by decide), h3 4 (by decide) (by decide), h3 5 (by decide) (by decide), h3 6 (by decide) (by decide), h3 7 (by decide) (by decide), h3 8 (by decide) (by decide), h3 9 (by decide) (by decide), h3 10 (by decide) (by decide), h3 11 (by decide) (by decide), h3 12 (by decide) (by decide), h3 13 (by decide) (by decide)]
  exact ⟨hok.1, hok.2.1, hok.2.2.1, hok.2.2.2.1, fun o ho => ⟨(hok.2.2.2.2 o ho).1, (hok.2.2.2.2 o ho).2.1, (hok.2.2.2.2 o ho).2.2.1, (hok.2.2.2.2 o ho).2.2.2.1, hs o ho⟩⟩
theorem cv_ok {u v : md_S} {o f : Nat} (hok : md_ok u) (h : cv_in u o f v) : md_ok v := sx_ok h.1 hok (fun p hp => by
  by_cases q : pr u o p
  · have h1 := h.2.2.2.2.2.1 p q
    have h2 : (vw v).2 18 p = v.2.1 14 p := rfl
    unfold so_hall at h1
    rw [h2] at h1
    rcases h1 with h1 | h1 <;> omega
  · rw [h.2.2.2.2.2.2.1 p q]
    exact (hok.2.2.2.2 p hp).2.2.2.2)
theorem cv_0 {u v : md_S} {o : Nat} (hok : md_ok u) (hv : sx u v) (hb : md_bd v) (h3 : v.1 3 = 0) (h14 : v.2.1 14 = u.2.1 14) (h19 : ∀ a, a < u.1 1 → v.2.2 19 a = (fr_of (vw u) a : Int)) (h : nx_in (u.2.1 13) (no2 u) 4294967295 (u.1 2) o) : cv_in u o 0 v := by
  have h2 := hok.1.2
  have hm := mE_le (u.2.1 13) (no2 u) (u.1 2) o
  have hpr : ∀ p, ¬ pr u o p := fun p q => bfr_0 h2 h q.1 q.2.1 q.2.2
  refine ⟨hv, hb, by omega, ?_, h19, fun p q => absurd q (hpr p), fun p _ => by rw [h14], ?_, ?_⟩
  · refine ⟨fun _ => 0, fun i hi => by omega, fun d hd => absurd hd.1 (hpr _), fun i j _ hj => by omega⟩
  · refine (fl_sum_zero_of fun p _ => ?_).symm
    exact pif_neg (fun q => hpr p q.1)
  · rcases h with ⟨h1, -⟩ | ⟨h1, h2, -⟩
    · exact Or.inl h1
    · exact Or.inr ⟨h1, h2⟩
theorem cv_s {u v z zz : md_S} {o p f can x dd y : Nat} (hok : md_ok u) (h : cv_in u o f v) (ho : o ≠ 4294967295) (ha : dm_add v z o (u.2.1 11 o) (u.2.1 10 o) (u.2.1 12 o) (gd_dn (vw v) (u.2.1 11 o)))
    (hc : (can = 1 ∧ ∀ S, S < 1 <<< z.1 1 → 0 ≤ sl z S) ∨ (can = 0 ∧ ∃ S, S < 1 <<< z.1 1 ∧ sl z S < 0)) (hx : (can = 1 ∧ x = 0) ∨ (can = 0 ∧ x = 1)) (hdd : (can = 1 ∧ dd = z.1 3) ∨ (can = 0 ∧ dd = v.1 3)) (hy : (can = 1 ∧ y = 0) ∨ (can = 0 ∧ y = 1))
    (hzz : zz = (up1 z.1 3 dd, up2 z.2.1 14 o x, z.2.2)) (hn : nx_in (u.2.1 13) (no2 u) o (u.1 2) p) : cv_in u p (f + y) zz ∧ mE (u.2.1 13) (no2 u) (u.1 2) p < mE (u.2.1 13) (no2 u) (u.1 2) o := by
  have hcv := cv_st h
  have hokv := cv_ok hok h
  obtain ⟨h1, h2, h3, h4, h5, h6, h7, h8, h9⟩ := h
  have ho6 := h9.resolve_left ho
  have hm := mE_s ho6.1 ho ho6.2 hn
  have h10 := hok.1.2
  have hoo := hok.2.2.2.2 o (by omega)
  have hD : v.1 3 ≤ 37 := by omega
  have hbd := dm_bd hokv h2 hoo.2.1 hoo.2.2.1 hD ha
  have hse := sx_se h1
  have hgn : gd_dn (vw v) (u.2.1 11 o) = od_n (vw u) o := (se_gd hse _ 0).2.2.2
  rw [hgn] at ha
  have hdn : od_n (vw u) o ≤ 3 := (gd_dn_le (md_gd hok) hoo.2.1).2
  have hdz := dl_add (o := o) (w := vw u) h4 hdn (fun g x => ⟨(se_gd hse g x).1, (se_gd hse g x).2.1, (se_gd hse g x).2.2.1⟩) ha (fun d hd => hd.1.2.2.resolve_left ho)
  have hz1 : z.1 1 = u.1 1 := ha.1.1.trans h1.2.1
  have z14 : ∀ q, zz.2.1 14 q = if q = o then x else v.2.1 14 q := fun q => by
    rw [hzz]
    show up2 z.2.1 14 o x 14 q = _
    rw [up2_at, ha.1.2.2 14 (by decide) (by decide)]
  have hsz : sx u zz := by
    rw [hzz]
    refine ⟨ha.2.1.trans h1.1, ha.1.1.trans h1.2.1, ha.1.2.1.trans h1.2.2.1, fun k k1 k2 => ?_⟩
    show up2 z.2.1 14 o x k = _
    rw [up2_ne _ (by omega), ha.1.2.2 k k1 (by omega)]
    exact h1.2.2.2 k k1 k2
  have hsez := sx_se hsz
  have hprs : ∀ q, pr u p q ↔ (pr u o q ∨ q = o) := fun q => by
    unfold pr
    constructor
    · rintro ⟨a1, a2, a3⟩
      rcases (bfr_s h10 ho hn a1 a2).mp a3 with a4 | a4
      · exact Or.inl ⟨a1, a2, a4⟩
      · exact Or.inr a4
    · rintro (⟨a1, a2, a3⟩ | a1)
      · exact ⟨a1, a2, (bfr_s h10 ho hn a1 a2).mpr (Or.inl a3)⟩
      · subst a1
        exact ⟨ho6.1, ho6.2, (bfr_s h10 ho hn ho6.1 ho6.2).mpr (Or.inr rfl)⟩
  have hpo : ¬ pr u o o := fun q => kx_irr (q.2.2.resolve_left ho)
  have hfrz : ∀ a, a < z.1 1 → z.2.2 19 a = (fr_of (vw u) a : Int) := fun a ha9 => by
    rw [ha.2.2.2.2.2.1]
    exact h5 a (by omega)
  have h31 : ∀ d, ((pr u o (d / 3) ∧ v.2.1 14 (d / 3) = 0 ∧ d % 3 < od_n (vw u) (d / 3)) ∨ (d / 3 = o ∧ d % 3 < od_n (vw u) o)) → d < 31 := fun d hd => by
    rcases hd with hd | hd
    · have := hd.1.1
      omega
    · omega
  have hW9 : ∀ d, d < 31 → cw_W (vw zz) o d = pif ((pr u o (d / 3) ∧ v.2.1 14 (d / 3) = 0 ∧ d % 3 < od_n (vw u) (d / 3)) ∨ (d / 3 = o ∧ d % 3 < od_n (vw u) o)) (od_w (vw u) (d / 3) (d % 3)) 0 := fun d hd => by
    unfold cw_W
    rw [se_n hsez, se_w hsez]
    by_cases q : (pr u o (d / 3) ∧ v.2.1 14 (d / 3) = 0 ∧ d % 3 < od_n (vw u) (d / 3)) ∨ (d / 3 = o ∧ d % 3 < od_n (vw u) o)
    · rw [pif_pos q]
      rw [if_pos]
      rw [Bool.or_eq_true, Bool.and_eq_true, Bool.and_eq_true, decide_eq_true_eq, decide_eq_true_eq]
      rcases q with ⟨q1, q2, q3⟩ | q
      · right
        have hne : d / 3 ≠ o := fun e => hpo (by rw [← e]; rw [← e] at q1; exact q1)
        refine ⟨cvb_iff.mpr ⟨?_, ?_, ?_⟩, klb_iff.mpr ?_⟩
        · rw [hsez.2.1]; exact q1.1
        · show zz.2.1 14 (d / 3) = 0
          rw [z14, if_neg hne]
          exact q2
        · rw [se_n hsez]; exact q3
        · rw [hsez.2.2 17 (by decide) (by decide)]
          exact q1.2.2.resolve_left ho
      · exact Or.inl q
    · rw [pif_neg q, if_neg]
      rw [Bool.or_eq_true, Bool.and_eq_true, Bool.and_eq_true, decide_eq_true_eq, decide_eq_true_eq]
      rintro (r | ⟨r1, r2⟩)
      · exact q (Or.inr r)
      · have r3 := cvb_iff.mp r1
        have r4 := klb_iff.mp r2
        rw [hsez.2.2 17 (by decide) (by decide)] at r4
        have hne : d / 3 ≠ o := fun e => by rw [e] at r4; exact kx_irr r4
        have r5 : zz.2.1 14 (d / 3) = 0 := r3.2.1
        rw [z14, if_neg hne] at r5
        have r6 := r3.1
        rw [hsez.2.1] at r6
        have r7 := r3.2.2
        rw [se_n hsez] at r7
        exact q (Or.inl ⟨⟨r6, fun e => by have := (hcv _).mp e; omega, Or.inr r4⟩, r5, r7⟩)
  have hH := sl_hall hdz.S h31 hfrz hW9
  have hH2 : hall (z.1 1) (fr_of (vw u)) (cw_W (vw zz) o) (cmk (vw u)) ↔ hall ((vw zz).1 0) (fr_of (vw zz)) (cw_W (vw zz) o) (cmk (vw zz)) := by
    rw [se_fr hsez, hsez.1, hz1]
    exact ⟨fun g => hall_congr g (fun _ _ => rfl) (fun d _ _ => (se_m hsez d).symm), fun g => hall_congr g (fun _ _ => rfl) (fun d _ _ => se_m hsez d)⟩
  have hso : so_hall (vw zz) o := by
    have e18 : (vw zz).2 18 o = x := by
      show zz.2.1 14 o = x
      rw [z14, if_pos rfl]
    unfold so_hall
    rw [e18, ← hH2, ← hH]
    rcases hc with ⟨c1, c2⟩ | ⟨c1, S, c2, c3⟩
    · exact Or.inl ⟨by omega, c2⟩
    · refine Or.inr ⟨by omega, fun g => ?_⟩
      have := g S c2
      omega
  refine ⟨⟨hsz, ?_, ?_, ?_, ?_, ?_, ?_, ?_, ?_⟩, by omega⟩
  · rw [hzz]
    refine ⟨?_, hbd.2⟩
    show dd ≤ 40
    have := hbd.1
    omega
  · rw [hzz]
    show dd + _ ≤ 30
    have := ha.2.2.2.1
    omega
  · rcases hc with ⟨c1, c2⟩ | ⟨c1, c2⟩
    · have hxx : x = 0 := by omega
      have hddd : dd = z.1 3 := by omega
      have hd9 : dl (vw u) zz (fun d => (pr u o (d / 3) ∧ v.2.1 14 (d / 3) = 0 ∧ d % 3 < od_n (vw u) (d / 3)) ∨ (d / 3 = o ∧ d % 3 < od_n (vw u) o)) := by
        rw [hzz, hddd]
        exact hdz
      refine dl_iff hd9 (fun d => ?_)
      rw [hprs, z14]
      constructor
      · rintro (⟨q1, q2, q3⟩ | ⟨q1, q2⟩)
        · have hne : d / 3 ≠ o := fun e => hpo (by rw [← e]; rw [← e] at q1; exact q1)
          exact ⟨Or.inl q1, by rw [if_neg hne]; exact q2, q3⟩
        · exact ⟨Or.inr q1, by rw [if_pos q1]; exact hxx, by rw [q1]; exact q2⟩
      · rintro ⟨q1, q2, q3⟩
        by_cases e : d / 3 = o
        · exact Or.inr ⟨e, by rw [e] at q3; exact q3⟩
        · rw [if_neg e] at q2
          exact Or.inl ⟨q1.resolve_right e, q2, q3⟩
    · have hxx : x = 1 := by omega
      have hddd : dd = v.1 3 := by omega
      have hd9 : dl (vw u) zz (fun d => pr u o (d / 3) ∧ v.2.1 14 (d / 3) = 0 ∧ d % 3 < od_n (vw u) (d / 3)) := by
        obtain ⟨e, e1, e2, e3⟩ := h4
        refine ⟨e, fun i hi => ?_, fun d hd => ?_, fun i j hij hj => ?_⟩
        · have hi2 : i < v.1 3 := by rw [hzz] at hi; rw [← hddd]; exact hi
          have a7 := ha.2.2.2.2.2.2.1 i (Or.inl hi2)
          rw [hzz]
          show _ ∧ z.2.1 15 i = _ ∧ z.2.1 16 i = _ ∧ z.2.1 18 i = _ ∧ z.2.2 17 i = _
          rw [a7.1, a7.2.1, a7.2.2.1, a7.2.2.2]
          exact e1 i hi2
        · obtain ⟨i, i1, i2⟩ := e2 d hd
          refine ⟨i, ?_, i2⟩
          rw [hzz]
          show i < dd
          omega
        · refine e3 i j hij ?_
          rw [hzz] at hj
          rw [← hddd]
          exact hj
      refine dl_iff hd9 (fun d => ?_)
      rw [hprs, z14]
      constructor
      · rintro ⟨q1, q2, q3⟩
        have hne : d / 3 ≠ o := fun e => hpo (by rw [← e]; rw [← e] at q1; exact q1)
        exact ⟨Or.inl q1, by rw [if_neg hne]; exact q2, q3⟩
      · rintro ⟨q1, q2, q3⟩
        by_cases e : d / 3 = o
        · rw [if_pos e] at q2
          omega
        · rw [if_neg e] at q2
          exact ⟨q1.resolve_right e, q2, q3⟩
  · intro a ha9
    rw [hzz]
    exact hfrz a (by omega)
  · intro q hq
    by_cases e : q = o
    · rw [e]
      exact hso
    · have hq2 := ((hprs q).mp hq).resolve_right e
      refine soh_keep (h6 q hq2) ?_ ?_ ?_
      · refine ⟨by rw [hsez.1, hse.1], by rw [hsez.2.1, hse.2.1], fun j j1 j2 => by rw [hsez.2.2 j j1 j2, hse.2.2 j j1 j2]⟩
      · show zz.2.1 14 q = v.2.1 14 q
        rw [z14, if_neg e]
      · intro b _ hb
        show zz.2.1 14 b = v.2.1 14 b
        rw [z14, if_neg]
        intro e2
        rw [e2, hse.2.2 17 (by decide) (by decide)] at hb
        exact kx_irr (kx_tr hb (hq2.2.2.resolve_left ho))
  · intro q hq
    have hne : q ≠ o := fun e => hq ((hprs q).mpr (Or.inr e))
    rw [z14, if_neg hne]
    exact h7 q (fun e => hq ((hprs q).mpr (Or.inl e)))
  · have r1 := fl_sum_rest (f := fun q => pif (pr u p q ∧ zz.2.1 14 q = 1) 1 0) (g := fun q => pif (pr u o q ∧ v.2.1 14 q = 1) 1 0) ho6.1 (fun j hj hne => by
      refine pif_iff ?_
      rw [hprs, z14, if_neg hne]
      exact ⟨fun q => ⟨q.1.resolve_right hne, q.2⟩, fun q => ⟨Or.inl q.1, q.2⟩⟩)
    have r2 : pif (pr u o o ∧ v.2.1 14 o = 1) 1 0 = 0 := pif_neg (fun q => hpo q.1)
    have r3 : pif (pr u p o ∧ zz.2.1 14 o = 1) 1 0 = y := by
      by_cases q : can = 1
      · rw [pif_neg (fun q2 => by
          have := q2.2
          rw [z14, if_pos rfl] at this
          omega)]
        omega
      · rw [pif_pos ⟨(hprs o).mpr (Or.inr rfl), by rw [z14, if_pos rfl]; omega⟩]
        omega
    rw [r2, r3] at r1
    rw [h8]
    omega
  · rcases hn with ⟨g1, -⟩ | ⟨g1, g2, -⟩
    · exact Or.inl g1
    · exact Or.inr ⟨g1, g2⟩
/-- what cover() leaves -/
def cv_post (u v : md_S) : Prop := sx u v ∧ md_bd v ∧ ∀ a, a < u.1 2 → (u.2.1 14 a ≠ 2 → so_hall (vw v) a) ∧ (u.2.1 14 a = 2 → v.2.1 14 a = 2)
theorem cv_e {u v : md_S} {f : Nat} (h : cv_in u 4294967295 f v) : cv_post u v ∧ (∀ p, u.1 2 ≤ p → v.2.1 14 p = u.2.1 14 p) ∧ f = fl_sum (fun a => if v.2.1 14 a = 1 then 1 else 0) (u.1 2) := by
  have hcv := cv_st h
  obtain ⟨h1, h2, h3, h4, h5, h6, h7, h8, h9⟩ := h
  refine ⟨⟨h1, h2, fun a ha => ⟨fun q => h6 a ⟨ha, q, Or.inl rfl⟩, fun q => (hcv a).mp q⟩⟩, fun p hp => h7 p (fun q => by have := q.1; omega), ?_⟩
  rw [h8]
  refine fl_sum_congr fun a ha => ?_
  rw [← pif_if]
  refine pif_iff ⟨fun q => q.2, fun q => ⟨⟨ha, fun e => ?_, Or.inl rfl⟩, q⟩⟩
  have := (hcv a).mp e
  omega
def hs_in (u : md_S) (i : Nat) (v : md_S) : Prop := sx u v ∧ md_bd v ∧ v.1 3 = 0 ∧ v.2.1 14 = u.2.1 14 ∧ ∀ a, a < i → v.2.2 19 a = (fr_of (vw u) a : Int)
theorem hs_s {u v : md_S} {i : Nat} (hok : md_ok u) (hi : i < u.1 1) (h : hs_in u i v) {x : Int} (hx : x = (fr_of (vw u) i : Int)) : hs_in u (i + 1) (v.1, v.2.1, up3 v.2.2 19 i x) := by
  obtain ⟨h1, h2, h3, h4, h5⟩ := h
  have e : ∀ a, up3 v.2.2 19 i x 19 a = if a = i then x else v.2.2 19 a := fun a => by rw [up3_at]
  refine ⟨h1, ⟨h2.1, h2.2.1, fun a ha => ?_⟩, h3, h4, fun a ha => ?_⟩
  · show 0 ≤ up3 v.2.2 19 i x 19 a ∧ up3 v.2.2 19 i x 19 a ≤ 1000000
    rw [e]
    by_cases q : a = i
    · rw [if_pos q, hx]
      have := fr_le (md_ar hok) i (by have := hok.1.1; omega)
      omega
    · rw [if_neg q]
      exact h2.2.2 a ha
  · show up3 v.2.2 19 i x 19 a = _
    rw [e]
    by_cases q : a = i
    · rw [if_pos q, hx, q]
    · rw [if_neg q]
      exact h5 a (by omega)
set_option maxHeartbeats 4000000 in
set_option maxRecDepth 100000 in
theorem c_X5_cover (l : Launch) (G : gw_G) (q : Nat → Nat) (u : md_S)  (hok : md_ok u) (hbd : md_bd u) : gw_MI l yX5_cover cX5_cover 5 (some .int) 3 75 [.ref (q 0)] G (mw G q) u (fun r u1 => ∃ k : Nat, r = nI k ∧ (cv_post u u1 ∧ (∀ p, u.1 2 ≤ p → u1.2.1 14 p = u.2.1 14 p) ∧ k = fl_sum (fun a => if u1.2.1 14 a = 1 then 1 else 0) (u.1 2))) := by
  refine gw_entryI (own := RX5) (by decide) rfl (Nat.le_of_ble_eq_true rfl) ?_
  intro p e s m args below meth c A ls C Hh hl
  have hl : lv_has ls 5 [(0, .ref (q 0))] := hl
  refine lv_aload_n C.1 C.2.1 dX5_cover_0 rfl (lv_at hl 0 rfl) ?_
  refine lv_iconst (v := nI 0) C.1 C.2.1 dX5_cover_1 (by decide +kernel) ?_
  refine gw_put (Cn := RX5) (T := TX5) (N := 29) (ty0 := tyX5) (v := nI (0)) C Hh 0 mw_at0 rfl uwX5 tyX5_ok nmX5 17 (by decide) rfl tw_740 rfl (by decide +kernel) (Nat.le_of_ble_eq_true rfl) mw_num3 dX5_cover_2 (fun H locs Hh => ?_)
  refine lv_iconst (v := nI 0) C.1 C.2.1 dX5_cover_5 (by decide +kernel) ?_
  refine lv_istore_n (lv' := [(1, .int (nI (0))), (0, .ref (q 0))]) C.1 C.2.1 dX5_cover_6 rfl hl (by decide) rfl (fun ls hl => ?_)
  have loop_7 : ∀ (fu : Nat) (i : Nat) (ud : md_S) (H : Heap) (locs : List Loc) (ls : Array Slot), (i ≤ u.1 1) → (hs_in u i ud) → u.1 1 - i < fu → gw_H G A s (mw G q ud) H locs → lv_has ls 5 [(0, .ref (q 0)), (1, .int (nI (i)))] → W p l e (gw_rm 3 75) s m args below meth c H locs 0 0 (MQ below (va_Qi (fun r u1 => ∃ k : Nat, r = nI k ∧ (cv_post u u1 ∧ (∀ p, u.1 2 ≤ p → u1.2.1 14 p = u.2.1 14 p) ∧ k = fl_sum (fun a => if u1.2.1 14 a = 1 then 1 else 0) (u.1 2))) (gw_at G A (mw G q)) A) args s 0 0 A) (F0 m 7 ls []) := by
    intro fu
    induction fu with
    | zero =>
      intro i ud H locs ls hi hJ hmf
      exact absurd hmf (Nat.not_lt_zero _)
    | succ fu ih_7 =>
      intro i ud H locs ls hi hJ hmf Hh hl
      have h01 := hok.1.1
      have n1 : ud.1 1 = u.1 1 := hJ.1.2.1
      have e8 : ud.2.1 8 = u.2.1 8 := hJ.1.2.2.2 8 (by decide) (by decide)
      have e9 : ud.2.1 9 = u.2.1 9 := hJ.1.2.2.2 9 (by decide) (by decide)
      refine lv_iload_n C.1 C.2.1 dX5_cover_7 rfl (lv_at hl 1 rfl) ?_
      refine lv_aload_n C.1 C.2.1 dX5_cover_8 rfl (lv_at hl 0 rfl) ?_
      refine gw_get (Cn := RX5) (T := TX5) (N := 29) C Hh 0 mw_at0 rfl uwX5 6 (by decide) rfl tw_729 rfl dX5_cover_9 ?_
      refine gw_icmp_ge (tgt := 41) C dX5_cover_12 (by decide) (by omega) (by omega) (fun hc_12 => ?_) (fun hc_12 => ?_)
      · skip
        refine lv_iconst (v := nI 0) C.1 C.2.1 dX5_cover_41 (by decide +kernel) ?_
        refine lv_istore_n (lv' := [(1, .int (nI (0))), (0, .ref (q 0))]) C.1 C.2.1 dX5_cover_42 rfl hl (by decide) rfl (fun ls hl => ?_)
        refine lv_aload_n C.1 C.2.1 dX5_cover_43 rfl (lv_at hl 1 rfl) ?_
        refine lv_iconst (v := nI 4294967295) C.1 C.2.1 dX5_cover_44 (by decide +kernel) ?_
        refine lv_iconst (v := nI 0) C.1 C.2.1 dX5_cover_45 (by decide +kernel) ?_
        refine gw_fromI (w := mw G q) (u := ud) C Hh (gw_runV (n := 2) (C1 := RX5) [.int (nI (4294967295)), .int (nI (0))] C Hh (c_X5_next l G q (ud) (4294967295) (0) (by exact sx_ok hJ.1 hok (fun p hp => by rw [hJ.2.2.2.1]; exact (hok.2.2.2.2 p hp).2.2.2.2)) (by first | assumption | omega) (by first | assumption | omega) _) tw_835 tw_837 tw_50 tw_71 tw_838 (by decide +kernel) ⟨Nat.le_of_ble_eq_true rfl, Nat.le_of_ble_eq_true rfl⟩ 0 mw_at0 rfl rfl hl.1 (Nat.le_of_ble_eq_true rfl) dX5_cover_46 ⟨Nat.zero_le _, Nat.zero_le _⟩) (fun rc_46 uc_46 H locs hp_46 Hh => ?_)
        obtain ⟨kc_46, rfl, hp_46⟩ := hp_46
        obtain ⟨hk_46, hu_46⟩ := hp_46
        rw [hu_46] at Hh
        clear hu_46
        refine lv_istore_n (lv' := [(2, .int (nI (kc_46))), (1, .int (nI (0))), (0, .ref (q 0))]) C.1 C.2.1 dX5_cover_49 rfl hl (by decide) rfl (fun ls hl => ?_)
        have loop_50 : ∀ (fu : Nat) (f : Nat) (o : Nat) (uc : md_S) (H : Heap) (locs : List Loc) (ls : Array Slot), (cv_in u o f uc) → mE (u.2.1 13) (no2 u) (u.1 2) o < fu → gw_H G A s (mw G q uc) H locs → lv_has ls 5 [(0, .ref (q 0)), (1, .int (nI (f))), (2, .int (nI (o)))] → W p l e (gw_rm 3 75) s m args below meth c H locs 0 0 (MQ below (va_Qi (fun r u1 => ∃ k : Nat, r = nI k ∧ (cv_post u u1 ∧ (∀ p, u.1 2 ≤ p → u1.2.1 14 p = u.2.1 14 p) ∧ k = fl_sum (fun a => if u1.2.1 14 a = 1 then 1 else 0) (u.1 2))) (gw_at G A (mw G q)) A) args s 0 0 A) (F0 m 50 ls []) := by
          intro fu
          induction fu with
          | zero =>
            intro f o uc H locs ls hI hmf
            exact absurd hmf (Nat.not_lt_zero _)
          | succ fu ih_50 =>
            intro f o uc H locs ls hI hmf Hh hl
            have e6 : ∀ k, 1 ≤ k → k ≤ 13 → uc.2.1 k = u.2.1 k := hI.1.2.2.2
            have hok2 : md_ok uc := cv_ok hok hI
            have hm3 := hI.2.2.1
            have ho9 := hI.2.2.2.2.2.2.2.2
            have h02 := hok.1.2
            have h01 := hok.1.1
            refine lv_iload_n C.1 C.2.1 dX5_cover_50 rfl (lv_at hl 2 rfl) ?_
            refine lv_iconst (v := nI 4294967295) C.1 C.2.1 dX5_cover_51 (by decide +kernel) ?_
            refine gw_m1_eq (tgt := 145) C dX5_cover_52 (by decide) (by omega) (fun hc_52 => ?_) (fun hc_52 => ?_)
            · skip
              refine lv_iload_n C.1 C.2.1 dX5_cover_145 rfl (lv_at hl 1 rfl) ?_
              exact gw_iret (w := mw G q) (u := uc) C Hh dX5_cover_146 ⟨_, rfl, by rw [hc_52] at hI; exact cv_e hI⟩
            · skip
              have ho8 := ho9.resolve_left hc_52
              have hoo := hok2.2.2.2.2 o (by omega)
              refine lv_aload_n C.1 C.2.1 dX5_cover_55 rfl (lv_at hl 0 rfl) ?_
              refine gw_get (Cn := RX5) (T := TX5) (N := 29) C Hh 0 mw_at0 rfl uwX5 17 (by decide) rfl tw_740 rfl dX5_cover_56 ?_
              refine lv_istore_n (lv' := [(3, .int (nI (uc.1 3))), (0, .ref (q 0)), (1, .int (nI (f))), (2, .int (nI (o)))]) C.1 C.2.1 dX5_cover_59 rfl hl (by decide) rfl (fun ls hl => ?_)
              refine lv_aload_n C.1 C.2.1 dX5_cover_60 rfl (lv_at hl 1 rfl) ?_
              refine lv_iload_n C.1 C.2.1 dX5_cover_61 rfl (lv_at hl 3 rfl) ?_
              refine lv_aload_n C.1 C.2.1 dX5_cover_62 rfl (lv_at hl 1 rfl) ?_
              refine gw_get (Cn := RX5) (T := TX5) (N := 29) C Hh 0 mw_at0 rfl uwX5 13 (by decide) rfl tw_736 rfl dX5_cover_63 ?_
              refine lv_iload_n C.1 C.2.1 dX5_cover_66 rfl (lv_at hl 3 rfl) ?_
              refine gw_ld C Hh 11 mw_at11 (by decide) dX5_cover_67 (by omega) ?_
              refine lv_aload_n C.1 C.2.1 dX5_cover_68 rfl (lv_at hl 1 rfl) ?_
              refine gw_get (Cn := RX5) (T := TX5) (N := 29) C Hh 0 mw_at0 rfl uwX5 14 (by decide) rfl tw_737 rfl dX5_cover_69 ?_
              refine lv_iload_n C.1 C.2.1 dX5_cover_72 rfl (lv_at hl 3 rfl) ?_
              refine gw_ld C Hh 12 mw_at12 (by decide) dX5_cover_73 (by omega) ?_
              refine lv_aload_n C.1 C.2.1 dX5_cover_74 rfl (lv_at hl 1 rfl) ?_
              refine gw_get (Cn := RX5) (T := TX5) (N := 29) C Hh 0 mw_at0 rfl uwX5 12 (by decide) rfl tw_735 rfl dX5_cover_75 ?_
              refine lv_iload_n C.1 C.2.1 dX5_cover_78 rfl (lv_at hl 3 rfl) ?_
              refine gw_ld C Hh 10 mw_at10 (by decide) dX5_cover_79 (by omega) ?_
              refine gw_fromV (w := mw G q) (u := uc) C Hh (gw_runV (n := 4) (C1 := RX5) [.int (nI (o)), .int (nI (uc.2.1 11 (o))), .int (nI (uc.2.1 12 (o))), .int (nI (uc.2.1 10 (o)))] C Hh (c_X5_addOrder l G q (uc) (o) (uc.2.1 11 (o)) (uc.2.1 12 (o)) (uc.2.1 10 (o)) (by exact hok2) (by exact hoo.2.1) (by exact hoo.2.2.1) (by exact hoo.1) (by first | assumption | omega) _) tw_839 tw_841 tw_51 tw_71 tw_842 (by decide +kernel) ⟨Nat.le_of_ble_eq_true rfl, Nat.le_of_ble_eq_true rfl⟩ 0 mw_at0 rfl rfl hl.1 (Nat.le_of_ble_eq_true rfl) dX5_cover_80 ⟨Nat.zero_le _, Nat.zero_le _⟩) (fun uc_80 H locs hp_80 Hh => ?_)
              refine lv_aload_n C.1 C.2.1 dX5_cover_83 rfl (lv_at hl 1 rfl) ?_
              refine gw_fromI (w := mw G q) (u := uc_80) C Hh (gw_runV (n := 0) (C1 := RX5) [] C Hh (c_X5_canBeMet l G q (uc_80)  (by rw [hp_80.1.1, hI.1.2.1]; exact h01) (by exact dm_bd hok2 hI.2.1 hoo.2.1 hoo.2.2.1 (by omega) hp_80) _) tw_851 tw_853 tw_54 tw_71 tw_854 (by decide +kernel) ⟨Nat.le_of_ble_eq_true rfl, Nat.le_of_ble_eq_true rfl⟩ 0 mw_at0 rfl rfl hl.1 (Nat.le_of_ble_eq_true rfl) dX5_cover_84 ⟨Nat.zero_le _, Nat.zero_le _⟩) (fun rc_84 uc_84 H locs hp_84 Hh => ?_)
              obtain ⟨kc_84, rfl, hp_84⟩ := hp_84
              obtain ⟨hk_84, hu_84⟩ := hp_84
              rw [hu_84] at Hh
              clear hu_84
              have h84 : kc_84 = 1 ∨ kc_84 = 0 := hk_84.imp (·.1) (·.1)
              have hbd2 := dm_bd hok2 hI.2.1 hoo.2.1 hoo.2.2.1 (by omega) hp_80
              have hc1 : uc_80.1 0 = uc_80.1 0 := rfl
              refine lv_istore (lv' := [(4, .int (nI (kc_84))), (3, .int (nI (uc.1 3))), (0, .ref (q 0)), (1, .int (nI (f))), (2, .int (nI (o)))]) C.1 C.2.1 dX5_cover_87 hl (by decide) rfl (fun ls hl => ?_)
              refine lv_aload_n C.1 C.2.1 dX5_cover_89 rfl (lv_at hl 2 rfl) ?_
              refine gw_get (Cn := RX5) (T := TX5) (N := 29) C Hh 0 mw_at0 rfl uwX5 16 (by decide) rfl tw_739 rfl dX5_cover_90 ?_
              refine lv_iload_n C.1 C.2.1 dX5_cover_93 rfl (lv_at hl 4 rfl) ?_
              have join_104 : ∀ (x : Nat) (H : Heap) (locs : List Loc) (ls : Array Slot), ((kc_84 = 1 ∧ x = 0) ∨ (kc_84 = 0 ∧ x = 1)) → gw_H G A s (mw G q uc_80) H locs → lv_has ls 5 [(0, .ref (q 0)), (1, .int (nI (f))), (2, .int (nI (o))), (3, .int (nI (uc.1 3))), (4, .int (nI (kc_84)))] → W p l e (gw_rm 3 75) s m args below meth c H locs 0 0 (MQ below (va_Qi (fun r u1 => ∃ k : Nat, r = nI k ∧ (cv_post u u1 ∧ (∀ p, u.1 2 ≤ p → u1.2.1 14 p = u.2.1 14 p) ∧ k = fl_sum (fun a => if u1.2.1 14 a = 1 then 1 else 0) (u.1 2))) (gw_at G A (mw G q)) A) args s 0 0 A) (F0 m 104 ls [.int (nI (x)), .int (nI (o)), .ref (q 14)]) := by
                intro x  H locs ls hx Hh hl
                refine gw_st C Hh 14 mw_at14 (by decide) mw_set14 dX5_cover_104 (by omega) (fun H locs Hh => ?_)
                have Hh : gw_H G A s (mw G q (uc_80.1, up2 uc_80.2.1 14 (o) (x), uc_80.2.2)) H locs := Hh
                have join_119 : ∀ (dd : Nat) (H : Heap) (locs : List Loc) (ls : Array Slot), ((kc_84 = 1 ∧ dd = uc_80.1 3) ∨ (kc_84 = 0 ∧ dd = uc.1 3)) → gw_H G A s (mw G q (uc_80.1, up2 uc_80.2.1 14 (o) (x), uc_80.2.2)) H locs → lv_has ls 5 [(0, .ref (q 0)), (1, .int (nI (f))), (2, .int (nI (o))), (3, .int (nI (uc.1 3))), (4, .int (nI (kc_84)))] → W p l e (gw_rm 3 75) s m args below meth c H locs 0 0 (MQ below (va_Qi (fun r u1 => ∃ k : Nat, r = nI k ∧ (cv_post u u1 ∧ (∀ p, u.1 2 ≤ p → u1.2.1 14 p = u.2.1 14 p) ∧ k = fl_sum (fun a => if u1.2.1 14 a = 1 then 1 else 0) (u.1 2))) (gw_at G A (mw G q)) A) args s 0 0 A) (F0 m 119 ls [.int (nI (dd)), .ref (q 0)]) := by
                  intro dd  H locs ls hdd Hh hl
                  refine gw_put (Cn := RX5) (T := TX5) (N := 29) (ty0 := tyX5) (v := nI (dd)) C Hh 0 mw_at0 rfl uwX5 tyX5_ok nmX5 17 (by decide) rfl tw_740 rfl (by decide +kernel) (Nat.le_of_ble_eq_true rfl) mw_num3 dX5_cover_119 (fun H locs Hh => ?_)
                  have join_133 : ∀ (y : Nat) (H : Heap) (locs : List Loc) (ls : Array Slot), ((kc_84 = 1 ∧ y = 0) ∨ (kc_84 = 0 ∧ y = 1)) → gw_H G A s (mw G q (up1 uc_80.1 3 (dd), up2 uc_80.2.1 14 (o) (x), uc_80.2.2)) H locs → lv_has ls 5 [(0, .ref (q 0)), (1, .int (nI (f))), (2, .int (nI (o))), (3, .int (nI (uc.1 3))), (4, .int (nI (kc_84)))] → W p l e (gw_rm 3 75) s m args below meth c H locs 0 0 (MQ below (va_Qi (fun r u1 => ∃ k : Nat, r = nI k ∧ (cv_post u u1 ∧ (∀ p, u.1 2 ≤ p → u1.2.1 14 p = u.2.1 14 p) ∧ k = fl_sum (fun a => if u1.2.1 14 a = 1 then 1 else 0) (u.1 2))) (gw_at G A (mw G q)) A) args s 0 0 A) (F0 m 133 ls [.int (nI (y)), .int (nI (f))]) := by
                    intro y  H locs ls hy Hh hl
                    refine gw_iadd C dX5_cover_133 ?_
                    refine lv_istore_n (lv' := [(1, .int (nI (f + y))), (0, .ref (q 0)), (2, .int (nI (o))), (3, .int (nI (uc.1 3))), (4, .int (nI (kc_84)))]) C.1 C.2.1 dX5_cover_134 rfl hl (by decide) rfl (fun ls hl => ?_)
                    refine lv_aload_n C.1 C.2.1 dX5_cover_135 rfl (lv_at hl 1 rfl) ?_
                    refine lv_iload_n C.1 C.2.1 dX5_cover_136 rfl (lv_at hl 2 rfl) ?_
                    refine lv_iconst (v := nI 0) C.1 C.2.1 dX5_cover_137 (by decide +kernel) ?_
                    refine gw_fromI (w := mw G q) (u := (up1 uc_80.1 3 (dd), up2 uc_80.2.1 14 (o) (x), uc_80.2.2)) C Hh (gw_runV (n := 2) (C1 := RX5) [.int (nI (o)), .int (nI (0))] C Hh (c_X5_next l G q ((up1 uc_80.1 3 (dd), up2 uc_80.2.1 14 (o) (x), uc_80.2.2)) (o) (0) (by refine sx_ok (u := uc_80) ⟨rfl, rfl, rfl, fun k k1 k2 => by dsimp only; rw [up2_ne _ (by omega)]⟩ (sc_ok hp_80.1 hok2) (fun p hp => ?_); dsimp only; rw [up2_at]; dsimp only; have := (sc_ok hp_80.1 hok2).2.2.2.2 p hp; split <;> omega) (by right; show o < uc_80.1 2; rw [hp_80.1.2.1, hI.1.2.2.1]; exact ho8.1) (by first | assumption | omega) _) tw_835 tw_837 tw_50 tw_71 tw_838 (by decide +kernel) ⟨Nat.le_of_ble_eq_true rfl, Nat.le_of_ble_eq_true rfl⟩ 0 mw_at0 rfl rfl hl.1 (Nat.le_of_ble_eq_true rfl) dX5_cover_138 ⟨Nat.zero_le _, Nat.zero_le _⟩) (fun rc_138 uc_138 H locs hp_138 Hh => ?_)
                    obtain ⟨kc_138, rfl, hp_138⟩ := hp_138
                    obtain ⟨hk_138, hu_138⟩ := hp_138
                    rw [hu_138] at Hh
                    clear hu_138
                    have hS9 := cv_s (f := f) (y := y) (dd := dd) (x := x) hok hI hc_52 (by (have q9 := hp_80; rw [e6 11 (by decide) (by decide), e6 12 (by decide) (by decide), e6 10 (by decide) (by decide)] at q9; exact q9)) hk_84 hx hdd hy rfl (nx_iff (by (have q8 := hk_138; have r1 : (up2 uc_80.2.1 14 o x) 13 = u.2.1 13 := (by rw [up2_ne _ (by decide), hp_80.1.2.2 13 (by decide) (by decide), e6 13 (by decide) (by decide)]); have r2 : (up1 uc_80.1 3 dd) 2 = u.1 2 := (show uc_80.1 2 = u.1 2 by rw [hp_80.1.2.1, hI.1.2.2.1]); dsimp only at q8; rw [r1, r2] at q8; exact q8)) (fun p _ => by (unfold nx_C no2; dsimp only; rw [up2_at, hp_80.1.2.2 14 (by decide) (by decide)]; dsimp only; have r3 := cv_st hI p; by_cases e : p = o; rw [if_pos e]; have r4 := ho8.2; rw [← e] at r4; unfold no2 at r4; omega; rw [if_neg e]; omega)))
                    refine lv_istore_n (lv' := [(2, .int (nI (kc_138))), (1, .int (nI (f + y))), (0, .ref (q 0)), (3, .int (nI (uc.1 3))), (4, .int (nI (kc_84)))]) C.1 C.2.1 dX5_cover_141 rfl hl (by decide) rfl (fun ls hl => ?_)
                    refine lv_goto (tgt := 50) C.1 C.2.1 dX5_cover_142 (by decide) ?_
                    exact ih_50 (f + y) (kc_138) ((up1 uc_80.1 3 (dd), up2 uc_80.2.1 14 (o) (x), uc_80.2.2)) _ _ _ (by exact hS9.1) (by have := hS9.2; omega) Hh (lv_sub hl [2, 1, 0] rfl)
                  refine lv_iload_n C.1 C.2.1 dX5_cover_122 rfl (lv_at hl 1 rfl) ?_
                  refine lv_iload C.1 C.2.1 dX5_cover_123 (lv_at hl 4 rfl) ?_
                  refine gw_if_eq (tgt := 132) C dX5_cover_125 (by decide) (by omega) (fun hc_125 => ?_) (fun hc_125 => ?_)
                  · skip
                    refine lv_iconst (v := nI 1) C.1 C.2.1 dX5_cover_132 (by decide +kernel) ?_
                    exact join_133 (1)  _ _ _ (by omega) Hh (lv_sub hl [0, 1, 2, 3, 4] rfl)
                  · skip
                    refine lv_iconst (v := nI 0) C.1 C.2.1 dX5_cover_128 (by decide +kernel) ?_
                    refine lv_goto (tgt := 133) C.1 C.2.1 dX5_cover_129 (by decide) ?_
                    exact join_133 (0)  _ _ _ (by omega) Hh (lv_sub hl [0, 1, 2, 3, 4] rfl)
                refine lv_aload_n C.1 C.2.1 dX5_cover_105 rfl (lv_at hl 0 rfl) ?_
                refine lv_iload C.1 C.2.1 dX5_cover_106 (lv_at hl 4 rfl) ?_
                refine gw_if_eq (tgt := 118) C dX5_cover_108 (by decide) (by omega) (fun hc_108 => ?_) (fun hc_108 => ?_)
                · skip
                  refine lv_iload_n C.1 C.2.1 dX5_cover_118 rfl (lv_at hl 3 rfl) ?_
                  exact join_119 (uc.1 3)  _ _ _ (by omega) Hh (lv_sub hl [0, 1, 2, 3, 4] rfl)
                · skip
                  refine lv_aload_n C.1 C.2.1 dX5_cover_111 rfl (lv_at hl 0 rfl) ?_
                  refine gw_get (Cn := RX5) (T := TX5) (N := 29) C Hh 0 mw_at0 rfl uwX5 17 (by decide) rfl tw_740 rfl dX5_cover_112 ?_
                  refine W.eq (g2 := F0 m 115 ls [.int (nI (uc_80.1 3)), .ref (q 0)]) rfl ?_
                  refine lv_goto (tgt := 119) C.1 C.2.1 dX5_cover_115 (by decide) ?_
                  exact join_119 (uc_80.1 3)  _ _ _ (by omega) Hh (lv_sub hl [0, 1, 2, 3, 4] rfl)
              refine lv_iload C.1 C.2.1 dX5_cover_94 (lv_at hl 0 rfl) ?_
              refine gw_if_eq (tgt := 103) C dX5_cover_96 (by decide) (by omega) (fun hc_96 => ?_) (fun hc_96 => ?_)
              · skip
                refine lv_iconst (v := nI 1) C.1 C.2.1 dX5_cover_103 (by decide +kernel) ?_
                exact join_104 (1)  _ _ _ (by omega) Hh (lv_sub hl [2, 3, 4, 1, 0] rfl)
              · skip
                refine lv_iconst (v := nI 0) C.1 C.2.1 dX5_cover_99 (by decide +kernel) ?_
                refine lv_goto (tgt := 104) C.1 C.2.1 dX5_cover_100 (by decide) ?_
                exact join_104 (0)  _ _ _ (by omega) Hh (lv_sub hl [2, 3, 4, 1, 0] rfl)
        exact loop_50 _ (0) (kc_46) (ud) _ _ _ (by exact cv_0 hok hJ.1 hJ.2.1 hJ.2.2.1 hJ.2.2.2.1 (by rw [← show i = u.1 1 by omega]; exact hJ.2.2.2.2) (nx_iff (by have q9 := hk_46; rw [hJ.1.2.2.1, hJ.1.2.2.2 13 (by decide) (by decide)] at q9; exact q9) (fun p _ => by unfold nx_C no2; rw [hJ.2.2.2.1]; exact ⟨fun q => q.1, fun q => ⟨q, Or.inl rfl⟩⟩))) (Nat.lt_succ_self _) Hh (lv_sub hl [2, 1, 0] rfl)
      · skip
        have ha9 := hok.2.2.2.1 i (by omega)
        have e8i : ud.2.1 8 i = u.2.1 8 i := by rw [e8]
        have e9i : ud.2.1 9 i = u.2.1 9 i := by rw [e9]
        refine lv_aload_n C.1 C.2.1 dX5_cover_15 rfl (lv_at hl 0 rfl) ?_
        refine gw_get (Cn := RX5) (T := TX5) (N := 29) C Hh 0 mw_at0 rfl uwX5 22 (by decide) rfl tw_745 rfl dX5_cover_16 ?_
        refine lv_iload_n C.1 C.2.1 dX5_cover_19 rfl (lv_at hl 1 rfl) ?_
        refine lv_aload_n C.1 C.2.1 dX5_cover_20 rfl (lv_at hl 0 rfl) ?_
        refine gw_get (Cn := RX5) (T := TX5) (N := 29) C Hh 0 mw_at0 rfl uwX5 9 (by decide) rfl tw_732 rfl dX5_cover_21 ?_
        refine lv_iload_n C.1 C.2.1 dX5_cover_24 rfl (lv_at hl 1 rfl) ?_
        refine gw_ld C Hh 8 mw_at8 (by decide) dX5_cover_25 (by omega) ?_
        refine lv_aload_n C.1 C.2.1 dX5_cover_26 rfl (lv_at hl 0 rfl) ?_
        refine gw_get (Cn := RX5) (T := TX5) (N := 29) C Hh 0 mw_at0 rfl uwX5 10 (by decide) rfl tw_733 rfl dX5_cover_27 ?_
        refine lv_iload_n C.1 C.2.1 dX5_cover_30 rfl (lv_at hl 1 rfl) ?_
        refine gw_ld C Hh 9 mw_at9 (by decide) dX5_cover_31 (by omega) ?_
        refine gw_isub C dX5_cover_32 (by omega) ?_
        refine gw_i2l C dX5_cover_33 (by omega) ?_
        refine gw_lst C Hh 19 mw_at19 (by decide) mw_set19 dX5_cover_34 (by omega) (fun H locs Hh => ?_)
        have Hh : gw_H G A s (mw G q (ud.1, ud.2.1, up3 ud.2.2 19 (i) ((((ud.2.1 8 (i)) - (ud.2.1 9 (i)) : Nat) : Int)))) H locs := Hh
        refine lv_iinc (v := nI (i + 1)) (lv' := [(1, .int (nI (i + 1))), (0, .ref (q 0))]) C.1 C.2.1 dX5_cover_35 hl (k := 1) rfl (nI_add _ 1) (by decide) rfl (fun ls hl => ?_)
        refine lv_goto (tgt := 7) C.1 C.2.1 dX5_cover_38 (by decide) ?_
        exact ih_7 (i + 1) ((ud.1, ud.2.1, up3 ud.2.2 19 (i) ((((ud.2.1 8 (i)) - (ud.2.1 9 (i)) : Nat) : Int)))) _ _ _ (by omega) (by refine hs_s hok (by omega) hJ ?_; rw [e8, e9]; rfl) (by omega) Hh (lv_sub hl [1, 0] rfl)
  exact loop_7 _ (0) ((up1 u.1 3 (0), u.2.1, u.2.2)) _ _ _ (by omega) (by exact ⟨⟨rfl, rfl, rfl, fun _ _ _ => rfl⟩, ⟨Nat.zero_le _, hbd.2⟩, rfl, rfl, fun a ha => by omega⟩) (Nat.lt_succ_self _) Hh (lv_sub hl [1, 0] rfl)
