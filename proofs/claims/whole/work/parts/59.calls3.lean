/-! class and reference in step: order -/
theorem cdO_dt {u w : pf_S} (h : dt u w) (x y z r : Int32) : cdO u x y z r = cdO w x y z r := by
  refine pif_cg Iff.rfl (fun q => ?_) (fun _ => rfl)
  rw [h.1.1.2]
theorem cdO_0 {u : pf_S} {x y z r : Int32} (h : cdO u x y z r = 0) : tn x < 100 ∧ tn y < 6 ∧ tn z ≤ 10000 ∧ tn r ≤ 9 ∧ u.1 1 < 10 := by
  obtain ⟨⟨q1, q2, q3, q4⟩, h⟩ := pif_z h (by decide)
  obtain ⟨t, h⟩ := pif_z h (by decide)
  have := (inr_tn q1).2; have := (inr_tn q2).2; have := (inr_tn q3).2; have := (inr_tn q4).2
  exact ⟨by omega, by omega, by omega, by omega, t⟩
/-- with the order that is asked for counted in -/
def ow_S (u : pf_S) (t g n r : Nat) : pf_S := (up1 u.1 1 (u.1 1 + 1), (wr_S u t g n r).2)
theorem ow_dt {u w : pf_S} (h : dt u w) (t g n r : Nat) : dt0 (ow_S u t g n r) (ow_S w t g n r) := by
  obtain ⟨⟨⟨h0, h1⟩, h2, h3, h4, h5, h6⟩, h7⟩ := h
  refine ⟨⟨h0, ?_⟩, h2, h3, h4, h5, fun o ho => ?_⟩
  · show w.1 1 + 1 = u.1 1 + 1
    rw [h1]
  · have ho' : o < u.1 1 + 1 := ho
    show (wr_S w t g n r).2 14 o = (wr_S u t g n r).2 14 o ∧ (wr_S w t g n r).2 15 o = (wr_S u t g n r).2 15 o ∧ (wr_S w t g n r).2 16 o = (wr_S u t g n r).2 16 o ∧ (wr_S w t g n r).2 17 o = (wr_S u t g n r).2 17 o
    by_cases q : o = u.1 1
    · obtain ⟨a1, a2, a3, a4⟩ := @wr_at u t g n r
      obtain ⟨b1, b2, b3, b4⟩ := @wr_at w t g n r
      rw [h1] at b1 b2 b3 b4
      subst q
      rw [a1, a2, a3, a4, b1, b2, b3, b4]
      exact ⟨rfl, rfl, rfl, rfl⟩
    · have q' : o < u.1 1 := by omega
      obtain ⟨a1, a2, a3, a4⟩ := @wr_o u t g n r o q'
      obtain ⟨b1, b2, b3, b4⟩ := @wr_o w t g n r o (by omega)
      rw [a1, a2, a3, a4, b1, b2, b3, b4]
      exact h6 o q'
theorem ow_w {u : pf_S} (hc : cls u) (h10 : u.1 1 < 10) {t g n r : Nat} (ht : t < 100) (hg : g < 6) (hn : n ≤ 10000) (hr : r ≤ 9) : pf_w (ow_S u t g n r) := by
  have hw := (wr_cls hc ht hg hn hr).1
  exact ⟨hw.1, hw.2.1, h10, hw.2.2.2.2.1⟩
theorem ow_hall {u w : pf_S} (h : dt u w) (hc : cls u) (h10 : u.1 1 < 10) {t g n r : Nat} (ht : t < 100) (hg : g < 6) (hn : n ≤ 10000) (hr : r ≤ 9) : Feas (u.1 0) (fr_of u) (nw_W (wr_S u t g n r) (u.1 1)) (cmk (wr_S u t g n r)) ↔ hall (w.1 0) (fr_of w) (nw_W (wr_S w t g n r) (w.1 1)) (cmk (wr_S w t g n r)) := by
  have hw := (wr_cls hc ht hg hn hr).1
  have hp := ow_w hc h10 ht hg hn hr
  have hd := ow_dt h t g n r
  have e : mk_ok (u.1 0) (cmk (wr_S u t g n r)) := mk_okm hw
  have hs : ∀ d, d / 3 < u.1 1 + 1 → d / 3 < (ow_S u t g n r).1 1 := fun d hd => hd
  have hlt : ∀ d, (cvd u d ∨ (d / 3 = u.1 1 ∧ d % 3 < gd_dn u g)) → d / 3 < u.1 1 + 1 := fun d hd => by
    rcases hd with hd | hd
    · have := hd.1; omega
    · omega
  rw [Feas_iff e, h.1.1.1]
  refine hall_of (fun a ha => dt_fr h.1 ha) (fun d _ => ?_) (fun d _ hpos => ?_)
  · rw [nw_pif, nw_pif]
    refine pif_cg ?_ (fun q => ?_) (fun _ => rfl)
    · rw [dt_cvd h (pw_of hc.1), h.1.1.2, dt_dn h.1 hg]
    · have q' : cvd u d ∨ (d / 3 = u.1 1 ∧ d % 3 < gd_dn u g) := by
        rw [dt_cvd h (pw_of hc.1), h.1.1.2, dt_dn h.1 hg] at q; exact q
      exact dt_ow hd hp (hs d (hlt d q')) (Nat.mod_lt _ (by decide))
  · rw [nw_pif] at hpos
    have q' : cvd u d ∨ (d / 3 = u.1 1 ∧ d % 3 < gd_dn u g) := by
      apply Classical.byContradiction
      intro q
      rw [pif_neg q] at hpos
      omega
    have e2 : ∀ z : pf_S, cmk (ow_S z t g n r) d = cmk (wr_S z t g n r) d := fun z => us_f_of (u := wr_S z t g n r) (v := ow_S z t g n r) rfl rfl rfl rfl rfl _ _
    rw [← e2, ← e2]
    exact dt_mk hd hp (hs d (hlt d q'))
theorem ra_md {v v1 : md_S} (h : md2 v) (hb : md_bd v1) {t g n r : Nat} (ht : t < 100) (hg : g < 6) (hn : n ≤ 10000) (hr : r ≤ 9) (h10 : v.1 2 < 10) (hs : ra_S v v1 t g n r) : md2 v1 := by
  obtain ⟨⟨h1, h2, h3, h4, h5⟩, -⟩ := h
  obtain ⟨g1, g2, g3, g4⟩ := hs
  refine ⟨⟨⟨by rw [g1]; exact h1.1, by omega⟩, ?_, ?_, ?_, ?_⟩, hb⟩
  · rw [g3 1 (by decide) (by decide), g3 2 (by decide) (by decide), g3 3 (by decide) (by decide)]; exact h2
  · rw [g3 4 (by decide) (by decide), g3 5 (by decide) (by decide)]; exact h3
  · rw [g3 6 (by decide) (by decide), g3 7 (by decide) (by decide), g3 8 (by decide) (by decide), g3 9 (by decide) (by decide)]; exact h4
  · intro o ho
    obtain ⟨k1, k2, k3, k4, k5⟩ := h5 o ho
    obtain ⟨e1, e2, e3, e4, e5⟩ := g4 o
    rw [e1, e2, e3, e4, e5]
    by_cases q : o = v.1 2
    · rw [if_pos q, if_pos q, if_pos q, if_pos q, if_pos q]; exact ⟨ht, hg, hn, hr, by omega⟩
    · rw [if_neg q, if_neg q, if_neg q, if_neg q, if_neg q]; exact ⟨k1, k2, k3, k4, k5⟩
theorem sO {u u1 : pf_S} {v v1 : md_S} {x y z r : Int32} {k k' : Nat} (h : Rl u v) (hc : cdO u x y z r = 0) (hp : od_post u (wr_S u (tn x) (tn y) (tn z) (tn r)) k u1) (hq : ro_post v v1 (tn x) (tn y) (tn z) (tn r) k') : k = k' ∧ Rl u1 v1 := by
  have hR := h
  obtain ⟨⟨hcl, h13, hki⟩, hm, hd, hpn⟩ := h
  obtain ⟨b1, b2, b3, b4, b5⟩ := cdO_0 hc
  have hh := ow_hall hd hcl b5 b1 b2 b3 b4
  have e1 : v.1 2 = u.1 1 := hd.1.1.2
  obtain ⟨hc1, hp⟩ := hp
  obtain ⟨hb, hq⟩ := hq
  rcases hp with ⟨p1, p2, p3⟩ | ⟨p1, p2, p3, p4, p5, p6⟩
  · rcases hq with ⟨q1, q2, q3⟩ | ⟨q1, q2, q3⟩
    · refine ⟨by omega, ?_⟩
      have hsc := Rl_sc hR q2 hb
      obtain ⟨j1, j2⟩ := p2
      have kk : ∀ j, j ≤ 20 → u1.2 j = (wr_S u (tn x) (tn y) (tn z) (tn r)).2 j := fun j hj => j2 j (by simp; omega)
      have hR1 : dt u1 (vw v) := by
        refine ⟨?_, ?_⟩
        · unfold dt0
          rw [j1, kk 5 (by decide), kk 6 (by decide), kk 7 (by decide), kk 8 (by decide), kk 9 (by decide), kk 10 (by decide), kk 11 (by decide), kk 12 (by decide), kk 13 (by decide), kk 14 (by decide), kk 15 (by decide), kk 16 (by decide), kk 17 (by decide)]
          obtain ⟨⟨⟨h0, h1⟩, h2, h3, h4, h5, h6⟩, h7⟩ := hd
          refine ⟨⟨h0, h1⟩, h2, h3, h4, h5, fun o ho => ?_⟩
          obtain ⟨a1, a2, a3, a4⟩ := @wr_o u (tn x) (tn y) (tn z) (tn r) o ho
          rw [a1, a2, a3, a4]
          exact h6 o ho
        · rw [j1, kk 18 (by decide)]; exact hd.2
      refine ⟨⟨hc1, ?_, ?_⟩, hsc.2.1, dt_sc hR1 q2, pn_se hpn (kk 7 (by decide)) (kk 9 (by decide))⟩
      · rw [j1, kk 13 (by decide)]; exact h13
      · unfold ki at *
        rw [j1, kk 7 (by decide), kk 11 (by decide), kk 6 (by decide)]; exact hki
    · exact absurd (hh.mpr q3) p3
  · rcases hq with ⟨q1, q2, q3⟩ | ⟨q1, q2, q3⟩
    · exact absurd (hh.mp p2) q3
    · refine ⟨by omega, ?_⟩
      have kk : ∀ j, j < 18 → u1.2 j = (wr_S u (tn x) (tn y) (tn z) (tn r)).2 j := fun j hj => p5 j (by omega) (by omega) (by omega)
      refine ⟨⟨hc1, ?_, ?_⟩, ra_md hm hb b1 b2 b3 b4 (by omega) q2, ?_, pn_se hpn (kk 7 (by decide)) (kk 9 (by decide))⟩
      · rw [p3, kk 13 (by decide)]; exact h13
      · unfold ki at *
        rw [p3, kk 7 (by decide), kk 11 (by decide), kk 6 (by decide)]; exact hki
      · obtain ⟨g1, g2, g3, g4⟩ := q2
        obtain ⟨⟨⟨h0, h1⟩, h2, h3, h4, h5, h6⟩, h7⟩ := hd
        refine ⟨?_, ?_⟩
        · unfold dt0
          rw [p3, p4, kk 5 (by decide), kk 6 (by decide), kk 7 (by decide), kk 8 (by decide), kk 9 (by decide), kk 10 (by decide), kk 11 (by decide), kk 12 (by decide), kk 13 (by decide), kk 14 (by decide), kk 15 (by decide), kk 16 (by decide), kk 17 (by decide)]
          refine ⟨⟨?_, ?_⟩, ?_, ?_, ?_, ?_, fun o ho => ?_⟩
          · show v1.1 1 = u.1 0
            rw [g1]; exact h0
          · show v1.1 2 = u.1 1 + 1
            rw [g2]; omega
          · show ∀ g, g < 6 → v1.2.1 1 g = u.2 5 g ∧ v1.2.1 3 g = u.2 7 g
            rw [g3 1 (by decide) (by decide), g3 3 (by decide) (by decide)]; exact h2
          · show ∀ j, j < 36 → tbit (v1.2.1 2 (j % 6)) (j / 6) = u.2 6 j
            rw [g3 2 (by decide) (by decide)]; exact h3
          · show ∀ j, j < 18 → v1.2.1 4 j = u.2 8 j ∧ v1.2.1 5 j = u.2 9 j
            rw [g3 4 (by decide) (by decide), g3 5 (by decide) (by decide)]; exact h4
          · show ∀ a, a < u.1 0 → v1.2.1 6 a = u.2 10 a ∧ v1.2.1 7 a = u.2 11 a ∧ v1.2.1 8 a = u.2 12 a ∧ v1.2.1 9 a = u.2 13 a
            rw [g3 6 (by decide) (by decide), g3 7 (by decide) (by decide), g3 8 (by decide) (by decide), g3 9 (by decide) (by decide)]; exact h5
          · obtain ⟨e1', e2, e3, e4, e5⟩ := g4 o
            show v1.2.1 10 o = _ ∧ v1.2.1 11 o = _ ∧ v1.2.1 12 o = _ ∧ v1.2.1 13 o = _
            rw [e1', e2, e3, e4, e1]
            by_cases q : o = u.1 1
            · obtain ⟨a1, a2, a3, a4⟩ := @wr_at u (tn x) (tn y) (tn z) (tn r)
              subst q
              rw [a1, a2, a3, a4]
              simp
            · obtain ⟨a1, a2, a3, a4⟩ := @wr_o u (tn x) (tn y) (tn z) (tn r) o (by omega)
              rw [a1, a2, a3, a4, if_neg q, if_neg q, if_neg q, if_neg q]
              exact h6 o (by omega)
        · rw [p4]
          intro o ho
          show v1.2.1 14 o = u1.2 18 o
          rw [p6 o, (g4 o).2.2.2.2, e1]
          by_cases q : o = u.1 1
          · rw [if_pos q, if_pos q]
          · rw [if_neg q, if_neg q]; exact h7 o (by omega)
