/-! class and reference in step: left, bars -/
theorem dt_enu {u w : pf_S} (h : dt u w) (hs : pf_st u) {D : Nat} {e : Nat → Nat} (he : enu w D e) : enu u D e := by
  obtain ⟨h1, h2, h3⟩ := he
  refine ⟨fun i hi => (dt_cvd h (pw_of hs)).mp (h1 i hi), fun d hd => h2 d ((dt_cvd h (pw_of hs)).mpr hd), fun i j hi hj => ?_⟩
  exact (dt_pb h.1 ((dt_cvd h (pw_of hs)).mp (h1 i (by omega))).1 ((dt_cvd h (pw_of hs)).mp (h1 j hj)).1).mp (h3 i j hi hj)
theorem dt_X {u w : pf_S} (h : dt u w) (hs : pf_st u) {X : Nat → Nat → Nat} (hX : X_ok u X) : X_ok w X := by
  have hw := pw_of hs
  obtain ⟨x1, x2, x3, x4⟩ := hX
  refine ⟨fun d hd => ?_, fun b hb => ?_, fun d hd b hb hp => ?_, fun D e he i a hi ha hm k hk => ?_⟩
  · have hd' := (dt_cvd h hw).mp hd
    rw [h.1.1.1, dt_ow h.1 hw hd'.1 (Nat.mod_lt _ (by decide))]
    exact x1 d hd'
  · rw [h.1.1.1] at hb
    rw [dt_fr h.1 hb]; exact x2 b hb
  · have hd' := (dt_cvd h hw).mp hd
    rw [h.1.1.1] at hb
    rw [dt_mk h.1 hw hd'.1]; exact x3 d hd' b hb hp
  · have he' := dt_enu h hs he
    have ho : ∀ j, j < D → e j / 3 < u.1 1 := fun j hj => (he'.1 j hj).1
    rw [h.1.1.1] at ha
    rw [dt_mk h.1 hw (ho i hi)] at hm
    have eB : ∀ b, b < u.1 0 → (bfr (w.2 10) a b ↔ bfr (u.2 10) a b) := fun b hb => by
      unfold bfr
      rw [dt_kt h.1 hb ha]
    have ebf : bf_s w X (e i) (bfr (w.2 10) a) = bf_s u X (e i) (bfr (u.2 10) a) := by
      unfold bf_s
      rw [h.1.1.1]
      exact fl_sum_congr fun b hb => pif_cg (eB b hb) (fun _ => rfl) (fun _ => rfl)
    have eh : ∀ b, b < u.1 0 → pn_h w X e i (bfr (w.2 10) a) b = pn_h u X e i (bfr (u.2 10) a) b := fun b hb => by
      unfold pn_h
      rw [dt_fr h.1 hb, pif_cg (eB b hb) (fun _ => rfl) (fun _ => rfl)]
    have em : ∀ j, j < D → pn_m w X e i (bfr (w.2 10) a) j = pn_m u X e i (bfr (u.2 10) a) j := fun j hj => by
      unfold pn_m
      rw [ebf, dt_ow h.1 hw (ho i hi) (Nat.mod_lt _ (by decide)), dt_ow h.1 hw (ho j hj) (Nat.mod_lt _ (by decide))]
    have es : ∀ S, pn_sl w X e D i (bfr (w.2 10) a) S = pn_sl u X e D i (bfr (u.2 10) a) S := fun S => by
      unfold pn_sl
      rw [h.1.1.1]
      congr 1
      · exact il_congr fun b hb => by rw [eh b hb]
      · exact il_congr fun j hj => by rw [em j hj, dt_mk h.1 hw (ho j hj)]
    refine x4 D e he' i a hi ha hm k ?_
    unfold at_ab at hk ⊢
    rw [em i hi, eh a ha, h.1.1.1, dt_mk h.1 hw (ho i hi)] at hk
    simp only [es] at hk
    exact hk
theorem tk_cvd {u : pf_S} (hc : cls u) {d a : Nat} (hd : d < 31) (ha : a < u.1 0) (h : 0 < tk_x u d a) : cvd u d := by
  refine cv_pos ?_
  rw [← hc.2.1.2.2.2.2.1 d hd]
  exact Nat.lt_of_lt_of_le h (fl_sum_one (tk_x u d) ha)
theorem Rl_X {u : pf_S} {v : md_S} (h : Rl u v) : X_ok (vw v) (tk_x u) := dt_X h.2.2.1 h.1.1.1 (cls_X h.1.1)
theorem sF {u : pf_S} {v v1 : md_S} {x : Int32} {k k' : Nat} (h : Rl u v) (hc : cdN (u.1 0) x = 0) (hk : k = u.2 21 (tn x)) (hq : sc v v1 ∧ md_bd v1 ∧ (k' : Int) = (fr_of (vw v) (tn x) : Int) - (fl_sum (fun d => pif (cvd (vw v) d) (tk_x u d (tn x)) 0) 31 : Int)) : k = k' ∧ Rl u v1 := by
  refine ⟨?_, Rl_sc h hq.1 hq.2.1⟩
  obtain ⟨q1, -⟩ := pif_z hc (by decide)
  have hx := inx_tn q1
  have hw := pw_of h.1.1.1
  have e1 := h.1.1.2.1.2.2.2.1 _ hx
  unfold tk_col at e1
  have e2 : fl_sum (fun d => pif (cvd (vw v) d) (tk_x u d (tn x)) 0) 31 = fl_sum (fun d => tk_x u d (tn x)) 31 := fl_sum_congr fun d hd => by
    by_cases q : cvd (vw v) d
    · exact pif_pos q
    · rw [pif_neg q]
      apply Classical.byContradiction
      intro r
      exact q ((dt_cvd h.2.2.1 hw).mpr (tk_cvd h.1.1 hd hx (by omega)))
  have e3 := hq.2.2
  rw [e2, dt_fr h.2.2.1.1 hx] at e3
  unfold fr_of at e3
  omega
theorem cdB_dt {u w : pf_S} (h : dt u w) (x y z : Int32) : cdB u x y z = cdB w x y z := by
  refine pif_cg Iff.rfl (fun q => ?_) (fun _ => rfl)
  have b1 := (inr_tn q.1).2
  rw [(h.1.2.1 (tn x) (by omega)).2]
theorem sp_C {u u1 w : pf_S} (h : dt u w) (hc : cls u) {g t R C : Nat} (hg : g < 6) (hp : sp_post u u1 (us_f u g t) 4294967295 R) (h1 : sub (us_f w g t) C) (h2 : snd_b w (tk_x u) (us_f w g t) C) (h3 : cls_b w (tk_x u) (fun a => C.testBit a = true)) (a : Nat) : R.testBit a = true ↔ C.testBit a = true := by
  have hw := pw_of hc.1
  have n2 : u.1 2 = u.1 0 := hc.2.1.1
  obtain ⟨p1, p2, p3⟩ := hp
  rw [dt_us h.1 hw hg] at h1 h2
  have lo : ∀ d, d < 31 → (4294967295 : Nat).testBit d = true := fun d hd => by
    rw [show (4294967295 : Nat) = 2 ^ 32 - 1 from rfl, Nat.testBit_two_pow_sub_one]
    exact decide_eq_true (by omega)
  obtain ⟨r1, r2, r3, r4, r5, r6, r7⟩ := p2
  constructor
  · intro ha
    obtain ⟨i, hi, e⟩ := r4 a ha
    rw [← e]
    have key : ∀ i, i < fl_sum (tbit R) (u.1 2) → C.testBit (u1.2 26 i) = true := by
      intro i
      induction i using Nat.strongRecOn with
      | ind i ih =>
        intro hi
        rcases r6 i hi with q | ⟨j, hj, q1, q2, q3, q4, q5⟩
        · exact h1 _ q
        · have hcj := ih j hj (by omega)
          have hlt : u1.2 26 j < u.1 0 := by
            have := r1 _ (r3 j (by omega)); omega
          have hcv := tk_cvd hc q2 hlt q4
          have hcw := (dt_cvd h hw).mpr hcv
          refine h3 _ _ hcw (by rw [h.1.1.1]; exact hlt) q4 hcj _ ?_
          rw [dt_mk h.1 hw hcv.1, ← hc.2.2.1 _ q2 hcv]
          exact q5
    exact key i hi
  · intro ha
    refine h2 (fun a => R.testBit a = true) r7 ?_ a ha
    intro d b hd hb hx hR e he
    have hd' := (dt_cvd h hw).mp hd
    have d31 := pl_d31 hc.1.2.2.1 hd'
    rw [dt_mk h.1 hw hd'.1, ← hc.2.2.1 d d31 hd'] at he
    exact p3 b hR d d31 (lo d d31) hx e he
theorem sB {u u1 : pf_S} {v v1 : md_S} {x y z : Int32} {k k' : Nat} (h : Rl u v) (hc : cdB u x y z = 0) (hp : ∃ R, sp_post u u1 (us_f u (tn x) (tn y)) 4294967295 R ∧ ((k < u1.1 1 ∧ brB u1 R k ∧ brc u1 R k = tn z) ∨ (k = 4294967295 ∧ brc u1 R (u1.1 1) ≤ tn z))) (hq : sc v v1 ∧ md_bd v1 ∧ rb_post (vw v) (tk_x u) (tn x) (tn y) (tn z) k') : k = k' ∧ Rl u1 v1 := by
  obtain ⟨⟨q1, -⟩, -⟩ := pif_z hc (by decide)
  have b1 := (inr_tn q1).2
  obtain ⟨R, p1, p2⟩ := hp
  obtain ⟨s1, s2, C, H, c1, c2, c3, c4, c5⟩ := hq
  have hcl := h.1.1
  have hw := pw_of hcl.1
  have hd := h.2.2.1
  refine ⟨?_, Rl_sc (Rl_jo h (mo_jo (sp_mo p1)) (sp_cls hcl p1)) s1 s2⟩
  have hRC := sp_C hd hcl (by omega) p1 c1 c2 c3
  have hj := mo_jo (sp_mo p1)
  have n1 : u1.1 1 = u.1 1 := by rw [hj.1]
  have n2 : u1.1 2 = u.1 0 := by rw [hj.1]; exact hcl.2.1.1
  have ex : ∀ d a, tk_x u1 d a = tk_x u d a := fun d a => tk_x_of (p1.1.2 22 (by decide)) d a
  have eo : ∀ o, od_n u1 o = od_n u o := fun o => by
    unfold od_n gd_dn
    rw [hj.2 15 (by decide), hj.2 7 (by decide)]
  have hBH : ∀ o, o < u.1 1 → (brB u1 R o ↔ H.testBit o = true) := fun o ho => by
    rw [c4 o]
    unfold brB
    have d3 := (dn_3 hw (od_6 hw ho)).1
    have h10 := hcl.1.2.2.1
    constructor
    · intro ⟨y, hy, b, hb, hR, hx⟩
      rw [eo] at hy
      rw [n2] at hb
      rw [ex] at hx
      unfold od_n at hy
      have hcv := tk_cvd hcl (show o * 3 + y < 31 by omega) hb hx
      exact ⟨o * 3 + y, b, (dt_cvd hd hw).mpr hcv, by rw [hd.1.1.1]; exact hb, hx, by omega, (hRC b).mp hR⟩
    · intro ⟨d, b, g1, g2, g3, g4, g5⟩
      have hcv := (dt_cvd hd hw).mp g1
      rw [hd.1.1.1] at g2
      refine ⟨d % 3, by rw [eo, ← g4]; exact hcv.2.2, b, by rw [n2]; exact g2, (hRC b).mpr g5, ?_⟩
      rw [ex, show o * 3 + d % 3 = d by omega]; exact g3
  have hcnt : ∀ i, i ≤ u.1 1 → brc u1 R i = fl_sum (tbit H) i := fun i hi => by
    unfold brc
    refine fl_sum_congr fun o ho => ?_
    unfold tbit
    by_cases q : H.testBit o = true
    · rw [if_pos q, pif_pos ((hBH o (by omega)).mpr q)]
    · rw [if_neg q, pif_neg (fun r => q ((hBH o (by omega)).mp r))]
  rw [n1] at p2
  rw [hd.1.1.2] at c5
  rcases p2 with ⟨a1, a2, a3⟩ | ⟨a1, a2⟩
  · have a4 := (hBH k a1).mp a2
    rw [hcnt k (by omega)] at a3
    rcases c5 with ⟨e1, e2, e3⟩ | ⟨e1, e2⟩
    · rcases Nat.lt_trichotomy k k' with q | q | q
      · have := fl_tb_lt a4 q; omega
      · exact q
      · have := fl_tb_lt e2 q; omega
    · have := fl_tb_lt a4 a1; omega
  · rw [hcnt _ (Nat.le_refl _)] at a2
    rcases c5 with ⟨e1, e2, e3⟩ | ⟨e1, e2⟩
    · have := fl_tb_lt e2 e1; omega
    · omega
