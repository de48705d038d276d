/-! the greatest further promise -/
theorem fs_take2 {v w : pf_S} {W0 : Nat → Nat} {lo d wv k : Nat} (hf : fs v W0) (ht : ta_post v w lo d wv k) : fs w (fun e => if e = d then W0 d + wv - k else W0 e) := by
  obtain ⟨h1, h2, h3, h4, h5, h6⟩ := hf
  obtain ⟨t1, t2, -⟩ := ht
  have e1 : w.1 = v.1 := t1.1.1
  have k9 : ∀ j, j ∉ [21, 22, 26, 27, 28] → w.2 j = v.2 j := t1.1.2
  refine ⟨by rw [e1]; exact h1, by rw [e1, k9 10 (by decide), k9 20 (by decide)]; exact h2, ta_us t1 h3, fun a ha => ?_, fun e he => ?_, fun e he a ha hp => ?_⟩
  · rw [e1] at ha
    rw [t1.2.2.2.1 a (by rw [h1]; exact ha), k9 12 (by decide), k9 13 (by decide)]
    exact h4 a ha
  · rw [e1, ← h1]
    dsimp only
    by_cases q : e = d
    · subst q
      rw [if_pos rfl]
      have := h5 e he
      rw [← h1] at this
      omega
    · rw [if_neg q, t1.2.1 e he q, h1]
      exact h5 e he
  · rw [e1] at ha
    rw [k9 23 (by decide)]
    rcases t1.2.2.2.2.1 e he a (by rw [h1]; exact ha) hp with g | g
    · exact h6 e he a ha g
    · exact g
theorem fs_fail2 {v w : pf_S} {W0 W1 M : Nat → Nat} {d k wv : Nat} (hf : fs v W0) (hn : v.1 0 ≤ 10) (hd : d < 31) (ht : ta_post v w (tk_ot 4294967295 d) d wv k) (hk : 0 < k) (hz : W0 d = 0) (h1 : wv < W1 d + k) (hle : ∀ e, e < 31 → e ≠ d → W0 e ≤ W1 e) (hM : ∀ e, e < 31 → (0 < W0 e ∨ e = d) → M e = v.2 23 e) : ¬ Feas (v.1 0) (fun a => v.2 12 a - v.2 13 a) W1 M := by
  rintro ⟨y, y1, y2, y3⟩
  obtain ⟨f1, f2, f3, f4, f5, f6⟩ := hf
  obtain ⟨t1, t2, t3⟩ := ht
  rw [f1] at t2
  have R0 : ∃ R : Nat → Bool, ∀ a, R a = true ↔ ∃ T, tk_shut w (tk_ot 4294967295 d) T ∧ T a := ⟨fun a => @decide _ (Classical.propDecidable (∃ T, tk_shut w (tk_ot 4294967295 d) T ∧ T a)), fun a => by
    rw [@decide_eq_true_eq _ (Classical.propDecidable _)]⟩
  obtain ⟨R, hR⟩ := R0
  have hw2 : w.1 2 = v.1 0 := by rw [t1.1.1]; exact f1
  have hrow : ∀ e, e < 31 → e ≠ d → fl_sum (tk_x w e) (v.1 0) = W0 e := fun e he hed => by
    have := t1.2.1 e he hed
    rw [f1] at this
    rw [this]
    exact f5 e he
  have hcut := fl_cut (nA := v.1 0) (nD := 31) (fr := fun a => v.2 12 a - v.2 13 a) (us := fun e a => (M e).testBit a = true) (x := tk_x w) (y := y) (R := R) (L := fun _ => True) (d0 := d) hd
    (fun e he _ a ha hp => y2 e he a ha hp) (fun a ha _ => y3 a ha)
    (fun a ha hRa => by
      obtain ⟨T, g1, g2⟩ := (hR a).mp hRa
      have e1 := g1.1 a (by rw [hw2]; exact ha) g2
      have e2 := t1.2.2.2.1 a (by rw [f1]; exact ha)
      rw [f4 a ha] at e2
      unfold tk_col at e2
      rw [e1, Nat.zero_add] at e2
      rw [← e2]
      exact Nat.le_refl _)
    (fun e he hed _ r hr hRr hp a ha hMa => by
      obtain ⟨T, g1, g2⟩ := (hR r).mp hRr
      have hW : 0 < W0 e := by
        rw [← hrow e he hed]
        exact Nat.lt_of_lt_of_le hp (fl_sum_one _ hr)
      refine (hR a).mpr ⟨T, g1, g1.2 e he ?_ r (by rw [hw2]; exact hr) g2 hp a ?_⟩
      · rw [tk_ot_ne (by omega) hed]
        exact all_bit (by omega)
      · rw [t1.1.2 23 (by decide), ← hM e he (Or.inl hW)]
        exact hMa)
    (fun e he hed _ => by
      rw [hrow e he hed, y1 e he]
      exact hle e he hed)
    (fun e he hed hno => absurd trivial hno)
  have e1 : fl_sum (fl_in R (y d)) (v.1 0) = fl_sum (y d) (v.1 0) := fl_in_all fun a ha hp => by
    have hu := y2 d hd a ha hp
    rw [hM d hd (Or.inr rfl)] at hu
    obtain ⟨j, j1, j2⟩ := kx_all f2 ha
    rcases t3 j (by rw [f1]; exact j1) (by rw [j2]; exact hu) with ⟨T, g1, g2, -⟩ | ⟨g1, -⟩
    · rw [j2] at g2
      exact (hR a).mpr ⟨T, g1, g2⟩
    · omega
  have e2 : fl_sum (fl_in R (tk_x w d)) (v.1 0) ≤ fl_sum (tk_x w d) (v.1 0) := fl_in_le
  rw [e1, y1 d hd] at hcut
  have e3 := f5 d hd
  omega
/-- with a further demand of m at the arrivals S -/
def fw_W (u : pf_S) (m : Nat) : Nat → Nat := fun d => if d = 30 then m else cv_W u d
def fw_M (u : pf_S) (S : Nat) : Nat → Nat := fun d => if d = 30 then S else cmk u d
/-- the most that a further demand can have -/
def mx (u : pf_S) (S k : Nat) : Prop := Feas (u.1 0) (fr_of u) (fw_W u k) (fw_M u S) ∧ ∀ m, Feas (u.1 0) (fr_of u) (fw_W u m) (fw_M u S) → m ≤ k
theorem cv_30 {u : pf_S} (ho : od_ok u) : cv_W u 30 = 0 := by
  unfold cv_W
  rw [if_neg]
  intro s
  have := (cvb_iff.mp s).1
  have := ho.1
  omega
theorem fr_le {u : pf_S} (h : ar_ok u) (a : Nat) (ha : a < 10) : fr_of u a ≤ 1000000 := by
  have := h.2.2.2.1 a ha
  unfold fr_of
  omega
theorem sum_le_c {f : Nat → Nat} {c : Nat} : ∀ {n : Nat}, (∀ a, a < n → f a ≤ c) → fl_sum f n ≤ n * c
  | 0, _ => Nat.zero_le _
  | n + 1, h => by
    have h1 := sum_le_c (n := n) (fun a ha => h a (by omega))
    have h2 := h n (Nat.lt_succ_self n)
    rw [fl_sum_succ, Nat.succ_mul]
    omega
theorem mo_mx {u : pf_S} {S k : Nat} (hc : cls u) (hS : ∀ a, S.testBit a = true → a < u.1 0) (h : mo_try u S k) : mx u S k := by
  obtain ⟨v, w, m, v1, v2, v3, v4, ht, hkm⟩ := h
  obtain ⟨hst, hf, hmk, -⟩ := hc
  have hn := hst.2.1.1
  have hx : ∀ e b, tk_x v e b = tk_x u e b := tk_x_of (v2 22 (by decide))
  have hfv : fs v (cv_W u) := by
    obtain ⟨f1, f2, f3, f4, f5, f6⟩ := hf
    refine ⟨by rw [v1]; exact f1, by rw [v1, v2 10 (by decide), v2 20 (by decide)]; exact f2, fun d hd a ha => ?_, fun a ha => ?_, fun d hd => ?_, fun d hd a ha hp => ?_⟩
    · rw [v1, f1]
      by_cases q : d = 30
      · rw [q, v3] at ha
        exact hS a ha
      · rw [v4 d (by omega)] at ha
        rw [← f1]
        exact f3 d hd a ha
    · rw [v1] at ha
      unfold tk_col
      rw [v2 21 (by decide), v2 12 (by decide), v2 13 (by decide), show (fun e => tk_x v e a) = fun e => tk_x u e a from funext fun e => hx e a]
      exact f4 a ha
    · rw [v1, show tk_x v d = tk_x u d from funext (hx d)]
      exact f5 d hd
    · rw [v1] at ha
      rw [hx] at hp
      by_cases q : d = 30
      · exfalso
        have h0 := fl_sum_one (tk_x u d) ha
        rw [f5 d hd, q, cv_30 hst.2.2] at h0
        rw [q] at hp
        omega
      · rw [v4 d (by omega)]
        exact f6 d hd a ha hp
  have hfr : (fun a => v.2 12 a - v.2 13 a) = fr_of u := by
    funext a
    rw [v2 12 (by decide), v2 13 (by decide)]
    rfl
  have hfw := fs_take2 hfv ht
  have hle := ta_le ht (by rw [hfv.1, v1]; exact hn)
  have hw1 : w.1 = u.1 := by rw [ht.1.1.1]; exact v1
  have hmask : ∀ d, d < 31 → 0 < fw_W u k d → w.2 23 d = fw_M u S d := by
    intro d hd h0
    rw [ht.1.1.2 23 (by decide)]
    unfold fw_M
    unfold fw_W at h0
    by_cases q : d = 30
    · rw [if_pos q, q]
      exact v3
    · rw [if_neg q] at h0 ⊢
      rw [v4 d (by omega)]
      unfold cv_W at h0
      by_cases q2 : cvb u d = true
      · exact hmk d hd (cvb_iff.mp q2)
      · rw [if_neg q2] at h0
        cases h0
  have hWe : ∀ d, d < 31 → (if d = 30 then cv_W u 30 + 10000001 - m else cv_W u d) = fw_W u k d := by
    intro d _
    unfold fw_W
    rw [cv_30 hst.2.2]
    by_cases q : d = 30
    · rw [if_pos q, if_pos q]
      omega
    · rw [if_neg q, if_neg q]
  refine ⟨?_, fun m2 hF => ?_⟩
  · have hF := fs_feas hfw
    have e1 : fr_of w = fr_of u := by
      funext a
      unfold fr_of
      rw [ht.1.1.2 12 (by decide), ht.1.1.2 13 (by decide), v2 12 (by decide), v2 13 (by decide)]
    rw [hw1, e1] at hF
    exact Feas_congr hF hWe (fun d hd h0 => hmask d hd (by rw [← hWe d hd]; exact h0))
  · have hm0 : 0 < m := by
      refine Nat.pos_of_ne_zero fun q => ?_
      have hs := hfw.2.2.2.2.1 30 (by decide)
      dsimp only at hs
      rw [if_pos rfl, cv_30 hst.2.2, hw1] at hs
      have h1 : fl_sum (tk_x w 30) (u.1 0) ≤ u.1 0 * 1000000 := sum_le_c (fun a ha => by
        have g1 := hfw.2.2.2.1 a (by rw [hw1]; exact ha)
        have g2 := fl_sum_one (fun e => tk_x w e a) (show 30 < 31 by decide)
        have g3 := fr_le hst.2.1 a (by omega)
        rw [ht.1.1.2 12 (by decide), ht.1.1.2 13 (by decide), v2 12 (by decide), v2 13 (by decide)] at g1
        unfold tk_col at g1
        unfold fr_of at g3
        omega)
      have h2 : u.1 0 * 1000000 ≤ 10 * 1000000 := Nat.mul_le_mul_right _ hn
      omega
    refine Nat.le_of_not_lt fun hlt => ?_
    have hno := fs_fail2 (W1 := fw_W u m2) (M := fw_M u S) hfv (by rw [v1]; exact hn) (by decide) ht hm0 (cv_30 hst.2.2) (by unfold fw_W; rw [if_pos rfl]; omega) (fun e he hne => by unfold fw_W; rw [if_neg hne]; exact Nat.le_refl _) (fun e he h0 => ?_)
    · rw [v1, hfr] at hno
      exact hno hF
    · unfold fw_M
      by_cases q : e = 30
      · rw [if_pos q, q]
        exact v3.symm
      · rw [if_neg q, v4 e (by omega)]
        rcases h0 with h0 | h0
        · unfold cv_W at h0
          by_cases q2 : cvb u e = true
          · exact (hmk e he (cvb_iff.mp q2)).symm
          · rw [if_neg q2] at h0
            cases h0
        · exact absurd h0 q
theorem mo_jo {u v : pf_S} (h : mo_same u v) : jo_same u v := ⟨h.1, h.2.1⟩
theorem mo_rf {u : pf_S} : mo_same u u := ⟨rfl, fun _ _ => rfl, fun _ _ => rfl, fun _ _ => rfl, fun _ _ => rfl⟩
theorem mo_tr {u v w : pf_S} (h : mo_same u v) (g : mo_same v w) : mo_same u w := ⟨g.1.trans h.1, fun j hj => (g.2.1 j hj).trans (h.2.1 j hj), fun j hj => (g.2.2.1 j hj).trans (h.2.2.1 j hj), fun j hj => (g.2.2.2.1 j hj).trans (h.2.2.2.1 j hj), fun d hd => (g.2.2.2.2 d hd).trans (h.2.2.2.2 d hd)⟩
theorem jo_m {u v : pf_S} (h : jo_same u v) (d : Nat) : cmk v d = cmk u d := se_m (se_of h) d
theorem jo_cvb {u v : pf_S} (h : jo_same u v) (d : Nat) : cvb v d = cvb u d := by
  unfold cvb
  rw [h.1, h.2 18 (by decide), jo_n h]
theorem jo_cv {u v : pf_S} (h : jo_same u v) : cv_W v = cv_W u := by
  funext d
  unfold cv_W
  rw [jo_cvb h, jo_w h]
/-- after a trial the class is as it was -/
theorem mo_cls {u v : pf_S} (hc : cls u) (h : mo_same u v) (h30 : ∀ a, (v.2 23 30).testBit a = true → a < u.1 0) : cls v := by
  obtain ⟨hst, hf, hmk, hpl⟩ := hc
  have hj := mo_jo h
  have hn := hst.2.1.1
  have hus : us_ok v := fun d hd a ha => by
    rw [h.1, hf.1]
    by_cases q : d = 30
    · rw [q] at ha
      exact h30 a ha
    · rw [h.2.2.2.2 d (by omega)] at ha
      rw [← hf.1]
      exact hf.2.2.1 d hd a ha
  have ec : ∀ e, cvd v e ↔ cvd u e := fun e => by rw [← cvb_iff, ← cvb_iff, jo_cvb hj]
  have e30 : ∀ e, cvd u e → e < 30 := fun e he => by
    have h1 := he.1
    have h2 := hst.2.2.1
    omega
  have hx : ∀ e b, e < 31 → b < 10 → tk_x v e b = tk_x u e b := fun e b he hb => by
    unfold tk_x
    exact h.2.2.2.1 _ (by omega)
  refine ⟨pf_st_of hj hst, ?_, fun d hd hcd => ?_, fun d hd hcd => ?_⟩
  · rw [jo_cv hj]
    exact fs_back hf hn hj h.2.2.1 h.2.2.2.1 hus (fun d hd h0 => by
      unfold cv_W at h0
      by_cases q : cvb u d = true
      · exact h.2.2.2.2 d (e30 d (cvb_iff.mp q))
      · rw [if_neg q] at h0
        cases h0)
  · have hcu := (ec d).mp hcd
    rw [h.2.2.2.2 d (e30 d hcu), jo_m hj]
    exact hmk d hd hcu
  · have hcu := (ec d).mp hcd
    have hp := hpl d hd hcu
    have hrow := hf.2.1
    have k : ∀ j, j ∉ [21, 22, 23, 24, 25, 26, 27, 28] → v.2 j = u.2 j := hj.2
    have hn0 : v.1 0 = u.1 0 := by rw [hj.1]
    have m23 : ∀ e, cvd u e → v.2 23 e = u.2 23 e := fun e he => h.2.2.2.2 e (e30 e he)
    rw [jo_cv hj]
    intro t ht hu
    rw [hn0] at ht
    rw [k 20 (by decide), m23 d hcu] at hu
    have hz : ∀ z, z < u.1 0 → tk_x v d (u.2 20 z) = tk_x u d (u.2 20 z) := fun z hz => hx d _ hd (by have := hrow.1 z hz; omega)
    rcases hp t ht hu with ⟨y, T, y1, y2, y3, y4, y5, y6⟩ | h1
    · left
      have y0 : ∀ e, e < 31 → ¬ cvd u e → ∀ a, a < u.1 0 → y e a = 0 := fun e he hne a ha => by
        have q1 := fl_sum_one (y e) ha
        rw [y1.1 e he] at q1
        unfold cv_W at q1
        rw [if_neg (fun s => hne (cvb_iff.mp s))] at q1
        omega
      refine ⟨y, T, ⟨by rw [hn0]; exact y1.1, fun e he a ha hp2 => ?_, by rw [hn0, k 12 (by decide), k 13 (by decide)]; exact y1.2.2⟩, fun e he hce hb a ha => ?_, by rw [hn0, k 12 (by decide), k 13 (by decide)]; exact y3, fun e he hce hb a ha hTa hp2 b hub => ?_, by rw [k 20 (by decide)]; exact y5, fun z h2 h3 h4 => ?_⟩
      · rw [hn0] at ha
        by_cases q : cvd u e
        · rw [m23 e q]
          exact y1.2.1 e he a ha hp2
        · rw [y0 e he q a ha] at hp2
          cases hp2
      · rw [hn0] at ha
        rw [hx e a he (by omega)]
        refine y2 e he ((ec e).mp hce) ?_ a ha
        unfold pbf at hb ⊢
        rw [k 17 (by decide)] at hb
        exact hb
      · rw [hn0] at ha
        have hcu2 := (ec e).mp hce
        rw [m23 e hcu2] at hub
        refine y4 e he hcu2 ?_ a ha hTa hp2 b hub
        unfold pbf at hb ⊢
        rw [k 17 (by decide)] at hb
        exact hb
      · rw [hn0] at h3
        rw [k 20 (by decide)] at h4 ⊢
        rw [hz z h3]
        exact y6 z h2 h3 h4
    · right
      intro z h2 h3
      rw [hn0] at h3
      rw [k 20 (by decide), hz z h3]
      exact h1 z h2 h3
theorem mx_of {u v : pf_S} {S k : Nat} (hj : jo_same u v) (h : mx v S k) : mx u S k := by
  have e1 : fw_W v = fw_W u := by
    funext m d
    unfold fw_W
    rw [jo_cv hj]
  have e2 : fw_M v = fw_M u := by
    funext s d
    unfold fw_M
    rw [jo_m hj]
  have e3 : fr_of v = fr_of u := by
    funext b
    unfold fr_of
    rw [hj.2 12 (by decide), hj.2 13 (by decide)]
  unfold mx at h ⊢
  rw [e1, e2, e3, hj.1] at h
  exact h
/-- of a set s of the demands of a good: its arrivals, and how many for one -/
def gf_m (u : pf_S) (g t s : Nat) : Nat → Nat
  | 0 => 0
  | i + 1 => if s.testBit i then gf_m u g t s i ||| us_f u (gd_dg u g i) t else gf_m u g t s i
def gf_o (u : pf_S) (g s : Nat) : Nat → Nat := fun i => fl_sum (fun x => if s.testBit x then gd_d1 u g x else 0) i
theorem gf_m_succ (u : pf_S) (g t s i : Nat) : gf_m u g t s (i + 1) = if s.testBit i then gf_m u g t s i ||| us_f u (gd_dg u g i) t else gf_m u g t s i := rfl
theorem gf_m_lt {u : pf_S} {g t s a : Nat} : ∀ {i : Nat}, (gf_m u g t s i).testBit a = true → a < u.1 0
  | 0, h => by simp [gf_m] at h
  | i + 1, h => by
    rw [gf_m_succ] at h
    split at h
    · rw [Nat.testBit_or, Bool.or_eq_true] at h
      rcases h with h | h
      · exact gf_m_lt h
      · exact us_f_lt h
    · exact gf_m_lt h
/-- the least over the sets from 1 to below n -/
def gf_inv (u : pf_S) (g t n k : Nat) : Prop := (∀ s, 1 ≤ s → s < n → 0 < gf_o u g s (gd_dn u g) → ∃ m, mx u (gf_m u g t s (gd_dn u g)) m ∧ k ≤ m / gf_o u g s (gd_dn u g)) ∧ (k = 10000001 ∨ ∃ s m, 1 ≤ s ∧ s < n ∧ 0 < gf_o u g s (gd_dn u g) ∧ mx u (gf_m u g t s (gd_dn u g)) m ∧ k = m / gf_o u g s (gd_dn u g))
theorem gf_step {u : pf_S} {g t n k m : Nat} (h : gf_inv u g t n k) (hn : 1 ≤ n) (ho : 0 < gf_o u g n (gd_dn u g)) (hm : mx u (gf_m u g t n (gd_dn u g)) m) : gf_inv u g t (n + 1) (Nat.min k (m / gf_o u g n (gd_dn u g))) := by
  refine ⟨fun s h1 h2 h3 => ?_, ?_⟩
  · by_cases q : s = n
    · subst q
      exact ⟨m, hm, Nat.min_le_right _ _⟩
    · obtain ⟨m2, g1, g2⟩ := h.1 s h1 (by omega) h3
      exact ⟨m2, g1, Nat.le_trans (Nat.min_le_left _ _) g2⟩
  · rcases Nat.le_total k (m / gf_o u g n (gd_dn u g)) with q | q
    · rw [show Nat.min k (m / gf_o u g n (gd_dn u g)) = k from Nat.min_eq_left q]
      rcases h.2 with g1 | ⟨s, m2, g1, g2, g3⟩
      · exact Or.inl g1
      · exact Or.inr ⟨s, m2, g1, by omega, g3⟩
    · rw [show Nat.min k (m / gf_o u g n (gd_dn u g)) = m / gf_o u g n (gd_dn u g) from Nat.min_eq_right q]
      exact Or.inr ⟨n, m, hn, by omega, ho, hm, rfl⟩
theorem gf_skip {u : pf_S} {g t n k : Nat} (h : gf_inv u g t n k) (ho : gf_o u g n (gd_dn u g) = 0) : gf_inv u g t (n + 1) k := by
  refine ⟨fun s h1 h2 h3 => ?_, ?_⟩
  · by_cases q : s = n
    · rw [q, ho] at h3
      cases h3
    · exact h.1 s h1 (by omega) h3
  · rcases h.2 with g1 | ⟨s, m2, g1, g2, g3⟩
    · exact Or.inl g1
    · exact Or.inr ⟨s, m2, g1, by omega, g3⟩
theorem gf_le {u : pf_S} {g t n k : Nat} (h : gf_inv u g t n k) (hx : ∀ S m, mx u S m → m ≤ 10000001) : k ≤ 10000001 := by
  rcases h.2 with g1 | ⟨s, m, g1, g2, g3, g4, g5⟩
  · omega
  · have := hx _ m g4
    have := Nat.div_le_self m (gf_o u g s (gd_dn u g))
    omega
theorem mx_le {u : pf_S} (hst : pf_st u) {S m : Nat} (h : mx u S m) : m ≤ 10000001 := by
  obtain ⟨y, y1, y2, y3⟩ := h.1
  have h1 := y1 30 (by decide)
  unfold fw_W at h1
  rw [if_pos rfl] at h1
  have h2 : fl_sum (y 30) (u.1 0) ≤ u.1 0 * 1000000 := sum_le_c (fun a ha => by
    have g1 := y3 a ha
    have g2 := fl_sum_one (fun e => y e a) (show 30 < 31 by decide)
    have g3 := fr_le hst.2.1 a (by have := hst.2.1.1; omega)
    exact Nat.le_trans g2 (Nat.le_trans g1 g3))
  have h3 : u.1 0 * 1000000 ≤ 10 * 1000000 := Nat.mul_le_mul_right _ hst.2.1.1
  omega
section GWF
variable {p : Program} {l : Launch} {e : Env} {R : Room} {s : State} {m : MethodId} {args : Array Value} {below : List Frame} {meth : Method} {c : Code} {H : Heap} {locs : List Loc} {cells slots : Nat} {Q : State → Prop}
variable {cc : ByteArray} {pc : Nat} {ls : Array Slot} {rest : List Value} {G : gw_G} {own : String} {nL : Nat} {ret : Option FieldType}
theorem gw_idiv {x y : Nat} (C : gw_C p s m args meth c G own cc nL ret) (hdg : decode cc pc = .ok (.idiv, 1)) (hx : x < 2 ^ 31) (h0 : 0 < y) (hy : y < 2 ^ 31) (kk : W p l e R s m args below meth c H locs cells slots Q (F0 m (pc + 1) ls (.int (nI (x / y)) :: rest))) : W p l e R s m args below meth c H locs cells slots Q (F0 m pc ls (.int (nI y) :: .int (nI x) :: rest)) :=
  lv_idiv C.1 C.2.1 hdg (nI_ne0 h0 hy) (by rw [pk_div hx h0 hy]; exact kk)
end GWF
set_option maxHeartbeats 4000000 in
set_option maxRecDepth 100000 in
theorem c_X4_takesFrom (l : Launch) (G : gw_G) (q : Nat → Nat) (u : pf_S) (a : Nat) (S : Nat) (hgd : gd_ok u) (hod : od_ok u) (hcap : tk_cap u) (ha : a < 10) : gw_MI l yX4_takesFrom cX4_takesFrom 4 (some .boolean) 3 63 [.ref (q 0), .int (nI (a)), .int (nI (S))] G (pw G q) u (fun r u1 => ∃ k : Nat, r = nI k ∧ (((k = 1 ∧ ∃ x, x < od_n u a ∧ ∃ b, b < u.1 2 ∧ S.testBit b = true ∧ 0 < tk_x u (a * 3 + x) b) ∨ (k = 0 ∧ ∀ x, x < od_n u a → ∀ b, b < u.1 2 → S.testBit b = true → tk_x u (a * 3 + x) b = 0)) ∧ u1 = u)) := by
  refine gw_entryI (own := RX4) (by decide) rfl (Nat.le_of_ble_eq_true rfl) ?_
  intro p e s m args below meth c A ls C Hh hl
  have hl : lv_has ls 4 [(0, .ref (q 0)), (1, .int (nI (a))), (2, .int (nI (S)))] := hl
  have hnn := gd_dn_le hgd (hod.2.2.1 a ha)
  change 1 ≤ od_n u a ∧ od_n u a ≤ 3 at hnn
  refine lv_iconst (v := nI 0) C.1 C.2.1 dX4_takesFrom_0 (by decide +kernel) ?_
  refine lv_istore_n (lv' := [(3, .int (nI (0))), (0, .ref (q 0)), (1, .int (nI (a))), (2, .int (nI (S)))]) C.1 C.2.1 dX4_takesFrom_1 rfl hl (by decide) rfl (fun ls hl => ?_)
  have loop_2 : ∀ (fu : Nat) (i : Nat) (H : Heap) (locs : List Loc) (ls : Array Slot), (i ≤ od_n u a) → (∀ x, x < i → ∀ b, b < u.1 2 → S.testBit b = true → tk_x u (a * 3 + x) b = 0) → 3 - i < fu → gw_H G A s (pw G q u) H locs → lv_has ls 4 [(0, .ref (q 0)), (1, .int (nI (a))), (2, .int (nI (S))), (3, .int (nI (i)))] → W p l e (gw_rm 3 63) s m args below meth c H locs 0 0 (MQ below (va_Qi (fun r u1 => ∃ k : Nat, r = nI k ∧ (((k = 1 ∧ ∃ x, x < od_n u a ∧ ∃ b, b < u.1 2 ∧ S.testBit b = true ∧ 0 < tk_x u (a * 3 + x) b) ∨ (k = 0 ∧ ∀ x, x < od_n u a → ∀ b, b < u.1 2 → S.testBit b = true → tk_x u (a * 3 + x) b = 0)) ∧ u1 = u)) (gw_at G A (pw G q)) A) args s 0 0 A) (F0 m 2 ls []) := by
    intro fu
    induction fu with
    | zero =>
      intro i  H locs ls hi hno hmf
      exact absurd hmf (Nat.not_lt_zero _)
    | succ fu ih_2 =>
      intro i  H locs ls hi hno hmf Hh hl
      refine lv_iload_n C.1 C.2.1 dX4_takesFrom_2 rfl (lv_at hl 3 rfl) ?_
      refine lv_aload_n C.1 C.2.1 dX4_takesFrom_3 rfl (lv_at hl 0 rfl) ?_
      refine lv_iload_n C.1 C.2.1 dX4_takesFrom_4 rfl (lv_at hl 1 rfl) ?_
      refine gw_fromI (w := pw G q) (u := u) C Hh (gw_runV (n := 1) (C1 := RX4) [.int (nI (a))] C Hh (c_X4_demandsOf l G q (u) (a) (by first | assumption | omega) (by first | assumption | omega) (by first | assumption | omega) _) tw_251 tw_253 tw_4 tw_66 tw_254 (by decide +kernel) ⟨Nat.le_of_ble_eq_true rfl, Nat.le_of_ble_eq_true rfl⟩ 0 pw_at0 rfl rfl hl.1 (Nat.le_of_ble_eq_true rfl) dX4_takesFrom_5 ⟨Nat.zero_le _, Nat.zero_le _⟩) (fun rc_5 uc_5 H locs hp_5 Hh => ?_)
      obtain ⟨kc_5, rfl, hp_5⟩ := hp_5
      obtain ⟨hk_5, hu_5⟩ := hp_5
      rw [hu_5] at Hh
      clear hu_5
      refine gw_icmp_ge (tgt := 35) C dX4_takesFrom_8 (by decide) (by omega) (by omega) (fun hc_8 => ?_) (fun hc_8 => ?_)
      · skip
        refine lv_iconst (v := nI 0) C.1 C.2.1 dX4_takesFrom_35 (by decide +kernel) ?_
        exact gw_zret (w := pw G q) (u := u) C Hh dX4_takesFrom_36 (by omega) ⟨_, rfl, by exact ⟨Or.inr ⟨rfl, fun j h => hno j (by omega)⟩, rfl⟩⟩
      · skip
        refine lv_aload_n C.1 C.2.1 dX4_takesFrom_11 rfl (lv_at hl 0 rfl) ?_
        refine gw_get (Cn := RX4) (T := TX4) (N := 4) C Hh 0 pw_at0 rfl uwX4 3 (by decide) rfl tw_221 rfl dX4_takesFrom_12 ?_
        refine lv_iload_n C.1 C.2.1 dX4_takesFrom_15 rfl (lv_at hl 1 rfl) ?_
        refine lv_iload_n C.1 C.2.1 dX4_takesFrom_16 rfl (lv_at hl 3 rfl) ?_
        refine gw_fromI (w := pw G q) (u := u) C Hh (gw_runS (n := 2) [.int (nI (a)), .int (nI (i))] C Hh (c_X4_demandAt l G q (u) (a) (i)  _) tw_426 tw_427 tw_66 tw_428 (by decide +kernel) ⟨Nat.le_of_ble_eq_true rfl, Nat.le_of_ble_eq_true rfl⟩ rfl hl.1 (Nat.le_of_ble_eq_true rfl) dX4_takesFrom_17 ⟨Nat.zero_le _, Nat.zero_le _⟩) (fun rc_17 uc_17 H locs hp_17 Hh => ?_)
        obtain ⟨kc_17, rfl, hp_17⟩ := hp_17
        obtain ⟨hk_17, hu_17⟩ := hp_17
        rw [hu_17] at Hh
        clear hu_17
        subst hk_17
        refine lv_iload_n C.1 C.2.1 dX4_takesFrom_20 rfl (lv_at hl 2 rfl) ?_
        refine gw_fromI (w := pw G q) (u := u) C Hh (gw_runVN (n := 2) (C1 := RX3) [.int (nI (a * 3 + i)), .int (nI (S))] C Hh (c_X3_takesFrom l G q (u) (a * 3 + i) (S) (by first | assumption | omega) (by first | assumption | omega) _) tw_683 tw_685 tw_45 tw_70 tw_686 (by decide +kernel) ⟨Nat.le_of_ble_eq_true rfl, Nat.le_of_ble_eq_true rfl⟩ 4 pw_at4 rfl rfl hl.1 (Nat.le_of_ble_eq_true rfl) dX4_takesFrom_21 ⟨Nat.zero_le _, Nat.zero_le _⟩) (fun rc_21 uc_21 H locs hp_21 Hh => ?_)
        obtain ⟨kc_21, rfl, hp_21⟩ := hp_21
        obtain ⟨hk_21, hu_21⟩ := hp_21
        rw [hu_21] at Hh
        clear hu_21
        refine gw_if_eq (tgt := 29) C dX4_takesFrom_24 (by decide) (by omega) (fun hc_24 => ?_) (fun hc_24 => ?_)
        · skip
          refine lv_iinc (v := nI (i + 1)) (lv' := [(3, .int (nI (i + 1))), (0, .ref (q 0)), (1, .int (nI (a))), (2, .int (nI (S)))]) C.1 C.2.1 dX4_takesFrom_29 hl (k := 3) rfl (nI_add _ 1) (by decide) rfl (fun ls hl => ?_)
          refine lv_goto (tgt := 2) C.1 C.2.1 dX4_takesFrom_32 (by decide) ?_
          exact ih_2 (i + 1)  _ _ _ (by first | assumption | omega) (by intro o h; by_cases h1 : o = i; (subst h1; rcases hk_21 with h2 | h2; (omega); exact h2.2); exact hno o (by omega)) (by omega) Hh (lv_sub hl [1, 2, 3, 0] rfl)
        · skip
          refine lv_iconst (v := nI 1) C.1 C.2.1 dX4_takesFrom_27 (by decide +kernel) ?_
          exact gw_zret (w := pw G q) (u := u) C Hh dX4_takesFrom_28 (by omega) ⟨_, rfl, by refine ⟨Or.inl ⟨rfl, i, by omega, ?_⟩, rfl⟩; rcases hk_21 with h2 | h2; (exact h2.2); omega⟩
  exact loop_2 _ (0)  _ _ _ (by first | assumption | omega) (by intro o h; omega) (Nat.lt_succ_self _) Hh (lv_sub hl [1, 2, 3, 0] rfl)
set_option maxHeartbeats 4000000 in
set_option maxRecDepth 100000 in
theorem c_X4_allCoveredDemands (l : Launch) (G : gw_G) (q : Nat → Nat) (u : pf_S)  (hgd : gd_ok u) (hod : od_ok u) : gw_MI l yX4_allCoveredDemands cX4_allCoveredDemands 4 (some .int) 3 65 [.ref (q 0)] G (pw G q) u (fun r u1 => ∃ k : Nat, r = nI k ∧ (k = fl_sum (fun a => if u.2 18 a = 0 then fl_sum (od_w u a) (od_n u a) else 0) (u.1 1) ∧ u1 = u)) := by
  refine gw_entryI (own := RX4) (by decide) rfl (Nat.le_of_ble_eq_true rfl) ?_
  intro p e s m args below meth c A ls C Hh hl
  have hl : lv_has ls 4 [(0, .ref (q 0))] := hl
  have h0 := hod.1
  refine lv_iconst (v := nI 0) C.1 C.2.1 dX4_allCoveredDemands_0 (by decide +kernel) ?_
  refine lv_istore_n (lv' := [(1, .int (nI (0))), (0, .ref (q 0))]) C.1 C.2.1 dX4_allCoveredDemands_1 rfl hl (by decide) rfl (fun ls hl => ?_)
  refine lv_iconst (v := nI 0) C.1 C.2.1 dX4_allCoveredDemands_2 (by decide +kernel) ?_
  refine lv_istore_n (lv' := [(2, .int (nI (0))), (1, .int (nI (0))), (0, .ref (q 0))]) C.1 C.2.1 dX4_allCoveredDemands_3 rfl hl (by decide) rfl (fun ls hl => ?_)
  have loop_4 : ∀ (fu : Nat) (i : Nat) (z : Nat) (H : Heap) (locs : List Loc) (ls : Array Slot), (i ≤ u.1 1) → (z = fl_sum (fun a => if u.2 18 a = 0 then fl_sum (od_w u a) (od_n u a) else 0) i) → u.1 1 - i < fu → gw_H G A s (pw G q u) H locs → lv_has ls 4 [(0, .ref (q 0)), (1, .int (nI (z))), (2, .int (nI (i)))] → W p l e (gw_rm 3 65) s m args below meth c H locs 0 0 (MQ below (va_Qi (fun r u1 => ∃ k : Nat, r = nI k ∧ (k = fl_sum (fun a => if u.2 18 a = 0 then fl_sum (od_w u a) (od_n u a) else 0) (u.1 1) ∧ u1 = u)) (gw_at G A (pw G q)) A) args s 0 0 A) (F0 m 4 ls []) := by
    intro fu
    induction fu with
    | zero =>
      intro i z  H locs ls hi hz hmf
      exact absurd hmf (Nat.not_lt_zero _)
    | succ fu ih_4 =>
      intro i z  H locs ls hi hz hmf Hh hl
      refine lv_iload_n C.1 C.2.1 dX4_allCoveredDemands_4 rfl (lv_at hl 2 rfl) ?_
      refine lv_aload_n C.1 C.2.1 dX4_allCoveredDemands_5 rfl (lv_at hl 0 rfl) ?_
      refine gw_get (Cn := RX4) (T := TX4) (N := 4) C Hh 0 pw_at0 rfl uwX4 2 (by decide) rfl tw_220 rfl dX4_allCoveredDemands_6 ?_
      refine gw_getN (Cn := RX2) (T := TX2) (N := 7) C Hh 3 pw_at3 rfl uwX2 0 (by decide) rfl tw_152 rfl dX4_allCoveredDemands_9 ?_
      refine gw_icmp_ge (tgt := 59) C dX4_allCoveredDemands_12 (by decide) (by omega) (by omega) (fun hc_12 => ?_) (fun hc_12 => ?_)
      · skip
        refine lv_iload_n C.1 C.2.1 dX4_allCoveredDemands_59 rfl (lv_at hl 1 rfl) ?_
        exact gw_iret (w := pw G q) (u := u) C Hh dX4_allCoveredDemands_60 ⟨_, rfl, by refine ⟨?_, rfl⟩; rw [hz, show i = u.1 1 by omega]⟩
      · skip
        refine lv_aload_n C.1 C.2.1 dX4_allCoveredDemands_15 rfl (lv_at hl 0 rfl) ?_
        refine gw_get (Cn := RX4) (T := TX4) (N := 4) C Hh 0 pw_at0 rfl uwX4 2 (by decide) rfl tw_220 rfl dX4_allCoveredDemands_16 ?_
        refine gw_getN (Cn := RX2) (T := TX2) (N := 7) C Hh 3 pw_at3 rfl uwX2 5 (by decide) rfl tw_161 rfl dX4_allCoveredDemands_19 ?_
        refine lv_iload_n C.1 C.2.1 dX4_allCoveredDemands_22 rfl (lv_at hl 2 rfl) ?_
        refine gw_ld C Hh 18 pw_at18 (by decide) dX4_allCoveredDemands_23 (by omega) ?_
        have join_53 : ∀ (z2 : Nat) (H : Heap) (locs : List Loc) (ls : Array Slot), (z2 = fl_sum (fun a => if u.2 18 a = 0 then fl_sum (od_w u a) (od_n u a) else 0) (i + 1)) → gw_H G A s (pw G q u) H locs → lv_has ls 4 [(0, .ref (q 0)), (1, .int (nI (z2))), (2, .int (nI (i)))] → W p l e (gw_rm 3 65) s m args below meth c H locs 0 0 (MQ below (va_Qi (fun r u1 => ∃ k : Nat, r = nI k ∧ (k = fl_sum (fun a => if u.2 18 a = 0 then fl_sum (od_w u a) (od_n u a) else 0) (u.1 1) ∧ u1 = u)) (gw_at G A (pw G q)) A) args s 0 0 A) (F0 m 53 ls []) := by
          intro z2  H locs ls hz2 Hh hl
          refine lv_iinc (v := nI (i + 1)) (lv' := [(2, .int (nI (i + 1))), (0, .ref (q 0)), (1, .int (nI (z2)))]) C.1 C.2.1 dX4_allCoveredDemands_53 hl (k := 2) rfl (nI_add _ 1) (by decide) rfl (fun ls hl => ?_)
          refine lv_goto (tgt := 4) C.1 C.2.1 dX4_allCoveredDemands_56 (by decide) ?_
          exact ih_4 (i + 1) (z2)  _ _ _ (by first | assumption | omega) (by exact hz2) (by omega) Hh (lv_sub hl [1, 2, 0] rfl)
        have h18 := hod.2.2.2.2.2.1 i (by omega)
        refine gw_if_ne (tgt := 53) C dX4_allCoveredDemands_24 (by decide) (by omega) (fun hc_24 => ?_) (fun hc_24 => ?_)
        · skip
          exact join_53 (z)  _ _ _ (by rw [hz, fl_sum_succ, if_neg (by omega)]; rfl) Hh (lv_sub hl [0, 1, 2] rfl)
        · skip
          refine lv_iconst (v := nI 0) C.1 C.2.1 dX4_allCoveredDemands_27 (by decide +kernel) ?_
          refine lv_istore_n (lv' := [(3, .int (nI (0))), (0, .ref (q 0)), (1, .int (nI (z))), (2, .int (nI (i)))]) C.1 C.2.1 dX4_allCoveredDemands_28 rfl hl (by decide) rfl (fun ls hl => ?_)
          have loop_29 : ∀ (fu : Nat) (x : Nat) (zz : Nat) (H : Heap) (locs : List Loc) (ls : Array Slot), (x ≤ od_n u i) → (zz = z + fl_sum (od_w u i) x) → 3 - x < fu → gw_H G A s (pw G q u) H locs → lv_has ls 4 [(0, .ref (q 0)), (1, .int (nI (zz))), (2, .int (nI (i))), (3, .int (nI (x)))] → W p l e (gw_rm 3 65) s m args below meth c H locs 0 0 (MQ below (va_Qi (fun r u1 => ∃ k : Nat, r = nI k ∧ (k = fl_sum (fun a => if u.2 18 a = 0 then fl_sum (od_w u a) (od_n u a) else 0) (u.1 1) ∧ u1 = u)) (gw_at G A (pw G q)) A) args s 0 0 A) (F0 m 29 ls []) := by
            intro fu
            induction fu with
            | zero =>
              intro x zz  H locs ls hx hzz hmf
              exact absurd hmf (Nat.not_lt_zero _)
            | succ fu ih_29 =>
              intro x zz  H locs ls hx hzz hmf Hh hl
              have hnn := gd_dn_le hgd (hod.2.2.1 i (by omega))
              change 1 ≤ od_n u i ∧ od_n u i ≤ 3 at hnn
              refine lv_iload_n C.1 C.2.1 dX4_allCoveredDemands_29 rfl (lv_at hl 3 rfl) ?_
              refine lv_aload_n C.1 C.2.1 dX4_allCoveredDemands_30 rfl (lv_at hl 0 rfl) ?_
              refine lv_iload_n C.1 C.2.1 dX4_allCoveredDemands_31 rfl (lv_at hl 2 rfl) ?_
              refine gw_fromI (w := pw G q) (u := u) C Hh (gw_runV (n := 1) (C1 := RX4) [.int (nI (i))] C Hh (c_X4_demandsOf l G q (u) (i) (by first | assumption | omega) (by first | assumption | omega) (by first | assumption | omega) _) tw_251 tw_253 tw_4 tw_66 tw_254 (by decide +kernel) ⟨Nat.le_of_ble_eq_true rfl, Nat.le_of_ble_eq_true rfl⟩ 0 pw_at0 rfl rfl hl.1 (Nat.le_of_ble_eq_true rfl) dX4_allCoveredDemands_32 ⟨Nat.zero_le _, Nat.zero_le _⟩) (fun rc_32 uc_32 H locs hp_32 Hh => ?_)
              obtain ⟨kc_32, rfl, hp_32⟩ := hp_32
              obtain ⟨hk_32, hu_32⟩ := hp_32
              rw [hu_32] at Hh
              clear hu_32
              refine gw_icmp_ge (tgt := 53) C dX4_allCoveredDemands_35 (by decide) (by omega) (by omega) (fun hc_35 => ?_) (fun hc_35 => ?_)
              · skip
                exact join_53 (zz)  _ _ _ (by rw [hzz, hz, fl_sum_succ, if_pos hc_24, show x = od_n u i by omega]) Hh (lv_sub hl [0, 1, 2] rfl)
              · skip
                refine lv_iload_n C.1 C.2.1 dX4_allCoveredDemands_38 rfl (lv_at hl 1 rfl) ?_
                refine lv_aload_n C.1 C.2.1 dX4_allCoveredDemands_39 rfl (lv_at hl 0 rfl) ?_
                refine lv_iload_n C.1 C.2.1 dX4_allCoveredDemands_40 rfl (lv_at hl 2 rfl) ?_
                refine lv_iload_n C.1 C.2.1 dX4_allCoveredDemands_41 rfl (lv_at hl 3 rfl) ?_
                refine gw_fromI (w := pw G q) (u := u) C Hh (gw_runV (n := 2) (C1 := RX4) [.int (nI (i)), .int (nI (x))] C Hh (c_X4_wantedBy l G q (u) (i) (x) (by first | assumption | omega) (by first | assumption | omega) (by first | assumption | omega) (by first | assumption | omega) _) tw_263 tw_265 tw_7 tw_66 tw_266 (by decide +kernel) ⟨Nat.le_of_ble_eq_true rfl, Nat.le_of_ble_eq_true rfl⟩ 0 pw_at0 rfl rfl hl.1 (Nat.le_of_ble_eq_true rfl) dX4_allCoveredDemands_42 ⟨Nat.zero_le _, Nat.zero_le _⟩) (fun rc_42 uc_42 H locs hp_42 Hh => ?_)
                obtain ⟨kc_42, rfl, hp_42⟩ := hp_42
                obtain ⟨hk_42, hu_42⟩ := hp_42
                rw [hu_42] at Hh
                clear hu_42
                refine gw_iadd C dX4_allCoveredDemands_45 ?_
                refine lv_istore_n (lv' := [(1, .int (nI (zz + kc_42))), (0, .ref (q 0)), (2, .int (nI (i))), (3, .int (nI (x)))]) C.1 C.2.1 dX4_allCoveredDemands_46 rfl hl (by decide) rfl (fun ls hl => ?_)
                refine lv_iinc (v := nI (x + 1)) (lv' := [(3, .int (nI (x + 1))), (1, .int (nI (zz + kc_42))), (0, .ref (q 0)), (2, .int (nI (i)))]) C.1 C.2.1 dX4_allCoveredDemands_47 hl (k := 3) rfl (nI_add _ 1) (by decide) rfl (fun ls hl => ?_)
                refine lv_goto (tgt := 29) C.1 C.2.1 dX4_allCoveredDemands_50 (by decide) ?_
                exact ih_29 (x + 1) (zz + kc_42)  _ _ _ (by first | assumption | omega) (by rw [hzz, hk_42, fl_sum_succ]; omega) (by omega) Hh (lv_sub hl [2, 1, 3, 0] rfl)
          exact loop_29 _ (0) (z)  _ _ _ (by first | assumption | omega) (by rfl) (Nat.lt_succ_self _) Hh (lv_sub hl [1, 2, 3, 0] rfl)
  exact loop_4 _ (0) (0)  _ _ _ (by first | assumption | omega) (by rfl) (Nat.lt_succ_self _) Hh (lv_sub hl [2, 1, 0] rfl)
set_option maxHeartbeats 4000000 in
set_option maxRecDepth 100000 in
theorem c_X4_greatestFurther (l : Launch) (G : gw_G) (q : Nat → Nat) (u : pf_S) (g : Nat) (t : Nat) (hc : cls u) (hg : g < 6) (ht : t < 100) : gw_MI l yX4_greatestFurther cX4_greatestFurther 9 (some .int) 5 131 [.ref (q 0), .int (nI (g)), .int (nI (t))] G (pw G q) u (fun r u1 => ∃ k : Nat, r = nI k ∧ (mo_same u u1 ∧ cls u1 ∧ gf_inv u g t (1 <<< gd_dn u g) k)) := by
  refine gw_entryI (own := RX4) (by decide) rfl (Nat.le_of_ble_eq_true rfl) ?_
  intro p e s m args below meth c A ls C Hh hl
  have hl : lv_has ls 9 [(0, .ref (q 0)), (1, .int (nI (g))), (2, .int (nI (t)))] := hl
  have hst := hc.1
  have hdl := gd_dn_le hst.1 hg
  have hsh : 1 <<< gd_dn u g ≤ 8 := by rw [Nat.one_shiftLeft]; exact Nat.pow_le_pow_right (by decide) hdl.2
  have hsh2 : 2 ≤ 1 <<< gd_dn u g := by rw [Nat.one_shiftLeft]; exact Nat.pow_le_pow_right (n := 2) (i := 1) (by decide) hdl.1
  refine lv_iconst (v := nI 1) C.1 C.2.1 dX4_greatestFurther_0 (by decide +kernel) ?_
  refine lv_aload_n C.1 C.2.1 dX4_greatestFurther_1 rfl (lv_at hl 0 rfl) ?_
  refine gw_get (Cn := RX4) (T := TX4) (N := 4) C Hh 0 pw_at0 rfl uwX4 0 (by decide) rfl tw_218 rfl dX4_greatestFurther_2 ?_
  refine lv_iload_n C.1 C.2.1 dX4_greatestFurther_5 rfl (lv_at hl 1 rfl) ?_
  refine gw_fromI (w := pw G q) (u := u) C Hh (gw_runVN (n := 1) (C1 := RX1) [.int (nI (g))] C Hh (c_X1_demandsOf l G q (u) (g) (by exact hst.1) (by first | assumption | omega) _) tw_255 tw_257 tw_5 tw_67 tw_258 (by decide +kernel) ⟨Nat.le_of_ble_eq_true rfl, Nat.le_of_ble_eq_true rfl⟩ 1 pw_at1 rfl rfl hl.1 (Nat.le_of_ble_eq_true rfl) dX4_greatestFurther_6 ⟨Nat.zero_le _, Nat.zero_le _⟩) (fun rc_6 uc_6 H locs hp_6 Hh => ?_)
  obtain ⟨kc_6, rfl, hp_6⟩ := hp_6
  obtain ⟨hk_6, hu_6⟩ := hp_6
  rw [hu_6] at Hh
  clear hu_6
  refine gw_ishl C dX4_greatestFurther_9 (by rw [hk_6]; omega) ?_
  rw [hk_6]
  refine lv_istore_n (lv' := [(3, .int (nI (1 <<< gd_dn u g))), (0, .ref (q 0)), (1, .int (nI (g))), (2, .int (nI (t)))]) C.1 C.2.1 dX4_greatestFurther_10 rfl hl (by decide) rfl (fun ls hl => ?_)
  refine lv_ldcw (v := nI 10000001) C.1 C.2.1 C.cl (C.ts tw_626) dX4_greatestFurther_11 ?_
  refine lv_istore (lv' := [(4, .int (nI (10000001))), (3, .int (nI (1 <<< gd_dn u g))), (0, .ref (q 0)), (1, .int (nI (g))), (2, .int (nI (t)))]) C.1 C.2.1 dX4_greatestFurther_14 hl (by decide) rfl (fun ls hl => ?_)
  refine lv_iconst (v := nI 1) C.1 C.2.1 dX4_greatestFurther_16 (by decide +kernel) ?_
  refine lv_istore (lv' := [(5, .int (nI (1))), (4, .int (nI (10000001))), (3, .int (nI (1 <<< gd_dn u g))), (0, .ref (q 0)), (1, .int (nI (g))), (2, .int (nI (t)))]) C.1 C.2.1 dX4_greatestFurther_17 hl (by decide) rfl (fun ls hl => ?_)
  have loop_19 : ∀ (fu : Nat) (se : Nat) (gr : Nat) (uc : pf_S) (H : Heap) (locs : List Loc) (ls : Array Slot), (1 ≤ se) → (se ≤ 1 <<< gd_dn u g) → (mo_same u uc) → (cls uc) → (gf_inv u g t se gr) → 8 - se < fu → gw_H G A s (pw G q uc) H locs → lv_has ls 9 [(0, .ref (q 0)), (1, .int (nI (g))), (2, .int (nI (t))), (3, .int (nI (1 <<< gd_dn u g))), (4, .int (nI (gr))), (5, .int (nI (se)))] → W p l e (gw_rm 5 131) s m args below meth c H locs 0 0 (MQ below (va_Qi (fun r u1 => ∃ k : Nat, r = nI k ∧ (mo_same u u1 ∧ cls u1 ∧ gf_inv u g t (1 <<< gd_dn u g) k)) (gw_at G A (pw G q)) A) args s 0 0 A) (F0 m 19 ls []) := by
    intro fu
    induction fu with
    | zero =>
      intro se gr uc H locs ls hse hse2 hv hcc hgf hmf
      exact absurd hmf (Nat.not_lt_zero _)
    | succ fu ih_19 =>
      intro se gr uc H locs ls hse hse2 hv hcc hgf hmf Hh hl
      have hgr := gf_le hgf (fun S m h9 => mx_le hc.1 h9)
      have hj := mo_jo hv
      have hdn : gd_dn uc g = gd_dn u g := by unfold gd_dn; rw [hj.2 7 (by decide)]
      refine lv_iload C.1 C.2.1 dX4_greatestFurther_19 (lv_at hl 5 rfl) ?_
      refine lv_iload_n C.1 C.2.1 dX4_greatestFurther_21 rfl (lv_at hl 3 rfl) ?_
      refine gw_icmp_ge (tgt := 128) C dX4_greatestFurther_22 (by decide) (by omega) (by omega) (fun hc_22 => ?_) (fun hc_22 => ?_)
      · skip
        refine lv_iload C.1 C.2.1 dX4_greatestFurther_128 (lv_at hl 4 rfl) ?_
        exact gw_iret (w := pw G q) (u := uc) C Hh dX4_greatestFurther_130 ⟨_, rfl, by have hen : se = 1 <<< gd_dn u g := (by omega); rw [← hen]; exact ⟨hv, hcc, hgf⟩⟩
      · skip
        refine lv_iconst (v := nI 0) C.1 C.2.1 dX4_greatestFurther_25 (by decide +kernel) ?_
        refine lv_istore (lv' := [(6, .int (nI (0))), (0, .ref (q 0)), (1, .int (nI (g))), (2, .int (nI (t))), (3, .int (nI (1 <<< gd_dn u g))), (4, .int (nI (gr))), (5, .int (nI (se)))]) C.1 C.2.1 dX4_greatestFurther_26 hl (by decide) rfl (fun ls hl => ?_)
        refine lv_iconst (v := nI 0) C.1 C.2.1 dX4_greatestFurther_28 (by decide +kernel) ?_
        refine lv_istore (lv' := [(7, .int (nI (0))), (6, .int (nI (0))), (0, .ref (q 0)), (1, .int (nI (g))), (2, .int (nI (t))), (3, .int (nI (1 <<< gd_dn u g))), (4, .int (nI (gr))), (5, .int (nI (se)))]) C.1 C.2.1 dX4_greatestFurther_29 hl (by decide) rfl (fun ls hl => ?_)
        refine lv_iconst (v := nI 0) C.1 C.2.1 dX4_greatestFurther_31 (by decide +kernel) ?_
        refine lv_istore (lv' := [(8, .int (nI (0))), (7, .int (nI (0))), (6, .int (nI (0))), (0, .ref (q 0)), (1, .int (nI (g))), (2, .int (nI (t))), (3, .int (nI (1 <<< gd_dn u g))), (4, .int (nI (gr))), (5, .int (nI (se)))]) C.1 C.2.1 dX4_greatestFurther_32 hl (by decide) rfl (fun ls hl => ?_)
        have loop_34 : ∀ (fu : Nat) (x : Nat) (um : Nat) (on : Nat) (H : Heap) (locs : List Loc) (ls : Array Slot), (x ≤ gd_dn u g) → (um = gf_m u g t se x) → (on = gf_o u g se x) → (on ≤ 100 * x) → 3 - x < fu → gw_H G A s (pw G q uc) H locs → lv_has ls 9 [(0, .ref (q 0)), (1, .int (nI (g))), (2, .int (nI (t))), (3, .int (nI (1 <<< gd_dn u g))), (4, .int (nI (gr))), (5, .int (nI (se))), (6, .int (nI (um))), (7, .int (nI (on))), (8, .int (nI (x)))] → W p l e (gw_rm 5 131) s m args below meth c H locs 0 0 (MQ below (va_Qi (fun r u1 => ∃ k : Nat, r = nI k ∧ (mo_same u u1 ∧ cls u1 ∧ gf_inv u g t (1 <<< gd_dn u g) k)) (gw_at G A (pw G q)) A) args s 0 0 A) (F0 m 34 ls []) := by
          intro fu
          induction fu with
          | zero =>
            intro x um on  H locs ls hx hum hon hon3 hmf
            exact absurd hmf (Nat.not_lt_zero _)
          | succ fu ih_34 =>
            intro x um on  H locs ls hx hum hon hon3 hmf Hh hl
            refine lv_iload C.1 C.2.1 dX4_greatestFurther_34 (lv_at hl 8 rfl) ?_
            refine lv_aload_n C.1 C.2.1 dX4_greatestFurther_36 rfl (lv_at hl 0 rfl) ?_
            refine gw_get (Cn := RX4) (T := TX4) (N := 4) C Hh 0 pw_at0 rfl uwX4 0 (by decide) rfl tw_218 rfl dX4_greatestFurther_37 ?_
            refine lv_iload_n C.1 C.2.1 dX4_greatestFurther_40 rfl (lv_at hl 1 rfl) ?_
            refine gw_fromI (w := pw G q) (u := uc) C Hh (gw_runVN (n := 1) (C1 := RX1) [.int (nI (g))] C Hh (c_X1_demandsOf l G q (uc) (g) (by exact hcc.1.1) (by first | assumption | omega) _) tw_255 tw_257 tw_5 tw_67 tw_258 (by decide +kernel) ⟨Nat.le_of_ble_eq_true rfl, Nat.le_of_ble_eq_true rfl⟩ 1 pw_at1 rfl rfl hl.1 (Nat.le_of_ble_eq_true rfl) dX4_greatestFurther_41 ⟨Nat.zero_le _, Nat.zero_le _⟩) (fun rc_41 uc_41 H locs hp_41 Hh => ?_)
            obtain ⟨kc_41, rfl, hp_41⟩ := hp_41
            obtain ⟨hk_41, hu_41⟩ := hp_41
            rw [hu_41] at Hh
            clear hu_41
            refine gw_icmp_ge (tgt := 98) C dX4_greatestFurther_44 (by decide) (by omega) (by omega) (fun hc_44 => ?_) (fun hc_44 => ?_)
            · skip
              have hin : x = gd_dn u g := by omega
              refine lv_iload C.1 C.2.1 dX4_greatestFurther_98 (lv_at hl 7 rfl) ?_
              have join_122 : ∀ (gr2 : Nat) (ud : pf_S) (H : Heap) (locs : List Loc) (ls : Array Slot), (mo_same u ud) → (cls ud) → (gf_inv u g t (se + 1) gr2) → gw_H G A s (pw G q ud) H locs → lv_has ls 9 [(0, .ref (q 0)), (1, .int (nI (g))), (2, .int (nI (t))), (3, .int (nI (1 <<< gd_dn u g))), (4, .int (nI (gr2))), (5, .int (nI (se)))] → W p l e (gw_rm 5 131) s m args below meth c H locs 0 0 (MQ below (va_Qi (fun r u1 => ∃ k : Nat, r = nI k ∧ (mo_same u u1 ∧ cls u1 ∧ gf_inv u g t (1 <<< gd_dn u g) k)) (gw_at G A (pw G q)) A) args s 0 0 A) (F0 m 122 ls []) := by
                intro gr2 ud H locs ls hv2 hcc2 hgf2 Hh hl
                refine lv_iinc (v := nI (se + 1)) (lv' := [(5, .int (nI (se + 1))), (0, .ref (q 0)), (1, .int (nI (g))), (2, .int (nI (t))), (3, .int (nI (1 <<< gd_dn u g))), (4, .int (nI (gr2)))]) C.1 C.2.1 dX4_greatestFurther_122 hl (k := 5) rfl (nI_add _ 1) (by decide) rfl (fun ls hl => ?_)
                refine lv_goto (tgt := 19) C.1 C.2.1 dX4_greatestFurther_125 (by decide) ?_
                exact ih_19 (se + 1) (gr2) (ud) _ _ _ (by first | assumption | omega) (by first | assumption | omega) (by exact hv2) (by exact hcc2) (by exact hgf2) (by omega) Hh (lv_sub hl [1, 2, 3, 4, 5, 0] rfl)
              refine gw_if_le (tgt := 122) C dX4_greatestFurther_100 (by decide) (by omega) (fun hc_100 => ?_) (fun hc_100 => ?_)
              · skip
                exact join_122 (gr) (uc) _ _ _ (by exact hv) (by exact hcc) (by exact gf_skip hgf (by rw [← hin, ← hon]; exact hc_100)) Hh (lv_sub hl [0, 1, 2, 3, 4, 5] rfl)
              · skip
                refine lv_iload C.1 C.2.1 dX4_greatestFurther_103 (lv_at hl 4 rfl) ?_
                refine lv_aload_n C.1 C.2.1 dX4_greatestFurther_105 rfl (lv_at hl 0 rfl) ?_
                refine gw_get (Cn := RX4) (T := TX4) (N := 4) C Hh 0 pw_at0 rfl uwX4 3 (by decide) rfl tw_221 rfl dX4_greatestFurther_106 ?_
                refine lv_iload C.1 C.2.1 dX4_greatestFurther_109 (lv_at hl 6 rfl) ?_
                have humb : ∀ a, um.testBit a = true → a < uc.1 0 := fun a ha => by rw [hum] at ha; rw [hj.1]; exact gf_m_lt ha
                refine gw_fromI (w := pw G q) (u := uc) C Hh (gw_runVN (n := 1) (C1 := RX3) [.int (nI (um))] C Hh (c_X3_mostFrom l G q (uc) (um) (by exact fs_cap hcc.2.1 hcc.1.2.1) (by exact hcc.2.1.2.2.1) (by rw [hcc.2.1.1]; exact humb) (by rw [hcc.2.1.1]; exact hcc.2.1.2.1.1) (by rw [hcc.2.1.1]; exact fun i j h1 h2 => kx_ne hcc.2.1.2.1 h1 h2) _) tw_628 tw_630 tw_42 tw_70 tw_631 (by decide +kernel) ⟨Nat.le_of_ble_eq_true rfl, Nat.le_of_ble_eq_true rfl⟩ 4 pw_at4 rfl rfl hl.1 (Nat.le_of_ble_eq_true rfl) dX4_greatestFurther_111 ⟨Nat.zero_le _, Nat.zero_le _⟩) (fun rc_111 uc_111 H locs hp_111 Hh => ?_)
                obtain ⟨kc_111, rfl, hp_111⟩ := hp_111
                have hmx : mx u um kc_111 := mx_of hj (mo_mx hcc humb hp_111.2.2)
                have hcd : cls uc_111 := mo_cls hcc hp_111.1 (by rw [hp_111.2.1]; exact humb)
                have hmb := mx_le hc.1 hmx
                refine lv_iload C.1 C.2.1 dX4_greatestFurther_114 (lv_at hl 7 rfl) ?_
                refine gw_idiv C dX4_greatestFurther_116 (by omega) (by omega) (by omega) ?_
                refine gw_min C hl.1 tw_636 tw_480 tw_80 tw_481 dX4_greatestFurther_117 (by omega) (by have q9 := Nat.div_le_self kc_111 on; omega) (by decide) (by decide) (Nat.zero_le _) (Nat.zero_le _) ?_
                refine lv_istore (lv' := [(4, .int (nI (Nat.min (gr) (kc_111 / on)))), (0, .ref (q 0)), (1, .int (nI (g))), (2, .int (nI (t))), (3, .int (nI (1 <<< gd_dn u g))), (5, .int (nI (se))), (6, .int (nI (um))), (7, .int (nI (on))), (8, .int (nI (x)))]) C.1 C.2.1 dX4_greatestFurther_120 hl (by decide) rfl (fun ls hl => ?_)
                exact join_122 (Nat.min gr (kc_111 / on)) (uc_111) _ _ _ (by exact mo_tr hv hp_111.1) (by exact hcd) (by have hq9 := gf_step hgf hse (m := kc_111) (by rw [← hin, ← hon]; exact hc_100) (by rw [← hin, ← hum]; exact hmx); rw [← hin, ← hon] at hq9; exact hq9) Hh (lv_sub hl [1, 2, 3, 4, 0, 5] rfl)
            · skip
              refine lv_iload C.1 C.2.1 dX4_greatestFurther_47 (lv_at hl 5 rfl) ?_
              refine lv_iload C.1 C.2.1 dX4_greatestFurther_49 (lv_at hl 8 rfl) ?_
              refine gw_fromI (w := pw G q) (u := uc) C Hh (gw_runS (n := 2) [.int (nI (se)), .int (nI (x))] C Hh (c_X4_hasBit l G q (uc) (se) (x) (by first | assumption | omega) _) tw_627 tw_450 tw_66 tw_451 (by decide +kernel) ⟨Nat.le_of_ble_eq_true rfl, Nat.le_of_ble_eq_true rfl⟩ rfl hl.1 (Nat.le_of_ble_eq_true rfl) dX4_greatestFurther_51 ⟨Nat.zero_le _, Nat.zero_le _⟩) (fun rc_51 uc_51 H locs hp_51 Hh => ?_)
              obtain ⟨kc_51, rfl, hp_51⟩ := hp_51
              obtain ⟨hk_51, hu_51⟩ := hp_51
              rw [hu_51] at Hh
              clear hu_51
              have htl := tbit_le se x
              have join_92 : ∀ (um2 : Nat) (on2 : Nat) (H : Heap) (locs : List Loc) (ls : Array Slot), (um2 = gf_m u g t se (x + 1)) → (on2 = gf_o u g se (x + 1)) → (on2 ≤ 100 * (x + 1)) → gw_H G A s (pw G q uc) H locs → lv_has ls 9 [(0, .ref (q 0)), (1, .int (nI (g))), (2, .int (nI (t))), (3, .int (nI (1 <<< gd_dn u g))), (4, .int (nI (gr))), (5, .int (nI (se))), (6, .int (nI (um2))), (7, .int (nI (on2))), (8, .int (nI (x)))] → W p l e (gw_rm 5 131) s m args below meth c H locs 0 0 (MQ below (va_Qi (fun r u1 => ∃ k : Nat, r = nI k ∧ (mo_same u u1 ∧ cls u1 ∧ gf_inv u g t (1 <<< gd_dn u g) k)) (gw_at G A (pw G q)) A) args s 0 0 A) (F0 m 92 ls []) := by
                intro um2 on2  H locs ls hum2 hon2 hon4 Hh hl
                refine lv_iinc (v := nI (x + 1)) (lv' := [(8, .int (nI (x + 1))), (0, .ref (q 0)), (1, .int (nI (g))), (2, .int (nI (t))), (3, .int (nI (1 <<< gd_dn u g))), (4, .int (nI (gr))), (5, .int (nI (se))), (6, .int (nI (um2))), (7, .int (nI (on2)))]) C.1 C.2.1 dX4_greatestFurther_92 hl (k := 8) rfl (nI_add _ 1) (by decide) rfl (fun ls hl => ?_)
                refine lv_goto (tgt := 34) C.1 C.2.1 dX4_greatestFurther_95 (by decide) ?_
                exact ih_34 (x + 1) (um2) (on2)  _ _ _ (by first | assumption | omega) (by exact hum2) (by exact hon2) (by first | assumption | omega) (by omega) Hh (lv_sub hl [1, 2, 3, 4, 5, 6, 7, 8, 0] rfl)
              refine gw_if_eq (tgt := 92) C dX4_greatestFurther_54 (by decide) (by omega) (fun hc_54 => ?_) (fun hc_54 => ?_)
              · skip
                exact join_92 (um) (on)  _ _ _ (by rw [hum, gf_m_succ, if_neg (by rw [hk_51] at hc_54; rw [tbit_zero hc_54]; decide)]) (by rw [hon]; unfold gf_o; rw [fl_sum_succ, if_neg (by rw [hk_51] at hc_54; rw [tbit_zero hc_54]; decide)]; rfl) (by omega) Hh (lv_sub hl [0, 1, 2, 3, 4, 5, 6, 7, 8] rfl)
              · skip
                refine lv_iload C.1 C.2.1 dX4_greatestFurther_57 (lv_at hl 6 rfl) ?_
                refine lv_aload_n C.1 C.2.1 dX4_greatestFurther_59 rfl (lv_at hl 0 rfl) ?_
                refine lv_aload_n C.1 C.2.1 dX4_greatestFurther_60 rfl (lv_at hl 0 rfl) ?_
                refine gw_get (Cn := RX4) (T := TX4) (N := 4) C Hh 0 pw_at0 rfl uwX4 0 (by decide) rfl tw_218 rfl dX4_greatestFurther_61 ?_
                refine lv_iload_n C.1 C.2.1 dX4_greatestFurther_64 rfl (lv_at hl 1 rfl) ?_
                refine lv_iload C.1 C.2.1 dX4_greatestFurther_65 (lv_at hl 8 rfl) ?_
                refine gw_fromI (w := pw G q) (u := uc) C Hh (gw_runVN (n := 2) (C1 := RX1) [.int (nI (g)), .int (nI (x))] C Hh (c_X1_demandGood l G q (uc) (g) (x) (by exact hcc.1.1) (by first | assumption | omega) (by omega) _) tw_429 tw_431 tw_17 tw_67 tw_432 (by decide +kernel) ⟨Nat.le_of_ble_eq_true rfl, Nat.le_of_ble_eq_true rfl⟩ 1 pw_at1 rfl rfl hl.1 (Nat.le_of_ble_eq_true rfl) dX4_greatestFurther_67 ⟨Nat.zero_le _, Nat.zero_le _⟩) (fun rc_67 uc_67 H locs hp_67 Hh => ?_)
                obtain ⟨kc_67, rfl, hp_67⟩ := hp_67
                obtain ⟨hk_67, hu_67⟩ := hp_67
                rw [hu_67] at Hh
                clear hu_67
                have h67 : kc_67 < 6 := by rw [hk_67]; exact gd_dg_lt hcc.1.1 hg (by omega)
                refine lv_iload_n C.1 C.2.1 dX4_greatestFurther_70 rfl (lv_at hl 2 rfl) ?_
                refine gw_fromI (w := pw G q) (u := uc) C Hh (gw_runV (n := 2) (C1 := RX4) [.int (nI (kc_67)), .int (nI (t))] C Hh (c_X4_usableFor l G q (uc) (kc_67) (t) (by exact hcc.1.1) (by exact hcc.1.2.1) (by first | assumption | omega) (by first | assumption | omega) _) tw_433 tw_435 tw_18 tw_66 tw_436 (by decide +kernel) ⟨Nat.le_of_ble_eq_true rfl, Nat.le_of_ble_eq_true rfl⟩ 0 pw_at0 rfl rfl hl.1 (Nat.le_of_ble_eq_true rfl) dX4_greatestFurther_71 ⟨Nat.zero_le _, Nat.zero_le _⟩) (fun rc_71 uc_71 H locs hp_71 Hh => ?_)
                obtain ⟨kc_71, rfl, hp_71⟩ := hp_71
                obtain ⟨hk_71, hu_71⟩ := hp_71
                rw [hu_71] at Hh
                clear hu_71
                refine gw_ior C dX4_greatestFurther_74 ?_
                refine lv_istore (lv' := [(6, .int (nI (um ||| kc_71))), (0, .ref (q 0)), (1, .int (nI (g))), (2, .int (nI (t))), (3, .int (nI (1 <<< gd_dn u g))), (4, .int (nI (gr))), (5, .int (nI (se))), (7, .int (nI (on))), (8, .int (nI (x)))]) C.1 C.2.1 dX4_greatestFurther_75 hl (by decide) rfl (fun ls hl => ?_)
                refine lv_iload C.1 C.2.1 dX4_greatestFurther_77 (lv_at hl 7 rfl) ?_
                refine lv_aload_n C.1 C.2.1 dX4_greatestFurther_79 rfl (lv_at hl 1 rfl) ?_
                refine gw_get (Cn := RX4) (T := TX4) (N := 4) C Hh 0 pw_at0 rfl uwX4 0 (by decide) rfl tw_218 rfl dX4_greatestFurther_80 ?_
                refine lv_iload_n C.1 C.2.1 dX4_greatestFurther_83 rfl (lv_at hl 2 rfl) ?_
                refine lv_iload C.1 C.2.1 dX4_greatestFurther_84 (lv_at hl 8 rfl) ?_
                refine gw_fromI (w := pw G q) (u := uc) C Hh (gw_runVN (n := 2) (C1 := RX1) [.int (nI (g)), .int (nI (x))] C Hh (c_X1_numberForOne l G q (uc) (g) (x) (by exact hcc.1.1) (by first | assumption | omega) (by omega) _) tw_267 tw_269 tw_8 tw_67 tw_270 (by decide +kernel) ⟨Nat.le_of_ble_eq_true rfl, Nat.le_of_ble_eq_true rfl⟩ 1 pw_at1 rfl rfl hl.1 (Nat.le_of_ble_eq_true rfl) dX4_greatestFurther_86 ⟨Nat.zero_le _, Nat.zero_le _⟩) (fun rc_86 uc_86 H locs hp_86 Hh => ?_)
                obtain ⟨kc_86, rfl, hp_86⟩ := hp_86
                obtain ⟨hk_86, hu_86⟩ := hp_86
                rw [hu_86] at Hh
                clear hu_86
                have h86 : kc_86 = gd_d1 u g x := by rw [hk_86]; unfold gd_d1; rw [hj.2 7 (by decide), hj.2 9 (by decide)]
                have h86b : kc_86 ≤ 100 := by rw [h86]; exact gd_d1_le hst.1 hg (by omega)
                refine gw_iadd C dX4_greatestFurther_89 ?_
                refine lv_istore (lv' := [(7, .int (nI (on + kc_86))), (6, .int (nI (um ||| kc_71))), (0, .ref (q 0)), (1, .int (nI (g))), (2, .int (nI (t))), (3, .int (nI (1 <<< gd_dn u g))), (4, .int (nI (gr))), (5, .int (nI (se))), (8, .int (nI (x)))]) C.1 C.2.1 dX4_greatestFurther_90 hl (by decide) rfl (fun ls hl => ?_)
                exact join_92 (um ||| kc_71) (on + kc_86)  _ _ _ (by rw [hum, gf_m_succ, if_pos (tbit_pos (by omega)), hk_71, jo_uf hj, hk_67, jo_g hj]) (by rw [hon]; unfold gf_o; rw [fl_sum_succ, if_pos (tbit_pos (by omega)), h86]) (by omega) Hh (lv_sub hl [2, 3, 4, 5, 6, 7, 1, 0, 8] rfl)
        exact loop_34 _ (0) (0) (0)  _ _ _ (by first | assumption | omega) (by rfl) (by rfl) (by first | assumption | omega) (Nat.lt_succ_self _) Hh (lv_sub hl [3, 4, 5, 6, 7, 8, 2, 1, 0] rfl)
  exact loop_19 _ (1) (10000001) (u) _ _ _ (by first | assumption | omega) (by omega) (by exact mo_rf) (by exact hc) (by exact ⟨fun s9 h1 h2 => by omega, Or.inl rfl⟩) (Nat.lt_succ_self _) Hh (lv_sub hl [3, 4, 5, 2, 1, 0] rfl)
