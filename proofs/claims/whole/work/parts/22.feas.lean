/-! orders that can be kept together, and a state that keeps some -/
def pf_st (u : pf_S) : Prop := gd_ok u ∧ ar_ok u ∧ od_ok u
/-- all but the takings' arrays are the same -/
def jo_same (u v : pf_S) : Prop := v.1 = u.1 ∧ ∀ j, j ∉ [21, 22, 23, 24, 25, 26, 27, 28] → v.2 j = u.2 j
theorem jo_same.rf {u : pf_S} : jo_same u u := ⟨rfl, fun _ _ => rfl⟩
theorem jo_same.tr {u v w : pf_S} (h : jo_same u v) (g : jo_same v w) : jo_same u w := ⟨g.1.trans h.1, fun j hj => (g.2 j hj).trans (h.2 j hj)⟩
theorem jo_same.of {ks : List Nat} {u v : pf_S} (h : st_buts ks u v) (hs : ∀ k ∈ ks, k ∈ [21, 22, 23, 24, 25, 26, 27, 28]) : jo_same u v := ⟨h.1, fun j hj => h.2 j (fun q => hj (hs j q))⟩
theorem pf_st_of {u v : pf_S} (h : jo_same u v) (hs : pf_st u) : pf_st v := by
  have a5 := h.2 5 (by decide); have a6 := h.2 6 (by decide); have a7 := h.2 7 (by decide); have a8 := h.2 8 (by decide); have a9 := h.2 9 (by decide)
  have a10 := h.2 10 (by decide); have a11 := h.2 11 (by decide); have a12 := h.2 12 (by decide); have a13 := h.2 13 (by decide); have a14 := h.2 14 (by decide)
  have a15 := h.2 15 (by decide); have a16 := h.2 16 (by decide); have a17 := h.2 17 (by decide); have a18 := h.2 18 (by decide); have a19 := h.2 19 (by decide)
  have e1 : gd_ok v ↔ gd_ok u := by unfold gd_ok; rw [a5, a6, a7, a8, a9]
  have e2 : ar_ok v ↔ ar_ok u := by unfold ar_ok; rw [h.1, a10, a11, a12, a13]
  have e3 : od_ok v ↔ od_ok u := by unfold od_ok; rw [h.1, a14, a15, a16, a17, a18, a19]
  exact ⟨e1.mpr hs.1, e2.mpr hs.2.1, e3.mpr hs.2.2⟩
theorem jo_n {u v : pf_S} (h : jo_same u v) (a : Nat) : od_n v a = od_n u a := by
  unfold od_n gd_dn
  rw [h.2 7 (by decide), h.2 15 (by decide)]
theorem jo_w {u v : pf_S} (h : jo_same u v) (a x : Nat) : od_w v a x = od_w u a x := by
  unfold od_w gd_d1
  rw [h.2 7 (by decide), h.2 15 (by decide), h.2 16 (by decide), h.2 9 (by decide)]
theorem jo_g {u v : pf_S} (h : jo_same u v) (g x : Nat) : gd_dg v g x = gd_dg u g x := by
  unfold gd_dg
  rw [h.2 7 (by decide), h.2 8 (by decide)]
theorem jo_uf {u v : pf_S} (h : jo_same u v) (g t : Nat) : us_f v g t = us_f u g t := by
  have hc : ∀ a, us_c v g t a = us_c u g t a := fun a => by
    unfold us_c
    rw [h.2 5 (by decide), h.2 6 (by decide), h.2 10 (by decide), h.2 11 (by decide)]
  have hm : ∀ i, us_m v g t i = us_m u g t i := by
    intro i
    induction i with
    | zero => rfl
    | succ i ih => rw [us_m_succ, us_m_succ, hc, ih]
  unfold us_f
  rw [hm, h.1]
/-- the takings meet demands that want Wt -/
def fs (u : pf_S) (Wt : Nat → Nat) : Prop := u.1 2 = u.1 0 ∧ kx_row (u.2 10) (u.1 0) (u.2 20) ∧ us_ok u ∧ (∀ a, a < u.1 0 → tk_col u a = u.2 12 a - u.2 13 a) ∧ (∀ d, d < 31 → fl_sum (tk_x u d) (u.1 0) = Wt d) ∧ ∀ d, d < 31 → ∀ a, a < u.1 0 → 0 < tk_x u d a → (u.2 23 d).testBit a = true
def Feas (n : Nat) (fr Wt M : Nat → Nat) : Prop := ∃ y : Nat → Nat → Nat, (∀ d, d < 31 → fl_sum (y d) n = Wt d) ∧ (∀ d, d < 31 → ∀ a, a < n → 0 < y d a → (M d).testBit a = true) ∧ ∀ a, a < n → fl_sum (fun d => y d a) 31 ≤ fr a
theorem fs_cap {u : pf_S} {Wt : Nat → Nat} (h : fs u Wt) (ha : ar_ok u) : tk_cap u := by
  refine ⟨by rw [h.1]; exact ha.1, fun a h1 => ?_⟩
  rw [h.1] at h1
  have h2 := h.2.2.2.1 a h1
  have h3 := ha.2.2.2.1 a (by have := ha.1; omega)
  unfold tk_col at h2
  omega
theorem kx_ne {K b : Nat → Nat} {n : Nat} (h : kx_row K n b) {i j : Nat} (h1 : i < j) (h2 : j < n) : b i ≠ b j := by
  intro q
  have := h.2 i j h1 h2
  unfold kx_lt at this
  rw [q] at this
  omega
/-- n different ones below n are all of them -/
theorem kx_all {K b : Nat → Nat} {n : Nat} (h : kx_row K n b) {a : Nat} (ha : a < n) : ∃ i, i < n ∧ b i = a := by
  refine Classical.byContradiction fun hno => ?_
  have hc : ∀ a, fl_sum (fun i => if b i = a then 1 else 0) n ≤ 1 := by
    intro a
    have key : ∀ m, m ≤ n → fl_sum (fun i => if b i = a then 1 else 0) m ≤ 1 ∧ (0 < fl_sum (fun i => if b i = a then 1 else 0) m → ∃ i, i < m ∧ b i = a) := by
      intro m
      induction m with
      | zero => intro _; exact ⟨Nat.zero_le _, fun q => absurd q (Nat.lt_irrefl 0)⟩
      | succ m ih =>
        intro hm
        obtain ⟨h1, h2⟩ := ih (by omega)
        rw [fl_sum_succ]
        by_cases q : b m = a
        · rw [if_pos q]
          have h3 : ¬ 0 < fl_sum (fun i => if b i = a then 1 else 0) m := fun z => by
            obtain ⟨i, g1, g2⟩ := h2 z
            exact kx_ne h g1 (by omega) (g2.trans q.symm)
          exact ⟨by omega, fun _ => ⟨m, Nat.lt_succ_self m, q⟩⟩
        · rw [if_neg q]
          exact ⟨by omega, fun z => by obtain ⟨i, g1, g2⟩ := h2 (by omega); exact ⟨i, by omega, g2⟩⟩
    exact (key n (Nat.le_refl n)).1
  have h0 : fl_sum (fun i => if b i = a then 1 else 0) n = 0 := fl_sum_zero_of fun i hi => if_neg (fun q => hno ⟨i, hi, q⟩)
  have hs := fl_sum_swap (fun i a => if b i = a then 1 else 0) n n
  have h1 : fl_sum (fun i => fl_sum (fun a => if b i = a then 1 else 0) n) n = fl_sum (fun _ => 1) n := fl_sum_congr fun i hi => by
    have := fl_sum_rest (f := fun a => if b i = a then 1 else 0) (g := fun _ => 0) (h.1 i hi) (fun j _ hj => if_neg (fun q => hj q.symm))
    rw [fl_sum_zero, if_pos rfl] at this
    omega
  have h2 : fl_sum (fun _ => 1) n = n := by
    clear hs h0 hno hc h1 ha h
    induction n with
    | zero => rfl
    | succ n ih => rw [fl_sum_succ, ih]
  have h3 := fl_sum_rest_le (f := fun a => fl_sum (fun i => if b i = a then 1 else 0) n) (g := fun _ => 1) ha (fun j _ _ => hc j)
  rw [h2] at h3
  rw [h1, h2] at hs
  rw [h0] at h3
  omega
theorem all_bit {e : Nat} (h : e < 32) : (4294967295 : Nat).testBit e = true := by
  rw [show (4294967295 : Nat) = 2 ^ 32 - 1 from rfl, Nat.testBit_two_pow_sub_one]
  simp [h]
/-- a demand that took all that it wanted -/
theorem fs_take {v w : pf_S} {W0 : Nat → Nat} {lo d wv : Nat} (hf : fs v W0) (ht : ta_post v w lo d wv 0) : fs w (fun e => if e = d then W0 d + wv else W0 e) := by
  obtain ⟨h1, h2, h3, h4, h5, h6⟩ := hf
  obtain ⟨t1, t2, -⟩ := ht
  have e1 : w.1 = v.1 := t1.1.1
  have k : ∀ j, j ∉ [21, 22, 26, 27, 28] → w.2 j = v.2 j := t1.1.2
  refine ⟨by rw [e1]; exact h1, by rw [e1, k 10 (by decide), k 20 (by decide)]; exact h2, ta_us t1 h3, fun a ha => ?_, fun e he => ?_, fun e he a ha hp => ?_⟩
  · rw [e1] at ha
    rw [t1.2.2.2.1 a (by rw [h1]; exact ha), k 12 (by decide), k 13 (by decide)]
    exact h4 a ha
  · rw [e1, ← h1]
    dsimp only
    by_cases q : e = d
    · subst q
      rw [if_pos rfl]
      have := h5 e he
      rw [← h1] at this
      omega
    · rw [if_neg q, t1.2.1 e he q, h1]
      exact h5 e he
  · rw [e1] at ha
    rw [k 23 (by decide)]
    rcases t1.2.2.2.2.1 e he a (by rw [h1]; exact ha) hp with g | g
    · exact h6 e he a ha g
    · exact g
/-- a demand that could not take all: nobody can meet all -/
theorem fs_fail {v w : pf_S} {W0 W1 M : Nat → Nat} {d k wv : Nat} (hf : fs v W0) (hn : v.1 0 ≤ 10) (hd : d < 31) (ht : ta_post v w (tk_ot 4294967295 d) d wv k) (hk : 0 < k) (hz : W0 d = 0) (h1 : W1 d = wv) (hle : ∀ e, e < 31 → e ≠ d → W0 e ≤ W1 e) (hM : ∀ e, e < 31 → (0 < W0 e ∨ e = d) → M e = v.2 23 e) : ¬ Feas (v.1 0) (fun a => v.2 12 a - v.2 13 a) W1 M := by
  rintro ⟨y, y1, y2, y3⟩
  obtain ⟨f1, f2, f3, f4, f5, f6⟩ := hf
  obtain ⟨t1, t2, t3⟩ := ht
  rw [f1] at t2
  have R0 : ∃ R : Nat → Bool, ∀ a, R a = true ↔ ∃ T, tk_shut w (tk_ot 4294967295 d) T ∧ T a := ⟨fun a => @decide _ (Classical.propDecidable (∃ T, tk_shut w (tk_ot 4294967295 d) T ∧ T a)), fun a => by
    rw [@decide_eq_true_eq _ (Classical.propDecidable _)]⟩
  obtain ⟨R, hR⟩ := R0
  have hw2 : w.1 2 = v.1 0 := by rw [t1.1.1]; exact f1
  have hrow : ∀ e, e < 31 → e ≠ d → fl_sum (tk_x w e) (v.1 0) = W0 e := fun e he hed => by
    have := t1.2.1 e he hed
    rw [f1] at this
    rw [this]
    exact f5 e he
  have hcut := fl_cut (nA := v.1 0) (nD := 31) (fr := fun a => v.2 12 a - v.2 13 a) (us := fun e a => (M e).testBit a = true) (x := tk_x w) (y := y) (R := R) (L := fun _ => True) (d0 := d) hd
    (fun e he _ a ha hp => y2 e he a ha hp) (fun a ha _ => y3 a ha)
    (fun a ha hRa => by
      obtain ⟨T, g1, g2⟩ := (hR a).mp hRa
      have e1 := g1.1 a (by rw [hw2]; exact ha) g2
      have e2 := t1.2.2.2.1 a (by rw [f1]; exact ha)
      rw [f4 a ha] at e2
      unfold tk_col at e2
      rw [e1, Nat.zero_add] at e2
      rw [← e2]
      exact Nat.le_refl _)
    (fun e he hed _ r hr hRr hp a ha hMa => by
      obtain ⟨T, g1, g2⟩ := (hR r).mp hRr
      have hW : 0 < W0 e := by
        rw [← hrow e he hed]
        exact Nat.lt_of_lt_of_le hp (fl_sum_one _ hr)
      refine (hR a).mpr ⟨T, g1, g1.2 e he ?_ r (by rw [hw2]; exact hr) g2 hp a ?_⟩
      · rw [tk_ot_ne (by omega) hed]
        exact all_bit (by omega)
      · rw [t1.1.2 23 (by decide), ← hM e he (Or.inl hW)]
        exact hMa)
    (fun e he hed _ => by
      rw [hrow e he hed, y1 e he]
      exact hle e he hed)
    (fun e he hed hno => absurd trivial hno)
  have e1 : fl_sum (fl_in R (y d)) (v.1 0) = fl_sum (y d) (v.1 0) := fl_in_all fun a ha hp => by
    have hu := y2 d hd a ha hp
    rw [hM d hd (Or.inr rfl)] at hu
    obtain ⟨j, j1, j2⟩ := kx_all f2 ha
    rcases t3 j (by rw [f1]; exact j1) (by rw [j2]; exact hu) with ⟨T, g1, g2, -⟩ | ⟨g1, -⟩
    · rw [j2] at g2
      exact (hR a).mpr ⟨T, g1, g2⟩
    · omega
  have e2 : fl_sum (fl_in R (tk_x w d)) (v.1 0) ≤ fl_sum (tk_x w d) (v.1 0) := fl_in_le
  rw [e1, y1 d hd, h1] at hcut
  have e3 := f5 d hd
  omega
/-- the demands of order a, i of them, beside what Wt wants -/
def jo_W (u : pf_S) (Wt : Nat → Nat) (a i : Nat) : Nat → Nat := fun d => if d / 3 = a ∧ d % 3 < i then od_w u a (d % 3) else Wt d
def jo_M (u : pf_S) (a i : Nat) : Nat → Nat := fun d => if d / 3 = a ∧ d % 3 < i then us_f u (gd_dg u (u.2 15 a) (d % 3)) (u.2 14 a) else u.2 23 d
def jo_inv (u : pf_S) (Wt : Nat → Nat) (a i : Nat) (v : pf_S) : Prop := jo_same u v ∧ (∀ j, j < 10 → v.2 24 j = u.2 21 j) ∧ (∀ j, j < 310 → v.2 25 j = u.2 22 j) ∧ fs v (jo_W u Wt a i) ∧ ∀ d, d < 31 → v.2 23 d = jo_M u a i d
def jo_post (u : pf_S) (Wt : Nat → Nat) (a k : Nat) (v : pf_S) : Prop := jo_same u v ∧ ((k = 1 ∧ fs v (jo_W u Wt a (od_n u a)) ∧ ∀ d, d < 31 → v.2 23 d = jo_M u a (od_n u a) d) ∨
  (k = 0 ∧ fs v Wt ∧ (∀ d, d < 31 → d / 3 ≠ a → v.2 23 d = u.2 23 d) ∧ (∀ j, j < 10 → v.2 21 j = u.2 21 j) ∧ (∀ j, j < 310 → v.2 22 j = u.2 22 j) ∧ ¬ Feas (u.1 0) (fun b => u.2 12 b - u.2 13 b) (jo_W u Wt a (od_n u a)) (jo_M u a (od_n u a))))
/-- usable of the next demand is written: the flow is as it was -/
theorem fs_us {v w : pf_S} {Wt : Nat → Nat} {d S : Nat} (hf : fs v Wt) (hw : w = (v.1, up2 v.2 23 d S)) (hz : Wt d = 0) (hS : ∀ a, S.testBit a = true → a < v.1 0) : fs w Wt := by
  obtain ⟨h1, h2, h3, h4, h5, h6⟩ := hf
  have e1 : w.1 = v.1 := by rw [hw]
  have k : ∀ j, j ≠ 23 → w.2 j = v.2 j := fun j hj => by rw [hw]; exact up2_ne v.2 hj
  have ks : ∀ b, w.2 23 b = if b = d then S else v.2 23 b := fun b => by rw [hw]; show up2 v.2 23 d S 23 b = _; rw [up2_at]
  have hx : ∀ e b, tk_x w e b = tk_x v e b := tk_x_of (k 22 (by decide))
  refine ⟨by rw [e1]; exact h1, by rw [e1, k 10 (by decide), k 20 (by decide)]; exact h2, fun e he a ha => ?_, fun a ha => ?_, fun e he => ?_, fun e he a ha hp => ?_⟩
  · rw [ks] at ha
    rw [e1]
    by_cases q : e = d
    · rw [if_pos q] at ha
      rw [h1]
      exact hS a ha
    · rw [if_neg q] at ha
      exact h3 e he a ha
  · rw [e1] at ha
    unfold tk_col
    rw [k 21 (by decide), k 12 (by decide), k 13 (by decide), show (fun e => tk_x w e a) = fun e => tk_x v e a from funext fun e => hx e a]
    exact h4 a ha
  · rw [e1, show tk_x w e = tk_x v e from funext (hx e)]
    exact h5 e he
  · rw [e1] at ha
    rw [hx] at hp
    rw [ks]
    by_cases q : e = d
    · subst q
      exfalso
      have := fl_sum_one (tk_x v e) ha
      rw [h5 e he, hz] at this
      omega
    · rw [if_neg q]
      exact h6 e he a ha hp
/-- the flow by what its arrays hold within their lengths -/
theorem fs_back {u v : pf_S} {Wt : Nat → Nat} (hf : fs u Wt) (hn : u.1 0 ≤ 10) (hj : jo_same u v) (h21 : ∀ j, j < 10 → v.2 21 j = u.2 21 j) (h22 : ∀ j, j < 310 → v.2 22 j = u.2 22 j) (hu : us_ok v) (h23 : ∀ d, d < 31 → 0 < Wt d → v.2 23 d = u.2 23 d) : fs v Wt := by
  obtain ⟨h1, h2, h3, h4, h5, h6⟩ := hf
  have hx : ∀ e b, e < 31 → b < 10 → tk_x v e b = tk_x u e b := fun e b he hb => by
    unfold tk_x
    exact h22 _ (by omega)
  refine ⟨by rw [hj.1]; exact h1, by rw [hj.1, hj.2 10 (by decide), hj.2 20 (by decide)]; exact h2, hu, fun a ha => ?_, fun e he => ?_, fun e he a ha hp => ?_⟩
  · rw [hj.1] at ha
    have := h4 a ha
    unfold tk_col at this ⊢
    rw [h21 a (by omega), hj.2 12 (by decide), hj.2 13 (by decide), fl_sum_congr (f := fun e => tk_x v e a) (g := fun e => tk_x u e a) (fun e he => hx e a he (by omega))]
    exact this
  · rw [hj.1, fl_sum_congr (f := tk_x v e) (g := tk_x u e) (fun b hb => hx e b he (by omega))]
    exact h5 e he
  · rw [hj.1] at ha
    rw [hx e a he (by omega)] at hp
    have hW : 0 < Wt e := by
      rw [← h5 e he]
      exact Nat.lt_of_lt_of_le hp (fl_sum_one _ ha)
    rw [h23 e he hW]
    exact h6 e he a ha hp
