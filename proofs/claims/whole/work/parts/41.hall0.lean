/-! sums over a list without doubles -/
theorem rx {e F : Nat → Nat} {N : Nat} : ∀ {D : Nat}, (∀ i, i < D → e i < N) → (∀ i j, i < j → j < D → e i ≠ e j) → fl_sum (fun i => F (e i)) D = fl_sum (fun d => pif (∃ i, i < D ∧ e i = d) (F d) 0) N
  | 0, _, _ => by
    refine (fl_sum_zero_of fun d _ => ?_).symm
    exact pif_neg (fun ⟨i, hi, _⟩ => absurd hi (Nat.not_lt_zero i))
  | D + 1, h1, h2 => by
    have ih := rx (e := e) (F := F) (N := N) (D := D) (fun i hi => h1 i (by omega)) (fun i j hi hj => h2 i j hi (by omega))
    rw [fl_sum_succ, ih]
    have h3 := fl_sum_rest (f := fun d => pif (∃ i, i < D + 1 ∧ e i = d) (F d) 0) (g := fun d => pif (∃ i, i < D ∧ e i = d) (F d) 0) (h1 D (by omega)) (fun j hj hne => by
      by_cases q : ∃ i, i < D ∧ e i = j
      · have q2 : ∃ i, i < D + 1 ∧ e i = j := by
          obtain ⟨i, i1, i2⟩ := q
          exact ⟨i, by omega, i2⟩
        rw [pif_pos q, pif_pos q2]
      · rw [pif_neg q, pif_neg (fun ⟨i, i1, i2⟩ => by
          by_cases r : i = D
          · subst r
            exact hne i2.symm
          · exact q ⟨i, by omega, i2⟩)])
    rw [pif_pos (c := ∃ i, i < D + 1 ∧ e i = e D) ⟨D, by omega, rfl⟩, pif_neg (c := ∃ i, i < D ∧ e i = e D) (fun ⟨i, i1, i2⟩ => h2 i D i1 (by omega) i2)] at h3
    omega
theorem il_nat {f : Nat → Int} {g : Nat → Nat} : ∀ {n : Nat}, (∀ k, k < n → f k = (g k : Int)) → il_sum f n = (fl_sum g n : Int)
  | 0, _ => rfl
  | n + 1, h => by
    rw [il_s, fl_sum_succ, il_nat (fun k hk => h k (Nat.lt_succ_of_lt hk)), h n (Nat.lt_succ_self n), Int.natCast_add]
/-- a set of arrivals: what it has, and what can be met from it alone -/
def asum (fr : Nat → Nat) (S n : Nat) : Nat := fl_sum (fun a => if S.testBit a then fr a else 0) n
def hsum (Wt M : Nat → Nat) (S : Nat) : Nat := fl_sum (fun d => if M d &&& (S ^^^ 4294967295) = 0 then Wt d else 0) 31
def hall (n : Nat) (fr Wt M : Nat → Nat) : Prop := ∀ S, S < 1 <<< n → hsum Wt M S ≤ asum fr S n
theorem hall_congr {n : Nat} {fr W1 W2 M1 M2 : Nat → Nat} (h : hall n fr W1 M1) (hW : ∀ d, d < 31 → W1 d = W2 d) (hM : ∀ d, d < 31 → 0 < W1 d → M1 d = M2 d) : hall n fr W2 M2 := fun S hS => by
  refine Nat.le_trans (Nat.le_of_eq ?_) (h S hS)
  unfold hsum
  refine fl_sum_congr fun d hd => ?_
  by_cases q : 0 < W1 d
  · rw [hM d hd q, hW d hd]
  · have e1 : W1 d = 0 := by omega
    have e2 : W2 d = 0 := by rw [← hW d hd, e1]
    rw [e1, e2]
    split <;> split <;> rfl
theorem pbf_ne {w : pf_S} {a b : Nat} (h : pbf w a b) : a ≠ b := fun q => by
  subst q
  unfold pbf kx_lt at h
  omega
/-- a list of demands without an order -/
def dlse (w : pf_S) (v : md_S) (Cd : Nat → Prop) (e : Nat → Nat) : Prop := (∀ i, i < v.1 3 → Cd (e i) ∧ v.2.1 18 i = cmk w (e i) ∧ v.2.2 17 i = (od_w w (e i / 3) (e i % 3) : Int)) ∧ (∀ d, Cd d → ∃ i, i < v.1 3 ∧ e i = d) ∧ ∀ i j, i < j → j < v.1 3 → e i ≠ e j
def dls (w : pf_S) (v : md_S) (Cd : Nat → Prop) : Prop := ∃ e, dlse w v Cd e
theorem dle.S {w : pf_S} {v : md_S} {Cd : Nat → Prop} {e : Nat → Nat} (h : dle w v Cd e) : dlse w v Cd e := ⟨fun i hi => ⟨(h.1 i hi).1, (h.1 i hi).2.2.2.1, (h.1 i hi).2.2.2.2⟩, h.2.1, fun i j hi hj => pbf_ne (h.2.2 i j hi hj)⟩
theorem dl.S {w : pf_S} {v : md_S} {Cd : Nat → Prop} (h : dl w v Cd) : dls w v Cd := by
  obtain ⟨e, he⟩ := h
  exact ⟨e, he.S⟩
theorem dlse_sum {w : pf_S} {v : md_S} {Cd : Nat → Prop} {e : Nat → Nat} (h : dlse w v Cd e) (h31 : ∀ d, Cd d → d < 31) (F : Nat → Nat) : fl_sum (fun i => F (e i)) (v.1 3) = fl_sum (fun d => pif (Cd d) (F d) 0) 31 := by
  rw [rx (fun i hi => h31 _ (h.1 i hi).1) h.2.2]
  refine fl_sum_congr fun d _ => pif_iff ⟨fun ⟨i, hi, q⟩ => ?_, fun q => h.2.1 d q⟩
  rw [← q]
  exact (h.1 i hi).1
/-- the slack of a set in the reference's list -/
theorem sl_dl {w : pf_S} {v : md_S} {Cd : Nat → Prop} (h : dls w v Cd) (h31 : ∀ d, Cd d → d < 31) {fr Wt : Nat → Nat} (hfr : ∀ a, a < v.1 1 → v.2.2 19 a = (fr a : Int)) (hW : ∀ d, d < 31 → Wt d = pif (Cd d) (od_w w (d / 3) (d % 3)) 0) (S : Nat) :
    sl v S = (asum fr S (v.1 1) : Int) - (hsum Wt (cmk w) S : Int) := by
  obtain ⟨e, he⟩ := h
  unfold sl
  rw [il_nat (g := fun a => if S.testBit a then fr a else 0) (fun a ha => by
    unfold sl_a
    split
    · exact hfr a ha
    · rfl), il_nat (g := fun i => (fun d => if cmk w d &&& (S ^^^ 4294967295) = 0 then od_w w (d / 3) (d % 3) else 0) (e i)) (fun i hi => by
    have h1 := (he.1 i hi).2
    unfold sl_d
    rw [h1.1, h1.2]
    dsimp only
    split <;> rfl), dlse_sum he h31 (fun d => if cmk w d &&& (S ^^^ 4294967295) = 0 then od_w w (d / 3) (d % 3) else 0)]
  unfold asum hsum
  congr 2
  refine fl_sum_congr fun d hd => ?_
  rw [hW d hd]
  by_cases q : Cd d
  · rw [pif_pos q, pif_pos q]
  · rw [pif_neg q, pif_neg q]
    split <;> rfl
theorem sl_hall {w : pf_S} {v : md_S} {Cd : Nat → Prop} (h : dls w v Cd) (h31 : ∀ d, Cd d → d < 31) {fr Wt : Nat → Nat} (hfr : ∀ a, a < v.1 1 → v.2.2 19 a = (fr a : Int)) (hW : ∀ d, d < 31 → Wt d = pif (Cd d) (od_w w (d / 3) (d % 3)) 0) :
    (∀ S, S < 1 <<< v.1 1 → 0 ≤ sl v S) ↔ hall (v.1 1) fr Wt (cmk w) := by
  constructor
  · intro g S hS
    have := g S hS
    rw [sl_dl h h31 hfr hW S] at this
    omega
  · intro g S hS
    have := g S hS
    rw [sl_dl h h31 hfr hW S]
    omega
/-! cover -/
def so_hall (w : pf_S) (a : Nat) : Prop := (w.2 18 a = 0 ∧ hall (w.1 0) (fr_of w) (cw_W w a) (cmk w)) ∨ (w.2 18 a = 1 ∧ ¬ hall (w.1 0) (fr_of w) (cw_W w a) (cmk w))
/-- all but the orders' states is the same -/
def sx (u v : md_S) : Prop := v.1 0 = u.1 0 ∧ v.1 1 = u.1 1 ∧ v.1 2 = u.1 2 ∧ ∀ k, 1 ≤ k → k ≤ 13 → v.2.1 k = u.2.1 k
theorem sx_vw {u v : md_S} (h : sx u v) : (vw v).1 = (vw u).1 ∧ ∀ k, k ≠ 18 → (vw v).2 k = (vw u).2 k := by
  obtain ⟨h0, h1, h2, h3⟩ := h
  refine ⟨?_, fun k hk => ?_⟩
  · unfold vw
    rw [h1, h2]
  · unfold vw
    dsimp only
    rw [h3 1 (by decide) (by decide), h3 2 (by decide) (by decide), h3 3 (by decide) (by decide), h3 4 (by decide) (by decide), h3 5 (by decide) (by decide), h3 6 (by decide) (by decide), h3 7 (by decide) (by decide), h3 8 (by decide) (by decide), h3 9 (by decide) (by decide), h3 10 (by decide) (by decide), h3 11 (by decide) (by decide), h3 12 (by decide) (by decide), h3 13 (by decide) (by decide)]
    simp only [if_neg hk]
theorem sx_se {u v : md_S} (h : sx u v) : se_same (vw u) (vw v) := ⟨by rw [(sx_vw h).1], by rw [(sx_vw h).1], fun j _ hj => (sx_vw h).2 j hj⟩
theorem se_fr {u v : pf_S} (h : se_same u v) : fr_of v = fr_of u := by
  unfold fr_of
  rw [h.2.2 12 (by decide) (by decide), h.2.2 13 (by decide) (by decide)]
theorem se_gd {u v : pf_S} (h : se_same u v) (g x : Nat) : gd_dg v g x = gd_dg u g x ∧ gd_d1 v g x = gd_d1 u g x ∧ us_f v g x = us_f u g x ∧ gd_dn v g = gd_dn u g := by
  refine ⟨?_, ?_, se_uf h g x, ?_⟩
  · unfold gd_dg
    rw [h.2.2 7 (by decide) (by decide), h.2.2 8 (by decide) (by decide)]
  · unfold gd_d1
    rw [h.2.2 7 (by decide) (by decide), h.2.2 9 (by decide) (by decide)]
  · unfold gd_dn
    rw [h.2.2 7 (by decide) (by decide)]
theorem cw_eq {u v : pf_S} {a : Nat} (h : se_same u v) (hb : ∀ b, b < u.1 1 → kx_lt (u.2 17) b a → v.2 18 b = u.2 18 b) (d : Nat) : cw_W v a d = cw_W u a d := by
  unfold cw_W
  have e1 : od_n v a = od_n u a := se_n h a
  have e2 : od_w v (d / 3) (d % 3) = od_w u (d / 3) (d % 3) := se_w h _ _
  have e3 : v.2 17 = u.2 17 := h.2.2 17 (by decide) (by decide)
  rw [e1, e2, e3]
  by_cases q : klb (u.2 17) (d / 3) a = true
  · have e4 : cvb v d = cvb u d := by
      unfold cvb
      rw [h.2.1, se_n h]
      by_cases q2 : d / 3 < u.1 1
      · rw [hb _ q2 (klb_iff.mp q)]
      · rw [decide_eq_false q2]
        rfl
    rw [e4]
  · rw [Bool.eq_false_iff.mpr q, Bool.and_false, Bool.and_false]
theorem soh_keep {u v : pf_S} {a : Nat} (h : so_hall u a) (hs : se_same u v) (ha : v.2 18 a = u.2 18 a) (hb : ∀ b, b < u.1 1 → kx_lt (u.2 17) b a → v.2 18 b = u.2 18 b) : so_hall v a := by
  have e : hall (v.1 0) (fr_of v) (cw_W v a) (cmk v) ↔ hall (u.1 0) (fr_of u) (cw_W u a) (cmk u) := by
    rw [hs.1, se_fr hs]
    exact ⟨fun g => hall_congr g (fun d _ => cw_eq hs hb d) (fun d _ _ => se_m hs d), fun g => hall_congr g (fun d _ => (cw_eq hs hb d).symm) (fun d _ _ => (se_m hs d).symm)⟩
  unfold so_hall at h ⊢
  rw [ha, e]
  exact h
