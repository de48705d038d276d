/-! The reference's list of demands -/
def dle (w : pf_S) (v : md_S) (Cd : Nat → Prop) (e : Nat → Nat) : Prop :=
  (∀ i, i < v.1 3 → Cd (e i) ∧ v.2.1 15 i = e i / 3 ∧ v.2.1 16 i = gd_dg w (w.2 15 (e i / 3)) (e i % 3) ∧ v.2.1 18 i = cmk w (e i) ∧ v.2.2 17 i = (od_w w (e i / 3) (e i % 3) : Int)) ∧ (∀ d, Cd d → ∃ i, i < v.1 3 ∧ e i = d) ∧ ∀ i j, i < j → j < v.1 3 → pbf w (e i) (e j)
def dl (w : pf_S) (v : md_S) (Cd : Nat → Prop) : Prop := ∃ e, dle w v Cd e
theorem dl_iff {w : pf_S} {v : md_S} {C1 C2 : Nat → Prop} (h : dl w v C1) (hc : ∀ d, C1 d ↔ C2 d) : dl w v C2 := by
  obtain ⟨e, h1, h2, h3⟩ := h
  exact ⟨e, fun i hi => ⟨(hc _).mp (h1 i hi).1, (h1 i hi).2⟩, fun d hd => h2 d ((hc d).mpr hd), h3⟩
/-- one more order's demands behind the others -/
theorem dl_add {w : pf_S} {v z : md_S} {Cd : Nat → Prop} {o : Nat} (h : dl w v Cd) (hn3 : od_n w o ≤ 3) (hw : ∀ g x, gd_dg (vw v) g x = gd_dg w g x ∧ gd_d1 (vw v) g x = gd_d1 w g x ∧ us_f (vw v) g x = us_f w g x)
    (ha : dm_add v z o (w.2 15 o) (w.2 14 o) (w.2 16 o) (od_n w o)) (hb : ∀ d, Cd d → kx_lt (w.2 17) (d / 3) o) : dl w z (fun d => Cd d ∨ (d / 3 = o ∧ d % 3 < od_n w o)) := by
  obtain ⟨e, h1, h2, h3⟩ := h
  obtain ⟨a1, a2, a3, a4, a5, a6, a7, a8⟩ := ha
  refine ⟨fun i => if i < v.1 3 then e i else o * 3 + (i - v.1 3), fun i hi => ?_, fun d hd => ?_, fun i j hij hj => ?_⟩
  · dsimp only
    by_cases q : i < v.1 3
    · rw [if_pos q, (a7 i (Or.inl q)).1, (a7 i (Or.inl q)).2.1, (a7 i (Or.inl q)).2.2.1, (a7 i (Or.inl q)).2.2.2]
      exact ⟨Or.inl (h1 i q).1, (h1 i q).2⟩
    · rw [if_neg q]
      have h8 := a8 (i - v.1 3) (by omega)
      rw [show v.1 3 + (i - v.1 3) = i by omega] at h8
      have e1 : (o * 3 + (i - v.1 3)) / 3 = o := by omega
      have e2 : (o * 3 + (i - v.1 3)) % 3 = i - v.1 3 := by omega
      unfold cmk
      rw [e1, e2, h8.1, h8.2.1, h8.2.2.1, h8.2.2.2, (hw _ _).1, (hw _ _).2.1, (hw _ _).2.2]
      exact ⟨Or.inr ⟨rfl, by omega⟩, rfl, rfl, rfl, rfl⟩
  · rcases hd with hd | ⟨hd1, hd2⟩
    · obtain ⟨i, i1, i2⟩ := h2 d hd
      exact ⟨i, by omega, by show (if i < v.1 3 then e i else _) = d; rw [if_pos i1]; exact i2⟩
    · refine ⟨v.1 3 + d % 3, by omega, ?_⟩
      show (if v.1 3 + d % 3 < v.1 3 then _ else o * 3 + (v.1 3 + d % 3 - v.1 3)) = d
      rw [if_neg (by omega)]
      omega
  · show pbf w (if i < v.1 3 then e i else o * 3 + (i - v.1 3)) (if j < v.1 3 then e j else o * 3 + (j - v.1 3))
    by_cases q2 : j < v.1 3
    · rw [if_pos (by omega), if_pos q2]
      exact h3 i j hij q2
    · rw [if_neg q2]
      by_cases q1 : i < v.1 3
      · rw [if_pos q1]
        left
        rw [show (o * 3 + (j - v.1 3)) / 3 = o by omega]
        exact hb _ (h1 i q1).1
      · rw [if_neg q1]
        right
        omega
theorem us_1024 {u : pf_S} (h : u.1 0 ≤ 10) (g t : Nat) : us_f u g t < 1024 := by
  refine Nat.lt_of_not_le fun q => ?_
  obtain ⟨i, hi, hb⟩ := Nat.exists_ge_and_testBit_of_ge_two_pow (n := 10) (x := us_f u g t) q
  have := us_f_lt hb
  omega
theorem dm_bd {u v : md_S} {o g t N : Nat} (hok : md_ok u) (hb : md_bd u) (hg : g < 6) (hN : N ≤ 10000) (hD : u.1 3 ≤ 37) (h : dm_add u v o g t N (gd_dn (vw u) g)) : md_bd v := by
  obtain ⟨a1, a2, a3, a4, a5, a6, a7, a8⟩ := h
  have hn := gd_dn_le (md_gd hok) hg
  refine ⟨by omega, fun d hd => ?_, by rw [a6]; exact hb.2.2⟩
  by_cases q : d < u.1 3 ∨ u.1 3 + gd_dn (vw u) g ≤ d
  · rw [(a7 d q).2.2.1, (a7 d q).2.2.2]
    exact hb.2.1 d hd
  · have h8 := a8 (d - u.1 3) (by omega)
    rw [show u.1 3 + (d - u.1 3) = d by omega] at h8
    rw [h8.2.2.1, h8.2.2.2]
    have h1 := gd_d1_le (md_gd hok) hg (x := d - u.1 3) (by omega)
    have h2 : N * gd_d1 (vw u) g (d - u.1 3) ≤ 10000 * 100 := Nat.mul_le_mul hN h1
    exact ⟨us_1024 hok.1.1 _ _, by omega, by omega⟩
/-! how many are still to come -/
noncomputable def mE (K : Nat → Nat) (Cn : Nat → Prop) (n o : Nat) : Nat := fl_sum (fun p => pif (Cn p ∧ o ≠ 4294967295 ∧ ¬ kx_lt K p o) 1 0) n
theorem mE_le (K : Nat → Nat) (Cn : Nat → Prop) (n o : Nat) : mE K Cn n o ≤ n := fl_sum_cnt (fun k => pif_le _) _
theorem kx_irr {K : Nat → Nat} {a : Nat} : ¬ kx_lt K a a := by unfold kx_lt; omega
theorem kx_tr {K : Nat → Nat} {a b c : Nat} (h : kx_lt K a b) (g : kx_lt K b c) : kx_lt K a c := by unfold kx_lt at *; omega
theorem kx_tri {K : Nat → Nat} (a b : Nat) : kx_lt K a b ∨ a = b ∨ kx_lt K b a := by unfold kx_lt; omega
theorem mE_s {K : Nat → Nat} {Cn : Nat → Prop} {n o p : Nat} (ho : o < n) (ho2 : o ≠ 4294967295) (hc : Cn o) (h : nx_in K Cn o n p) : mE K Cn n p + 1 ≤ mE K Cn n o := by
  have h1 := fl_sum_rest_le (f := fun z => pif (Cn z ∧ p ≠ 4294967295 ∧ ¬ kx_lt K z p) 1 0) (g := fun z => pif (Cn z ∧ o ≠ 4294967295 ∧ ¬ kx_lt K z o) 1 0) ho (fun j hj hne => by
    by_cases q : Cn j ∧ p ≠ 4294967295 ∧ ¬ kx_lt K j p
    · rcases h with ⟨h1, -⟩ | ⟨h1, h2, h3, h4⟩
      · exact absurd h1 q.2.1
      · have h5 : kx_lt K o p := h3.resolve_left ho2
        have h6 : Cn j ∧ o ≠ 4294967295 ∧ ¬ kx_lt K j o := ⟨q.1, ho2, fun z => q.2.2 (kx_tr z h5)⟩
        rw [pif_pos h6]
        exact pif_le _
    · rw [pif_neg q]
      exact Nat.zero_le _)
  have e1 : pif (Cn o ∧ o ≠ 4294967295 ∧ ¬ kx_lt K o o) 1 0 = 1 := pif_pos ⟨hc, ho2, kx_irr⟩
  have e2 : pif (Cn o ∧ p ≠ 4294967295 ∧ ¬ kx_lt K o p) 1 0 = 0 := pif_neg (fun q => by
    rcases h with ⟨h1, -⟩ | ⟨h1, h2, h3, h4⟩
    · exact q.2.1 h1
    · exact q.2.2 (h3.resolve_left ho2))
  unfold mE
  rw [e1, e2] at h1
  omega
/-- those before the next one -/
def bfr (K : Nat → Nat) (o p : Nat) : Prop := o = 4294967295 ∨ kx_lt K p o
theorem bfr_0 {K : Nat → Nat} {Cn : Nat → Prop} {n o : Nat} (hn : n ≤ 10) (h : nx_in K Cn 4294967295 n o) {p : Nat} (hp : p < n) (hc : Cn p) : ¬ bfr K o p := by
  rcases h with ⟨h1, h2⟩ | ⟨h1, h2, h3, h4⟩
  · exact absurd (Or.inl rfl) (h2 p hp hc)
  · intro q
    rcases q with q | q
    · omega
    · rcases h4 p hp hc (Or.inl rfl) with e | e
      · subst e
        exact kx_irr q
      · exact kx_irr (kx_tr e q)
theorem bfr_s {K : Nat → Nat} {Cn : Nat → Prop} {n o p : Nat} (hn : n ≤ 10) (ho2 : o ≠ 4294967295) (h : nx_in K Cn o n p) {z : Nat} (hz : z < n) (hc : Cn z) : bfr K p z ↔ (bfr K o z ∨ z = o) := by
  rcases h with ⟨h1, h2⟩ | ⟨h1, h2, h3, h4⟩
  · refine ⟨fun _ => ?_, fun _ => Or.inl h1⟩
    have h5 : ¬ kx_lt K o z := fun q => h2 z hz hc (Or.inr q)
    rcases kx_tri (K := K) z o with e | e | e
    · exact Or.inl (Or.inr e)
    · exact Or.inr e
    · exact absurd e h5
  · have h5 : kx_lt K o p := h3.resolve_left ho2
    constructor
    · rintro (q | q)
      · omega
      · rcases kx_tri (K := K) z o with e | e | e
        · exact Or.inl (Or.inr e)
        · exact Or.inr e
        · rcases h4 z hz hc (Or.inr e) with e2 | e2
          · subst e2
            exact absurd q kx_irr
          · exact absurd (kx_tr e2 q) kx_irr
    · rintro ((q | q) | q)
      · exact absurd q ho2
      · exact Or.inr (kx_tr q h5)
      · subst q
        exact Or.inr h5
