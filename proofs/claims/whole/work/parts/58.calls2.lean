/-! class and reference in step: standIn, kit, order -/
theorem md_sc {v v1 : md_S} (hm : md2 v) (h : sc v v1) (hb : md_bd v1) : md2 v1 := by
  obtain ⟨⟨h1, h2, h3, h4, h5⟩, -⟩ := hm
  obtain ⟨g1, g2, g3⟩ := h
  refine ⟨⟨?_, ?_, ?_, ?_, ?_⟩, hb⟩
  · rw [g1, g2]; exact h1
  · rw [g3 1 (by decide) (by decide), g3 2 (by decide) (by decide), g3 3 (by decide) (by decide)]; exact h2
  · rw [g3 4 (by decide) (by decide), g3 5 (by decide) (by decide)]; exact h3
  · rw [g3 6 (by decide) (by decide), g3 7 (by decide) (by decide), g3 8 (by decide) (by decide), g3 9 (by decide) (by decide)]; exact h4
  · rw [g3 10 (by decide) (by decide), g3 11 (by decide) (by decide), g3 12 (by decide) (by decide), g3 13 (by decide) (by decide), g3 14 (by decide) (by decide)]; exact h5
theorem dt_sc {u : pf_S} {v v1 : md_S} (h : dt u (vw v)) (hs : sc v v1) : dt u (vw v1) := by
  obtain ⟨a1, a2, a3, a4⟩ := vw_sc hs
  exact ⟨dt0_of h.1 ⟨rfl, rfl, fun _ _ => rfl⟩ ⟨a1, a2, a3⟩, fun o ho => by rw [a4 o]; exact h.2 o ho⟩
theorem Rl_sc {u : pf_S} {v v1 : md_S} (h : Rl u v) (hs : sc v v1) (hb : md_bd v1) : Rl u v1 := ⟨h.1, md_sc h.2.1 hs hb, dt_sc h.2.2.1 hs, h.2.2.2⟩
theorem Rl_jo {u u1 : pf_S} {v : md_S} (h : Rl u v) (hj : jo_same u u1) (hc : cls u1) : Rl u1 v := by
  obtain ⟨⟨hcl, h13, hki⟩, hm, hd, hpn⟩ := h
  obtain ⟨j1, j2⟩ := hj
  have k : ∀ j, j ≤ 20 → u1.2 j = u.2 j := fun j hj => j2 j (by simp; omega)
  refine ⟨⟨hc, ?_, ?_⟩, hm, ⟨dt0_of hd.1 ⟨by rw [j1], by rw [j1], fun j hj => k j (by omega)⟩ ⟨rfl, rfl, fun _ _ => rfl⟩, ?_⟩, pn_se hpn (k 7 (by decide)) (k 9 (by decide))⟩
  · rw [j1, k 13 (by decide)]; exact h13
  · unfold ki at *
    rw [j1, k 7 (by decide), k 11 (by decide), k 6 (by decide)]; exact hki
  · rw [j1, k 18 (by decide)]; exact hd.2
/-- standIn -/
theorem cdI_dt {u w : pf_S} (h : dt u w) (x y : Int32) (b : Nat) : cdI u x y b = cdI w x y b := by
  refine pif_cg Iff.rfl (fun q => ?_) (fun _ => rfl)
  have h1 := (inr_tn q.1).2
  have h2 := (inr_tn q.2.1).2
  rw [(h.1.2.1 (tn x) (by omega)).2, (h.1.2.1 (tn y) (by omega)).2, h.1.2.2.1 (tn x * 6 + tn y) (by omega)]
theorem cdI_0 {u : pf_S} {x y : Int32} {b : Nat} (h : cdI u x y b = 0) : tn x < 6 ∧ tn y < 6 ∧ u.2 7 (tn x) = 0 ∧ u.2 7 (tn y) = 0 := by
  obtain ⟨⟨q1, q2, q3⟩, h⟩ := pif_z h (by decide)
  obtain ⟨r, h⟩ := pif_z2 h (by decide)
  have h1 := (inr_tn q1).2
  have h2 := (inr_tn q2).2
  exact ⟨by omega, by omega, by omega, by omega⟩
theorem tb_or {b a i : Nat} : tbit (b ||| 1 <<< a) i = if i = a then 1 else tbit b i := by
  unfold tbit
  rw [Nat.testBit_or, Nat.one_shiftLeft, Nat.testBit_two_pow]
  by_cases q : i = a
  · subst q; simp
  · have : ¬ a = i := fun h => q h.symm
    simp [q, this]
theorem tb_cl {b a i : Nat} (hi : i < 32) : tbit (b &&& ((1 <<< a) ^^^ 4294967295)) i = if i = a then 0 else tbit b i := by
  unfold tbit
  rw [Nat.testBit_and, Nat.testBit_xor, Nat.one_shiftLeft, Nat.testBit_two_pow, show (4294967295 : Nat) = 2 ^ 32 - 1 from rfl, Nat.testBit_two_pow_sub_one]
  by_cases q : i = a
  · subst q; simp [hi]
  · have : ¬ a = i := fun h => q h.symm
    simp [q, this, hi]
theorem rI_dt {u : pf_S} {v : md_S} (h : dt u (vw v)) {a g b : Nat} (ha : a < 6) (hg : g < 6) (hb : b ≤ 1) : dt (si_S u a g b) (vw (rI v a g b)) := by
  obtain ⟨⟨⟨h0, h1⟩, h2, h3, h4, h5, h6⟩, h7⟩ := h
  refine ⟨⟨⟨h0, h1⟩, h2, fun j hj => ?_, h4, h5, h6⟩, h7⟩
  have e : tbit (v.2.1 2 (j % 6)) (j / 6) = u.2 6 j := h3 j hj
  show tbit (up2 v.2.1 2 g (if b = 0 then v.2.1 2 g &&& ((1 <<< a) ^^^ 4294967295) else v.2.1 2 g ||| 1 <<< a) 2 (j % 6)) (j / 6) = up2 u.2 6 (a * 6 + g) b 6 j
  unfold up2
  rw [if_pos rfl, if_pos rfl]
  by_cases q : j % 6 = g
  · rw [if_pos q]
    by_cases r : b = 0
    · rw [if_pos r, tb_cl (by omega)]
      by_cases t : j / 6 = a
      · rw [if_pos t, if_pos (by omega), r]
      · rw [if_neg t, if_neg (by omega), ← e, q]
    · rw [if_neg r, tb_or]
      by_cases t : j / 6 = a
      · rw [if_pos t, if_pos (by omega)]; omega
      · rw [if_neg t, if_neg (by omega), ← e, q]
  · rw [if_neg q, if_neg (by omega)]; exact e
theorem sI {u u1 : pf_S} {v v1 : md_S} {x y : Int32} {b : Nat} {k k' : Nat} (h : Rl u v) (hb : b ≤ 1) (hc : cdI u x y b = 0) (hk : k = fallen u1) (hp : se_post (si_S u (tn x) (tn y) b) u1) (hk' : k' = rfallen v1) (hq : cv2 (rI v (tn x) (tn y) b) v1) : k = k' ∧ Rl u1 v1 := by
  obtain ⟨⟨hcl, h13, hki⟩, hm, hd, hpn⟩ := h
  obtain ⟨b1, b2, b3, b4⟩ := cdI_0 hc
  have R : Rl u1 v1 := Rl_cv (ub := si_S u (tn x) (tn y) b) h13 (fun g hg h0 => by
    obtain ⟨k1, k2⟩ := hki g hg h0
    have n1 : g ≠ tn x := fun r => by rw [← r] at b3; have h0' : 0 < u.2 7 g := h0; omega
    have n2 : g ≠ tn y := fun r => by rw [← r] at b4; have h0' : 0 < u.2 7 g := h0; omega
    refine ⟨k1, fun o ho => ?_⟩
    show up2 u.2 6 (tn x * 6 + tn y) b 6 (o * 6 + g) = 0 ∧ up2 u.2 6 (tn x * 6 + tn y) b 6 (g * 6 + o) = 0
    rw [u2_o (by omega), u2_o (by omega)]
    exact k2 o ho) hpn (rI_dt hd b1 b2 hb) (rI_ok hm b1 b2) hp hq
  exact ⟨by rw [hk, hk']; exact dt_fallen R.2.2.1, R⟩
/-- kit -/
theorem kt_dt {u w : pf_S} (h : dt u w) (hs : pf_st u) {g x : Nat} (hg : g < 6) (hx : x < 6) : kt_no u g x ↔ kt_no w g x := by
  have e7 : ∀ g, g < 6 → w.2 7 g = u.2 7 g := fun g hg => (h.1.2.1 g hg).2
  have e3 : ∀ g, g < 6 → u.2 7 g ≤ 3 := fun g hg => hs.1.1 g hg
  have hh : ∀ g x, g < 6 → ((∃ j, j < w.2 7 g ∧ w.2 8 (g * 3 + j) = x) ↔ ∃ j, j < u.2 7 g ∧ u.2 8 (g * 3 + j) = x) := fun g x hg => by
    have := e3 g hg
    rw [e7 g hg]
    exact exists_congr fun j => and_congr_right fun hj => by rw [(h.1.2.2.2.1 (g * 3 + j) (by omega)).1]
  unfold kt_no kt_has kt_use
  rw [e7 x hx, hh g x hg, h.1.1.1, h.1.1.2]
  have u1 : (∃ k, k < 6 ∧ ∃ j, j < w.2 7 k ∧ w.2 8 (k * 3 + j) = g) ↔ ∃ k, k < 6 ∧ ∃ j, j < u.2 7 k ∧ u.2 8 (k * 3 + j) = g := exists_congr fun k => and_congr_right fun hk => hh k g hk
  have u2 : (∃ o, o < 6 ∧ (0 < w.2 6 (g * 6 + o) ∨ 0 < w.2 6 (o * 6 + g))) ↔ ∃ o, o < 6 ∧ (0 < u.2 6 (g * 6 + o) ∨ 0 < u.2 6 (o * 6 + g)) := exists_congr fun o => and_congr_right fun ho => by
    rw [h.1.2.2.1 (g * 6 + o) (by omega), h.1.2.2.1 (o * 6 + g) (by omega)]
  have u3 : (∃ a, a < u.1 0 ∧ w.2 11 a = g) ↔ ∃ a, a < u.1 0 ∧ u.2 11 a = g := exists_congr fun a => and_congr_right fun ha => by rw [(h.1.2.2.2.2.1 a ha).2.1]
  have u4 : (∃ a, a < u.1 1 ∧ w.2 15 a = g) ↔ ∃ a, a < u.1 1 ∧ u.2 15 a = g := exists_congr fun a => and_congr_right fun ha => by rw [(h.1.2.2.2.2.2 a ha).2.1]
  rw [u1, u2, u3, u4]
theorem cdK_dt {u w : pf_S} (h : dt u w) (hs : pf_st u) (x y z : Int32) : cdK u x y z = cdK w x y z := by
  refine pif_cg Iff.rfl (fun q => ?_) (fun _ => rfl)
  have h1 := (inr_tn q.1).2
  have h2 := (inr_tn q.2.1).2
  refine pif_cg (kt_dt h hs (by omega) (by omega)) (fun _ => rfl) (fun _ => ?_)
  rw [(h.1.2.1 (tn x) (by omega)).2]
theorem cdK_0 {u : pf_S} {x y z : Int32} (h : cdK u x y z = 0) : tn x < 6 ∧ tn y < 6 ∧ (1 ≤ tn z ∧ tn z ≤ 100) ∧ ¬ kt_no u (tn x) (tn y) ∧ u.2 7 (tn x) < 3 := by
  obtain ⟨⟨q1, q2, q3⟩, h⟩ := pif_z h (by decide)
  obtain ⟨r, h⟩ := pif_z2 h (by decide)
  obtain ⟨t, h⟩ := pif_z h (by decide)
  have h1 := (inr_tn q1).2
  have h2 := (inr_tn q2).2
  exact ⟨by omega, by omega, inr_tn q3, r, t⟩
theorem kt_at {u : pf_S} {g x n : Nat} : (∀ k, (kt_S u g x n).2 7 k = if k = g then u.2 7 g + 1 else u.2 7 k) ∧ (∀ j, (kt_S u g x n).2 8 j = if j = g * 3 + u.2 7 g then x else u.2 8 j) ∧ (∀ j, (kt_S u g x n).2 9 j = if j = g * 3 + u.2 7 g then n else u.2 9 j) := ⟨fun _ => rfl, fun _ => rfl, fun _ => rfl⟩
theorem kt_st {u : pf_S} (hs : pf_st u) {g x n : Nat} (hx : x < 6) (hn : n ≤ 100) (h3 : u.2 7 g < 3) : pf_st (kt_S u g x n) := by
  obtain ⟨⟨g1, g2, g3, g4, g5⟩, a1, o1⟩ := hs
  obtain ⟨k7, k8, k9⟩ := @kt_at u g x n
  refine ⟨⟨fun k hk => ?_, g2, fun j hj => ?_, fun j hj => ?_, g5⟩, a1, o1⟩
  · rw [k7]; have := g1 k hk; split <;> omega
  · rw [k8]; have := g3 j hj; split <;> omega
  · rw [k9]; have := g4 j hj; split <;> omega
theorem kt_cls {u : pf_S} (hc : cls u) {g x n : Nat} (hg : g < 6) (hx : x < 6) (hn : n ≤ 100) (hno : ¬ kt_no u g x) (h3 : u.2 7 g < 3) : cls (kt_S u g x n) := by
  obtain ⟨k7, k8, k9⟩ := @kt_at u g x n
  have hne : ∀ o, o < u.1 1 → u.2 15 o ≠ g := fun o ho r => hno (Or.inr (Or.inr (Or.inr (Or.inr (Or.inr (Or.inr ⟨o, ho, r⟩))))))
  refine (cls_of hc (kt_st hc.1 hx hn h3) rfl (fun j hj => ?_) (fun o ho => ⟨rfl, rfl, rfl, rfl⟩) (fun o ho => ?_) (fun j _ => rfl) (fun j _ => rfl) hc.2.1.2.2.1 (fun d _ _ => rfl)).1
  · simp only [List.mem_cons, List.not_mem_nil, or_false] at hj
    rcases hj with e | e | e | e | e | e | e | e <;> subst e <;> rfl
  · have n1 := hne o ho
    have e7 : (kt_S u g x n).2 7 (u.2 15 o) = u.2 7 (u.2 15 o) := by rw [k7, if_neg n1]
    have h6 := od_6 (pw_of hc.1) ho
    have d3 := (dn_3 (pw_of hc.1) h6).1
    refine ⟨by unfold gd_dn; rw [e7], fun y hy => ?_⟩
    have e8 : u.2 15 o * 3 + y ≠ g * 3 + u.2 7 g := by omega
    refine ⟨?_, ?_⟩
    · unfold gd_dg; rw [e7, k8, if_neg e8]
    · unfold gd_d1; rw [e7, k9, if_neg e8]
theorem rK_md {v : md_S} (h : md2 v) {g x n : Nat} (hx : x < 6) (hn : n ≤ 100) (h3 : v.2.1 3 g < 3) : md2 (rK v g x n) := by
  obtain ⟨⟨h1, h2, h3', h4, h5⟩, hb⟩ := h
  refine ⟨⟨h1, fun k hk => ?_, fun j hj => ?_, h4, h5⟩, hb⟩
  · obtain ⟨a1, a2, a3⟩ := h2 k hk
    refine ⟨a1, a2, ?_⟩
    show (if k = g then v.2.1 3 g + 1 else v.2.1 3 k) ≤ 3
    split <;> omega
  · obtain ⟨a1, a2⟩ := h3' j hj
    refine ⟨?_, ?_⟩
    · show (if j = 3 * g + v.2.1 3 g then x else v.2.1 4 j) < 6
      split <;> omega
    · show (if j = 3 * g + v.2.1 3 g then n else v.2.1 5 j) ≤ 100
      split <;> omega
theorem sK {u u1 : pf_S} {v v1 : md_S} {x y z : Int32} {k k' : Nat} (h : Rl u v) (hc : cdK u x y z = 0) (hk : k = u.2 7 (tn x) + 1) (hp : u1 = kt_S u (tn x) (tn y) (tn z)) (hk' : k' = v.2.1 3 (tn x) + 1) (hq : v1 = rK v (tn x) (tn y) (tn z)) : k = k' ∧ Rl u1 v1 := by
  obtain ⟨⟨hcl, h13, hki⟩, hm, hd, hpn⟩ := h
  obtain ⟨b1, b2, b3, b4, b5⟩ := cdK_0 hc
  have e7 : v.2.1 3 (tn x) = u.2 7 (tn x) := (hd.1.2.1 _ b1).2
  subst hp hq
  obtain ⟨k7, k8, k9⟩ := @kt_at u (tn x) (tn y) (tn z)
  refine ⟨by omega, ⟨kt_cls hcl b1 b2 b3.2 b4 b5, h13, ?_⟩, rK_md hm b2 b3.2 (by omega), ?_, ?_⟩
  · intro g hg h0
    by_cases q : g = tn x
    · subst q
      refine ⟨fun a ha r => b4 (Or.inr (Or.inr (Or.inr (Or.inr (Or.inr (Or.inl ⟨a, ha, r⟩)))))), fun o ho => ?_⟩
      have n1 : ¬ (0 < u.2 6 (tn x * 6 + o) ∨ 0 < u.2 6 (o * 6 + tn x)) := fun r => b4 (Or.inr (Or.inr (Or.inr (Or.inr (Or.inl ⟨o, ho, r⟩)))))
      show u.2 6 (o * 6 + tn x) = 0 ∧ u.2 6 (tn x * 6 + o) = 0
      omega
    · rw [k7, if_neg q] at h0
      exact hki g hg h0
  · obtain ⟨⟨⟨h0, h1⟩, h2, h3, h4, h5, h6⟩, h7⟩ := hd
    refine ⟨⟨⟨h0, h1⟩, fun g hg => ⟨(h2 g hg).1, ?_⟩, h3, fun j hj => ⟨?_, ?_⟩, h5, h6⟩, h7⟩
    · rw [k7]
      show (if g = tn x then v.2.1 3 (tn x) + 1 else v.2.1 3 g) = _
      rw [e7, show v.2.1 3 g = u.2 7 g from (h2 g hg).2]
    · rw [k8]
      show (if j = 3 * tn x + v.2.1 3 (tn x) then tn y else v.2.1 4 j) = _
      rw [e7, show v.2.1 4 j = u.2 8 j from (h4 j hj).1, Nat.mul_comm 3]
    · rw [k9]
      show (if j = 3 * tn x + v.2.1 3 (tn x) then tn z else v.2.1 5 j) = _
      rw [e7, show v.2.1 5 j = u.2 9 j from (h4 j hj).2, Nat.mul_comm 3]
  · intro g hg y hy
    rw [k7] at hy
    rw [k9]
    by_cases q : g * 3 + y = tn x * 3 + u.2 7 (tn x)
    · rw [if_pos q]; exact b3.1
    · rw [if_neg q]
      have l3 := hcl.1.1.1 g hg
      by_cases r : g = tn x
      · subst r
        rw [if_pos rfl] at hy
        exact hpn _ hg y (by omega)
      · rw [if_neg r] at hy
        exact hpn g hg y hy
