/-! class and reference in step: count, promise, share -/
theorem ct_dt {u w : pf_S} (h : dt u w) (hs : pf_st u) (j : Nat) : ct u j = ct w j := by
  have e3 : fallen u = fallen w := by
    unfold fallen
    rw [h.1.1.2]
    exact fl_sum_congr fun a ha => by rw [h.2 a ha]
  unfold ct
  rw [h.1.1.1, h.1.1.2, e3]
  have e2 : fl_sum (fun a => if u.2 18 a = 0 then 1 else 0) (u.1 1) = fl_sum (fun a => if w.2 18 a = 0 then 1 else 0) (u.1 1) := fl_sum_congr fun a ha => by rw [h.2 a ha]
  have e4 : fl_sum (fun a => u.2 12 a - u.2 13 a) (u.1 0) = fl_sum (fun a => w.2 12 a - w.2 13 a) (u.1 0) := fl_sum_congr fun a ha => by rw [(h.1.2.2.2.2.1 a ha).2.2.1, (h.1.2.2.2.2.1 a ha).2.2.2]
  have e5 : fl_sum (fun a => if u.2 18 a = 0 then fl_sum (od_w u a) (od_n u a) else 0) (u.1 1) = fl_sum (fun a => if w.2 18 a = 0 then fl_sum (od_w w a) (od_n w a) else 0) (u.1 1) := fl_sum_congr fun a ha => by
    have d3 := (dn_3 (pw_of hs) (od_6 (pw_of hs) ha)).1
    rw [h.2 a ha, dt_on h.1 (pw_of hs) ha]
    have : fl_sum (od_w u a) (od_n u a) = fl_sum (od_w w a) (od_n u a) := fl_sum_congr fun x hx => (dt_ow h.1 (pw_of hs) ha (by unfold od_n at hx; omega)).symm
    rw [this]
  rw [e2, e4, e5]
theorem cnt_dt {u w : pf_S} (h : dt u w) (hs : pf_st u) (x : Int32) : cnt u x = cnt w x := pif_cg Iff.rfl (fun _ => ct_dt h hs _) (fun _ => rfl)
theorem dt_hall {u w : pf_S} (h : dt u w) (hc : cls u) : hall (w.1 0) (fr_of w) (cv_W w) (cmk w) := by
  have h1 : Feas (u.1 0) (fr_of u) (cv_W u) (cmk u) := Feas_congr (fs_feas hc.2.1) (fun _ _ => rfl) (fun d hd hp => hc.2.2.1 d hd (cv_pos hp))
  have h2 := Feas_hall (mk_okm hc.1) h1
  rw [h.1.1.1]
  refine (hall_of (fun a ha => dt_fr h.1 ha) (fun d _ => ?_) (fun d _ hp => dt_mk h.1 (pw_of hc.1) (cv_pos hp).1)).mp h2
  rw [dt_cvW h (pw_of hc.1)]
theorem dt_met {u w : pf_S} (h : dt u w) (hc : cls u) : ∀ S, S < 1 <<< w.1 0 → 0 ≤ slk w S := fun S hS => by
  have := dt_hall h hc S hS
  unfold slk; omega
theorem dt_slk {u w : pf_S} (h : dt u w) (hs : pf_st u) (S : Nat) : slk w S = slk u S := by
  unfold slk
  have e1 : asum (fr_of w) S (w.1 0) = asum (fr_of u) S (u.1 0) := by
    rw [h.1.1.1]
    unfold asum
    exact fl_sum_congr fun a ha => by rw [dt_fr h.1 ha]
  have e2 : hsum (cv_W w) (cmk w) S = hsum (cv_W u) (cmk u) S := by
    unfold hsum
    rw [dt_cvW h (pw_of hs)]
    refine fl_sum_congr fun d hd => ?_
    by_cases q : 0 < cv_W u d
    · rw [dt_mk h.1 (pw_of hs) (cv_pos q).1]
    · have : cv_W u d = 0 := by omega
      rw [this]; simp
  rw [e1, e2]
theorem dt_gre {u w : pf_S} (h : dt u w) (hs : pf_st u) {g : Nat} (hg : g < 6) (t S : Nat) : gr_e w g t S = gr_e u g t S := by
  unfold gr_e
  rw [dt_dn h.1 hg]
  have d3 := (dn_3 (pw_of hs) hg).1
  refine fl_sum_congr fun x hx => ?_
  unfold er
  rw [dt_dg h.1 hg (by omega), dt_us h.1 (pw_of hs) (dg_6 (pw_of hs) hg (by omega)), dt_d1 h.1 hg (by omega)]
theorem dt_pos {u w : pf_S} (h : dt u w) (hs : pf_st u) (hp : pn u) : ∀ g, g < 6 → 0 < fl_sum (gd_d1 w g) (gd_dn w g) := fun g hg => by
  rw [dt_dn h.1 hg]
  have d3 := dn_3 (pw_of hs) hg
  have e : 1 ≤ gd_d1 w g 0 := by
    rw [dt_d1 h.1 hg (by omega)]
    unfold gd_d1
    split
    · rename_i q; exact hp g hg 0 q
    · omega
  exact Nat.lt_of_lt_of_le e (fl_sum_one (gd_d1 w g) (by omega))
theorem fw_hs {u : pf_S} (hs : pf_st u) (M m S : Nat) : hsum (fw_W u m) (fw_M u M) S = hsum (cv_W u) (cmk u) S + if M &&& (S ^^^ 4294967295) = 0 then m else 0 := by
  have h10 := hs.2.2.1
  unfold hsum
  have s31 : ∀ f : Nat → Nat, fl_sum f 31 = fl_sum f 30 + f 30 := fun f => fl_sum_succ f 30
  rw [s31, s31]
  have z : cv_W u 30 = 0 := by
    apply Classical.byContradiction
    intro q
    have := (cv_pos (u := u) (d := 30) (by omega)).1
    omega
  have e : fl_sum (fun d => if fw_M u M d &&& (S ^^^ 4294967295) = 0 then fw_W u m d else 0) 30 = fl_sum (fun d => if cmk u d &&& (S ^^^ 4294967295) = 0 then cv_W u d else 0) 30 := fl_sum_congr fun d hd => by
    unfold fw_M fw_W
    rw [if_neg (show ¬ d = 30 by omega), if_neg (show ¬ d = 30 by omega)]
  rw [e, z]
  show _ + (if fw_M u M 30 &&& (S ^^^ 4294967295) = 0 then fw_W u m 30 else 0) = _
  unfold fw_M fw_W
  rw [if_pos rfl, if_pos rfl]
  simp
theorem fw_iff {u : pf_S} (hs : pf_st u) {M : Nat} (hM : ∀ a, M.testBit a = true → a < u.1 0) (m : Nat) : Feas (u.1 0) (fr_of u) (fw_W u m) (fw_M u M) ↔ ∀ S, S < 1 <<< u.1 0 → hsum (cv_W u) (cmk u) S + (if M &&& (S ^^^ 4294967295) = 0 then m else 0) ≤ asum (fr_of u) S (u.1 0) := by
  have hk : mk_ok (u.1 0) (fw_M u M) := ⟨hs.2.1.1, fun d hd a ha => by
    unfold fw_M at ha
    split at ha
    · exact hM a ha
    · exact us_f_lt ha⟩
  rw [Feas_iff hk]
  unfold hall
  constructor
  · intro h S hS; rw [← fw_hs hs]; exact h S hS
  · intro h S hS; rw [fw_hs hs]; exact h S hS
/-- the most that can be had from a set of arrivals is the least slack of what holds it -/
theorem mx_min {u : pf_S} (hs : pf_st u) {M m : Nat} (hM : ∀ a, M.testBit a = true → a < u.1 0) (h : mx u M m) : (∀ S, S < 1 <<< u.1 0 → M &&& (S ^^^ 4294967295) = 0 → (m : Int) ≤ slk u S) ∧ ∃ S, S < 1 <<< u.1 0 ∧ M &&& (S ^^^ 4294967295) = 0 ∧ (m : Int) = slk u S := by
  obtain ⟨h1, h2⟩ := h
  have k1 := (fw_iff hs hM m).mp h1
  have a1 : ∀ S, S < 1 <<< u.1 0 → M &&& (S ^^^ 4294967295) = 0 → (m : Int) ≤ slk u S := fun S hS hsub => by
    have := k1 S hS
    rw [if_pos hsub] at this
    unfold slk; omega
  refine ⟨a1, ?_⟩
  apply Classical.byContradiction
  intro hno
  have : Feas (u.1 0) (fr_of u) (fw_W u (m + 1)) (fw_M u M) := (fw_iff hs hM (m + 1)).mpr fun S hS => by
    have k2 := k1 S hS
    by_cases q : M &&& (S ^^^ 4294967295) = 0
    · rw [if_pos q] at k2 ⊢
      have k3 := a1 S hS q
      have k4 : (m : Int) ≠ slk u S := fun r => hno ⟨S, hS, q, r⟩
      unfold slk at k3 k4
      omega
    · rw [if_neg q] at k2 ⊢; exact k2
  have := h2 _ this
  omega
theorem gf_m_bit {u : pf_S} {g t s a : Nat} : ∀ {i : Nat}, (gf_m u g t s i).testBit a = true ↔ ∃ x, x < i ∧ s.testBit x = true ∧ (us_f u (gd_dg u g x) t).testBit a = true
  | 0 => by
    constructor
    · intro h; simp [gf_m] at h
    · intro ⟨x, hx, _⟩; omega
  | i + 1 => by
    rw [gf_m_succ]
    have ih := @gf_m_bit u g t s a i
    constructor
    · intro h
      split at h
      · rename_i q
        rw [Nat.testBit_or, Bool.or_eq_true] at h
        rcases h with h | h
        · obtain ⟨x, h1, h2⟩ := ih.mp h
          exact ⟨x, by omega, h2⟩
        · exact ⟨i, by omega, q, h⟩
      · obtain ⟨x, h1, h2⟩ := ih.mp h
        exact ⟨x, by omega, h2⟩
    · intro ⟨x, h1, h2, h3⟩
      by_cases q : x = i
      · subst q
        rw [if_pos h2, Nat.testBit_or, h3, Bool.or_true]
      · have := ih.mpr ⟨x, by omega, h2, h3⟩
        split
        · rw [Nat.testBit_or, this, Bool.true_or]
        · exact this
theorem asum_le {u : pf_S} (hs : pf_st u) (S : Nat) : asum (fr_of u) S (u.1 0) ≤ 10000000 := by
  have h10 := hs.2.1.1
  unfold asum
  have e : fl_sum (fun a => if S.testBit a then fr_of u a else 0) (u.1 0) ≤ fl_sum (fun _ => 1000000) (u.1 0) := fl_sum_le fun a ha => by
    have := hs.2.1.2.2.2.1 a (by omega)
    unfold fr_of
    split <;> omega
  have e2 : ∀ n, fl_sum (fun _ => 1000000) n = n * 1000000 := fun n => by
    induction n with
    | zero => rfl
    | succ n ih => rw [fl_sum_succ, ih]; omega
  rw [e2] at e
  omega
/-- the greatest further promise is one number -/
theorem gf_gr {u : pf_S} (hs : pf_st u) {g t k k' : Nat} (hg : g < 6) (h : gf_inv u g t (1 <<< gd_dn u g) k) (h' : gr_post u g t k') : k = k' := by
  have h10 := hs.2.1.1
  have d3 := dn_3 (pw_of hs) hg
  have us32 : ∀ x a, (us_f u (gd_dg u g x) t).testBit a = true → a < 32 := fun x a ha => by have := us_f_lt ha; omega
  have gm32 : ∀ s a, (gf_m u g t s (gd_dn u g)).testBit a = true → a < 32 := fun s a ha => by have := gf_m_lt ha; omega
  obtain ⟨r1, S, r2, r3, r4⟩ := h'
  have le1 : k ≤ k' := by
    have hb : ∀ x, (bm (fun x => us_f u (gd_dg u g x) t &&& (S ^^^ 4294967295) = 0) (gd_dn u g)).testBit x = true ↔ x < gd_dn u g ∧ us_f u (gd_dg u g x) t &&& (S ^^^ 4294967295) = 0 := fun x => bm_bit _ _
    have hlt := bm_lt (fun x => us_f u (gd_dg u g x) t &&& (S ^^^ 4294967295) = 0) (gd_dn u g)
    generalize bm (fun x => us_f u (gd_dg u g x) t &&& (S ^^^ 4294967295) = 0) (gd_dn u g) = s at hb hlt
    have eo : gf_o u g s (gd_dn u g) = gr_e u g t S := by
      unfold gf_o gr_e er
      refine fl_sum_congr fun x hx => ?_
      by_cases q : us_f u (gd_dg u g x) t &&& (S ^^^ 4294967295) = 0
      · rw [if_pos ((hb x).mpr ⟨hx, q⟩), if_pos q]
      · rw [if_neg (fun r => q ((hb x).mp r).2), if_neg q]
    have s1 : 1 ≤ s := by
      apply Classical.byContradiction
      intro q
      have e0 : s = 0 := by omega
      obtain ⟨x, hx, hp⟩ := fl_sum_pos (show 0 < fl_sum (fun x => if s.testBit x then gd_d1 u g x else 0) (gd_dn u g) by
        have := eo; unfold gf_o at this; rw [this]; exact r3)
      subst e0
      simp at hp
    obtain ⟨m, hm, hk⟩ := h.1 s s1 hlt (by rw [eo]; exact r3)
    have hsub : gf_m u g t s (gd_dn u g) &&& (S ^^^ 4294967295) = 0 := (sub_iff (gm32 s)).mpr fun a ha => by
      obtain ⟨x, hx, hsx, hux⟩ := gf_m_bit.mp ha
      exact (sub_iff (us32 x)).mp ((hb x).mp hsx).2 a hux
    have hms := (mx_min hs (fun a ha => gf_m_lt ha) hm).1 S r2 hsub
    rw [eo] at hk
    have : (k : Int) ≤ slk u S / (gr_e u g t S : Int) := by
      refine Int.le_trans ?_ (Int.ediv_le_ediv (by omega) hms)
      have h2 : ((m / gr_e u g t S : Nat) : Int) = (m : Int) / (gr_e u g t S : Int) := Int.natCast_ediv _ _
      omega
    omega
  have bnd : k' ≤ 10000000 := by
    have a1 := asum_le hs S
    have a2 : slk u S ≤ 10000000 := by unfold slk; omega
    have a3 : slk u S / (gr_e u g t S : Int) ≤ 10000000 := by
      refine Int.ediv_le_of_le_mul (by omega) ?_
      have : (10000000 : Int) * 1 ≤ 10000000 * (gr_e u g t S : Int) := Int.mul_le_mul_of_nonneg_left (by omega) (by decide)
      omega
    omega
  refine Nat.le_antisymm le1 ?_
  rcases h.2 with q | ⟨s, m, s1, s2, s3, s4, s5⟩
  · omega
  · obtain ⟨T, t1, t2, t3⟩ := (mx_min hs (fun a ha => gf_m_lt ha) s4).2
    have ge : gf_o u g s (gd_dn u g) ≤ gr_e u g t T := by
      unfold gf_o gr_e er
      refine fl_sum_le fun x hx => ?_
      by_cases q : s.testBit x = true
      · rw [if_pos q, if_pos ((sub_iff (us32 x)).mpr fun a ha => (sub_iff (gm32 s)).mp t2 a (gf_m_bit.mpr ⟨x, hx, q, ha⟩))]
        exact Nat.le_refl _
      · rw [if_neg q]; exact Nat.zero_le _
    have h2 := r1 T t1 (by omega)
    rw [← t3] at h2
    have h3 : (m : Int) / (gr_e u g t T : Int) = ((m / gr_e u g t T : Nat) : Int) := (Int.natCast_ediv _ _).symm
    have h4 : m / gr_e u g t T ≤ m / gf_o u g s (gd_dn u g) := Nat.div_le_div_left ge s3
    omega
theorem gr_dt {u w : pf_S} (h : dt u w) (hs : pf_st u) {g t k : Nat} (hg : g < 6) (hr : gr_post w g t k) : gr_post u g t k := by
  unfold gr_post at *
  rw [h.1.1.1] at hr
  obtain ⟨h1, S, h2, h3, h4⟩ := hr
  rw [dt_slk h hs, dt_gre h hs hg] at h4
  rw [dt_gre h hs hg] at h3
  exact ⟨fun S hS hp => by rw [← dt_slk h hs, ← dt_gre h hs hg]; exact h1 S hS (by rw [dt_gre h hs hg]; exact hp), S, h2, h3, h4⟩
theorem sP {u u1 : pf_S} {v v1 : md_S} {x y : Int32} {k k' : Nat} (h : Rl u v) (hc : cdP x y = 0) (hp : mo_same u u1 ∧ cls u1 ∧ gf_inv u (tn x) (tn y) (1 <<< gd_dn u (tn x)) k) (hq : sc v v1 ∧ md_bd v1 ∧ gr_post (vw v) (tn x) (tn y) k') : k = k' ∧ Rl u1 v1 := by
  obtain ⟨⟨q1, q2⟩, -⟩ := pif_z hc (by decide)
  have b1 := (inr_tn q1).2
  exact ⟨gf_gr h.1.1.1 (by omega) hp.2.2 (gr_dt h.2.2.1 h.1.1.1 (by omega) hq.2.2), Rl_sc (Rl_jo h (mo_jo hp.1) hp.2.1) hq.1 hq.2.1⟩
theorem shb_dt {u w : pf_S} (h : dt u w) (hs : pf_st u) {g : Nat} (hg : g < 6) (t : Nat) : sh_b w g t = sh_b u g t := by
  unfold sh_b
  rw [h.1.1.1, dt_us h.1 (pw_of hs) hg]
  exact fl_sum_congr fun a ha => by rw [(h.1.2.2.2.2.1 a ha).2.2.1]
theorem cdH_dt {u w : pf_S} (h : dt u w) (hs : pf_st u) (x y : Int32) : cdH u x y = cdH w x y := by
  refine pif_cg Iff.rfl (fun q => ?_) (fun _ => rfl)
  have b1 := (inr_tn q.1).2
  rw [shb_dt h hs (by omega)]
theorem sH {u u1 : pf_S} {v v1 : md_S} {x y : Int32} {k k' : Nat} (h : Rl u v) (hc : cdH u x y = 0) (hp : mo_same u u1 ∧ cls u1 ∧ ∃ m, gf_inv u (tn x) (tn y) (1 <<< gd_dn u (tn x)) m ∧ k = 1000 * m / sh_b u (tn x) (tn y)) (hq : sc v v1 ∧ md_bd v1 ∧ ∃ m, gr_post (vw v) (tn x) (tn y) m ∧ k' = 1000 * m / sh_b (vw v) (tn x) (tn y)) : k = k' ∧ Rl u1 v1 := by
  obtain ⟨⟨q1, q2⟩, -⟩ := pif_z hc (by decide)
  have b1 := (inr_tn q1).2
  obtain ⟨p1, p2, m, p3, p4⟩ := hp
  obtain ⟨r1, r2, m2, r3, r4⟩ := hq
  have e : m = m2 := gf_gr h.1.1.1 (by omega) p3 (gr_dt h.2.2.1 h.1.1.1 (by omega) r3)
  exact ⟨by rw [p4, r4, e, shb_dt h.2.2.1 h.1.1.1 (by omega)], Rl_sc (Rl_jo h (mo_jo p1) p2) r1 r2⟩
theorem ki_dt {u w : pf_S} (h : dt u w) (hk : ki u) : ki w := fun g hg h0 => by
  rw [(h.1.2.1 g hg).2] at h0
  obtain ⟨k1, k2⟩ := hk g hg h0
  refine ⟨fun a ha => ?_, fun o ho => ?_⟩
  · rw [h.1.1.1] at ha
    rw [(h.1.2.2.2.2.1 a ha).2.1]; exact k1 a ha
  · rw [h.1.2.2.1 _ (by omega), h.1.2.2.1 _ (by omega)]; exact k2 o ho
