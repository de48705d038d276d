/-! order -/
noncomputable def cdO (u : pf_S) (x y z w : Int32) : Nat := pif (inr x 0 99 ∧ inr y 0 5 ∧ inr z 1 10000 ∧ inr w 1 9) (pif (u.1 1 < 10) 0 2) 1
theorem cdO_1 {u : pf_S} {x y z w : Int32} (h : ¬ (inr x 0 99 ∧ inr y 0 5 ∧ inr z 1 10000 ∧ inr w 1 9)) : cdO u x y z w = 1 := pif_neg h
theorem cdO_v {u : pf_S} {x y z w : Int32} {t g n r : Nat} (hx : x = nI t) (ht : t < 100) (hy : y = nI g) (hg : g < 6) (hz : z = nI n) (hn : 1 ≤ n ∧ n ≤ 10000) (hw : w = nI r) (hr : 1 ≤ r ∧ r ≤ 9) : cdO u x y z w = if u.1 1 < 10 then 0 else 2 := by
  unfold cdO
  rw [pif_pos ⟨inr_ok hx (by decide) (Nat.zero_le _) (by omega), inr_ok hy (by decide) (Nat.zero_le _) (by omega), inr_ok hz (by decide) hn.1 hn.2, inr_ok hw (by decide) hr.1 hr.2⟩, pif_if]
def wr_S (u : pf_S) (d g n r : Nat) : pf_S := (u.1, up2 (up2 (up2 (up2 u.2 14 (u.1 1) d) 15 (u.1 1) g) 16 (u.1 1) n) 17 (u.1 1) r)
theorem u2_o {f : Nat → Nat → Nat} {k x v o : Nat} (h : o ≠ x) : up2 f k x v k o = f k o := by
  rw [up2_at]
  exact if_neg h
theorem wr_o {u : pf_S} {d g n r o : Nat} (h : o < u.1 1) : (wr_S u d g n r).2 14 o = u.2 14 o ∧ (wr_S u d g n r).2 15 o = u.2 15 o ∧ (wr_S u d g n r).2 16 o = u.2 16 o ∧ (wr_S u d g n r).2 17 o = u.2 17 o := by
  have h1 : o ≠ u.1 1 := by omega
  exact ⟨u2_o (f := u.2) (k := 14) h1, u2_o (f := up2 u.2 14 (u.1 1) d) (k := 15) h1, u2_o (f := up2 (up2 u.2 14 (u.1 1) d) 15 (u.1 1) g) (k := 16) h1, u2_o (f := up2 (up2 (up2 u.2 14 (u.1 1) d) 15 (u.1 1) g) 16 (u.1 1) n) (k := 17) h1⟩
theorem kx_row_of {K K' : Nat → Nat} {n : Nat} {b : Nat → Nat} (h : kx_row K n b) (hk : ∀ a, a < n → K' a = K a) : kx_row K' n b := ⟨h.1, fun i j h1 h2 => by
  have := h.2 i j h1 h2
  unfold kx_lt at this ⊢
  rw [hk _ (h.1 i (by omega)), hk _ (h.1 j h2)]
  exact this⟩
theorem wr_cls {u : pf_S} (hc : cls u) {d g n r : Nat} (hd : d < 100) (hg : g < 6) (hn : n ≤ 10000) (hr : r ≤ 9) : cls (wr_S u d g n r) := by
  have hst : pf_st (wr_S u d g n r) := by
    obtain ⟨g1, a1, o1⟩ := hc.1
    refine ⟨g1, a1, o1.1, ?_, ?_, ?_, ?_, o1.2.2.2.2.2.1, ?_⟩
    · exact u2_all (f := u.2) (Pp := fun a v => a < 10 → v < 100) (fun j hj => o1.2.1 j hj) (fun _ => hd) 14 rfl
    · exact u2_all (f := up2 u.2 14 (u.1 1) d) (k := 15) (Pp := fun a v => a < 10 → v < 6) (fun j hj => o1.2.2.1 j hj) (fun _ => hg) 15 rfl
    · exact u2_all (f := up2 (up2 u.2 14 (u.1 1) d) 15 (u.1 1) g) (k := 16) (Pp := fun a v => a < 10 → v ≤ 10000) (fun j hj => o1.2.2.2.1 j hj) (fun _ => hn) 16 rfl
    · exact u2_all (f := up2 (up2 (up2 u.2 14 (u.1 1) d) 15 (u.1 1) g) 16 (u.1 1) n) (k := 17) (Pp := fun a v => a < 10 → v ≤ 9) (fun j hj => o1.2.2.2.2.1 j hj) (fun _ => hr) 17 rfl
    · exact kx_row_of o1.2.2.2.2.2.2 (fun a ha => (wr_o (u := u) ha).2.2.2)
  refine (cls_of hc hst rfl (fun j hj => ?_) (fun o ho => wr_o ho) (fun o ho => ⟨rfl, fun x _ => ⟨rfl, rfl⟩⟩) (fun j _ => rfl) (fun j _ => rfl) hc.2.1.2.2.1 (fun d _ _ => rfl)).1
  simp only [List.mem_cons, List.not_mem_nil, or_false] at hj
  rcases hj with e | e | e | e | e | e | e | e <;> subst e <;> rfl
theorem cv_no {w : pf_S} {a x : Nat} (h : w.1 1 ≤ a) (hx : x < 3) : cv_W w (a * 3 + x) = 0 := by
  unfold cv_W
  rw [if_neg (fun q => by
    have := (cvb_iff.mp q).1
    omega)]
def nw_W (w : pf_S) (a : Nat) : Nat → Nat := jo_W w (cv_W w) a (od_n w a)
theorem nw_M {w : pf_S} (hc : cls w) (a : Nat) : ∀ d, d < 31 → 0 < nw_W w a d → jo_M w a (od_n w a) d = cmk w d := fun d hd h => by
  unfold nw_W jo_W at h
  unfold jo_M
  by_cases q : d / 3 = a ∧ d % 3 < od_n w a
  · rw [if_pos q]
    unfold cmk
    rw [q.1]
  · rw [if_neg q] at h ⊢
    refine hc.2.2.1 d hd ?_
    unfold cv_W at h
    by_cases q1 : cvb w d = true
    · exact cvb_iff.mp q1
    · rw [if_neg q1] at h
      cases h
theorem or_fail {w v : pf_S} (hc : cls w) {a : Nat} (ha : w.1 1 ≤ a) (h : jo_post w (cv_W w) a 0 v) : cls v ∧ jo_same w v ∧ ¬ Feas (w.1 0) (fr_of w) (nw_W w a) (cmk w) := by
  obtain ⟨hj, ⟨h1, -⟩ | ⟨-, hf, h23, h21, h22, hn⟩⟩ := h
  · cases h1
  · have k : ∀ j, j ∉ [21, 22, 23, 24, 25, 26, 27, 28] → v.2 j = w.2 j := hj.2
    have hkeep : ∀ d, cvd w d → d / 3 ≠ a := fun d h => by have := h.1; omega
    refine ⟨(cls_of hc (pf_st_of hj hc.1) hj.1 (fun j hj1 => k j (by revert hj1; simp; omega)) (fun o ho => ⟨by rw [k 14 (by decide)], by rw [k 15 (by decide)], by rw [k 16 (by decide)], by rw [k 17 (by decide)]⟩) (fun o ho => ?_) h21 h22 hf.2.2.1 (fun d hd h => h23 d hd (hkeep d h))).1, hj, fun hF => hn (Feas_congr hF (fun _ _ => rfl) (fun d hd h => ?_))⟩
    · unfold gd_dn gd_dg gd_d1
      rw [k 7 (by decide), k 8 (by decide), k 9 (by decide)]
      exact ⟨rfl, fun _ _ => ⟨rfl, rfl⟩⟩
    · exact (nw_M hc a d hd h).symm
theorem or_good {w v : pf_S} (hc : cls w) {a : Nat} (h : jo_post w (cv_W w) a 1 v) : jo_same w v ∧ fs v (nw_W w a) ∧ Feas (w.1 0) (fr_of w) (nw_W w a) (cmk w) ∧ ∀ d, d < 31 → v.2 23 d = jo_M w a (od_n w a) d := by
  obtain ⟨hj, ⟨-, hf, h23⟩ | ⟨h1, -⟩⟩ := h
  · refine ⟨hj, hf, ?_, h23⟩
    have h1 := fs_feas hf
    have e1 : v.1 0 = w.1 0 := by rw [hj.1]
    have e2 : fr_of v = fr_of w := by
      unfold fr_of
      rw [hj.2 12 (by decide), hj.2 13 (by decide)]
    rw [e1, e2] at h1
    exact Feas_congr h1 (fun _ _ => rfl) (fun d hd h => (h23 d hd).trans (nw_M hc a d hd h))
  · cases h1
def ad_O (v : pf_S) (b : Nat → Nat) : pf_S := (up1 v.1 1 (v.1 1 + 1), up2 (upA v.2 19 b) 18 (v.1 1) 0)
def od_post (u w : pf_S) (k : Nat) (v : pf_S) : Prop := cls v ∧ ((k = 4294967295 ∧ jo_same w v ∧ ¬ Feas (u.1 0) (fr_of u) (nw_W w (u.1 1)) (cmk w)) ∨
  (k = u.1 1 ∧ Feas (u.1 0) (fr_of u) (nw_W w (u.1 1)) (cmk w) ∧ v.1 0 = u.1 0 ∧ v.1 1 = u.1 1 + 1 ∧ (∀ j, j < 20 → j ≠ 18 → j ≠ 19 → v.2 j = w.2 j) ∧ ∀ a, v.2 18 a = if a = u.1 1 then 0 else u.2 18 a))
theorem ao_st {w v : pf_S} (hw : pf_st w) (hj : jo_same w v) (hn : w.1 1 < 10) {b : Nat → Nat} (hb : kx_row (v.2 17) (v.1 1 + 1) b) : pf_st (ad_O v b) := by
  obtain ⟨g1, a1, o1⟩ := pf_st_of hj hw
  have e1 : v.1 1 = w.1 1 := by rw [hj.1]
  refine ⟨g1, a1, by show v.1 1 + 1 ≤ 10; omega, o1.2.1, o1.2.2.1, o1.2.2.2.1, o1.2.2.2.2.1, ?_, hb⟩
  exact u2_all (f := upA v.2 19 b) (k := 18) (Pp := fun a v => a < 10 → v ≤ 2) (fun j hj => o1.2.2.2.2.2.1 j hj) (fun _ => by decide) 18 rfl
theorem ao_cv {w v : pf_S} (hj : jo_same w v) {b : Nat → Nat} (d : Nat) : cvd (ad_O v b) d ↔ (cvd w d ∨ (d / 3 = w.1 1 ∧ d % 3 < od_n w (w.1 1))) := by
  have e1 : v.1 1 = w.1 1 := by rw [hj.1]
  have e2 : ∀ a, od_n (ad_O v b) a = od_n w a := fun a => (show od_n (ad_O v b) a = od_n v a from rfl).trans (jo_n hj a)
  have e3 : ∀ a, (ad_O v b).2 18 a = if a = w.1 1 then 0 else w.2 18 a := fun a => by
    show up2 (upA v.2 19 b) 18 (v.1 1) 0 18 a = _
    rw [up2_at, e1]
    show (if a = w.1 1 then 0 else v.2 18 a) = _
    rw [hj.2 18 (by decide)]
  have e4 : (ad_O v b).1 1 = w.1 1 + 1 := by
    show v.1 1 + 1 = _
    rw [e1]
  unfold cvd
  rw [e2, e3, e4]
  by_cases q : d / 3 = w.1 1
  · rw [q, if_pos rfl]
    constructor
    · rintro ⟨h1, h2, h3⟩
      exact Or.inr ⟨rfl, h3⟩
    · rintro (⟨h1, -⟩ | ⟨-, h3⟩)
      · omega
      · exact ⟨by omega, rfl, h3⟩
  · rw [if_neg q]
    constructor
    · rintro ⟨h1, h2, h3⟩
      exact Or.inl ⟨by omega, h2, h3⟩
    · rintro (⟨h1, h2, h3⟩ | ⟨h1, -⟩)
      · exact ⟨by omega, h2, h3⟩
      · exact absurd h1 q
theorem ao_W {w v : pf_S} (hj : jo_same w v) {b : Nat → Nat} (d : Nat) : nw_W w (w.1 1) d = cv_W (ad_O v b) d := by
  have e2 : ∀ a x, od_w (ad_O v b) a x = od_w w a x := fun a x => (show od_w (ad_O v b) a x = od_w v a x from rfl).trans (jo_w hj a x)
  unfold nw_W jo_W
  by_cases q : d / 3 = w.1 1 ∧ d % 3 < od_n w (w.1 1)
  · rw [if_pos q]
    unfold cv_W
    rw [if_pos (cvb_iff.mpr ((ao_cv hj d).mpr (Or.inr q))), e2, q.1]
  · rw [if_neg q]
    unfold cv_W
    by_cases q1 : cvd w d
    · rw [if_pos (cvb_iff.mpr q1), if_pos (cvb_iff.mpr ((ao_cv hj d).mpr (Or.inl q1))), e2]
    · rw [if_neg (fun h => q1 (cvb_iff.mp h)), if_neg (fun h => ?_)]
      rcases (ao_cv hj d).mp (cvb_iff.mp h) with h1 | h1
      · exact q1 h1
      · exact q h1
theorem ao_m {w v : pf_S} (hj : jo_same w v) {b : Nat → Nat} (d : Nat) : cmk (ad_O v b) d = cmk w d := by
  refine Eq.trans ?_ (jo_m hj d)
  unfold cmk us_f
  have : ∀ g t i, us_m (ad_O v b) g t i = us_m v g t i := fun g t i => by
    induction i with
    | zero => rfl
    | succ i ih =>
      rw [us_m_succ, us_m_succ, ih]
      rfl
  exact this _ _ _
theorem or_end {w v z : pf_S} (hc : cls w) (hn : w.1 1 < 10) (hj : jo_same w v) (hM : ∀ d, d < 31 → v.2 23 d = jo_M w (w.1 1) (od_n w (w.1 1)) d) {b : Nat → Nat} (hb : kx_row (v.2 17) (v.1 1 + 1) b) (hm : mp_post (ad_O v b) (nw_W w (w.1 1)) z) : cls z := by
  obtain ⟨m1, m2, m3, m4⟩ := hm
  have hst := ao_st hc.1 hj hn hb
  have hW : ∀ d, d < 31 → nw_W w (w.1 1) d = cv_W z d := fun d _ => (ao_W hj d).trans (by rw [jo_cv m1])
  have ec : ∀ e, cvd z e ↔ cvd (ad_O v b) e := fun e => by rw [← cvb_iff, ← cvb_iff, jo_cvb m1]
  refine ⟨pf_st_of m1 hst, fs_congr m3 hW, fun d hd hcd => ?_, fun d hd hcd => pl_ok_of (m4 d hd ((ec d).mp hcd)) m1 m2 hW⟩
  rw [m2, jo_m m1, ao_m hj]
  show v.2 23 d = cmk w d
  rw [hM d hd]
  unfold jo_M
  by_cases q : d / 3 = w.1 1 ∧ d % 3 < od_n w (w.1 1)
  · rw [if_pos q]
    unfold cmk
    rw [q.1]
  · rw [if_neg q]
    rcases (ao_cv hj d).mp ((ec d).mp hcd) with h1 | h1
    · exact hc.2.2.1 d hd h1
    · exact absurd h1 q
set_option maxHeartbeats 4000000 in
set_option maxRecDepth 100000 in
theorem c_X4_order (l : Launch) (G : gw_G) (q : Nat → Nat) (u : pf_S) (x : Int32) (y : Int32) (z : Int32) (w : Int32) (hst9 : l.stackTraces = false) (h2 : cl2 u) : gx_MI l yX4_order cX4_order 6 (some .int) 8 134 [.ref (q 0), .int (x), .int (y), .int (z), .int (w)] G (pw G q) u (fun r u1 => ∃ k : Nat, r = nI k ∧ (cdO u x y z w = 0 ∧ od_post u (wr_S u (tn x) (tn y) (tn z) (tn w)) k u1)) (fun E u1 => u1 = u ∧ ((E = "java/lang/IllegalArgumentException" ∧ cdO u x y z w = 1) ∨ (E = "java/lang/UnsupportedOperationException" ∧ cdO u x y z w = 2))) := by
  refine gx_entryI (own := RX4) (by decide) rfl (Nat.le_of_ble_eq_true rfl) ?_
  intro p e s m args below meth c A ls C X9 hex9 Hh hl
  have hl : lv_has ls 6 [(0, .ref (q 0)), (1, .int (x)), (2, .int (y)), (3, .int (z)), (4, .int (w))] := hl
  have hcl : cls u := h2.1
  have hgd : gd_ok u := h2.1.1.1
  have har : ar_ok u := h2.1.1.2.1
  have hod : od_ok u := h2.1.1.2.2
  have h10 : u.1 0 ≤ 10 := har.1
  have o10 : u.1 1 ≤ 10 := hod.1
  refine lv_iload_n C.1 C.2.1 dX4_order_0 rfl (lv_at hl 1 rfl) ?_
  refine gx_fromV (w := pw G q) (u := u) C hex9 Hh (gx_rS (n := 1) [.int (x)] C X9 Hh (c_X4_needTime l G q (u) (x) hst9  _) tw_281 tw_282 tw_66 tw_283 (by decide +kernel) ⟨Nat.le_of_ble_eq_true rfl, Nat.le_of_ble_eq_true rfl⟩ rfl hl.1 (Nat.le_of_ble_eq_true rfl) dX4_order_1 ⟨Nat.le_of_ble_eq_true rfl, Nat.le_of_ble_eq_true rfl⟩) (fun E u1 hx9 => by exact ⟨hx9.2.2, Or.inl ⟨hx9.1, cdO_1 (fun h => hx9.2.1 h.1)⟩⟩) (fun uc_1 H locs hp_1 Hh => ?_)
  obtain ⟨hp_1, hu_1⟩ := hp_1
  rw [hu_1] at Hh
  clear hu_1
  obtain ⟨t, hx_1, hj_1⟩ := hp_1
  rw [hx_1] at hl
  refine lv_iload_n C.1 C.2.1 dX4_order_4 rfl (lv_at hl 2 rfl) ?_
  refine gx_fromV (w := pw G q) (u := u) C hex9 Hh (gx_rS (n := 1) [.int (y)] C X9 Hh (c_X4_needGood l G q (u) (y) hst9  _) tw_357 tw_358 tw_66 tw_359 (by decide +kernel) ⟨Nat.le_of_ble_eq_true rfl, Nat.le_of_ble_eq_true rfl⟩ rfl hl.1 (Nat.le_of_ble_eq_true rfl) dX4_order_5 ⟨Nat.le_of_ble_eq_true rfl, Nat.le_of_ble_eq_true rfl⟩) (fun E u1 hx9 => by exact ⟨hx9.2.2, Or.inl ⟨hx9.1, cdO_1 (fun h => hx9.2.1 h.2.1)⟩⟩) (fun uc_5 H locs hp_5 Hh => ?_)
  obtain ⟨hp_5, hu_5⟩ := hp_5
  rw [hu_5] at Hh
  clear hu_5
  obtain ⟨g, hx_5, hj_5⟩ := hp_5
  rw [hx_5] at hl
  refine lv_iload_n C.1 C.2.1 dX4_order_8 rfl (lv_at hl 3 rfl) ?_
  refine lv_iconst (v := nI 1) C.1 C.2.1 dX4_order_9 (by decide +kernel) ?_
  refine lv_sipush (v := nI 10000) C.1 C.2.1 dX4_order_10 (by decide +kernel) ?_
  refine gx_fromV (w := pw G q) (u := u) C hex9 Hh (gx_rS (n := 3) [.int (z), .int (nI (1)), .int (nI (10000))] C X9 Hh (c_X4_needWithin l G q (u) (z) (1) (10000) hst9 (by decide) (by decide) _) tw_284 tw_285 tw_66 tw_286 (by decide +kernel) ⟨Nat.le_of_ble_eq_true rfl, Nat.le_of_ble_eq_true rfl⟩ rfl hl.1 (Nat.le_of_ble_eq_true rfl) dX4_order_13 ⟨Nat.le_of_ble_eq_true rfl, Nat.le_of_ble_eq_true rfl⟩) (fun E u1 hx9 => by exact ⟨hx9.2.2, Or.inl ⟨hx9.1, cdO_1 (fun h => hx9.2.1 h.2.2.1)⟩⟩) (fun uc_13 H locs hp_13 Hh => ?_)
  obtain ⟨hp_13, hu_13⟩ := hp_13
  rw [hu_13] at Hh
  clear hu_13
  obtain ⟨n, hx_13, hj_13⟩ := hp_13
  rw [hx_13] at hl
  refine lv_iload C.1 C.2.1 dX4_order_16 (lv_at hl 4 rfl) ?_
  refine lv_iconst (v := nI 1) C.1 C.2.1 dX4_order_18 (by decide +kernel) ?_
  refine lv_bipush (v := nI 9) C.1 C.2.1 dX4_order_19 (by decide +kernel) ?_
  refine gx_fromV (w := pw G q) (u := u) C hex9 Hh (gx_rS (n := 3) [.int (w), .int (nI (1)), .int (nI (9))] C X9 Hh (c_X4_needWithin l G q (u) (w) (1) (9) hst9 (by decide) (by decide) _) tw_284 tw_285 tw_66 tw_286 (by decide +kernel) ⟨Nat.le_of_ble_eq_true rfl, Nat.le_of_ble_eq_true rfl⟩ rfl hl.1 (Nat.le_of_ble_eq_true rfl) dX4_order_21 ⟨Nat.le_of_ble_eq_true rfl, Nat.le_of_ble_eq_true rfl⟩) (fun E u1 hx9 => by exact ⟨hx9.2.2, Or.inl ⟨hx9.1, cdO_1 (fun h => hx9.2.1 h.2.2.2)⟩⟩) (fun uc_21 H locs hp_21 Hh => ?_)
  obtain ⟨hp_21, hu_21⟩ := hp_21
  rw [hu_21] at Hh
  clear hu_21
  obtain ⟨r, hx_21, hj_21⟩ := hp_21
  rw [hx_21] at hl
  refine lv_aload_n C.1 C.2.1 dX4_order_24 rfl (lv_at hl 0 rfl) ?_
  refine gw_get (Cn := RX4) (T := TX4) (N := 4) C Hh 0 pw_at0 rfl uwX4 2 (by decide) rfl tw_220 rfl dX4_order_25 ?_
  refine gw_getN (Cn := RX2) (T := TX2) (N := 7) C Hh 3 pw_at3 rfl uwX2 0 (by decide) rfl tw_152 rfl dX4_order_28 ?_
  refine lv_bipush (v := nI 10) C.1 C.2.1 dX4_order_31 (by decide +kernel) ?_
  refine gw_icmp_lt (tgt := 46) C dX4_order_33 (by decide) (by omega) (by omega) (fun hc_33 => ?_) (fun hc_33 => ?_)
  · skip
    refine lv_aload_n C.1 C.2.1 dX4_order_46 rfl (lv_at hl 0 rfl) ?_
    refine gw_get (Cn := RX4) (T := TX4) (N := 4) C Hh 0 pw_at0 rfl uwX4 2 (by decide) rfl tw_220 rfl dX4_order_47 ?_
    refine lv_iload_n C.1 C.2.1 dX4_order_50 rfl (lv_at hl 1 rfl) ?_
    refine lv_iload_n C.1 C.2.1 dX4_order_51 rfl (lv_at hl 2 rfl) ?_
    refine lv_iload_n C.1 C.2.1 dX4_order_52 rfl (lv_at hl 3 rfl) ?_
    refine lv_iload C.1 C.2.1 dX4_order_53 (lv_at hl 4 rfl) ?_
    refine gw_fromI (w := pw G q) (u := u) C Hh (gw_runVN (n := 4) (C1 := RX2) [.int (nI (t)), .int (nI (g)), .int (nI (n)), .int (nI (r))] C Hh (c_X2_write l G q (u) (t) (g) (n) (r) (by first | assumption | omega) _) tw_594 tw_596 tw_38 tw_69 tw_597 (by decide +kernel) ⟨Nat.le_of_ble_eq_true rfl, Nat.le_of_ble_eq_true rfl⟩ 3 pw_at3 rfl rfl hl.1 (Nat.le_of_ble_eq_true rfl) dX4_order_55 ⟨Nat.zero_le _, Nat.zero_le _⟩) (fun rc_55 uc_55 H locs hp_55 Hh => ?_)
    obtain ⟨kc_55, rfl, hp_55⟩ := hp_55
    have hw9 : uc_55 = wr_S u t g n r := hp_55.2
    have hw1 : cls (wr_S u t g n r) := wr_cls hcl hj_1 hj_5 hj_13.2 hj_21.2
    have hwc : cls uc_55 := by (rw [hw9]; exact hw1)
    have hk9 : kc_55 = u.1 1 := hp_55.1
    have h55 : uc_55.1 1 = u.1 1 := by (rw [hw9]; rfl)
    have hk1 : kc_55 = uc_55.1 1 := by omega
    refine lv_istore (lv' := [(5, .int (nI (kc_55))), (0, .ref (q 0)), (1, .int (nI (t))), (2, .int (nI (g))), (3, .int (nI (n))), (4, .int (nI (r)))]) C.1 C.2.1 dX4_order_58 hl (by decide) rfl (fun ls hl => ?_)
    refine lv_aload_n C.1 C.2.1 dX4_order_60 rfl (lv_at hl 1 rfl) ?_
    refine lv_iload C.1 C.2.1 dX4_order_61 (lv_at hl 0 rfl) ?_
    refine gw_fromI (w := pw G q) (u := uc_55) C Hh (gw_runV (n := 1) (C1 := RX4) [.int (nI (kc_55))] C Hh (c_X4_joinsCovered l G q (uc_55) (kc_55) (cv_W uc_55) (by exact hwc.1) (by exact hwc.2.1) (by first | assumption | omega) (by intro x hx; exact cv_no (by omega) hx) _) tw_415 tw_417 tw_15 tw_66 tw_418 (by decide +kernel) ⟨Nat.le_of_ble_eq_true rfl, Nat.le_of_ble_eq_true rfl⟩ 0 pw_at0 rfl rfl hl.1 (Nat.le_of_ble_eq_true rfl) dX4_order_63 ⟨Nat.zero_le _, Nat.zero_le _⟩) (fun rc_63 uc_63 H locs hp_63 Hh => ?_)
    obtain ⟨kc_63, rfl, hp_63⟩ := hp_63
    refine gw_if_ne (tgt := 71) C dX4_order_66 (by decide) (by rcases hp_63.2 with ⟨h, -⟩ | ⟨h, -⟩ <;> omega) (fun hc_66 => ?_) (fun hc_66 => ?_)
    · skip
      obtain ⟨g1, g2, g3, g4⟩ := or_good (a := uc_55.1 1) hwc (by (rw [← hk1]; rcases hp_63.2 with ⟨h, -⟩ | ⟨h, -⟩; rw [h] at hp_63; exact hp_63; omega))
      have e63 : uc_63.1 1 = uc_55.1 1 := by rw [g1.1]
      have hod3 : od_ok uc_63 := (pf_st_of g1 hwc.1).2.2
      refine lv_aload_n C.1 C.2.1 dX4_order_71 rfl (lv_at hl 1 rfl) ?_
      refine gw_get (Cn := RX4) (T := TX4) (N := 4) C Hh 0 pw_at0 rfl uwX4 2 (by decide) rfl tw_220 rfl dX4_order_72 ?_
      refine gw_fromV (w := pw G q) (u := uc_63) C Hh (gw_runVN (n := 0) (C1 := RX2) [] C Hh (c_X2_admit l G q (uc_63)  (by omega) (by exact hod3.2.2.2.2.1) (by exact hod3.2.2.2.2.2.2) _) tw_598 tw_600 tw_39 tw_69 tw_601 (by decide +kernel) ⟨Nat.le_of_ble_eq_true rfl, Nat.le_of_ble_eq_true rfl⟩ 3 pw_at3 rfl rfl hl.1 (Nat.le_of_ble_eq_true rfl) dX4_order_75 ⟨Nat.zero_le _, Nat.zero_le _⟩) (fun uc_75 H locs hp_75 Hh => ?_)
      obtain ⟨b9, hb1, hb2⟩ := hp_75
      refine lv_aload_n C.1 C.2.1 dX4_order_78 rfl (lv_at hl 1 rfl) ?_
      refine gw_fromV (w := pw G q) (u := uc_75) C Hh (gw_runV (n := 0) (C1 := RX4) [] C Hh (c_X4_makePlan l G q (uc_75) (nw_W uc_55 (uc_55.1 1)) (by rw [hb2]; exact ao_st hwc.1 g1 (by omega) hb1) (by rw [hb2]; exact g2) (by intro d hd hcd; rw [hb2] at hcd ⊢; rw [ao_W g1 d]; show cv_W (ad_O uc_63 b9) d = _; unfold cv_W; rw [if_pos (show cvb (ad_O uc_63 b9) d = true from cvb_iff.mpr hcd)]; rfl) _) tw_486 tw_488 tw_28 tw_66 tw_489 (by decide +kernel) ⟨Nat.le_of_ble_eq_true rfl, Nat.le_of_ble_eq_true rfl⟩ 0 pw_at0 rfl rfl hl.1 (Nat.le_of_ble_eq_true rfl) dX4_order_79 ⟨Nat.zero_le _, Nat.zero_le _⟩) (fun uc_79 H locs hp_79 Hh => ?_)
      refine lv_iload C.1 C.2.1 dX4_order_82 (lv_at hl 0 rfl) ?_
      refine gx_ret ?_
      exact gw_iret (w := pw G q) (u := uc_79) C Hh dX4_order_84 ⟨_, rfl, by rw [tn_eq hx_1 (by omega), tn_eq hx_5 (by omega), tn_eq hx_13 (by omega), tn_eq hx_21 (by omega)]; have h8 : mp_post (ad_O uc_63 b9) (nw_W uc_55 (uc_55.1 1)) uc_79 := (by have e := hp_79; rw [hb2] at e; exact e); have h9 := or_end hwc (by omega) g1 g4 hb1 h8; refine ⟨(cdO_v hx_1 hj_1 hx_5 hj_5 hx_13 hj_13 hx_21 hj_21).trans (if_pos (by omega)), h9, Or.inr ⟨hk9, ?_, ?_, ?_, ?_, ?_⟩⟩; (rw [h55] at g3; rw [hw9] at g3; exact g3); (rw [h8.1.1]; show uc_63.1 0 = _; rw [g1.1, hw9]; rfl); (rw [h8.1.1]; show uc_63.1 1 + 1 = _; omega); (intro j j1 j2 j3; rw [h8.1.2 j (by simp; omega)]; show up2 (upA uc_63.2 19 b9) 18 (uc_63.1 1) 0 j = _; rw [up2_ne _ j2, upA_ne _ j3, g1.2 j (by simp; omega), hw9]); (intro a; rw [h8.1.2 18 (by decide)]; show up2 (upA uc_63.2 19 b9) 18 (uc_63.1 1) 0 18 a = _; rw [up2_at, e63, h55]; show (if a = u.1 1 then 0 else uc_63.2 18 a) = _; rw [g1.2 18 (by decide), hw9]; rfl)⟩
    · skip
      refine lv_iconst (v := nI 4294967295) C.1 C.2.1 dX4_order_69 (by decide +kernel) ?_
      refine gx_ret ?_
      exact gw_iret (w := pw G q) (u := uc_63) C Hh dX4_order_70 ⟨_, rfl, by rw [tn_eq hx_1 (by omega), tn_eq hx_5 (by omega), tn_eq hx_13 (by omega), tn_eq hx_21 (by omega)]; have h9 : jo_post uc_55 (cv_W uc_55) (u.1 1) 0 uc_63 := (by rw [← hk9, ← hc_66]; exact hp_63); obtain ⟨f1, f2, f3⟩ := or_fail hwc (by omega) h9; rw [hw9] at f2 f3; exact ⟨(cdO_v hx_1 hj_1 hx_5 hj_5 hx_13 hj_13 hx_21 hj_21).trans (if_pos (by omega)), f1, Or.inl ⟨rfl, f2, f3⟩⟩⟩
  · skip
    exact gx_throw (w := pw G q) (u := u) (E := "java/lang/UnsupportedOperationException") (text := "no room for an order") (names := ["java/lang/RuntimeException", "java/lang/Exception"]) hst9 C X9 hex9 Hh hl.1 (by decide +kernel) (by decide +kernel) tw_382 tw_77 (by decide) ex_60_4 ex_60_5 ex_60_6 dX4_order_36 dX4_order_39 dX4_order_40 dX4_order_42 dX4_order_45 ⟨Nat.le_of_ble_eq_true rfl, Nat.le_of_ble_eq_true rfl, Nat.le_of_ble_eq_true rfl, Nat.le_of_ble_eq_true rfl⟩ (by exact ⟨rfl, Or.inr ⟨rfl, (cdO_v hx_1 hj_1 hx_5 hj_5 hx_13 hj_13 hx_21 hj_21).trans (if_neg (by omega))⟩⟩)
