/-! class and reference in step: what of a state counts (all but the orders' states) -/
def dt0 (u w : pf_S) : Prop := (w.1 0 = u.1 0 ∧ w.1 1 = u.1 1) ∧ (∀ g, g < 6 → w.2 5 g = u.2 5 g ∧ w.2 7 g = u.2 7 g) ∧ (∀ j, j < 36 → w.2 6 j = u.2 6 j) ∧ (∀ j, j < 18 → w.2 8 j = u.2 8 j ∧ w.2 9 j = u.2 9 j) ∧ (∀ a, a < u.1 0 → w.2 10 a = u.2 10 a ∧ w.2 11 a = u.2 11 a ∧ w.2 12 a = u.2 12 a ∧ w.2 13 a = u.2 13 a) ∧ ∀ o, o < u.1 1 → w.2 14 o = u.2 14 o ∧ w.2 15 o = u.2 15 o ∧ w.2 16 o = u.2 16 o ∧ w.2 17 o = u.2 17 o
def dt (u w : pf_S) : Prop := dt0 u w ∧ ∀ o, o < u.1 1 → w.2 18 o = u.2 18 o
theorem dt_dn {u w : pf_S} (h : dt0 u w) {g : Nat} (hg : g < 6) : gd_dn w g = gd_dn u g := by
  unfold gd_dn; rw [(h.2.1 g hg).2]
theorem dt_dg {u w : pf_S} (h : dt0 u w) {g x : Nat} (hg : g < 6) (hx : x < 3) : gd_dg w g x = gd_dg u g x := by
  unfold gd_dg; rw [(h.2.1 g hg).2, (h.2.2.2.1 (g * 3 + x) (by omega)).1]
theorem dt_d1 {u w : pf_S} (h : dt0 u w) {g x : Nat} (hg : g < 6) (hx : x < 3) : gd_d1 w g x = gd_d1 u g x := by
  unfold gd_d1; rw [(h.2.1 g hg).2, (h.2.2.2.1 (g * 3 + x) (by omega)).2]
/-- what the goods and the orders' goods must keep to -/
def pf_w (u : pf_S) : Prop := gd_ok u ∧ ar_ok u ∧ u.1 1 ≤ 10 ∧ ∀ a, a < 10 → u.2 15 a < 6
theorem pw_of {u : pf_S} (h : pf_st u) : pf_w u := ⟨h.1, h.2.1, h.2.2.1, h.2.2.2.2.1⟩
theorem dn_3 {u : pf_S} (hs : pf_w u) {g : Nat} (hg : g < 6) : gd_dn u g ≤ 3 ∧ 1 ≤ gd_dn u g := by
  have := hs.1.1 g hg
  unfold gd_dn; split <;> omega
theorem dg_6 {u : pf_S} (hs : pf_w u) {g x : Nat} (hg : g < 6) (hx : x < 3) : gd_dg u g x < 6 := by
  have := hs.1.2.2.1 (g * 3 + x) (by omega)
  unfold gd_dg; split <;> omega
theorem dt_us {u w : pf_S} (h : dt0 u w) (hs : pf_w u) {g : Nat} (hg : g < 6) (t : Nat) : us_f w g t = us_f u g t := by
  refine Nat.eq_of_testBit_eq fun a => ?_
  unfold us_f
  rw [us_m_bit, us_m_bit, h.1.1]
  by_cases q : a < u.1 0
  · have h10 := hs.2.1.1
    have h6 := hs.2.1.2.2.1 a (by omega)
    obtain ⟨e1, e2, e3, e4⟩ := h.2.2.2.2.1 a q
    unfold us_c
    rw [e1, e2, h.2.2.1 (u.2 11 a * 6 + g) (by omega), (h.2.1 _ h6).1]
  · simp [q]
theorem od_6 {u : pf_S} (hs : pf_w u) {o : Nat} (ho : o < u.1 1) : u.2 15 o < 6 := by
  have h10 := hs.2.2.1
  exact hs.2.2.2 o (by omega)
theorem dt_on {u w : pf_S} (h : dt0 u w) (hs : pf_w u) {o : Nat} (ho : o < u.1 1) : od_n w o = od_n u o := by
  unfold od_n
  rw [(h.2.2.2.2.2 o ho).2.1, dt_dn h (od_6 hs ho)]
theorem dt_ow {u w : pf_S} (h : dt0 u w) (hs : pf_w u) {o x : Nat} (ho : o < u.1 1) (hx : x < 3) : od_w w o x = od_w u o x := by
  unfold od_w
  rw [(h.2.2.2.2.2 o ho).2.1, (h.2.2.2.2.2 o ho).2.2.1, dt_d1 h (od_6 hs ho) hx]
theorem dt_mk {u w : pf_S} (h : dt0 u w) (hs : pf_w u) {d : Nat} (ho : d / 3 < u.1 1) : cmk w d = cmk u d := by
  unfold cmk
  have h3 : d % 3 < 3 := Nat.mod_lt _ (by decide)
  rw [(h.2.2.2.2.2 _ ho).2.1, (h.2.2.2.2.2 _ ho).1, dt_dg h (od_6 hs ho) h3, dt_us h hs (dg_6 hs (od_6 hs ho) h3)]
theorem dt_fr {u w : pf_S} (h : dt0 u w) {b : Nat} (hb : b < u.1 0) : fr_of w b = fr_of u b := by
  unfold fr_of
  rw [(h.2.2.2.2.1 b hb).2.2.1, (h.2.2.2.2.1 b hb).2.2.2]
theorem dt_kx {u w : pf_S} (h : dt0 u w) {a b : Nat} (ha : a < u.1 1) (hb : b < u.1 1) : kx_lt (w.2 17) a b ↔ kx_lt (u.2 17) a b := by
  unfold kx_lt
  rw [(h.2.2.2.2.2 a ha).2.2.2, (h.2.2.2.2.2 b hb).2.2.2]
theorem dt_kt {u w : pf_S} (h : dt0 u w) {a b : Nat} (ha : a < u.1 0) (hb : b < u.1 0) : kx_lt (w.2 10) a b ↔ kx_lt (u.2 10) a b := by
  unfold kx_lt
  rw [(h.2.2.2.2.1 a ha).1, (h.2.2.2.2.1 b hb).1]
theorem dt_pb {u w : pf_S} (h : dt0 u w) {d e : Nat} (hd : d / 3 < u.1 1) (he : e / 3 < u.1 1) : pbf w d e ↔ pbf u d e := by
  unfold pbf
  rw [dt_kx h hd he]
theorem dt_cvd {u w : pf_S} (h : dt u w) (hs : pf_w u) {d : Nat} : cvd w d ↔ cvd u d := by
  unfold cvd
  rw [h.1.1.2]
  constructor
  · intro ⟨h1, h2, h3⟩
    exact ⟨h1, by rw [← h.2 _ h1]; exact h2, by rw [← dt_on h.1 hs h1]; exact h3⟩
  · intro ⟨h1, h2, h3⟩
    exact ⟨h1, by rw [h.2 _ h1]; exact h2, by rw [dt_on h.1 hs h1]; exact h3⟩
theorem dt_cvb {u w : pf_S} (h : dt u w) (hs : pf_w u) {d : Nat} : cvb w d = cvb u d := by
  rw [Bool.eq_iff_iff, cvb_iff, cvb_iff]; exact dt_cvd h hs
theorem dt_cvW {u w : pf_S} (h : dt u w) (hs : pf_w u) : cv_W w = cv_W u := by
  funext d
  unfold cv_W
  rw [dt_cvb h hs]
  by_cases q : cvb u d = true
  · rw [if_pos q, if_pos q]
    exact dt_ow h.1 hs (cvb_iff.mp q).1 (Nat.mod_lt _ (by decide))
  · rw [if_neg q, if_neg q]
/-- one order's turn: only the states of those before it count -/
theorem dt_cwW {u w : pf_S} (h : dt0 u w) (hs : pf_w u) {a : Nat} (ha : a < u.1 1) (hb : ∀ b, b < u.1 1 → kx_lt (u.2 17) b a → w.2 18 b = u.2 18 b) (d : Nat) : cw_W w a d = cw_W u a d := by
  unfold cw_W
  have hx : d % 3 < 3 := Nat.mod_lt _ (by decide)
  have e1 : (decide (d / 3 = a) && decide (d % 3 < od_n w a)) = (decide (d / 3 = a) && decide (d % 3 < od_n u a)) := by rw [dt_on h hs ha]
  have e2 : (cvb w d && klb (w.2 17) (d / 3) a) = (cvb u d && klb (u.2 17) (d / 3) a) := by
    rw [Bool.eq_iff_iff, Bool.and_eq_true, Bool.and_eq_true, cvb_iff, cvb_iff, klb_iff, klb_iff]
    unfold cvd
    rw [h.1.2]
    constructor
    · intro ⟨⟨h1, h2, h3⟩, h4⟩
      rw [dt_kx h h1 ha] at h4
      exact ⟨⟨h1, by rw [← hb _ h1 h4]; exact h2, by rw [← dt_on h hs h1]; exact h3⟩, h4⟩
    · intro ⟨⟨h1, h2, h3⟩, h4⟩
      exact ⟨⟨h1, by rw [hb _ h1 h4]; exact h2, by rw [dt_on h hs h1]; exact h3⟩, (dt_kx h h1 ha).mpr h4⟩
  rw [e1, e2]
  by_cases q : ((decide (d / 3 = a) && decide (d % 3 < od_n u a)) || (cvb u d && klb (u.2 17) (d / 3) a)) = true
  · rw [if_pos q, if_pos q]
    refine dt_ow h hs ?_ hx
    rw [Bool.or_eq_true, Bool.and_eq_true, Bool.and_eq_true, decide_eq_true_iff, cvb_iff] at q
    rcases q with q | q
    · rw [q.1]; exact ha
    · exact q.1.1
  · rw [if_neg q, if_neg q]
theorem hall_of {n : Nat} {fr fr2 W1 W2 M1 M2 : Nat → Nat} (hf : ∀ a, a < n → fr2 a = fr a) (hW : ∀ d, d < 31 → W2 d = W1 d) (hM : ∀ d, d < 31 → 0 < W1 d → M2 d = M1 d) : hall n fr W1 M1 ↔ hall n fr2 W2 M2 := by
  unfold hall
  have e1 : ∀ S, asum fr2 S n = asum fr S n := fun S => by
    unfold asum
    exact fl_sum_congr fun a ha => by rw [hf a ha]
  have e2 : ∀ S, hsum W2 M2 S = hsum W1 M1 S := fun S => by
    unfold hsum
    refine fl_sum_congr fun d hd => ?_
    show (if M2 d &&& (S ^^^ 4294967295) = 0 then W2 d else 0) = (if M1 d &&& (S ^^^ 4294967295) = 0 then W1 d else 0)
    rw [hW d hd]
    by_cases q : 0 < W1 d
    · rw [hM d hd q]
    · have : W1 d = 0 := by omega
      rw [this]; simp
  constructor
  · intro h S hS; rw [e1, e2]; exact h S hS
  · intro h S hS; rw [← e1, ← e2]; exact h S hS
theorem cw_pos {u : pf_S} {a d : Nat} (ha : a < u.1 1) (h : 0 < cw_W u a d) : d / 3 < u.1 1 := by
  unfold cw_W at h
  split at h
  · rename_i q
    rw [Bool.or_eq_true, Bool.and_eq_true, Bool.and_eq_true, decide_eq_true_iff, cvb_iff] at q
    rcases q with q | q
    · rw [q.1]; exact ha
    · exact q.1.1
  · omega
theorem cv_pos {u : pf_S} {d : Nat} (h : 0 < cv_W u d) : cvd u d := by
  unfold cv_W at h
  split at h
  · rename_i q; exact cvb_iff.mp q
  · omega
theorem mk_okm {u : pf_S} (hs : pf_st u) : mk_ok (u.1 0) (cmk u) := ⟨hs.2.1.1, fun d _ a ha => us_f_lt ha⟩
/-- which orders are covered is decided alike -/
theorem st_eq {u w : pf_S} (h : dt0 u w) (hs : pf_st u) (hso : ∀ a, a < u.1 1 → (so_spec u a ∧ so_hall w a) ∨ (u.2 18 a = 2 ∧ w.2 18 a = 2)) : dt u w := by
  refine ⟨h, ?_⟩
  have key : ∀ i, i < u.1 1 → w.2 18 (u.2 19 i) = u.2 18 (u.2 19 i) := by
    intro i
    induction i using Nat.strongRecOn with
    | ind i ih =>
      intro hi
      have hrow := hs.2.2.2.2.2.2.2.2
      have ha : u.2 19 i < u.1 1 := hrow.1 i hi
      rcases hso _ ha with ⟨h1, h2⟩ | ⟨h1, h2⟩
      · have hb : ∀ b, b < u.1 1 → kx_lt (u.2 17) b (u.2 19 i) → w.2 18 b = u.2 18 b := fun b hb hk => by
          obtain ⟨j, hj, e⟩ := kx_all hrow hb
          rw [← e] at hk ⊢
          exact ih j (kx_tot hrow hj hi hk) hj
        have hh : hall (u.1 0) (fr_of u) (cw_W u (u.2 19 i)) (cmk u) ↔ hall (w.1 0) (fr_of w) (cw_W w (u.2 19 i)) (cmk w) := by
          rw [h.1.1]
          exact hall_of (fun a ha => dt_fr h ha) (fun d _ => dt_cwW h (pw_of hs) ha hb d) (fun d _ hp => dt_mk h (pw_of hs) (cw_pos ha hp))
        rw [← Feas_iff (mk_okm hs)] at hh
        unfold so_spec at h1
        unfold so_hall at h2
        rcases h1 with ⟨q1, q2⟩ | ⟨q1, q2⟩ <;> rcases h2 with ⟨r1, r2⟩ | ⟨r1, r2⟩
        · rw [q1, r1]
        · exact absurd (hh.mp q2) r2
        · exact absurd (hh.mpr r2) q2
        · rw [q1, r1]
      · rw [h1, h2]
  intro o ho
  obtain ⟨j, hj, e⟩ := kx_all hs.2.2.2.2.2.2.2.2 ho
  rw [← e]; exact key j hj
