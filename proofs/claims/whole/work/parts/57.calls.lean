/-! class and reference in step: the calls that change what is there -/
def pn (u : pf_S) : Prop := ∀ g, g < 6 → ∀ x, x < u.2 7 g → 1 ≤ u.2 9 (g * 3 + x)
def Rl (u : pf_S) (v : md_S) : Prop := cl2 u ∧ md2 v ∧ dt u (vw v) ∧ pn u
def asz (u : pf_S) : Prop := ∀ a, u.1 0 ≤ a → a < 10 → u.2 13 a = 0
theorem pif_cg {p1 p2 : Prop} {a a' b b' : Nat} (h : p1 ↔ p2) (ha : p1 → a = a') (hb : ¬ p1 → b = b') : pif p1 a b = pif p2 a' b' := by
  by_cases q : p1
  · rw [pif_pos q, pif_pos (h.mp q)]; exact ha q
  · rw [pif_neg q, pif_neg (fun r => q (h.mpr r))]; exact hb q
theorem pif_z {p1 : Prop} {a b : Nat} (h : pif p1 a b = 0) (hb : b ≠ 0) : p1 ∧ a = 0 := by
  by_cases q : p1
  · rw [pif_pos q] at h; exact ⟨q, h⟩
  · rw [pif_neg q] at h; exact absurd h hb
theorem pif_z2 {p1 : Prop} {a b : Nat} (h : pif p1 a b = 0) (ha : a ≠ 0) : ¬ p1 ∧ b = 0 := by
  by_cases q : p1
  · rw [pif_pos q] at h; exact absurd h ha
  · rw [pif_neg q] at h; exact ⟨q, h⟩
theorem inr_tn {x : Int32} {a b : Nat} (h : inr x a b) : a ≤ tn x ∧ tn x ≤ b := by unfold inr at h; unfold tn; omega
theorem inx_tn {x : Int32} {n : Nat} (h : inx x n) : tn x < n := by unfold inx at h; unfold tn; omega
theorem dt0_of {u w u1 w1 : pf_S} (h : dt0 u w) (hu : u1.1 0 = u.1 0 ∧ u1.1 1 = u.1 1 ∧ ∀ j, j < 18 → u1.2 j = u.2 j) (hw : w1.1 0 = w.1 0 ∧ w1.1 1 = w.1 1 ∧ ∀ j, j < 18 → w1.2 j = w.2 j) : dt0 u1 w1 := by
  obtain ⟨a1, a2, a3⟩ := hu
  obtain ⟨b1, b2, b3⟩ := hw
  unfold dt0 at *
  rw [a1, a2, b1, b2, a3 5 (by decide), a3 6 (by decide), a3 7 (by decide), a3 8 (by decide), a3 9 (by decide), a3 10 (by decide), a3 11 (by decide), a3 12 (by decide), a3 13 (by decide), a3 14 (by decide), a3 15 (by decide), a3 16 (by decide), a3 17 (by decide), b3 5 (by decide), b3 6 (by decide), b3 7 (by decide), b3 8 (by decide), b3 9 (by decide), b3 10 (by decide), b3 11 (by decide), b3 12 (by decide), b3 13 (by decide), b3 14 (by decide), b3 15 (by decide), b3 16 (by decide), b3 17 (by decide)]
  exact h
theorem vw_sx {a b : md_S} (h : sx a b) : (vw b).1 0 = (vw a).1 0 ∧ (vw b).1 1 = (vw a).1 1 ∧ ∀ j, j < 18 → (vw b).2 j = (vw a).2 j := by
  obtain ⟨h0, h1, h2, h3⟩ := h
  refine ⟨h1, h2, fun j hj => ?_⟩
  funext i
  unfold vw
  dsimp only
  rw [h3 1 (by decide) (by decide), h3 2 (by decide) (by decide), h3 3 (by decide) (by decide), h3 4 (by decide) (by decide), h3 5 (by decide) (by decide), h3 6 (by decide) (by decide), h3 7 (by decide) (by decide), h3 8 (by decide) (by decide), h3 9 (by decide) (by decide), h3 10 (by decide) (by decide), h3 11 (by decide) (by decide), h3 12 (by decide) (by decide), h3 13 (by decide) (by decide), if_neg (show ¬ j = 18 by omega), if_neg (show ¬ j = 18 by omega)]
theorem vw_sc {a b : md_S} (h : sc a b) : (vw b).1 0 = (vw a).1 0 ∧ (vw b).1 1 = (vw a).1 1 ∧ (∀ j, j < 18 → (vw b).2 j = (vw a).2 j) ∧ ∀ o, (vw b).2 18 o = (vw a).2 18 o := by
  obtain ⟨h1, h2, h3⟩ := h
  refine ⟨h1, h2, fun j hj => ?_, fun o => congrFun (h3 14 (by decide) (by decide)) o⟩
  funext i
  unfold vw
  dsimp only
  rw [h3 1 (by decide) (by decide), h3 2 (by decide) (by decide), h3 3 (by decide) (by decide), h3 4 (by decide) (by decide), h3 5 (by decide) (by decide), h3 6 (by decide) (by decide), h3 7 (by decide) (by decide), h3 8 (by decide) (by decide), h3 9 (by decide) (by decide), h3 10 (by decide) (by decide), h3 11 (by decide) (by decide), h3 12 (by decide) (by decide), h3 13 (by decide) (by decide), if_neg (show ¬ j = 18 by omega), if_neg (show ¬ j = 18 by omega)]
theorem se_u {u v : pf_S} (h : se_same u v) : v.1 0 = u.1 0 ∧ v.1 1 = u.1 1 ∧ ∀ j, j < 18 → v.2 j = u.2 j := ⟨h.1, h.2.1, fun j hj => h.2.2 j (by omega) (by omega)⟩
theorem dt_cv {ub u1 : pf_S} {vb v1 : md_S} (hd : dt ub (vw vb)) (hp : se_post ub u1) (hc : cv_post vb v1) : dt u1 (vw v1) := by
  refine st_eq (dt0_of hd.1 (se_u hp.1) (vw_sx hc.1)) hp.2.1.1 fun a ha => ?_
  have ha' : a < ub.1 1 := by rw [← hp.1.2.1]; exact ha
  have hb' : a < vb.1 2 := by have := hd.1.1.2; exact (show (vw vb).1 1 = vb.1 2 from rfl) ▸ this ▸ ha'
  have e18 : vb.2.1 14 a = ub.2 18 a := hd.2 a ha'
  by_cases q : ub.2 18 a = 2
  · exact Or.inr ⟨(hp.2.2 a ha').2 q, (hc.2.2 a hb').2 (e18.trans q)⟩
  · exact Or.inl ⟨(hp.2.2 a ha').1 q, (hc.2.2 a hb').1 (fun r => q (e18.symm.trans r))⟩
theorem md_cv {vb v1 : md_S} (hm : md2 vb) (hc : cv2 vb v1) : md2 v1 := by
  obtain ⟨⟨h1, h2, h3, h4, h5⟩, -⟩ := hm
  obtain ⟨⟨⟨g0, g1, g2, g3⟩, gb, gs⟩, gp⟩ := hc
  refine ⟨⟨?_, ?_, ?_, ?_, ?_⟩, gb⟩
  · rw [g1, g2]; exact h1
  · rw [g3 1 (by decide) (by decide), g3 2 (by decide) (by decide), g3 3 (by decide) (by decide)]; exact h2
  · rw [g3 4 (by decide) (by decide), g3 5 (by decide) (by decide)]; exact h3
  · rw [g3 6 (by decide) (by decide), g3 7 (by decide) (by decide), g3 8 (by decide) (by decide), g3 9 (by decide) (by decide)]; exact h4
  · rw [g3 10 (by decide) (by decide), g3 11 (by decide) (by decide), g3 12 (by decide) (by decide), g3 13 (by decide) (by decide)]
    intro o ho
    obtain ⟨k1, k2, k3, k4, k5⟩ := h5 o ho
    refine ⟨k1, k2, k3, k4, ?_⟩
    by_cases q : o < vb.1 2
    · by_cases q2 : vb.2.1 14 o = 2
      · rw [(gs o q).2 q2]; omega
      · rcases (gs o q).1 q2 with ⟨r, -⟩ | ⟨r, -⟩ <;> (have r' : v1.2.1 14 o = _ := r; omega)
    · rw [gp o (by omega)]; exact k5
theorem cl2_se {ub u1 : pf_S} (h13 : asz ub) (hk : ki ub) (hp : se_post ub u1) : cl2 u1 := by
  obtain ⟨a1, a2, a3⟩ := se_u hp.1
  refine ⟨hp.2.1, ?_, ?_⟩
  · rw [a1, a3 13 (by decide)]; exact h13
  · unfold ki at *
    rw [a1, a3 7 (by decide), a3 11 (by decide), a3 6 (by decide)]; exact hk
theorem pn_se {ub u1 : pf_S} (h : pn ub) (h7 : u1.2 7 = ub.2 7) (h9 : u1.2 9 = ub.2 9) : pn u1 := by
  unfold pn at *
  rw [h7, h9]; exact h
theorem Rl_cv {ub u1 : pf_S} {vb v1 : md_S} (h13 : asz ub) (hk : ki ub) (hpn : pn ub) (hd : dt ub (vw vb)) (hm : md2 vb) (hp : se_post ub u1) (hc : cv2 vb v1) : Rl u1 v1 :=
  ⟨cl2_se h13 hk hp, md_cv hm hc, dt_cv hd hp hc.1, pn_se hpn ((se_u hp.1).2.2 7 (by decide)) ((se_u hp.1).2.2 9 (by decide))⟩
theorem dt_fallen {u : pf_S} {v : md_S} (h : dt u (vw v)) : fallen u = rfallen v := by
  unfold fallen rfallen
  rw [show v.1 2 = u.1 1 from h.1.1.2]
  refine fl_sum_congr fun a ha => ?_
  rw [show v.2.1 14 a = u.2 18 a from h.2 a ha]
theorem Rl_code {u : pf_S} {v : md_S} (h : Rl u v) (k : Nat) : Rl u (up1 v.1 0 k, v.2) :=
  ⟨h.1, ⟨h.2.1.1, h.2.1.2⟩, h.2.2.1, h.2.2.2⟩
/-- arrival -/
theorem cdA_dt {u w : pf_S} (h : dt u w) (x y z : Int32) : cdA u x y z = cdA w x y z := by
  refine pif_cg Iff.rfl (fun q => ?_) (fun _ => rfl)
  have := (inr_tn q.2.1).2
  rw [(h.1.2.1 (tn y) (by omega)).2, h.1.1.1]
theorem cdA_0 {u : pf_S} {x y z : Int32} (h : cdA u x y z = 0) : (tn x < 100 ∧ tn y < 6 ∧ tn z ≤ 1000000) ∧ u.2 7 (tn y) = 0 ∧ u.1 0 < 10 := by
  obtain ⟨⟨q1, q2, q3⟩, h⟩ := pif_z h (by decide)
  obtain ⟨r, h⟩ := pif_z2 h (by decide)
  obtain ⟨t, h⟩ := pif_z h (by decide)
  have := (inr_tn q1).2; have := (inr_tn q2).2; have := (inr_tn q3).2
  exact ⟨⟨by omega, by omega, by omega⟩, by omega, t⟩
theorem rA_dt {u : pf_S} {v : md_S} (h : dt u (vw v)) (hz : u.2 13 (u.1 0) = 0) (t g n : Nat) : dt (ad_S u t g n) (vw (rA v t g n)) := by
  obtain ⟨⟨⟨h0, h1⟩, h2, h3, h4, h5, h6⟩, h7⟩ := h
  have h0' : v.1 1 = u.1 0 := h0
  refine ⟨⟨⟨?_, h1⟩, h2, h3, h4, fun a ha => ?_, h6⟩, h7⟩
  · show v.1 1 + 1 = u.1 0 + 1
    rw [h0']
  · have ha' : a < u.1 0 + 1 := ha
    simp only [ad_S, rA, vw, up1, up2]
    simp only [h0', reduceIte, Nat.reduceEqDiff]
    by_cases q : a = u.1 0
    · subst q; simp [hz]
    · rw [if_neg q, if_neg q, if_neg q, if_neg q, if_neg q, if_neg q, if_neg q]
      exact h5 a (by omega)
theorem sA {u u1 : pf_S} {v v1 : md_S} {x y z : Int32} {k k' : Nat} (h : Rl u v) (hc : cdA u x y z = 0) (hk : k = u.1 0) (hp : se_post (ad_S u (tn x) (tn y) (tn z)) u1) (hk' : k' = v.1 1) (hq : cv2 (rA v (tn x) (tn y) (tn z)) v1) : k = k' ∧ Rl u1 v1 := by
  obtain ⟨⟨hcl, h13, hki⟩, hm, hd, hpn⟩ := h
  obtain ⟨⟨b1, b2, b3⟩, b4, b5⟩ := cdA_0 hc
  have e0 : v.1 1 = u.1 0 := hd.1.1.1
  refine ⟨by omega, Rl_cv (ub := ad_S u (tn x) (tn y) (tn z)) ?_ ?_ hpn (rA_dt hd (h13 _ (Nat.le_refl _) b5) _ _ _) (rA_ok hm (by omega) b1 b2 b3) hp hq⟩
  · intro a ha h10
    have ha' : u.1 0 + 1 ≤ a := ha
    exact h13 a (by omega) h10
  · intro g hg h0
    obtain ⟨k1, k2⟩ := hki g hg h0
    refine ⟨fun a ha => ?_, k2⟩
    have ha' : a < u.1 0 + 1 := ha
    simp only [ad_S, up1, up2, reduceIte, Nat.reduceEqDiff]
    by_cases q : a = u.1 0
    · rw [if_pos q]
      intro r
      rw [r] at b4
      have h0' : 0 < u.2 7 g := h0
      omega
    · rw [if_neg q]; exact k1 a (by omega)
/-- change -/
theorem cdC_dt {u w : pf_S} (h : dt u w) (x y z : Int32) : cdC u x y z = cdC w x y z := by
  refine pif_cg (by rw [h.1.1.1]) (fun q => ?_) (fun _ => rfl)
  rw [(h.1.2.2.2.2.1 (tn x) (inx_tn q)).2.2.2]
theorem cdC_0 {u : pf_S} {x y z : Int32} (h : cdC u x y z = 0) : tn x < u.1 0 ∧ tn y < 100 ∧ tn z ≤ 1000000 ∧ u.2 13 (tn x) ≤ tn z := by
  obtain ⟨q1, h⟩ := pif_z h (by decide)
  obtain ⟨⟨q2, q3⟩, h⟩ := pif_z h (by decide)
  obtain ⟨r, h⟩ := pif_z2 h (by decide)
  have := (inr_tn q2).2; have := (inr_tn q3).2
  exact ⟨inx_tn q1, by omega, by omega, by omega⟩
theorem rC_dt {u : pf_S} {v : md_S} (h : dt u (vw v)) (a t n : Nat) : dt (ch_S u a t n) (vw (rC v a t n)) := by
  obtain ⟨⟨⟨h0, h1⟩, h2, h3, h4, h5, h6⟩, h7⟩ := h
  refine ⟨⟨⟨h0, h1⟩, h2, h3, h4, fun b hb => ?_, h6⟩, h7⟩
  have hb' : b < u.1 0 := hb
  simp only [ch_S, rC, vw, up1, up2]
  simp only [reduceIte, Nat.reduceEqDiff]
  obtain ⟨e1, e2, e3, e4⟩ := h5 b hb'
  refine ⟨?_, e2, ?_, e4⟩
  · by_cases q : b = a
    · rw [if_pos q, if_pos q]
    · rw [if_neg q, if_neg q]; exact e1
  · by_cases q : b = a
    · rw [if_pos q, if_pos q]
    · rw [if_neg q, if_neg q]; exact e3
theorem sC {u u1 : pf_S} {v v1 : md_S} {x y z : Int32} {k k' : Nat} (h : Rl u v) (hc : cdC u x y z = 0) (hk : k = fallen u1) (hp : se_post (ch_S u (tn x) (tn y) (tn z)) u1) (hk' : k' = rfallen v1) (hq : cv2 (rC v (tn x) (tn y) (tn z)) v1) : k = k' ∧ Rl u1 v1 := by
  obtain ⟨⟨hcl, h13, hki⟩, hm, hd, hpn⟩ := h
  obtain ⟨b1, b2, b3, b4⟩ := cdC_0 hc
  have e9 : v.2.1 9 (tn x) = u.2 13 (tn x) := (hd.1.2.2.2.2.1 _ b1).2.2.2
  have R : Rl u1 v1 := Rl_cv (ub := ch_S u (tn x) (tn y) (tn z)) h13 hki hpn (rC_dt hd _ _ _) (rC_ok hm b2 b3 (by omega)) hp hq
  exact ⟨by rw [hk, hk']; exact dt_fallen R.2.2.1, R⟩
/-- aside -/
theorem cdS_dt {u w : pf_S} (h : dt u w) (x y : Int32) : cdS u x y = cdS w x y := by
  refine pif_cg (by rw [h.1.1.1]) (fun q => ?_) (fun _ => rfl)
  rw [(h.1.2.2.2.2.1 (tn x) (inx_tn q)).2.2.1]
theorem cdS_0 {u : pf_S} {x y : Int32} (h : cdS u x y = 0) : tn x < u.1 0 ∧ tn y ≤ u.2 12 (tn x) := by
  obtain ⟨q1, h⟩ := pif_z h (by decide)
  obtain ⟨q2, h⟩ := pif_z h (by decide)
  exact ⟨inx_tn q1, (inr_tn q2).2⟩
theorem rS_dt {u : pf_S} {v : md_S} (h : dt u (vw v)) (a n : Nat) : dt (as_S u a n) (vw (rS v a n)) := by
  obtain ⟨⟨⟨h0, h1⟩, h2, h3, h4, h5, h6⟩, h7⟩ := h
  refine ⟨⟨⟨h0, h1⟩, h2, h3, h4, fun b hb => ?_, h6⟩, h7⟩
  have hb' : b < u.1 0 := hb
  simp only [as_S, rS, vw, up1, up2]
  simp only [reduceIte, Nat.reduceEqDiff]
  obtain ⟨e1, e2, e3, e4⟩ := h5 b hb'
  refine ⟨e1, e2, e3, ?_⟩
  by_cases q : b = a
  · rw [if_pos q, if_pos q]
  · rw [if_neg q, if_neg q]; exact e4
theorem sS {u u1 : pf_S} {v v1 : md_S} {x y : Int32} {k k' : Nat} (h : Rl u v) (hc : cdS u x y = 0) (hk : k = fallen u1) (hp : se_post (as_S u (tn x) (tn y)) u1) (hk' : k' = rfallen v1) (hq : cv2 (rS v (tn x) (tn y)) v1) : k = k' ∧ Rl u1 v1 := by
  obtain ⟨⟨hcl, h13, hki⟩, hm, hd, hpn⟩ := h
  obtain ⟨b1, b2⟩ := cdS_0 hc
  have e9 : v.2.1 8 (tn x) = u.2 12 (tn x) := (hd.1.2.2.2.2.1 _ b1).2.2.1
  have R : Rl u1 v1 := Rl_cv (ub := as_S u (tn x) (tn y)) (fun a ha h10 => by
    have ha' : u.1 0 ≤ a := ha
    show up2 u.2 13 (tn x) (tn y) 13 a = 0
    rw [u2_o (show a ≠ tn x by omega)]; exact h13 a ha' h10) hki hpn (rS_dt hd _ _) (rS_ok hm (by omega)) hp hq
  exact ⟨by rw [hk, hk']; exact dt_fallen R.2.2.1, R⟩
/-- life -/
theorem cdL_0 {x y : Int32} (h : cdL x y = 0) : tn x < 6 ∧ tn y ≤ 100 := by
  obtain ⟨⟨q1, q2⟩, h⟩ := pif_z h (by decide)
  have := (inr_tn q1).2
  exact ⟨by omega, (inr_tn q2).2⟩
theorem rL_dt {u : pf_S} {v : md_S} (h : dt u (vw v)) (g n : Nat) : dt (li_S u g n) (vw (rL v g n)) := by
  obtain ⟨⟨⟨h0, h1⟩, h2, h3, h4, h5, h6⟩, h7⟩ := h
  refine ⟨⟨⟨h0, h1⟩, fun b hb => ?_, h3, h4, h5, h6⟩, h7⟩
  simp only [li_S, rL, vw, up1, up2]
  simp only [reduceIte, Nat.reduceEqDiff]
  obtain ⟨e1, e2⟩ := h2 b hb
  refine ⟨?_, e2⟩
  by_cases q : b = g
  · rw [if_pos q, if_pos q]
  · rw [if_neg q, if_neg q]; exact e1
theorem sL {u u1 : pf_S} {v v1 : md_S} {x y : Int32} {k k' : Nat} (h : Rl u v) (hc : cdL x y = 0) (hk : k = fallen u1) (hp : se_post (li_S u (tn x) (tn y)) u1) (hk' : k' = rfallen v1) (hq : cv2 (rL v (tn x) (tn y)) v1) : k = k' ∧ Rl u1 v1 := by
  obtain ⟨⟨hcl, h13, hki⟩, hm, hd, hpn⟩ := h
  obtain ⟨b1, b2⟩ := cdL_0 hc
  have R : Rl u1 v1 := Rl_cv (ub := li_S u (tn x) (tn y)) h13 hki hpn (rL_dt hd _ _) (rL_ok hm b2) hp hq
  exact ⟨by rw [hk, hk']; exact dt_fallen R.2.2.1, R⟩
/-- close -/
theorem cdX_dt {u w : pf_S} (h : dt u w) (x : Int32) : cdX u x = cdX w x := by
  refine pif_cg (by rw [h.1.1.2]) (fun q => ?_) (fun _ => rfl)
  rw [h.2 (tn x) (inx_tn q)]
theorem rX_dt {u : pf_S} {v : md_S} (h : dt u (vw v)) (a : Nat) : dt (xo_S u a) (vw (rX v a)) := by
  obtain ⟨⟨⟨h0, h1⟩, h2, h3, h4, h5, h6⟩, h7⟩ := h
  refine ⟨⟨⟨h0, h1⟩, h2, h3, h4, h5, h6⟩, fun b hb => ?_⟩
  simp only [xo_S, rX, vw, up1, up2]
  simp only [reduceIte, Nat.reduceEqDiff]
  by_cases q : b = a
  · rw [if_pos q, if_pos q]
  · rw [if_neg q, if_neg q]; exact h7 b hb
theorem sX {u u1 : pf_S} {v v1 : md_S} {x : Int32} {k k' : Nat} (h : Rl u v) (hk : k = fallen u1) (hp : se_post (xo_S u (tn x)) u1) (hk' : k' = rfallen v1) (hq : cv2 (rX v (tn x)) v1) : k = k' ∧ Rl u1 v1 := by
  obtain ⟨⟨hcl, h13, hki⟩, hm, hd, hpn⟩ := h
  have R : Rl u1 v1 := Rl_cv (ub := xo_S u (tn x)) h13 hki hpn (rX_dt hd _) (rX_ok hm) hp hq
  exact ⟨by rw [hk, hk']; exact dt_fallen R.2.2.1, R⟩
/-- state -/
theorem sN {u : pf_S} {v : md_S} {x : Int32} {k k' : Nat} (h : Rl u v) (hc : cdN (u.1 1) x = 0) (hk : k = u.2 18 (tn x)) (hk' : k' = v.2.1 14 (tn x)) : k = k' ∧ Rl u (up1 v.1 0 0, v.2) := by
  obtain ⟨q1, -⟩ := pif_z hc (by decide)
  exact ⟨by rw [hk, hk']; exact (h.2.2.1.2 _ (inx_tn q1)).symm, Rl_code h 0⟩
