/-! class and reference in step: flow -/
theorem pl_01 {f : Nat → Nat} (h : ∀ k, f k ≤ 1) : ∀ {n i : Nat}, i < fl_sum f n → ∃ a, a < n ∧ f a = 1 ∧ fl_sum f a = i
  | 0, i, hi => absurd hi (Nat.not_lt_zero _)
  | n + 1, i, hi => by
    rw [fl_sum_succ] at hi
    by_cases q : i < fl_sum f n
    · obtain ⟨a, h1, h2⟩ := pl_01 h q
      exact ⟨a, by omega, h2⟩
    · have := h n
      exact ⟨n, by omega, by omega, by omega⟩
theorem pl_bt {f : Nat → Nat} : ∀ {n i : Nat}, i < fl_sum f n → ∃ a, a < n ∧ fl_sum f a ≤ i ∧ i < fl_sum f (a + 1)
  | 0, i, hi => absurd hi (Nat.not_lt_zero _)
  | n + 1, i, hi => by
    by_cases q : i < fl_sum f n
    · obtain ⟨a, h1, h2⟩ := pl_bt q
      exact ⟨a, by omega, h2⟩
    · exact ⟨n, by omega, by omega, hi⟩
theorem fw_nt {u : pf_S} (hc : cls u) (d : Nat) : fw_n u d = fw_t u d (u.1 0) := by
  have hr := hc.2.1.2.1
  have n2 : u.1 2 = u.1 0 := hc.2.1.1
  unfold fw_n fw_t
  rw [n2, rx (e := u.2 20) (F := fun a => if 0 < tk_x u d a then 1 else 0) (N := u.1 0) (D := u.1 0) (fun i hi => hr.1 i hi) (fun i j hi hj => kx_ne hr hi hj)]
  exact fl_sum_congr fun a ha => (pif_pos (kx_all hr ha)).symm
def fx (u : pf_S) (o p t : Nat) : Nat := fw_p u o p + fw_t u (o * 3 + p) t
def fv (u : pf_S) (o p t : Nat) : Prop := p < od_n u o ∧ t < u.1 0 ∧ 0 < tk_x u (o * 3 + p) (u.2 20 t)
theorem fw_t_lt {u : pf_S} {d t t2 : Nat} (h : t < t2) (hx : 0 < tk_x u d (u.2 20 t)) : fw_t u d t < fw_t u d t2 := by
  have h1 : fw_t u d (t + 1) = fw_t u d t + 1 := by
    unfold fw_t
    rw [fl_sum_succ, if_pos hx]
  have h2 : fw_t u d (t + 1) ≤ fw_t u d t2 := fl_sum_mono _ h
  omega
theorem fx_p1 {u : pf_S} (hc : cls u) {o p t : Nat} (h : fv u o p t) : fx u o p t < fw_p u o (p + 1) := by
  have h1 := fw_t_lt h.2.1 h.2.2
  have h2 : fw_p u o (p + 1) = fw_p u o p + fw_n u (o * 3 + p) := fl_sum_succ _ _
  rw [fw_nt hc] at h2
  unfold fx; omega
theorem fx_lt {u : pf_S} (hc : cls u) {o p t p2 t2 : Nat} (h : fv u o p t) (hl : p < p2 ∨ (p = p2 ∧ t < t2)) : fx u o p t < fx u o p2 t2 := by
  rcases hl with q | ⟨q, r⟩
  · have h1 := fx_p1 hc h
    have h2 : fw_p u o (p + 1) ≤ fw_p u o p2 := fl_sum_mono _ q
    unfold fx at *; omega
  · subst q
    have := fw_t_lt r h.2.2
    unfold fx; omega
theorem fx_end {u : pf_S} (hc : cls u) {o p t : Nat} (h : fv u o p t) : fx u o p t < fw_p u o (od_n u o) := by
  have h1 := fx_p1 hc h
  have h2 : fw_p u o (p + 1) ≤ fw_p u o (od_n u o) := fl_sum_mono _ h.1
  omega
theorem fx_at {u : pf_S} (hc : cls u) {o p i : Nat} (hp : p < od_n u o) (h1 : fw_p u o p ≤ i) (h2 : i < fw_p u o (p + 1)) : ∃ t, fv u o p t ∧ fx u o p t = i := by
  have e : fw_p u o (p + 1) = fw_p u o p + fw_n u (o * 3 + p) := fl_sum_succ _ _
  rw [fw_nt hc] at e
  obtain ⟨t, t1, t2, t3⟩ := pl_01 (f := fun t => if 0 < tk_x u (o * 3 + p) (u.2 20 t) then 1 else 0) (fun k => by split <;> omega) (n := u.1 0) (i := i - fw_p u o p) (by unfold fw_t at e; omega)
  have t4 : 0 < tk_x u (o * 3 + p) (u.2 20 t) := by
    apply Classical.byContradiction
    intro q
    have t2' : (if 0 < tk_x u (o * 3 + p) (u.2 20 t) then 1 else 0) = 1 := t2
    rw [if_neg q] at t2'
    omega
  refine ⟨t, ⟨hp, t1, t4⟩, ?_⟩
  have t3' : fw_t u (o * 3 + p) t = i - fw_p u o p := t3
  unfold fx; omega
theorem fx_on {u : pf_S} (hc : cls u) {o i : Nat} (h : i < fw_p u o (od_n u o)) : ∃ p t, fv u o p t ∧ fx u o p t = i := by
  obtain ⟨p, h1, h2, h3⟩ := pl_bt h
  obtain ⟨t, h4⟩ := fx_at hc h1 h2 h3
  exact ⟨p, t, h4⟩
theorem fx_inj {u : pf_S} (hc : cls u) {o p t p2 t2 : Nat} (h : fv u o p t) (h2 : fv u o p2 t2) (e : fx u o p t = fx u o p2 t2) : p = p2 ∧ t = t2 := by
  rcases Nat.lt_trichotomy p p2 with q | q | q
  · have := fx_lt hc h (Or.inl q) (t2 := t2); omega
  · refine ⟨q, ?_⟩
    rcases Nat.lt_trichotomy t t2 with r | r | r
    · have := fx_lt hc h (Or.inr ⟨q, r⟩); omega
    · exact r
    · have := fx_lt hc h2 (Or.inr ⟨q.symm, r⟩); omega
  · have := fx_lt hc h2 (Or.inl q) (t2 := t); omega
/-- what the class answers, by the places of its entries -/
theorem fw_nf {u : pf_S} (hc : cls u) {o i wh k : Nat} (h : fw_post u o i wh k) : (∃ p t, fv u o p t ∧ fx u o p t = i ∧ k = if wh = 0 then u.2 20 t else if wh = 1 then gd_dg u (u.2 15 o) p else tk_x u (o * 3 + p) (u.2 20 t)) ∨ (k = 4294967295 ∧ fw_p u o (od_n u o) ≤ i) := by
  have n2 : u.1 2 = u.1 0 := hc.2.1.1
  rcases h with ⟨p, h1, h2, h3, h4⟩ | h
  · refine Or.inl ?_
    rcases h4 with ⟨q1, q2⟩ | ⟨q1, q2⟩
    · obtain ⟨t, t1, t2⟩ := fx_at hc h1 h2 h3
      refine ⟨p, t, t1, t2, ?_⟩
      rw [if_neg (by omega), if_pos q1]; exact q2
    · rcases q2 with ⟨t, r1, r2, r3, r4⟩ | ⟨r1, r2⟩
      · refine ⟨p, t, ⟨h1, by omega, r2⟩, by unfold fx; omega, ?_⟩
        rw [if_neg q1]; exact r4
      · have e : fw_p u o (p + 1) = fw_p u o p + fw_n u (o * 3 + p) := fl_sum_succ _ _
        rw [fw_nt hc] at e
        rw [n2] at r2
        omega
  · exact Or.inr h
theorem fc_lt {dr : Nat → Nat} {o r s : Nat} (h : r < s) (ho : dr r / 3 = o) : fc dr o r < fc dr o s := by
  have h1 : fc dr o (r + 1) = fc dr o r + 1 := by
    unfold fc
    rw [fl_sum_succ, if_pos ho]
  have h2 : fc dr o (r + 1) ≤ fc dr o s := fl_sum_mono _ h
  omega
theorem fl_co {u w : pf_S} (h : dt u w) (hc : cls u) {E : Nat} {dr br : Nat → Nat} (he : en2 w (tk_x u) E dr br) {o r : Nat} (hr : r < E) (ho : dr r / 3 = o) : ∃ p t, dr r = o * 3 + p ∧ br r = u.2 20 t ∧ fv u o p t := by
  obtain ⟨c1, c2, c3⟩ := he.1 r hr
  have c1' := (dt_cvd h (pw_of hc.1)).mp c1
  rw [h.1.1.1] at c2
  obtain ⟨t, t1, t2⟩ := kx_all hc.2.1.2.1 c2
  have e : dr r = o * 3 + dr r % 3 := by omega
  refine ⟨dr r % 3, t, e, t2.symm, ?_, t1, ?_⟩
  · rw [← ho]; exact c1'.2.2
  · rw [← e, t2]; exact c3
theorem fl_od {u w : pf_S} (h : dt u w) (hc : cls u) {E : Nat} {dr br : Nat → Nat} (he : en2 w (tk_x u) E dr br) {o r s p t p2 t2 : Nat} (ho : o < u.1 1) (hrs : r < s) (hs : s < E) (e1 : dr r = o * 3 + p) (e2 : br r = u.2 20 t) (f1 : fv u o p t) (e3 : dr s = o * 3 + p2) (e4 : br s = u.2 20 t2) (f2 : fv u o p2 t2) : p < p2 ∨ (p = p2 ∧ t < t2) := by
  have hw := pw_of hc.1
  have d3 := (dn_3 hw (od_6 hw ho)).1
  have l1 : p < 3 := by have := f1.1; unfold od_n at this; omega
  have l2 : p2 < 3 := by have := f2.1; unfold od_n at this; omega
  rcases he.2.2 r s hrs hs with q | ⟨q1, q2⟩
  · rw [e1, e3] at q
    rcases q with q | q
    · rw [show (o * 3 + p) / 3 = o by omega, show (o * 3 + p2) / 3 = o by omega] at q
      exact absurd q kx_irr
    · left; omega
  · right
    refine ⟨by omega, ?_⟩
    rw [e2, e4, dt_kt h.1 (hc.2.1.2.1.1 t f1.2.1) (hc.2.1.2.1.1 t2 f2.2.1)] at q2
    exact kx_tot hc.2.1.2.1 f1.2.1 f2.2.1 q2
theorem fl_in2 {u w : pf_S} (h : dt u w) (hc : cls u) {E : Nat} {dr br : Nat → Nat} (he : en2 w (tk_x u) E dr br) {o p t : Nat} (ho : o < u.1 1) (h18 : u.2 18 o = 0) (f1 : fv u o p t) : ∃ r, r < E ∧ dr r = o * 3 + p ∧ br r = u.2 20 t := by
  have hw := pw_of hc.1
  have d3 := (dn_3 hw (od_6 hw ho)).1
  have l1 : p < 3 := by have := f1.1; unfold od_n at this; omega
  refine he.2.1 (o * 3 + p) (u.2 20 t) ((dt_cvd h hw).mpr ⟨?_, ?_, ?_⟩) (by rw [h.1.1.1]; exact hc.2.1.2.1.1 t f1.2.1) f1.2.2
  · rw [show (o * 3 + p) / 3 = o by omega]; exact ho
  · rw [show (o * 3 + p) / 3 = o by omega]; exact h18
  · rw [show (o * 3 + p) / 3 = o by omega, show (o * 3 + p) % 3 = p by omega]; exact f1.1
/-- the place of an entry is the same on both sides -/
theorem fl_ix {u w : pf_S} (h : dt u w) (hc : cls u) {E : Nat} {dr br : Nat → Nat} (he : en2 w (tk_x u) E dr br) {o : Nat} (ho : o < u.1 1) (h18 : u.2 18 o = 0) : ∀ i r p t, r < E → dr r = o * 3 + p → br r = u.2 20 t → fv u o p t → fc dr o r = i → fx u o p t = i := by
  intro i
  induction i using Nat.strongRecOn with
  | ind i ih =>
    intro r p t hr e1 e2 f1 hi
    have hw := pw_of hc.1
    have d3 := (dn_3 hw (od_6 hw ho)).1
    have l1 : ∀ p t, fv u o p t → p < 3 := fun p t f => by have := f.1; unfold od_n at this; omega
    have hro : dr r / 3 = o := by have := l1 p t f1; omega
    rcases Nat.lt_trichotomy (fx u o p t) i with q | q | q
    · exfalso
      obtain ⟨a, a1, a2, a3⟩ := pl_01 (f := fun s => if dr s / 3 = o then 1 else 0) (fun k => by split <;> omega) (n := r) (i := fx u o p t) (by unfold fc at hi; omega)
      have a4 : dr a / 3 = o := by
        apply Classical.byContradiction
        intro z
        have a2' : (if dr a / 3 = o then 1 else 0) = 1 := a2
        rw [if_neg z] at a2'
        omega
      obtain ⟨p2, t2, g1, g2, g3⟩ := fl_co h hc he (show a < E by omega) a4
      have g4 := ih _ q a p2 t2 (by omega) g1 g2 g3 a3
      have g5 := fx_lt hc g3 (fl_od h hc he ho a1 hr g1 g2 g3 e1 e2 f1)
      omega
    · exact q
    · exfalso
      have h1 := fx_end hc f1
      obtain ⟨p2, t2, g3, g4⟩ := fx_on hc (o := o) (i := i) (by omega)
      obtain ⟨s, s1, g1, g2⟩ := fl_in2 h hc he ho h18 g3
      have hso : dr s / 3 = o := by have := l1 p2 t2 g3; omega
      rcases Nat.lt_trichotomy s r with z | z | z
      · have z1 := fc_lt z hso
        have := ih _ (show fc dr o s < i by omega) s p2 t2 s1 g1 g2 g3 rfl
        omega
      · subst z
        have ep : p = p2 := by omega
        have et : t = t2 := kx_inj hc.2.1.2.1 f1.2.1 g3.2.1 (e2.symm.trans g2)
        subst ep et
        omega
      · have := fx_lt hc f1 (fl_od h hc he ho z s1 e1 e2 f1 g1 g2 g3)
        omega
theorem cdF_dt {u w : pf_S} (h : dt u w) (x y z : Int32) : cdF u x y z = cdF w x y z := by
  refine pif_cg (by rw [h.1.1.2]) (fun q => ?_) (fun _ => rfl)
  rw [h.2 (tn x) (inx_tn q)]
theorem sW {u : pf_S} {v v1 : md_S} {x y z : Int32} {k k' : Nat} (h : Rl u v) (hc : cdF u x y z = 0) (hp : fw_post u (tn x) (tn y) (tn z) k) (hq : sc v v1 ∧ md_bd v1 ∧ rf_post (vw v) (tk_x u) (tn x) (tn y) (tn z) k') : k = k' ∧ Rl u v1 := by
  refine ⟨?_, Rl_sc h hq.1 hq.2.1⟩
  obtain ⟨q1, hc⟩ := pif_z hc (by decide)
  obtain ⟨q2, hc⟩ := pif_z hc (by decide)
  obtain ⟨h18, -⟩ := pif_z hc (by decide)
  have ho := inx_tn q1
  have hcl := h.1.1
  have hd := h.2.2.1
  have hw := pw_of hcl.1
  have d3 := (dn_3 hw (od_6 hw ho)).1
  have l1 : ∀ p t, fv u (tn x) p t → p < 3 := fun p t f => by have := f.1; unfold od_n at this; omega
  obtain ⟨-, -, E, dr, br, he, hq⟩ := hq
  rcases fw_nf hcl hp with ⟨p, t, f1, f2, f3⟩ | ⟨f1, f2⟩
  · obtain ⟨r, r1, r2, r3⟩ := fl_in2 hd hcl he ho h18 f1
    have r4 := fl_ix hd hcl he ho h18 _ r p t r1 r2 r3 f1 rfl
    have r5 : dr r / 3 = tn x := by have := l1 p t f1; omega
    rcases hq with ⟨s, s1, s2, s3, s4⟩ | ⟨s1, s2⟩
    · obtain ⟨p2, t2, g1, g2, g3⟩ := fl_co hd hcl he s1 s2
      have g4 := fl_ix hd hcl he ho h18 _ s p2 t2 s1 g1 g2 g3 s3
      obtain ⟨ep, et⟩ := fx_inj hcl f1 g3 (f2.trans g4.symm)
      subst ep et
      rw [f3, s4, g1, g2]
      have e1 : (tn x * 3 + p) % 3 = p := by have := l1 p t f1; omega
      rw [e1, (hd.1.2.2.2.2.2 _ ho).2.1, dt_dg hd.1 (od_6 hw ho) (l1 p t f1)]
    · have := fc_lt r1 r5
      omega
  · rcases hq with ⟨s, s1, s2, s3, s4⟩ | ⟨s1, s2⟩
    · obtain ⟨p2, t2, g1, g2, g3⟩ := fl_co hd hcl he s1 s2
      have g4 := fl_ix hd hcl he ho h18 _ s p2 t2 s1 g1 g2 g3 s3
      have := fx_end hcl g3
      omega
    · omega
