/-- a choice by any proposition -/
noncomputable def pif (c : Prop) (a b : Nat) : Nat := @ite Nat c (Classical.propDecidable c) a b
theorem pif_pos {c : Prop} {a b : Nat} (h : c) : pif c a b = a := if_pos h
theorem pif_neg {c : Prop} {a b : Nat} (h : ¬ c) : pif c a b = b := if_neg h
theorem pif_if (c : Prop) [Decidable c] (a b : Nat) : pif c a b = if c then a else b := by
  by_cases h : c
  · rw [pif_pos h, if_pos h]
  · rw [pif_neg h, if_neg h]
/-- the natural number of an int -/
def tn (x : Int32) : Nat := x.toInt.toNat
theorem tn_eq {x : Int32} {j : Nat} (h : x = nI j) (hj : j < 2 ^ 31) : tn x = j := by
  unfold tn
  rw [h, nI_toInt hj]
  exact Int.toNat_natCast j
def inx (x : Int32) (n : Nat) : Prop := 0 ≤ x.toInt ∧ x.toInt < n
theorem inr_ok {x : Int32} {j a b : Nat} (h : x = nI j) (hb : b < 2 ^ 31) (h1 : a ≤ j) (h2 : j ≤ b) : inr x a b := by
  rw [h]
  exact inr_of hb h1 h2
theorem inx_ok {x : Int32} {j n : Nat} (h : x = nI j) (hn : n ≤ 2 ^ 31) (h1 : j < n) : inx x n := by
  unfold inx
  rw [h, nI_toInt (by omega)]
  omega
theorem inx_nI {x : Int32} {n : Nat} (h : inx x n) : ∃ j, x = nI j ∧ j < n := by
  have h0 : ¬ x < 0 := by
    rw [Int32.lt_iff_toInt_lt]
    have := h.1
    show ¬ x.toInt < 0
    omega
  obtain ⟨j, h1, h2⟩ := nI_of h0
  rw [h2] at h
  unfold inx at h
  rw [nI_toInt h1] at h
  exact ⟨j, h2, by omega⟩
theorem inx_no {x : Int32} {n : Nat} (h : ¬ ∃ j, x = nI j ∧ j < n) : ¬ inx x n := fun h1 => h (inx_nI h1)
theorem n0_ok {x : Int32} {j : Nat} (h : x = nI j) (hj : j < 2 ^ 31) : ¬ x < 0 := by
  rw [h]
  exact nI_pos hj
/-- what the class's calls start and end with -/
def ki (u : pf_S) : Prop := ∀ g, g < 6 → 0 < u.2 7 g → (∀ a, a < u.1 0 → u.2 11 a ≠ g) ∧ ∀ o, o < 6 → u.2 6 (o * 6 + g) = 0 ∧ u.2 6 (g * 6 + o) = 0
def cl2 (u : pf_S) : Prop := cls u ∧ (∀ a, u.1 0 ≤ a → a < 10 → u.2 13 a = 0) ∧ ki u
/-- how each call is answered: 0, or the number of what it throws -/
noncomputable def cdA (u : pf_S) (x y z : Int32) : Nat := pif (inr x 0 99 ∧ inr y 0 5 ∧ inr z 0 1000000) (pif (0 < u.2 7 (tn y)) (2) (pif (u.1 0 < 10) (0) (3))) (1)
noncomputable def cdC (u : pf_S) (x y z : Int32) : Nat := pif (inx x (u.1 0)) (pif (inr y 0 99 ∧ inr z 0 1000000) (pif (tn z < u.2 13 (tn x)) (3) (0)) (2)) (1)
noncomputable def cdS (u : pf_S) (x y : Int32) : Nat := pif (inx x (u.1 0)) (pif (inr y 0 (u.2 12 (tn x))) (0) (2)) (1)
noncomputable def cdL (x y : Int32) : Nat := pif (inr x 0 5 ∧ inr y 0 100) (0) (1)
noncomputable def cdI (u : pf_S) (x y : Int32) (b : Nat) : Nat := pif (inr x 0 5 ∧ inr y 0 5 ∧ x ≠ y) (pif (0 < u.2 7 (tn x) ∨ 0 < u.2 7 (tn y) ∨ u.2 6 (tn x * 6 + tn y) = b) (2) (0)) (1)
noncomputable def cdX (u : pf_S) (x : Int32) : Nat := pif (inx x (u.1 1)) (pif (u.2 18 (tn x) = 2) (2) (0)) (1)
noncomputable def cdP (x y : Int32) : Nat := pif (inr x 0 5 ∧ inr y 0 99) (0) (1)
noncomputable def cdN (n : Nat) (x : Int32) : Nat := pif (inx x n) (0) (1)
theorem cdA_v {u : pf_S} {x y z : Int32} {t g n : Nat} (hx : x = nI t) (ht : t < 100) (hy : y = nI g) (hg : g < 6) (hz : z = nI n) (hn : n ≤ 1000000) : cdA u x y z = if 0 < u.2 7 g then 2 else if u.1 0 < 10 then 0 else 3 := by
  unfold cdA
  rw [pif_pos ⟨inr_ok hx (by decide) (Nat.zero_le _) (by omega), inr_ok hy (by decide) (Nat.zero_le _) (by omega), inr_ok hz (by decide) (Nat.zero_le _) (by omega)⟩, tn_eq hy (by omega), pif_if, pif_if]
theorem cdC_v {u : pf_S} {x y z : Int32} {a t n : Nat} (h10 : u.1 0 ≤ 10) (hx : x = nI a) (ha : a < u.1 0) (hy : y = nI t) (ht : t < 100) (hz : z = nI n) (hn : n ≤ 1000000) : cdC u x y z = if n < u.2 13 a then 3 else 0 := by
  unfold cdC
  rw [pif_pos (inx_ok hx (by omega) ha), pif_pos ⟨inr_ok hy (by decide) (Nat.zero_le _) (by omega), inr_ok hz (by decide) (Nat.zero_le _) (by omega)⟩, tn_eq hx (by omega), tn_eq hz (by omega), pif_if]
theorem cdS_v {u : pf_S} {x y : Int32} {a n : Nat} (h10 : u.1 0 ≤ 10) (hb : u.2 12 a ≤ 1000000) (hx : x = nI a) (ha : a < u.1 0) (hy : y = nI n) (hn : n ≤ u.2 12 a) : cdS u x y = 0 := by
  unfold cdS
  rw [pif_pos (inx_ok hx (by omega) ha), tn_eq hx (by omega), pif_pos (inr_ok hy (by omega) (Nat.zero_le _) (by omega))]
theorem cdL_v {x y : Int32} {a n : Nat} (hx : x = nI a) (ha : a < 6) (hy : y = nI n) (hn : n ≤ 100) : cdL x y = 0 := by
  unfold cdL
  rw [pif_pos ⟨inr_ok hx (by decide) (Nat.zero_le _) (by omega), inr_ok hy (by decide) (Nat.zero_le _) (by omega)⟩]
theorem cdP_v {x y : Int32} {a n : Nat} (hx : x = nI a) (ha : a < 6) (hy : y = nI n) (hn : n < 100) : cdP x y = 0 := by
  unfold cdP
  rw [pif_pos ⟨inr_ok hx (by decide) (Nat.zero_le _) (by omega), inr_ok hy (by decide) (Nat.zero_le _) (by omega)⟩]
theorem cdI_v {u : pf_S} {x y : Int32} {a g b : Nat} (hx : x = nI a) (ha : a < 6) (hy : y = nI g) (hg : g < 6) (hn : a ≠ g) : cdI u x y b = if 0 < u.2 7 a ∨ 0 < u.2 7 g ∨ u.2 6 (a * 6 + g) = b then 2 else 0 := by
  unfold cdI
  have hne : x ≠ y := fun h => hn (by
    have h1 : tn x = tn y := by rw [h]
    rw [tn_eq hx (by omega), tn_eq hy (by omega)] at h1
    exact h1)
  rw [pif_pos ⟨inr_ok hx (by decide) (Nat.zero_le _) (by omega), inr_ok hy (by decide) (Nat.zero_le _) (by omega), hne⟩, tn_eq hx (by omega), tn_eq hy (by omega), pif_if]
theorem cdX_v {u : pf_S} {x : Int32} {a : Nat} (h10 : u.1 1 ≤ 10) (hx : x = nI a) (ha : a < u.1 1) : cdX u x = if u.2 18 a = 2 then 2 else 0 := by
  unfold cdX
  rw [pif_pos (inx_ok hx (by omega) ha), tn_eq hx (by omega), pif_if]
theorem cdN_v {n : Nat} {x : Int32} {a : Nat} (h10 : n ≤ 10) (hx : x = nI a) (ha : a < n) : cdN n x = 0 := by
  unfold cdN
  rw [pif_pos (inx_ok hx (by omega) ha)]
theorem cdN_1 {n : Nat} {x : Int32} (h : ¬ inx x n) : cdN n x = 1 := pif_neg h
theorem cdP_1 {x y : Int32} (h : ¬ (inr x 0 5 ∧ inr y 0 99)) : cdP x y = 1 := pif_neg h
theorem cdX_1 {u : pf_S} {x : Int32} (h : ¬ inx x (u.1 1)) : cdX u x = 1 := pif_neg h
theorem cdI_1 {u : pf_S} {x y : Int32} {b : Nat} (h : ¬ (inr x 0 5 ∧ inr y 0 5 ∧ x ≠ y)) : cdI u x y b = 1 := pif_neg h
theorem cdL_1 {x y : Int32} (h : ¬ (inr x 0 5 ∧ inr y 0 100)) : cdL x y = 1 := pif_neg h
theorem cdS_1 {u : pf_S} {x y : Int32} (h : ¬ inx x (u.1 0)) : cdS u x y = 1 := pif_neg h
theorem cdS_2 {u : pf_S} {x y : Int32} {a : Nat} (h10 : u.1 0 ≤ 10) (hx : x = nI a) (ha : a < u.1 0) (h : ¬ inr y 0 (u.2 12 a)) : cdS u x y = 2 := by
  unfold cdS
  rw [pif_pos (inx_ok hx (by omega) ha), tn_eq hx (by omega), pif_neg h]
theorem cdC_1 {u : pf_S} {x y z : Int32} (h : ¬ inx x (u.1 0)) : cdC u x y z = 1 := pif_neg h
theorem cdC_2 {u : pf_S} {x y z : Int32} {a : Nat} (h10 : u.1 0 ≤ 10) (hx : x = nI a) (ha : a < u.1 0) (h : ¬ (inr y 0 99 ∧ inr z 0 1000000)) : cdC u x y z = 2 := by
  unfold cdC
  rw [pif_pos (inx_ok hx (by omega) ha), pif_neg h]
theorem cdA_1 {u : pf_S} {x y z : Int32} (h : ¬ (inr x 0 99 ∧ inr y 0 5 ∧ inr z 0 1000000)) : cdA u x y z = 1 := pif_neg h
/-! the states that the calls make before the settling -/
def ad_S (u : pf_S) (t g n : Nat) : pf_S := (up1 u.1 0 (u.1 0 + 1), up2 (up2 (up2 u.2 10 (u.1 0) t) 11 (u.1 0) g) 12 (u.1 0) n)
def ch_S (u : pf_S) (a t n : Nat) : pf_S := (u.1, up2 (up2 u.2 10 a t) 12 a n)
def as_S (u : pf_S) (a n : Nat) : pf_S := (u.1, up2 u.2 13 a n)
def li_S (u : pf_S) (g n : Nat) : pf_S := (u.1, up2 u.2 5 g n)
def si_S (u : pf_S) (a g b : Nat) : pf_S := (u.1, up2 u.2 6 (a * 6 + g) b)
def xo_S (u : pf_S) (a : Nat) : pf_S := (u.1, up2 u.2 18 a 2)
theorem u2_all {f : Nat → Nat → Nat} {k x v : Nat} {Pp : Nat → Nat → Prop} (h : ∀ j, Pp j (f k j)) (hv : Pp x v) (k' : Nat) (hk : k' = k) : ∀ j, Pp j (up2 f k x v k' j) := by
  intro j
  subst hk
  rw [up2_at]
  by_cases e : j = x
  · subst e
    simpa using hv
  · simpa [e] using h j
def us_lt (u : pf_S) : Prop := ∀ d, d < 31 → ∀ a, (u.2 23 d).testBit a = true → a < u.1 0
theorem cl_us {u : pf_S} (h : cls u) : us_lt u := fun d hd a ha => by
  have h1 := h.2.1.2.2.1 d hd a ha
  rw [h.2.1.1] at h1
  exact h1
theorem ad_st {u : pf_S} (h : cl2 u) (h10 : u.1 0 < 10) {t g n : Nat} (ht : t < 100) (hg : g < 6) (hn : n ≤ 1000000) : pf_st (ad_S u t g n) ∧ us_lt (ad_S u t g n) := by
  obtain ⟨hc, h13, -⟩ := h
  have hu := cl_us hc
  obtain ⟨⟨g1, a1, o1⟩, -⟩ := hc
  refine ⟨⟨g1, ⟨?_, ?_, ?_, ?_, ?_⟩, o1⟩, fun d hd a ha => Nat.lt_succ_of_lt (hu d hd a ha)⟩
  · show u.1 0 + 1 ≤ 10
    omega
  · exact u2_all (f := u.2) (Pp := fun a v => a < 10 → v < 100) (fun j hj => a1.2.1 j hj) (fun _ => ht) 10 rfl
  · exact u2_all (f := up2 u.2 10 (u.1 0) t) (k := 11) (Pp := fun a v => a < 10 → v < 6) (fun j hj => a1.2.2.1 j hj) (fun _ => hg) 11 rfl
  · exact u2_all (f := up2 (up2 u.2 10 (u.1 0) t) 11 (u.1 0) g) (k := 12) (Pp := fun a v => a < 10 → v ≤ 1000000) (fun j hj => a1.2.2.2.1 j hj) (fun _ => hn) 12 rfl
  · intro a ha
    show u.2 13 a ≤ _
    refine u2_all (f := up2 (up2 u.2 10 (u.1 0) t) 11 (u.1 0) g) (k := 12) (x := u.1 0) (v := n) (Pp := fun a v => a < 10 → u.2 13 a ≤ v) (fun j hj => a1.2.2.2.2 j hj) (fun hj => ?_) 12 rfl a ha
    rw [h13 _ (Nat.le_refl _) hj]
    exact Nat.zero_le _
theorem ch_st {u : pf_S} (h : cls u) {a t n : Nat} (ht : t < 100) (hn : n ≤ 1000000) (h13 : u.2 13 a ≤ n) : pf_st (ch_S u a t n) ∧ us_lt (ch_S u a t n) := by
  have hu := cl_us h
  obtain ⟨⟨g1, a1, o1⟩, -⟩ := h
  refine ⟨⟨g1, ⟨a1.1, ?_, a1.2.2.1, ?_, ?_⟩, o1⟩, hu⟩
  · exact u2_all (f := u.2) (Pp := fun a v => a < 10 → v < 100) (fun j hj => a1.2.1 j hj) (fun _ => ht) 10 rfl
  · exact u2_all (f := up2 u.2 10 a t) (k := 12) (Pp := fun a v => a < 10 → v ≤ 1000000) (fun j hj => a1.2.2.2.1 j hj) (fun _ => hn) 12 rfl
  · intro b hb
    show u.2 13 b ≤ _
    exact u2_all (f := up2 u.2 10 a t) (k := 12) (x := a) (v := n) (Pp := fun a v => a < 10 → u.2 13 a ≤ v) (fun j hj => a1.2.2.2.2 j hj) (fun hj => h13) 12 rfl b hb
theorem as_st {u : pf_S} (h : cls u) {a n : Nat} (hn : n ≤ u.2 12 a) : pf_st (as_S u a n) ∧ us_lt (as_S u a n) := by
  have hu := cl_us h
  obtain ⟨⟨g1, a1, o1⟩, -⟩ := h
  refine ⟨⟨g1, ⟨a1.1, a1.2.1, a1.2.2.1, a1.2.2.2.1, ?_⟩, o1⟩, hu⟩
  intro b hb
  show _ ≤ u.2 12 b
  exact u2_all (f := u.2) (k := 13) (x := a) (v := n) (Pp := fun a v => a < 10 → v ≤ u.2 12 a) (fun j hj => a1.2.2.2.2 j hj) (fun hj => hn) 13 rfl b hb
theorem li_st {u : pf_S} (h : cls u) {g n : Nat} (hn : n ≤ 100) : pf_st (li_S u g n) ∧ us_lt (li_S u g n) := by
  have hu := cl_us h
  obtain ⟨⟨g1, a1, o1⟩, -⟩ := h
  refine ⟨⟨⟨g1.1, g1.2.1, g1.2.2.1, g1.2.2.2.1, ?_⟩, a1, o1⟩, hu⟩
  exact u2_all (f := u.2) (Pp := fun a v => a < 6 → v ≤ 100) (fun j hj => g1.2.2.2.2 j hj) (fun _ => hn) 5 rfl
theorem si_st {u : pf_S} (h : cls u) {a g b : Nat} (hb : b ≤ 1) : pf_st (si_S u a g b) ∧ us_lt (si_S u a g b) := by
  have hu := cl_us h
  obtain ⟨⟨g1, a1, o1⟩, -⟩ := h
  refine ⟨⟨⟨g1.1, ?_, g1.2.2.1, g1.2.2.2.1, g1.2.2.2.2⟩, a1, o1⟩, hu⟩
  exact u2_all (f := u.2) (Pp := fun a v => a < 36 → v ≤ 1) (fun j hj => g1.2.1 j hj) (fun _ => hb) 6 rfl
theorem xo_st {u : pf_S} (h : cls u) {a : Nat} : pf_st (xo_S u a) ∧ us_lt (xo_S u a) := by
  have hu := cl_us h
  obtain ⟨⟨g1, a1, o1⟩, -⟩ := h
  refine ⟨⟨g1, a1, ⟨o1.1, o1.2.1, o1.2.2.1, o1.2.2.2.1, o1.2.2.2.2.1, ?_, o1.2.2.2.2.2.2⟩⟩, hu⟩
  exact u2_all (f := u.2) (Pp := fun a v => a < 10 → v ≤ 2) (fun j hj => o1.2.2.2.2.2.1 j hj) (fun _ => Nat.le_refl _) 18 rfl
/-- how many of the orders are fallen -/
def fallen (u : pf_S) : Nat := fl_sum (fun a => if u.2 18 a = 1 then 1 else 0) (u.1 1)
theorem se_fallen {u v : pf_S} (h : se_post u v) : fl_sum (fun a => if v.2 18 a = 1 then 1 else 0) (u.1 1) = fallen v := by
  unfold fallen
  rw [h.1.2.1]
set_option maxHeartbeats 4000000 in
set_option maxRecDepth 100000 in
theorem c_X4_arrival (l : Launch) (G : gw_G) (q : Nat → Nat) (u : pf_S) (x : Int32) (y : Int32) (z : Int32) (hst9 : l.stackTraces = false) (h2 : cl2 u) : gx_MI l yX4_arrival cX4_arrival 5 (some .int) 8 156 [.ref (q 0), .int (x), .int (y), .int (z)] G (pw G q) u (fun r u1 => ∃ k : Nat, r = nI k ∧ (cdA u x y z = 0 ∧ k = u.1 0 ∧ se_post (ad_S u (tn x) (tn y) (tn z)) u1)) (fun E u1 => u1 = u ∧ ((E = "java/lang/IllegalArgumentException" ∧ cdA u x y z = 1) ∨ (E = "java/lang/IllegalStateException" ∧ cdA u x y z = 2) ∨ (E = "java/lang/UnsupportedOperationException" ∧ cdA u x y z = 3))) := by
  refine gx_entryI (own := RX4) (by decide) rfl (Nat.le_of_ble_eq_true rfl) ?_
  intro p e s m args below meth c A ls C X9 hex9 Hh hl
  have hl : lv_has ls 5 [(0, .ref (q 0)), (1, .int (x)), (2, .int (y)), (3, .int (z))] := hl
  have hcl : cls u := h2.1
  have hgd : gd_ok u := h2.1.1.1
  have har : ar_ok u := h2.1.1.2.1
  have hod : od_ok u := h2.1.1.2.2
  have h10 : u.1 0 ≤ 10 := har.1
  have o10 : u.1 1 ≤ 10 := hod.1
  refine lv_iload_n C.1 C.2.1 dX4_arrival_0 rfl (lv_at hl 1 rfl) ?_
  refine gx_fromV (w := pw G q) (u := u) C hex9 Hh (gx_rS (n := 1) [.int (x)] C X9 Hh (c_X4_needTime l G q (u) (x) hst9  _) tw_281 tw_282 tw_66 tw_283 (by decide +kernel) ⟨Nat.le_of_ble_eq_true rfl, Nat.le_of_ble_eq_true rfl⟩ rfl hl.1 (Nat.le_of_ble_eq_true rfl) dX4_arrival_1 ⟨Nat.le_of_ble_eq_true rfl, Nat.le_of_ble_eq_true rfl⟩) (fun E u1 hx9 => by exact ⟨hx9.2.2, Or.inl ⟨hx9.1, cdA_1 (fun h => hx9.2.1 h.1)⟩⟩) (fun uc_1 H locs hp_1 Hh => ?_)
  obtain ⟨hp_1, hu_1⟩ := hp_1
  rw [hu_1] at Hh
  clear hu_1
  obtain ⟨t, hx_1, hj_1⟩ := hp_1
  rw [hx_1] at hl
  refine lv_iload_n C.1 C.2.1 dX4_arrival_4 rfl (lv_at hl 2 rfl) ?_
  refine gx_fromV (w := pw G q) (u := u) C hex9 Hh (gx_rS (n := 1) [.int (y)] C X9 Hh (c_X4_needGood l G q (u) (y) hst9  _) tw_357 tw_358 tw_66 tw_359 (by decide +kernel) ⟨Nat.le_of_ble_eq_true rfl, Nat.le_of_ble_eq_true rfl⟩ rfl hl.1 (Nat.le_of_ble_eq_true rfl) dX4_arrival_5 ⟨Nat.le_of_ble_eq_true rfl, Nat.le_of_ble_eq_true rfl⟩) (fun E u1 hx9 => by exact ⟨hx9.2.2, Or.inl ⟨hx9.1, cdA_1 (fun h => hx9.2.1 h.2.1)⟩⟩) (fun uc_5 H locs hp_5 Hh => ?_)
  obtain ⟨hp_5, hu_5⟩ := hp_5
  rw [hu_5] at Hh
  clear hu_5
  obtain ⟨g, hx_5, hj_5⟩ := hp_5
  rw [hx_5] at hl
  refine lv_iload_n C.1 C.2.1 dX4_arrival_8 rfl (lv_at hl 3 rfl) ?_
  refine lv_iconst (v := nI 0) C.1 C.2.1 dX4_arrival_9 (by decide +kernel) ?_
  refine lv_ldc (v := nI 1000000) C.1 C.2.1 C.cl (C.ts tw_360) dX4_arrival_10 ?_
  refine gx_fromV (w := pw G q) (u := u) C hex9 Hh (gx_rS (n := 3) [.int (z), .int (nI (0)), .int (nI (1000000))] C X9 Hh (c_X4_needWithin l G q (u) (z) (0) (1000000) hst9 (by decide) (by decide) _) tw_284 tw_285 tw_66 tw_286 (by decide +kernel) ⟨Nat.le_of_ble_eq_true rfl, Nat.le_of_ble_eq_true rfl⟩ rfl hl.1 (Nat.le_of_ble_eq_true rfl) dX4_arrival_12 ⟨Nat.le_of_ble_eq_true rfl, Nat.le_of_ble_eq_true rfl⟩) (fun E u1 hx9 => by exact ⟨hx9.2.2, Or.inl ⟨hx9.1, cdA_1 (fun h => hx9.2.1 h.2.2)⟩⟩) (fun uc_12 H locs hp_12 Hh => ?_)
  obtain ⟨hp_12, hu_12⟩ := hp_12
  rw [hu_12] at Hh
  clear hu_12
  obtain ⟨n, hx_12, hj_12⟩ := hp_12
  rw [hx_12] at hl
  refine lv_aload_n C.1 C.2.1 dX4_arrival_15 rfl (lv_at hl 0 rfl) ?_
  refine lv_iload_n C.1 C.2.1 dX4_arrival_16 rfl (lv_at hl 2 rfl) ?_
  refine gx_fromV (w := pw G q) (u := u) C hex9 Hh (gx_rV (n := 1) (C1 := RX4) [.int (nI (g))] C X9 Hh (c_X4_needNoKit l G q (u) (g) hst9 (by first | assumption | omega) (by first | assumption | omega) _) tw_361 tw_363 tw_10 tw_66 tw_364 (by decide +kernel) ⟨Nat.le_of_ble_eq_true rfl, Nat.le_of_ble_eq_true rfl⟩ 0 pw_at0 rfl rfl hl.1 (Nat.le_of_ble_eq_true rfl) dX4_arrival_17 ⟨Nat.le_of_ble_eq_true rfl, Nat.le_of_ble_eq_true rfl⟩) (fun E u1 hx9 => by exact ⟨hx9.2.2, Or.inr (Or.inl ⟨hx9.1, (cdA_v hx_1 hj_1 hx_5 hj_5 hx_12 hj_12.2).trans (if_pos hx9.2.1)⟩)⟩) (fun uc_17 H locs hp_17 Hh => ?_)
  obtain ⟨hp_17, hu_17⟩ := hp_17
  rw [hu_17] at Hh
  clear hu_17
  refine lv_aload_n C.1 C.2.1 dX4_arrival_20 rfl (lv_at hl 0 rfl) ?_
  refine gw_get (Cn := RX4) (T := TX4) (N := 4) C Hh 0 pw_at0 rfl uwX4 1 (by decide) rfl tw_219 rfl dX4_arrival_21 ?_
  refine gw_getN (Cn := RX0) (T := TX0) (N := 5) C Hh 2 pw_at2 rfl uwX0 0 (by decide) rfl tw_125 rfl dX4_arrival_24 ?_
  refine lv_bipush (v := nI 10) C.1 C.2.1 dX4_arrival_27 (by decide +kernel) ?_
  refine gw_icmp_lt (tgt := 42) C dX4_arrival_29 (by decide) (by omega) (by omega) (fun hc_29 => ?_) (fun hc_29 => ?_)
  · skip
    refine lv_aload_n C.1 C.2.1 dX4_arrival_42 rfl (lv_at hl 0 rfl) ?_
    refine gw_get (Cn := RX4) (T := TX4) (N := 4) C Hh 0 pw_at0 rfl uwX4 1 (by decide) rfl tw_219 rfl dX4_arrival_43 ?_
    refine lv_iload_n C.1 C.2.1 dX4_arrival_46 rfl (lv_at hl 1 rfl) ?_
    refine lv_iload_n C.1 C.2.1 dX4_arrival_47 rfl (lv_at hl 2 rfl) ?_
    refine lv_iload_n C.1 C.2.1 dX4_arrival_48 rfl (lv_at hl 3 rfl) ?_
    refine gw_fromI (w := pw G q) (u := u) C Hh (gw_runVN (n := 3) (C1 := RX0) [.int (nI (t)), .int (nI (g)), .int (nI (n))] C Hh (c_X0_add l G q (u) (t) (g) (n) (by first | assumption | omega) _) tw_398 tw_400 tw_11 tw_68 tw_401 (by decide +kernel) ⟨Nat.le_of_ble_eq_true rfl, Nat.le_of_ble_eq_true rfl⟩ 2 pw_at2 rfl rfl hl.1 (Nat.le_of_ble_eq_true rfl) dX4_arrival_49 ⟨Nat.zero_le _, Nat.zero_le _⟩) (fun rc_49 uc_49 H locs hp_49 Hh => ?_)
    obtain ⟨kc_49, rfl, hp_49⟩ := hp_49
    refine lv_istore (lv' := [(4, .int (nI (kc_49))), (0, .ref (q 0)), (1, .int (nI (t))), (2, .int (nI (g))), (3, .int (nI (n)))]) C.1 C.2.1 dX4_arrival_52 hl (by decide) rfl (fun ls hl => ?_)
    refine lv_aload_n C.1 C.2.1 dX4_arrival_54 rfl (lv_at hl 1 rfl) ?_
    refine gw_fromI (w := pw G q) (u := uc_49) C Hh (gw_runV (n := 0) (C1 := RX4) [] C Hh (c_X4_settle l G q (uc_49)  (by rw [hp_49.2]; exact (ad_st h2 hc_29 hj_1 hj_5 hj_12.2).1) (by rw [hp_49.2]; exact (ad_st h2 hc_29 hj_1 hj_5 hj_12.2).2) _) tw_402 tw_404 tw_12 tw_66 tw_405 (by decide +kernel) ⟨Nat.le_of_ble_eq_true rfl, Nat.le_of_ble_eq_true rfl⟩ 0 pw_at0 rfl rfl hl.1 (Nat.le_of_ble_eq_true rfl) dX4_arrival_55 ⟨Nat.zero_le _, Nat.zero_le _⟩) (fun rc_55 uc_55 H locs hp_55 Hh => ?_)
    obtain ⟨kc_55, rfl, hp_55⟩ := hp_55
    refine lv_pop C.1 C.2.1 dX4_arrival_58 rfl ?_
    refine lv_iload C.1 C.2.1 dX4_arrival_59 (lv_at hl 0 rfl) ?_
    refine gx_ret ?_
    exact gw_iret (w := pw G q) (u := uc_55) C Hh dX4_arrival_61 ⟨_, rfl, by rw [tn_eq hx_1 (by omega), tn_eq hx_5 (by omega), tn_eq hx_12 (by omega)]; have h4 := hp_55.2; rw [hp_49.2] at h4; exact ⟨(cdA_v hx_1 hj_1 hx_5 hj_5 hx_12 hj_12.2).trans (by rw [if_neg (by omega), if_pos hc_29]), hp_49.1, h4⟩⟩
  · skip
    exact gx_throw (w := pw G q) (u := u) (E := "java/lang/UnsupportedOperationException") (text := "no room for an arrival") (names := ["java/lang/RuntimeException", "java/lang/Exception"]) hst9 C X9 hex9 Hh hl.1 (by decide +kernel) (by decide +kernel) tw_382 tw_77 (by decide) ex_60_4 ex_60_5 ex_60_6 dX4_arrival_32 dX4_arrival_35 dX4_arrival_36 dX4_arrival_38 dX4_arrival_41 ⟨Nat.le_of_ble_eq_true rfl, Nat.le_of_ble_eq_true rfl, Nat.le_of_ble_eq_true rfl, Nat.le_of_ble_eq_true rfl⟩ (by exact ⟨rfl, Or.inr (Or.inr ⟨rfl, (cdA_v hx_1 hj_1 hx_5 hj_5 hx_12 hj_12.2).trans (by rw [if_neg (by omega), if_neg (by omega)])⟩)⟩)
set_option maxHeartbeats 4000000 in
set_option maxRecDepth 100000 in
theorem c_X4_change (l : Launch) (G : gw_G) (q : Nat → Nat) (u : pf_S) (x : Int32) (y : Int32) (z : Int32) (hst9 : l.stackTraces = false) (h2 : cl2 u) : gx_MI l yX4_change cX4_change 4 (some .int) 8 156 [.ref (q 0), .int (x), .int (y), .int (z)] G (pw G q) u (fun r u1 => ∃ k : Nat, r = nI k ∧ (cdC u x y z = 0 ∧ k = fallen u1 ∧ se_post (ch_S u (tn x) (tn y) (tn z)) u1)) (fun E u1 => u1 = u ∧ ((E = "java/util/NoSuchElementException" ∧ cdC u x y z = 1) ∨ (E = "java/lang/IllegalArgumentException" ∧ cdC u x y z = 2) ∨ (E = "java/lang/IllegalStateException" ∧ cdC u x y z = 3))) := by
  refine gx_entryI (own := RX4) (by decide) rfl (Nat.le_of_ble_eq_true rfl) ?_
  intro p e s m args below meth c A ls C X9 hex9 Hh hl
  have hl : lv_has ls 4 [(0, .ref (q 0)), (1, .int (x)), (2, .int (y)), (3, .int (z))] := hl
  have hcl : cls u := h2.1
  have hgd : gd_ok u := h2.1.1.1
  have har : ar_ok u := h2.1.1.2.1
  have hod : od_ok u := h2.1.1.2.2
  have h10 : u.1 0 ≤ 10 := har.1
  have o10 : u.1 1 ≤ 10 := hod.1
  refine lv_aload_n C.1 C.2.1 dX4_change_0 rfl (lv_at hl 0 rfl) ?_
  refine lv_iload_n C.1 C.2.1 dX4_change_1 rfl (lv_at hl 1 rfl) ?_
  refine gx_fromV (w := pw G q) (u := u) C hex9 Hh (gx_rV (n := 1) (C1 := RX4) [.int (x)] C X9 Hh (c_X4_needArrival l G q (u) (x) hst9 (by first | assumption | omega) _) tw_502 tw_504 tw_30 tw_66 tw_505 (by decide +kernel) ⟨Nat.le_of_ble_eq_true rfl, Nat.le_of_ble_eq_true rfl⟩ 0 pw_at0 rfl rfl hl.1 (Nat.le_of_ble_eq_true rfl) dX4_change_2 ⟨Nat.le_of_ble_eq_true rfl, Nat.le_of_ble_eq_true rfl⟩) (fun E u1 hx9 => by exact ⟨hx9.2.2, Or.inl ⟨hx9.1, cdC_1 (inx_no hx9.2.1)⟩⟩) (fun uc_2 H locs hp_2 Hh => ?_)
  obtain ⟨hp_2, hu_2⟩ := hp_2
  rw [hu_2] at Hh
  clear hu_2
  obtain ⟨a, hx_2, hj_2⟩ := hp_2
  rw [hx_2] at hl
  refine lv_iload_n C.1 C.2.1 dX4_change_5 rfl (lv_at hl 2 rfl) ?_
  refine gx_fromV (w := pw G q) (u := u) C hex9 Hh (gx_rS (n := 1) [.int (y)] C X9 Hh (c_X4_needTime l G q (u) (y) hst9  _) tw_281 tw_282 tw_66 tw_283 (by decide +kernel) ⟨Nat.le_of_ble_eq_true rfl, Nat.le_of_ble_eq_true rfl⟩ rfl hl.1 (Nat.le_of_ble_eq_true rfl) dX4_change_6 ⟨Nat.le_of_ble_eq_true rfl, Nat.le_of_ble_eq_true rfl⟩) (fun E u1 hx9 => by exact ⟨hx9.2.2, Or.inr (Or.inl ⟨hx9.1, cdC_2 h10 hx_2 hj_2 (fun h => hx9.2.1 h.1)⟩)⟩) (fun uc_6 H locs hp_6 Hh => ?_)
  obtain ⟨hp_6, hu_6⟩ := hp_6
  rw [hu_6] at Hh
  clear hu_6
  obtain ⟨t, hx_6, hj_6⟩ := hp_6
  rw [hx_6] at hl
  refine lv_iload_n C.1 C.2.1 dX4_change_9 rfl (lv_at hl 3 rfl) ?_
  refine lv_iconst (v := nI 0) C.1 C.2.1 dX4_change_10 (by decide +kernel) ?_
  refine lv_ldc (v := nI 1000000) C.1 C.2.1 C.cl (C.ts tw_360) dX4_change_11 ?_
  refine gx_fromV (w := pw G q) (u := u) C hex9 Hh (gx_rS (n := 3) [.int (z), .int (nI (0)), .int (nI (1000000))] C X9 Hh (c_X4_needWithin l G q (u) (z) (0) (1000000) hst9 (by decide) (by decide) _) tw_284 tw_285 tw_66 tw_286 (by decide +kernel) ⟨Nat.le_of_ble_eq_true rfl, Nat.le_of_ble_eq_true rfl⟩ rfl hl.1 (Nat.le_of_ble_eq_true rfl) dX4_change_13 ⟨Nat.le_of_ble_eq_true rfl, Nat.le_of_ble_eq_true rfl⟩) (fun E u1 hx9 => by exact ⟨hx9.2.2, Or.inr (Or.inl ⟨hx9.1, cdC_2 h10 hx_2 hj_2 (fun h => hx9.2.1 h.2)⟩)⟩) (fun uc_13 H locs hp_13 Hh => ?_)
  obtain ⟨hp_13, hu_13⟩ := hp_13
  rw [hu_13] at Hh
  clear hu_13
  obtain ⟨n, hx_13, hj_13⟩ := hp_13
  rw [hx_13] at hl
  have h12 := har.2.2.2.1 a (by omega)
  have h13 := har.2.2.2.2 a (by omega)
  refine lv_iload_n C.1 C.2.1 dX4_change_16 rfl (lv_at hl 3 rfl) ?_
  refine lv_aload_n C.1 C.2.1 dX4_change_17 rfl (lv_at hl 0 rfl) ?_
  refine gw_get (Cn := RX4) (T := TX4) (N := 4) C Hh 0 pw_at0 rfl uwX4 1 (by decide) rfl tw_219 rfl dX4_change_18 ?_
  refine gw_getN (Cn := RX0) (T := TX0) (N := 5) C Hh 2 pw_at2 rfl uwX0 4 (by decide) rfl tw_133 rfl dX4_change_21 ?_
  refine lv_iload_n C.1 C.2.1 dX4_change_24 rfl (lv_at hl 1 rfl) ?_
  refine gw_ld C Hh 13 pw_at13 (by decide) dX4_change_25 (by omega) ?_
  refine gw_icmp_ge (tgt := 39) C dX4_change_26 (by decide) (by omega) (by omega) (fun hc_26 => ?_) (fun hc_26 => ?_)
  · skip
    refine lv_aload_n C.1 C.2.1 dX4_change_39 rfl (lv_at hl 0 rfl) ?_
    refine gw_get (Cn := RX4) (T := TX4) (N := 4) C Hh 0 pw_at0 rfl uwX4 1 (by decide) rfl tw_219 rfl dX4_change_40 ?_
    refine gw_getN (Cn := RX0) (T := TX0) (N := 5) C Hh 2 pw_at2 rfl uwX0 1 (by decide) rfl tw_127 rfl dX4_change_43 ?_
    refine lv_iload_n C.1 C.2.1 dX4_change_46 rfl (lv_at hl 1 rfl) ?_
    refine lv_iload_n C.1 C.2.1 dX4_change_47 rfl (lv_at hl 2 rfl) ?_
    refine gw_st C Hh 10 pw_at10 (by decide) pw_set10 dX4_change_48 (by omega) (fun H locs Hh => ?_)
    have Hh : gw_H G A s (pw G q (u.1, up2 u.2 10 (a) (t))) H locs := Hh
    refine lv_aload_n C.1 C.2.1 dX4_change_49 rfl (lv_at hl 0 rfl) ?_
    refine gw_get (Cn := RX4) (T := TX4) (N := 4) C Hh 0 pw_at0 rfl uwX4 1 (by decide) rfl tw_219 rfl dX4_change_50 ?_
    refine gw_getN (Cn := RX0) (T := TX0) (N := 5) C Hh 2 pw_at2 rfl uwX0 3 (by decide) rfl tw_131 rfl dX4_change_53 ?_
    refine lv_iload_n C.1 C.2.1 dX4_change_56 rfl (lv_at hl 1 rfl) ?_
    refine lv_iload_n C.1 C.2.1 dX4_change_57 rfl (lv_at hl 3 rfl) ?_
    refine gw_st C Hh 12 pw_at12 (by decide) pw_set12 dX4_change_58 (by omega) (fun H locs Hh => ?_)
    have Hh : gw_H G A s (pw G q (u.1, up2 (up2 u.2 10 (a) (t)) 12 (a) (n))) H locs := Hh
    refine lv_aload_n C.1 C.2.1 dX4_change_59 rfl (lv_at hl 0 rfl) ?_
    refine gw_fromI (w := pw G q) (u := (u.1, up2 (up2 u.2 10 (a) (t)) 12 (a) (n))) C Hh (gw_runV (n := 0) (C1 := RX4) [] C Hh (c_X4_settle l G q ((u.1, up2 (up2 u.2 10 (a) (t)) 12 (a) (n)))  (by exact (ch_st hcl hj_6 hj_13.2 (by omega)).1) (by exact (ch_st hcl hj_6 hj_13.2 (by omega)).2) _) tw_402 tw_404 tw_12 tw_66 tw_405 (by decide +kernel) ⟨Nat.le_of_ble_eq_true rfl, Nat.le_of_ble_eq_true rfl⟩ 0 pw_at0 rfl rfl hl.1 (Nat.le_of_ble_eq_true rfl) dX4_change_60 ⟨Nat.zero_le _, Nat.zero_le _⟩) (fun rc_60 uc_60 H locs hp_60 Hh => ?_)
    obtain ⟨kc_60, rfl, hp_60⟩ := hp_60
    refine gx_ret ?_
    exact gw_iret (w := pw G q) (u := uc_60) C Hh dX4_change_63 ⟨_, rfl, by rw [tn_eq hx_2 (by omega), tn_eq hx_6 (by omega), tn_eq hx_13 (by omega)]; exact ⟨(cdC_v h10 hx_2 hj_2 hx_6 hj_6 hx_13 hj_13.2).trans (if_neg (by omega)), hp_60.1.trans (se_fallen hp_60.2), hp_60.2⟩⟩
  · skip
    exact gx_throw (w := pw G q) (u := u) (E := "java/lang/IllegalStateException") (text := "less than what is set aside") (names := ["java/lang/RuntimeException", "java/lang/Exception"]) hst9 C X9 hex9 Hh hl.1 (by decide +kernel) (by decide +kernel) tw_366 tw_76 (by decide) ex_82_4 ex_82_5 ex_82_6 dX4_change_29 dX4_change_32 dX4_change_33 dX4_change_35 dX4_change_38 ⟨Nat.le_of_ble_eq_true rfl, Nat.le_of_ble_eq_true rfl, Nat.le_of_ble_eq_true rfl, Nat.le_of_ble_eq_true rfl⟩ (by exact ⟨rfl, Or.inr (Or.inr ⟨rfl, (cdC_v h10 hx_2 hj_2 hx_6 hj_6 hx_13 hj_13.2).trans (if_pos (by omega))⟩)⟩)
set_option maxHeartbeats 4000000 in
set_option maxRecDepth 100000 in
theorem c_X4_aside (l : Launch) (G : gw_G) (q : Nat → Nat) (u : pf_S) (x : Int32) (y : Int32) (hst9 : l.stackTraces = false) (h2 : cl2 u) : gx_MI l yX4_aside cX4_aside 3 (some .int) 7 156 [.ref (q 0), .int (x), .int (y)] G (pw G q) u (fun r u1 => ∃ k : Nat, r = nI k ∧ (cdS u x y = 0 ∧ k = fallen u1 ∧ se_post (as_S u (tn x) (tn y)) u1)) (fun E u1 => u1 = u ∧ ((E = "java/util/NoSuchElementException" ∧ cdS u x y = 1) ∨ (E = "java/lang/IllegalArgumentException" ∧ cdS u x y = 2))) := by
  refine gx_entryI (own := RX4) (by decide) rfl (Nat.le_of_ble_eq_true rfl) ?_
  intro p e s m args below meth c A ls C X9 hex9 Hh hl
  have hl : lv_has ls 3 [(0, .ref (q 0)), (1, .int (x)), (2, .int (y))] := hl
  have hcl : cls u := h2.1
  have hgd : gd_ok u := h2.1.1.1
  have har : ar_ok u := h2.1.1.2.1
  have hod : od_ok u := h2.1.1.2.2
  have h10 : u.1 0 ≤ 10 := har.1
  have o10 : u.1 1 ≤ 10 := hod.1
  refine lv_aload_n C.1 C.2.1 dX4_aside_0 rfl (lv_at hl 0 rfl) ?_
  refine lv_iload_n C.1 C.2.1 dX4_aside_1 rfl (lv_at hl 1 rfl) ?_
  refine gx_fromV (w := pw G q) (u := u) C hex9 Hh (gx_rV (n := 1) (C1 := RX4) [.int (x)] C X9 Hh (c_X4_needArrival l G q (u) (x) hst9 (by first | assumption | omega) _) tw_502 tw_504 tw_30 tw_66 tw_505 (by decide +kernel) ⟨Nat.le_of_ble_eq_true rfl, Nat.le_of_ble_eq_true rfl⟩ 0 pw_at0 rfl rfl hl.1 (Nat.le_of_ble_eq_true rfl) dX4_aside_2 ⟨Nat.le_of_ble_eq_true rfl, Nat.le_of_ble_eq_true rfl⟩) (fun E u1 hx9 => by exact ⟨hx9.2.2, Or.inl ⟨hx9.1, cdS_1 (inx_no hx9.2.1)⟩⟩) (fun uc_2 H locs hp_2 Hh => ?_)
  obtain ⟨hp_2, hu_2⟩ := hp_2
  rw [hu_2] at Hh
  clear hu_2
  obtain ⟨a, hx_2, hj_2⟩ := hp_2
  rw [hx_2] at hl
  have h12 := har.2.2.2.1 a (by omega)
  refine lv_iload_n C.1 C.2.1 dX4_aside_5 rfl (lv_at hl 2 rfl) ?_
  refine lv_iconst (v := nI 0) C.1 C.2.1 dX4_aside_6 (by decide +kernel) ?_
  refine lv_aload_n C.1 C.2.1 dX4_aside_7 rfl (lv_at hl 0 rfl) ?_
  refine gw_get (Cn := RX4) (T := TX4) (N := 4) C Hh 0 pw_at0 rfl uwX4 1 (by decide) rfl tw_219 rfl dX4_aside_8 ?_
  refine gw_getN (Cn := RX0) (T := TX0) (N := 5) C Hh 2 pw_at2 rfl uwX0 3 (by decide) rfl tw_131 rfl dX4_aside_11 ?_
  refine lv_iload_n C.1 C.2.1 dX4_aside_14 rfl (lv_at hl 1 rfl) ?_
  refine gw_ld C Hh 12 pw_at12 (by decide) dX4_aside_15 (by omega) ?_
  refine gx_fromV (w := pw G q) (u := u) C hex9 Hh (gx_rS (n := 3) [.int (y), .int (nI (0)), .int (nI (u.2 12 (a)))] C X9 Hh (c_X4_needWithin l G q (u) (y) (0) (u.2 12 (a)) hst9 (by decide) (by omega) _) tw_284 tw_285 tw_66 tw_286 (by decide +kernel) ⟨Nat.le_of_ble_eq_true rfl, Nat.le_of_ble_eq_true rfl⟩ rfl hl.1 (Nat.le_of_ble_eq_true rfl) dX4_aside_16 ⟨Nat.le_of_ble_eq_true rfl, Nat.le_of_ble_eq_true rfl⟩) (fun E u1 hx9 => by exact ⟨hx9.2.2, Or.inr ⟨hx9.1, cdS_2 h10 hx_2 hj_2 hx9.2.1⟩⟩) (fun uc_16 H locs hp_16 Hh => ?_)
  obtain ⟨hp_16, hu_16⟩ := hp_16
  rw [hu_16] at Hh
  clear hu_16
  obtain ⟨n, hx_16, hj_16⟩ := hp_16
  rw [hx_16] at hl
  refine lv_aload_n C.1 C.2.1 dX4_aside_19 rfl (lv_at hl 0 rfl) ?_
  refine gw_get (Cn := RX4) (T := TX4) (N := 4) C Hh 0 pw_at0 rfl uwX4 1 (by decide) rfl tw_219 rfl dX4_aside_20 ?_
  refine gw_getN (Cn := RX0) (T := TX0) (N := 5) C Hh 2 pw_at2 rfl uwX0 4 (by decide) rfl tw_133 rfl dX4_aside_23 ?_
  refine lv_iload_n C.1 C.2.1 dX4_aside_26 rfl (lv_at hl 1 rfl) ?_
  refine lv_iload_n C.1 C.2.1 dX4_aside_27 rfl (lv_at hl 2 rfl) ?_
  refine gw_st C Hh 13 pw_at13 (by decide) pw_set13 dX4_aside_28 (by omega) (fun H locs Hh => ?_)
  have Hh : gw_H G A s (pw G q (u.1, up2 u.2 13 (a) (n))) H locs := Hh
  refine lv_aload_n C.1 C.2.1 dX4_aside_29 rfl (lv_at hl 0 rfl) ?_
  refine gw_fromI (w := pw G q) (u := (u.1, up2 u.2 13 (a) (n))) C Hh (gw_runV (n := 0) (C1 := RX4) [] C Hh (c_X4_settle l G q ((u.1, up2 u.2 13 (a) (n)))  (by exact (as_st hcl hj_16.2).1) (by exact (as_st hcl hj_16.2).2) _) tw_402 tw_404 tw_12 tw_66 tw_405 (by decide +kernel) ⟨Nat.le_of_ble_eq_true rfl, Nat.le_of_ble_eq_true rfl⟩ 0 pw_at0 rfl rfl hl.1 (Nat.le_of_ble_eq_true rfl) dX4_aside_30 ⟨Nat.zero_le _, Nat.zero_le _⟩) (fun rc_30 uc_30 H locs hp_30 Hh => ?_)
  obtain ⟨kc_30, rfl, hp_30⟩ := hp_30
  refine gx_ret ?_
  exact gw_iret (w := pw G q) (u := uc_30) C Hh dX4_aside_33 ⟨_, rfl, by rw [tn_eq hx_2 (by omega), tn_eq hx_16 (by omega)]; exact ⟨cdS_v h10 h12 hx_2 hj_2 hx_16 hj_16.2, hp_30.1.trans (se_fallen hp_30.2), hp_30.2⟩⟩
set_option maxHeartbeats 4000000 in
set_option maxRecDepth 100000 in
theorem c_X4_life (l : Launch) (G : gw_G) (q : Nat → Nat) (u : pf_S) (x : Int32) (y : Int32) (hst9 : l.stackTraces = false) (h2 : cl2 u) : gx_MI l yX4_life cX4_life 3 (some .int) 8 156 [.ref (q 0), .int (x), .int (y)] G (pw G q) u (fun r u1 => ∃ k : Nat, r = nI k ∧ (cdL x y = 0 ∧ k = fallen u1 ∧ se_post (li_S u (tn x) (tn y)) u1)) (fun E u1 => u1 = u ∧ ((E = "java/lang/IllegalArgumentException" ∧ cdL x y = 1))) := by
  refine gx_entryI (own := RX4) (by decide) rfl (Nat.le_of_ble_eq_true rfl) ?_
  intro p e s m args below meth c A ls C X9 hex9 Hh hl
  have hl : lv_has ls 3 [(0, .ref (q 0)), (1, .int (x)), (2, .int (y))] := hl
  have hcl : cls u := h2.1
  have hgd : gd_ok u := h2.1.1.1
  have har : ar_ok u := h2.1.1.2.1
  have hod : od_ok u := h2.1.1.2.2
  have h10 : u.1 0 ≤ 10 := har.1
  have o10 : u.1 1 ≤ 10 := hod.1
  refine lv_iload_n C.1 C.2.1 dX4_life_0 rfl (lv_at hl 1 rfl) ?_
  refine gx_fromV (w := pw G q) (u := u) C hex9 Hh (gx_rS (n := 1) [.int (x)] C X9 Hh (c_X4_needGood l G q (u) (x) hst9  _) tw_357 tw_358 tw_66 tw_359 (by decide +kernel) ⟨Nat.le_of_ble_eq_true rfl, Nat.le_of_ble_eq_true rfl⟩ rfl hl.1 (Nat.le_of_ble_eq_true rfl) dX4_life_1 ⟨Nat.le_of_ble_eq_true rfl, Nat.le_of_ble_eq_true rfl⟩) (fun E u1 hx9 => by exact ⟨hx9.2.2, hx9.1, cdL_1 (fun h => hx9.2.1 h.1)⟩) (fun uc_1 H locs hp_1 Hh => ?_)
  obtain ⟨hp_1, hu_1⟩ := hp_1
  rw [hu_1] at Hh
  clear hu_1
  obtain ⟨a, hx_1, hj_1⟩ := hp_1
  rw [hx_1] at hl
  refine lv_iload_n C.1 C.2.1 dX4_life_4 rfl (lv_at hl 2 rfl) ?_
  refine lv_iconst (v := nI 0) C.1 C.2.1 dX4_life_5 (by decide +kernel) ?_
  refine lv_bipush (v := nI 100) C.1 C.2.1 dX4_life_6 (by decide +kernel) ?_
  refine gx_fromV (w := pw G q) (u := u) C hex9 Hh (gx_rS (n := 3) [.int (y), .int (nI (0)), .int (nI (100))] C X9 Hh (c_X4_needWithin l G q (u) (y) (0) (100) hst9 (by decide) (by decide) _) tw_284 tw_285 tw_66 tw_286 (by decide +kernel) ⟨Nat.le_of_ble_eq_true rfl, Nat.le_of_ble_eq_true rfl⟩ rfl hl.1 (Nat.le_of_ble_eq_true rfl) dX4_life_8 ⟨Nat.le_of_ble_eq_true rfl, Nat.le_of_ble_eq_true rfl⟩) (fun E u1 hx9 => by exact ⟨hx9.2.2, hx9.1, cdL_1 (fun h => hx9.2.1 h.2)⟩) (fun uc_8 H locs hp_8 Hh => ?_)
  obtain ⟨hp_8, hu_8⟩ := hp_8
  rw [hu_8] at Hh
  clear hu_8
  obtain ⟨n, hx_8, hj_8⟩ := hp_8
  rw [hx_8] at hl
  refine lv_aload_n C.1 C.2.1 dX4_life_11 rfl (lv_at hl 0 rfl) ?_
  refine gw_get (Cn := RX4) (T := TX4) (N := 4) C Hh 0 pw_at0 rfl uwX4 0 (by decide) rfl tw_218 rfl dX4_life_12 ?_
  refine gw_getN (Cn := RX1) (T := TX1) (N := 5) C Hh 1 pw_at1 rfl uwX1 0 (by decide) rfl tw_98 rfl dX4_life_15 ?_
  refine lv_iload_n C.1 C.2.1 dX4_life_18 rfl (lv_at hl 1 rfl) ?_
  refine lv_iload_n C.1 C.2.1 dX4_life_19 rfl (lv_at hl 2 rfl) ?_
  refine gw_st C Hh 5 pw_at5 (by decide) pw_set5 dX4_life_20 (by omega) (fun H locs Hh => ?_)
  have Hh : gw_H G A s (pw G q (u.1, up2 u.2 5 (a) (n))) H locs := Hh
  refine lv_aload_n C.1 C.2.1 dX4_life_21 rfl (lv_at hl 0 rfl) ?_
  refine gw_fromI (w := pw G q) (u := (u.1, up2 u.2 5 (a) (n))) C Hh (gw_runV (n := 0) (C1 := RX4) [] C Hh (c_X4_settle l G q ((u.1, up2 u.2 5 (a) (n)))  (by exact (li_st hcl hj_8.2).1) (by exact (li_st hcl hj_8.2).2) _) tw_402 tw_404 tw_12 tw_66 tw_405 (by decide +kernel) ⟨Nat.le_of_ble_eq_true rfl, Nat.le_of_ble_eq_true rfl⟩ 0 pw_at0 rfl rfl hl.1 (Nat.le_of_ble_eq_true rfl) dX4_life_22 ⟨Nat.zero_le _, Nat.zero_le _⟩) (fun rc_22 uc_22 H locs hp_22 Hh => ?_)
  obtain ⟨kc_22, rfl, hp_22⟩ := hp_22
  refine gx_ret ?_
  exact gw_iret (w := pw G q) (u := uc_22) C Hh dX4_life_25 ⟨_, rfl, by rw [tn_eq hx_1 (by omega), tn_eq hx_8 (by omega)]; exact ⟨cdL_v hx_1 hj_1 hx_8 hj_8.2, hp_22.1.trans (se_fallen hp_22.2), hp_22.2⟩⟩
set_option maxHeartbeats 4000000 in
set_option maxRecDepth 100000 in
theorem c_X4_standIn (l : Launch) (G : gw_G) (q : Nat → Nat) (u : pf_S) (x : Int32) (y : Int32) (b : Nat) (hst9 : l.stackTraces = false) (h2 : cl2 u) (hb : b ≤ 1) : gx_MI l yX4_standIn cX4_standIn 4 (some .int) 8 156 [.ref (q 0), .int (x), .int (y), .int (nI (b))] G (pw G q) u (fun r u1 => ∃ k : Nat, r = nI k ∧ (cdI u x y b = 0 ∧ k = fallen u1 ∧ se_post (si_S u (tn x) (tn y) b) u1)) (fun E u1 => u1 = u ∧ ((E = "java/lang/IllegalArgumentException" ∧ cdI u x y b = 1) ∨ (E = "java/lang/IllegalStateException" ∧ cdI u x y b = 2))) := by
  refine gx_entryI (own := RX4) (by decide) rfl (Nat.le_of_ble_eq_true rfl) ?_
  intro p e s m args below meth c A ls C X9 hex9 Hh hl
  have hl : lv_has ls 4 [(0, .ref (q 0)), (1, .int (x)), (2, .int (y)), (3, .int (nI (b)))] := hl
  have hcl : cls u := h2.1
  have hgd : gd_ok u := h2.1.1.1
  have har : ar_ok u := h2.1.1.2.1
  have hod : od_ok u := h2.1.1.2.2
  have h10 : u.1 0 ≤ 10 := har.1
  have o10 : u.1 1 ≤ 10 := hod.1
  refine lv_iload_n C.1 C.2.1 dX4_standIn_0 rfl (lv_at hl 1 rfl) ?_
  refine gx_fromV (w := pw G q) (u := u) C hex9 Hh (gx_rS (n := 1) [.int (x)] C X9 Hh (c_X4_needGood l G q (u) (x) hst9  _) tw_357 tw_358 tw_66 tw_359 (by decide +kernel) ⟨Nat.le_of_ble_eq_true rfl, Nat.le_of_ble_eq_true rfl⟩ rfl hl.1 (Nat.le_of_ble_eq_true rfl) dX4_standIn_1 ⟨Nat.le_of_ble_eq_true rfl, Nat.le_of_ble_eq_true rfl⟩) (fun E u1 hx9 => by exact ⟨hx9.2.2, Or.inl ⟨hx9.1, cdI_1 (fun h => hx9.2.1 h.1)⟩⟩) (fun uc_1 H locs hp_1 Hh => ?_)
  obtain ⟨hp_1, hu_1⟩ := hp_1
  rw [hu_1] at Hh
  clear hu_1
  obtain ⟨a, hx_1, hj_1⟩ := hp_1
  rw [hx_1] at hl
  refine lv_iload_n C.1 C.2.1 dX4_standIn_4 rfl (lv_at hl 2 rfl) ?_
  refine gx_fromV (w := pw G q) (u := u) C hex9 Hh (gx_rS (n := 1) [.int (y)] C X9 Hh (c_X4_needGood l G q (u) (y) hst9  _) tw_357 tw_358 tw_66 tw_359 (by decide +kernel) ⟨Nat.le_of_ble_eq_true rfl, Nat.le_of_ble_eq_true rfl⟩ rfl hl.1 (Nat.le_of_ble_eq_true rfl) dX4_standIn_5 ⟨Nat.le_of_ble_eq_true rfl, Nat.le_of_ble_eq_true rfl⟩) (fun E u1 hx9 => by exact ⟨hx9.2.2, Or.inl ⟨hx9.1, cdI_1 (fun h => hx9.2.1 h.2.1)⟩⟩) (fun uc_5 H locs hp_5 Hh => ?_)
  obtain ⟨hp_5, hu_5⟩ := hp_5
  rw [hu_5] at Hh
  clear hu_5
  obtain ⟨g, hx_5, hj_5⟩ := hp_5
  rw [hx_5] at hl
  refine lv_iload_n C.1 C.2.1 dX4_standIn_8 rfl (lv_at hl 1 rfl) ?_
  refine lv_iload_n C.1 C.2.1 dX4_standIn_9 rfl (lv_at hl 2 rfl) ?_
  refine gw_icmp_ne (tgt := 23) C dX4_standIn_10 (by decide) (by omega) (by omega) (fun hc_10 => ?_) (fun hc_10 => ?_)
  · skip
    have h6 : u.2 6 (a * 6 + g) ≤ 1 := hgd.2.1 _ (by omega)
    refine lv_aload_n C.1 C.2.1 dX4_standIn_23 rfl (lv_at hl 0 rfl) ?_
    refine lv_iload_n C.1 C.2.1 dX4_standIn_24 rfl (lv_at hl 1 rfl) ?_
    refine gx_fromV (w := pw G q) (u := u) C hex9 Hh (gx_rV (n := 1) (C1 := RX4) [.int (nI (a))] C X9 Hh (c_X4_needNoKit l G q (u) (a) hst9 (by first | assumption | omega) (by first | assumption | omega) _) tw_361 tw_363 tw_10 tw_66 tw_364 (by decide +kernel) ⟨Nat.le_of_ble_eq_true rfl, Nat.le_of_ble_eq_true rfl⟩ 0 pw_at0 rfl rfl hl.1 (Nat.le_of_ble_eq_true rfl) dX4_standIn_25 ⟨Nat.le_of_ble_eq_true rfl, Nat.le_of_ble_eq_true rfl⟩) (fun E u1 hx9 => by exact ⟨hx9.2.2, Or.inr ⟨hx9.1, (cdI_v hx_1 hj_1 hx_5 hj_5 hc_10).trans (if_pos (Or.inl hx9.2.1))⟩⟩) (fun uc_25 H locs hp_25 Hh => ?_)
    obtain ⟨hp_25, hu_25⟩ := hp_25
    rw [hu_25] at Hh
    clear hu_25
    refine lv_aload_n C.1 C.2.1 dX4_standIn_28 rfl (lv_at hl 0 rfl) ?_
    refine lv_iload_n C.1 C.2.1 dX4_standIn_29 rfl (lv_at hl 2 rfl) ?_
    refine gx_fromV (w := pw G q) (u := u) C hex9 Hh (gx_rV (n := 1) (C1 := RX4) [.int (nI (g))] C X9 Hh (c_X4_needNoKit l G q (u) (g) hst9 (by first | assumption | omega) (by first | assumption | omega) _) tw_361 tw_363 tw_10 tw_66 tw_364 (by decide +kernel) ⟨Nat.le_of_ble_eq_true rfl, Nat.le_of_ble_eq_true rfl⟩ 0 pw_at0 rfl rfl hl.1 (Nat.le_of_ble_eq_true rfl) dX4_standIn_30 ⟨Nat.le_of_ble_eq_true rfl, Nat.le_of_ble_eq_true rfl⟩) (fun E u1 hx9 => by exact ⟨hx9.2.2, Or.inr ⟨hx9.1, (cdI_v hx_1 hj_1 hx_5 hj_5 hc_10).trans (if_pos (Or.inr (Or.inl hx9.2.1)))⟩⟩) (fun uc_30 H locs hp_30 Hh => ?_)
    obtain ⟨hp_30, hu_30⟩ := hp_30
    rw [hu_30] at Hh
    clear hu_30
    refine lv_aload_n C.1 C.2.1 dX4_standIn_33 rfl (lv_at hl 0 rfl) ?_
    refine gw_get (Cn := RX4) (T := TX4) (N := 4) C Hh 0 pw_at0 rfl uwX4 0 (by decide) rfl tw_218 rfl dX4_standIn_34 ?_
    refine lv_iload_n C.1 C.2.1 dX4_standIn_37 rfl (lv_at hl 1 rfl) ?_
    refine lv_iload_n C.1 C.2.1 dX4_standIn_38 rfl (lv_at hl 2 rfl) ?_
    refine gw_fromI (w := pw G q) (u := u) C Hh (gw_runVN (n := 2) (C1 := RX1) [.int (nI (a)), .int (nI (g))] C Hh (c_X1_standsInFor l G q (u) (a) (g) (by first | assumption | omega) (by first | assumption | omega) (by first | assumption | omega) _) tw_545 tw_443 tw_20 tw_67 tw_444 (by decide +kernel) ⟨Nat.le_of_ble_eq_true rfl, Nat.le_of_ble_eq_true rfl⟩ 1 pw_at1 rfl rfl hl.1 (Nat.le_of_ble_eq_true rfl) dX4_standIn_39 ⟨Nat.zero_le _, Nat.zero_le _⟩) (fun rc_39 uc_39 H locs hp_39 Hh => ?_)
    obtain ⟨kc_39, rfl, hp_39⟩ := hp_39
    obtain ⟨hk_39, hu_39⟩ := hp_39
    rw [hu_39] at Hh
    clear hu_39
    refine lv_iload_n C.1 C.2.1 dX4_standIn_42 rfl (lv_at hl 3 rfl) ?_
    refine gw_icmp_ne (tgt := 56) C dX4_standIn_43 (by decide) (by omega) (by omega) (fun hc_43 => ?_) (fun hc_43 => ?_)
    · skip
      refine lv_aload_n C.1 C.2.1 dX4_standIn_56 rfl (lv_at hl 0 rfl) ?_
      refine gw_get (Cn := RX4) (T := TX4) (N := 4) C Hh 0 pw_at0 rfl uwX4 0 (by decide) rfl tw_218 rfl dX4_standIn_57 ?_
      refine lv_iload_n C.1 C.2.1 dX4_standIn_60 rfl (lv_at hl 1 rfl) ?_
      refine lv_iload_n C.1 C.2.1 dX4_standIn_61 rfl (lv_at hl 2 rfl) ?_
      refine lv_iload_n C.1 C.2.1 dX4_standIn_62 rfl (lv_at hl 3 rfl) ?_
      refine gw_fromV (w := pw G q) (u := u) C Hh (gw_runVN (n := 3) (C1 := RX1) [.int (nI (a)), .int (nI (g)), .int (nI (b))] C Hh (c_X1_letStandIn l G q (u) (a) (g) (b) (by first | assumption | omega) (by first | assumption | omega) (by first | assumption | omega) _) tw_547 tw_549 tw_31 tw_67 tw_550 (by decide +kernel) ⟨Nat.le_of_ble_eq_true rfl, Nat.le_of_ble_eq_true rfl⟩ 1 pw_at1 rfl rfl hl.1 (Nat.le_of_ble_eq_true rfl) dX4_standIn_63 ⟨Nat.zero_le _, Nat.zero_le _⟩) (fun uc_63 H locs hp_63 Hh => ?_)
      refine lv_aload_n C.1 C.2.1 dX4_standIn_66 rfl (lv_at hl 0 rfl) ?_
      refine gw_fromI (w := pw G q) (u := uc_63) C Hh (gw_runV (n := 0) (C1 := RX4) [] C Hh (c_X4_settle l G q (uc_63)  (by rw [hp_63]; exact (si_st hcl hb).1) (by rw [hp_63]; exact (si_st hcl hb).2) _) tw_402 tw_404 tw_12 tw_66 tw_405 (by decide +kernel) ⟨Nat.le_of_ble_eq_true rfl, Nat.le_of_ble_eq_true rfl⟩ 0 pw_at0 rfl rfl hl.1 (Nat.le_of_ble_eq_true rfl) dX4_standIn_67 ⟨Nat.zero_le _, Nat.zero_le _⟩) (fun rc_67 uc_67 H locs hp_67 Hh => ?_)
      obtain ⟨kc_67, rfl, hp_67⟩ := hp_67
      refine gx_ret ?_
      exact gw_iret (w := pw G q) (u := uc_67) C Hh dX4_standIn_70 ⟨_, rfl, by rw [tn_eq hx_1 (by omega), tn_eq hx_5 (by omega)]; rw [hp_63] at hp_67; exact ⟨(cdI_v hx_1 hj_1 hx_5 hj_5 hc_10).trans (if_neg (by omega)), hp_67.1.trans (se_fallen hp_67.2), hp_67.2⟩⟩
    · skip
      exact gx_throw (w := pw G q) (u := u) (E := "java/lang/IllegalStateException") (text := "it was so") (names := ["java/lang/RuntimeException", "java/lang/Exception"]) hst9 C X9 hex9 Hh hl.1 (by decide +kernel) (by decide +kernel) tw_366 tw_76 (by decide) ex_82_4 ex_82_5 ex_82_6 dX4_standIn_46 dX4_standIn_49 dX4_standIn_50 dX4_standIn_52 dX4_standIn_55 ⟨Nat.le_of_ble_eq_true rfl, Nat.le_of_ble_eq_true rfl, Nat.le_of_ble_eq_true rfl, Nat.le_of_ble_eq_true rfl⟩ (by exact ⟨rfl, Or.inr ⟨rfl, (cdI_v hx_1 hj_1 hx_5 hj_5 hc_10).trans (if_pos (Or.inr (Or.inr (by omega))))⟩⟩)
  · skip
    exact gx_throw (w := pw G q) (u := u) (E := "java/lang/IllegalArgumentException") (text := "a good does not stand in for itself") (names := ["java/lang/RuntimeException", "java/lang/Exception"]) hst9 C X9 hex9 Hh hl.1 (by decide +kernel) (by decide +kernel) tw_287 tw_75 (by decide) ex_96_4 ex_96_5 ex_96_6 dX4_standIn_13 dX4_standIn_16 dX4_standIn_17 dX4_standIn_19 dX4_standIn_22 ⟨Nat.le_of_ble_eq_true rfl, Nat.le_of_ble_eq_true rfl, Nat.le_of_ble_eq_true rfl, Nat.le_of_ble_eq_true rfl⟩ (by exact ⟨rfl, Or.inl ⟨rfl, cdI_1 (fun h => h.2.2 (by rw [hx_1, hx_5, hc_10]))⟩⟩)
set_option maxHeartbeats 4000000 in
set_option maxRecDepth 100000 in
theorem c_X4_close (l : Launch) (G : gw_G) (q : Nat → Nat) (u : pf_S) (x : Int32) (hst9 : l.stackTraces = false) (h2 : cl2 u) : gx_MI l yX4_close cX4_close 2 (some .int) 7 156 [.ref (q 0), .int (x)] G (pw G q) u (fun r u1 => ∃ k : Nat, r = nI k ∧ (cdX u x = 0 ∧ k = fallen u1 ∧ se_post (xo_S u (tn x)) u1)) (fun E u1 => u1 = u ∧ ((E = "java/util/NoSuchElementException" ∧ cdX u x = 1) ∨ (E = "java/lang/IllegalStateException" ∧ cdX u x = 2))) := by
  refine gx_entryI (own := RX4) (by decide) rfl (Nat.le_of_ble_eq_true rfl) ?_
  intro p e s m args below meth c A ls C X9 hex9 Hh hl
  have hl : lv_has ls 2 [(0, .ref (q 0)), (1, .int (x))] := hl
  have hcl : cls u := h2.1
  have hgd : gd_ok u := h2.1.1.1
  have har : ar_ok u := h2.1.1.2.1
  have hod : od_ok u := h2.1.1.2.2
  have h10 : u.1 0 ≤ 10 := har.1
  have o10 : u.1 1 ≤ 10 := hod.1
  refine lv_aload_n C.1 C.2.1 dX4_close_0 rfl (lv_at hl 0 rfl) ?_
  refine lv_iload_n C.1 C.2.1 dX4_close_1 rfl (lv_at hl 1 rfl) ?_
  refine gx_fromV (w := pw G q) (u := u) C hex9 Hh (gx_rV (n := 1) (C1 := RX4) [.int (x)] C X9 Hh (c_X4_needOrder l G q (u) (x) hst9 (by first | assumption | omega) _) tw_609 tw_611 tw_40 tw_66 tw_612 (by decide +kernel) ⟨Nat.le_of_ble_eq_true rfl, Nat.le_of_ble_eq_true rfl⟩ 0 pw_at0 rfl rfl hl.1 (Nat.le_of_ble_eq_true rfl) dX4_close_2 ⟨Nat.le_of_ble_eq_true rfl, Nat.le_of_ble_eq_true rfl⟩) (fun E u1 hx9 => by exact ⟨hx9.2.2, Or.inl ⟨hx9.1, cdX_1 (inx_no hx9.2.1)⟩⟩) (fun uc_2 H locs hp_2 Hh => ?_)
  obtain ⟨hp_2, hu_2⟩ := hp_2
  rw [hu_2] at Hh
  clear hu_2
  obtain ⟨a, hx_2, hj_2⟩ := hp_2
  rw [hx_2] at hl
  have h18 := hod.2.2.2.2.2.1 a (by omega)
  refine lv_aload_n C.1 C.2.1 dX4_close_5 rfl (lv_at hl 0 rfl) ?_
  refine gw_get (Cn := RX4) (T := TX4) (N := 4) C Hh 0 pw_at0 rfl uwX4 2 (by decide) rfl tw_220 rfl dX4_close_6 ?_
  refine gw_getN (Cn := RX2) (T := TX2) (N := 7) C Hh 3 pw_at3 rfl uwX2 5 (by decide) rfl tw_161 rfl dX4_close_9 ?_
  refine lv_iload_n C.1 C.2.1 dX4_close_12 rfl (lv_at hl 1 rfl) ?_
  refine gw_ld C Hh 18 pw_at18 (by decide) dX4_close_13 (by omega) ?_
  refine lv_iconst (v := nI 2) C.1 C.2.1 dX4_close_14 (by decide +kernel) ?_
  refine gw_icmp_ne (tgt := 28) C dX4_close_15 (by decide) (by omega) (by omega) (fun hc_15 => ?_) (fun hc_15 => ?_)
  · skip
    refine lv_aload_n C.1 C.2.1 dX4_close_28 rfl (lv_at hl 0 rfl) ?_
    refine gw_get (Cn := RX4) (T := TX4) (N := 4) C Hh 0 pw_at0 rfl uwX4 2 (by decide) rfl tw_220 rfl dX4_close_29 ?_
    refine gw_getN (Cn := RX2) (T := TX2) (N := 7) C Hh 3 pw_at3 rfl uwX2 5 (by decide) rfl tw_161 rfl dX4_close_32 ?_
    refine lv_iload_n C.1 C.2.1 dX4_close_35 rfl (lv_at hl 1 rfl) ?_
    refine lv_iconst (v := nI 2) C.1 C.2.1 dX4_close_36 (by decide +kernel) ?_
    refine gw_st C Hh 18 pw_at18 (by decide) pw_set18 dX4_close_37 (by omega) (fun H locs Hh => ?_)
    have Hh : gw_H G A s (pw G q (u.1, up2 u.2 18 (a) (2))) H locs := Hh
    refine lv_aload_n C.1 C.2.1 dX4_close_38 rfl (lv_at hl 0 rfl) ?_
    refine gw_fromI (w := pw G q) (u := (u.1, up2 u.2 18 (a) (2))) C Hh (gw_runV (n := 0) (C1 := RX4) [] C Hh (c_X4_settle l G q ((u.1, up2 u.2 18 (a) (2)))  (by exact (xo_st hcl).1) (by exact (xo_st hcl).2) _) tw_402 tw_404 tw_12 tw_66 tw_405 (by decide +kernel) ⟨Nat.le_of_ble_eq_true rfl, Nat.le_of_ble_eq_true rfl⟩ 0 pw_at0 rfl rfl hl.1 (Nat.le_of_ble_eq_true rfl) dX4_close_39 ⟨Nat.zero_le _, Nat.zero_le _⟩) (fun rc_39 uc_39 H locs hp_39 Hh => ?_)
    obtain ⟨kc_39, rfl, hp_39⟩ := hp_39
    refine gx_ret ?_
    exact gw_iret (w := pw G q) (u := uc_39) C Hh dX4_close_42 ⟨_, rfl, by rw [tn_eq hx_2 (by omega)]; exact ⟨(cdX_v o10 hx_2 hj_2).trans (if_neg (by omega)), hp_39.1.trans (se_fallen hp_39.2), hp_39.2⟩⟩
  · skip
    exact gx_throw (w := pw G q) (u := u) (E := "java/lang/IllegalStateException") (text := "it is closed") (names := ["java/lang/RuntimeException", "java/lang/Exception"]) hst9 C X9 hex9 Hh hl.1 (by decide +kernel) (by decide +kernel) tw_366 tw_76 (by decide) ex_82_4 ex_82_5 ex_82_6 dX4_close_18 dX4_close_21 dX4_close_22 dX4_close_24 dX4_close_27 ⟨Nat.le_of_ble_eq_true rfl, Nat.le_of_ble_eq_true rfl, Nat.le_of_ble_eq_true rfl, Nat.le_of_ble_eq_true rfl⟩ (by exact ⟨rfl, Or.inr ⟨rfl, (cdX_v o10 hx_2 hj_2).trans (if_pos (by omega))⟩⟩)
set_option maxHeartbeats 4000000 in
set_option maxRecDepth 100000 in
theorem c_X4_promise (l : Launch) (G : gw_G) (q : Nat → Nat) (u : pf_S) (x : Int32) (y : Int32) (hst9 : l.stackTraces = false) (h2 : cl2 u) : gx_MI l yX4_promise cX4_promise 3 (some .int) 8 159 [.ref (q 0), .int (x), .int (y)] G (pw G q) u (fun r u1 => ∃ k : Nat, r = nI k ∧ (cdP x y = 0 ∧ mo_same u u1 ∧ cls u1 ∧ gf_inv u (tn x) (tn y) (1 <<< gd_dn u (tn x)) k)) (fun E u1 => u1 = u ∧ ((E = "java/lang/IllegalArgumentException" ∧ cdP x y = 1))) := by
  refine gx_entryI (own := RX4) (by decide) rfl (Nat.le_of_ble_eq_true rfl) ?_
  intro p e s m args below meth c A ls C X9 hex9 Hh hl
  have hl : lv_has ls 3 [(0, .ref (q 0)), (1, .int (x)), (2, .int (y))] := hl
  have hcl : cls u := h2.1
  have hgd : gd_ok u := h2.1.1.1
  have har : ar_ok u := h2.1.1.2.1
  have hod : od_ok u := h2.1.1.2.2
  have h10 : u.1 0 ≤ 10 := har.1
  have o10 : u.1 1 ≤ 10 := hod.1
  refine lv_iload_n C.1 C.2.1 dX4_promise_0 rfl (lv_at hl 1 rfl) ?_
  refine gx_fromV (w := pw G q) (u := u) C hex9 Hh (gx_rS (n := 1) [.int (x)] C X9 Hh (c_X4_needGood l G q (u) (x) hst9  _) tw_357 tw_358 tw_66 tw_359 (by decide +kernel) ⟨Nat.le_of_ble_eq_true rfl, Nat.le_of_ble_eq_true rfl⟩ rfl hl.1 (Nat.le_of_ble_eq_true rfl) dX4_promise_1 ⟨Nat.le_of_ble_eq_true rfl, Nat.le_of_ble_eq_true rfl⟩) (fun E u1 hx9 => by exact ⟨hx9.2.2, hx9.1, cdP_1 (fun h => hx9.2.1 h.1)⟩) (fun uc_1 H locs hp_1 Hh => ?_)
  obtain ⟨hp_1, hu_1⟩ := hp_1
  rw [hu_1] at Hh
  clear hu_1
  obtain ⟨a, hx_1, hj_1⟩ := hp_1
  rw [hx_1] at hl
  refine lv_iload_n C.1 C.2.1 dX4_promise_4 rfl (lv_at hl 2 rfl) ?_
  refine gx_fromV (w := pw G q) (u := u) C hex9 Hh (gx_rS (n := 1) [.int (y)] C X9 Hh (c_X4_needTime l G q (u) (y) hst9  _) tw_281 tw_282 tw_66 tw_283 (by decide +kernel) ⟨Nat.le_of_ble_eq_true rfl, Nat.le_of_ble_eq_true rfl⟩ rfl hl.1 (Nat.le_of_ble_eq_true rfl) dX4_promise_5 ⟨Nat.le_of_ble_eq_true rfl, Nat.le_of_ble_eq_true rfl⟩) (fun E u1 hx9 => by exact ⟨hx9.2.2, hx9.1, cdP_1 (fun h => hx9.2.1 h.2)⟩) (fun uc_5 H locs hp_5 Hh => ?_)
  obtain ⟨hp_5, hu_5⟩ := hp_5
  rw [hu_5] at Hh
  clear hu_5
  obtain ⟨n, hx_5, hj_5⟩ := hp_5
  rw [hx_5] at hl
  refine lv_aload_n C.1 C.2.1 dX4_promise_8 rfl (lv_at hl 0 rfl) ?_
  refine lv_iload_n C.1 C.2.1 dX4_promise_9 rfl (lv_at hl 1 rfl) ?_
  refine lv_iload_n C.1 C.2.1 dX4_promise_10 rfl (lv_at hl 2 rfl) ?_
  refine gw_fromI (w := pw G q) (u := u) C Hh (gw_runV (n := 2) (C1 := RX4) [.int (nI (a)), .int (nI (n))] C Hh (c_X4_greatestFurther l G q (u) (a) (n) (by first | assumption | omega) (by first | assumption | omega) (by first | assumption | omega) _) tw_622 tw_624 tw_41 tw_66 tw_625 (by decide +kernel) ⟨Nat.le_of_ble_eq_true rfl, Nat.le_of_ble_eq_true rfl⟩ 0 pw_at0 rfl rfl hl.1 (Nat.le_of_ble_eq_true rfl) dX4_promise_11 ⟨Nat.zero_le _, Nat.zero_le _⟩) (fun rc_11 uc_11 H locs hp_11 Hh => ?_)
  obtain ⟨kc_11, rfl, hp_11⟩ := hp_11
  refine gx_ret ?_
  exact gw_iret (w := pw G q) (u := uc_11) C Hh dX4_promise_14 ⟨_, rfl, by rw [tn_eq hx_1 (by omega), tn_eq hx_5 (by omega)]; exact ⟨cdP_v hx_1 hj_1 hx_5 hj_5, hp_11⟩⟩
set_option maxHeartbeats 4000000 in
set_option maxRecDepth 100000 in
theorem c_X4_state (l : Launch) (G : gw_G) (q : Nat → Nat) (u : pf_S) (x : Int32) (hst9 : l.stackTraces = false) (h2 : cl2 u) : gx_MI l yX4_state cX4_state 2 (some .int) 7 103 [.ref (q 0), .int (x)] G (pw G q) u (fun r u1 => ∃ k : Nat, r = nI k ∧ (cdN (u.1 1) x = 0 ∧ k = u.2 18 (tn x) ∧ u1 = u)) (fun E u1 => u1 = u ∧ ((E = "java/util/NoSuchElementException" ∧ cdN (u.1 1) x = 1))) := by
  refine gx_entryI (own := RX4) (by decide) rfl (Nat.le_of_ble_eq_true rfl) ?_
  intro p e s m args below meth c A ls C X9 hex9 Hh hl
  have hl : lv_has ls 2 [(0, .ref (q 0)), (1, .int (x))] := hl
  have hcl : cls u := h2.1
  have hgd : gd_ok u := h2.1.1.1
  have har : ar_ok u := h2.1.1.2.1
  have hod : od_ok u := h2.1.1.2.2
  have h10 : u.1 0 ≤ 10 := har.1
  have o10 : u.1 1 ≤ 10 := hod.1
  refine lv_aload_n C.1 C.2.1 dX4_state_0 rfl (lv_at hl 0 rfl) ?_
  refine lv_iload_n C.1 C.2.1 dX4_state_1 rfl (lv_at hl 1 rfl) ?_
  refine gx_fromV (w := pw G q) (u := u) C hex9 Hh (gx_rV (n := 1) (C1 := RX4) [.int (x)] C X9 Hh (c_X4_needOrder l G q (u) (x) hst9 (by first | assumption | omega) _) tw_609 tw_611 tw_40 tw_66 tw_612 (by decide +kernel) ⟨Nat.le_of_ble_eq_true rfl, Nat.le_of_ble_eq_true rfl⟩ 0 pw_at0 rfl rfl hl.1 (Nat.le_of_ble_eq_true rfl) dX4_state_2 ⟨Nat.le_of_ble_eq_true rfl, Nat.le_of_ble_eq_true rfl⟩) (fun E u1 hx9 => by exact ⟨hx9.2.2, hx9.1, cdN_1 (inx_no hx9.2.1)⟩) (fun uc_2 H locs hp_2 Hh => ?_)
  obtain ⟨hp_2, hu_2⟩ := hp_2
  rw [hu_2] at Hh
  clear hu_2
  obtain ⟨a, hx_2, hj_2⟩ := hp_2
  rw [hx_2] at hl
  refine lv_aload_n C.1 C.2.1 dX4_state_5 rfl (lv_at hl 0 rfl) ?_
  refine gw_get (Cn := RX4) (T := TX4) (N := 4) C Hh 0 pw_at0 rfl uwX4 2 (by decide) rfl tw_220 rfl dX4_state_6 ?_
  refine gw_getN (Cn := RX2) (T := TX2) (N := 7) C Hh 3 pw_at3 rfl uwX2 5 (by decide) rfl tw_161 rfl dX4_state_9 ?_
  refine lv_iload_n C.1 C.2.1 dX4_state_12 rfl (lv_at hl 1 rfl) ?_
  refine gw_ld C Hh 18 pw_at18 (by decide) dX4_state_13 (by omega) ?_
  refine gx_ret ?_
  exact gw_iret (w := pw G q) (u := u) C Hh dX4_state_14 ⟨_, rfl, by rw [tn_eq hx_2 (by omega)]; exact ⟨cdN_v o10 hx_2 hj_2, rfl, rfl⟩⟩
set_option maxHeartbeats 4000000 in
set_option maxRecDepth 100000 in
theorem c_X4_left (l : Launch) (G : gw_G) (q : Nat → Nat) (u : pf_S) (x : Int32) (hst9 : l.stackTraces = false) (h2 : cl2 u) : gx_MI l yX4_left cX4_left 2 (some .int) 7 103 [.ref (q 0), .int (x)] G (pw G q) u (fun r u1 => ∃ k : Nat, r = nI k ∧ (cdN (u.1 0) x = 0 ∧ k = u.2 21 (tn x) ∧ u1 = u)) (fun E u1 => u1 = u ∧ ((E = "java/util/NoSuchElementException" ∧ cdN (u.1 0) x = 1))) := by
  refine gx_entryI (own := RX4) (by decide) rfl (Nat.le_of_ble_eq_true rfl) ?_
  intro p e s m args below meth c A ls C X9 hex9 Hh hl
  have hl : lv_has ls 2 [(0, .ref (q 0)), (1, .int (x))] := hl
  have hcl : cls u := h2.1
  have hgd : gd_ok u := h2.1.1.1
  have har : ar_ok u := h2.1.1.2.1
  have hod : od_ok u := h2.1.1.2.2
  have h10 : u.1 0 ≤ 10 := har.1
  have o10 : u.1 1 ≤ 10 := hod.1
  refine lv_aload_n C.1 C.2.1 dX4_left_0 rfl (lv_at hl 0 rfl) ?_
  refine lv_iload_n C.1 C.2.1 dX4_left_1 rfl (lv_at hl 1 rfl) ?_
  refine gx_fromV (w := pw G q) (u := u) C hex9 Hh (gx_rV (n := 1) (C1 := RX4) [.int (x)] C X9 Hh (c_X4_needArrival l G q (u) (x) hst9 (by first | assumption | omega) _) tw_502 tw_504 tw_30 tw_66 tw_505 (by decide +kernel) ⟨Nat.le_of_ble_eq_true rfl, Nat.le_of_ble_eq_true rfl⟩ 0 pw_at0 rfl rfl hl.1 (Nat.le_of_ble_eq_true rfl) dX4_left_2 ⟨Nat.le_of_ble_eq_true rfl, Nat.le_of_ble_eq_true rfl⟩) (fun E u1 hx9 => by exact ⟨hx9.2.2, hx9.1, cdN_1 (inx_no hx9.2.1)⟩) (fun uc_2 H locs hp_2 Hh => ?_)
  obtain ⟨hp_2, hu_2⟩ := hp_2
  rw [hu_2] at Hh
  clear hu_2
  obtain ⟨a, hx_2, hj_2⟩ := hp_2
  rw [hx_2] at hl
  refine lv_aload_n C.1 C.2.1 dX4_left_5 rfl (lv_at hl 0 rfl) ?_
  refine gw_get (Cn := RX4) (T := TX4) (N := 4) C Hh 0 pw_at0 rfl uwX4 3 (by decide) rfl tw_221 rfl dX4_left_6 ?_
  refine gw_getN (Cn := RX3) (T := TX3) (N := 10) C Hh 4 pw_at4 rfl uwX3 2 (by decide) rfl tw_188 rfl dX4_left_9 ?_
  refine lv_iload_n C.1 C.2.1 dX4_left_12 rfl (lv_at hl 1 rfl) ?_
  refine gw_ld C Hh 21 pw_at21 (by decide) dX4_left_13 (by omega) ?_
  refine gx_ret ?_
  exact gw_iret (w := pw G q) (u := u) C Hh dX4_left_14 ⟨_, rfl, by rw [tn_eq hx_2 (by omega)]; exact ⟨cdN_v h10 hx_2 hj_2, rfl, rfl⟩⟩
