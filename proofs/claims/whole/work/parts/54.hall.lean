/-! Hall: demands can be met together where every set of arrivals has as much as what can be met from it alone -/
/-- a part of the demands is met -/
def Vy (n : Nat) (fr Wt M : Nat → Nat) (y : Nat → Nat → Nat) : Prop := (∀ d, d < 31 → ∀ a, a < n → 0 < y d a → (M d).testBit a = true) ∧ (∀ a, a < n → fl_sum (fun d => y d a) 31 ≤ fr a) ∧ ∀ d, d < 31 → fl_sum (y d) n ≤ Wt d
def upy (y : Nat → Nat → Nat) (d a v : Nat) : Nat → Nat → Nat := fun e b => if e = d ∧ b = a then v else y e b
theorem upy_at (y : Nat → Nat → Nat) (d a v : Nat) : upy y d a v d a = v := if_pos ⟨rfl, rfl⟩
theorem upy_d {y : Nat → Nat → Nat} {d a v e b : Nat} (h : e ≠ d) : upy y d a v e b = y e b := if_neg (fun q => h q.1)
theorem upy_a {y : Nat → Nat → Nat} {d a v e b : Nat} (h : b ≠ a) : upy y d a v e b = y e b := if_neg (fun q => h q.2)
theorem upy_row {y : Nat → Nat → Nat} {d a v n : Nat} (ha : a < n) : fl_sum (upy y d a v d) n + y d a = fl_sum (y d) n + v := by
  have h := fl_sum_rest (f := upy y d a v d) (g := y d) ha (fun j _ hj => upy_a hj)
  rw [upy_at] at h
  exact h
theorem upy_col {y : Nat → Nat → Nat} {d a v : Nat} (hd : d < 31) : fl_sum (fun e => upy y d a v e a) 31 + y d a = fl_sum (fun e => y e a) 31 + v := by
  have h := fl_sum_rest (f := fun e => upy y d a v e a) (g := fun e => y e a) hd (fun j _ hj => upy_d hj)
  rw [upy_at] at h
  exact h
theorem upy_row2 {y : Nat → Nat → Nat} {d a v n e : Nat} (h : e ≠ d) : fl_sum (upy y d a v e) n = fl_sum (y e) n := fl_sum_congr fun b _ => upy_d h
theorem upy_col2 {y : Nat → Nat → Nat} {d a v b : Nat} (h : b ≠ a) : fl_sum (fun e => upy y d a v e b) 31 = fl_sum (fun e => y e b) 31 := fl_sum_congr fun e _ => upy_a h
/-- reached in so many steps -/
def rch (n : Nat) (M : Nat → Nat) (d0 : Nat) (y : Nat → Nat → Nat) : Nat → Nat → Prop
  | 0, a => a < n ∧ (M d0).testBit a = true
  | k + 1, a => a < n ∧ ∃ b e, rch n M d0 y k b ∧ e < 31 ∧ 0 < y e b ∧ (M e).testBit a = true
theorem rch_lt {n : Nat} {M : Nat → Nat} {d0 : Nat} {y : Nat → Nat → Nat} {k a : Nat} (h : rch n M d0 y k a) : a < n := by
  cases k with
  | zero => exact h.1
  | succ k => exact h.1
theorem rch_keep {n : Nat} {M : Nat → Nat} {d0 : Nat} {y y1 : Nat → Nat → Nat} {b : Nat} (hk : ∀ e c, c ≠ b → y e c ≤ y1 e c) : ∀ {k c : Nat}, (∀ i, i < k → ¬ rch n M d0 y i b) → rch n M d0 y k c → rch n M d0 y1 k c
  | 0, c, _, h => h
  | k + 1, c, hn, h => by
    obtain ⟨h1, c2, e, h2, h3, h4, h5⟩ := h
    have hc : c2 ≠ b := fun q => hn k (by omega) (by rw [← q]; exact h2)
    exact ⟨h1, c2, e, rch_keep hk (fun i hi => hn i (by omega)) h2, h3, Nat.lt_of_lt_of_le h4 (hk e c2 hc), h5⟩
/-- a reached arrival with room: the demand can get one more -/
theorem aug {n : Nat} {fr Wt M : Nat → Nat} {d0 : Nat} (hd0 : d0 < 31) : ∀ (k : Nat) (y : Nat → Nat → Nat) (a : Nat), Vy n fr Wt M y → fl_sum (y d0) n < Wt d0 → rch n M d0 y k a → fl_sum (fun d => y d a) 31 < fr a →
    ∃ y2, Vy n fr Wt M y2 ∧ fl_sum (y2 d0) n = fl_sum (y d0) n + 1 ∧ ∀ e, e < 31 → e ≠ d0 → fl_sum (y2 e) n = fl_sum (y e) n := by
  intro k
  induction k using Nat.strongRecOn with
  | _ k ih =>
    intro y a hV hW hr hc
    cases k with
    | zero =>
      obtain ⟨h1, h2⟩ := hr
      have r1 := upy_row (y := y) (d := d0) (v := y d0 a + 1) h1
      have c1 := upy_col (y := y) (a := a) (v := y d0 a + 1) hd0
      refine ⟨upy y d0 a (y d0 a + 1), ⟨fun d hd b hb hp => ?_, fun b hb => ?_, fun d hd => ?_⟩, by omega, fun e he hne => upy_row2 hne⟩
      · by_cases q : d = d0 ∧ b = a
        · rw [q.1, q.2]
          exact h2
        · have e1 : upy y d0 a (y d0 a + 1) d b = y d b := if_neg q
          rw [e1] at hp
          exact hV.1 d hd b hb hp
      · by_cases q : b = a
        · subst q
          omega
        · rw [upy_col2 q]
          exact hV.2.1 b hb
      · by_cases q : d = d0
        · subst q
          omega
        · rw [upy_row2 q]
          exact hV.2.2 d hd
    | succ k =>
      obtain ⟨h1, b, e, h2, h3, h4, h5⟩ := hr
      by_cases hm : ∃ j, j < k ∧ rch n M d0 y j b
      · obtain ⟨j, j1, j2⟩ := hm
        exact ih (j + 1) (by omega) y a hV hW ⟨h1, b, e, j2, h3, h4, h5⟩ hc
      · have hn : ∀ i, i < k → ¬ rch n M d0 y i b := fun i hi q => hm ⟨i, hi, q⟩
        have hbn := rch_lt h2
        by_cases hab : a = b
        · subst hab
          exact ih k (by omega) y a hV hW h2 hc
        · have hba : b ≠ a := fun q => hab q.symm
          have e2 : upy y e b (y e b - 1) e a = y e a := upy_a hab
          have r1 := upy_row (y := y) (d := e) (v := y e b - 1) hbn
          have r2 := upy_row (y := upy y e b (y e b - 1)) (d := e) (v := y e a + 1) h1
          rw [e2] at r2
          have c1 := upy_col (y := y) (a := b) (v := y e b - 1) h3
          have c2 := upy_col (y := upy y e b (y e b - 1)) (a := a) (v := y e a + 1) h3
          rw [e2] at c2
          have c3 : fl_sum (fun f => upy y e b (y e b - 1) f a) 31 = fl_sum (fun f => y f a) 31 := upy_col2 hab
          have hrow : ∀ d, fl_sum (upy (upy y e b (y e b - 1)) e a (y e a + 1) d) n = fl_sum (y d) n := fun d => by
            by_cases q : d = e
            · subst q
              omega
            · rw [upy_row2 q, upy_row2 q]
          have hV1 : Vy n fr Wt M (upy (upy y e b (y e b - 1)) e a (y e a + 1)) := by
            refine ⟨fun d hd c hcn hp => ?_, fun c hcn => ?_, fun d hd => ?_⟩
            · by_cases q : d = e ∧ c = a
              · rw [q.1, q.2]
                exact h5
              · have e1 : upy (upy y e b (y e b - 1)) e a (y e a + 1) d c = upy y e b (y e b - 1) d c := if_neg q
                rw [e1] at hp
                by_cases q2 : d = e ∧ c = b
                · rw [q2.1, q2.2]
                  exact hV.1 e h3 b hbn h4
                · have e3 : upy y e b (y e b - 1) d c = y d c := if_neg q2
                  rw [e3] at hp
                  exact hV.1 d hd c hcn hp
            · by_cases q : c = a
              · subst q
                omega
              · rw [upy_col2 q]
                by_cases q2 : c = b
                · subst q2
                  have := hV.2.1 c hcn
                  omega
                · rw [upy_col2 q2]
                  exact hV.2.1 c hcn
            · rw [hrow d]
              exact hV.2.2 d hd
          have hcb : fl_sum (fun d => upy (upy y e b (y e b - 1)) e a (y e a + 1) d b) 31 < fr b := by
            rw [upy_col2 hba]
            have := hV.2.1 b hbn
            omega
          have hreach : rch n M d0 (upy (upy y e b (y e b - 1)) e a (y e a + 1)) k b := rch_keep (b := b) (fun f c hcb2 => by
            by_cases q : f = e ∧ c = a
            · rw [q.1, q.2, upy_at]
              omega
            · have e1 : upy (upy y e b (y e b - 1)) e a (y e a + 1) f c = upy y e b (y e b - 1) f c := if_neg q
              rw [e1, upy_a hcb2]
              exact Nat.le_refl _) hn h2
          obtain ⟨y2, g1, g2, g3⟩ := ih k (by omega) _ b hV1 (by rw [hrow]; exact hW) hreach hcb
          exact ⟨y2, g1, by rw [g2, hrow], fun f hf hne => by rw [g3 f hf hne, hrow]⟩
/-- the bits of a set -/
noncomputable def bm (R : Nat → Prop) : Nat → Nat
  | 0 => 0
  | i + 1 => bm R i ||| pif (R i) (1 <<< i) 0
theorem bm_bit {R : Nat → Prop} : ∀ (i a : Nat), (bm R i).testBit a = true ↔ a < i ∧ R a
  | 0, a => by
    unfold bm
    rw [Nat.zero_testBit]
    exact ⟨fun h => (by cases h), fun h => (by omega)⟩
  | i + 1, a => by
    unfold bm
    rw [Nat.testBit_or, Bool.or_eq_true, bm_bit i a]
    by_cases q : R i
    · rw [pif_pos q, Nat.one_shiftLeft, Nat.testBit_two_pow, decide_eq_true_eq]
      constructor
      · rintro (h | h)
        · exact ⟨by omega, h.2⟩
        · subst h
          exact ⟨by omega, q⟩
      · rintro ⟨h1, h2⟩
        by_cases e : i = a
        · exact Or.inr e
        · exact Or.inl ⟨by omega, h2⟩
    · rw [pif_neg q, Nat.zero_testBit]
      constructor
      · rintro (h | h)
        · exact ⟨by omega, h.2⟩
        · cases h
      · rintro ⟨h1, h2⟩
        refine Or.inl ⟨?_, h2⟩
        by_cases e : i = a
        · subst e
          exact absurd h2 q
        · omega
theorem bm_lt (R : Nat → Prop) (n : Nat) : bm R n < 1 <<< n := by
  rw [Nat.one_shiftLeft]
  refine Nat.lt_of_not_le fun q => ?_
  obtain ⟨i, hi, hb⟩ := Nat.exists_ge_and_testBit_of_ge_two_pow q
  have := ((bm_bit n i).mp hb).1
  omega
/-- a mask lies in a set -/
theorem sub_iff {m S : Nat} (hm : ∀ a, m.testBit a = true → a < 32) : m &&& (S ^^^ 4294967295) = 0 ↔ ∀ a, m.testBit a = true → S.testBit a = true := by
  constructor
  · intro h a ha
    have h1 : (m &&& (S ^^^ 4294967295)).testBit a = false := by rw [h]; exact Nat.zero_testBit a
    rw [Nat.testBit_and, Nat.testBit_xor, ha, all_bit (hm a ha)] at h1
    revert h1
    cases S.testBit a <;> simp
  · intro h
    apply Nat.eq_of_testBit_eq
    intro i
    rw [Nat.zero_testBit, Nat.testBit_and]
    by_cases q : m.testBit i = true
    · rw [Nat.testBit_xor, h i q, all_bit (hm i q)]
      simp
    · rw [Bool.eq_false_iff.mpr q]
      rfl
/-- masks that speak of the arrivals alone -/
def mk_ok (n : Nat) (M : Nat → Nat) : Prop := n ≤ 10 ∧ ∀ d, d < 31 → ∀ a, (M d).testBit a = true → a < n
theorem mk_sub {n : Nat} {M : Nat → Nat} (h : mk_ok n M) {d S : Nat} (hd : d < 31) : M d &&& (S ^^^ 4294967295) = 0 ↔ ∀ a, (M d).testBit a = true → S.testBit a = true := sub_iff (fun a ha => by have := h.2 d hd a ha; have := h.1; omega)
theorem Feas_hall {n : Nat} {fr Wt M : Nat → Nat} (hM : mk_ok n M) (h : Feas n fr Wt M) : hall n fr Wt M := by
  obtain ⟨y, h1, h2, h3⟩ := h
  intro S _
  have e1 : hsum Wt M S ≤ fl_sum (fun d => fl_sum (fun a => if S.testBit a then y d a else 0) n) 31 := by
    unfold hsum
    refine fl_sum_le fun d hd => ?_
    by_cases q : M d &&& (S ^^^ 4294967295) = 0
    · rw [if_pos q, ← h1 d hd]
      refine fl_sum_le fun a ha => ?_
      by_cases q2 : 0 < y d a
      · rw [if_pos ((mk_sub hM hd).mp q a (h2 d hd a ha q2))]
        exact Nat.le_refl _
      · omega
    · rw [if_neg q]
      exact Nat.zero_le _
  refine Nat.le_trans e1 ?_
  rw [fl_sum_swap]
  unfold asum
  refine fl_sum_le fun a ha => ?_
  by_cases q : S.testBit a = true
  · rw [if_pos q, fl_sum_congr (g := fun d => y d a) (fun d _ => if_pos q)]
    exact h3 a ha
  · rw [if_neg q, fl_sum_zero_of (fun d _ => if_neg q)]
    exact Nat.le_refl _
theorem hall_Feas {n : Nat} {fr Wt M : Nat → Nat} (hM : mk_ok n M) (h : hall n fr Wt M) : Feas n fr Wt M := by
  have main : ∀ (m : Nat) (y : Nat → Nat → Nat), Vy n fr Wt M y → fl_sum (fun d => Wt d - fl_sum (y d) n) 31 = m → Feas n fr Wt M := by
    intro m
    induction m with
    | zero =>
      intro y hV hm
      refine ⟨y, fun d hd => ?_, hV.1, hV.2.1⟩
      have := fl_sum_one (fun d => Wt d - fl_sum (y d) n) hd
      have := hV.2.2 d hd
      omega
    | succ m ih =>
      intro y hV hm
      obtain ⟨d0, hd0, hp⟩ := fl_sum_pos (f := fun d => Wt d - fl_sum (y d) n) (n := 31) (by omega)
      have hW0 : fl_sum (y d0) n < Wt d0 := by omega
      by_cases hx : ∃ k a, rch n M d0 y k a ∧ fl_sum (fun d => y d a) 31 < fr a
      · obtain ⟨k, a, g1, g2⟩ := hx
        obtain ⟨y2, g3, g4, g5⟩ := aug hd0 k y a hV hW0 g1 g2
        refine ih y2 g3 ?_
        have hr := fl_sum_rest (f := fun d => Wt d - fl_sum (y2 d) n) (g := fun d => Wt d - fl_sum (y d) n) hd0 (fun j hj hne => by
          rw [g5 j hj hne])
        omega
      · exfalso
        have hfull : ∀ k a, rch n M d0 y k a → fl_sum (fun d => y d a) 31 = fr a := fun k a hr => by
          have h1 := hV.2.1 a (rch_lt hr)
          have h2 : ¬ fl_sum (fun d => y d a) 31 < fr a := fun q => hx ⟨k, a, hr, q⟩
          omega
        have hb := bm_bit (R := fun a => ∃ k, rch n M d0 y k a) n
        have hS := h (bm (fun a => ∃ k, rch n M d0 y k a) n) (bm_lt _ n)
        have hin : ∀ a, (bm (fun a => ∃ k, rch n M d0 y k a) n).testBit a = true ↔ ∃ k, rch n M d0 y k a := fun a => ⟨fun q => ((hb a).mp q).2, fun q => (hb a).mpr ⟨by obtain ⟨k, hk⟩ := q; exact rch_lt hk, q⟩⟩
        generalize bm (fun a => ∃ k, rch n M d0 y k a) n = S at hS hin
        have hclo : ∀ e, e < 31 → ∀ b, b < n → S.testBit b = true → 0 < y e b → M e &&& (S ^^^ 4294967295) = 0 := fun e he b hbn hSb hp => (mk_sub hM he).mpr fun a ha => by
          obtain ⟨k, hk⟩ := (hin b).mp hSb
          exact (hin a).mpr ⟨k + 1, hM.2 e he a ha, b, e, hk, he, hp, ha⟩
        have hd0S : M d0 &&& (S ^^^ 4294967295) = 0 := (mk_sub hM hd0).mpr fun a ha => (hin a).mpr ⟨0, hM.2 d0 hd0 a ha, ha⟩
        have e1 : asum fr S n = fl_sum (fun d => fl_sum (fun a => if S.testBit a then y d a else 0) n) 31 := by
          rw [fl_sum_swap]
          unfold asum
          refine fl_sum_congr fun a ha => ?_
          by_cases q : S.testBit a = true
          · rw [if_pos q, fl_sum_congr (g := fun d => y d a) (fun d _ => if_pos q)]
            obtain ⟨k, hk⟩ := (hin a).mp q
            exact (hfull k a hk).symm
          · rw [if_neg q, fl_sum_zero_of (fun d _ => if_neg q)]
        have e2 : ∀ d, d < 31 → fl_sum (fun a => if S.testBit a then y d a else 0) n ≤ if M d &&& (S ^^^ 4294967295) = 0 then fl_sum (y d) n else 0 := fun d hd => by
          by_cases q : M d &&& (S ^^^ 4294967295) = 0
          · rw [if_pos q]
            refine fl_sum_le fun a _ => ?_
            split <;> omega
          · rw [if_neg q]
            refine Nat.le_of_eq (fl_sum_zero_of fun a ha => ?_)
            by_cases q2 : S.testBit a = true
            · rw [if_pos q2]
              exact Nat.eq_zero_of_not_pos fun z => q (hclo d hd a ha q2 z)
            · rw [if_neg q2]
        have e3 := fl_sum_rest_le (f := fun d => fl_sum (fun a => if S.testBit a then y d a else 0) n) (g := fun d => if M d &&& (S ^^^ 4294967295) = 0 then Wt d else 0) hd0 (fun d hd _ => Nat.le_trans (e2 d hd) (by
          have := hV.2.2 d hd
          split <;> omega))
        have e4 := e2 d0 hd0
        rw [if_pos hd0S] at e4
        rw [if_pos hd0S] at e3
        unfold hsum at hS
        omega
  refine main _ (fun _ _ => 0) ⟨fun d _ a _ hp => absurd hp (Nat.lt_irrefl 0), fun a _ => ?_, fun d _ => ?_⟩ rfl
  · rw [fl_sum_zero]
    exact Nat.zero_le _
  · rw [fl_sum_zero]
    exact Nat.zero_le _
theorem Feas_iff {n : Nat} {fr Wt M : Nat → Nat} (hM : mk_ok n M) : Feas n fr Wt M ↔ hall n fr Wt M := ⟨Feas_hall hM, hall_Feas hM⟩
