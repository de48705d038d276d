/-! Sums over the first n places, and the cut of a flow. -/
def fl_sum (f : Nat → Nat) : Nat → Nat
  | 0 => 0
  | n + 1 => fl_sum f n + f n
theorem fl_sum_congr {f g : Nat → Nat} : ∀ {n : Nat}, (∀ k, k < n → f k = g k) → fl_sum f n = fl_sum g n
  | 0, _ => rfl
  | n + 1, h => by
    show fl_sum f n + f n = fl_sum g n + g n
    rw [fl_sum_congr (fun k hk => h k (Nat.lt_succ_of_lt hk)), h n (Nat.lt_succ_self n)]
theorem fl_sum_le {f g : Nat → Nat} : ∀ {n : Nat}, (∀ k, k < n → f k ≤ g k) → fl_sum f n ≤ fl_sum g n
  | 0, _ => Nat.le_refl _
  | n + 1, h => Nat.add_le_add (fl_sum_le (fun k hk => h k (Nat.lt_succ_of_lt hk))) (h n (Nat.lt_succ_self n))
theorem fl_sum_add (f g : Nat → Nat) : ∀ n, fl_sum (fun k => f k + g k) n = fl_sum f n + fl_sum g n
  | 0 => rfl
  | n + 1 => by
    show fl_sum (fun k => f k + g k) n + (f n + g n) = fl_sum f n + f n + (fl_sum g n + g n)
    rw [fl_sum_add f g n]
    omega
theorem fl_sum_zero : ∀ n, fl_sum (fun _ => 0) n = 0
  | 0 => rfl
  | n + 1 => by
    show fl_sum (fun _ => 0) n + 0 = 0
    rw [fl_sum_zero n]
theorem fl_sum_zero_of {f : Nat → Nat} {n : Nat} (h : ∀ k, k < n → f k = 0) : fl_sum f n = 0 := by
  rw [fl_sum_congr (g := fun _ => 0) h, fl_sum_zero]
theorem fl_sum_swap (f : Nat → Nat → Nat) (m : Nat) : ∀ n, fl_sum (fun i => fl_sum (f i) m) n = fl_sum (fun j => fl_sum (fun i => f i j) n) m
  | 0 => by
    show 0 = fl_sum (fun _ => 0) m
    rw [fl_sum_zero]
  | n + 1 => by
    show fl_sum (fun i => fl_sum (f i) m) n + fl_sum (f n) m = fl_sum (fun j => fl_sum (fun i => f i j) n + f n j) m
    rw [fl_sum_swap f m n, fl_sum_add]
theorem fl_sum_one (f : Nat → Nat) : ∀ {n k : Nat}, k < n → f k ≤ fl_sum f n
  | 0, _, h => absurd h (Nat.not_lt_zero _)
  | n + 1, k, h => by
    show f k ≤ fl_sum f n + f n
    rcases Nat.lt_or_ge k n with h1 | h1
    · exact Nat.le_trans (fl_sum_one f h1) (Nat.le_add_right _ _)
    · have : k = n := by omega
      subst this
      exact Nat.le_add_left _ _
theorem fl_sum_pos {f : Nat → Nat} : ∀ {n : Nat}, 0 < fl_sum f n → ∃ k, k < n ∧ 0 < f k
  | 0, h => absurd h (Nat.lt_irrefl 0)
  | n + 1, h => by
    have h : 0 < fl_sum f n + f n := h
    rcases Nat.eq_zero_or_pos (f n) with h1 | h1
    · obtain ⟨k, h2, h3⟩ := fl_sum_pos (f := f) (n := n) (by omega)
      exact ⟨k, by omega, h3⟩
    · exact ⟨n, Nat.lt_succ_self n, h1⟩
theorem fl_sum_rest_le {f g : Nat → Nat} {k : Nat} : ∀ {n : Nat}, k < n → (∀ j, j < n → j ≠ k → f j ≤ g j) → fl_sum f n + g k ≤ fl_sum g n + f k
  | 0, h, _ => absurd h (Nat.not_lt_zero _)
  | n + 1, h, hj => by
    show fl_sum f n + f n + g k ≤ fl_sum g n + g n + f k
    rcases Nat.lt_or_ge k n with h1 | h1
    · have h2 := fl_sum_rest_le (f := f) (g := g) h1 (fun j h3 h4 => hj j (by omega) h4)
      have h3 := hj n (Nat.lt_succ_self n) (by omega)
      omega
    · have h2 : k = n := by omega
      subst h2
      have h3 := fl_sum_le (f := f) (g := g) (n := k) (fun j h3 => hj j (by omega) (by omega))
      omega
theorem fl_sum_rest {f g : Nat → Nat} {k n : Nat} (h : k < n) (hj : ∀ j, j < n → j ≠ k → f j = g j) : fl_sum f n + g k = fl_sum g n + f k :=
  Nat.le_antisymm (fl_sum_rest_le h (fun j h1 h2 => Nat.le_of_eq (hj j h1 h2))) (fl_sum_rest_le h (fun j h1 h2 => Nat.le_of_eq (hj j h1 h2).symm))
/-- what a row sums to in a set of places -/
def fl_in (R : Nat → Bool) (f : Nat → Nat) : Nat → Nat := fun a => if R a then f a else 0
theorem fl_in_le {R : Nat → Bool} {f : Nat → Nat} {n : Nat} : fl_sum (fl_in R f) n ≤ fl_sum f n := fl_sum_le fun k _ => by
  unfold fl_in
  split <;> omega
theorem fl_in_all {R : Nat → Bool} {f : Nat → Nat} {n : Nat} (h : ∀ k, k < n → 0 < f k → R k = true) : fl_sum (fl_in R f) n = fl_sum f n := fl_sum_congr fun k hk => by
  unfold fl_in
  split
  · rfl
  · rcases Nat.eq_zero_or_pos (f k) with h1 | h1
    · exact h1.symm
    · rename_i h2
      exact absurd (h k hk h1) h2
/-- a set of arrivals that is full, and out of which no loose demand that takes there can go: whoever else meets all demands takes no more there for d0 -/
theorem fl_cut {nA nD : Nat} {fr : Nat → Nat} {us : Nat → Nat → Prop} {x y : Nat → Nat → Nat} {R : Nat → Bool} {L : Nat → Prop} {d0 : Nat} (hd0 : d0 < nD)
    (hyu : ∀ d, d < nD → L d → ∀ a, a < nA → 0 < y d a → us d a)
    (hyf : ∀ a, a < nA → R a = true → fl_sum (fun d => y d a) nD ≤ fr a)
    (hsat : ∀ a, a < nA → R a = true → fr a ≤ fl_sum (fun d => x d a) nD)
    (hcl : ∀ d, d < nD → d ≠ d0 → L d → ∀ r, r < nA → R r = true → 0 < x d r → ∀ a, a < nA → us d a → R a = true)
    (hw : ∀ d, d < nD → d ≠ d0 → L d → fl_sum (x d) nA ≤ fl_sum (y d) nA)
    (hfix : ∀ d, d < nD → d ≠ d0 → ¬ L d → ∀ a, a < nA → R a = true → x d a ≤ y d a) :
    fl_sum (fl_in R (y d0)) nA ≤ fl_sum (fl_in R (x d0)) nA := by
  have h1 : ∀ d, d < nD → d ≠ d0 → fl_sum (fl_in R (x d)) nA ≤ fl_sum (fl_in R (y d)) nA := by
    intro d hd hne
    by_cases hl : L d
    · by_cases ht : ∃ r, r < nA ∧ R r = true ∧ 0 < x d r
      · obtain ⟨r, h2, h3, h4⟩ := ht
        rw [fl_in_all (f := y d) (fun a ha hy => hcl d hd hne hl r h2 h3 h4 a ha (hyu d hd hl a ha hy))]
        exact Nat.le_trans fl_in_le (hw d hd hne hl)
      · have h0 : fl_sum (fl_in R (x d)) nA = 0 := fl_sum_zero_of fun a ha => by
          unfold fl_in
          split
          · rename_i h2
            rcases Nat.eq_zero_or_pos (x d a) with h3 | h3
            · exact h3
            · exact absurd ⟨a, ha, h2, h3⟩ ht
          · rfl
        rw [h0]
        exact Nat.zero_le _
    · refine fl_sum_le fun a ha => ?_
      unfold fl_in
      split
      · rename_i h2
        exact hfix d hd hne hl a ha h2
      · exact Nat.le_refl _
  have h2 : fl_sum (fun d => fl_sum (fl_in R (y d)) nA) nD ≤ fl_sum (fun d => fl_sum (fl_in R (x d)) nA) nD := by
    rw [fl_sum_swap (fun d => fl_in R (y d)) nA nD, fl_sum_swap (fun d => fl_in R (x d)) nA nD]
    refine fl_sum_le fun a ha => ?_
    by_cases hR : R a = true
    · have e1 : ∀ z : Nat → Nat → Nat, fl_sum (fun d => fl_in R (z d) a) nD = fl_sum (fun d => z d a) nD := fun z => fl_sum_congr fun d _ => by
        unfold fl_in
        rw [if_pos hR]
      rw [e1, e1]
      exact Nat.le_trans (hyf a ha hR) (hsat a ha hR)
    · have e1 : fl_sum (fun d => fl_in R (y d) a) nD = 0 := fl_sum_zero_of fun d _ => by
        unfold fl_in
        rw [if_neg hR]
      rw [e1]
      exact Nat.zero_le _
  have h3 := fl_sum_rest_le (f := fun d => fl_sum (fl_in R (x d)) nA) (g := fun d => fl_sum (fl_in R (y d)) nA) hd0 h1
  have h3 : fl_sum (fun d => fl_sum (fl_in R (x d)) nA) nD + fl_sum (fl_in R (y d0)) nA ≤ fl_sum (fun d => fl_sum (fl_in R (y d)) nA) nD + fl_sum (fl_in R (x d0)) nA := h3
  omega
