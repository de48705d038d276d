/-! a path of shifts, from the last arrival to the first one: each takes from the next -/
def pl (u : pf_S) (lo first m : Nat) : List Nat → Prop
  | [] => False
  | [a] => a = first ∧ a < u.1 2
  | a :: b :: t => (a ≠ first ∧ a < u.1 2 ∧ u.2 27 a = b ∧ u.2 28 a < 31 ∧ lo.testBit (u.2 28 a) = true ∧ m ≤ tk_x u (u.2 28 a) b ∧ (u.2 23 (u.2 28 a)).testBit a = true) ∧ pl u lo first m (b :: t)
theorem pl_cases {u : pf_S} {lo first m a : Nat} {M : List Nat} (h : pl u lo first m M) (hd : M.head? = some a) : (a = first ∧ a < u.1 2 ∧ M = [a]) ∨ ∃ b t, M = a :: b :: t ∧ (a ≠ first ∧ a < u.1 2 ∧ u.2 27 a = b ∧ u.2 28 a < 31 ∧ lo.testBit (u.2 28 a) = true ∧ m ≤ tk_x u (u.2 28 a) b ∧ (u.2 23 (u.2 28 a)).testBit a = true) ∧ pl u lo first m (b :: t) := by
  match M, h, hd with
  | [c], h, hd =>
    cases hd
    exact Or.inl ⟨h.1, h.2, rfl⟩
  | c :: b :: t, h, hd =>
    cases hd
    exact Or.inr ⟨b, t, rfl, h.1, h.2⟩
theorem pl_lt {u : pf_S} {lo first m a : Nat} {M : List Nat} (h : pl u lo first m M) (hd : M.head? = some a) : a < u.1 2 := by
  rcases pl_cases h hd with h1 | ⟨b, t, -, h1, -⟩
  · exact h1.2.1
  · exact h1.2.1
theorem pl_mem {u : pf_S} {lo first m : Nat} : ∀ {M : List Nat}, pl u lo first m M → ∀ a ∈ M, a < u.1 2
  | [c], h, a, ha => by
    rw [List.mem_singleton] at ha
    rw [ha]
    exact h.2
  | c :: b :: t, h, a, ha => by
    rcases List.mem_cons.mp ha with rfl | ha
    · exact h.1.2.1
    · exact pl_mem h.2 a ha
/-- only what is taken from the arrivals behind the head matters -/
theorem pl_keep {u v : pf_S} {lo first m : Nat} (h1 : v.1 = u.1) (h23 : v.2 23 = u.2 23) (h27 : v.2 27 = u.2 27) (h28 : v.2 28 = u.2 28) : ∀ {M : List Nat}, pl u lo first m M → (∀ c ∈ M.tail, ∀ d, d < 31 → tk_x v d c = tk_x u d c) → pl v lo first m M
  | [c], h, _ => by
    refine ⟨h.1, ?_⟩
    rw [h1]
    exact h.2
  | c :: b :: t, h, hk => by
    obtain ⟨⟨g1, g2, g3, g4, g5, g6, g7⟩, g8⟩ := h
    refine ⟨⟨g1, by rw [h1]; exact g2, by rw [h27]; exact g3, by rw [h28]; exact g4, by rw [h28]; exact g5, ?_, by rw [h28, h23]; exact g7⟩, pl_keep h1 h23 h27 h28 g8 (fun x hx => hk x (List.mem_cons_of_mem _ hx))⟩
    rw [h28, hk b (by simp) _ g4]
    exact g6
/-- a reached arrival has such a path -/
theorem pl_of {u : pf_S} {lo first R len : Nat} (h : sp_inv (u.1 2) (1 <<< first) lo (tk_x u) (u.2 23) R len u) : ∀ (i : Nat), i < len → ∃ L, pl u lo first 1 L ∧ L.head? = some (u.2 26 i) ∧ L.Nodup ∧ L.length ≤ i + 1 ∧ ∀ b ∈ L, ∃ j, j ≤ i ∧ u.2 26 j = b := by
  intro i
  induction i using Nat.strongRecOn with
  | ind i ih =>
    intro hi
    have hlt : u.2 26 i < u.1 2 := h.1 _ (h.2.2.1 i hi)
    by_cases hf : u.2 26 i = first
    · exact ⟨[u.2 26 i], ⟨hf, hlt⟩, rfl, by simp, by simp, fun b hb => ⟨i, Nat.le_refl _, by rw [List.mem_singleton] at hb; exact hb.symm⟩⟩
    · rcases h.2.2.2.2.2.1 i hi with hs | ⟨j, g1, g2, g3, g4, g5, g6⟩
      · exfalso
        rw [Nat.one_shiftLeft, Nat.testBit_two_pow] at hs
        exact hf (decide_eq_true_eq.mp hs).symm
      · obtain ⟨L, k1, k2, k3, k4, k5⟩ := ih j g1 (by omega)
        obtain ⟨t, rfl⟩ : ∃ t, L = u.2 26 j :: t := by
          cases L with
          | nil => cases k2
          | cons x t => cases k2; exact ⟨t, rfl⟩
        refine ⟨u.2 26 i :: u.2 26 j :: t, ⟨⟨hf, hlt, g2, g3, g4, g5, g6⟩, k1⟩, rfl, ?_, by simp only [List.length_cons] at k4 ⊢; omega, fun b hb => ?_⟩
        · rw [List.nodup_cons]
          refine ⟨fun hm => ?_, k3⟩
          obtain ⟨z, z1, z2⟩ := k5 _ hm
          exact h.2.2.2.2.1 z i (by omega) hi z2
        · rcases List.mem_cons.mp hb with rfl | hb
          · exact ⟨i, Nat.le_refl _, rfl⟩
          · obtain ⟨z, z1, z2⟩ := k5 b hb
            exact ⟨z, by omega, z2⟩
def tk_col (u : pf_S) (a : Nat) : Nat := u.2 21 a + fl_sum (fun d => tk_x u d a) 31
/-- what shifts along a path have done so far, the freed ones lying at arrival c -/
def sh_rel (u v : pf_S) (lo c last nn : Nat) (L : List Nat) : Prop :=
  st_buts [21, 22] u v ∧ (∀ a, a < 10 → v.2 21 a = if a = last then u.2 21 a - nn else u.2 21 a) ∧ (∀ d, d < 31 → fl_sum (tk_x v d) (u.1 2) = fl_sum (tk_x u d) (u.1 2)) ∧ (∀ a, a < u.1 2 → tk_col v a + (if a = c then nn else 0) = tk_col u a) ∧
  (∀ d, d < 31 → ∀ a, a < u.1 2 → 0 < tk_x v d a → 0 < tk_x u d a ∨ (u.2 23 d).testBit a = true) ∧ (∀ d, d < 31 → lo.testBit d = false → ∀ a, a < 10 → tk_x v d a = tk_x u d a) ∧ ∀ a, a < 10 → a ∉ L → ∀ d, d < 31 → tk_x v d a = tk_x u d a
theorem sh_start {u : pf_S} {lo last nn : Nat} {L : List Nat} (hl : last < u.1 2) (hn : nn ≤ u.2 21 last) : sh_rel u (u.1, up2 u.2 21 last (u.2 21 last - nn)) lo last last nn L := by
  have hx : ∀ d a, tk_x (u.1, up2 u.2 21 last (u.2 21 last - nn)) d a = tk_x u d a := fun d a => by simp [tk_x, up2]
  refine ⟨st_buts.rf.up (by decide), fun a _ => ?_, fun d _ => fl_sum_congr fun a _ => hx d a, fun a ha => ?_, fun d _ a _ h => Or.inl (by rw [hx] at h; exact h), fun d _ _ a _ => hx d a, fun a _ _ d _ => hx d a⟩
  · by_cases h : a = last <;> simp [up2, h]
  · have e1 : fl_sum (fun d => tk_x (u.1, up2 u.2 21 last (u.2 21 last - nn)) d a) 31 = fl_sum (fun d => tk_x u d a) 31 := fl_sum_congr fun d _ => hx d a
    unfold tk_col
    rw [e1]
    by_cases h : a = last
    · subst h
      simp [up2]
      omega
    · simp [up2, h]
/-- the move of nn from arrival b to arrival a by demand d -/
def mv (v : pf_S) (d a b nn : Nat) : pf_S := (v.1, upA v.2 22 (fun j => if j = d * 10 + a then v.2 22 j + nn else if j = d * 10 + b then v.2 22 j - nn else v.2 22 j))
theorem mv_eq {v : pf_S} {d a b nn : Nat} (hab : a ≠ b) : ((v.1, up2 (up2 v.2 22 (d * 10 + a) (v.2 22 (d * 10 + a) + nn)) 22 (d * 10 + b) (up2 v.2 22 (d * 10 + a) (v.2 22 (d * 10 + a) + nn) 22 (d * 10 + b) - nn)) : pf_S) = mv v d a b nn := by
  unfold mv
  congr 1
  funext x y
  by_cases hx : x = 22
  · subst hx
    by_cases h1 : y = d * 10 + a
    · have h2 : ¬ y = d * 10 + b := by omega
      subst h1
      have h3 : ¬ a = b := hab
      simp [up2, upA, h3]
    · by_cases h2 : y = d * 10 + b
      · subst h2
        have h3 : ¬ b = a := fun e => hab e.symm
        simp [up2, upA, h3]
      · simp [up2, upA, h1, h2]
  · simp [up2, upA, hx]
theorem mv_x {v : pf_S} {d a b nn : Nat} (ha : a < 10) (hb : b < 10) {e c : Nat} (hc : c < 10) : tk_x (mv v d a b nn) e c = if e = d ∧ c = a then tk_x v e c + nn else if e = d ∧ c = b then tk_x v e c - nn else tk_x v e c := by
  unfold tk_x mv
  simp only [upA, if_true]
  have h1 : (e * 10 + c = d * 10 + a) = (e = d ∧ c = a) := propext ⟨fun h => by omega, fun h => by rw [h.1, h.2]⟩
  have h2 : (e * 10 + c = d * 10 + b) = (e = d ∧ c = b) := propext ⟨fun h => by omega, fun h => by rw [h.1, h.2]⟩
  simp only [h1, h2]
theorem mv_row {v : pf_S} {d a b nn n : Nat} (ha : a < n) (hb : b < n) (hn : n ≤ 10) (hab : a ≠ b) (hnn : nn ≤ tk_x v d b) (e : Nat) : fl_sum (tk_x (mv v d a b nn) e) n = fl_sum (tk_x v e) n := by
  by_cases he : e = d
  · subst he
    have hx : ∀ c, c < n → tk_x (mv v e a b nn) e c = if c = a then tk_x v e c + nn else if c = b then tk_x v e c - nn else tk_x v e c := fun c hc => by
      rw [mv_x (by omega) (by omega) (by omega)]
      simp
    -- first the place a, then the place b
    have s1 := fl_sum_rest (f := fun c => if c = a then tk_x v e c + nn else tk_x v e c) (g := tk_x v e) ha (fun j _ hj => if_neg hj)
    have s2 := fl_sum_rest (f := tk_x (mv v e a b nn) e) (g := fun c => if c = a then tk_x v e c + nn else tk_x v e c) hb (fun j hj1 hj => by
      rw [hx j hj1]
      by_cases h1 : j = a
      · rw [if_pos h1]; exact (if_pos h1).symm
      · rw [if_neg h1, if_neg hj]; exact (if_neg h1).symm)
    rw [hx b hb, if_neg (fun h => hab h.symm), if_pos rfl] at s2
    rw [if_pos rfl] at s1
    rw [if_neg (fun h => hab h.symm)] at s2
    omega
  · refine fl_sum_congr fun c hc => ?_
    rw [mv_x (by omega) (by omega) (by omega), if_neg (fun h => he h.1), if_neg (fun h => he h.1)]
theorem mv_col {v : pf_S} {d a b nn c : Nat} (ha : a < 10) (hb : b < 10) (hc : c < 10) (hd : d < 31) (hab : a ≠ b) (hnn : nn ≤ tk_x v d b) : fl_sum (fun e => tk_x (mv v d a b nn) e c) 31 + (if c = b then nn else 0) = fl_sum (fun e => tk_x v e c) 31 + (if c = a then nn else 0) := by
  have s1 := fl_sum_rest (f := fun e => tk_x (mv v d a b nn) e c) (g := fun e => tk_x v e c) hd (fun j _ hj => by
    show tk_x (mv v d a b nn) j c = tk_x v j c
    rw [mv_x ha hb hc, if_neg (fun h => hj h.1), if_neg (fun h => hj h.1)])
  rw [mv_x ha hb hc] at s1
  have h0 := fl_sum_one (fun e => tk_x v e c) hd
  by_cases h1 : c = a
  · subst h1
    rw [if_pos ⟨rfl, rfl⟩] at s1
    rw [if_neg hab, if_pos rfl]
    omega
  · by_cases h2 : c = b
    · subst h2
      rw [if_neg (fun h => h1 h.2), if_pos ⟨rfl, rfl⟩] at s1
      rw [if_pos rfl, if_neg h1]
      omega
    · rw [if_neg (fun h => h1 h.2), if_neg (fun h => h2 h.2)] at s1
      rw [if_neg h2, if_neg h1]
      omega
theorem sh_hop {u v : pf_S} {lo first last nn a b : Nat} {L t : List Nat} (hn : u.1 2 ≤ 10) (h : sh_rel u v lo a last nn L) (hp : pl v lo first nn (a :: b :: t)) (hnd : (a :: b :: t).Nodup) (hsub : ∀ c ∈ a :: b :: t, c ∈ L) :
    sh_rel u (mv v (v.2 28 a) a b nn) lo b last nn L ∧ pl (mv v (v.2 28 a) a b nn) lo first nn (b :: t) := by
  obtain ⟨⟨g1, g2, g3, g4, g5, g6, g7⟩, g8⟩ := hp
  have hv1 : v.1 = u.1 := h.1.1
  have hb : b < v.1 2 := pl_lt g8 rfl
  rw [hv1] at g2 hb
  have hab : a ≠ b := fun e => by
    rw [List.nodup_cons] at hnd
    exact hnd.1 (by rw [e]; exact List.mem_cons_self)
  obtain ⟨h1, h2, h3, h4, h5, h6, h7⟩ := h
  have hX : ∀ {e c : Nat}, c < 10 → tk_x (mv v (v.2 28 a) a b nn) e c = if e = v.2 28 a ∧ c = a then tk_x v e c + nn else if e = v.2 28 a ∧ c = b then tk_x v e c - nn else tk_x v e c := fun hc => mv_x (by omega) (by omega) hc
  have hk : ∀ k, k ≠ 22 → (mv v (v.2 28 a) a b nn).2 k = v.2 k := fun k hk => upA_ne v.2 hk
  refine ⟨⟨⟨hv1, fun j hj => ?_⟩, fun c hc => ?_, fun d hd => ?_, fun c hc => ?_, fun d hd c hc hx => ?_, fun d hd hl c hc => ?_, fun c hc hm d hd => ?_⟩, ?_⟩
  · rw [hk j (fun e => hj (by rw [e]; decide))]
    exact h1.2 j hj
  · rw [hk 21 (by decide)]
    exact h2 c hc
  · rw [mv_row (by omega) (by omega) hn hab g6]
    exact h3 d hd
  · have s1 := mv_col (v := v) (d := v.2 28 a) (nn := nn) (show a < 10 by omega) (show b < 10 by omega) (show c < 10 by omega) g4 hab g6
    have s2 := h4 c hc
    unfold tk_col at s2 ⊢
    rw [hk 21 (by decide)]
    omega
  · rw [hX (by omega)] at hx
    by_cases e1 : d = v.2 28 a ∧ c = a
    · right
      have : v.2 23 = u.2 23 := h1.2 23 (by decide)
      rw [← this, e1.1, e1.2]
      exact g7
    · rw [if_neg e1] at hx
      by_cases e2 : d = v.2 28 a ∧ c = b
      · rw [if_pos e2] at hx
        exact h5 d hd c hc (by omega)
      · rw [if_neg e2] at hx
        exact h5 d hd c hc hx
  · have hne : ¬ d = v.2 28 a := fun e => by
      rw [e, g5] at hl
      cases hl
    rw [hX hc, if_neg (fun z => hne z.1), if_neg (fun z => hne z.1)]
    exact h6 d hd hl c hc
  · have e1 : c ≠ a := fun e => hm (by rw [e]; exact hsub a (by simp))
    have e2 : c ≠ b := fun e => hm (by rw [e]; exact hsub b (by simp))
    rw [hX hc, if_neg (fun z => e1 z.2), if_neg (fun z => e2 z.2)]
    exact h7 c hc hm d hd
  · refine pl_keep (u := v) (v := mv v (v.2 28 a) a b nn) rfl (hk 23 (by decide)) (hk 27 (by decide)) (hk 28 (by decide)) g8 (fun c hc d hd => ?_)
    have hcl : c < v.1 2 := pl_mem g8 c (List.mem_cons_of_mem _ hc)
    rw [hv1] at hcl
    have hnd2 := hnd
    rw [List.nodup_cons, List.nodup_cons] at hnd2
    have e1 : c ≠ a := fun e => hnd2.1 (by rw [← e]; exact List.mem_cons_of_mem _ hc)
    have e2 : c ≠ b := fun e => hnd2.2.1 (by rw [← e]; exact hc)
    rw [hX (by omega), if_neg (fun z => e1 z.2), if_neg (fun z => e2 z.2)]
theorem sh_cap {u v : pf_S} {lo c last nn : Nat} {L : List Nat} (h : sh_rel u v lo c last nn L) (hc : tk_cap u) : tk_cap v := by
  refine ⟨by rw [h.1.1]; exact hc.1, fun a ha => ?_⟩
  rw [h.1.1] at ha
  have h1 := h.2.2.2.1 a ha
  have h2 := hc.2 a ha
  unfold tk_col at h1
  omega
theorem up2_off (f : Nat → Nat → Nat) {k x v j : Nat} (h : j ≠ x) : up2 f k x v k j = f k j := by simp [up2, h]
def sh_post (u u1 : pf_S) (lo first last most : Nat) (L : List Nat) (k : Nat) : Prop := 0 < k ∧ k ≤ most ∧ sh_rel u u1 lo first last k L
set_option maxHeartbeats 4000000 in
set_option maxRecDepth 100000 in
theorem c_X3_shift (l : Launch) (G : gw_G) (q : Nat → Nat) (u : pf_S) (first : Nat) (last : Nat) (most : Nat) (lo : Nat) (L : List Nat) (hcap : tk_cap u) (hf : first < u.1 2) (hL : pl u lo first 1 L) (hhd : L.head? = some last) (hlen : L.length ≤ 10) (hnd : L.Nodup) (hm0 : 0 < most) (hm : most < 2 ^ 31) (hroom : 0 < u.2 21 last) : gw_MI l yX3_shift cX3_shift 7 (some .int) 1 13 [.ref (q 4), .int (nI (first)), .int (nI (last)), .int (nI (most))] G (pw G q) u (fun r u1 => ∃ k : Nat, r = nI k ∧ (sh_post u u1 lo first last most L k)) := by
  refine gw_entryI (own := RX3) (by decide) rfl (Nat.le_of_ble_eq_true rfl) ?_
  intro p e s m args below meth c A ls C Hh hl
  have hl : lv_has ls 7 [(0, .ref (q 4)), (1, .int (nI (first))), (2, .int (nI (last))), (3, .int (nI (most)))] := hl
  refine lv_iload_n C.1 C.2.1 dX3_shift_0 rfl (lv_at hl 3 rfl) ?_
  refine lv_aload_n C.1 C.2.1 dX3_shift_1 rfl (lv_at hl 0 rfl) ?_
  refine gw_get (Cn := RX3) (T := TX3) (N := 10) C Hh 4 pw_at4 rfl uwX3 2 (by decide) rfl tw_187 rfl dX3_shift_2 ?_
  refine lv_iload_n C.1 C.2.1 dX3_shift_5 rfl (lv_at hl 2 rfl) ?_
  refine gw_ld C Hh 21 pw_at21 (by decide) dX3_shift_6 (by have hlast := pl_lt hL hhd; have h0 := hcap.1; omega) ?_
  refine gw_min C hl.1 tw_479 tw_480 tw_80 tw_481 dX3_shift_7 (by omega) (by have hlast := pl_lt hL hhd; have hcl := hcap.2 last hlast; omega) (by decide) (by decide) (Nat.zero_le _) (Nat.zero_le _) ?_
  refine lv_istore (lv' := [(4, .int (nI (Nat.min (most) (u.2 21 (last))))), (0, .ref (q 4)), (1, .int (nI (first))), (2, .int (nI (last))), (3, .int (nI (most)))]) C.1 C.2.1 dX3_shift_10 hl (by decide) rfl (fun ls hl => ?_)
  refine lv_iload_n C.1 C.2.1 dX3_shift_12 rfl (lv_at hl 3 rfl) ?_
  refine lv_istore (lv' := [(5, .int (nI (last))), (4, .int (nI (Nat.min (most) (u.2 21 (last))))), (0, .ref (q 4)), (1, .int (nI (first))), (2, .int (nI (last))), (3, .int (nI (most)))]) C.1 C.2.1 dX3_shift_13 hl (by decide) rfl (fun ls hl => ?_)
  refine lv_iconst (v := nI 0) C.1 C.2.1 dX3_shift_15 (by decide +kernel) ?_
  refine lv_istore (lv' := [(6, .int (nI (0))), (5, .int (nI (last))), (4, .int (nI (Nat.min (most) (u.2 21 (last))))), (0, .ref (q 4)), (1, .int (nI (first))), (2, .int (nI (last))), (3, .int (nI (most)))]) C.1 C.2.1 dX3_shift_16 hl (by decide) rfl (fun ls hl => ?_)
  have loop_18 : ∀ (fu : Nat) (nn : Nat) (aa : Nat) (hh : Nat) (M : List Nat) (H : Heap) (locs : List Loc) (ls : Array Slot), (0 < nn) → (nn ≤ most) → (nn ≤ u.2 21 last) → (pl u lo first 1 M) → (M.head? = some aa) → (hh + M.length ≤ 10) → (∀ z, z ≤ nn → pl u lo first z M → pl u lo first z L) → 10 - hh < fu → gw_H G A s (pw G q u) H locs → lv_has ls 7 [(0, .ref (q 4)), (1, .int (nI (first))), (2, .int (nI (last))), (3, .int (nI (most))), (4, .int (nI (nn))), (5, .int (nI (aa))), (6, .int (nI (hh)))] → W p l e (gw_rm 1 13) s m args below meth c H locs 0 0 (MQ below (va_Qi (fun r u1 => ∃ k : Nat, r = nI k ∧ (sh_post u u1 lo first last most L k)) (gw_at G A (pw G q)) A) args s 0 0 A) (F0 m 18 ls []) := by
    intro fu
    induction fu with
    | zero =>
      intro nn aa hh M  H locs ls hn0 hnm hnr hM hMh hMl hall hmf
      exact absurd hmf (Nat.not_lt_zero _)
    | succ fu ih_18 =>
      intro nn aa hh M  H locs ls hn0 hnm hnr hM hMh hMl hall hmf Hh hl
      have haa := pl_lt hM hMh
      have h0 := hcap.1
      have hMp : 0 < M.length := by cases M; (cases hMh); simp
      refine lv_iload C.1 C.2.1 dX3_shift_18 (lv_at hl 6 rfl) ?_
      refine lv_bipush (v := nI 10) C.1 C.2.1 dX3_shift_20 (by decide +kernel) ?_
      refine gw_icmp_ge (tgt := 76) C dX3_shift_22 (by decide) (by omega) (by omega) (fun hc_22 => ?_) (fun hc_22 => ?_)
      · skip
        exact absurd hc_22 (by omega)
      · skip
        refine lv_iload C.1 C.2.1 dX3_shift_25 (lv_at hl 5 rfl) ?_
        refine lv_iload_n C.1 C.2.1 dX3_shift_27 rfl (lv_at hl 1 rfl) ?_
        refine gw_icmp_eq (tgt := 76) C dX3_shift_28 (by decide) (by omega) (by omega) (fun hc_28 => ?_) (fun hc_28 => ?_)
        · skip
          have hM1 : M = [aa] := by rcases pl_cases hM hMh with h1 | ⟨b, t, -, h1, -⟩; (exact h1.2.2); exact absurd hc_28 h1.1
          have hLn : pl u lo first nn L := hall nn (Nat.le_refl _) (by rw [hM1]; exact ⟨hc_28, haa⟩)
          have hlast := pl_lt hL hhd
          have hcl := hcap.2 last hlast
          refine lv_aload_n C.1 C.2.1 dX3_shift_76 rfl (lv_at hl 0 rfl) ?_
          refine gw_get (Cn := RX3) (T := TX3) (N := 10) C Hh 4 pw_at4 rfl uwX3 2 (by decide) rfl tw_187 rfl dX3_shift_77 ?_
          refine lv_iload_n C.1 C.2.1 dX3_shift_80 rfl (lv_at hl 2 rfl) ?_
          refine lv_dup2_11 C.1 C.2.1 dX3_shift_81 rfl rfl ?_
          refine gw_ld C Hh 21 pw_at21 (by decide) dX3_shift_82 (by omega) ?_
          refine lv_iload C.1 C.2.1 dX3_shift_83 (lv_at hl 4 rfl) ?_
          refine gw_isub C dX3_shift_85 (by omega) ?_
          refine gw_st C Hh 21 pw_at21 (by decide) pw_set21 dX3_shift_86 (by omega) (fun H locs Hh => ?_)
          have Hh : gw_H G A s (pw G q (u.1, up2 u.2 21 (last) ((u.2 21 (last)) - nn))) H locs := Hh
          refine lv_iload_n C.1 C.2.1 dX3_shift_87 rfl (lv_at hl 2 rfl) ?_
          refine lv_istore (lv' := [(5, .int (nI (last))), (0, .ref (q 4)), (1, .int (nI (first))), (2, .int (nI (last))), (3, .int (nI (most))), (4, .int (nI (nn))), (6, .int (nI (hh)))]) C.1 C.2.1 dX3_shift_88 hl (by decide) rfl (fun ls hl => ?_)
          refine lv_iconst (v := nI 0) C.1 C.2.1 dX3_shift_90 (by decide +kernel) ?_
          refine lv_istore (lv' := [(6, .int (nI (0))), (5, .int (nI (last))), (0, .ref (q 4)), (1, .int (nI (first))), (2, .int (nI (last))), (3, .int (nI (most))), (4, .int (nI (nn)))]) C.1 C.2.1 dX3_shift_91 hl (by decide) rfl (fun ls hl => ?_)
          have loop_93 : ∀ (fu : Nat) (aa : Nat) (hh : Nat) (M : List Nat) (uc : pf_S) (H : Heap) (locs : List Loc) (ls : Array Slot), (sh_rel u uc lo aa last nn L) → (pl uc lo first nn M) → (M.head? = some aa) → (hh + M.length ≤ 10) → (M.Nodup) → (∀ z ∈ M, z ∈ L) → 10 - hh < fu → gw_H G A s (pw G q uc) H locs → lv_has ls 7 [(0, .ref (q 4)), (1, .int (nI (first))), (2, .int (nI (last))), (3, .int (nI (most))), (4, .int (nI (nn))), (5, .int (nI (aa))), (6, .int (nI (hh)))] → W p l e (gw_rm 1 13) s m args below meth c H locs 0 0 (MQ below (va_Qi (fun r u1 => ∃ k : Nat, r = nI k ∧ (sh_post u u1 lo first last most L k)) (gw_at G A (pw G q)) A) args s 0 0 A) (F0 m 93 ls []) := by
            intro fu
            induction fu with
            | zero =>
              intro aa hh M uc H locs ls hv hM hMh hMl hMn hMs hmf
              exact absurd hmf (Nat.not_lt_zero _)
            | succ fu ih_93 =>
              intro aa hh M uc H locs ls hv hM hMh hMl hMn hMs hmf Hh hl
              have hcv := sh_cap hv hcap
              have haa := pl_lt hM hMh
              have h0 := hcv.1
              have hn2 : uc.1 2 = u.1 2 := by rw [hv.1.1]
              have hMp : 0 < M.length := by cases M; (cases hMh); simp
              refine lv_iload C.1 C.2.1 dX3_shift_93 (lv_at hl 6 rfl) ?_
              refine lv_bipush (v := nI 10) C.1 C.2.1 dX3_shift_95 (by decide +kernel) ?_
              refine gw_icmp_ge (tgt := 172) C dX3_shift_97 (by decide) (by omega) (by omega) (fun hc_97 => ?_) (fun hc_97 => ?_)
              · skip
                exact absurd hc_97 (by omega)
              · skip
                refine lv_iload C.1 C.2.1 dX3_shift_100 (lv_at hl 5 rfl) ?_
                refine lv_iload_n C.1 C.2.1 dX3_shift_102 rfl (lv_at hl 1 rfl) ?_
                refine gw_icmp_eq (tgt := 172) C dX3_shift_103 (by decide) (by omega) (by omega) (fun hc_103 => ?_) (fun hc_103 => ?_)
                · skip
                  refine lv_iload C.1 C.2.1 dX3_shift_172 (lv_at hl 4 rfl) ?_
                  exact gw_iret (w := pw G q) (u := uc) C Hh dX3_shift_174 ⟨_, rfl, by rw [← hc_103]; exact ⟨hn0, hnm, hv⟩⟩
                · skip
                  obtain ⟨b, t, rfl, hq, hpt⟩ : ∃ b t, M = aa :: b :: t ∧ _ ∧ _ := by rcases pl_cases hM hMh with h1 | h1; (exact absurd h1.1 hc_103); exact h1
                  have hbb := pl_lt hpt rfl
                  have hab : aa ≠ b := fun e9 => by rw [List.nodup_cons] at hMn; exact hMn.1 (by rw [e9]; exact List.mem_cons_self)
                  have hop := sh_hop hcap.1 hv hM hMn hMs
                  have h27 := hq.2.2.1
                  have h28 := hq.2.2.2.1
                  have hx1 := hcv.x h28 haa
                  have hx2 := hcv.x h28 hbb
                  have hx3 := hq.2.2.2.2.2.1
                  unfold tk_x at hx3
                  refine lv_aload_n C.1 C.2.1 dX3_shift_106 rfl (lv_at hl 0 rfl) ?_
                  refine gw_get (Cn := RX3) (T := TX3) (N := 10) C Hh 4 pw_at4 rfl uwX3 3 (by decide) rfl tw_189 rfl dX3_shift_107 ?_
                  refine lv_aload_n C.1 C.2.1 dX3_shift_110 rfl (lv_at hl 0 rfl) ?_
                  refine gw_get (Cn := RX3) (T := TX3) (N := 10) C Hh 4 pw_at4 rfl uwX3 9 (by decide) rfl tw_196 rfl dX3_shift_111 ?_
                  refine lv_iload C.1 C.2.1 dX3_shift_114 (lv_at hl 5 rfl) ?_
                  refine gw_ld C Hh 28 pw_at28 (by decide) dX3_shift_116 (by omega) ?_
                  refine lv_bipush (v := nI 10) C.1 C.2.1 dX3_shift_117 (by decide +kernel) ?_
                  refine gw_imul C dX3_shift_119 ?_
                  refine lv_iload C.1 C.2.1 dX3_shift_120 (lv_at hl 5 rfl) ?_
                  refine gw_iadd C dX3_shift_122 ?_
                  refine lv_dup2_11 C.1 C.2.1 dX3_shift_123 rfl rfl ?_
                  refine gw_ld C Hh 22 pw_at22 (by decide) dX3_shift_124 (by omega) ?_
                  refine lv_iload C.1 C.2.1 dX3_shift_125 (lv_at hl 4 rfl) ?_
                  refine gw_iadd C dX3_shift_127 ?_
                  refine gw_st C Hh 22 pw_at22 (by decide) pw_set22 dX3_shift_128 (by omega) (fun H locs Hh => ?_)
                  have Hh : gw_H G A s (pw G q (uc.1, up2 uc.2 22 (((uc.2 28 (aa)) * 10) + aa) ((uc.2 22 (((uc.2 28 (aa)) * 10) + aa)) + nn))) H locs := Hh
                  refine lv_aload_n C.1 C.2.1 dX3_shift_129 rfl (lv_at hl 0 rfl) ?_
                  refine gw_get (Cn := RX3) (T := TX3) (N := 10) C Hh 4 pw_at4 rfl uwX3 3 (by decide) rfl tw_189 rfl dX3_shift_130 ?_
                  refine lv_aload_n C.1 C.2.1 dX3_shift_133 rfl (lv_at hl 0 rfl) ?_
                  refine gw_get (Cn := RX3) (T := TX3) (N := 10) C Hh 4 pw_at4 rfl uwX3 9 (by decide) rfl tw_196 rfl dX3_shift_134 ?_
                  refine lv_iload C.1 C.2.1 dX3_shift_137 (lv_at hl 5 rfl) ?_
                  refine gw_ld C Hh 28 pw_at28 (by decide) dX3_shift_139 (by omega) ?_
                  refine W.eq (g2 := F0 m 140 ls [.int (nI (uc.2 28 (aa))), .ref (q 22)]) rfl ?_
                  refine lv_bipush (v := nI 10) C.1 C.2.1 dX3_shift_140 (by decide +kernel) ?_
                  refine gw_imul C dX3_shift_142 ?_
                  refine lv_aload_n C.1 C.2.1 dX3_shift_143 rfl (lv_at hl 0 rfl) ?_
                  refine gw_get (Cn := RX3) (T := TX3) (N := 10) C Hh 4 pw_at4 rfl uwX3 8 (by decide) rfl tw_195 rfl dX3_shift_144 ?_
                  refine lv_iload C.1 C.2.1 dX3_shift_147 (lv_at hl 5 rfl) ?_
                  refine gw_ld C Hh 27 pw_at27 (by decide) dX3_shift_149 (by omega) ?_
                  refine W.eq (g2 := F0 m 150 ls [.int (nI (uc.2 27 (aa))), .int (nI ((uc.2 28 (aa)) * 10)), .ref (q 22)]) rfl ?_
                  refine gw_iadd C dX3_shift_150 ?_
                  refine lv_dup2_11 C.1 C.2.1 dX3_shift_151 rfl rfl ?_
                  refine gw_ld C Hh 22 pw_at22 (by decide) dX3_shift_152 (by omega) ?_
                  refine W.eq (g2 := F0 m 153 ls [.int (nI ((up2 uc.2 22 (((uc.2 28 (aa)) * 10) + aa) ((uc.2 22 (((uc.2 28 (aa)) * 10) + aa)) + nn)) 22 (((uc.2 28 (aa)) * 10) + (uc.2 27 (aa))))), .int (nI (((uc.2 28 (aa)) * 10) + (uc.2 27 (aa)))), .ref (q 22)]) rfl ?_
                  refine lv_iload C.1 C.2.1 dX3_shift_153 (lv_at hl 4 rfl) ?_
                  refine gw_isub C dX3_shift_155 (by rw [up2_off _ (by rw [h27]; omega)]; rw [h27]; omega) ?_
                  refine gw_st C Hh 22 pw_at22 (by decide) pw_set22 dX3_shift_156 (by omega) (fun H locs Hh => ?_)
                  have Hh : gw_H G A s (pw G q (uc.1, up2 (up2 uc.2 22 (((uc.2 28 (aa)) * 10) + aa) ((uc.2 22 (((uc.2 28 (aa)) * 10) + aa)) + nn)) 22 (((uc.2 28 (aa)) * 10) + (uc.2 27 (aa))) (((up2 uc.2 22 (((uc.2 28 (aa)) * 10) + aa) ((uc.2 22 (((uc.2 28 (aa)) * 10) + aa)) + nn)) 22 (((uc.2 28 (aa)) * 10) + (uc.2 27 (aa)))) - nn))) H locs := Hh
                  refine lv_aload_n C.1 C.2.1 dX3_shift_157 rfl (lv_at hl 0 rfl) ?_
                  refine gw_get (Cn := RX3) (T := TX3) (N := 10) C Hh 4 pw_at4 rfl uwX3 8 (by decide) rfl tw_195 rfl dX3_shift_158 ?_
                  refine lv_iload C.1 C.2.1 dX3_shift_161 (lv_at hl 5 rfl) ?_
                  refine gw_ld C Hh 27 pw_at27 (by decide) dX3_shift_163 (by omega) ?_
                  refine W.eq (g2 := F0 m 164 ls [.int (nI (uc.2 27 (aa)))]) rfl ?_
                  refine lv_istore (lv' := [(5, .int (nI (uc.2 27 (aa)))), (0, .ref (q 4)), (1, .int (nI (first))), (2, .int (nI (last))), (3, .int (nI (most))), (4, .int (nI (nn))), (6, .int (nI (hh)))]) C.1 C.2.1 dX3_shift_164 hl (by decide) rfl (fun ls hl => ?_)
                  refine lv_iinc (v := nI (hh + 1)) (lv' := [(6, .int (nI (hh + 1))), (5, .int (nI (uc.2 27 (aa)))), (0, .ref (q 4)), (1, .int (nI (first))), (2, .int (nI (last))), (3, .int (nI (most))), (4, .int (nI (nn)))]) C.1 C.2.1 dX3_shift_166 hl (k := 6) rfl (nI_add _ 1) (by decide) rfl (fun ls hl => ?_)
                  refine lv_goto (tgt := 93) C.1 C.2.1 dX3_shift_169 (by decide) ?_
                  exact ih_93 (uc.2 27 aa) (hh + 1) (b :: t) ((uc.1, up2 (up2 uc.2 22 (((uc.2 28 (aa)) * 10) + aa) ((uc.2 22 (((uc.2 28 (aa)) * 10) + aa)) + nn)) 22 (((uc.2 28 (aa)) * 10) + (uc.2 27 (aa))) (((up2 uc.2 22 (((uc.2 28 (aa)) * 10) + aa) ((uc.2 22 (((uc.2 28 (aa)) * 10) + aa)) + nn)) 22 (((uc.2 28 (aa)) * 10) + (uc.2 27 (aa)))) - nn))) _ _ _ (by rw [hq.2.2.1, mv_eq hab]; exact hop.1) (by rw [hq.2.2.1, mv_eq hab]; exact hop.2) (by rw [hq.2.2.1]; rfl) (by simp only [List.length_cons] at hMl ⊢; omega) (by exact (List.nodup_cons.mp hMn).2) (by intro z h; exact hMs z (List.mem_cons_of_mem _ h)) (by omega) Hh (lv_sub hl [2, 3, 4, 5, 6, 1, 0] rfl)
          exact loop_93 _ (last) (0) (L) ((u.1, up2 u.2 21 (last) ((u.2 21 (last)) - nn))) _ _ _ (by exact sh_start (pl_lt hL hhd) hnr) (by exact pl_keep (u := u) (v := (u.1, up2 u.2 21 last (u.2 21 last - nn))) rfl rfl rfl rfl hLn (fun z _ d _ => by simp [tk_x, up2])) (by exact hhd) (by omega) (by exact hnd) (by intro z h; exact h) (Nat.lt_succ_self _) Hh (lv_sub hl [2, 3, 4, 5, 6, 1, 0] rfl)
        · skip
          obtain ⟨b, t, rfl, hq, hpt⟩ : ∃ b t, M = aa :: b :: t ∧ _ ∧ _ := by rcases pl_cases hM hMh with h1 | h1; (exact absurd h1.1 hc_28); exact h1
          have hbb := pl_lt hpt rfl
          rw [← hq.2.2.1] at hbb
          have h28 := hq.2.2.2.1
          have hxx := hcap.x h28 hbb
          refine lv_iload C.1 C.2.1 dX3_shift_31 (lv_at hl 4 rfl) ?_
          refine lv_aload_n C.1 C.2.1 dX3_shift_33 rfl (lv_at hl 0 rfl) ?_
          refine gw_get (Cn := RX3) (T := TX3) (N := 10) C Hh 4 pw_at4 rfl uwX3 3 (by decide) rfl tw_189 rfl dX3_shift_34 ?_
          refine lv_aload_n C.1 C.2.1 dX3_shift_37 rfl (lv_at hl 0 rfl) ?_
          refine gw_get (Cn := RX3) (T := TX3) (N := 10) C Hh 4 pw_at4 rfl uwX3 9 (by decide) rfl tw_196 rfl dX3_shift_38 ?_
          refine lv_iload C.1 C.2.1 dX3_shift_41 (lv_at hl 5 rfl) ?_
          refine gw_ld C Hh 28 pw_at28 (by decide) dX3_shift_43 (by omega) ?_
          refine lv_bipush (v := nI 10) C.1 C.2.1 dX3_shift_44 (by decide +kernel) ?_
          refine gw_imul C dX3_shift_46 ?_
          refine lv_aload_n C.1 C.2.1 dX3_shift_47 rfl (lv_at hl 0 rfl) ?_
          refine gw_get (Cn := RX3) (T := TX3) (N := 10) C Hh 4 pw_at4 rfl uwX3 8 (by decide) rfl tw_195 rfl dX3_shift_48 ?_
          refine lv_iload C.1 C.2.1 dX3_shift_51 (lv_at hl 5 rfl) ?_
          refine gw_ld C Hh 27 pw_at27 (by decide) dX3_shift_53 (by omega) ?_
          refine gw_iadd C dX3_shift_54 ?_
          refine gw_ld C Hh 22 pw_at22 (by decide) dX3_shift_55 (by omega) ?_
          refine gw_min C hl.1 tw_479 tw_480 tw_80 tw_481 dX3_shift_56 (by have hlast := pl_lt hL hhd; have hcl := hcap.2 last hlast; omega) (by omega) (by decide) (by decide) (Nat.zero_le _) (Nat.zero_le _) ?_
          refine lv_istore (lv' := [(4, .int (nI (Nat.min (nn) (u.2 22 (((u.2 28 (aa)) * 10) + (u.2 27 (aa))))))), (0, .ref (q 4)), (1, .int (nI (first))), (2, .int (nI (last))), (3, .int (nI (most))), (5, .int (nI (aa))), (6, .int (nI (hh)))]) C.1 C.2.1 dX3_shift_59 hl (by decide) rfl (fun ls hl => ?_)
          refine lv_aload_n C.1 C.2.1 dX3_shift_61 rfl (lv_at hl 1 rfl) ?_
          refine gw_get (Cn := RX3) (T := TX3) (N := 10) C Hh 4 pw_at4 rfl uwX3 8 (by decide) rfl tw_195 rfl dX3_shift_62 ?_
          refine lv_iload C.1 C.2.1 dX3_shift_65 (lv_at hl 5 rfl) ?_
          refine gw_ld C Hh 27 pw_at27 (by decide) dX3_shift_67 (by omega) ?_
          refine lv_istore (lv' := [(5, .int (nI (u.2 27 (aa)))), (4, .int (nI (Nat.min (nn) (u.2 22 (((u.2 28 (aa)) * 10) + (u.2 27 (aa))))))), (0, .ref (q 4)), (1, .int (nI (first))), (2, .int (nI (last))), (3, .int (nI (most))), (6, .int (nI (hh)))]) C.1 C.2.1 dX3_shift_68 hl (by decide) rfl (fun ls hl => ?_)
          refine lv_iinc (v := nI (hh + 1)) (lv' := [(6, .int (nI (hh + 1))), (5, .int (nI (u.2 27 (aa)))), (4, .int (nI (Nat.min (nn) (u.2 22 (((u.2 28 (aa)) * 10) + (u.2 27 (aa))))))), (0, .ref (q 4)), (1, .int (nI (first))), (2, .int (nI (last))), (3, .int (nI (most)))]) C.1 C.2.1 dX3_shift_70 hl (k := 6) rfl (nI_add _ 1) (by decide) rfl (fun ls hl => ?_)
          refine lv_goto (tgt := 18) C.1 C.2.1 dX3_shift_73 (by decide) ?_
          exact ih_18 (Nat.min nn (u.2 22 ((u.2 28 aa) * 10 + (u.2 27 aa)))) (u.2 27 aa) (hh + 1) (b :: t)  _ _ _ (by refine Nat.lt_min.mpr ⟨hn0, ?_⟩; have h6 := hq.2.2.2.2.2.1; unfold tk_x at h6; rw [hq.2.2.1]; omega) (by exact Nat.le_trans (Nat.min_le_left _ _) hnm) (by exact Nat.le_trans (Nat.min_le_left _ _) hnr) (by exact hpt) (by rw [hq.2.2.1]; rfl) (by simp only [List.length_cons] at hMl ⊢; omega) (by intro z hz hp; refine hall z (Nat.le_trans hz (Nat.min_le_left _ _)) ⟨⟨hq.1, hq.2.1, hq.2.2.1, hq.2.2.2.1, hq.2.2.2.2.1, ?_, hq.2.2.2.2.2.2⟩, hp⟩; unfold tk_x; rw [← hq.2.2.1]; exact Nat.le_trans hz (Nat.min_le_right _ _)) (by omega) Hh (lv_sub hl [3, 4, 5, 6, 2, 1, 0] rfl)
  exact loop_18 _ (Nat.min most (u.2 21 last)) (last) (0) (L)  _ _ _ (by exact Nat.lt_min.mpr ⟨hm0, hroom⟩) (by exact Nat.min_le_left _ _) (by exact Nat.min_le_right _ _) (by exact hL) (by exact hhd) (by omega) (by intro z _ h; exact h) (Nat.lt_succ_self _) Hh (lv_sub hl [3, 4, 5, 6, 2, 1, 0] rfl)
