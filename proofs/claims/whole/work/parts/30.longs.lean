/-! longs, as integers; the comparison with the branch behind it; the table of a switch -/
theorem L64 {a : Int} (h1 : -2 ^ 63 ≤ a) (h2 : a < 2 ^ 63) : (Int64.ofInt a).toInt = a := Int64.toInt_ofInt_of_le h1 h2
/-- an integer that a long holds, well inside -/
def lg (a : Int) : Prop := -2 ^ 62 ≤ a ∧ a ≤ 2 ^ 62
theorem lg_to {a : Int} (h : lg a) : (Int64.ofInt a).toInt = a := L64 (by have := h.1; omega) (by have := h.2; omega)
theorem lg_lt {a b : Int} (ha : lg a) (hb : lg b) : Int64.ofInt a < Int64.ofInt b ↔ a < b := by rw [Int64.lt_iff_toInt_lt, lg_to ha, lg_to hb]
theorem lg_eq {a b : Int} (ha : lg a) (hb : lg b) : Int64.ofInt a = Int64.ofInt b ↔ a = b :=
  ⟨fun h => by have h1 := congrArg Int64.toInt h; rw [lg_to ha, lg_to hb] at h1; exact h1, fun h => by rw [h]⟩
theorem lg_add (a b : Int) : Int64.ofInt a + Int64.ofInt b = Int64.ofInt (a + b) := (Int64.ofInt_add a b).symm
theorem lg_sub (a b : Int) : Int64.ofInt a - Int64.ofInt b = Int64.ofInt (a - b) := (Int64.ofInt_sub a b).symm
theorem lg_mul (a b : Int) : Int64.ofInt a * Int64.ofInt b = Int64.ofInt (a * b) := (Int64.ofInt_mul a b).symm
theorem lg_div {a b : Int} (ha : lg a) (hb : lg b) (h0 : 0 ≤ a) (h1 : 0 < b) : Int64.ofInt a / Int64.ofInt b = Int64.ofInt (a / b) := by
  apply Int64.toInt_inj.mp
  have h2 : 0 ≤ a / b := Int.ediv_nonneg h0 (by omega)
  have h3 : a / b ≤ a := Int.ediv_le_self _ h0
  have h4 := ha.2
  rw [Int64.toInt_div, lg_to ha, lg_to hb, Int.tdiv_eq_ediv_of_nonneg h0, lg_to (a := a / b) ⟨by omega, by omega⟩]
  exact Int.bmod_eq_of_le (by omega) (by omega)
theorem lg_i2l {x : Nat} (hx : x < 2 ^ 31) : (nI x).toInt64 = Int64.ofInt (x : Int) := by
  apply Int64.toInt_inj.mp
  rw [Int32.toInt_toInt64, nI_toInt hx, L64 (by omega) (by omega)]
theorem lg_i2lx (x : Int32) : x.toInt64 = Int64.ofInt x.toInt := by
  apply Int64.toInt_inj.mp
  have h1 := x.toInt_lt
  have h2 := x.le_toInt
  rw [Int32.toInt_toInt64, L64 (by omega) (by omega)]
theorem lg_l2i {a : Int} (h0 : 0 ≤ a) (h1 : a < 2 ^ 31) : (Int64.ofInt a).toInt32 = nI a.toNat := by
  apply Int32.toInt_inj.mp
  rw [Int64.toInt_toInt32, L64 (by omega) (by omega), nI_toInt (by omega), Int.toNat_of_nonneg h0]
  exact Int.bmod_eq_of_le (by omega) (by omega)
theorem lg_one : Int64.ofInt 1 = 1 := rfl
section GLO
variable {p : Program} {l : Launch} {e : Env} {R : Room} {s : State} {m : MethodId} {args : Array Value} {below : List Frame} {meth : Method} {c : Code} {H : Heap} {locs : List Loc} {cells slots : Nat} {Q : State → Prop}
variable {cc : ByteArray} {pc : Nat} {ls : Array Slot} {rest : List Value} {G : gw_G} {own : String} {nL : Nat} {ret : Option FieldType}
theorem lv_lcmp (hexec : p.tables.exec = Jvm.exec) (hb : c.code = cc) {x y : Int64} (hdg : decode cc pc = .ok (.lcmp, 1))
    (k : W p l e R s m args below meth c H locs cells slots Q (F0 m (pc + 1) ls (.int (if y < x then 1 else if x = y then 0 else -1) :: rest))) : W p l e R s m args below meth c H locs cells slots Q (F0 m pc ls (.long y :: .long x :: rest)) := by
  intro T hT X
  obtain ⟨t, a, b⟩ := k T hT X
  refine ⟨t, ?_, b⟩
  by_cases h1 : y < x
  · rw [if_pos h1] at a
    jvm_step X.here [X.here.top, hexec, hb, hdg, h1]
    exact a
  · rw [if_neg h1] at a
    by_cases h2 : x = y
    · rw [if_pos h2] at a
      subst h2
      jvm_step X.here [X.here.top, hexec, hb, hdg, h1]
      exact a
    · rw [if_neg h2] at a
      jvm_step X.here [X.here.top, hexec, hb, hdg, h1, h2]
      exact a
theorem gw_ladd {x y : Int} (C : gw_C p s m args meth c G own cc nL ret) (hdg : decode cc pc = .ok (.ladd, 1)) (kk : W p l e R s m args below meth c H locs cells slots Q (F0 m (pc + 1) ls (.long (Int64.ofInt (x + y)) :: rest))) : W p l e R s m args below meth c H locs cells slots Q (F0 m pc ls (.long (Int64.ofInt y) :: .long (Int64.ofInt x) :: rest)) :=
  lv_ladd C.1 C.2.1 hdg (by rw [lg_add]; exact kk)
theorem gw_lsub {x y : Int} (C : gw_C p s m args meth c G own cc nL ret) (hdg : decode cc pc = .ok (.lsub, 1)) (kk : W p l e R s m args below meth c H locs cells slots Q (F0 m (pc + 1) ls (.long (Int64.ofInt (x - y)) :: rest))) : W p l e R s m args below meth c H locs cells slots Q (F0 m pc ls (.long (Int64.ofInt y) :: .long (Int64.ofInt x) :: rest)) :=
  lv_lsub C.1 C.2.1 hdg (by rw [lg_sub]; exact kk)
theorem gw_lmul {x y : Int} (C : gw_C p s m args meth c G own cc nL ret) (hdg : decode cc pc = .ok (.lmul, 1)) (kk : W p l e R s m args below meth c H locs cells slots Q (F0 m (pc + 1) ls (.long (Int64.ofInt (x * y)) :: rest))) : W p l e R s m args below meth c H locs cells slots Q (F0 m pc ls (.long (Int64.ofInt y) :: .long (Int64.ofInt x) :: rest)) :=
  lv_lmul C.1 C.2.1 hdg (by rw [lg_mul]; exact kk)
theorem gw_ldiv {x y : Int} (C : gw_C p s m args meth c G own cc nL ret) (hdg : decode cc pc = .ok (.ldiv, 1)) (hx : lg x) (hy : lg y) (h0 : 0 ≤ x) (h1 : 0 < y) (kk : W p l e R s m args below meth c H locs cells slots Q (F0 m (pc + 1) ls (.long (Int64.ofInt (x / y)) :: rest))) : W p l e R s m args below meth c H locs cells slots Q (F0 m pc ls (.long (Int64.ofInt y) :: .long (Int64.ofInt x) :: rest)) :=
  lv_ldiv C.1 C.2.1 hdg (fun h => by
    have h2 : y = 0 := (lg_eq hy (b := 0) ⟨by decide, by decide⟩).mp h
    omega) (by rw [lg_div hx hy h0 h1]; exact kk)
theorem gw_i2l {x : Nat} (C : gw_C p s m args meth c G own cc nL ret) (hdg : decode cc pc = .ok (.i2l, 1)) (hx : x < 2 ^ 31) (kk : W p l e R s m args below meth c H locs cells slots Q (F0 m (pc + 1) ls (.long (Int64.ofInt (x : Int)) :: rest))) : W p l e R s m args below meth c H locs cells slots Q (F0 m pc ls (.int (nI x) :: rest)) :=
  lv_i2l C.1 C.2.1 hdg (lg_i2l hx) kk
theorem gw_l2i {x : Int} (C : gw_C p s m args meth c G own cc nL ret) (hdg : decode cc pc = .ok (.l2i, 1)) (h0 : 0 ≤ x) (hx : x < 2 ^ 31) (kk : W p l e R s m args below meth c H locs cells slots Q (F0 m (pc + 1) ls (.int (nI x.toNat) :: rest))) : W p l e R s m args below meth c H locs cells slots Q (F0 m pc ls (.long (Int64.ofInt x) :: rest)) :=
  lv_l2i C.1 C.2.1 hdg (lg_l2i h0 hx) kk
theorem lc_val {x y : Int} (hx : lg x) (hy : lg y) : (if Int64.ofInt y < Int64.ofInt x then (1 : Int32) else if Int64.ofInt x = Int64.ofInt y then 0 else -1) = if y < x then 1 else if x = y then 0 else -1 := by
  by_cases h1 : y < x
  · rw [if_pos h1, if_pos ((lg_lt hy hx).mpr h1)]
  · rw [if_neg h1, if_neg (fun h => h1 ((lg_lt hy hx).mp h))]
    by_cases h2 : x = y
    · rw [if_pos h2, if_pos ((lg_eq hx hy).mpr h2)]
    · rw [if_neg h2, if_neg (fun h => h2 ((lg_eq hx hy).mp h))]
theorem gw_lc_ge {x y : Int} {tgt : Nat} {off : Int} (C : gw_C p s m args meth c G own cc nL ret) (hdg : decode cc pc = .ok (.lcmp, 1)) (hd2 : decode cc (pc + 1) = .ok (.ifCond .ge off, 3)) (ht : ((pc + 1 : Nat) : Int) + off = (tgt : Int)) (hx : lg x) (hy : lg y)
    (kt : y ≤ x → W p l e R s m args below meth c H locs cells slots Q (F0 m tgt ls rest)) (kf : x < y → W p l e R s m args below meth c H locs cells slots Q (F0 m (pc + 4) ls rest)) : W p l e R s m args below meth c H locs cells slots Q (F0 m pc ls (.long (Int64.ofInt y) :: .long (Int64.ofInt x) :: rest)) := by
  refine lv_lcmp C.1 C.2.1 hdg (lv_if_ge C.1 C.2.1 hd2 ht ?_ ?_)
  · rw [lc_val hx hy]
    intro h
    refine kt (Decidable.byContradiction fun h1 => ?_)
    rw [if_neg (by omega), if_neg (by omega)] at h
    revert h; decide
  · rw [lc_val hx hy]
    intro h
    refine kf (Decidable.byContradiction fun h1 => h ?_)
    by_cases h2 : y < x
    · rw [if_pos h2]; decide
    · rw [if_neg h2, if_pos (by omega)]; decide
theorem gw_lc_le {x y : Int} {tgt : Nat} {off : Int} (C : gw_C p s m args meth c G own cc nL ret) (hdg : decode cc pc = .ok (.lcmp, 1)) (hd2 : decode cc (pc + 1) = .ok (.ifCond .le off, 3)) (ht : ((pc + 1 : Nat) : Int) + off = (tgt : Int)) (hx : lg x) (hy : lg y)
    (kt : x ≤ y → W p l e R s m args below meth c H locs cells slots Q (F0 m tgt ls rest)) (kf : y < x → W p l e R s m args below meth c H locs cells slots Q (F0 m (pc + 4) ls rest)) : W p l e R s m args below meth c H locs cells slots Q (F0 m pc ls (.long (Int64.ofInt y) :: .long (Int64.ofInt x) :: rest)) := by
  refine lv_lcmp C.1 C.2.1 hdg (lv_if_le C.1 C.2.1 hd2 ht ?_ ?_)
  · rw [lc_val hx hy]
    intro h
    refine kt (Decidable.byContradiction fun h1 => ?_)
    rw [if_pos (by omega)] at h
    revert h; decide
  · rw [lc_val hx hy]
    intro h
    refine kf (Decidable.byContradiction fun h1 => h ?_)
    rw [if_neg h1]
    by_cases h2 : x = y
    · rw [if_pos h2]; decide
    · rw [if_neg h2]; decide
theorem gw_lc_ne {x y : Int} {tgt : Nat} {off : Int} (C : gw_C p s m args meth c G own cc nL ret) (hdg : decode cc pc = .ok (.lcmp, 1)) (hd2 : decode cc (pc + 1) = .ok (.ifCond .ne off, 3)) (ht : ((pc + 1 : Nat) : Int) + off = (tgt : Int)) (hx : lg x) (hy : lg y)
    (kt : x ≠ y → W p l e R s m args below meth c H locs cells slots Q (F0 m tgt ls rest)) (kf : x = y → W p l e R s m args below meth c H locs cells slots Q (F0 m (pc + 4) ls rest)) : W p l e R s m args below meth c H locs cells slots Q (F0 m pc ls (.long (Int64.ofInt y) :: .long (Int64.ofInt x) :: rest)) := by
  refine lv_lcmp C.1 C.2.1 hdg (lv_if_ne C.1 C.2.1 hd2 ht ?_ ?_)
  · rw [lc_val hx hy]
    intro h
    refine kt (fun h1 => h ?_)
    rw [if_neg (by omega), if_pos h1]
  · rw [lc_val hx hy]
    intro h
    refine kf (Decidable.byContradiction fun h1 => ?_)
    by_cases h2 : y < x
    · rw [if_pos h2] at h; revert h; decide
    · rw [if_neg h2, if_neg h1] at h; revert h; decide
theorem gw_lc_eq {x y : Int} {tgt : Nat} {off : Int} (C : gw_C p s m args meth c G own cc nL ret) (hdg : decode cc pc = .ok (.lcmp, 1)) (hd2 : decode cc (pc + 1) = .ok (.ifCond .eq off, 3)) (ht : ((pc + 1 : Nat) : Int) + off = (tgt : Int)) (hx : lg x) (hy : lg y)
    (kt : x = y → W p l e R s m args below meth c H locs cells slots Q (F0 m tgt ls rest)) (kf : x ≠ y → W p l e R s m args below meth c H locs cells slots Q (F0 m (pc + 4) ls rest)) : W p l e R s m args below meth c H locs cells slots Q (F0 m pc ls (.long (Int64.ofInt y) :: .long (Int64.ofInt x) :: rest)) := by
  refine lv_lcmp C.1 C.2.1 hdg (lv_if_eq C.1 C.2.1 hd2 ht ?_ ?_)
  · rw [lc_val hx hy]
    intro h
    refine kt (Decidable.byContradiction fun h1 => ?_)
    by_cases h2 : y < x
    · rw [if_pos h2] at h; revert h; decide
    · rw [if_neg h2, if_neg h1] at h; revert h; decide
  · rw [lc_val hx hy]
    intro h
    refine kf (fun h1 => h ?_)
    rw [if_neg (by omega), if_pos h1]
end GLO
theorem sw6 (x : Int32) : x = nI 0 ∨ x = nI 1 ∨ x = nI 2 ∨ x = nI 3 ∨ x = nI 4 ∨ x = nI 5 ∨ ¬ inr x 0 5 := by
  by_cases h : inr x 0 5
  · obtain ⟨j, h1, h2, h3⟩ := inr_nI h
    have : j = 0 ∨ j = 1 ∨ j = 2 ∨ j = 3 ∨ j = 4 ∨ j = 5 := by omega
    rcases this with e | e | e | e | e | e <;> subst e
    · exact Or.inl h1
    · exact Or.inr (Or.inl h1)
    · exact Or.inr (Or.inr (Or.inl h1))
    · exact Or.inr (Or.inr (Or.inr (Or.inl h1)))
    · exact Or.inr (Or.inr (Or.inr (Or.inr (Or.inl h1))))
    · exact Or.inr (Or.inr (Or.inr (Or.inr (Or.inr (Or.inl h1)))))
  · exact Or.inr (Or.inr (Or.inr (Or.inr (Or.inr (Or.inr h)))))
