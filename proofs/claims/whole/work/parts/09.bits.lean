def bt (x : Int32) (i : Nat) : Bool := x.toBitVec.getLsbD i
theorem b_ext {x y : Int32} (h : ∀ i, i < 32 → bt x i = bt y i) : x = y := Int32.toBitVec_inj.mp (BitVec.eq_of_getLsbD_eq (fun i hi => h i hi))
theorem b_or (x y : Int32) (i : Nat) : bt (x ||| y) i = (bt x i || bt y i) := by unfold bt; rw [Int32.toBitVec_or, BitVec.getLsbD_or]
theorem b_and (x y : Int32) (i : Nat) : bt (x &&& y) i = (bt x i && bt y i) := by unfold bt; rw [Int32.toBitVec_and, BitVec.getLsbD_and]
theorem b_xor (x y : Int32) (i : Nat) : bt (x ^^^ y) i = (bt x i ^^ bt y i) := by unfold bt; rw [Int32.toBitVec_xor, BitVec.getLsbD_xor]
theorem b_big {x : Int32} {i : Nat} (h : 32 ≤ i) : bt x i = false := BitVec.getLsbD_of_ge _ _ h
theorem b_255 (i : Nat) : bt 255 i = decide (i < 8) := by
  rcases Nat.lt_or_ge i 32 with h | h
  · exact (by decide +kernel : ∀ i, i < 32 → bt 255 i = decide (i < 8)) i h
  · rw [b_big h, decide_eq_false (by omega)]
theorem b_65535 (i : Nat) : bt 65535 i = decide (i < 16) := by
  rcases Nat.lt_or_ge i 32 with h | h
  · exact (by decide +kernel : ∀ i, i < 32 → bt 65535 i = decide (i < 16)) i h
  · rw [b_big h, decide_eq_false (by omega)]
theorem b_m1 : ∀ i, i < 32 → bt (-1) i = true := by decide +kernel
theorem b_0 (i : Nat) : bt 0 i = false := BitVec.getLsbD_zero
theorem s_l : ∀ n, n < 32 → ((nI n &&& 31).toBitVec.smod 32).toNat = n := by decide +kernel
theorem s_u : ∀ n, n < 32 → (((nI n).toUInt32 &&& Int32.toUInt32 31).toBitVec % 32).toNat = n := by decide +kernel
theorem b_shl (n : Nat) (hn : n < 32) (x : Int32) {i : Nat} (hi : i < 32) : bt (x <<< (nI n &&& 31)) i = (decide (n ≤ i) && bt x (i - n)) := by
  unfold bt
  rw [Int32.toBitVec_shiftLeft]
  show (x.toBitVec <<< ((nI n &&& 31).toBitVec.smod 32).toNat).getLsbD i = _
  rw [s_l n hn, BitVec.getLsbD_shiftLeft]
  rcases Nat.lt_or_ge i n with h | h
  · simp [h, Nat.not_le.mpr h]
  · simp [hi, h, Nat.not_lt.mpr h]
theorem b_ushr (n : Nat) (hn : n < 32) (x : Int32) (i : Nat) : bt ((x.toUInt32 >>> ((nI n).toUInt32 &&& Int32.toUInt32 31)).toInt32) i = bt x (n + i) := by
  show (x.toUInt32 >>> ((nI n).toUInt32 &&& Int32.toUInt32 31)).toBitVec.getLsbD i = x.toUInt32.toBitVec.getLsbD (n + i)
  rw [UInt32.toBitVec_shiftRight]
  show (x.toUInt32.toBitVec >>> (((nI n).toUInt32 &&& Int32.toUInt32 31).toBitVec % 32).toNat).getLsbD i = _
  rw [s_u n hn, BitVec.getLsbD_ushiftRight]
theorem b_sshr (n : Nat) (hn : n < 32) (x : Int32) {i : Nat} (hi : i < 32) : bt (x >>> (nI n &&& 31)) i = if n + i < 32 then bt x (n + i) else bt x 31 := by
  unfold bt
  rw [Int32.toBitVec_shiftRight]
  show (x.toBitVec.sshiftRight ((nI n &&& 31).toBitVec.smod 32).toNat).getLsbD i = _
  rw [s_l n hn, BitVec.getLsbD_sshiftRight, BitVec.msb_eq_getLsbD_last]
  simp [hi]
theorem b_shl8 (x : Int32) {i : Nat} (hi : i < 32) : bt (x <<< ((8 : Int32) &&& 31)) i = (decide (8 ≤ i) && bt x (i - 8)) := b_shl 8 (by omega) x hi
theorem b_shl16 (x : Int32) {i : Nat} (hi : i < 32) : bt (x <<< ((16 : Int32) &&& 31)) i = (decide (16 ≤ i) && bt x (i - 16)) := b_shl 16 (by omega) x hi
theorem b_shl24 (x : Int32) {i : Nat} (hi : i < 32) : bt (x <<< ((24 : Int32) &&& 31)) i = (decide (24 ≤ i) && bt x (i - 24)) := b_shl 24 (by omega) x hi
theorem b_sshr8 (x : Int32) {i : Nat} (hi : i < 32) : bt (x >>> ((8 : Int32) &&& 31)) i = if 8 + i < 32 then bt x (8 + i) else bt x 31 := b_sshr 8 (by omega) x hi
theorem nx_and (a b : Nat) : nI a &&& nI b = nI (a &&& b) := by
  apply Int32.toBitVec_inj.1
  show BitVec.ofNat 32 a &&& BitVec.ofNat 32 b = BitVec.ofNat 32 (a &&& b)
  apply BitVec.eq_of_getLsbD_eq
  intro i hi
  simp [hi]
theorem nx_xor (a b : Nat) : nI a ^^^ nI b = nI (a ^^^ b) := by
  apply Int32.toBitVec_inj.1
  show BitVec.ofNat 32 a ^^^ BitVec.ofNat 32 b = BitVec.ofNat 32 (a ^^^ b)
  apply BitVec.eq_of_getLsbD_eq
  intro i hi
  simp [hi]
theorem bt_nI (b : Nat) {i : Nat} (hi : i < 32) : bt (nI b) i = b.testBit i := by
  show (BitVec.ofNat 32 b).getLsbD i = _
  rw [BitVec.getLsbD_ofNat]
  simp [hi]
theorem nx_or (a b : Nat) : nI a ||| nI b = nI (a ||| b) := by
  apply Int32.toBitVec_inj.1
  show BitVec.ofNat 32 a ||| BitVec.ofNat 32 b = BitVec.ofNat 32 (a ||| b)
  apply BitVec.eq_of_getLsbD_eq
  intro i hi
  simp [hi]
def tbit (b i : Nat) : Nat := if b.testBit i then 1 else 0
theorem tbit_le (b i : Nat) : tbit b i ≤ 1 := by
  unfold tbit
  split <;> omega
theorem gw_bit (b : Nat) {i : Nat} (hi : i < 32) : (nI b >>> (nI i &&& 31)) &&& nI 1 = nI (tbit b i) := by
  refine b_ext fun j hj => ?_
  rw [b_and, b_sshr i hi _ hj, bt_nI 1 hj, bt_nI _ hj]
  by_cases h0 : j = 0
  · subst h0
    rw [if_pos (by omega), bt_nI b (by omega)]
    unfold tbit
    by_cases h : b.testBit i <;> simp [h]
  · have e1 : (1 : Nat).testBit j = false := by
      rw [Bool.eq_false_iff]
      exact fun h => h0 (Nat.testBit_one_eq_true_iff_self_eq_zero.mp h)
    have e2 : (tbit b i).testBit j = false := by
      unfold tbit
      by_cases h : b.testBit i <;> simp [h, e1]
    rw [e1, e2, Bool.and_false]
theorem nx_shl (x : Nat) {i : Nat} (hi : i < 32) : nI x <<< (nI i &&& 31) = nI (x <<< i) := by
  refine b_ext fun j hj => ?_
  rw [b_shl i hi _ hj, bt_nI _ hj, Nat.testBit_shiftLeft]
  rcases Nat.lt_or_ge j i with h | h
  · simp [Nat.not_le.mpr h]
  · rw [bt_nI x (by omega)]
section GWC
variable {p : Program} {l : Launch} {e : Env} {R : Room} {s : State} {m : MethodId} {args : Array Value} {below : List Frame} {meth : Method} {c : Code} {H : Heap} {locs : List Loc} {cells slots : Nat} {Q : State → Prop}
variable {cc : ByteArray} {pc : Nat} {ls : Array Slot} {rest : List Value} {G : gw_G} {A : Nat → Prop} {own : String} {nL : Nat} {ret : Option FieldType} {ws ws' : va_W} {a : Nat}
theorem gw_iand {x y : Nat} (C : gw_C p s m args meth c G own cc nL ret) (hdg : decode cc pc = .ok (.iand, 1)) (kk : W p l e R s m args below meth c H locs cells slots Q (F0 m (pc + 1) ls (.int (nI (x &&& y)) :: rest))) : W p l e R s m args below meth c H locs cells slots Q (F0 m pc ls (.int (nI y) :: .int (nI x) :: rest)) :=
  lv_iand C.1 C.2.1 hdg (by rw [nx_and]; exact kk)
theorem gw_ior {x y : Nat} (C : gw_C p s m args meth c G own cc nL ret) (hdg : decode cc pc = .ok (.ior, 1)) (kk : W p l e R s m args below meth c H locs cells slots Q (F0 m (pc + 1) ls (.int (nI (x ||| y)) :: rest))) : W p l e R s m args below meth c H locs cells slots Q (F0 m pc ls (.int (nI y) :: .int (nI x) :: rest)) :=
  lv_ior C.1 C.2.1 hdg (by rw [nx_or]; exact kk)
theorem gw_ixor {x y : Nat} (C : gw_C p s m args meth c G own cc nL ret) (hdg : decode cc pc = .ok (.ixor, 1)) (kk : W p l e R s m args below meth c H locs cells slots Q (F0 m (pc + 1) ls (.int (nI (x ^^^ y)) :: rest))) : W p l e R s m args below meth c H locs cells slots Q (F0 m pc ls (.int (nI y) :: .int (nI x) :: rest)) :=
  lv_ixor C.1 C.2.1 hdg (by rw [nx_xor]; exact kk)
theorem gw_ishl {x y : Nat} (C : gw_C p s m args meth c G own cc nL ret) (hdg : decode cc pc = .ok (.ishl, 1)) (hy : y < 32) (kk : W p l e R s m args below meth c H locs cells slots Q (F0 m (pc + 1) ls (.int (nI (x <<< y)) :: rest))) : W p l e R s m args below meth c H locs cells slots Q (F0 m pc ls (.int (nI y) :: .int (nI x) :: rest)) :=
  lv_ishl C.1 C.2.1 hdg (by rw [nx_shl x hy]; exact kk)
theorem gw_and1 {x y : Nat} (C : gw_C p s m args meth c G own cc nL ret) (hdg : decode cc pc = .ok (.iand, 1)) (hy : y < 32) (kk : W p l e R s m args below meth c H locs cells slots Q (F0 m (pc + 1) ls (.int (nI (tbit x y)) :: rest))) : W p l e R s m args below meth c H locs cells slots Q (F0 m pc ls (.int (nI 1) :: .int (nI x >>> (nI y &&& 31)) :: rest)) :=
  lv_iand C.1 C.2.1 hdg (by rw [gw_bit x hy]; exact kk)
theorem gw_min {x y idx : Nat} (C : gw_C p s m args meth c G own cc nL ret) (hml : ls.size = nL) (t1 : Cond.methodLink own idx Lib.Math.min.name ∈ pf_tb) (t2 : Cond.static Lib.Math.min.name ∈ pf_tb) (t3 : Cond.initialized "java/lang/Math" ∈ pf_tb) (t4 : Cond.code Lib.Math.min.name Lib.Math.min.code 2 (some .int) ∈ pf_tb) (hdg : decode cc pc = .ok (.invokestatic idx, 3)) (hx : x < 2 ^ 31) (hy : y < 2 ^ 31) (hfr : 1 ≤ R.frames) (hlo : (rest.map fun v => v.category).sum + 13 ≤ R.locals) (hc : cells ≤ R.cells) (hs : slots ≤ R.slots)
    (kk : W p l e R s m args below meth c H locs cells slots Q (F0 m (pc + 3) ls (.int (nI (Nat.min x y)) :: rest))) : W p l e R s m args below meth c H locs cells slots Q (F0 m pc ls (.int (nI y) :: .int (nI x) :: rest)) := by
  refine va_mmin C.1 C.2.1 (C.2.2.2.1.trans hml.symm) C.cl (C.ts t1) (C.ts t2) (C.ts t3) (C.ts t4) hfr hlo hc hs hdg ?_
  have e1 : (if nI y < nI x then nI y else nI x) = nI (Nat.min x y) := by
    rcases Nat.lt_or_ge y x with h | h
    · rw [if_pos (nI_lt h hx), show Nat.min x y = y from Nat.min_eq_right (Nat.le_of_lt h)]
    · rw [if_neg (nI_nlt h hy), show Nat.min x y = x from Nat.min_eq_left h]
  rw [e1]
  exact kk
theorem gw_copy {len idx a0 : Nat} {F K : Nat → Nat} (C : gw_C p s m args meth c G own cc nL ret) (Hh : gw_H G A s ws H locs) (hml : ls.size = nL) (t1 : Cond.methodLink own idx arraycopyName ∈ pf_tb) (t2 : Cond.native arraycopyName ∈ pf_tb) (t3 : Cond.static arraycopyName ∈ pf_tb) (t4 : Cond.initialized "java/lang/System" ∈ pf_tb) (k0 k1 : Nat)
    (h0 : ws[k0]? = some (a0, .inl (G.2.1, len, .inl (fun j => nI (F j))))) (h1 : ws[k1]? = some (a, .inl (G.2.1, len, .inl (fun j => nI (K j))))) (hlen : len < 2 ^ 31) (hs : ws.set k1 (a, .inl (G.2.1, len, .inl (fun j => nI (if j < len then F j else K j)))) = ws') (hfr : 1 ≤ R.frames) (hlo : (rest.map fun v => v.category).sum + (nativeFrameWords "java/lang/System" "arraycopy" 5 + 11) ≤ R.locals) (hdg : decode cc pc = .ok (.invokestatic idx, 3))
    (kk : ∀ (H1 : Heap) (locs1 : List Loc), gw_H G A s ws' H1 locs1 → W p l e R s m args below meth c H1 locs1 cells slots Q (F0 m (pc + 3) ls rest)) : W p l e R s m args below meth c H locs cells slots Q (F0 m pc ls (.int (nI len) :: .int (nI 0) :: .ref a :: .int (nI 0) :: .ref a0 :: rest)) := by
  have z0 : (nI 0).toNatClampNeg = 0 := nI_clamp (by decide)
  have zl : (nI len).toNatClampNeg = len := nI_clamp hlen
  refine va_copyi (ty := .int) C.1 C.2.1 (C.2.2.2.1.trans hml.symm) C.cl (C.ts t1) (C.ts t2) (C.ts t3) (C.ts t4) C.K Hh.1 Hh.2.1 Hh.2.2.1 k0 k1 0 0 h0 h1 rfl rfl rfl (nI_pos (by decide)) (nI_pos (by decide)) (nI_pos hlen) (by rw [z0, zl]; omega) (by rw [z0, zl]; omega) (fun i _ => rfl) hfr hlo hdg (fun H1 locs1 hP hD hS => ?_)
  have e1 : va_cpy (fun j => nI (F j)) (fun j => nI (K j)) (nI 0).toNatClampNeg (nI 0).toNatClampNeg (nI len).toNatClampNeg = fun j => nI (if j < len then F j else K j) := by
    rw [z0, zl]
    funext j
    unfold va_cpy
    by_cases h : j < len
    · rw [if_pos ⟨Nat.zero_le _, by omega⟩, if_pos h, Nat.zero_add, Nat.sub_zero]
    · rw [if_neg (fun q => h (by omega)), if_neg h]
  rw [e1, hs] at hP hD
  exact kk H1 locs1 ⟨hP, hD, hS, Hh.2.2.2⟩
end GWC
def upA (f : Nat → Nat → Nat) (k : Nat) (g : Nat → Nat) : Nat → Nat → Nat := fun a b => if a = k then g b else f a b
section WRC
variable {G : gw_G} {q : Nat → Nat} {u : pf_S} {g : Nat → Nat}
theorem pw_cpy21 : (pw G q u).set 21 (q 21, .inl (G.2.1, 10, .inl (fun j => nI (g j)))) = pw G q (u.1, upA u.2 21 g) := rfl
theorem pw_cpy22 : (pw G q u).set 22 (q 22, .inl (G.2.1, 310, .inl (fun j => nI (g j)))) = pw G q (u.1, upA u.2 22 g) := rfl
theorem pw_cpy24 : (pw G q u).set 24 (q 24, .inl (G.2.1, 10, .inl (fun j => nI (g j)))) = pw G q (u.1, upA u.2 24 g) := rfl
theorem pw_cpy25 : (pw G q u).set 25 (q 25, .inl (G.2.1, 310, .inl (fun j => nI (g j)))) = pw G q (u.1, upA u.2 25 g) := rfl
end WRC
