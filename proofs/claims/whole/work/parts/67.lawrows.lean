/-! the law: calls out of the world of all -/
theorem pif_mx {p1 : Prop} {a b n : Nat} (ha : a ≤ n) (hb : b ≤ n) : pif p1 a b ≤ n := by
  by_cases q : p1
  · rw [pif_pos q]; exact ha
  · rw [pif_neg q]; exact hb
theorem cdA_le {u : pf_S} {x y z : Int32} : cdA u x y z ≤ 3 := pif_mx (pif_mx (by decide) (pif_mx (by decide) (by decide))) (by decide)
theorem cdC_le {u : pf_S} {x y z : Int32} : cdC u x y z ≤ 3 := pif_mx (pif_mx (pif_mx (by decide) (by decide)) (by decide)) (by decide)
theorem cdS_le {u : pf_S} {x y : Int32} : cdS u x y ≤ 3 := pif_mx (pif_mx (by decide) (by decide)) (by decide)
theorem cdL_le {x y : Int32} : cdL x y ≤ 3 := pif_mx (by decide) (by decide)
theorem cdI_le {u : pf_S} {x y : Int32} {b : Nat} : cdI u x y b ≤ 3 := pif_mx (pif_mx (by decide) (by decide)) (by decide)
theorem cdK_le {u : pf_S} {x y z : Int32} : cdK u x y z ≤ 3 := pif_mx (pif_mx (by decide) (pif_mx (by decide) (by decide))) (by decide)
theorem cdO_le {u : pf_S} {x y z w : Int32} : cdO u x y z w ≤ 3 := pif_mx (pif_mx (by decide) (by decide)) (by decide)
theorem cdX_le {u : pf_S} {x : Int32} : cdX u x ≤ 3 := pif_mx (pif_mx (by decide) (by decide)) (by decide)
theorem cdP_le {x y : Int32} : cdP x y ≤ 3 := pif_mx (by decide) (by decide)
theorem cdH_le {u : pf_S} {x y : Int32} : cdH u x y ≤ 3 := pif_mx (pif_mx (by decide) (by decide)) (by decide)
theorem cdB_le {u : pf_S} {x y z : Int32} : cdB u x y z ≤ 3 := pif_mx (pif_mx (by decide) (by decide)) (by decide)
theorem cdF_le {u : pf_S} {x y z : Int32} : cdF u x y z ≤ 3 := pif_mx (pif_mx (pif_mx (by decide) (by decide)) (by decide)) (by decide)
theorem cdN_le {n : Nat} {x : Int32} : cdN n x ≤ 3 := pif_mx (by decide) (by decide)
/-- what the class's helper and the reference say, joined -/
theorem jn {K k k' d d' : Nat} {u u1 : pf_S} {v v1 : md_S} {f1 : Nat → Int} {PC Q : Prop} (hR : Rl u v) (hcd : d = d') (h1 : K = d ∧ ((K = 0 ∧ PC ∧ f1 0 = (nI k).toInt) ∨ (K ≠ 0 ∧ u1 = u))) (h2 : rp d' v v1 Q) (st : PC → Q → k = k' ∧ Rl u1 v1) : v1.1 0 = K ∧ Rl u1 v1 ∧ (K = 0 → f1 0 = (nI k').toInt) := by
  obtain ⟨hK, h1⟩ := h1
  rcases h2 with ⟨g1, g2⟩ | ⟨g1, g2, g3⟩
  · rcases h1 with ⟨k1, -⟩ | ⟨k1, k2⟩
    · omega
    · rw [g2, k2]
      refine ⟨?_, Rl_code hR d', fun h => absurd h k1⟩
      show d' = K
      omega
  · rcases h1 with ⟨k1, k2, k3⟩ | ⟨k1, -⟩
    · obtain ⟨e1, e2⟩ := st k2 g3
      exact ⟨by omega, e2, fun _ => by rw [k3, e1]⟩
    · omega
theorem lg_self {x y : Int64} (h : x = y) : lg_cmp x y = 0 := by
  subst h
  simp [lg_cmp]
def LW (G : gw_G) (q q2 : Nat → Nat) (o : Nat) (u : pf_S) (f : Nat → Int) (v : md_S) : va_W := hw G q o (u, f) ++ mw G q2 v
section LLA
variable {p : Program} {l : Launch} {e : Env} {R : Room} {s : State} {m : MethodId} {args : Array Value} {below : List Frame} {meth : Method} {c : Code} {H : Heap} {locs : List Loc} {cells slots : Nat} {Q : State → Prop}
variable {cc : ByteArray} {pc : Nat} {ls : Array Slot} {rest : List Value} {G : gw_G} {A : Nat → Prop} {own : String} {nL : Nat} {ret : Option FieldType} {q q2 : Nat → Nat} {o : Nat} {u : pf_S} {v : md_S} {f : Nat → Int} {ws : va_W}
theorem ll_ld {b L j : Nat} {xs : Nat → Int32} (C : gw_C p s m args meth c G own cc nL ret) (Hh : gw_H G A s ws H locs) (hX : va_X b L xs s s.heap) (hbl : b < s.heap.size) (hbA : ¬ A b) (hL : L < 2 ^ 31) (hj : j < L) (hdg : decode cc pc = .ok (.iaload, 1))
    (kk : W p l e R s m args below meth c H locs cells slots Q (F0 m (pc + 1) ls (.int (xs j) :: rest))) : W p l e R s m args below meth c H locs cells slots Q (F0 m pc ls (.int (nI j) :: .ref b :: rest)) := by
  refine va_sld C.1 C.2.1 hX hbl hbA Hh.2.2.1 (vp_in_nI hj hL) hdg ?_
  rw [nI_clamp (Nat.lt_trans hj hL)]
  exact kk
theorem ll_goodS {y : MethodName} {idx : Nat} {ws : List Cond} (h1 : Cond.methodLink own idx y ∈ pf_tb) (h2 : Cond.static y ∈ pf_tb) (h4 : Cond.initialized y.cls ∈ pf_tb) (hg : GoodIn pf_tb ws) : GoodIn pf_tb (va_wsS own idx y ws) := by
  intro w hw
  unfold va_wsS at hw
  have g : ∀ w, w ∈ pf_tb → w ∈ pf_tb ∧ ((w.onTables && w.keeps) = true ∨ ∃ ty, w = .arrayClass ty) := fun w h => ⟨h, good_of_word (List.mem_filter.mp h).2⟩
  simp only [List.cons_append, List.nil_append, List.mem_cons] at hw
  rcases hw with rfl | rfl | rfl | hw
  · exact g _ h1
  · exact g _ h2
  · exact g _ h4
  · exact hg w hw
theorem ll_goodW {y : MethodName} {c1 : ByteArray} {mL : Nat} {r1 : Option FieldType} {hh : List (Nat × Nat × Nat × Nat)} (h : Cond.codeWith y c1 mL r1 hh ∈ pf_tb) : GoodIn pf_tb (Cond.codeWith y c1 mL r1 hh :: pf_tb) := by
  intro w hw
  rcases List.mem_cons.mp hw with rfl | hw
  · exact ⟨h, good_of_word (List.mem_filter.mp h).2⟩
  · exact ⟨hw, good_of_word (List.mem_filter.mp hw).2⟩
theorem hx_blind {argv : List Value} {sz : Nat} : FrameBlind (va_Pc argv (hx_pre G ws sz)) := fun a U g mk h => by
  obtain ⟨h0, h1, h2⟩ := h
  obtain ⟨k0, k1⟩ := gx_blind (argv := argv) (G := G) (ws := ws) (sz := sz) a U g mk ⟨h0, h1⟩
  exact ⟨k0, k1, hx_N_moved (u := U) (U := U.calling g mk a) (Vm.Alike.refl U.vm) h2⟩
/-- a helper of the law -/
theorem ll_help {y : MethodName} {c1 : ByteArray} {mL fr lo idx n : Nat} {hh : List (Nat × Nat × Nat × Nat)} {post : Int32 → pf_S × (Nat → Int) → Prop} (As : List Value) (C : gw_C p s m args meth c G own cc nL ret) (X : gx_C s A) (N : hx_N s) (Hh : gw_H G A s (LW G q q2 o u f v) H locs) (hM : hx_M l y c1 mL hh fr lo As G q o (u, f) post)
    (t1 : Cond.methodLink own idx y ∈ pf_tb) (t2 : Cond.static y ∈ pf_tb) (t4 : Cond.initialized y.cls ∈ pf_tb) (t5 : Cond.codeWith y c1 mL (some .int) hh ∈ pf_tb)
    (hd : y.cls ≠ "java/lang/invoke/MethodHandle" ∧ y.cls ≠ "java/lang/invoke/VarHandle" ∧ (parseMethodDescriptor y.desc).map (fun d => d.parameters.length) = some n) (hR : fr + 1 ≤ R.frames ∧ 8 + (mL + 11) + lo ≤ R.locals)
    (hn : As.length = n) (hls : ls.size = nL) (hst : (rest.map fun v => v.category).sum ≤ 8) (hdg : decode cc pc = .ok (.invokestatic idx, 3)) (h0 : cells + 1 ≤ R.cells ∧ slots + 6 ≤ R.slots)
    (kk : ∀ (r : Int32) (u1 : pf_S) (f1 : Nat → Int) (H1 : Heap) (locs1 : List Loc), post r (u1, f1) → gw_H G A s (LW G q q2 o u1 f1 v) H1 locs1 → W p l e R s m args below meth c H1 locs1 (cells + 1) (slots + 6) Q (F0 m (pc + 3) ls (.int r :: rest))) : W p l e R s m args below meth c H locs cells slots Q (F0 m pc ls (As.reverse ++ rest)) := by
  have Hs : gw_H G A s (hw G q o (u, f)) H locs := gn_perm [0, 1, 2, 3, 4, 5, 6, 7, 8, 9, 10, 11, 12, 13, 14, 15, 16, 17, 18, 19, 20, 21, 22, 23, 24, 25, 26, 27, 28, 29] Hh rfl rfl rfl
  refine va_calli (vx_runSW (As := As) (rest := rest) ⟨C.1, C.2.1, C.2.2.2.1, C.cl, C.2.2.2.2.2.1⟩ (hM H.size) (vx_cwSW n C.2.2.2.2.2.1 (ll_goodS t1 t2 t4 (ll_goodW t5)) rfl rfl rfl hd hR) ⟨hx_blind, fun U hU hW => ⟨rfl, (gx_give C X Hs (argv := As) U hU hW).2, hx_N_moved hW.alike N⟩⟩ rfl hn hls rfl (lv_room hst) hdg h0) Hh.2.2.1 (fun z _ h => gw_free Hs z h) (gw_free Hs) (fun r x1 t H1 locs1 ht hvm hw0 hB hz hk hS => ?_)
  obtain ⟨u1, f1⟩ := x1
  obtain ⟨hP1, hK1, hD1⟩ := hB
  rw [ht] at hP1
  obtain ⟨hP, hD⟩ := va_join (wr := mw G q2 v) (wc := hw G q o (u, f)) (w1 := hw G q o (u1, f1)) Hh.1 Hh.2.1 [0, 1, 2, 3, 4, 5, 6, 7, 8, 9, 10, 11, 12, 13, 14, 15, 16, 17, 18, 19, 20, 21, 22, 23, 24, 25, 26, 27, 28, 29] [30, 31, 32, 33, 34, 35, 36, 37, 38, 39, 40, 41, 42, 43, 44, 45, 46, 47, 48, 49, 50, 51, 52, 53, 54] rfl rfl rfl (by decide) hk (gw_free Hs) hP1 hD1
  exact kk r u1 f1 H1 locs1 hw0 (gn_perm (ws := mw G q2 v ++ hw G q o (u1, f1)) (ws' := LW G q q2 o u1 f1 v) [25, 26, 27, 28, 29, 30, 31, 32, 33, 34, 35, 36, 37, 38, 39, 40, 41, 42, 43, 44, 45, 46, 47, 48, 49, 50, 51, 52, 53, 54, 0, 1, 2, 3, 4, 5, 6, 7, 8, 9, 10, 11, 12, 13, 14, 15, 16, 17, 18, 19, 20, 21, 22, 23, 24] ⟨hP, hD, hS, Hh.2.2.2⟩ rfl rfl rfl)
/-- a method of the reference -/
theorem ll_mod {y : MethodName} {c1 : ByteArray} {mL fr lo idx n : Nat} {r1 : Option FieldType} {post : Int32 → md_S → Prop} (As : List Value) (C : gw_C p s m args meth c G own cc nL ret) (Hh : gw_H G A s (LW G q q2 o u f v) H locs) (hM : gw_MI l y c1 mL r1 fr lo (.ref (q2 0) :: As) G (mw G q2) v post)
    (t1 : Cond.methodLink own idx y ∈ pf_tb) (t2 : Cond.instanceMethod y ∈ pf_tb) (t3 : Cond.selects RX5 y y ∈ pf_tb) (t4 : Cond.initialized RX5 ∈ pf_tb) (t5 : Cond.code y c1 mL r1 ∈ pf_tb)
    (hd : y.cls = RX5 ∧ y.cls ≠ "java/lang/invoke/MethodHandle" ∧ y.cls ≠ "java/lang/invoke/VarHandle" ∧ (parseMethodDescriptor y.desc).map (fun d => d.parameters.length) = some n) (hR : fr + 1 ≤ R.frames ∧ 8 + (mL + 11) + lo ≤ R.locals)
    (hn : As.length = n) (hls : ls.size = nL) (hst : (rest.map fun v => v.category).sum ≤ 8) (hdg : decode cc pc = .ok (.invokevirtual idx, 3)) (h0 : cells ≤ R.cells ∧ slots ≤ R.slots)
    (kk : ∀ (r : Int32) (v1 : md_S) (H1 : Heap) (locs1 : List Loc), post r v1 → gw_H G A s (LW G q q2 o u f v1) H1 locs1 → W p l e R s m args below meth c H1 locs1 cells slots Q (F0 m (pc + 3) ls (.int r :: rest))) : W p l e R s m args below meth c H locs cells slots Q (F0 m pc ls (As.reverse ++ .ref (q2 0) :: rest)) := by
  have Hs : gw_H G A s (mw G q2 v) H locs := gn_perm [30, 31, 32, 33, 34, 35, 36, 37, 38, 39, 40, 41, 42, 43, 44, 45, 46, 47, 48, 49, 50, 51, 52, 53, 54] Hh rfl rfl rfl
  refine va_calli (gw_runV As C Hs (hM H.size) t1 t2 t3 t4 t5 hd hR 0 mw_at0 rfl hn hls hst hdg h0) Hh.2.2.1 (fun z _ h => gw_free Hs z h) (gw_free Hs) (fun r v1 t H1 locs1 ht hvm hw0 hB hz hk hS => ?_)
  obtain ⟨hP1, hK1, hD1⟩ := hB
  rw [ht] at hP1
  obtain ⟨hP, hD⟩ := va_join (wr := hw G q o (u, f)) (wc := mw G q2 v) (w1 := mw G q2 v1) Hh.1 Hh.2.1 [30, 31, 32, 33, 34, 35, 36, 37, 38, 39, 40, 41, 42, 43, 44, 45, 46, 47, 48, 49, 50, 51, 52, 53, 54] [0, 1, 2, 3, 4, 5, 6, 7, 8, 9, 10, 11, 12, 13, 14, 15, 16, 17, 18, 19, 20, 21, 22, 23, 24, 25, 26, 27, 28, 29] rfl rfl rfl (by decide) hk (gw_free Hs) hP1 hD1
  exact kk r v1 H1 locs1 hw0 ⟨hP, hD, hS, Hh.2.2.2⟩
/-- a method of the class that doesn't throw -/
theorem ll_cls {y : MethodName} {c1 : ByteArray} {mL fr lo idx n : Nat} {r1 : Option FieldType} {post : Int32 → pf_S → Prop} (As : List Value) (C : gw_C p s m args meth c G own cc nL ret) (Hh : gw_H G A s (LW G q q2 o u f v) H locs) (hM : gw_MI l y c1 mL r1 fr lo (.ref (q 0) :: As) G (pw G q) u post)
    (t1 : Cond.methodLink own idx y ∈ pf_tb) (t2 : Cond.instanceMethod y ∈ pf_tb) (t3 : Cond.selects RX4 y y ∈ pf_tb) (t4 : Cond.initialized RX4 ∈ pf_tb) (t5 : Cond.code y c1 mL r1 ∈ pf_tb)
    (hd : y.cls = RX4 ∧ y.cls ≠ "java/lang/invoke/MethodHandle" ∧ y.cls ≠ "java/lang/invoke/VarHandle" ∧ (parseMethodDescriptor y.desc).map (fun d => d.parameters.length) = some n) (hR : fr + 1 ≤ R.frames ∧ 8 + (mL + 11) + lo ≤ R.locals)
    (hn : As.length = n) (hls : ls.size = nL) (hst : (rest.map fun v => v.category).sum ≤ 8) (hdg : decode cc pc = .ok (.invokevirtual idx, 3)) (h0 : cells ≤ R.cells ∧ slots ≤ R.slots)
    (kk : ∀ (r : Int32) (u1 : pf_S) (H1 : Heap) (locs1 : List Loc), post r u1 → gw_H G A s (LW G q q2 o u1 f v) H1 locs1 → W p l e R s m args below meth c H1 locs1 cells slots Q (F0 m (pc + 3) ls (.int r :: rest))) : W p l e R s m args below meth c H locs cells slots Q (F0 m pc ls (As.reverse ++ .ref (q 0) :: rest)) := by
  have Hs : gw_H G A s (pw G q u) H locs := gn_perm [1, 2, 3, 4, 5, 6, 7, 8, 9, 10, 11, 12, 13, 14, 15, 16, 17, 18, 19, 20, 21, 22, 23, 24, 25, 26, 27, 28, 29] Hh rfl rfl rfl
  refine va_calli (gw_runV As C Hs (hM H.size) t1 t2 t3 t4 t5 hd hR 0 pw_at0 rfl hn hls hst hdg h0) Hh.2.2.1 (fun z _ h => gw_free Hs z h) (gw_free Hs) (fun r u1 t H1 locs1 ht hvm hw0 hB hz hk hS => ?_)
  obtain ⟨hP1, hK1, hD1⟩ := hB
  rw [ht] at hP1
  obtain ⟨hP, hD⟩ := va_join (wr := (o, .inl (G.2.2.2, 1, .inr (.inl (fun j => Int64.ofInt (f j))))) :: mw G q2 v) (wc := pw G q u) (w1 := pw G q u1) Hh.1 Hh.2.1 [1, 2, 3, 4, 5, 6, 7, 8, 9, 10, 11, 12, 13, 14, 15, 16, 17, 18, 19, 20, 21, 22, 23, 24, 25, 26, 27, 28, 29] [0, 30, 31, 32, 33, 34, 35, 36, 37, 38, 39, 40, 41, 42, 43, 44, 45, 46, 47, 48, 49, 50, 51, 52, 53, 54] rfl rfl rfl (by decide) hk (gw_free Hs) hP1 hD1
  exact kk r u1 H1 locs1 hw0 (gn_perm (ws := ((o, .inl (G.2.2.2, 1, .inr (.inl (fun j => Int64.ofInt (f j))))) :: mw G q2 v) ++ pw G q u1) (ws' := LW G q q2 o u1 f v) [0, 26, 27, 28, 29, 30, 31, 32, 33, 34, 35, 36, 37, 38, 39, 40, 41, 42, 43, 44, 45, 46, 47, 48, 49, 50, 51, 52, 53, 54, 1, 2, 3, 4, 5, 6, 7, 8, 9, 10, 11, 12, 13, 14, 15, 16, 17, 18, 19, 20, 21, 22, 23, 24, 25] ⟨hP, hD, hS, Hh.2.2.2⟩ rfl rfl rfl)
end LLA
