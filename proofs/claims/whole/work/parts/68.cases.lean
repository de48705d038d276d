/-! the law, case by case -/
theorem law_arrival {p : Program} {l : Launch} {e : Env} {s : State} {m : MethodId} {args : Array Value} {below : List Frame} {meth : Method} {c : Code} {H : Heap} {locs : List Loc} {cells slots : Nat} {Q : State → Prop} {ls : Array Slot} {G : gw_G} {A : Nat → Prop} {q q2 : Nat → Nat} {o b L i : Nat} {u : pf_S} {v : md_S} {f : Nat → Int} {xs : Nat → Int32} {ret : Option FieldType}
    (hst9 : l.stackTraces = false) (C : gw_C p s m args meth c G RL cL_law 7 ret) (X : gx_C s A) (N : hx_N s) (hX : va_X b L xs s s.heap) (hbl : b < s.heap.size) (hbA : ¬ A b) (hL : L < 2 ^ 31) (hi : i + 5 ≤ L) (hR : Rl u v) (Hh : gw_H G A s (LW G q q2 o u f v) H locs) (hl : lv_has ls 7 [(4, .int (nI i)), (0, .ref b), (1, .ref (q 0)), (2, .ref (q2 0)), (3, .ref o)]) (h0 : cells + 1 ≤ 1095 ∧ slots + 6 ≤ 11558)
    (kk : ∀ (u1 : pf_S) (v1 : md_S) (f1 : Nat → Int) (H1 : Heap) (locs1 : List Loc) (ls1 : Array Slot), Rl u1 v1 → gw_H G A s (LW G q q2 o u1 f1 v1) H1 locs1 → lv_has ls1 7 [(4, .int (nI i)), (0, .ref b), (1, .ref (q 0)), (2, .ref (q2 0)), (3, .ref o)] → W p l e room_1 s m args below meth c H1 locs1 (cells + 1) (slots + 6) Q (F0 m 1165 ls1 [])) : W p l e room_1 s m args below meth c H locs cells slots Q (F0 m 112 ls []) := by
  refine lv_aload_n C.1 C.2.1 dL_law_112 rfl (lv_at hl 2 rfl) ?_
  refine lv_aload_n C.1 C.2.1 dL_law_113 rfl (lv_at hl 1 rfl) ?_
  refine lv_iload C.1 C.2.1 dL_law_114 (lv_at hl 0 rfl) ?_
  refine lv_iconst (v := nI 1) C.1 C.2.1 dL_law_116 (by decide +kernel) ?_
  refine gw_iadd C dL_law_117 ?_
  refine ll_ld C Hh hX hbl hbA hL (by omega) dL_law_118 ?_
  refine lv_aload_n C.1 C.2.1 dL_law_119 rfl (lv_at hl 1 rfl) ?_
  refine lv_iload C.1 C.2.1 dL_law_120 (lv_at hl 0 rfl) ?_
  refine lv_iconst (v := nI 2) C.1 C.2.1 dL_law_122 (by decide +kernel) ?_
  refine gw_iadd C dL_law_123 ?_
  refine ll_ld C Hh hX hbl hbA hL (by omega) dL_law_124 ?_
  refine lv_aload_n C.1 C.2.1 dL_law_125 rfl (lv_at hl 1 rfl) ?_
  refine lv_iload C.1 C.2.1 dL_law_126 (lv_at hl 0 rfl) ?_
  refine lv_iconst (v := nI 3) C.1 C.2.1 dL_law_128 (by decide +kernel) ?_
  refine gw_iadd C dL_law_129 ?_
  refine ll_ld C Hh hX hbl hbA hL (by omega) dL_law_130 ?_
  refine lv_aload_n C.1 C.2.1 dL_law_131 rfl (lv_at hl 4 rfl) ?_
  refine ll_help (n := 5) (rest := []) [.ref (q 0), .int (xs (i + 1)), .int (xs (i + 2)), .int (xs (i + 3)), .ref o] C X N Hh (c_L_arrival l G q o u f (xs (i + 1)) (xs (i + 2)) (xs (i + 3)) hst9 hR.1) tw_271 tw_272 tw_65 tw_273 (by decide +kernel) ⟨Nat.le_of_ble_eq_true rfl, Nat.le_of_ble_eq_true rfl⟩ rfl hl.1 (Nat.le_of_ble_eq_true rfl) dL_law_132 h0 (fun r u1 f1 H locs hp Hh => ?_)
  obtain ⟨K, k, rfl, hK⟩ := hp
  refine lv_istore (lv' := [(5, .int (nI K)), (4, .int (nI i)), (0, .ref b), (1, .ref (q 0)), (2, .ref (q2 0)), (3, .ref o)]) C.1 C.2.1 dL_law_135 hl (by decide) rfl (fun ls hl => ?_)
  refine lv_aload_n C.1 C.2.1 dL_law_137 rfl (lv_at hl 4 rfl) ?_
  refine lv_aload_n C.1 C.2.1 dL_law_138 rfl (lv_at hl 2 rfl) ?_
  refine lv_iload C.1 C.2.1 dL_law_139 (lv_at hl 1 rfl) ?_
  refine lv_iconst (v := nI 1) C.1 C.2.1 dL_law_141 (by decide +kernel) ?_
  refine gw_iadd C dL_law_142 ?_
  refine ll_ld C Hh hX hbl hbA hL (by omega) dL_law_143 ?_
  refine lv_aload_n C.1 C.2.1 dL_law_144 rfl (lv_at hl 2 rfl) ?_
  refine lv_iload C.1 C.2.1 dL_law_145 (lv_at hl 1 rfl) ?_
  refine lv_iconst (v := nI 2) C.1 C.2.1 dL_law_147 (by decide +kernel) ?_
  refine gw_iadd C dL_law_148 ?_
  refine ll_ld C Hh hX hbl hbA hL (by omega) dL_law_149 ?_
  refine lv_aload_n C.1 C.2.1 dL_law_150 rfl (lv_at hl 2 rfl) ?_
  refine lv_iload C.1 C.2.1 dL_law_151 (lv_at hl 1 rfl) ?_
  refine lv_iconst (v := nI 3) C.1 C.2.1 dL_law_153 (by decide +kernel) ?_
  refine gw_iadd C dL_law_154 ?_
  refine ll_ld C Hh hX hbl hbA hL (by omega) dL_law_155 ?_
  refine ll_mod (n := 3) (rest := []) [.int (xs (i + 1)), .int (xs (i + 2)), .int (xs (i + 3))] C Hh (c_X5_arrival l G q2 v (xs (i + 1)) (xs (i + 2)) (xs (i + 3)) hR.2.1) tw_816 tw_817 tw_818 tw_71 tw_819 (by decide +kernel) ⟨Nat.le_of_ble_eq_true rfl, Nat.le_of_ble_eq_true rfl⟩ rfl hl.1 (Nat.le_of_ble_eq_true rfl) dL_law_156 ⟨h0.1, h0.2⟩ (fun r v1 H locs hp Hh => ?_)
  obtain ⟨k', rfl, hQ⟩ := hp
  obtain ⟨j1, j2, j3⟩ := jn (k' := k') hR (cdA_dt hR.2.2.1 _ _ _) hK hQ (fun hp hq => sA hR hp.1 hp.2.1 hp.2.2 hq.1 hq.2)
  have j4 : K ≤ 3 := by rw [hK.1]; exact cdA_le
  refine lv_istore (lv' := [(6, .int (nI k')), (5, .int (nI K)), (4, .int (nI i)), (0, .ref b), (1, .ref (q 0)), (2, .ref (q2 0)), (3, .ref o)]) C.1 C.2.1 dL_law_159 hl (by decide) rfl (fun ls hl => ?_)
  refine lv_aload_n C.1 C.2.1 dL_law_161 rfl (lv_at hl 5 rfl) ?_
  refine ll_mod (n := 0) (rest := []) [] C Hh (c_X5_thrown l G q2 v1) tw_812 tw_813 tw_814 tw_71 tw_815 (by decide +kernel) ⟨Nat.le_of_ble_eq_true rfl, Nat.le_of_ble_eq_true rfl⟩ rfl hl.1 (Nat.le_of_ble_eq_true rfl) dL_law_162 ⟨h0.1, h0.2⟩ (fun r v2 H locs hp Hh => ?_)
  obtain ⟨k2, rfl, hk2, hv2⟩ := hp
  rw [hv2] at Hh
  rw [j1] at hk2
  subst hk2
  refine lv_iload C.1 C.2.1 dL_law_165 (lv_at hl 1 rfl) ?_
  refine gw_icmp_eq (tgt := 172) C dL_law_167 (by decide) (by omega) (by omega) (fun _ => ?_) (fun h9 => absurd rfl h9)
  refine lv_iload C.1 C.2.1 dL_law_172 (lv_at hl 1 rfl) ?_
  have hg : W p l e room_1 s m args below meth c H locs (cells + 1) (slots + 6) Q (F0 m 189 ls []) := by
    refine lv_goto (tgt := 1165) C.1 C.2.1 dL_law_189 (by decide) ?_
    exact kk u1 v1 f1 H locs ls j2 Hh (lv_sub hl [2, 3, 4, 5, 6] rfl)
  refine gw_if_ne (tgt := 189) C dL_law_174 (by decide) (by omega) (fun _ => hg) (fun hK0 => ?_)
  refine lv_aload_n C.1 C.2.1 dL_law_177 rfl (lv_at hl 6 rfl) ?_
  refine lv_iconst (v := nI 0) C.1 C.2.1 dL_law_178 (by decide +kernel) ?_
  refine gw_lld (x := 0) (len := 1) (F := f1) C Hh 0 rfl (by decide) dL_law_179 (by decide) ?_
  refine lv_iload C.1 C.2.1 dL_law_180 (lv_at hl 0 rfl) ?_
  refine lv_i2l C.1 C.2.1 dL_law_182 (lg_i2lx (nI k')) ?_
  refine W.lcmp C.1 C.2.1 dL_law_183 ?_
  exact lv_if_eq (tgt := 189) C.1 C.2.1 dL_law_184 (by decide) (fun _ => hg) (fun h9 => absurd (lg_self (congrArg Int64.ofInt (j3 hK0))) h9)
theorem law_change {p : Program} {l : Launch} {e : Env} {s : State} {m : MethodId} {args : Array Value} {below : List Frame} {meth : Method} {c : Code} {H : Heap} {locs : List Loc} {cells slots : Nat} {Q : State → Prop} {ls : Array Slot} {G : gw_G} {A : Nat → Prop} {q q2 : Nat → Nat} {o b L i : Nat} {u : pf_S} {v : md_S} {f : Nat → Int} {xs : Nat → Int32} {ret : Option FieldType}
    (hst9 : l.stackTraces = false) (C : gw_C p s m args meth c G RL cL_law 7 ret) (X : gx_C s A) (N : hx_N s) (hX : va_X b L xs s s.heap) (hbl : b < s.heap.size) (hbA : ¬ A b) (hL : L < 2 ^ 31) (hi : i + 5 ≤ L) (hR : Rl u v) (Hh : gw_H G A s (LW G q q2 o u f v) H locs) (hl : lv_has ls 7 [(4, .int (nI i)), (0, .ref b), (1, .ref (q 0)), (2, .ref (q2 0)), (3, .ref o)]) (h0 : cells + 1 ≤ 1095 ∧ slots + 6 ≤ 11558)
    (kk : ∀ (u1 : pf_S) (v1 : md_S) (f1 : Nat → Int) (H1 : Heap) (locs1 : List Loc) (ls1 : Array Slot), Rl u1 v1 → gw_H G A s (LW G q q2 o u1 f1 v1) H1 locs1 → lv_has ls1 7 [(4, .int (nI i)), (0, .ref b), (1, .ref (q 0)), (2, .ref (q2 0)), (3, .ref o)] → W p l e room_1 s m args below meth c H1 locs1 (cells + 1) (slots + 6) Q (F0 m 1165 ls1 [])) : W p l e room_1 s m args below meth c H locs cells slots Q (F0 m 192 ls []) := by
  refine lv_aload_n C.1 C.2.1 dL_law_192 rfl (lv_at hl 2 rfl) ?_
  refine lv_aload_n C.1 C.2.1 dL_law_193 rfl (lv_at hl 1 rfl) ?_
  refine lv_iload C.1 C.2.1 dL_law_194 (lv_at hl 0 rfl) ?_
  refine lv_iconst (v := nI 1) C.1 C.2.1 dL_law_196 (by decide +kernel) ?_
  refine gw_iadd C dL_law_197 ?_
  refine ll_ld C Hh hX hbl hbA hL (by omega) dL_law_198 ?_
  refine lv_aload_n C.1 C.2.1 dL_law_199 rfl (lv_at hl 1 rfl) ?_
  refine lv_iload C.1 C.2.1 dL_law_200 (lv_at hl 0 rfl) ?_
  refine lv_iconst (v := nI 2) C.1 C.2.1 dL_law_202 (by decide +kernel) ?_
  refine gw_iadd C dL_law_203 ?_
  refine ll_ld C Hh hX hbl hbA hL (by omega) dL_law_204 ?_
  refine lv_aload_n C.1 C.2.1 dL_law_205 rfl (lv_at hl 1 rfl) ?_
  refine lv_iload C.1 C.2.1 dL_law_206 (lv_at hl 0 rfl) ?_
  refine lv_iconst (v := nI 3) C.1 C.2.1 dL_law_208 (by decide +kernel) ?_
  refine gw_iadd C dL_law_209 ?_
  refine ll_ld C Hh hX hbl hbA hL (by omega) dL_law_210 ?_
  refine lv_aload_n C.1 C.2.1 dL_law_211 rfl (lv_at hl 4 rfl) ?_
  refine ll_help (n := 5) (rest := []) [.ref (q 0), .int (xs (i + 1)), .int (xs (i + 2)), .int (xs (i + 3)), .ref o] C X N Hh (c_L_change l G q o u f (xs (i + 1)) (xs (i + 2)) (xs (i + 3)) hst9 hR.1) tw_494 tw_495 tw_65 tw_496 (by decide +kernel) ⟨Nat.le_of_ble_eq_true rfl, Nat.le_of_ble_eq_true rfl⟩ rfl hl.1 (Nat.le_of_ble_eq_true rfl) dL_law_212 h0 (fun r u1 f1 H locs hp Hh => ?_)
  obtain ⟨K, k, rfl, hK⟩ := hp
  refine lv_istore (lv' := [(5, .int (nI K)), (4, .int (nI i)), (0, .ref b), (1, .ref (q 0)), (2, .ref (q2 0)), (3, .ref o)]) C.1 C.2.1 dL_law_215 hl (by decide) rfl (fun ls hl => ?_)
  refine lv_aload_n C.1 C.2.1 dL_law_217 rfl (lv_at hl 4 rfl) ?_
  refine lv_aload_n C.1 C.2.1 dL_law_218 rfl (lv_at hl 2 rfl) ?_
  refine lv_iload C.1 C.2.1 dL_law_219 (lv_at hl 1 rfl) ?_
  refine lv_iconst (v := nI 1) C.1 C.2.1 dL_law_221 (by decide +kernel) ?_
  refine gw_iadd C dL_law_222 ?_
  refine ll_ld C Hh hX hbl hbA hL (by omega) dL_law_223 ?_
  refine lv_aload_n C.1 C.2.1 dL_law_224 rfl (lv_at hl 2 rfl) ?_
  refine lv_iload C.1 C.2.1 dL_law_225 (lv_at hl 1 rfl) ?_
  refine lv_iconst (v := nI 2) C.1 C.2.1 dL_law_227 (by decide +kernel) ?_
  refine gw_iadd C dL_law_228 ?_
  refine ll_ld C Hh hX hbl hbA hL (by omega) dL_law_229 ?_
  refine lv_aload_n C.1 C.2.1 dL_law_230 rfl (lv_at hl 2 rfl) ?_
  refine lv_iload C.1 C.2.1 dL_law_231 (lv_at hl 1 rfl) ?_
  refine lv_iconst (v := nI 3) C.1 C.2.1 dL_law_233 (by decide +kernel) ?_
  refine gw_iadd C dL_law_234 ?_
  refine ll_ld C Hh hX hbl hbA hL (by omega) dL_law_235 ?_
  refine ll_mod (n := 3) (rest := []) [.int (xs (i + 1)), .int (xs (i + 2)), .int (xs (i + 3))] C Hh (c_X5_change l G q2 v (xs (i + 1)) (xs (i + 2)) (xs (i + 3)) hR.2.1) tw_859 tw_860 tw_861 tw_71 tw_862 (by decide +kernel) ⟨Nat.le_of_ble_eq_true rfl, Nat.le_of_ble_eq_true rfl⟩ rfl hl.1 (Nat.le_of_ble_eq_true rfl) dL_law_236 ⟨h0.1, h0.2⟩ (fun r v1 H locs hp Hh => ?_)
  obtain ⟨k', rfl, hQ⟩ := hp
  obtain ⟨j1, j2, j3⟩ := jn (k' := k') hR (cdC_dt hR.2.2.1 _ _ _) hK hQ (fun hp hq => sC hR hp.1 hp.2.1 hp.2.2 hq.1 hq.2)
  have j4 : K ≤ 3 := by rw [hK.1]; exact cdC_le
  refine lv_istore (lv' := [(6, .int (nI k')), (5, .int (nI K)), (4, .int (nI i)), (0, .ref b), (1, .ref (q 0)), (2, .ref (q2 0)), (3, .ref o)]) C.1 C.2.1 dL_law_239 hl (by decide) rfl (fun ls hl => ?_)
  refine lv_aload_n C.1 C.2.1 dL_law_241 rfl (lv_at hl 5 rfl) ?_
  refine ll_mod (n := 0) (rest := []) [] C Hh (c_X5_thrown l G q2 v1) tw_812 tw_813 tw_814 tw_71 tw_815 (by decide +kernel) ⟨Nat.le_of_ble_eq_true rfl, Nat.le_of_ble_eq_true rfl⟩ rfl hl.1 (Nat.le_of_ble_eq_true rfl) dL_law_242 ⟨h0.1, h0.2⟩ (fun r v2 H locs hp Hh => ?_)
  obtain ⟨k2, rfl, hk2, hv2⟩ := hp
  rw [hv2] at Hh
  rw [j1] at hk2
  subst hk2
  refine lv_iload C.1 C.2.1 dL_law_245 (lv_at hl 1 rfl) ?_
  refine gw_icmp_eq (tgt := 252) C dL_law_247 (by decide) (by omega) (by omega) (fun _ => ?_) (fun h9 => absurd rfl h9)
  refine lv_iload C.1 C.2.1 dL_law_252 (lv_at hl 1 rfl) ?_
  have hg : W p l e room_1 s m args below meth c H locs (cells + 1) (slots + 6) Q (F0 m 269 ls []) := by
    refine lv_goto (tgt := 1165) C.1 C.2.1 dL_law_269 (by decide) ?_
    exact kk u1 v1 f1 H locs ls j2 Hh (lv_sub hl [2, 3, 4, 5, 6] rfl)
  refine gw_if_ne (tgt := 269) C dL_law_254 (by decide) (by omega) (fun _ => hg) (fun hK0 => ?_)
  refine lv_aload_n C.1 C.2.1 dL_law_257 rfl (lv_at hl 6 rfl) ?_
  refine lv_iconst (v := nI 0) C.1 C.2.1 dL_law_258 (by decide +kernel) ?_
  refine gw_lld (x := 0) (len := 1) (F := f1) C Hh 0 rfl (by decide) dL_law_259 (by decide) ?_
  refine lv_iload C.1 C.2.1 dL_law_260 (lv_at hl 0 rfl) ?_
  refine lv_i2l C.1 C.2.1 dL_law_262 (lg_i2lx (nI k')) ?_
  refine W.lcmp C.1 C.2.1 dL_law_263 ?_
  exact lv_if_eq (tgt := 269) C.1 C.2.1 dL_law_264 (by decide) (fun _ => hg) (fun h9 => absurd (lg_self (congrArg Int64.ofInt (j3 hK0))) h9)
theorem law_aside {p : Program} {l : Launch} {e : Env} {s : State} {m : MethodId} {args : Array Value} {below : List Frame} {meth : Method} {c : Code} {H : Heap} {locs : List Loc} {cells slots : Nat} {Q : State → Prop} {ls : Array Slot} {G : gw_G} {A : Nat → Prop} {q q2 : Nat → Nat} {o b L i : Nat} {u : pf_S} {v : md_S} {f : Nat → Int} {xs : Nat → Int32} {ret : Option FieldType}
    (hst9 : l.stackTraces = false) (C : gw_C p s m args meth c G RL cL_law 7 ret) (X : gx_C s A) (N : hx_N s) (hX : va_X b L xs s s.heap) (hbl : b < s.heap.size) (hbA : ¬ A b) (hL : L < 2 ^ 31) (hi : i + 5 ≤ L) (hR : Rl u v) (Hh : gw_H G A s (LW G q q2 o u f v) H locs) (hl : lv_has ls 7 [(4, .int (nI i)), (0, .ref b), (1, .ref (q 0)), (2, .ref (q2 0)), (3, .ref o)]) (h0 : cells + 1 ≤ 1095 ∧ slots + 6 ≤ 11558)
    (kk : ∀ (u1 : pf_S) (v1 : md_S) (f1 : Nat → Int) (H1 : Heap) (locs1 : List Loc) (ls1 : Array Slot), Rl u1 v1 → gw_H G A s (LW G q q2 o u1 f1 v1) H1 locs1 → lv_has ls1 7 [(4, .int (nI i)), (0, .ref b), (1, .ref (q 0)), (2, .ref (q2 0)), (3, .ref o)] → W p l e room_1 s m args below meth c H1 locs1 (cells + 1) (slots + 6) Q (F0 m 1165 ls1 [])) : W p l e room_1 s m args below meth c H locs cells slots Q (F0 m 272 ls []) := by
  refine lv_aload_n C.1 C.2.1 dL_law_272 rfl (lv_at hl 2 rfl) ?_
  refine lv_aload_n C.1 C.2.1 dL_law_273 rfl (lv_at hl 1 rfl) ?_
  refine lv_iload C.1 C.2.1 dL_law_274 (lv_at hl 0 rfl) ?_
  refine lv_iconst (v := nI 1) C.1 C.2.1 dL_law_276 (by decide +kernel) ?_
  refine gw_iadd C dL_law_277 ?_
  refine ll_ld C Hh hX hbl hbA hL (by omega) dL_law_278 ?_
  refine lv_aload_n C.1 C.2.1 dL_law_279 rfl (lv_at hl 1 rfl) ?_
  refine lv_iload C.1 C.2.1 dL_law_280 (lv_at hl 0 rfl) ?_
  refine lv_iconst (v := nI 2) C.1 C.2.1 dL_law_282 (by decide +kernel) ?_
  refine gw_iadd C dL_law_283 ?_
  refine ll_ld C Hh hX hbl hbA hL (by omega) dL_law_284 ?_
  refine lv_aload_n C.1 C.2.1 dL_law_285 rfl (lv_at hl 4 rfl) ?_
  refine ll_help (n := 4) (rest := []) [.ref (q 0), .int (xs (i + 1)), .int (xs (i + 2)), .ref o] C X N Hh (c_L_aside l G q o u f (xs (i + 1)) (xs (i + 2)) hst9 hR.1) tw_523 tw_524 tw_65 tw_525 (by decide +kernel) ⟨Nat.le_of_ble_eq_true rfl, Nat.le_of_ble_eq_true rfl⟩ rfl hl.1 (Nat.le_of_ble_eq_true rfl) dL_law_286 h0 (fun r u1 f1 H locs hp Hh => ?_)
  obtain ⟨K, k, rfl, hK⟩ := hp
  refine lv_istore (lv' := [(5, .int (nI K)), (4, .int (nI i)), (0, .ref b), (1, .ref (q 0)), (2, .ref (q2 0)), (3, .ref o)]) C.1 C.2.1 dL_law_289 hl (by decide) rfl (fun ls hl => ?_)
  refine lv_aload_n C.1 C.2.1 dL_law_291 rfl (lv_at hl 4 rfl) ?_
  refine lv_aload_n C.1 C.2.1 dL_law_292 rfl (lv_at hl 2 rfl) ?_
  refine lv_iload C.1 C.2.1 dL_law_293 (lv_at hl 1 rfl) ?_
  refine lv_iconst (v := nI 1) C.1 C.2.1 dL_law_295 (by decide +kernel) ?_
  refine gw_iadd C dL_law_296 ?_
  refine ll_ld C Hh hX hbl hbA hL (by omega) dL_law_297 ?_
  refine lv_aload_n C.1 C.2.1 dL_law_298 rfl (lv_at hl 2 rfl) ?_
  refine lv_iload C.1 C.2.1 dL_law_299 (lv_at hl 1 rfl) ?_
  refine lv_iconst (v := nI 2) C.1 C.2.1 dL_law_301 (by decide +kernel) ?_
  refine gw_iadd C dL_law_302 ?_
  refine ll_ld C Hh hX hbl hbA hL (by omega) dL_law_303 ?_
  refine ll_mod (n := 2) (rest := []) [.int (xs (i + 1)), .int (xs (i + 2))] C Hh (c_X5_aside l G q2 v (xs (i + 1)) (xs (i + 2)) hR.2.1) tw_867 tw_868 tw_869 tw_71 tw_870 (by decide +kernel) ⟨Nat.le_of_ble_eq_true rfl, Nat.le_of_ble_eq_true rfl⟩ rfl hl.1 (Nat.le_of_ble_eq_true rfl) dL_law_304 ⟨h0.1, h0.2⟩ (fun r v1 H locs hp Hh => ?_)
  obtain ⟨k', rfl, hQ⟩ := hp
  obtain ⟨j1, j2, j3⟩ := jn (k' := k') hR (cdS_dt hR.2.2.1 _ _) hK hQ (fun hp hq => sS hR hp.1 hp.2.1 hp.2.2 hq.1 hq.2)
  have j4 : K ≤ 3 := by rw [hK.1]; exact cdS_le
  refine lv_istore (lv' := [(6, .int (nI k')), (5, .int (nI K)), (4, .int (nI i)), (0, .ref b), (1, .ref (q 0)), (2, .ref (q2 0)), (3, .ref o)]) C.1 C.2.1 dL_law_307 hl (by decide) rfl (fun ls hl => ?_)
  refine lv_aload_n C.1 C.2.1 dL_law_309 rfl (lv_at hl 5 rfl) ?_
  refine ll_mod (n := 0) (rest := []) [] C Hh (c_X5_thrown l G q2 v1) tw_812 tw_813 tw_814 tw_71 tw_815 (by decide +kernel) ⟨Nat.le_of_ble_eq_true rfl, Nat.le_of_ble_eq_true rfl⟩ rfl hl.1 (Nat.le_of_ble_eq_true rfl) dL_law_310 ⟨h0.1, h0.2⟩ (fun r v2 H locs hp Hh => ?_)
  obtain ⟨k2, rfl, hk2, hv2⟩ := hp
  rw [hv2] at Hh
  rw [j1] at hk2
  subst hk2
  refine lv_iload C.1 C.2.1 dL_law_313 (lv_at hl 1 rfl) ?_
  refine gw_icmp_eq (tgt := 320) C dL_law_315 (by decide) (by omega) (by omega) (fun _ => ?_) (fun h9 => absurd rfl h9)
  refine lv_iload C.1 C.2.1 dL_law_320 (lv_at hl 1 rfl) ?_
  have hg : W p l e room_1 s m args below meth c H locs (cells + 1) (slots + 6) Q (F0 m 337 ls []) := by
    refine lv_goto (tgt := 1165) C.1 C.2.1 dL_law_337 (by decide) ?_
    exact kk u1 v1 f1 H locs ls j2 Hh (lv_sub hl [2, 3, 4, 5, 6] rfl)
  refine gw_if_ne (tgt := 337) C dL_law_322 (by decide) (by omega) (fun _ => hg) (fun hK0 => ?_)
  refine lv_aload_n C.1 C.2.1 dL_law_325 rfl (lv_at hl 6 rfl) ?_
  refine lv_iconst (v := nI 0) C.1 C.2.1 dL_law_326 (by decide +kernel) ?_
  refine gw_lld (x := 0) (len := 1) (F := f1) C Hh 0 rfl (by decide) dL_law_327 (by decide) ?_
  refine lv_iload C.1 C.2.1 dL_law_328 (lv_at hl 0 rfl) ?_
  refine lv_i2l C.1 C.2.1 dL_law_330 (lg_i2lx (nI k')) ?_
  refine W.lcmp C.1 C.2.1 dL_law_331 ?_
  exact lv_if_eq (tgt := 337) C.1 C.2.1 dL_law_332 (by decide) (fun _ => hg) (fun h9 => absurd (lg_self (congrArg Int64.ofInt (j3 hK0))) h9)
theorem law_life {p : Program} {l : Launch} {e : Env} {s : State} {m : MethodId} {args : Array Value} {below : List Frame} {meth : Method} {c : Code} {H : Heap} {locs : List Loc} {cells slots : Nat} {Q : State → Prop} {ls : Array Slot} {G : gw_G} {A : Nat → Prop} {q q2 : Nat → Nat} {o b L i : Nat} {u : pf_S} {v : md_S} {f : Nat → Int} {xs : Nat → Int32} {ret : Option FieldType}
    (hst9 : l.stackTraces = false) (C : gw_C p s m args meth c G RL cL_law 7 ret) (X : gx_C s A) (N : hx_N s) (hX : va_X b L xs s s.heap) (hbl : b < s.heap.size) (hbA : ¬ A b) (hL : L < 2 ^ 31) (hi : i + 5 ≤ L) (hR : Rl u v) (Hh : gw_H G A s (LW G q q2 o u f v) H locs) (hl : lv_has ls 7 [(4, .int (nI i)), (0, .ref b), (1, .ref (q 0)), (2, .ref (q2 0)), (3, .ref o)]) (h0 : cells + 1 ≤ 1095 ∧ slots + 6 ≤ 11558)
    (kk : ∀ (u1 : pf_S) (v1 : md_S) (f1 : Nat → Int) (H1 : Heap) (locs1 : List Loc) (ls1 : Array Slot), Rl u1 v1 → gw_H G A s (LW G q q2 o u1 f1 v1) H1 locs1 → lv_has ls1 7 [(4, .int (nI i)), (0, .ref b), (1, .ref (q 0)), (2, .ref (q2 0)), (3, .ref o)] → W p l e room_1 s m args below meth c H1 locs1 (cells + 1) (slots + 6) Q (F0 m 1165 ls1 [])) : W p l e room_1 s m args below meth c H locs cells slots Q (F0 m 340 ls []) := by
  refine lv_aload_n C.1 C.2.1 dL_law_340 rfl (lv_at hl 2 rfl) ?_
  refine lv_aload_n C.1 C.2.1 dL_law_341 rfl (lv_at hl 1 rfl) ?_
  refine lv_iload C.1 C.2.1 dL_law_342 (lv_at hl 0 rfl) ?_
  refine lv_iconst (v := nI 1) C.1 C.2.1 dL_law_344 (by decide +kernel) ?_
  refine gw_iadd C dL_law_345 ?_
  refine ll_ld C Hh hX hbl hbA hL (by omega) dL_law_346 ?_
  refine lv_aload_n C.1 C.2.1 dL_law_347 rfl (lv_at hl 1 rfl) ?_
  refine lv_iload C.1 C.2.1 dL_law_348 (lv_at hl 0 rfl) ?_
  refine lv_iconst (v := nI 2) C.1 C.2.1 dL_law_350 (by decide +kernel) ?_
  refine gw_iadd C dL_law_351 ?_
  refine ll_ld C Hh hX hbl hbA hL (by omega) dL_law_352 ?_
  refine lv_aload_n C.1 C.2.1 dL_law_353 rfl (lv_at hl 4 rfl) ?_
  refine ll_help (n := 4) (rest := []) [.ref (q 0), .int (xs (i + 1)), .int (xs (i + 2)), .ref o] C X N Hh (c_L_life l G q o u f (xs (i + 1)) (xs (i + 2)) hst9 hR.1) tw_530 tw_531 tw_65 tw_532 (by decide +kernel) ⟨Nat.le_of_ble_eq_true rfl, Nat.le_of_ble_eq_true rfl⟩ rfl hl.1 (Nat.le_of_ble_eq_true rfl) dL_law_354 h0 (fun r u1 f1 H locs hp Hh => ?_)
  obtain ⟨K, k, rfl, hK⟩ := hp
  refine lv_istore (lv' := [(5, .int (nI K)), (4, .int (nI i)), (0, .ref b), (1, .ref (q 0)), (2, .ref (q2 0)), (3, .ref o)]) C.1 C.2.1 dL_law_357 hl (by decide) rfl (fun ls hl => ?_)
  refine lv_aload_n C.1 C.2.1 dL_law_359 rfl (lv_at hl 4 rfl) ?_
  refine lv_aload_n C.1 C.2.1 dL_law_360 rfl (lv_at hl 2 rfl) ?_
  refine lv_iload C.1 C.2.1 dL_law_361 (lv_at hl 1 rfl) ?_
  refine lv_iconst (v := nI 1) C.1 C.2.1 dL_law_363 (by decide +kernel) ?_
  refine gw_iadd C dL_law_364 ?_
  refine ll_ld C Hh hX hbl hbA hL (by omega) dL_law_365 ?_
  refine lv_aload_n C.1 C.2.1 dL_law_366 rfl (lv_at hl 2 rfl) ?_
  refine lv_iload C.1 C.2.1 dL_law_367 (lv_at hl 1 rfl) ?_
  refine lv_iconst (v := nI 2) C.1 C.2.1 dL_law_369 (by decide +kernel) ?_
  refine gw_iadd C dL_law_370 ?_
  refine ll_ld C Hh hX hbl hbA hL (by omega) dL_law_371 ?_
  refine ll_mod (n := 2) (rest := []) [.int (xs (i + 1)), .int (xs (i + 2))] C Hh (c_X5_life l G q2 v (xs (i + 1)) (xs (i + 2)) hR.2.1) tw_871 tw_872 tw_873 tw_71 tw_874 (by decide +kernel) ⟨Nat.le_of_ble_eq_true rfl, Nat.le_of_ble_eq_true rfl⟩ rfl hl.1 (Nat.le_of_ble_eq_true rfl) dL_law_372 ⟨h0.1, h0.2⟩ (fun r v1 H locs hp Hh => ?_)
  obtain ⟨k', rfl, hQ⟩ := hp
  obtain ⟨j1, j2, j3⟩ := jn (k' := k') hR (rfl) hK hQ (fun hp hq => sL hR hp.1 hp.2.1 hp.2.2 hq.1 hq.2)
  have j4 : K ≤ 3 := by rw [hK.1]; exact cdL_le
  refine lv_istore (lv' := [(6, .int (nI k')), (5, .int (nI K)), (4, .int (nI i)), (0, .ref b), (1, .ref (q 0)), (2, .ref (q2 0)), (3, .ref o)]) C.1 C.2.1 dL_law_375 hl (by decide) rfl (fun ls hl => ?_)
  refine lv_aload_n C.1 C.2.1 dL_law_377 rfl (lv_at hl 5 rfl) ?_
  refine ll_mod (n := 0) (rest := []) [] C Hh (c_X5_thrown l G q2 v1) tw_812 tw_813 tw_814 tw_71 tw_815 (by decide +kernel) ⟨Nat.le_of_ble_eq_true rfl, Nat.le_of_ble_eq_true rfl⟩ rfl hl.1 (Nat.le_of_ble_eq_true rfl) dL_law_378 ⟨h0.1, h0.2⟩ (fun r v2 H locs hp Hh => ?_)
  obtain ⟨k2, rfl, hk2, hv2⟩ := hp
  rw [hv2] at Hh
  rw [j1] at hk2
  subst hk2
  refine lv_iload C.1 C.2.1 dL_law_381 (lv_at hl 1 rfl) ?_
  refine gw_icmp_eq (tgt := 388) C dL_law_383 (by decide) (by omega) (by omega) (fun _ => ?_) (fun h9 => absurd rfl h9)
  refine lv_iload C.1 C.2.1 dL_law_388 (lv_at hl 1 rfl) ?_
  have hg : W p l e room_1 s m args below meth c H locs (cells + 1) (slots + 6) Q (F0 m 405 ls []) := by
    refine lv_goto (tgt := 1165) C.1 C.2.1 dL_law_405 (by decide) ?_
    exact kk u1 v1 f1 H locs ls j2 Hh (lv_sub hl [2, 3, 4, 5, 6] rfl)
  refine gw_if_ne (tgt := 405) C dL_law_390 (by decide) (by omega) (fun _ => hg) (fun hK0 => ?_)
  refine lv_aload_n C.1 C.2.1 dL_law_393 rfl (lv_at hl 6 rfl) ?_
  refine lv_iconst (v := nI 0) C.1 C.2.1 dL_law_394 (by decide +kernel) ?_
  refine gw_lld (x := 0) (len := 1) (F := f1) C Hh 0 rfl (by decide) dL_law_395 (by decide) ?_
  refine lv_iload C.1 C.2.1 dL_law_396 (lv_at hl 0 rfl) ?_
  refine lv_i2l C.1 C.2.1 dL_law_398 (lg_i2lx (nI k')) ?_
  refine W.lcmp C.1 C.2.1 dL_law_399 ?_
  exact lv_if_eq (tgt := 405) C.1 C.2.1 dL_law_400 (by decide) (fun _ => hg) (fun h9 => absurd (lg_self (congrArg Int64.ofInt (j3 hK0))) h9)
theorem law_standIn {p : Program} {l : Launch} {e : Env} {s : State} {m : MethodId} {args : Array Value} {below : List Frame} {meth : Method} {c : Code} {H : Heap} {locs : List Loc} {cells slots : Nat} {Q : State → Prop} {ls : Array Slot} {G : gw_G} {A : Nat → Prop} {q q2 : Nat → Nat} {o b L i : Nat} {u : pf_S} {v : md_S} {f : Nat → Int} {xs : Nat → Int32} {ret : Option FieldType}
    (hst9 : l.stackTraces = false) (C : gw_C p s m args meth c G RL cL_law 7 ret) (X : gx_C s A) (N : hx_N s) (hX : va_X b L xs s s.heap) (hbl : b < s.heap.size) (hbA : ¬ A b) (hL : L < 2 ^ 31) (hi : i + 5 ≤ L) (hR : Rl u v) (Hh : gw_H G A s (LW G q q2 o u f v) H locs) (hl : lv_has ls 7 [(4, .int (nI i)), (0, .ref b), (1, .ref (q 0)), (2, .ref (q2 0)), (3, .ref o)]) (h0 : cells + 1 ≤ 1095 ∧ slots + 6 ≤ 11558)
    (kk : ∀ (u1 : pf_S) (v1 : md_S) (f1 : Nat → Int) (H1 : Heap) (locs1 : List Loc) (ls1 : Array Slot), Rl u1 v1 → gw_H G A s (LW G q q2 o u1 f1 v1) H1 locs1 → lv_has ls1 7 [(4, .int (nI i)), (0, .ref b), (1, .ref (q 0)), (2, .ref (q2 0)), (3, .ref o)] → W p l e room_1 s m args below meth c H1 locs1 (cells + 1) (slots + 6) Q (F0 m 1165 ls1 [])) : W p l e room_1 s m args below meth c H locs cells slots Q (F0 m 408 ls []) := by
  by_cases hz : xs (i + 3) = 0
  · refine lv_aload_n C.1 C.2.1 dL_law_408 rfl (lv_at hl 2 rfl) ?_
    refine lv_aload_n C.1 C.2.1 dL_law_409 rfl (lv_at hl 1 rfl) ?_
    refine lv_iload C.1 C.2.1 dL_law_410 (lv_at hl 0 rfl) ?_
    refine lv_iconst (v := nI 1) C.1 C.2.1 dL_law_412 (by decide +kernel) ?_
    refine gw_iadd C dL_law_413 ?_
    refine ll_ld C Hh hX hbl hbA hL (by omega) dL_law_414 ?_
    refine lv_aload_n C.1 C.2.1 dL_law_415 rfl (lv_at hl 1 rfl) ?_
    refine lv_iload C.1 C.2.1 dL_law_416 (lv_at hl 0 rfl) ?_
    refine lv_iconst (v := nI 2) C.1 C.2.1 dL_law_418 (by decide +kernel) ?_
    refine gw_iadd C dL_law_419 ?_
    refine ll_ld C Hh hX hbl hbA hL (by omega) dL_law_420 ?_
    refine lv_aload_n C.1 C.2.1 dL_law_421 rfl (lv_at hl 1 rfl) ?_
    refine lv_iload C.1 C.2.1 dL_law_422 (lv_at hl 0 rfl) ?_
    refine lv_iconst (v := nI 3) C.1 C.2.1 dL_law_424 (by decide +kernel) ?_
    refine gw_iadd C dL_law_425 ?_
    refine ll_ld C Hh hX hbl hbA hL (by omega) dL_law_426 ?_
    refine lv_if_eq (tgt := 434) C.1 C.2.1 dL_law_427 (by decide) (fun _ => ?_) (fun h9 => absurd hz h9)
    refine lv_iconst (v := nI 0) C.1 C.2.1 dL_law_434 (by decide +kernel) ?_
    refine lv_aload_n C.1 C.2.1 dL_law_435 rfl (lv_at hl 4 rfl) ?_
    refine ll_help (n := 5) (rest := []) [.ref (q 0), .int (xs (i + 1)), .int (xs (i + 2)), .int (nI 0), .ref o] C X N Hh (c_L_standIn l G q o u f (xs (i + 1)) (xs (i + 2)) 0 hst9 hR.1 (by decide)) tw_537 tw_538 tw_65 tw_539 (by decide +kernel) ⟨Nat.le_of_ble_eq_true rfl, Nat.le_of_ble_eq_true rfl⟩ rfl hl.1 (Nat.le_of_ble_eq_true rfl) dL_law_436 h0 (fun r u1 f1 H locs hp Hh => ?_)
    obtain ⟨K, k, rfl, hK⟩ := hp
    refine lv_istore (lv' := [(5, .int (nI K)), (4, .int (nI i)), (0, .ref b), (1, .ref (q 0)), (2, .ref (q2 0)), (3, .ref o)]) C.1 C.2.1 dL_law_439 hl (by decide) rfl (fun ls hl => ?_)
    refine lv_aload_n C.1 C.2.1 dL_law_441 rfl (lv_at hl 4 rfl) ?_
    refine lv_aload_n C.1 C.2.1 dL_law_442 rfl (lv_at hl 2 rfl) ?_
    refine lv_iload C.1 C.2.1 dL_law_443 (lv_at hl 1 rfl) ?_
    refine lv_iconst (v := nI 1) C.1 C.2.1 dL_law_445 (by decide +kernel) ?_
    refine gw_iadd C dL_law_446 ?_
    refine ll_ld C Hh hX hbl hbA hL (by omega) dL_law_447 ?_
    refine lv_aload_n C.1 C.2.1 dL_law_448 rfl (lv_at hl 2 rfl) ?_
    refine lv_iload C.1 C.2.1 dL_law_449 (lv_at hl 1 rfl) ?_
    refine lv_iconst (v := nI 2) C.1 C.2.1 dL_law_451 (by decide +kernel) ?_
    refine gw_iadd C dL_law_452 ?_
    refine ll_ld C Hh hX hbl hbA hL (by omega) dL_law_453 ?_
    refine lv_aload_n C.1 C.2.1 dL_law_454 rfl (lv_at hl 2 rfl) ?_
    refine lv_iload C.1 C.2.1 dL_law_455 (lv_at hl 1 rfl) ?_
    refine lv_iconst (v := nI 3) C.1 C.2.1 dL_law_457 (by decide +kernel) ?_
    refine gw_iadd C dL_law_458 ?_
    refine ll_ld C Hh hX hbl hbA hL (by omega) dL_law_459 ?_
    refine lv_if_eq (tgt := 467) C.1 C.2.1 dL_law_460 (by decide) (fun _ => ?_) (fun h9 => absurd hz h9)
    refine lv_iconst (v := nI 0) C.1 C.2.1 dL_law_467 (by decide +kernel) ?_
    refine ll_mod (n := 3) (rest := []) [.int (xs (i + 1)), .int (xs (i + 2)), .int (nI 0)] C Hh (c_X5_standIn l G q2 v (xs (i + 1)) (xs (i + 2)) 0 hR.2.1 (by decide)) tw_875 tw_876 tw_877 tw_71 tw_878 (by decide +kernel) ⟨Nat.le_of_ble_eq_true rfl, Nat.le_of_ble_eq_true rfl⟩ rfl hl.1 (Nat.le_of_ble_eq_true rfl) dL_law_468 ⟨h0.1, h0.2⟩ (fun r v1 H locs hp Hh => ?_)
    obtain ⟨k', rfl, hQ⟩ := hp
    obtain ⟨j1, j2, j3⟩ := jn (k' := k') hR (cdI_dt hR.2.2.1 _ _ _) hK hQ (fun hp hq => sI hR (by decide) hp.1 hp.2.1 hp.2.2 hq.1 hq.2)
    have j4 : K ≤ 3 := by rw [hK.1]; exact cdI_le
    refine lv_istore (lv' := [(6, .int (nI k')), (5, .int (nI K)), (4, .int (nI i)), (0, .ref b), (1, .ref (q 0)), (2, .ref (q2 0)), (3, .ref o)]) C.1 C.2.1 dL_law_471 hl (by decide) rfl (fun ls hl => ?_)
    refine lv_aload_n C.1 C.2.1 dL_law_473 rfl (lv_at hl 5 rfl) ?_
    refine ll_mod (n := 0) (rest := []) [] C Hh (c_X5_thrown l G q2 v1) tw_812 tw_813 tw_814 tw_71 tw_815 (by decide +kernel) ⟨Nat.le_of_ble_eq_true rfl, Nat.le_of_ble_eq_true rfl⟩ rfl hl.1 (Nat.le_of_ble_eq_true rfl) dL_law_474 ⟨h0.1, h0.2⟩ (fun r v2 H locs hp Hh => ?_)
    obtain ⟨k2, rfl, hk2, hv2⟩ := hp
    rw [hv2] at Hh
    rw [j1] at hk2
    subst hk2
    refine lv_iload C.1 C.2.1 dL_law_477 (lv_at hl 1 rfl) ?_
    refine gw_icmp_eq (tgt := 484) C dL_law_479 (by decide) (by omega) (by omega) (fun _ => ?_) (fun h9 => absurd rfl h9)
    refine lv_iload C.1 C.2.1 dL_law_484 (lv_at hl 1 rfl) ?_
    have hg : W p l e room_1 s m args below meth c H locs (cells + 1) (slots + 6) Q (F0 m 501 ls []) := by
      refine lv_goto (tgt := 1165) C.1 C.2.1 dL_law_501 (by decide) ?_
      exact kk u1 v1 f1 H locs ls j2 Hh (lv_sub hl [2, 3, 4, 5, 6] rfl)
    refine gw_if_ne (tgt := 501) C dL_law_486 (by decide) (by omega) (fun _ => hg) (fun hK0 => ?_)
    refine lv_aload_n C.1 C.2.1 dL_law_489 rfl (lv_at hl 6 rfl) ?_
    refine lv_iconst (v := nI 0) C.1 C.2.1 dL_law_490 (by decide +kernel) ?_
    refine gw_lld (x := 0) (len := 1) (F := f1) C Hh 0 rfl (by decide) dL_law_491 (by decide) ?_
    refine lv_iload C.1 C.2.1 dL_law_492 (lv_at hl 0 rfl) ?_
    refine lv_i2l C.1 C.2.1 dL_law_494 (lg_i2lx (nI k')) ?_
    refine W.lcmp C.1 C.2.1 dL_law_495 ?_
    exact lv_if_eq (tgt := 501) C.1 C.2.1 dL_law_496 (by decide) (fun _ => hg) (fun h9 => absurd (lg_self (congrArg Int64.ofInt (j3 hK0))) h9)
  · refine lv_aload_n C.1 C.2.1 dL_law_408 rfl (lv_at hl 2 rfl) ?_
    refine lv_aload_n C.1 C.2.1 dL_law_409 rfl (lv_at hl 1 rfl) ?_
    refine lv_iload C.1 C.2.1 dL_law_410 (lv_at hl 0 rfl) ?_
    refine lv_iconst (v := nI 1) C.1 C.2.1 dL_law_412 (by decide +kernel) ?_
    refine gw_iadd C dL_law_413 ?_
    refine ll_ld C Hh hX hbl hbA hL (by omega) dL_law_414 ?_
    refine lv_aload_n C.1 C.2.1 dL_law_415 rfl (lv_at hl 1 rfl) ?_
    refine lv_iload C.1 C.2.1 dL_law_416 (lv_at hl 0 rfl) ?_
    refine lv_iconst (v := nI 2) C.1 C.2.1 dL_law_418 (by decide +kernel) ?_
    refine gw_iadd C dL_law_419 ?_
    refine ll_ld C Hh hX hbl hbA hL (by omega) dL_law_420 ?_
    refine lv_aload_n C.1 C.2.1 dL_law_421 rfl (lv_at hl 1 rfl) ?_
    refine lv_iload C.1 C.2.1 dL_law_422 (lv_at hl 0 rfl) ?_
    refine lv_iconst (v := nI 3) C.1 C.2.1 dL_law_424 (by decide +kernel) ?_
    refine gw_iadd C dL_law_425 ?_
    refine ll_ld C Hh hX hbl hbA hL (by omega) dL_law_426 ?_
    refine lv_if_eq (tgt := 434) C.1 C.2.1 dL_law_427 (by decide) (fun h9 => absurd h9 hz) (fun _ => ?_)
    refine lv_iconst (v := nI 1) C.1 C.2.1 dL_law_430 (by decide +kernel) ?_
    refine lv_goto (tgt := 435) C.1 C.2.1 dL_law_431 (by decide) ?_
    refine lv_aload_n C.1 C.2.1 dL_law_435 rfl (lv_at hl 4 rfl) ?_
    refine ll_help (n := 5) (rest := []) [.ref (q 0), .int (xs (i + 1)), .int (xs (i + 2)), .int (nI 1), .ref o] C X N Hh (c_L_standIn l G q o u f (xs (i + 1)) (xs (i + 2)) 1 hst9 hR.1 (by decide)) tw_537 tw_538 tw_65 tw_539 (by decide +kernel) ⟨Nat.le_of_ble_eq_true rfl, Nat.le_of_ble_eq_true rfl⟩ rfl hl.1 (Nat.le_of_ble_eq_true rfl) dL_law_436 h0 (fun r u1 f1 H locs hp Hh => ?_)
    obtain ⟨K, k, rfl, hK⟩ := hp
    refine lv_istore (lv' := [(5, .int (nI K)), (4, .int (nI i)), (0, .ref b), (1, .ref (q 0)), (2, .ref (q2 0)), (3, .ref o)]) C.1 C.2.1 dL_law_439 hl (by decide) rfl (fun ls hl => ?_)
    refine lv_aload_n C.1 C.2.1 dL_law_441 rfl (lv_at hl 4 rfl) ?_
    refine lv_aload_n C.1 C.2.1 dL_law_442 rfl (lv_at hl 2 rfl) ?_
    refine lv_iload C.1 C.2.1 dL_law_443 (lv_at hl 1 rfl) ?_
    refine lv_iconst (v := nI 1) C.1 C.2.1 dL_law_445 (by decide +kernel) ?_
    refine gw_iadd C dL_law_446 ?_
    refine ll_ld C Hh hX hbl hbA hL (by omega) dL_law_447 ?_
    refine lv_aload_n C.1 C.2.1 dL_law_448 rfl (lv_at hl 2 rfl) ?_
    refine lv_iload C.1 C.2.1 dL_law_449 (lv_at hl 1 rfl) ?_
    refine lv_iconst (v := nI 2) C.1 C.2.1 dL_law_451 (by decide +kernel) ?_
    refine gw_iadd C dL_law_452 ?_
    refine ll_ld C Hh hX hbl hbA hL (by omega) dL_law_453 ?_
    refine lv_aload_n C.1 C.2.1 dL_law_454 rfl (lv_at hl 2 rfl) ?_
    refine lv_iload C.1 C.2.1 dL_law_455 (lv_at hl 1 rfl) ?_
    refine lv_iconst (v := nI 3) C.1 C.2.1 dL_law_457 (by decide +kernel) ?_
    refine gw_iadd C dL_law_458 ?_
    refine ll_ld C Hh hX hbl hbA hL (by omega) dL_law_459 ?_
    refine lv_if_eq (tgt := 467) C.1 C.2.1 dL_law_460 (by decide) (fun h9 => absurd h9 hz) (fun _ => ?_)
    refine lv_iconst (v := nI 1) C.1 C.2.1 dL_law_463 (by decide +kernel) ?_
    refine lv_goto (tgt := 468) C.1 C.2.1 dL_law_464 (by decide) ?_
    refine ll_mod (n := 3) (rest := []) [.int (xs (i + 1)), .int (xs (i + 2)), .int (nI 1)] C Hh (c_X5_standIn l G q2 v (xs (i + 1)) (xs (i + 2)) 1 hR.2.1 (by decide)) tw_875 tw_876 tw_877 tw_71 tw_878 (by decide +kernel) ⟨Nat.le_of_ble_eq_true rfl, Nat.le_of_ble_eq_true rfl⟩ rfl hl.1 (Nat.le_of_ble_eq_true rfl) dL_law_468 ⟨h0.1, h0.2⟩ (fun r v1 H locs hp Hh => ?_)
    obtain ⟨k', rfl, hQ⟩ := hp
    obtain ⟨j1, j2, j3⟩ := jn (k' := k') hR (cdI_dt hR.2.2.1 _ _ _) hK hQ (fun hp hq => sI hR (by decide) hp.1 hp.2.1 hp.2.2 hq.1 hq.2)
    have j4 : K ≤ 3 := by rw [hK.1]; exact cdI_le
    refine lv_istore (lv' := [(6, .int (nI k')), (5, .int (nI K)), (4, .int (nI i)), (0, .ref b), (1, .ref (q 0)), (2, .ref (q2 0)), (3, .ref o)]) C.1 C.2.1 dL_law_471 hl (by decide) rfl (fun ls hl => ?_)
    refine lv_aload_n C.1 C.2.1 dL_law_473 rfl (lv_at hl 5 rfl) ?_
    refine ll_mod (n := 0) (rest := []) [] C Hh (c_X5_thrown l G q2 v1) tw_812 tw_813 tw_814 tw_71 tw_815 (by decide +kernel) ⟨Nat.le_of_ble_eq_true rfl, Nat.le_of_ble_eq_true rfl⟩ rfl hl.1 (Nat.le_of_ble_eq_true rfl) dL_law_474 ⟨h0.1, h0.2⟩ (fun r v2 H locs hp Hh => ?_)
    obtain ⟨k2, rfl, hk2, hv2⟩ := hp
    rw [hv2] at Hh
    rw [j1] at hk2
    subst hk2
    refine lv_iload C.1 C.2.1 dL_law_477 (lv_at hl 1 rfl) ?_
    refine gw_icmp_eq (tgt := 484) C dL_law_479 (by decide) (by omega) (by omega) (fun _ => ?_) (fun h9 => absurd rfl h9)
    refine lv_iload C.1 C.2.1 dL_law_484 (lv_at hl 1 rfl) ?_
    have hg : W p l e room_1 s m args below meth c H locs (cells + 1) (slots + 6) Q (F0 m 501 ls []) := by
      refine lv_goto (tgt := 1165) C.1 C.2.1 dL_law_501 (by decide) ?_
      exact kk u1 v1 f1 H locs ls j2 Hh (lv_sub hl [2, 3, 4, 5, 6] rfl)
    refine gw_if_ne (tgt := 501) C dL_law_486 (by decide) (by omega) (fun _ => hg) (fun hK0 => ?_)
    refine lv_aload_n C.1 C.2.1 dL_law_489 rfl (lv_at hl 6 rfl) ?_
    refine lv_iconst (v := nI 0) C.1 C.2.1 dL_law_490 (by decide +kernel) ?_
    refine gw_lld (x := 0) (len := 1) (F := f1) C Hh 0 rfl (by decide) dL_law_491 (by decide) ?_
    refine lv_iload C.1 C.2.1 dL_law_492 (lv_at hl 0 rfl) ?_
    refine lv_i2l C.1 C.2.1 dL_law_494 (lg_i2lx (nI k')) ?_
    refine W.lcmp C.1 C.2.1 dL_law_495 ?_
    exact lv_if_eq (tgt := 501) C.1 C.2.1 dL_law_496 (by decide) (fun _ => hg) (fun h9 => absurd (lg_self (congrArg Int64.ofInt (j3 hK0))) h9)
theorem law_kit {p : Program} {l : Launch} {e : Env} {s : State} {m : MethodId} {args : Array Value} {below : List Frame} {meth : Method} {c : Code} {H : Heap} {locs : List Loc} {cells slots : Nat} {Q : State → Prop} {ls : Array Slot} {G : gw_G} {A : Nat → Prop} {q q2 : Nat → Nat} {o b L i : Nat} {u : pf_S} {v : md_S} {f : Nat → Int} {xs : Nat → Int32} {ret : Option FieldType}
    (hst9 : l.stackTraces = false) (C : gw_C p s m args meth c G RL cL_law 7 ret) (X : gx_C s A) (N : hx_N s) (hX : va_X b L xs s s.heap) (hbl : b < s.heap.size) (hbA : ¬ A b) (hL : L < 2 ^ 31) (hi : i + 5 ≤ L) (hR : Rl u v) (Hh : gw_H G A s (LW G q q2 o u f v) H locs) (hl : lv_has ls 7 [(4, .int (nI i)), (0, .ref b), (1, .ref (q 0)), (2, .ref (q2 0)), (3, .ref o)]) (h0 : cells + 1 ≤ 1095 ∧ slots + 6 ≤ 11558)
    (kk : ∀ (u1 : pf_S) (v1 : md_S) (f1 : Nat → Int) (H1 : Heap) (locs1 : List Loc) (ls1 : Array Slot), Rl u1 v1 → gw_H G A s (LW G q q2 o u1 f1 v1) H1 locs1 → lv_has ls1 7 [(4, .int (nI i)), (0, .ref b), (1, .ref (q 0)), (2, .ref (q2 0)), (3, .ref o)] → W p l e room_1 s m args below meth c H1 locs1 (cells + 1) (slots + 6) Q (F0 m 1165 ls1 [])) : W p l e room_1 s m args below meth c H locs cells slots Q (F0 m 504 ls []) := by
  refine lv_aload_n C.1 C.2.1 dL_law_504 rfl (lv_at hl 2 rfl) ?_
  refine lv_aload_n C.1 C.2.1 dL_law_505 rfl (lv_at hl 1 rfl) ?_
  refine lv_iload C.1 C.2.1 dL_law_506 (lv_at hl 0 rfl) ?_
  refine lv_iconst (v := nI 1) C.1 C.2.1 dL_law_508 (by decide +kernel) ?_
  refine gw_iadd C dL_law_509 ?_
  refine ll_ld C Hh hX hbl hbA hL (by omega) dL_law_510 ?_
  refine lv_aload_n C.1 C.2.1 dL_law_511 rfl (lv_at hl 1 rfl) ?_
  refine lv_iload C.1 C.2.1 dL_law_512 (lv_at hl 0 rfl) ?_
  refine lv_iconst (v := nI 2) C.1 C.2.1 dL_law_514 (by decide +kernel) ?_
  refine gw_iadd C dL_law_515 ?_
  refine ll_ld C Hh hX hbl hbA hL (by omega) dL_law_516 ?_
  refine lv_aload_n C.1 C.2.1 dL_law_517 rfl (lv_at hl 1 rfl) ?_
  refine lv_iload C.1 C.2.1 dL_law_518 (lv_at hl 0 rfl) ?_
  refine lv_iconst (v := nI 3) C.1 C.2.1 dL_law_520 (by decide +kernel) ?_
  refine gw_iadd C dL_law_521 ?_
  refine ll_ld C Hh hX hbl hbA hL (by omega) dL_law_522 ?_
  refine lv_aload_n C.1 C.2.1 dL_law_523 rfl (lv_at hl 4 rfl) ?_
  refine ll_help (n := 5) (rest := []) [.ref (q 0), .int (xs (i + 1)), .int (xs (i + 2)), .int (xs (i + 3)), .ref o] C X N Hh (c_L_kit l G q o u f (xs (i + 1)) (xs (i + 2)) (xs (i + 3)) hst9 hR.1) tw_551 tw_552 tw_65 tw_553 (by decide +kernel) ⟨Nat.le_of_ble_eq_true rfl, Nat.le_of_ble_eq_true rfl⟩ rfl hl.1 (Nat.le_of_ble_eq_true rfl) dL_law_524 h0 (fun r u1 f1 H locs hp Hh => ?_)
  obtain ⟨K, k, rfl, hK⟩ := hp
  refine lv_istore (lv' := [(5, .int (nI K)), (4, .int (nI i)), (0, .ref b), (1, .ref (q 0)), (2, .ref (q2 0)), (3, .ref o)]) C.1 C.2.1 dL_law_527 hl (by decide) rfl (fun ls hl => ?_)
  refine lv_aload_n C.1 C.2.1 dL_law_529 rfl (lv_at hl 4 rfl) ?_
  refine lv_aload_n C.1 C.2.1 dL_law_530 rfl (lv_at hl 2 rfl) ?_
  refine lv_iload C.1 C.2.1 dL_law_531 (lv_at hl 1 rfl) ?_
  refine lv_iconst (v := nI 1) C.1 C.2.1 dL_law_533 (by decide +kernel) ?_
  refine gw_iadd C dL_law_534 ?_
  refine ll_ld C Hh hX hbl hbA hL (by omega) dL_law_535 ?_
  refine lv_aload_n C.1 C.2.1 dL_law_536 rfl (lv_at hl 2 rfl) ?_
  refine lv_iload C.1 C.2.1 dL_law_537 (lv_at hl 1 rfl) ?_
  refine lv_iconst (v := nI 2) C.1 C.2.1 dL_law_539 (by decide +kernel) ?_
  refine gw_iadd C dL_law_540 ?_
  refine ll_ld C Hh hX hbl hbA hL (by omega) dL_law_541 ?_
  refine lv_aload_n C.1 C.2.1 dL_law_542 rfl (lv_at hl 2 rfl) ?_
  refine lv_iload C.1 C.2.1 dL_law_543 (lv_at hl 1 rfl) ?_
  refine lv_iconst (v := nI 3) C.1 C.2.1 dL_law_545 (by decide +kernel) ?_
  refine gw_iadd C dL_law_546 ?_
  refine ll_ld C Hh hX hbl hbA hL (by omega) dL_law_547 ?_
  refine ll_mod (n := 3) (rest := []) [.int (xs (i + 1)), .int (xs (i + 2)), .int (xs (i + 3))] C Hh (c_X5_kit l G q2 v (xs (i + 1)) (xs (i + 2)) (xs (i + 3)) hR.2.1) tw_879 tw_880 tw_881 tw_71 tw_882 (by decide +kernel) ⟨Nat.le_of_ble_eq_true rfl, Nat.le_of_ble_eq_true rfl⟩ rfl hl.1 (Nat.le_of_ble_eq_true rfl) dL_law_548 ⟨h0.1, h0.2⟩ (fun r v1 H locs hp Hh => ?_)
  obtain ⟨k', rfl, hQ⟩ := hp
  obtain ⟨j1, j2, j3⟩ := jn (k' := k') hR (cdK_dt hR.2.2.1 hR.1.1.1 _ _ _) hK hQ (fun hp hq => sK hR hp.1 hp.2.1 hp.2.2 hq.1 hq.2)
  have j4 : K ≤ 3 := by rw [hK.1]; exact cdK_le
  refine lv_istore (lv' := [(6, .int (nI k')), (5, .int (nI K)), (4, .int (nI i)), (0, .ref b), (1, .ref (q 0)), (2, .ref (q2 0)), (3, .ref o)]) C.1 C.2.1 dL_law_551 hl (by decide) rfl (fun ls hl => ?_)
  refine lv_aload_n C.1 C.2.1 dL_law_553 rfl (lv_at hl 5 rfl) ?_
  refine ll_mod (n := 0) (rest := []) [] C Hh (c_X5_thrown l G q2 v1) tw_812 tw_813 tw_814 tw_71 tw_815 (by decide +kernel) ⟨Nat.le_of_ble_eq_true rfl, Nat.le_of_ble_eq_true rfl⟩ rfl hl.1 (Nat.le_of_ble_eq_true rfl) dL_law_554 ⟨h0.1, h0.2⟩ (fun r v2 H locs hp Hh => ?_)
  obtain ⟨k2, rfl, hk2, hv2⟩ := hp
  rw [hv2] at Hh
  rw [j1] at hk2
  subst hk2
  refine lv_iload C.1 C.2.1 dL_law_557 (lv_at hl 1 rfl) ?_
  refine gw_icmp_eq (tgt := 564) C dL_law_559 (by decide) (by omega) (by omega) (fun _ => ?_) (fun h9 => absurd rfl h9)
  refine lv_iload C.1 C.2.1 dL_law_564 (lv_at hl 1 rfl) ?_
  have hg : W p l e room_1 s m args below meth c H locs (cells + 1) (slots + 6) Q (F0 m 581 ls []) := by
    refine lv_goto (tgt := 1165) C.1 C.2.1 dL_law_581 (by decide) ?_
    exact kk u1 v1 f1 H locs ls j2 Hh (lv_sub hl [2, 3, 4, 5, 6] rfl)
  refine gw_if_ne (tgt := 581) C dL_law_566 (by decide) (by omega) (fun _ => hg) (fun hK0 => ?_)
  refine lv_aload_n C.1 C.2.1 dL_law_569 rfl (lv_at hl 6 rfl) ?_
  refine lv_iconst (v := nI 0) C.1 C.2.1 dL_law_570 (by decide +kernel) ?_
  refine gw_lld (x := 0) (len := 1) (F := f1) C Hh 0 rfl (by decide) dL_law_571 (by decide) ?_
  refine lv_iload C.1 C.2.1 dL_law_572 (lv_at hl 0 rfl) ?_
  refine lv_i2l C.1 C.2.1 dL_law_574 (lg_i2lx (nI k')) ?_
  refine W.lcmp C.1 C.2.1 dL_law_575 ?_
  exact lv_if_eq (tgt := 581) C.1 C.2.1 dL_law_576 (by decide) (fun _ => hg) (fun h9 => absurd (lg_self (congrArg Int64.ofInt (j3 hK0))) h9)
theorem law_order {p : Program} {l : Launch} {e : Env} {s : State} {m : MethodId} {args : Array Value} {below : List Frame} {meth : Method} {c : Code} {H : Heap} {locs : List Loc} {cells slots : Nat} {Q : State → Prop} {ls : Array Slot} {G : gw_G} {A : Nat → Prop} {q q2 : Nat → Nat} {o b L i : Nat} {u : pf_S} {v : md_S} {f : Nat → Int} {xs : Nat → Int32} {ret : Option FieldType}
    (hst9 : l.stackTraces = false) (C : gw_C p s m args meth c G RL cL_law 7 ret) (X : gx_C s A) (N : hx_N s) (hX : va_X b L xs s s.heap) (hbl : b < s.heap.size) (hbA : ¬ A b) (hL : L < 2 ^ 31) (hi : i + 5 ≤ L) (hR : Rl u v) (Hh : gw_H G A s (LW G q q2 o u f v) H locs) (hl : lv_has ls 7 [(4, .int (nI i)), (0, .ref b), (1, .ref (q 0)), (2, .ref (q2 0)), (3, .ref o)]) (h0 : cells + 1 ≤ 1095 ∧ slots + 6 ≤ 11558)
    (kk : ∀ (u1 : pf_S) (v1 : md_S) (f1 : Nat → Int) (H1 : Heap) (locs1 : List Loc) (ls1 : Array Slot), Rl u1 v1 → gw_H G A s (LW G q q2 o u1 f1 v1) H1 locs1 → lv_has ls1 7 [(4, .int (nI i)), (0, .ref b), (1, .ref (q 0)), (2, .ref (q2 0)), (3, .ref o)] → W p l e room_1 s m args below meth c H1 locs1 (cells + 1) (slots + 6) Q (F0 m 1165 ls1 [])) : W p l e room_1 s m args below meth c H locs cells slots Q (F0 m 584 ls []) := by
  refine lv_aload_n C.1 C.2.1 dL_law_584 rfl (lv_at hl 2 rfl) ?_
  refine lv_aload_n C.1 C.2.1 dL_law_585 rfl (lv_at hl 1 rfl) ?_
  refine lv_iload C.1 C.2.1 dL_law_586 (lv_at hl 0 rfl) ?_
  refine lv_iconst (v := nI 1) C.1 C.2.1 dL_law_588 (by decide +kernel) ?_
  refine gw_iadd C dL_law_589 ?_
  refine ll_ld C Hh hX hbl hbA hL (by omega) dL_law_590 ?_
  refine lv_aload_n C.1 C.2.1 dL_law_591 rfl (lv_at hl 1 rfl) ?_
  refine lv_iload C.1 C.2.1 dL_law_592 (lv_at hl 0 rfl) ?_
  refine lv_iconst (v := nI 2) C.1 C.2.1 dL_law_594 (by decide +kernel) ?_
  refine gw_iadd C dL_law_595 ?_
  refine ll_ld C Hh hX hbl hbA hL (by omega) dL_law_596 ?_
  refine lv_aload_n C.1 C.2.1 dL_law_597 rfl (lv_at hl 1 rfl) ?_
  refine lv_iload C.1 C.2.1 dL_law_598 (lv_at hl 0 rfl) ?_
  refine lv_iconst (v := nI 3) C.1 C.2.1 dL_law_600 (by decide +kernel) ?_
  refine gw_iadd C dL_law_601 ?_
  refine ll_ld C Hh hX hbl hbA hL (by omega) dL_law_602 ?_
  refine lv_aload_n C.1 C.2.1 dL_law_603 rfl (lv_at hl 1 rfl) ?_
  refine lv_iload C.1 C.2.1 dL_law_604 (lv_at hl 0 rfl) ?_
  refine lv_iconst (v := nI 4) C.1 C.2.1 dL_law_606 (by decide +kernel) ?_
  refine gw_iadd C dL_law_607 ?_
  refine ll_ld C Hh hX hbl hbA hL (by omega) dL_law_608 ?_
  refine lv_aload_n C.1 C.2.1 dL_law_609 rfl (lv_at hl 4 rfl) ?_
  refine ll_help (n := 6) (rest := []) [.ref (q 0), .int (xs (i + 1)), .int (xs (i + 2)), .int (xs (i + 3)), .int (xs (i + 4)), .ref o] C X N Hh (c_L_order l G q o u f (xs (i + 1)) (xs (i + 2)) (xs (i + 3)) (xs (i + 4)) hst9 hR.1) tw_586 tw_587 tw_65 tw_588 (by decide +kernel) ⟨Nat.le_of_ble_eq_true rfl, Nat.le_of_ble_eq_true rfl⟩ rfl hl.1 (Nat.le_of_ble_eq_true rfl) dL_law_610 h0 (fun r u1 f1 H locs hp Hh => ?_)
  obtain ⟨K, k, rfl, hK⟩ := hp
  refine lv_istore (lv' := [(5, .int (nI K)), (4, .int (nI i)), (0, .ref b), (1, .ref (q 0)), (2, .ref (q2 0)), (3, .ref o)]) C.1 C.2.1 dL_law_613 hl (by decide) rfl (fun ls hl => ?_)
  refine lv_aload_n C.1 C.2.1 dL_law_615 rfl (lv_at hl 4 rfl) ?_
  refine lv_aload_n C.1 C.2.1 dL_law_616 rfl (lv_at hl 2 rfl) ?_
  refine lv_iload C.1 C.2.1 dL_law_617 (lv_at hl 1 rfl) ?_
  refine lv_iconst (v := nI 1) C.1 C.2.1 dL_law_619 (by decide +kernel) ?_
  refine gw_iadd C dL_law_620 ?_
  refine ll_ld C Hh hX hbl hbA hL (by omega) dL_law_621 ?_
  refine lv_aload_n C.1 C.2.1 dL_law_622 rfl (lv_at hl 2 rfl) ?_
  refine lv_iload C.1 C.2.1 dL_law_623 (lv_at hl 1 rfl) ?_
  refine lv_iconst (v := nI 2) C.1 C.2.1 dL_law_625 (by decide +kernel) ?_
  refine gw_iadd C dL_law_626 ?_
  refine ll_ld C Hh hX hbl hbA hL (by omega) dL_law_627 ?_
  refine lv_aload_n C.1 C.2.1 dL_law_628 rfl (lv_at hl 2 rfl) ?_
  refine lv_iload C.1 C.2.1 dL_law_629 (lv_at hl 1 rfl) ?_
  refine lv_iconst (v := nI 3) C.1 C.2.1 dL_law_631 (by decide +kernel) ?_
  refine gw_iadd C dL_law_632 ?_
  refine ll_ld C Hh hX hbl hbA hL (by omega) dL_law_633 ?_
  refine lv_aload_n C.1 C.2.1 dL_law_634 rfl (lv_at hl 2 rfl) ?_
  refine lv_iload C.1 C.2.1 dL_law_635 (lv_at hl 1 rfl) ?_
  refine lv_iconst (v := nI 4) C.1 C.2.1 dL_law_637 (by decide +kernel) ?_
  refine gw_iadd C dL_law_638 ?_
  refine ll_ld C Hh hX hbl hbA hL (by omega) dL_law_639 ?_
  refine ll_mod (n := 4) (rest := []) [.int (xs (i + 1)), .int (xs (i + 2)), .int (xs (i + 3)), .int (xs (i + 4))] C Hh (c_X5_order l G q2 v (xs (i + 1)) (xs (i + 2)) (xs (i + 3)) (xs (i + 4)) hR.2.1) tw_891 tw_892 tw_893 tw_71 tw_894 (by decide +kernel) ⟨Nat.le_of_ble_eq_true rfl, Nat.le_of_ble_eq_true rfl⟩ rfl hl.1 (Nat.le_of_ble_eq_true rfl) dL_law_640 ⟨h0.1, h0.2⟩ (fun r v1 H locs hp Hh => ?_)
  obtain ⟨k', rfl, hQ⟩ := hp
  obtain ⟨j1, j2, j3⟩ := jn (k' := k') hR (cdO_dt hR.2.2.1 _ _ _ _) hK hQ (fun hp hq => sO hR hp.1 hp.2 hq)
  have j4 : K ≤ 3 := by rw [hK.1]; exact cdO_le
  refine lv_istore (lv' := [(6, .int (nI k')), (5, .int (nI K)), (4, .int (nI i)), (0, .ref b), (1, .ref (q 0)), (2, .ref (q2 0)), (3, .ref o)]) C.1 C.2.1 dL_law_643 hl (by decide) rfl (fun ls hl => ?_)
  refine lv_aload_n C.1 C.2.1 dL_law_645 rfl (lv_at hl 5 rfl) ?_
  refine ll_mod (n := 0) (rest := []) [] C Hh (c_X5_thrown l G q2 v1) tw_812 tw_813 tw_814 tw_71 tw_815 (by decide +kernel) ⟨Nat.le_of_ble_eq_true rfl, Nat.le_of_ble_eq_true rfl⟩ rfl hl.1 (Nat.le_of_ble_eq_true rfl) dL_law_646 ⟨h0.1, h0.2⟩ (fun r v2 H locs hp Hh => ?_)
  obtain ⟨k2, rfl, hk2, hv2⟩ := hp
  rw [hv2] at Hh
  rw [j1] at hk2
  subst hk2
  refine lv_iload C.1 C.2.1 dL_law_649 (lv_at hl 1 rfl) ?_
  refine gw_icmp_eq (tgt := 656) C dL_law_651 (by decide) (by omega) (by omega) (fun _ => ?_) (fun h9 => absurd rfl h9)
  refine lv_iload C.1 C.2.1 dL_law_656 (lv_at hl 1 rfl) ?_
  have hg : W p l e room_1 s m args below meth c H locs (cells + 1) (slots + 6) Q (F0 m 673 ls []) := by
    refine lv_goto (tgt := 1165) C.1 C.2.1 dL_law_673 (by decide) ?_
    exact kk u1 v1 f1 H locs ls j2 Hh (lv_sub hl [2, 3, 4, 5, 6] rfl)
  refine gw_if_ne (tgt := 673) C dL_law_658 (by decide) (by omega) (fun _ => hg) (fun hK0 => ?_)
  refine lv_aload_n C.1 C.2.1 dL_law_661 rfl (lv_at hl 6 rfl) ?_
  refine lv_iconst (v := nI 0) C.1 C.2.1 dL_law_662 (by decide +kernel) ?_
  refine gw_lld (x := 0) (len := 1) (F := f1) C Hh 0 rfl (by decide) dL_law_663 (by decide) ?_
  refine lv_iload C.1 C.2.1 dL_law_664 (lv_at hl 0 rfl) ?_
  refine lv_i2l C.1 C.2.1 dL_law_666 (lg_i2lx (nI k')) ?_
  refine W.lcmp C.1 C.2.1 dL_law_667 ?_
  exact lv_if_eq (tgt := 673) C.1 C.2.1 dL_law_668 (by decide) (fun _ => hg) (fun h9 => absurd (lg_self (congrArg Int64.ofInt (j3 hK0))) h9)
theorem law_close {p : Program} {l : Launch} {e : Env} {s : State} {m : MethodId} {args : Array Value} {below : List Frame} {meth : Method} {c : Code} {H : Heap} {locs : List Loc} {cells slots : Nat} {Q : State → Prop} {ls : Array Slot} {G : gw_G} {A : Nat → Prop} {q q2 : Nat → Nat} {o b L i : Nat} {u : pf_S} {v : md_S} {f : Nat → Int} {xs : Nat → Int32} {ret : Option FieldType}
    (hst9 : l.stackTraces = false) (C : gw_C p s m args meth c G RL cL_law 7 ret) (X : gx_C s A) (N : hx_N s) (hX : va_X b L xs s s.heap) (hbl : b < s.heap.size) (hbA : ¬ A b) (hL : L < 2 ^ 31) (hi : i + 5 ≤ L) (hR : Rl u v) (Hh : gw_H G A s (LW G q q2 o u f v) H locs) (hl : lv_has ls 7 [(4, .int (nI i)), (0, .ref b), (1, .ref (q 0)), (2, .ref (q2 0)), (3, .ref o)]) (h0 : cells + 1 ≤ 1095 ∧ slots + 6 ≤ 11558)
    (kk : ∀ (u1 : pf_S) (v1 : md_S) (f1 : Nat → Int) (H1 : Heap) (locs1 : List Loc) (ls1 : Array Slot), Rl u1 v1 → gw_H G A s (LW G q q2 o u1 f1 v1) H1 locs1 → lv_has ls1 7 [(4, .int (nI i)), (0, .ref b), (1, .ref (q 0)), (2, .ref (q2 0)), (3, .ref o)] → W p l e room_1 s m args below meth c H1 locs1 (cells + 1) (slots + 6) Q (F0 m 1165 ls1 [])) : W p l e room_1 s m args below meth c H locs cells slots Q (F0 m 676 ls []) := by
  refine lv_aload_n C.1 C.2.1 dL_law_676 rfl (lv_at hl 2 rfl) ?_
  refine lv_aload_n C.1 C.2.1 dL_law_677 rfl (lv_at hl 1 rfl) ?_
  refine lv_iload C.1 C.2.1 dL_law_678 (lv_at hl 0 rfl) ?_
  refine lv_iconst (v := nI 1) C.1 C.2.1 dL_law_680 (by decide +kernel) ?_
  refine gw_iadd C dL_law_681 ?_
  refine ll_ld C Hh hX hbl hbA hL (by omega) dL_law_682 ?_
  refine lv_aload_n C.1 C.2.1 dL_law_683 rfl (lv_at hl 4 rfl) ?_
  refine ll_help (n := 3) (rest := []) [.ref (q 0), .int (xs (i + 1)), .ref o] C X N Hh (c_L_close l G q o u f (xs (i + 1)) hst9 hR.1) tw_602 tw_603 tw_65 tw_604 (by decide +kernel) ⟨Nat.le_of_ble_eq_true rfl, Nat.le_of_ble_eq_true rfl⟩ rfl hl.1 (Nat.le_of_ble_eq_true rfl) dL_law_684 h0 (fun r u1 f1 H locs hp Hh => ?_)
  obtain ⟨K, k, rfl, hK⟩ := hp
  refine lv_istore (lv' := [(5, .int (nI K)), (4, .int (nI i)), (0, .ref b), (1, .ref (q 0)), (2, .ref (q2 0)), (3, .ref o)]) C.1 C.2.1 dL_law_687 hl (by decide) rfl (fun ls hl => ?_)
  refine lv_aload_n C.1 C.2.1 dL_law_689 rfl (lv_at hl 4 rfl) ?_
  refine lv_aload_n C.1 C.2.1 dL_law_690 rfl (lv_at hl 2 rfl) ?_
  refine lv_iload C.1 C.2.1 dL_law_691 (lv_at hl 1 rfl) ?_
  refine lv_iconst (v := nI 1) C.1 C.2.1 dL_law_693 (by decide +kernel) ?_
  refine gw_iadd C dL_law_694 ?_
  refine ll_ld C Hh hX hbl hbA hL (by omega) dL_law_695 ?_
  refine ll_mod (n := 1) (rest := []) [.int (xs (i + 1))] C Hh (c_X5_close l G q2 v (xs (i + 1)) hR.2.1) tw_899 tw_900 tw_901 tw_71 tw_902 (by decide +kernel) ⟨Nat.le_of_ble_eq_true rfl, Nat.le_of_ble_eq_true rfl⟩ rfl hl.1 (Nat.le_of_ble_eq_true rfl) dL_law_696 ⟨h0.1, h0.2⟩ (fun r v1 H locs hp Hh => ?_)
  obtain ⟨k', rfl, hQ⟩ := hp
  obtain ⟨j1, j2, j3⟩ := jn (k' := k') hR (cdX_dt hR.2.2.1 _) hK hQ (fun hp hq => sX hR hp.2.1 hp.2.2 hq.1 hq.2)
  have j4 : K ≤ 3 := by rw [hK.1]; exact cdX_le
  refine lv_istore (lv' := [(6, .int (nI k')), (5, .int (nI K)), (4, .int (nI i)), (0, .ref b), (1, .ref (q 0)), (2, .ref (q2 0)), (3, .ref o)]) C.1 C.2.1 dL_law_699 hl (by decide) rfl (fun ls hl => ?_)
  refine lv_aload_n C.1 C.2.1 dL_law_701 rfl (lv_at hl 5 rfl) ?_
  refine ll_mod (n := 0) (rest := []) [] C Hh (c_X5_thrown l G q2 v1) tw_812 tw_813 tw_814 tw_71 tw_815 (by decide +kernel) ⟨Nat.le_of_ble_eq_true rfl, Nat.le_of_ble_eq_true rfl⟩ rfl hl.1 (Nat.le_of_ble_eq_true rfl) dL_law_702 ⟨h0.1, h0.2⟩ (fun r v2 H locs hp Hh => ?_)
  obtain ⟨k2, rfl, hk2, hv2⟩ := hp
  rw [hv2] at Hh
  rw [j1] at hk2
  subst hk2
  refine lv_iload C.1 C.2.1 dL_law_705 (lv_at hl 1 rfl) ?_
  refine gw_icmp_eq (tgt := 712) C dL_law_707 (by decide) (by omega) (by omega) (fun _ => ?_) (fun h9 => absurd rfl h9)
  refine lv_iload C.1 C.2.1 dL_law_712 (lv_at hl 1 rfl) ?_
  have hg : W p l e room_1 s m args below meth c H locs (cells + 1) (slots + 6) Q (F0 m 729 ls []) := by
    refine lv_goto (tgt := 1165) C.1 C.2.1 dL_law_729 (by decide) ?_
    exact kk u1 v1 f1 H locs ls j2 Hh (lv_sub hl [2, 3, 4, 5, 6] rfl)
  refine gw_if_ne (tgt := 729) C dL_law_714 (by decide) (by omega) (fun _ => hg) (fun hK0 => ?_)
  refine lv_aload_n C.1 C.2.1 dL_law_717 rfl (lv_at hl 6 rfl) ?_
  refine lv_iconst (v := nI 0) C.1 C.2.1 dL_law_718 (by decide +kernel) ?_
  refine gw_lld (x := 0) (len := 1) (F := f1) C Hh 0 rfl (by decide) dL_law_719 (by decide) ?_
  refine lv_iload C.1 C.2.1 dL_law_720 (lv_at hl 0 rfl) ?_
  refine lv_i2l C.1 C.2.1 dL_law_722 (lg_i2lx (nI k')) ?_
  refine W.lcmp C.1 C.2.1 dL_law_723 ?_
  exact lv_if_eq (tgt := 729) C.1 C.2.1 dL_law_724 (by decide) (fun _ => hg) (fun h9 => absurd (lg_self (congrArg Int64.ofInt (j3 hK0))) h9)
theorem law_promise {p : Program} {l : Launch} {e : Env} {s : State} {m : MethodId} {args : Array Value} {below : List Frame} {meth : Method} {c : Code} {H : Heap} {locs : List Loc} {cells slots : Nat} {Q : State → Prop} {ls : Array Slot} {G : gw_G} {A : Nat → Prop} {q q2 : Nat → Nat} {o b L i : Nat} {u : pf_S} {v : md_S} {f : Nat → Int} {xs : Nat → Int32} {ret : Option FieldType}
    (hst9 : l.stackTraces = false) (C : gw_C p s m args meth c G RL cL_law 7 ret) (X : gx_C s A) (N : hx_N s) (hX : va_X b L xs s s.heap) (hbl : b < s.heap.size) (hbA : ¬ A b) (hL : L < 2 ^ 31) (hi : i + 5 ≤ L) (hR : Rl u v) (Hh : gw_H G A s (LW G q q2 o u f v) H locs) (hl : lv_has ls 7 [(4, .int (nI i)), (0, .ref b), (1, .ref (q 0)), (2, .ref (q2 0)), (3, .ref o)]) (h0 : cells + 1 ≤ 1095 ∧ slots + 6 ≤ 11558)
    (kk : ∀ (u1 : pf_S) (v1 : md_S) (f1 : Nat → Int) (H1 : Heap) (locs1 : List Loc) (ls1 : Array Slot), Rl u1 v1 → gw_H G A s (LW G q q2 o u1 f1 v1) H1 locs1 → lv_has ls1 7 [(4, .int (nI i)), (0, .ref b), (1, .ref (q 0)), (2, .ref (q2 0)), (3, .ref o)] → W p l e room_1 s m args below meth c H1 locs1 (cells + 1) (slots + 6) Q (F0 m 1165 ls1 [])) : W p l e room_1 s m args below meth c H locs cells slots Q (F0 m 732 ls []) := by
  refine lv_aload_n C.1 C.2.1 dL_law_732 rfl (lv_at hl 2 rfl) ?_
  refine lv_aload_n C.1 C.2.1 dL_law_733 rfl (lv_at hl 1 rfl) ?_
  refine lv_iload C.1 C.2.1 dL_law_734 (lv_at hl 0 rfl) ?_
  refine lv_iconst (v := nI 1) C.1 C.2.1 dL_law_736 (by decide +kernel) ?_
  refine gw_iadd C dL_law_737 ?_
  refine ll_ld C Hh hX hbl hbA hL (by omega) dL_law_738 ?_
  refine lv_aload_n C.1 C.2.1 dL_law_739 rfl (lv_at hl 1 rfl) ?_
  refine lv_iload C.1 C.2.1 dL_law_740 (lv_at hl 0 rfl) ?_
  refine lv_iconst (v := nI 2) C.1 C.2.1 dL_law_742 (by decide +kernel) ?_
  refine gw_iadd C dL_law_743 ?_
  refine ll_ld C Hh hX hbl hbA hL (by omega) dL_law_744 ?_
  refine lv_aload_n C.1 C.2.1 dL_law_745 rfl (lv_at hl 4 rfl) ?_
  refine ll_help (n := 4) (rest := []) [.ref (q 0), .int (xs (i + 1)), .int (xs (i + 2)), .ref o] C X N Hh (c_L_promise l G q o u f (xs (i + 1)) (xs (i + 2)) hst9 hR.1) tw_615 tw_616 tw_65 tw_617 (by decide +kernel) ⟨Nat.le_of_ble_eq_true rfl, Nat.le_of_ble_eq_true rfl⟩ rfl hl.1 (Nat.le_of_ble_eq_true rfl) dL_law_746 h0 (fun r u1 f1 H locs hp Hh => ?_)
  obtain ⟨K, k, rfl, hK⟩ := hp
  refine lv_istore (lv' := [(5, .int (nI K)), (4, .int (nI i)), (0, .ref b), (1, .ref (q 0)), (2, .ref (q2 0)), (3, .ref o)]) C.1 C.2.1 dL_law_749 hl (by decide) rfl (fun ls hl => ?_)
  refine lv_aload_n C.1 C.2.1 dL_law_751 rfl (lv_at hl 4 rfl) ?_
  refine lv_aload_n C.1 C.2.1 dL_law_752 rfl (lv_at hl 2 rfl) ?_
  refine lv_iload C.1 C.2.1 dL_law_753 (lv_at hl 1 rfl) ?_
  refine lv_iconst (v := nI 1) C.1 C.2.1 dL_law_755 (by decide +kernel) ?_
  refine gw_iadd C dL_law_756 ?_
  refine ll_ld C Hh hX hbl hbA hL (by omega) dL_law_757 ?_
  refine lv_aload_n C.1 C.2.1 dL_law_758 rfl (lv_at hl 2 rfl) ?_
  refine lv_iload C.1 C.2.1 dL_law_759 (lv_at hl 1 rfl) ?_
  refine lv_iconst (v := nI 2) C.1 C.2.1 dL_law_761 (by decide +kernel) ?_
  refine gw_iadd C dL_law_762 ?_
  refine ll_ld C Hh hX hbl hbA hL (by omega) dL_law_763 ?_
  refine ll_mod (n := 2) (rest := []) [.int (xs (i + 1)), .int (xs (i + 2))] C Hh (c_X5_promise l G q2 v (xs (i + 1)) (xs (i + 2)) hR.2.1 (dt_met hR.2.2.1 hR.1.1) (dt_pos hR.2.2.1 hR.1.1.1 hR.2.2.2)) tw_907 tw_908 tw_909 tw_71 tw_910 (by decide +kernel) ⟨Nat.le_of_ble_eq_true rfl, Nat.le_of_ble_eq_true rfl⟩ rfl hl.1 (Nat.le_of_ble_eq_true rfl) dL_law_764 ⟨h0.1, h0.2⟩ (fun r v1 H locs hp Hh => ?_)
  obtain ⟨k', rfl, hQ⟩ := hp
  obtain ⟨j1, j2, j3⟩ := jn (k' := k') hR (rfl) hK hQ (fun hp hq => sP hR hp.1 hp.2 hq)
  have j4 : K ≤ 3 := by rw [hK.1]; exact cdP_le
  refine lv_istore (lv' := [(6, .int (nI k')), (5, .int (nI K)), (4, .int (nI i)), (0, .ref b), (1, .ref (q 0)), (2, .ref (q2 0)), (3, .ref o)]) C.1 C.2.1 dL_law_767 hl (by decide) rfl (fun ls hl => ?_)
  refine lv_aload_n C.1 C.2.1 dL_law_769 rfl (lv_at hl 5 rfl) ?_
  refine ll_mod (n := 0) (rest := []) [] C Hh (c_X5_thrown l G q2 v1) tw_812 tw_813 tw_814 tw_71 tw_815 (by decide +kernel) ⟨Nat.le_of_ble_eq_true rfl, Nat.le_of_ble_eq_true rfl⟩ rfl hl.1 (Nat.le_of_ble_eq_true rfl) dL_law_770 ⟨h0.1, h0.2⟩ (fun r v2 H locs hp Hh => ?_)
  obtain ⟨k2, rfl, hk2, hv2⟩ := hp
  rw [hv2] at Hh
  rw [j1] at hk2
  subst hk2
  refine lv_iload C.1 C.2.1 dL_law_773 (lv_at hl 1 rfl) ?_
  refine gw_icmp_eq (tgt := 780) C dL_law_775 (by decide) (by omega) (by omega) (fun _ => ?_) (fun h9 => absurd rfl h9)
  refine lv_iload C.1 C.2.1 dL_law_780 (lv_at hl 1 rfl) ?_
  have hg : W p l e room_1 s m args below meth c H locs (cells + 1) (slots + 6) Q (F0 m 797 ls []) := by
    refine lv_goto (tgt := 1165) C.1 C.2.1 dL_law_797 (by decide) ?_
    exact kk u1 v1 f1 H locs ls j2 Hh (lv_sub hl [2, 3, 4, 5, 6] rfl)
  refine gw_if_ne (tgt := 797) C dL_law_782 (by decide) (by omega) (fun _ => hg) (fun hK0 => ?_)
  refine lv_aload_n C.1 C.2.1 dL_law_785 rfl (lv_at hl 6 rfl) ?_
  refine lv_iconst (v := nI 0) C.1 C.2.1 dL_law_786 (by decide +kernel) ?_
  refine gw_lld (x := 0) (len := 1) (F := f1) C Hh 0 rfl (by decide) dL_law_787 (by decide) ?_
  refine lv_iload C.1 C.2.1 dL_law_788 (lv_at hl 0 rfl) ?_
  refine lv_i2l C.1 C.2.1 dL_law_790 (lg_i2lx (nI k')) ?_
  refine W.lcmp C.1 C.2.1 dL_law_791 ?_
  exact lv_if_eq (tgt := 797) C.1 C.2.1 dL_law_792 (by decide) (fun _ => hg) (fun h9 => absurd (lg_self (congrArg Int64.ofInt (j3 hK0))) h9)
theorem law_share {p : Program} {l : Launch} {e : Env} {s : State} {m : MethodId} {args : Array Value} {below : List Frame} {meth : Method} {c : Code} {H : Heap} {locs : List Loc} {cells slots : Nat} {Q : State → Prop} {ls : Array Slot} {G : gw_G} {A : Nat → Prop} {q q2 : Nat → Nat} {o b L i : Nat} {u : pf_S} {v : md_S} {f : Nat → Int} {xs : Nat → Int32} {ret : Option FieldType}
    (hst9 : l.stackTraces = false) (C : gw_C p s m args meth c G RL cL_law 7 ret) (X : gx_C s A) (N : hx_N s) (hX : va_X b L xs s s.heap) (hbl : b < s.heap.size) (hbA : ¬ A b) (hL : L < 2 ^ 31) (hi : i + 5 ≤ L) (hR : Rl u v) (Hh : gw_H G A s (LW G q q2 o u f v) H locs) (hl : lv_has ls 7 [(4, .int (nI i)), (0, .ref b), (1, .ref (q 0)), (2, .ref (q2 0)), (3, .ref o)]) (h0 : cells + 1 ≤ 1095 ∧ slots + 6 ≤ 11558)
    (kk : ∀ (u1 : pf_S) (v1 : md_S) (f1 : Nat → Int) (H1 : Heap) (locs1 : List Loc) (ls1 : Array Slot), Rl u1 v1 → gw_H G A s (LW G q q2 o u1 f1 v1) H1 locs1 → lv_has ls1 7 [(4, .int (nI i)), (0, .ref b), (1, .ref (q 0)), (2, .ref (q2 0)), (3, .ref o)] → W p l e room_1 s m args below meth c H1 locs1 (cells + 1) (slots + 6) Q (F0 m 1165 ls1 [])) : W p l e room_1 s m args below meth c H locs cells slots Q (F0 m 800 ls []) := by
  refine lv_aload_n C.1 C.2.1 dL_law_800 rfl (lv_at hl 2 rfl) ?_
  refine lv_aload_n C.1 C.2.1 dL_law_801 rfl (lv_at hl 1 rfl) ?_
  refine lv_iload C.1 C.2.1 dL_law_802 (lv_at hl 0 rfl) ?_
  refine lv_iconst (v := nI 1) C.1 C.2.1 dL_law_804 (by decide +kernel) ?_
  refine gw_iadd C dL_law_805 ?_
  refine ll_ld C Hh hX hbl hbA hL (by omega) dL_law_806 ?_
  refine lv_aload_n C.1 C.2.1 dL_law_807 rfl (lv_at hl 1 rfl) ?_
  refine lv_iload C.1 C.2.1 dL_law_808 (lv_at hl 0 rfl) ?_
  refine lv_iconst (v := nI 2) C.1 C.2.1 dL_law_810 (by decide +kernel) ?_
  refine gw_iadd C dL_law_811 ?_
  refine ll_ld C Hh hX hbl hbA hL (by omega) dL_law_812 ?_
  refine lv_aload_n C.1 C.2.1 dL_law_813 rfl (lv_at hl 4 rfl) ?_
  refine ll_help (n := 4) (rest := []) [.ref (q 0), .int (xs (i + 1)), .int (xs (i + 2)), .ref o] C X N Hh (c_L_share l G q o u f (xs (i + 1)) (xs (i + 2)) hst9 hR.1) tw_637 tw_638 tw_65 tw_639 (by decide +kernel) ⟨Nat.le_of_ble_eq_true rfl, Nat.le_of_ble_eq_true rfl⟩ rfl hl.1 (Nat.le_of_ble_eq_true rfl) dL_law_814 h0 (fun r u1 f1 H locs hp Hh => ?_)
  obtain ⟨K, k, rfl, hK⟩ := hp
  refine lv_istore (lv' := [(5, .int (nI K)), (4, .int (nI i)), (0, .ref b), (1, .ref (q 0)), (2, .ref (q2 0)), (3, .ref o)]) C.1 C.2.1 dL_law_817 hl (by decide) rfl (fun ls hl => ?_)
  refine lv_aload_n C.1 C.2.1 dL_law_819 rfl (lv_at hl 4 rfl) ?_
  refine lv_aload_n C.1 C.2.1 dL_law_820 rfl (lv_at hl 2 rfl) ?_
  refine lv_iload C.1 C.2.1 dL_law_821 (lv_at hl 1 rfl) ?_
  refine lv_iconst (v := nI 1) C.1 C.2.1 dL_law_823 (by decide +kernel) ?_
  refine gw_iadd C dL_law_824 ?_
  refine ll_ld C Hh hX hbl hbA hL (by omega) dL_law_825 ?_
  refine lv_aload_n C.1 C.2.1 dL_law_826 rfl (lv_at hl 2 rfl) ?_
  refine lv_iload C.1 C.2.1 dL_law_827 (lv_at hl 1 rfl) ?_
  refine lv_iconst (v := nI 2) C.1 C.2.1 dL_law_829 (by decide +kernel) ?_
  refine gw_iadd C dL_law_830 ?_
  refine ll_ld C Hh hX hbl hbA hL (by omega) dL_law_831 ?_
  refine ll_mod (n := 2) (rest := []) [.int (xs (i + 1)), .int (xs (i + 2))] C Hh (c_X5_share l G q2 v (xs (i + 1)) (xs (i + 2)) hR.2.1 (dt_met hR.2.2.1 hR.1.1) (dt_pos hR.2.2.1 hR.1.1.1 hR.2.2.2) (ki_dt hR.2.2.1 hR.1.2.2)) tw_916 tw_917 tw_918 tw_71 tw_919 (by decide +kernel) ⟨Nat.le_of_ble_eq_true rfl, Nat.le_of_ble_eq_true rfl⟩ rfl hl.1 (Nat.le_of_ble_eq_true rfl) dL_law_832 ⟨h0.1, h0.2⟩ (fun r v1 H locs hp Hh => ?_)
  obtain ⟨k', rfl, hQ⟩ := hp
  obtain ⟨j1, j2, j3⟩ := jn (k' := k') hR (cdH_dt hR.2.2.1 hR.1.1.1 _ _) hK hQ (fun hp hq => sH hR hp.1 hp.2 hq)
  have j4 : K ≤ 3 := by rw [hK.1]; exact cdH_le
  refine lv_istore (lv' := [(6, .int (nI k')), (5, .int (nI K)), (4, .int (nI i)), (0, .ref b), (1, .ref (q 0)), (2, .ref (q2 0)), (3, .ref o)]) C.1 C.2.1 dL_law_835 hl (by decide) rfl (fun ls hl => ?_)
  refine lv_aload_n C.1 C.2.1 dL_law_837 rfl (lv_at hl 5 rfl) ?_
  refine ll_mod (n := 0) (rest := []) [] C Hh (c_X5_thrown l G q2 v1) tw_812 tw_813 tw_814 tw_71 tw_815 (by decide +kernel) ⟨Nat.le_of_ble_eq_true rfl, Nat.le_of_ble_eq_true rfl⟩ rfl hl.1 (Nat.le_of_ble_eq_true rfl) dL_law_838 ⟨h0.1, h0.2⟩ (fun r v2 H locs hp Hh => ?_)
  obtain ⟨k2, rfl, hk2, hv2⟩ := hp
  rw [hv2] at Hh
  rw [j1] at hk2
  subst hk2
  refine lv_iload C.1 C.2.1 dL_law_841 (lv_at hl 1 rfl) ?_
  refine gw_icmp_eq (tgt := 848) C dL_law_843 (by decide) (by omega) (by omega) (fun _ => ?_) (fun h9 => absurd rfl h9)
  refine lv_iload C.1 C.2.1 dL_law_848 (lv_at hl 1 rfl) ?_
  have hg : W p l e room_1 s m args below meth c H locs (cells + 1) (slots + 6) Q (F0 m 865 ls []) := by
    refine lv_goto (tgt := 1165) C.1 C.2.1 dL_law_865 (by decide) ?_
    exact kk u1 v1 f1 H locs ls j2 Hh (lv_sub hl [2, 3, 4, 5, 6] rfl)
  refine gw_if_ne (tgt := 865) C dL_law_850 (by decide) (by omega) (fun _ => hg) (fun hK0 => ?_)
  refine lv_aload_n C.1 C.2.1 dL_law_853 rfl (lv_at hl 6 rfl) ?_
  refine lv_iconst (v := nI 0) C.1 C.2.1 dL_law_854 (by decide +kernel) ?_
  refine gw_lld (x := 0) (len := 1) (F := f1) C Hh 0 rfl (by decide) dL_law_855 (by decide) ?_
  refine lv_iload C.1 C.2.1 dL_law_856 (lv_at hl 0 rfl) ?_
  refine lv_i2l C.1 C.2.1 dL_law_858 (lg_i2lx (nI k')) ?_
  refine W.lcmp C.1 C.2.1 dL_law_859 ?_
  exact lv_if_eq (tgt := 865) C.1 C.2.1 dL_law_860 (by decide) (fun _ => hg) (fun h9 => absurd (lg_self (congrArg Int64.ofInt (j3 hK0))) h9)
theorem law_bars {p : Program} {l : Launch} {e : Env} {s : State} {m : MethodId} {args : Array Value} {below : List Frame} {meth : Method} {c : Code} {H : Heap} {locs : List Loc} {cells slots : Nat} {Q : State → Prop} {ls : Array Slot} {G : gw_G} {A : Nat → Prop} {q q2 : Nat → Nat} {o b L i : Nat} {u : pf_S} {v : md_S} {f : Nat → Int} {xs : Nat → Int32} {ret : Option FieldType}
    (hst9 : l.stackTraces = false) (C : gw_C p s m args meth c G RL cL_law 7 ret) (X : gx_C s A) (N : hx_N s) (hX : va_X b L xs s s.heap) (hbl : b < s.heap.size) (hbA : ¬ A b) (hL : L < 2 ^ 31) (hi : i + 5 ≤ L) (hR : Rl u v) (Hh : gw_H G A s (LW G q q2 o u f v) H locs) (hl : lv_has ls 7 [(4, .int (nI i)), (0, .ref b), (1, .ref (q 0)), (2, .ref (q2 0)), (3, .ref o)]) (h0 : cells + 1 ≤ 1095 ∧ slots + 6 ≤ 11558)
    (kk : ∀ (u1 : pf_S) (v1 : md_S) (f1 : Nat → Int) (H1 : Heap) (locs1 : List Loc) (ls1 : Array Slot), Rl u1 v1 → gw_H G A s (LW G q q2 o u1 f1 v1) H1 locs1 → lv_has ls1 7 [(4, .int (nI i)), (0, .ref b), (1, .ref (q 0)), (2, .ref (q2 0)), (3, .ref o)] → W p l e room_1 s m args below meth c H1 locs1 (cells + 1) (slots + 6) Q (F0 m 1165 ls1 [])) : W p l e room_1 s m args below meth c H locs cells slots Q (F0 m 868 ls []) := by
  refine lv_aload_n C.1 C.2.1 dL_law_868 rfl (lv_at hl 2 rfl) ?_
  refine lv_aload_n C.1 C.2.1 dL_law_869 rfl (lv_at hl 1 rfl) ?_
  refine lv_iload C.1 C.2.1 dL_law_870 (lv_at hl 0 rfl) ?_
  refine lv_iconst (v := nI 1) C.1 C.2.1 dL_law_872 (by decide +kernel) ?_
  refine gw_iadd C dL_law_873 ?_
  refine ll_ld C Hh hX hbl hbA hL (by omega) dL_law_874 ?_
  refine lv_aload_n C.1 C.2.1 dL_law_875 rfl (lv_at hl 1 rfl) ?_
  refine lv_iload C.1 C.2.1 dL_law_876 (lv_at hl 0 rfl) ?_
  refine lv_iconst (v := nI 2) C.1 C.2.1 dL_law_878 (by decide +kernel) ?_
  refine gw_iadd C dL_law_879 ?_
  refine ll_ld C Hh hX hbl hbA hL (by omega) dL_law_880 ?_
  refine lv_aload_n C.1 C.2.1 dL_law_881 rfl (lv_at hl 1 rfl) ?_
  refine lv_iload C.1 C.2.1 dL_law_882 (lv_at hl 0 rfl) ?_
  refine lv_iconst (v := nI 3) C.1 C.2.1 dL_law_884 (by decide +kernel) ?_
  refine gw_iadd C dL_law_885 ?_
  refine ll_ld C Hh hX hbl hbA hL (by omega) dL_law_886 ?_
  refine lv_aload_n C.1 C.2.1 dL_law_887 rfl (lv_at hl 4 rfl) ?_
  refine ll_help (n := 5) (rest := []) [.ref (q 0), .int (xs (i + 1)), .int (xs (i + 2)), .int (xs (i + 3)), .ref o] C X N Hh (c_L_bars l G q o u f (xs (i + 1)) (xs (i + 2)) (xs (i + 3)) hst9 hR.1) tw_667 tw_668 tw_65 tw_669 (by decide +kernel) ⟨Nat.le_of_ble_eq_true rfl, Nat.le_of_ble_eq_true rfl⟩ rfl hl.1 (Nat.le_of_ble_eq_true rfl) dL_law_888 h0 (fun r u1 f1 H locs hp Hh => ?_)
  obtain ⟨K, k, rfl, hK⟩ := hp
  refine lv_istore (lv' := [(5, .int (nI K)), (4, .int (nI i)), (0, .ref b), (1, .ref (q 0)), (2, .ref (q2 0)), (3, .ref o)]) C.1 C.2.1 dL_law_891 hl (by decide) rfl (fun ls hl => ?_)
  refine lv_aload_n C.1 C.2.1 dL_law_893 rfl (lv_at hl 4 rfl) ?_
  refine lv_aload_n C.1 C.2.1 dL_law_894 rfl (lv_at hl 2 rfl) ?_
  refine lv_iload C.1 C.2.1 dL_law_895 (lv_at hl 1 rfl) ?_
  refine lv_iconst (v := nI 1) C.1 C.2.1 dL_law_897 (by decide +kernel) ?_
  refine gw_iadd C dL_law_898 ?_
  refine ll_ld C Hh hX hbl hbA hL (by omega) dL_law_899 ?_
  refine lv_aload_n C.1 C.2.1 dL_law_900 rfl (lv_at hl 2 rfl) ?_
  refine lv_iload C.1 C.2.1 dL_law_901 (lv_at hl 1 rfl) ?_
  refine lv_iconst (v := nI 2) C.1 C.2.1 dL_law_903 (by decide +kernel) ?_
  refine gw_iadd C dL_law_904 ?_
  refine ll_ld C Hh hX hbl hbA hL (by omega) dL_law_905 ?_
  refine lv_aload_n C.1 C.2.1 dL_law_906 rfl (lv_at hl 2 rfl) ?_
  refine lv_iload C.1 C.2.1 dL_law_907 (lv_at hl 1 rfl) ?_
  refine lv_iconst (v := nI 3) C.1 C.2.1 dL_law_909 (by decide +kernel) ?_
  refine gw_iadd C dL_law_910 ?_
  refine ll_ld C Hh hX hbl hbA hL (by omega) dL_law_911 ?_
  refine ll_mod (n := 3) (rest := []) [.int (xs (i + 1)), .int (xs (i + 2)), .int (xs (i + 3))] C Hh (c_X5_bars l G q2 v (xs (i + 1)) (xs (i + 2)) (xs (i + 3)) (tk_x u) hR.2.1 (Rl_X hR)) tw_921 tw_922 tw_923 tw_71 tw_924 (by decide +kernel) ⟨Nat.le_of_ble_eq_true rfl, Nat.le_of_ble_eq_true rfl⟩ rfl hl.1 (Nat.le_of_ble_eq_true rfl) dL_law_912 ⟨h0.1, h0.2⟩ (fun r v1 H locs hp Hh => ?_)
  obtain ⟨k', rfl, hQ⟩ := hp
  obtain ⟨j1, j2, j3⟩ := jn (k' := k') hR (cdB_dt hR.2.2.1 _ _ _) hK hQ (fun hp hq => sB hR hp.1 hp.2 hq)
  have j4 : K ≤ 3 := by rw [hK.1]; exact cdB_le
  refine lv_istore (lv' := [(6, .int (nI k')), (5, .int (nI K)), (4, .int (nI i)), (0, .ref b), (1, .ref (q 0)), (2, .ref (q2 0)), (3, .ref o)]) C.1 C.2.1 dL_law_915 hl (by decide) rfl (fun ls hl => ?_)
  refine lv_aload_n C.1 C.2.1 dL_law_917 rfl (lv_at hl 5 rfl) ?_
  refine ll_mod (n := 0) (rest := []) [] C Hh (c_X5_thrown l G q2 v1) tw_812 tw_813 tw_814 tw_71 tw_815 (by decide +kernel) ⟨Nat.le_of_ble_eq_true rfl, Nat.le_of_ble_eq_true rfl⟩ rfl hl.1 (Nat.le_of_ble_eq_true rfl) dL_law_918 ⟨h0.1, h0.2⟩ (fun r v2 H locs hp Hh => ?_)
  obtain ⟨k2, rfl, hk2, hv2⟩ := hp
  rw [hv2] at Hh
  rw [j1] at hk2
  subst hk2
  refine lv_iload C.1 C.2.1 dL_law_921 (lv_at hl 1 rfl) ?_
  refine gw_icmp_eq (tgt := 928) C dL_law_923 (by decide) (by omega) (by omega) (fun _ => ?_) (fun h9 => absurd rfl h9)
  refine lv_iload C.1 C.2.1 dL_law_928 (lv_at hl 1 rfl) ?_
  have hg : W p l e room_1 s m args below meth c H locs (cells + 1) (slots + 6) Q (F0 m 945 ls []) := by
    refine lv_goto (tgt := 1165) C.1 C.2.1 dL_law_945 (by decide) ?_
    exact kk u1 v1 f1 H locs ls j2 Hh (lv_sub hl [2, 3, 4, 5, 6] rfl)
  refine gw_if_ne (tgt := 945) C dL_law_930 (by decide) (by omega) (fun _ => hg) (fun hK0 => ?_)
  refine lv_aload_n C.1 C.2.1 dL_law_933 rfl (lv_at hl 6 rfl) ?_
  refine lv_iconst (v := nI 0) C.1 C.2.1 dL_law_934 (by decide +kernel) ?_
  refine gw_lld (x := 0) (len := 1) (F := f1) C Hh 0 rfl (by decide) dL_law_935 (by decide) ?_
  refine lv_iload C.1 C.2.1 dL_law_936 (lv_at hl 0 rfl) ?_
  refine lv_i2l C.1 C.2.1 dL_law_938 (lg_i2lx (nI k')) ?_
  refine W.lcmp C.1 C.2.1 dL_law_939 ?_
  exact lv_if_eq (tgt := 945) C.1 C.2.1 dL_law_940 (by decide) (fun _ => hg) (fun h9 => absurd (lg_self (congrArg Int64.ofInt (j3 hK0))) h9)
theorem law_flow {p : Program} {l : Launch} {e : Env} {s : State} {m : MethodId} {args : Array Value} {below : List Frame} {meth : Method} {c : Code} {H : Heap} {locs : List Loc} {cells slots : Nat} {Q : State → Prop} {ls : Array Slot} {G : gw_G} {A : Nat → Prop} {q q2 : Nat → Nat} {o b L i : Nat} {u : pf_S} {v : md_S} {f : Nat → Int} {xs : Nat → Int32} {ret : Option FieldType}
    (hst9 : l.stackTraces = false) (C : gw_C p s m args meth c G RL cL_law 7 ret) (X : gx_C s A) (N : hx_N s) (hX : va_X b L xs s s.heap) (hbl : b < s.heap.size) (hbA : ¬ A b) (hL : L < 2 ^ 31) (hi : i + 5 ≤ L) (hR : Rl u v) (Hh : gw_H G A s (LW G q q2 o u f v) H locs) (hl : lv_has ls 7 [(4, .int (nI i)), (0, .ref b), (1, .ref (q 0)), (2, .ref (q2 0)), (3, .ref o)]) (h0 : cells + 1 ≤ 1095 ∧ slots + 6 ≤ 11558)
    (kk : ∀ (u1 : pf_S) (v1 : md_S) (f1 : Nat → Int) (H1 : Heap) (locs1 : List Loc) (ls1 : Array Slot), Rl u1 v1 → gw_H G A s (LW G q q2 o u1 f1 v1) H1 locs1 → lv_has ls1 7 [(4, .int (nI i)), (0, .ref b), (1, .ref (q 0)), (2, .ref (q2 0)), (3, .ref o)] → W p l e room_1 s m args below meth c H1 locs1 (cells + 1) (slots + 6) Q (F0 m 1165 ls1 [])) : W p l e room_1 s m args below meth c H locs cells slots Q (F0 m 948 ls []) := by
  refine lv_aload_n C.1 C.2.1 dL_law_948 rfl (lv_at hl 2 rfl) ?_
  refine lv_aload_n C.1 C.2.1 dL_law_949 rfl (lv_at hl 1 rfl) ?_
  refine lv_iload C.1 C.2.1 dL_law_950 (lv_at hl 0 rfl) ?_
  refine lv_iconst (v := nI 1) C.1 C.2.1 dL_law_952 (by decide +kernel) ?_
  refine gw_iadd C dL_law_953 ?_
  refine ll_ld C Hh hX hbl hbA hL (by omega) dL_law_954 ?_
  refine lv_aload_n C.1 C.2.1 dL_law_955 rfl (lv_at hl 1 rfl) ?_
  refine lv_iload C.1 C.2.1 dL_law_956 (lv_at hl 0 rfl) ?_
  refine lv_iconst (v := nI 2) C.1 C.2.1 dL_law_958 (by decide +kernel) ?_
  refine gw_iadd C dL_law_959 ?_
  refine ll_ld C Hh hX hbl hbA hL (by omega) dL_law_960 ?_
  refine lv_aload_n C.1 C.2.1 dL_law_961 rfl (lv_at hl 1 rfl) ?_
  refine lv_iload C.1 C.2.1 dL_law_962 (lv_at hl 0 rfl) ?_
  refine lv_iconst (v := nI 3) C.1 C.2.1 dL_law_964 (by decide +kernel) ?_
  refine gw_iadd C dL_law_965 ?_
  refine ll_ld C Hh hX hbl hbA hL (by omega) dL_law_966 ?_
  refine lv_aload_n C.1 C.2.1 dL_law_967 rfl (lv_at hl 4 rfl) ?_
  refine ll_help (n := 5) (rest := []) [.ref (q 0), .int (xs (i + 1)), .int (xs (i + 2)), .int (xs (i + 3)), .ref o] C X N Hh (c_L_flow l G q o u f (xs (i + 1)) (xs (i + 2)) (xs (i + 3)) hst9 hR.1) tw_687 tw_688 tw_65 tw_689 (by decide +kernel) ⟨Nat.le_of_ble_eq_true rfl, Nat.le_of_ble_eq_true rfl⟩ rfl hl.1 (Nat.le_of_ble_eq_true rfl) dL_law_968 h0 (fun r u1 f1 H locs hp Hh => ?_)
  obtain ⟨K, k, rfl, hK⟩ := hp
  refine lv_istore (lv' := [(5, .int (nI K)), (4, .int (nI i)), (0, .ref b), (1, .ref (q 0)), (2, .ref (q2 0)), (3, .ref o)]) C.1 C.2.1 dL_law_971 hl (by decide) rfl (fun ls hl => ?_)
  refine lv_aload_n C.1 C.2.1 dL_law_973 rfl (lv_at hl 4 rfl) ?_
  refine lv_aload_n C.1 C.2.1 dL_law_974 rfl (lv_at hl 2 rfl) ?_
  refine lv_iload C.1 C.2.1 dL_law_975 (lv_at hl 1 rfl) ?_
  refine lv_iconst (v := nI 1) C.1 C.2.1 dL_law_977 (by decide +kernel) ?_
  refine gw_iadd C dL_law_978 ?_
  refine ll_ld C Hh hX hbl hbA hL (by omega) dL_law_979 ?_
  refine lv_aload_n C.1 C.2.1 dL_law_980 rfl (lv_at hl 2 rfl) ?_
  refine lv_iload C.1 C.2.1 dL_law_981 (lv_at hl 1 rfl) ?_
  refine lv_iconst (v := nI 2) C.1 C.2.1 dL_law_983 (by decide +kernel) ?_
  refine gw_iadd C dL_law_984 ?_
  refine ll_ld C Hh hX hbl hbA hL (by omega) dL_law_985 ?_
  refine lv_aload_n C.1 C.2.1 dL_law_986 rfl (lv_at hl 2 rfl) ?_
  refine lv_iload C.1 C.2.1 dL_law_987 (lv_at hl 1 rfl) ?_
  refine lv_iconst (v := nI 3) C.1 C.2.1 dL_law_989 (by decide +kernel) ?_
  refine gw_iadd C dL_law_990 ?_
  refine ll_ld C Hh hX hbl hbA hL (by omega) dL_law_991 ?_
  refine ll_mod (n := 3) (rest := []) [.int (xs (i + 1)), .int (xs (i + 2)), .int (xs (i + 3))] C Hh (c_X5_flow l G q2 v (xs (i + 1)) (xs (i + 2)) (xs (i + 3)) (tk_x u) hR.2.1 (Rl_X hR)) tw_937 tw_938 tw_939 tw_71 tw_940 (by decide +kernel) ⟨Nat.le_of_ble_eq_true rfl, Nat.le_of_ble_eq_true rfl⟩ rfl hl.1 (Nat.le_of_ble_eq_true rfl) dL_law_992 ⟨h0.1, h0.2⟩ (fun r v1 H locs hp Hh => ?_)
  obtain ⟨k', rfl, hQ⟩ := hp
  obtain ⟨j1, j2, j3⟩ := jn (k' := k') hR (cdF_dt hR.2.2.1 _ _ _) hK hQ (fun hp hq => by rw [hp.2.2]; exact sW hR hp.1 hp.2.1 hq)
  have j4 : K ≤ 3 := by rw [hK.1]; exact cdF_le
  refine lv_istore (lv' := [(6, .int (nI k')), (5, .int (nI K)), (4, .int (nI i)), (0, .ref b), (1, .ref (q 0)), (2, .ref (q2 0)), (3, .ref o)]) C.1 C.2.1 dL_law_995 hl (by decide) rfl (fun ls hl => ?_)
  refine lv_aload_n C.1 C.2.1 dL_law_997 rfl (lv_at hl 5 rfl) ?_
  refine ll_mod (n := 0) (rest := []) [] C Hh (c_X5_thrown l G q2 v1) tw_812 tw_813 tw_814 tw_71 tw_815 (by decide +kernel) ⟨Nat.le_of_ble_eq_true rfl, Nat.le_of_ble_eq_true rfl⟩ rfl hl.1 (Nat.le_of_ble_eq_true rfl) dL_law_998 ⟨h0.1, h0.2⟩ (fun r v2 H locs hp Hh => ?_)
  obtain ⟨k2, rfl, hk2, hv2⟩ := hp
  rw [hv2] at Hh
  rw [j1] at hk2
  subst hk2
  refine lv_iload C.1 C.2.1 dL_law_1001 (lv_at hl 1 rfl) ?_
  refine gw_icmp_eq (tgt := 1008) C dL_law_1003 (by decide) (by omega) (by omega) (fun _ => ?_) (fun h9 => absurd rfl h9)
  refine lv_iload C.1 C.2.1 dL_law_1008 (lv_at hl 1 rfl) ?_
  have hg : W p l e room_1 s m args below meth c H locs (cells + 1) (slots + 6) Q (F0 m 1025 ls []) := by
    refine lv_goto (tgt := 1165) C.1 C.2.1 dL_law_1025 (by decide) ?_
    exact kk u1 v1 f1 H locs ls j2 Hh (lv_sub hl [2, 3, 4, 5, 6] rfl)
  refine gw_if_ne (tgt := 1025) C dL_law_1010 (by decide) (by omega) (fun _ => hg) (fun hK0 => ?_)
  refine lv_aload_n C.1 C.2.1 dL_law_1013 rfl (lv_at hl 6 rfl) ?_
  refine lv_iconst (v := nI 0) C.1 C.2.1 dL_law_1014 (by decide +kernel) ?_
  refine gw_lld (x := 0) (len := 1) (F := f1) C Hh 0 rfl (by decide) dL_law_1015 (by decide) ?_
  refine lv_iload C.1 C.2.1 dL_law_1016 (lv_at hl 0 rfl) ?_
  refine lv_i2l C.1 C.2.1 dL_law_1018 (lg_i2lx (nI k')) ?_
  refine W.lcmp C.1 C.2.1 dL_law_1019 ?_
  exact lv_if_eq (tgt := 1025) C.1 C.2.1 dL_law_1020 (by decide) (fun _ => hg) (fun h9 => absurd (lg_self (congrArg Int64.ofInt (j3 hK0))) h9)
theorem law_state {p : Program} {l : Launch} {e : Env} {s : State} {m : MethodId} {args : Array Value} {below : List Frame} {meth : Method} {c : Code} {H : Heap} {locs : List Loc} {cells slots : Nat} {Q : State → Prop} {ls : Array Slot} {G : gw_G} {A : Nat → Prop} {q q2 : Nat → Nat} {o b L i : Nat} {u : pf_S} {v : md_S} {f : Nat → Int} {xs : Nat → Int32} {ret : Option FieldType}
    (hst9 : l.stackTraces = false) (C : gw_C p s m args meth c G RL cL_law 7 ret) (X : gx_C s A) (N : hx_N s) (hX : va_X b L xs s s.heap) (hbl : b < s.heap.size) (hbA : ¬ A b) (hL : L < 2 ^ 31) (hi : i + 5 ≤ L) (hR : Rl u v) (Hh : gw_H G A s (LW G q q2 o u f v) H locs) (hl : lv_has ls 7 [(4, .int (nI i)), (0, .ref b), (1, .ref (q 0)), (2, .ref (q2 0)), (3, .ref o)]) (h0 : cells + 1 ≤ 1095 ∧ slots + 6 ≤ 11558)
    (kk : ∀ (u1 : pf_S) (v1 : md_S) (f1 : Nat → Int) (H1 : Heap) (locs1 : List Loc) (ls1 : Array Slot), Rl u1 v1 → gw_H G A s (LW G q q2 o u1 f1 v1) H1 locs1 → lv_has ls1 7 [(4, .int (nI i)), (0, .ref b), (1, .ref (q 0)), (2, .ref (q2 0)), (3, .ref o)] → W p l e room_1 s m args below meth c H1 locs1 (cells + 1) (slots + 6) Q (F0 m 1165 ls1 [])) : W p l e room_1 s m args below meth c H locs cells slots Q (F0 m 1028 ls []) := by
  refine lv_aload_n C.1 C.2.1 dL_law_1028 rfl (lv_at hl 2 rfl) ?_
  refine lv_aload_n C.1 C.2.1 dL_law_1029 rfl (lv_at hl 1 rfl) ?_
  refine lv_iload C.1 C.2.1 dL_law_1030 (lv_at hl 0 rfl) ?_
  refine lv_iconst (v := nI 1) C.1 C.2.1 dL_law_1032 (by decide +kernel) ?_
  refine gw_iadd C dL_law_1033 ?_
  refine ll_ld C Hh hX hbl hbA hL (by omega) dL_law_1034 ?_
  refine lv_aload_n C.1 C.2.1 dL_law_1035 rfl (lv_at hl 4 rfl) ?_
  refine ll_help (n := 3) (rest := []) [.ref (q 0), .int (xs (i + 1)), .ref o] C X N Hh (c_L_state l G q o u f (xs (i + 1)) hst9 hR.1) tw_703 tw_704 tw_65 tw_705 (by decide +kernel) ⟨Nat.le_of_ble_eq_true rfl, Nat.le_of_ble_eq_true rfl⟩ rfl hl.1 (Nat.le_of_ble_eq_true rfl) dL_law_1036 h0 (fun r u1 f1 H locs hp Hh => ?_)
  obtain ⟨K, k, rfl, hK⟩ := hp
  refine lv_istore (lv' := [(5, .int (nI K)), (4, .int (nI i)), (0, .ref b), (1, .ref (q 0)), (2, .ref (q2 0)), (3, .ref o)]) C.1 C.2.1 dL_law_1039 hl (by decide) rfl (fun ls hl => ?_)
  refine lv_aload_n C.1 C.2.1 dL_law_1041 rfl (lv_at hl 4 rfl) ?_
  refine lv_aload_n C.1 C.2.1 dL_law_1042 rfl (lv_at hl 2 rfl) ?_
  refine lv_iload C.1 C.2.1 dL_law_1043 (lv_at hl 1 rfl) ?_
  refine lv_iconst (v := nI 1) C.1 C.2.1 dL_law_1045 (by decide +kernel) ?_
  refine gw_iadd C dL_law_1046 ?_
  refine ll_ld C Hh hX hbl hbA hL (by omega) dL_law_1047 ?_
  refine ll_mod (n := 1) (rest := []) [.int (xs (i + 1))] C Hh (c_X5_state l G q2 v (xs (i + 1)) hR.2.1) tw_941 tw_942 tw_943 tw_71 tw_944 (by decide +kernel) ⟨Nat.le_of_ble_eq_true rfl, Nat.le_of_ble_eq_true rfl⟩ rfl hl.1 (Nat.le_of_ble_eq_true rfl) dL_law_1048 ⟨h0.1, h0.2⟩ (fun r v1 H locs hp Hh => ?_)
  obtain ⟨k', rfl, hQ⟩ := hp
  obtain ⟨j1, j2, j3⟩ := jn (k' := k') hR ((by rw [show v.1 2 = u.1 1 from hR.2.2.1.1.1.2])) hK hQ (fun hp hq => by rw [hp.2.2, hq.2]; exact sN hR hp.1 hp.2.1 hq.1)
  have j4 : K ≤ 3 := by rw [hK.1]; exact cdN_le
  refine lv_istore (lv' := [(6, .int (nI k')), (5, .int (nI K)), (4, .int (nI i)), (0, .ref b), (1, .ref (q 0)), (2, .ref (q2 0)), (3, .ref o)]) C.1 C.2.1 dL_law_1051 hl (by decide) rfl (fun ls hl => ?_)
  refine lv_aload_n C.1 C.2.1 dL_law_1053 rfl (lv_at hl 5 rfl) ?_
  refine ll_mod (n := 0) (rest := []) [] C Hh (c_X5_thrown l G q2 v1) tw_812 tw_813 tw_814 tw_71 tw_815 (by decide +kernel) ⟨Nat.le_of_ble_eq_true rfl, Nat.le_of_ble_eq_true rfl⟩ rfl hl.1 (Nat.le_of_ble_eq_true rfl) dL_law_1054 ⟨h0.1, h0.2⟩ (fun r v2 H locs hp Hh => ?_)
  obtain ⟨k2, rfl, hk2, hv2⟩ := hp
  rw [hv2] at Hh
  rw [j1] at hk2
  subst hk2
  refine lv_iload C.1 C.2.1 dL_law_1057 (lv_at hl 1 rfl) ?_
  refine gw_icmp_eq (tgt := 1064) C dL_law_1059 (by decide) (by omega) (by omega) (fun _ => ?_) (fun h9 => absurd rfl h9)
  refine lv_iload C.1 C.2.1 dL_law_1064 (lv_at hl 1 rfl) ?_
  have hg : W p l e room_1 s m args below meth c H locs (cells + 1) (slots + 6) Q (F0 m 1081 ls []) := by
    refine lv_goto (tgt := 1165) C.1 C.2.1 dL_law_1081 (by decide) ?_
    exact kk u1 v1 f1 H locs ls j2 Hh (lv_sub hl [2, 3, 4, 5, 6] rfl)
  refine gw_if_ne (tgt := 1081) C dL_law_1066 (by decide) (by omega) (fun _ => hg) (fun hK0 => ?_)
  refine lv_aload_n C.1 C.2.1 dL_law_1069 rfl (lv_at hl 6 rfl) ?_
  refine lv_iconst (v := nI 0) C.1 C.2.1 dL_law_1070 (by decide +kernel) ?_
  refine gw_lld (x := 0) (len := 1) (F := f1) C Hh 0 rfl (by decide) dL_law_1071 (by decide) ?_
  refine lv_iload C.1 C.2.1 dL_law_1072 (lv_at hl 0 rfl) ?_
  refine lv_i2l C.1 C.2.1 dL_law_1074 (lg_i2lx (nI k')) ?_
  refine W.lcmp C.1 C.2.1 dL_law_1075 ?_
  exact lv_if_eq (tgt := 1081) C.1 C.2.1 dL_law_1076 (by decide) (fun _ => hg) (fun h9 => absurd (lg_self (congrArg Int64.ofInt (j3 hK0))) h9)
theorem law_left {p : Program} {l : Launch} {e : Env} {s : State} {m : MethodId} {args : Array Value} {below : List Frame} {meth : Method} {c : Code} {H : Heap} {locs : List Loc} {cells slots : Nat} {Q : State → Prop} {ls : Array Slot} {G : gw_G} {A : Nat → Prop} {q q2 : Nat → Nat} {o b L i : Nat} {u : pf_S} {v : md_S} {f : Nat → Int} {xs : Nat → Int32} {ret : Option FieldType}
    (hst9 : l.stackTraces = false) (C : gw_C p s m args meth c G RL cL_law 7 ret) (X : gx_C s A) (N : hx_N s) (hX : va_X b L xs s s.heap) (hbl : b < s.heap.size) (hbA : ¬ A b) (hL : L < 2 ^ 31) (hi : i + 5 ≤ L) (hR : Rl u v) (Hh : gw_H G A s (LW G q q2 o u f v) H locs) (hl : lv_has ls 7 [(4, .int (nI i)), (0, .ref b), (1, .ref (q 0)), (2, .ref (q2 0)), (3, .ref o)]) (h0 : cells + 1 ≤ 1095 ∧ slots + 6 ≤ 11558)
    (kk : ∀ (u1 : pf_S) (v1 : md_S) (f1 : Nat → Int) (H1 : Heap) (locs1 : List Loc) (ls1 : Array Slot), Rl u1 v1 → gw_H G A s (LW G q q2 o u1 f1 v1) H1 locs1 → lv_has ls1 7 [(4, .int (nI i)), (0, .ref b), (1, .ref (q 0)), (2, .ref (q2 0)), (3, .ref o)] → W p l e room_1 s m args below meth c H1 locs1 (cells + 1) (slots + 6) Q (F0 m 1165 ls1 [])) : W p l e room_1 s m args below meth c H locs cells slots Q (F0 m 1084 ls []) := by
  refine lv_aload_n C.1 C.2.1 dL_law_1084 rfl (lv_at hl 2 rfl) ?_
  refine lv_aload_n C.1 C.2.1 dL_law_1085 rfl (lv_at hl 1 rfl) ?_
  refine lv_iload C.1 C.2.1 dL_law_1086 (lv_at hl 0 rfl) ?_
  refine lv_iconst (v := nI 1) C.1 C.2.1 dL_law_1088 (by decide +kernel) ?_
  refine gw_iadd C dL_law_1089 ?_
  refine ll_ld C Hh hX hbl hbA hL (by omega) dL_law_1090 ?_
  refine lv_aload_n C.1 C.2.1 dL_law_1091 rfl (lv_at hl 4 rfl) ?_
  refine ll_help (n := 3) (rest := []) [.ref (q 0), .int (xs (i + 1)), .ref o] C X N Hh (c_L_left l G q o u f (xs (i + 1)) hst9 hR.1) tw_710 tw_711 tw_65 tw_712 (by decide +kernel) ⟨Nat.le_of_ble_eq_true rfl, Nat.le_of_ble_eq_true rfl⟩ rfl hl.1 (Nat.le_of_ble_eq_true rfl) dL_law_1092 h0 (fun r u1 f1 H locs hp Hh => ?_)
  obtain ⟨K, k, rfl, hK⟩ := hp
  refine lv_istore (lv' := [(5, .int (nI K)), (4, .int (nI i)), (0, .ref b), (1, .ref (q 0)), (2, .ref (q2 0)), (3, .ref o)]) C.1 C.2.1 dL_law_1095 hl (by decide) rfl (fun ls hl => ?_)
  refine lv_aload_n C.1 C.2.1 dL_law_1097 rfl (lv_at hl 4 rfl) ?_
  refine lv_aload_n C.1 C.2.1 dL_law_1098 rfl (lv_at hl 2 rfl) ?_
  refine lv_iload C.1 C.2.1 dL_law_1099 (lv_at hl 1 rfl) ?_
  refine lv_iconst (v := nI 1) C.1 C.2.1 dL_law_1101 (by decide +kernel) ?_
  refine gw_iadd C dL_law_1102 ?_
  refine ll_ld C Hh hX hbl hbA hL (by omega) dL_law_1103 ?_
  refine ll_mod (n := 1) (rest := []) [.int (xs (i + 1))] C Hh (c_X5_left l G q2 v (xs (i + 1)) (tk_x u) hR.2.1 (Rl_X hR)) tw_945 tw_946 tw_947 tw_71 tw_948 (by decide +kernel) ⟨Nat.le_of_ble_eq_true rfl, Nat.le_of_ble_eq_true rfl⟩ rfl hl.1 (Nat.le_of_ble_eq_true rfl) dL_law_1104 ⟨h0.1, h0.2⟩ (fun r v1 H locs hp Hh => ?_)
  obtain ⟨k', rfl, hQ⟩ := hp
  obtain ⟨j1, j2, j3⟩ := jn (k' := k') hR ((by rw [show v.1 1 = u.1 0 from hR.2.2.1.1.1.1])) hK hQ (fun hp hq => by rw [hp.2.2]; exact sF hR hp.1 hp.2.1 hq)
  have j4 : K ≤ 3 := by rw [hK.1]; exact cdN_le
  refine lv_istore (lv' := [(6, .int (nI k')), (5, .int (nI K)), (4, .int (nI i)), (0, .ref b), (1, .ref (q 0)), (2, .ref (q2 0)), (3, .ref o)]) C.1 C.2.1 dL_law_1107 hl (by decide) rfl (fun ls hl => ?_)
  refine lv_aload_n C.1 C.2.1 dL_law_1109 rfl (lv_at hl 5 rfl) ?_
  refine ll_mod (n := 0) (rest := []) [] C Hh (c_X5_thrown l G q2 v1) tw_812 tw_813 tw_814 tw_71 tw_815 (by decide +kernel) ⟨Nat.le_of_ble_eq_true rfl, Nat.le_of_ble_eq_true rfl⟩ rfl hl.1 (Nat.le_of_ble_eq_true rfl) dL_law_1110 ⟨h0.1, h0.2⟩ (fun r v2 H locs hp Hh => ?_)
  obtain ⟨k2, rfl, hk2, hv2⟩ := hp
  rw [hv2] at Hh
  rw [j1] at hk2
  subst hk2
  refine lv_iload C.1 C.2.1 dL_law_1113 (lv_at hl 1 rfl) ?_
  refine gw_icmp_eq (tgt := 1120) C dL_law_1115 (by decide) (by omega) (by omega) (fun _ => ?_) (fun h9 => absurd rfl h9)
  refine lv_iload C.1 C.2.1 dL_law_1120 (lv_at hl 1 rfl) ?_
  have hg : W p l e room_1 s m args below meth c H locs (cells + 1) (slots + 6) Q (F0 m 1137 ls []) := by
    refine lv_goto (tgt := 1165) C.1 C.2.1 dL_law_1137 (by decide) ?_
    exact kk u1 v1 f1 H locs ls j2 Hh (lv_sub hl [2, 3, 4, 5, 6] rfl)
  refine gw_if_ne (tgt := 1137) C dL_law_1122 (by decide) (by omega) (fun _ => hg) (fun hK0 => ?_)
  refine lv_aload_n C.1 C.2.1 dL_law_1125 rfl (lv_at hl 6 rfl) ?_
  refine lv_iconst (v := nI 0) C.1 C.2.1 dL_law_1126 (by decide +kernel) ?_
  refine gw_lld (x := 0) (len := 1) (F := f1) C Hh 0 rfl (by decide) dL_law_1127 (by decide) ?_
  refine lv_iload C.1 C.2.1 dL_law_1128 (lv_at hl 0 rfl) ?_
  refine lv_i2l C.1 C.2.1 dL_law_1130 (lg_i2lx (nI k')) ?_
  refine W.lcmp C.1 C.2.1 dL_law_1131 ?_
  exact lv_if_eq (tgt := 1137) C.1 C.2.1 dL_law_1132 (by decide) (fun _ => hg) (fun h9 => absurd (lg_self (congrArg Int64.ofInt (j3 hK0))) h9)
theorem law_count {p : Program} {l : Launch} {e : Env} {s : State} {m : MethodId} {args : Array Value} {below : List Frame} {meth : Method} {c : Code} {H : Heap} {locs : List Loc} {cells slots : Nat} {Q : State → Prop} {ls : Array Slot} {G : gw_G} {A : Nat → Prop} {q q2 : Nat → Nat} {o b L i : Nat} {u : pf_S} {v : md_S} {f : Nat → Int} {xs : Nat → Int32} {ret : Option FieldType}
    (hst9 : l.stackTraces = false) (C : gw_C p s m args meth c G RL cL_law 7 ret) (X : gx_C s A) (N : hx_N s) (hX : va_X b L xs s s.heap) (hbl : b < s.heap.size) (hbA : ¬ A b) (hL : L < 2 ^ 31) (hi : i + 5 ≤ L) (hR : Rl u v) (Hh : gw_H G A s (LW G q q2 o u f v) H locs) (hl : lv_has ls 7 [(4, .int (nI i)), (0, .ref b), (1, .ref (q 0)), (2, .ref (q2 0)), (3, .ref o)]) (h0 : cells + 1 ≤ 1095 ∧ slots + 6 ≤ 11558)
    (kk : ∀ (u1 : pf_S) (v1 : md_S) (f1 : Nat → Int) (H1 : Heap) (locs1 : List Loc) (ls1 : Array Slot), Rl u1 v1 → gw_H G A s (LW G q q2 o u1 f1 v1) H1 locs1 → lv_has ls1 7 [(4, .int (nI i)), (0, .ref b), (1, .ref (q 0)), (2, .ref (q2 0)), (3, .ref o)] → W p l e room_1 s m args below meth c H1 locs1 (cells + 1) (slots + 6) Q (F0 m 1165 ls1 [])) : W p l e room_1 s m args below meth c H locs cells slots Q (F0 m 1140 ls []) := by
  refine lv_aload_n C.1 C.2.1 dL_law_1140 rfl (lv_at hl 2 rfl) ?_
  refine lv_aload_n C.1 C.2.1 dL_law_1141 rfl (lv_at hl 1 rfl) ?_
  refine lv_iload C.1 C.2.1 dL_law_1142 (lv_at hl 0 rfl) ?_
  refine lv_iconst (v := nI 1) C.1 C.2.1 dL_law_1144 (by decide +kernel) ?_
  refine gw_iadd C dL_law_1145 ?_
  refine ll_ld C Hh hX hbl hbA hL (by omega) dL_law_1146 ?_
  refine ll_cls (n := 1) (rest := []) [.int (xs (i + 1))] C Hh (c_X4_count l G q u (xs (i + 1)) hR.1) tw_231 tw_232 tw_233 tw_66 tw_234 (by decide +kernel) ⟨Nat.le_of_ble_eq_true rfl, Nat.le_of_ble_eq_true rfl⟩ rfl hl.1 (Nat.le_of_ble_eq_true rfl) dL_law_1147 ⟨Nat.le_trans (Nat.le_succ _) h0.1, Nat.le_trans (Nat.le_add_right _ 6) h0.2⟩ (fun r u1 H locs hp Hh => ?_)
  obtain ⟨k, rfl, hk, hu⟩ := hp
  rw [hu] at Hh
  refine lv_aload_n C.1 C.2.1 dL_law_1150 rfl (lv_at hl 3 rfl) ?_
  refine lv_aload_n C.1 C.2.1 dL_law_1151 rfl (lv_at hl 1 rfl) ?_
  refine lv_iload C.1 C.2.1 dL_law_1152 (lv_at hl 0 rfl) ?_
  refine lv_iconst (v := nI 1) C.1 C.2.1 dL_law_1154 (by decide +kernel) ?_
  refine gw_iadd C dL_law_1155 ?_
  refine ll_ld C Hh hX hbl hbA hL (by omega) dL_law_1156 ?_
  refine ll_mod (n := 1) (rest := [.int (nI k)]) [.int (xs (i + 1))] C Hh (c_X5_count l G q2 v (xs (i + 1)) hR.2.1) tw_949 tw_950 tw_951 tw_71 tw_952 (by decide +kernel) ⟨Nat.le_of_ble_eq_true rfl, Nat.le_of_ble_eq_true rfl⟩ rfl hl.1 (Nat.le_of_ble_eq_true rfl) dL_law_1157 ⟨Nat.le_trans (Nat.le_succ _) h0.1, Nat.le_trans (Nat.le_add_right _ 6) h0.2⟩ (fun r v1 H locs hp Hh => ?_)
  obtain ⟨k', rfl, hk', hv0, hs, hb⟩ := hp
  refine W.widen (k := cells + 1) (n := slots + 6) (Nat.le_succ _) (Nat.le_add_right _ 6) ?_
  refine lv_icmp_eq (tgt := 1165) C.1 C.2.1 dL_law_1160 (by decide) (fun _ => kk u v1 f H locs ls (Rl_sc hR hs hb) Hh hl) (fun h9 => absurd (by rw [hk, hk', cnt_dt hR.2.2.1 hR.1.1.1]) h9)
