set_option maxHeartbeats 4000000 in
set_option maxRecDepth 100000 in
theorem c_X1_isKit (l : Launch) (G : gw_G) (q : Nat → Nat) (u : pf_S) (g : Nat) (hg : g < 6) (hr : u.2 7 g < 2 ^ 31) : gw_MI l yX1_isKit cX1_isKit 2 (some .boolean) 0 0 [.ref (q 1), .int (nI (g))] G (pw G q) u (fun r u1 => ∃ k : Nat, r = nI k ∧ (k = (if 0 < u.2 7 g then 1 else 0) ∧ u1 = u)) := by
  refine gw_entryI (own := RX1) (by decide) rfl (Nat.le_of_ble_eq_true rfl) ?_
  intro p e s m args below meth c A ls C Hh hl
  have hl : lv_has ls 2 [(0, .ref (q 1)), (1, .int (nI (g)))] := hl
  refine lv_aload_n C.1 C.2.1 dX1_isKit_0 rfl (lv_at hl 0 rfl) ?_
  refine gw_get (Cn := RX1) (T := TX1) (N := 5) C Hh 1 pw_at1 rfl uwX1 2 (by decide) rfl tw_100 rfl dX1_isKit_1 ?_
  refine lv_iload_n C.1 C.2.1 dX1_isKit_4 rfl (lv_at hl 1 rfl) ?_
  refine gw_ld C Hh 7 pw_at7 (by decide) dX1_isKit_5 (by omega) ?_
  refine gw_if_le (tgt := 13) C dX1_isKit_6 (by decide) (by omega) (fun hc_6 => ?_) (fun hc_6 => ?_)
  · skip
    refine lv_iconst (v := nI 0) C.1 C.2.1 dX1_isKit_13 (by decide +kernel) ?_
    exact gw_zret (w := pw G q) (u := u) C Hh dX1_isKit_14 (by omega) ⟨_, rfl, by refine ⟨?_, rfl⟩; first | rfl | omega | (split <;> omega)⟩
  · skip
    refine lv_iconst (v := nI 1) C.1 C.2.1 dX1_isKit_9 (by decide +kernel) ?_
    refine lv_goto (tgt := 14) C.1 C.2.1 dX1_isKit_10 (by decide) ?_
    exact gw_zret (w := pw G q) (u := u) C Hh dX1_isKit_14 (by omega) ⟨_, rfl, by refine ⟨?_, rfl⟩; first | rfl | omega | (split <;> omega)⟩
