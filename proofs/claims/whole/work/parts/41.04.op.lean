set_option maxHeartbeats 4000000 in
set_option maxRecDepth 100000 in
theorem kl_op4 {p : Program} {l : Launch} {e : Env} {s : State} {m : MethodId} {below : List Frame} {meth : Method} {c : Code} {b L : Nat} {xs : Nat → Int32} (htr : l.stackTraces = false) (hL : L ≤ 2560) (C0 : lw_At p s m meth c b L xs) {A : Nat → Prop} (hA : ∀ q : Nat, s.heap.size ≤ q → A q) (hAf : ∀ q, A q → s.heap.size ≤ q) (G : kz_G) (xo hk aw az an hc ab ra rd0 hk0 aw0 az0 an0 rd1 hk1 aw1 az1 an1 rd2 hk2 aw2 az2 an2 mo mc mw mz mv mp mh ao : Nat) (hK : kz_K G s) (hE : kx_E A s s.heap) (i : Nat) (hi : i + 5 ≤ L) {cells slots : Nat} (hc9 : cells + 1 ≤ room_1.cells) (hs9 : slots + 6 ≤ room_1.slots) (hN : kl_K p l e s m below meth c b A G xo hk aw az an hc ab ra rd0 hk0 aw0 az0 an0 rd1 hk1 aw1 az1 an1 rd2 hk2 aw2 az2 an2 mo mc mw mz mv mp mh ao i (cells + 1) (slots + 6)) (tv : Int32) (cs : Nat → Nat) (mW : Nat → Int64) (mZ : Nat → Nat) (mV : Nat → Int32) (po : Nat → Bool) (pw : Nat → Nat) (pt0 pt1 pt2 : Nat) (fo : Nat → Int64) (hM : kl_M cs mW mZ po pw pt0 pt1 pt2) {H : Heap} {locs : List Loc} {ls : Array Slot} (hP : va_P G.1 vwCl (kl_W G xo hk aw az an hc ab ra rd0 hk0 aw0 az0 an0 rd1 hk1 aw1 az1 an1 rd2 hk2 aw2 az2 an2 mo mc mw mz mv mp mh ao tv cs mW mZ mV po pw pt0 pt1 pt2 fo) H) (hD : va_D A (kl_W G xo hk aw az an hc ab ra rd0 hk0 aw0 az0 an0 rd1 hk1 aw1 az1 an1 rd2 hk2 aw2 az2 an2 mo mc mw mz mv mp mh ao tv cs mW mZ mV po pw pt0 pt1 pt2 fo)) (hS : va_S A s.heap H locs) (hl : lv_has ls 7 [(0, .ref b), (1, .ref xo), (2, .ref mo), (3, .ref ao), (4, .int (nI i))]) : W p l e room_1 s m #[Value.ref b] below meth c H locs cells slots (lw_Z below #[Value.ref b] s) (F0 m 413 ls []) := by
  obtain ⟨hx, hb, hr, hml, hown0, hts, hX, hbl, hlocks, hgv⟩ := C0
  have hown : s.vm.findClass RL = some m.cls := hown0
  have hbA : ¬ A b := fun h => absurd (hAf b h) (Nat.not_le.mpr hbl)
  have hc0 : cells ≤ room_1.cells := Nat.le_trans (Nat.le_succ _) hc9
  have hs0 : slots ≤ room_1.slots := Nat.le_trans (Nat.le_add_right _ 6) hs9
  have hcs := hM.2.1
  have hmz := hM.1.2.2
  have hpw := hM.2.2.1
  have hp0 := hM.2.2.2.1.1
  have hp1 := hM.2.2.2.2.1.1
  have hp2 := hM.2.2.2.2.2.1
  have hP : va_P G.1 vwCl [(xo, .inr (3, [.ref hk, .ref hc, .ref ra])), (hk, .inr (1, [.ref aw, .ref az, .ref an, .int (nI (cs 0))])), (aw, .inl (gJ G, 120, .inr (.inl mW))), (az, .inl (gI G, 120, .inl (kz_z mZ))), (an, .inl (gI G, 120, .inl mV)), (hc, .inr (0, [.ref ab])), (ab, .inl (gI G, 8, .inl (kz_z kf_z0))), (ra, .inl (gO G, 3, .inr (.inr (.inr (.inr (kf_ra rd0 rd1 rd2)))))), (rd0, .inr (2, [.ref hk0, .int (kf_b (po 0)), .int (kf_p pt0)])), (hk0, .inr (1, [.ref aw0, .ref az0, .ref an0, .int (nI (cs 1))])), (aw0, .inl (gJ G, 120, .inr (.inl (kf_row mW 1)))), (az0, .inl (gI G, 120, .inl (kz_z (kf_row mZ 1)))), (an0, .inl (gI G, 120, .inl (kf_row mV 1))), (rd1, .inr (2, [.ref hk1, .int (kf_b (po 1)), .int (kf_p pt1)])), (hk1, .inr (1, [.ref aw1, .ref az1, .ref an1, .int (nI (cs 2))])), (aw1, .inl (gJ G, 120, .inr (.inl (kf_row mW 2)))), (az1, .inl (gI G, 120, .inl (kz_z (kf_row mZ 2)))), (an1, .inl (gI G, 120, .inl (kf_row mV 2))), (rd2, .inr (2, [.ref hk2, .int (kf_b (po 2)), .int (kf_p pt2)])), (hk2, .inr (1, [.ref aw2, .ref az2, .ref an2, .int (nI (cs 3))])), (aw2, .inl (gJ G, 120, .inr (.inl (kf_row mW 3)))), (az2, .inl (gI G, 120, .inl (kz_z (kf_row mZ 3)))), (an2, .inl (gI G, 120, .inl (kf_row mV 3))), (mo, .inr (4, [.int tv, .ref mc, .ref mw, .ref mz, .ref mv, .ref mp, .ref mh])), (mc, .inl (gI G, 4, .inl (kz_z cs))), (mw, .inl (gJ G, 480, .inr (.inl mW))), (mz, .inl (gI G, 480, .inl (kz_z mZ))), (mv, .inl (gI G, 480, .inl mV)), (mp, .inl (gZ G, 3, .inl (kz_bo po))), (mh, .inl (gI G, 3, .inl (kz_pw pw))), (ao, .inl (gJ G, 1, .inr (.inl fo)))] H := hP
  have hD : va_D A [(xo, .inr (3, [.ref hk, .ref hc, .ref ra])), (hk, .inr (1, [.ref aw, .ref az, .ref an, .int (nI (cs 0))])), (aw, .inl (gJ G, 120, .inr (.inl mW))), (az, .inl (gI G, 120, .inl (kz_z mZ))), (an, .inl (gI G, 120, .inl mV)), (hc, .inr (0, [.ref ab])), (ab, .inl (gI G, 8, .inl (kz_z kf_z0))), (ra, .inl (gO G, 3, .inr (.inr (.inr (.inr (kf_ra rd0 rd1 rd2)))))), (rd0, .inr (2, [.ref hk0, .int (kf_b (po 0)), .int (kf_p pt0)])), (hk0, .inr (1, [.ref aw0, .ref az0, .ref an0, .int (nI (cs 1))])), (aw0, .inl (gJ G, 120, .inr (.inl (kf_row mW 1)))), (az0, .inl (gI G, 120, .inl (kz_z (kf_row mZ 1)))), (an0, .inl (gI G, 120, .inl (kf_row mV 1))), (rd1, .inr (2, [.ref hk1, .int (kf_b (po 1)), .int (kf_p pt1)])), (hk1, .inr (1, [.ref aw1, .ref az1, .ref an1, .int (nI (cs 2))])), (aw1, .inl (gJ G, 120, .inr (.inl (kf_row mW 2)))), (az1, .inl (gI G, 120, .inl (kz_z (kf_row mZ 2)))), (an1, .inl (gI G, 120, .inl (kf_row mV 2))), (rd2, .inr (2, [.ref hk2, .int (kf_b (po 2)), .int (kf_p pt2)])), (hk2, .inr (1, [.ref aw2, .ref az2, .ref an2, .int (nI (cs 3))])), (aw2, .inl (gJ G, 120, .inr (.inl (kf_row mW 3)))), (az2, .inl (gI G, 120, .inl (kz_z (kf_row mZ 3)))), (an2, .inl (gI G, 120, .inl (kf_row mV 3))), (mo, .inr (4, [.int tv, .ref mc, .ref mw, .ref mz, .ref mv, .ref mp, .ref mh])), (mc, .inl (gI G, 4, .inl (kz_z cs))), (mw, .inl (gJ G, 480, .inr (.inl mW))), (mz, .inl (gI G, 480, .inl (kz_z mZ))), (mv, .inl (gI G, 480, .inl mV)), (mp, .inl (gZ G, 3, .inl (kz_bo po))), (mh, .inl (gI G, 3, .inl (kz_pw pw))), (ao, .inl (gJ G, 1, .inr (.inl fo)))] := hD
  obtain ⟨ww, hww⟩ : ∃ z : Int64, ((xs (i + 1)).toInt64 <<< ((32 : Int32).toInt64 &&& 63)) ||| ((xs (i + 2)).toInt64 &&& 4294967295) = z := ⟨_, rfl⟩
  refine lv_aload_n hx hb dL_law_413 rfl (lv_at hl 1 rfl) ?_
  refine lv_aload_n hx hb dL_law_414 rfl (lv_at hl 0 rfl) ?_
  refine lv_iload hx hb dL_law_415 (lv_at hl 4 rfl) ?_
  refine lv_iconst (v := 1) hx hb dL_law_417 (by decide) ?_
  refine lv_iadd hx hb dL_law_418 ?_
  refine kz_asi (y := nI (i + 1)) (nI_add i 1) ?_
  refine kz_sld hx hb hX hbl hbA hS (k := i + 1) (⟨by omega, by omega⟩) dL_law_419 ?_
  refine lv_i2l hx hb dL_law_420 rfl ?_
  refine lv_bipush (v := 32) hx hb dL_law_421 (by decide) ?_
  refine lv_lshl hx hb dL_law_423 rfl ?_
  refine lv_aload_n hx hb dL_law_424 rfl (lv_at hl 0 rfl) ?_
  refine lv_iload hx hb dL_law_425 (lv_at hl 4 rfl) ?_
  refine lv_iconst (v := 2) hx hb dL_law_427 (by decide) ?_
  refine lv_iadd hx hb dL_law_428 ?_
  refine kz_asi (y := nI (i + 2)) (nI_add i 2) ?_
  refine kz_sld hx hb hX hbl hbA hS (k := i + 2) (⟨by omega, by omega⟩) dL_law_429 ?_
  refine lv_i2l hx hb dL_law_430 rfl ?_
  refine lv_ldc2 (v := 4294967295) hx hb hown (hts _ kl_w35) dL_law_431 ?_
  refine lv_land hx hb dL_law_434 ?_
  refine lv_lor hx hb dL_law_435 ?_
  refine kz_asl (y := ww) hww ?_
  refine lv_aload_n hx hb dL_law_436 rfl (lv_at hl 0 rfl) ?_
  refine lv_iload hx hb dL_law_437 (lv_at hl 4 rfl) ?_
  refine lv_iconst (v := 3) hx hb dL_law_439 (by decide) ?_
  refine lv_iadd hx hb dL_law_440 ?_
  refine kz_asi (y := nI (i + 3)) (nI_add i 3) ?_
  refine kz_sld hx hb hX hbl hbA hS (k := i + 3) (⟨by omega, by omega⟩) dL_law_441 ?_
  have hPc := hP.sub (ws' := [(xo, .inr (3, [.ref hk, .ref hc, .ref ra])), (hk, .inr (1, [.ref aw, .ref az, .ref an, .int (nI (cs 0))])), (aw, .inl (gJ G, 120, .inr (.inl mW))), (az, .inl (gI G, 120, .inl (kz_z mZ))), (an, .inl (gI G, 120, .inl mV))]) [0, 1, 2, 3, 4] rfl
  refine kz_ci (v := if 0 ≤ xs (i + 3) ∧ xs (i + 3) ≤ 8 then nI (kf_cnt (kf_bw mW mZ (kf_cut ww (kf_zn (xs (i + 3)))) (kf_zn (xs (i + 3)))) (cs 0)) else 0) (va_runV (As := [.long ww, .int (xs (i + 3))]) (rest := []) ⟨hx, hb, hml, hown, hts⟩ (c_X3_within l G xo hc ra hk aw az an (cs 0) mW mZ mV ww (xs (i + 3)) (hcs 0) hmz) (cwV 2 hts kl_g_X3_within rfl rfl rfl (by decide +kernel) ⟨Nat.le_of_ble_eq_true rfl, Nat.le_of_ble_eq_true rfl⟩) (kz_pv hK hPc (va_recv hK.1 hPc (ci := 3) (q0 := 0) rfl rfl)) rfl rfl hl.1 rfl (lv_room (Nat.le_of_ble_eq_true rfl)) dL_law_442 ⟨hc0, hs0⟩).run ?_
  refine lv_aload_n hx hb dL_law_445 rfl (lv_at hl 2 rfl) ?_
  refine lv_aload_n hx hb dL_law_446 rfl (lv_at hl 0 rfl) ?_
  refine lv_iload hx hb dL_law_447 (lv_at hl 4 rfl) ?_
  refine lv_iconst (v := 1) hx hb dL_law_449 (by decide) ?_
  refine lv_iadd hx hb dL_law_450 ?_
  refine kz_asi (y := nI (i + 1)) (nI_add i 1) ?_
  refine kz_sld hx hb hX hbl hbA hS (k := i + 1) (⟨by omega, by omega⟩) dL_law_451 ?_
  refine lv_i2l hx hb dL_law_452 rfl ?_
  refine lv_bipush (v := 32) hx hb dL_law_453 (by decide) ?_
  refine lv_lshl hx hb dL_law_455 rfl ?_
  refine lv_aload_n hx hb dL_law_456 rfl (lv_at hl 0 rfl) ?_
  refine lv_iload hx hb dL_law_457 (lv_at hl 4 rfl) ?_
  refine lv_iconst (v := 2) hx hb dL_law_459 (by decide) ?_
  refine lv_iadd hx hb dL_law_460 ?_
  refine kz_asi (y := nI (i + 2)) (nI_add i 2) ?_
  refine kz_sld hx hb hX hbl hbA hS (k := i + 2) (⟨by omega, by omega⟩) dL_law_461 ?_
  refine lv_i2l hx hb dL_law_462 rfl ?_
  refine lv_ldc2 (v := 4294967295) hx hb hown (hts _ kl_w35) dL_law_463 ?_
  refine lv_land hx hb dL_law_466 ?_
  refine lv_lor hx hb dL_law_467 ?_
  refine kz_asl (y := ww) hww ?_
  refine lv_aload_n hx hb dL_law_468 rfl (lv_at hl 0 rfl) ?_
  refine lv_iload hx hb dL_law_469 (lv_at hl 4 rfl) ?_
  refine lv_iconst (v := 3) hx hb dL_law_471 (by decide) ?_
  refine lv_iadd hx hb dL_law_472 ?_
  refine kz_asi (y := nI (i + 3)) (nI_add i 3) ?_
  refine kz_sld hx hb hX hbl hbA hS (k := i + 3) (⟨by omega, by omega⟩) dL_law_473 ?_
  have hPc := hP.sub (ws' := [(mo, .inr (4, [.int tv, .ref mc, .ref mw, .ref mz, .ref mv, .ref mp, .ref mh])), (mc, .inl (gI G, 4, .inl (kz_z cs))), (mw, .inl (gJ G, 480, .inr (.inl mW))), (mz, .inl (gI G, 480, .inl (kz_z mZ))), (mv, .inl (gI G, 480, .inl mV)), (mp, .inl (gZ G, 3, .inl (kz_bo po))), (mh, .inl (gI G, 3, .inl (kz_pw pw)))]) [23, 24, 25, 26, 27, 28, 29] rfl
  have hDc := hD.sub (ws' := [(mo, .inr (4, [.int tv, .ref mc, .ref mw, .ref mz, .ref mv, .ref mp, .ref mh])), (mc, .inl (gI G, 4, .inl (kz_z cs))), (mw, .inl (gJ G, 480, .inr (.inl mW))), (mz, .inl (gI G, 480, .inl (kz_z mZ))), (mv, .inl (gI G, 480, .inl mV)), (mp, .inl (gZ G, 3, .inl (kz_bo po))), (mh, .inl (gI G, 3, .inl (kz_pw pw)))]) [23, 24, 25, 26, 27, 28, 29] (by decide) rfl
  have hFc := va_free (wc := [(mo, .inr (4, [.int tv, .ref mc, .ref mw, .ref mz, .ref mv, .ref mp, .ref mh])), (mc, .inl (gI G, 4, .inl (kz_z cs))), (mw, .inl (gJ G, 480, .inr (.inl mW))), (mz, .inl (gI G, 480, .inl (kz_z mZ))), (mv, .inl (gI G, 480, .inl mV)), (mp, .inl (gZ G, 3, .inl (kz_bo po))), (mh, .inl (gI G, 3, .inl (kz_pw pw)))]) hD hS hA [23, 24, 25, 26, 27, 28, 29] rfl
  refine va_calli (va_runV (As := [.long ww, .int (xs (i + 3))]) (rest := [.int (if 0 ≤ xs (i + 3) ∧ xs (i + 3) ≤ 8 then nI (kf_cnt (kf_bw mW mZ (kf_cut ww (kf_zn (xs (i + 3)))) (kf_zn (xs (i + 3)))) (cs 0)) else 0)]) ⟨hx, hb, hml, hown, hts⟩ (c_X4_within l G mo mc mw mz mv mp mh tv cs mW mZ mV po pw ww (xs (i + 3)) _ hcs hmz) (cwV 2 hts kl_g_X4_within rfl rfl rfl (by decide +kernel) ⟨Nat.le_of_ble_eq_true rfl, Nat.le_of_ble_eq_true rfl⟩) (kz_pvm hK hPc hDc (va_recv hK.1 hPc (ci := 4) (q0 := 0) rfl rfl)) rfl rfl hl.1 rfl (lv_room (Nat.le_of_ble_eq_true rfl)) dL_law_474 ⟨hc0, hs0⟩) hS (fun q _ h => hFc q h) hFc (fun r8 u t H locs ht hvm hw hB hqz9 hqk9 hS => ?_)
  obtain ⟨hr8, hu⟩ : r8 = (if 0 ≤ xs (i + 3) ∧ xs (i + 3) ≤ 8 then nI (kf_cnt (kf_bw mW mZ (kf_cut ww (kf_zn (xs (i + 3)))) (kf_zn (xs (i + 3)))) (cs 0)) else 0) ∧ u = [(mo, .inr (4, [.int 0, .ref mc, .ref mw, .ref mz, .ref mv, .ref mp, .ref mh])), (mc, .inl (gI G, 4, .inl (kz_z cs))), (mw, .inl (gJ G, 480, .inr (.inl mW))), (mz, .inl (gI G, 480, .inl (kz_z mZ))), (mv, .inl (gI G, 480, .inl mV)), (mp, .inl (gZ G, 3, .inl (kz_bo po))), (mh, .inl (gI G, 3, .inl (kz_pw pw)))] := by
    rcases hw with ⟨h1, h2, h3⟩ | ⟨zz, h1, h2, h3, h4⟩
    · exact ⟨h2.trans (if_neg h1).symm, h3⟩
    · refine ⟨?_, h4⟩
      rw [h2, if_pos (kl_ok h1), kl_zn h1, kf_within ww h1 (cs 0)]
      exact h3
  have hB : va_P G.1 vwCl u H := by rw [← ht]; exact hB
  rw [hu] at hB
  obtain ⟨hP, hD⟩ := va_join (wr := [(xo, .inr (3, [.ref hk, .ref hc, .ref ra])), (hk, .inr (1, [.ref aw, .ref az, .ref an, .int (nI (cs 0))])), (aw, .inl (gJ G, 120, .inr (.inl mW))), (az, .inl (gI G, 120, .inl (kz_z mZ))), (an, .inl (gI G, 120, .inl mV)), (hc, .inr (0, [.ref ab])), (ab, .inl (gI G, 8, .inl (kz_z kf_z0))), (ra, .inl (gO G, 3, .inr (.inr (.inr (.inr (kf_ra rd0 rd1 rd2)))))), (rd0, .inr (2, [.ref hk0, .int (kf_b (po 0)), .int (kf_p pt0)])), (hk0, .inr (1, [.ref aw0, .ref az0, .ref an0, .int (nI (cs 1))])), (aw0, .inl (gJ G, 120, .inr (.inl (kf_row mW 1)))), (az0, .inl (gI G, 120, .inl (kz_z (kf_row mZ 1)))), (an0, .inl (gI G, 120, .inl (kf_row mV 1))), (rd1, .inr (2, [.ref hk1, .int (kf_b (po 1)), .int (kf_p pt1)])), (hk1, .inr (1, [.ref aw1, .ref az1, .ref an1, .int (nI (cs 2))])), (aw1, .inl (gJ G, 120, .inr (.inl (kf_row mW 2)))), (az1, .inl (gI G, 120, .inl (kz_z (kf_row mZ 2)))), (an1, .inl (gI G, 120, .inl (kf_row mV 2))), (rd2, .inr (2, [.ref hk2, .int (kf_b (po 2)), .int (kf_p pt2)])), (hk2, .inr (1, [.ref aw2, .ref az2, .ref an2, .int (nI (cs 3))])), (aw2, .inl (gJ G, 120, .inr (.inl (kf_row mW 3)))), (az2, .inl (gI G, 120, .inl (kz_z (kf_row mZ 3)))), (an2, .inl (gI G, 120, .inl (kf_row mV 3))), (ao, .inl (gJ G, 1, .inr (.inl fo)))]) (w1 := [(mo, .inr (4, [.int 0, .ref mc, .ref mw, .ref mz, .ref mv, .ref mp, .ref mh])), (mc, .inl (gI G, 4, .inl (kz_z cs))), (mw, .inl (gJ G, 480, .inr (.inl mW))), (mz, .inl (gI G, 480, .inl (kz_z mZ))), (mv, .inl (gI G, 480, .inl mV)), (mp, .inl (gZ G, 3, .inl (kz_bo po))), (mh, .inl (gI G, 3, .inl (kz_pw pw)))]) hP hD [23, 24, 25, 26, 27, 28, 29] [0, 1, 2, 3, 4, 5, 6, 7, 8, 9, 10, 11, 12, 13, 14, 15, 16, 17, 18, 19, 20, 21, 22, 30] rfl rfl (by decide) (by decide) hqk9 hFc hB (kl_Dm (wc := [(mo, .inr (4, [.int tv, .ref mc, .ref mw, .ref mz, .ref mv, .ref mp, .ref mh])), (mc, .inl (gI G, 4, .inl (kz_z cs))), (mw, .inl (gJ G, 480, .inr (.inl mW))), (mz, .inl (gI G, 480, .inl (kz_z mZ))), (mv, .inl (gI G, 480, .inl mV)), (mp, .inl (gZ G, 3, .inl (kz_bo po))), (mh, .inl (gI G, 3, .inl (kz_pw pw)))]) rfl hDc.self)
  have hP := hP.sub (ws' := [(xo, .inr (3, [.ref hk, .ref hc, .ref ra])), (hk, .inr (1, [.ref aw, .ref az, .ref an, .int (nI (cs 0))])), (aw, .inl (gJ G, 120, .inr (.inl mW))), (az, .inl (gI G, 120, .inl (kz_z mZ))), (an, .inl (gI G, 120, .inl mV)), (hc, .inr (0, [.ref ab])), (ab, .inl (gI G, 8, .inl (kz_z kf_z0))), (ra, .inl (gO G, 3, .inr (.inr (.inr (.inr (kf_ra rd0 rd1 rd2)))))), (rd0, .inr (2, [.ref hk0, .int (kf_b (po 0)), .int (kf_p pt0)])), (hk0, .inr (1, [.ref aw0, .ref az0, .ref an0, .int (nI (cs 1))])), (aw0, .inl (gJ G, 120, .inr (.inl (kf_row mW 1)))), (az0, .inl (gI G, 120, .inl (kz_z (kf_row mZ 1)))), (an0, .inl (gI G, 120, .inl (kf_row mV 1))), (rd1, .inr (2, [.ref hk1, .int (kf_b (po 1)), .int (kf_p pt1)])), (hk1, .inr (1, [.ref aw1, .ref az1, .ref an1, .int (nI (cs 2))])), (aw1, .inl (gJ G, 120, .inr (.inl (kf_row mW 2)))), (az1, .inl (gI G, 120, .inl (kz_z (kf_row mZ 2)))), (an1, .inl (gI G, 120, .inl (kf_row mV 2))), (rd2, .inr (2, [.ref hk2, .int (kf_b (po 2)), .int (kf_p pt2)])), (hk2, .inr (1, [.ref aw2, .ref az2, .ref an2, .int (nI (cs 3))])), (aw2, .inl (gJ G, 120, .inr (.inl (kf_row mW 3)))), (az2, .inl (gI G, 120, .inl (kz_z (kf_row mZ 3)))), (an2, .inl (gI G, 120, .inl (kf_row mV 3))), (mo, .inr (4, [.int 0, .ref mc, .ref mw, .ref mz, .ref mv, .ref mp, .ref mh])), (mc, .inl (gI G, 4, .inl (kz_z cs))), (mw, .inl (gJ G, 480, .inr (.inl mW))), (mz, .inl (gI G, 480, .inl (kz_z mZ))), (mv, .inl (gI G, 480, .inl mV)), (mp, .inl (gZ G, 3, .inl (kz_bo po))), (mh, .inl (gI G, 3, .inl (kz_pw pw))), (ao, .inl (gJ G, 1, .inr (.inl fo)))]) [0, 1, 2, 3, 4, 5, 6, 7, 8, 9, 10, 11, 12, 13, 14, 15, 16, 17, 18, 19, 20, 21, 22, 24, 25, 26, 27, 28, 29, 30, 23] rfl
  have hD := hD.sub (ws' := [(xo, .inr (3, [.ref hk, .ref hc, .ref ra])), (hk, .inr (1, [.ref aw, .ref az, .ref an, .int (nI (cs 0))])), (aw, .inl (gJ G, 120, .inr (.inl mW))), (az, .inl (gI G, 120, .inl (kz_z mZ))), (an, .inl (gI G, 120, .inl mV)), (hc, .inr (0, [.ref ab])), (ab, .inl (gI G, 8, .inl (kz_z kf_z0))), (ra, .inl (gO G, 3, .inr (.inr (.inr (.inr (kf_ra rd0 rd1 rd2)))))), (rd0, .inr (2, [.ref hk0, .int (kf_b (po 0)), .int (kf_p pt0)])), (hk0, .inr (1, [.ref aw0, .ref az0, .ref an0, .int (nI (cs 1))])), (aw0, .inl (gJ G, 120, .inr (.inl (kf_row mW 1)))), (az0, .inl (gI G, 120, .inl (kz_z (kf_row mZ 1)))), (an0, .inl (gI G, 120, .inl (kf_row mV 1))), (rd1, .inr (2, [.ref hk1, .int (kf_b (po 1)), .int (kf_p pt1)])), (hk1, .inr (1, [.ref aw1, .ref az1, .ref an1, .int (nI (cs 2))])), (aw1, .inl (gJ G, 120, .inr (.inl (kf_row mW 2)))), (az1, .inl (gI G, 120, .inl (kz_z (kf_row mZ 2)))), (an1, .inl (gI G, 120, .inl (kf_row mV 2))), (rd2, .inr (2, [.ref hk2, .int (kf_b (po 2)), .int (kf_p pt2)])), (hk2, .inr (1, [.ref aw2, .ref az2, .ref an2, .int (nI (cs 3))])), (aw2, .inl (gJ G, 120, .inr (.inl (kf_row mW 3)))), (az2, .inl (gI G, 120, .inl (kz_z (kf_row mZ 3)))), (an2, .inl (gI G, 120, .inl (kf_row mV 3))), (mo, .inr (4, [.int 0, .ref mc, .ref mw, .ref mz, .ref mv, .ref mp, .ref mh])), (mc, .inl (gI G, 4, .inl (kz_z cs))), (mw, .inl (gJ G, 480, .inr (.inl mW))), (mz, .inl (gI G, 480, .inl (kz_z mZ))), (mv, .inl (gI G, 480, .inl mV)), (mp, .inl (gZ G, 3, .inl (kz_bo po))), (mh, .inl (gI G, 3, .inl (kz_pw pw))), (ao, .inl (gJ G, 1, .inr (.inl fo)))]) [0, 1, 2, 3, 4, 5, 6, 7, 8, 9, 10, 11, 12, 13, 14, 15, 16, 17, 18, 19, 20, 21, 22, 24, 25, 26, 27, 28, 29, 30, 23] (by decide) rfl
  refine kz_asi (y := if 0 ≤ xs (i + 3) ∧ xs (i + 3) ≤ 8 then nI (kf_cnt (kf_bw mW mZ (kf_cut ww (kf_zn (xs (i + 3)))) (kf_zn (xs (i + 3)))) (cs 0)) else 0) hr8 ?_
  refine lv_icmp_eq (tgt := 953) hx hb dL_law_477 (by decide) (fun c_1 => ?_) (fun c_1 => ?_)
  · refine W.widen (k := cells + 1) (n := slots + 6) (by omega) (by omega) ?_
    exact hN 0 cs mW mZ mV po pw pt0 pt1 pt2 fo H locs ls hM hP hD hS (lv_sub hl [0, 1, 2, 3, 4] rfl)
  · exact absurd rfl c_1
