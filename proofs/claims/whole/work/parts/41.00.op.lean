set_option maxHeartbeats 4000000 in
set_option maxRecDepth 100000 in
theorem kl_op0 {p : Program} {l : Launch} {e : Env} {s : State} {m : MethodId} {below : List Frame} {meth : Method} {c : Code} {b L : Nat} {xs : Nat → Int32} (htr : l.stackTraces = false) (hL : L ≤ 2560) (C0 : lw_At p s m meth c b L xs) {A : Nat → Prop} (hA : ∀ q : Nat, s.heap.size ≤ q → A q) (hAf : ∀ q, A q → s.heap.size ≤ q) (G : kz_G) (xo hk aw az an hc ab ra rd0 hk0 aw0 az0 an0 rd1 hk1 aw1 az1 an1 rd2 hk2 aw2 az2 an2 mo mc mw mz mv mp mh ao : Nat) (hK : kz_K G s) (hE : kx_E A s s.heap) (i : Nat) (hi : i + 5 ≤ L) {cells slots : Nat} (hc9 : cells + 1 ≤ room_1.cells) (hs9 : slots + 6 ≤ room_1.slots) (hN : kl_K p l e s m below meth c b A G xo hk aw az an hc ab ra rd0 hk0 aw0 az0 an0 rd1 hk1 aw1 az1 an1 rd2 hk2 aw2 az2 an2 mo mc mw mz mv mp mh ao i (cells + 1) (slots + 6)) (tv : Int32) (cs : Nat → Nat) (mW : Nat → Int64) (mZ : Nat → Nat) (mV : Nat → Int32) (po : Nat → Bool) (pw : Nat → Nat) (pt0 pt1 pt2 : Nat) (fo : Nat → Int64) (hM : kl_M cs mW mZ po pw pt0 pt1 pt2) {H : Heap} {locs : List Loc} {ls : Array Slot} (hP : va_P G.1 vwCl (kl_W G xo hk aw az an hc ab ra rd0 hk0 aw0 az0 an0 rd1 hk1 aw1 az1 an1 rd2 hk2 aw2 az2 an2 mo mc mw mz mv mp mh ao tv cs mW mZ mV po pw pt0 pt1 pt2 fo) H) (hD : va_D A (kl_W G xo hk aw az an hc ab ra rd0 hk0 aw0 az0 an0 rd1 hk1 aw1 az1 an1 rd2 hk2 aw2 az2 an2 mo mc mw mz mv mp mh ao tv cs mW mZ mV po pw pt0 pt1 pt2 fo)) (hS : va_S A s.heap H locs) (hl : lv_has ls 7 [(0, .ref b), (1, .ref xo), (2, .ref mo), (3, .ref ao), (4, .int (nI i))]) : W p l e room_1 s m #[Value.ref b] below meth c H locs cells slots (lw_Z below #[Value.ref b] s) (F0 m 112 ls []) := by
  obtain ⟨hx, hb, hr, hml, hown0, hts, hX, hbl, hlocks, hgv⟩ := C0
  have hown : s.vm.findClass RL = some m.cls := hown0
  have hbA : ¬ A b := fun h => absurd (hAf b h) (Nat.not_le.mpr hbl)
  have hc0 : cells ≤ room_1.cells := Nat.le_trans (Nat.le_succ _) hc9
  have hs0 : slots ≤ room_1.slots := Nat.le_trans (Nat.le_add_right _ 6) hs9
  have hcs := hM.2.1
  have hmz := hM.1.2.2
  have hpw := hM.2.2.1
  have hp0 := hM.2.2.2.1.1
  have hp1 := hM.2.2.2.2.1.1
  have hp2 := hM.2.2.2.2.2.1
  have hP : va_P G.1 vwCl [(xo, .inr (3, [.ref hk, .ref hc, .ref ra])), (hk, .inr (1, [.ref aw, .ref az, .ref an, .int (nI (cs 0))])), (aw, .inl (gJ G, 120, .inr (.inl mW))), (az, .inl (gI G, 120, .inl (kz_z mZ))), (an, .inl (gI G, 120, .inl mV)), (hc, .inr (0, [.ref ab])), (ab, .inl (gI G, 8, .inl (kz_z kf_z0))), (ra, .inl (gO G, 3, .inr (.inr (.inr (.inr (kf_ra rd0 rd1 rd2)))))), (rd0, .inr (2, [.ref hk0, .int (kf_b (po 0)), .int (kf_p pt0)])), (hk0, .inr (1, [.ref aw0, .ref az0, .ref an0, .int (nI (cs 1))])), (aw0, .inl (gJ G, 120, .inr (.inl (kf_row mW 1)))), (az0, .inl (gI G, 120, .inl (kz_z (kf_row mZ 1)))), (an0, .inl (gI G, 120, .inl (kf_row mV 1))), (rd1, .inr (2, [.ref hk1, .int (kf_b (po 1)), .int (kf_p pt1)])), (hk1, .inr (1, [.ref aw1, .ref az1, .ref an1, .int (nI (cs 2))])), (aw1, .inl (gJ G, 120, .inr (.inl (kf_row mW 2)))), (az1, .inl (gI G, 120, .inl (kz_z (kf_row mZ 2)))), (an1, .inl (gI G, 120, .inl (kf_row mV 2))), (rd2, .inr (2, [.ref hk2, .int (kf_b (po 2)), .int (kf_p pt2)])), (hk2, .inr (1, [.ref aw2, .ref az2, .ref an2, .int (nI (cs 3))])), (aw2, .inl (gJ G, 120, .inr (.inl (kf_row mW 3)))), (az2, .inl (gI G, 120, .inl (kz_z (kf_row mZ 3)))), (an2, .inl (gI G, 120, .inl (kf_row mV 3))), (mo, .inr (4, [.int tv, .ref mc, .ref mw, .ref mz, .ref mv, .ref mp, .ref mh])), (mc, .inl (gI G, 4, .inl (kz_z cs))), (mw, .inl (gJ G, 480, .inr (.inl mW))), (mz, .inl (gI G, 480, .inl (kz_z mZ))), (mv, .inl (gI G, 480, .inl mV)), (mp, .inl (gZ G, 3, .inl (kz_bo po))), (mh, .inl (gI G, 3, .inl (kz_pw pw))), (ao, .inl (gJ G, 1, .inr (.inl fo)))] H := hP
  have hD : va_D A [(xo, .inr (3, [.ref hk, .ref hc, .ref ra])), (hk, .inr (1, [.ref aw, .ref az, .ref an, .int (nI (cs 0))])), (aw, .inl (gJ G, 120, .inr (.inl mW))), (az, .inl (gI G, 120, .inl (kz_z mZ))), (an, .inl (gI G, 120, .inl mV)), (hc, .inr (0, [.ref ab])), (ab, .inl (gI G, 8, .inl (kz_z kf_z0))), (ra, .inl (gO G, 3, .inr (.inr (.inr (.inr (kf_ra rd0 rd1 rd2)))))), (rd0, .inr (2, [.ref hk0, .int (kf_b (po 0)), .int (kf_p pt0)])), (hk0, .inr (1, [.ref aw0, .ref az0, .ref an0, .int (nI (cs 1))])), (aw0, .inl (gJ G, 120, .inr (.inl (kf_row mW 1)))), (az0, .inl (gI G, 120, .inl (kz_z (kf_row mZ 1)))), (an0, .inl (gI G, 120, .inl (kf_row mV 1))), (rd1, .inr (2, [.ref hk1, .int (kf_b (po 1)), .int (kf_p pt1)])), (hk1, .inr (1, [.ref aw1, .ref az1, .ref an1, .int (nI (cs 2))])), (aw1, .inl (gJ G, 120, .inr (.inl (kf_row mW 2)))), (az1, .inl (gI G, 120, .inl (kz_z (kf_row mZ 2)))), (an1, .inl (gI G, 120, .inl (kf_row mV 2))), (rd2, .inr (2, [.ref hk2, .int (kf_b (po 2)), .int (kf_p pt2)])), (hk2, .inr (1, [.ref aw2, .ref az2, .ref an2, .int (nI (cs 3))])), (aw2, .inl (gJ G, 120, .inr (.inl (kf_row mW 3)))), (az2, .inl (gI G, 120, .inl (kz_z (kf_row mZ 3)))), (an2, .inl (gI G, 120, .inl (kf_row mV 3))), (mo, .inr (4, [.int tv, .ref mc, .ref mw, .ref mz, .ref mv, .ref mp, .ref mh])), (mc, .inl (gI G, 4, .inl (kz_z cs))), (mw, .inl (gJ G, 480, .inr (.inl mW))), (mz, .inl (gI G, 480, .inl (kz_z mZ))), (mv, .inl (gI G, 480, .inl mV)), (mp, .inl (gZ G, 3, .inl (kz_bo po))), (mh, .inl (gI G, 3, .inl (kz_pw pw))), (ao, .inl (gJ G, 1, .inr (.inl fo)))] := hD
  obtain ⟨ww, hww⟩ : ∃ z : Int64, ((xs (i + 1)).toInt64 <<< ((32 : Int32).toInt64 &&& 63)) ||| ((xs (i + 2)).toInt64 &&& 4294967295) = z := ⟨_, rfl⟩
  refine lv_aload_n hx hb dL_law_112 rfl (lv_at hl 1 rfl) ?_
  refine lv_aload_n hx hb dL_law_113 rfl (lv_at hl 0 rfl) ?_
  refine lv_iload hx hb dL_law_114 (lv_at hl 4 rfl) ?_
  refine lv_iconst (v := 1) hx hb dL_law_116 (by decide) ?_
  refine lv_iadd hx hb dL_law_117 ?_
  refine kz_asi (y := nI (i + 1)) (nI_add i 1) ?_
  refine kz_sld hx hb hX hbl hbA hS (k := i + 1) (⟨by omega, by omega⟩) dL_law_118 ?_
  refine lv_i2l hx hb dL_law_119 rfl ?_
  refine lv_bipush (v := 32) hx hb dL_law_120 (by decide) ?_
  refine lv_lshl hx hb dL_law_122 rfl ?_
  refine lv_aload_n hx hb dL_law_123 rfl (lv_at hl 0 rfl) ?_
  refine lv_iload hx hb dL_law_124 (lv_at hl 4 rfl) ?_
  refine lv_iconst (v := 2) hx hb dL_law_126 (by decide) ?_
  refine lv_iadd hx hb dL_law_127 ?_
  refine kz_asi (y := nI (i + 2)) (nI_add i 2) ?_
  refine kz_sld hx hb hX hbl hbA hS (k := i + 2) (⟨by omega, by omega⟩) dL_law_128 ?_
  refine lv_i2l hx hb dL_law_129 rfl ?_
  refine lv_ldc2 (v := 4294967295) hx hb hown (hts _ kl_w35) dL_law_130 ?_
  refine lv_land hx hb dL_law_133 ?_
  refine lv_lor hx hb dL_law_134 ?_
  refine kz_asl (y := ww) hww ?_
  refine lv_aload_n hx hb dL_law_135 rfl (lv_at hl 0 rfl) ?_
  refine lv_iload hx hb dL_law_136 (lv_at hl 4 rfl) ?_
  refine lv_iconst (v := 3) hx hb dL_law_138 (by decide) ?_
  refine lv_iadd hx hb dL_law_139 ?_
  refine kz_asi (y := nI (i + 3)) (nI_add i 3) ?_
  refine kz_sld hx hb hX hbl hbA hS (k := i + 3) (⟨by omega, by omega⟩) dL_law_140 ?_
  refine lv_aload_n hx hb dL_law_141 rfl (lv_at hl 0 rfl) ?_
  refine lv_iload hx hb dL_law_142 (lv_at hl 4 rfl) ?_
  refine lv_iconst (v := 4) hx hb dL_law_144 (by decide) ?_
  refine lv_iadd hx hb dL_law_145 ?_
  refine kz_asi (y := nI (i + 4)) (nI_add i 4) ?_
  refine kz_sld hx hb hX hbl hbA hS (k := i + 4) (⟨by omega, by omega⟩) dL_law_146 ?_
  refine lv_aload_n hx hb dL_law_147 rfl (lv_at hl 3 rfl) ?_
  have hPc := hP.sub (ws' := [(xo, .inr (3, [.ref hk, .ref hc, .ref ra])), (hk, .inr (1, [.ref aw, .ref az, .ref an, .int (nI (cs 0))])), (aw, .inl (gJ G, 120, .inr (.inl mW))), (az, .inl (gI G, 120, .inl (kz_z mZ))), (an, .inl (gI G, 120, .inl mV)), (ao, .inl (gJ G, 1, .inr (.inl fo)))]) [0, 1, 2, 3, 4, 30] rfl
  have hDc := hD.sub (ws' := [(xo, .inr (3, [.ref hk, .ref hc, .ref ra])), (hk, .inr (1, [.ref aw, .ref az, .ref an, .int (nI (cs 0))])), (aw, .inl (gJ G, 120, .inr (.inl mW))), (az, .inl (gI G, 120, .inl (kz_z mZ))), (an, .inl (gI G, 120, .inl mV)), (ao, .inl (gJ G, 1, .inr (.inl fo)))]) [0, 1, 2, 3, 4, 30] (by decide) rfl
  have hFc := va_free (wc := [(xo, .inr (3, [.ref hk, .ref hc, .ref ra])), (hk, .inr (1, [.ref aw, .ref az, .ref an, .int (nI (cs 0))])), (aw, .inl (gJ G, 120, .inr (.inl mW))), (az, .inl (gI G, 120, .inl (kz_z mZ))), (an, .inl (gI G, 120, .inl mV)), (ao, .inl (gJ G, 1, .inr (.inl fo)))]) hD hS hA [0, 1, 2, 3, 4, 30] rfl
  have hEc := (hE.kept hS.2.1).narrow hFc
  refine va_calli (vx_runSW (As := [.ref xo, .long ww, .int (xs (i + 3)), .int (xs (i + 4)), .ref ao]) (rest := []) ⟨hx, hb, hml, hown, hts⟩ (c_L_put l htr G xo hc ra hk aw az an (cs 0) mW mZ mV ao fo ww (xs (i + 3)) (xs (i + 4)) _ (hcs 0) hmz) (vx_cwSW 5 hts kl_g_L_put rfl rfl rfl (by decide +kernel) ⟨Nat.le_of_ble_eq_true rfl, Nat.le_of_ble_eq_true rfl⟩) (kx_ps hK hPc hDc hEc) rfl rfl hl.1 rfl (lv_room (Nat.le_of_ble_eq_true rfl)) dL_law_148 ⟨hc9, hs9⟩) hS (fun q _ h => hFc q h) hFc (fun r9 u t H locs ht hvm hw hB hqz9 hqk9 hS => ?_)
  rcases hw with ⟨hr9, hok, hu⟩ | ⟨hr9, zz, hzz, hnz, hst, hfu, hu⟩ | ⟨hr9, zz, hzz, hnz, hst, hu⟩ | ⟨hr9, zz, hzz, hnz, hst, hlt, hu⟩
  · have hB : va_P G.1 vwCl u H := by rw [← ht]; exact hB
    rw [hu] at hB
    obtain ⟨hP, hD⟩ := kz_join2 (wc := [(xo, .inr (3, [.ref hk, .ref hc, .ref ra])), (hk, .inr (1, [.ref aw, .ref az, .ref an, .int (nI (cs 0))])), (aw, .inl (gJ G, 120, .inr (.inl mW))), (az, .inl (gI G, 120, .inl (kz_z mZ))), (an, .inl (gI G, 120, .inl mV)), (ao, .inl (gJ G, 1, .inr (.inl fo)))]) (w1 := [(xo, .inr (3, [.ref hk, .ref hc, .ref ra])), (hk, .inr (1, [.ref aw, .ref az, .ref an, .int (nI (cs 0))])), (aw, .inl (gJ G, 120, .inr (.inl mW))), (az, .inl (gI G, 120, .inl (kz_z mZ))), (an, .inl (gI G, 120, .inl mV)), (ao, .inl (gJ G, 1, .inr (.inl fo)))]) [(xo, .inr (3, [.ref hk, .ref hc, .ref ra])), (hk, .inr (1, [.ref aw, .ref az, .ref an, .int (nI (cs 0))])), (aw, .inl (gJ G, 120, .inr (.inl mW))), (az, .inl (gI G, 120, .inl (kz_z mZ))), (an, .inl (gI G, 120, .inl mV)), (hc, .inr (0, [.ref ab])), (ab, .inl (gI G, 8, .inl (kz_z kf_z0))), (ra, .inl (gO G, 3, .inr (.inr (.inr (.inr (kf_ra rd0 rd1 rd2)))))), (rd0, .inr (2, [.ref hk0, .int (kf_b (po 0)), .int (kf_p pt0)])), (hk0, .inr (1, [.ref aw0, .ref az0, .ref an0, .int (nI (cs 1))])), (aw0, .inl (gJ G, 120, .inr (.inl (kf_row mW 1)))), (az0, .inl (gI G, 120, .inl (kz_z (kf_row mZ 1)))), (an0, .inl (gI G, 120, .inl (kf_row mV 1))), (rd1, .inr (2, [.ref hk1, .int (kf_b (po 1)), .int (kf_p pt1)])), (hk1, .inr (1, [.ref aw1, .ref az1, .ref an1, .int (nI (cs 2))])), (aw1, .inl (gJ G, 120, .inr (.inl (kf_row mW 2)))), (az1, .inl (gI G, 120, .inl (kz_z (kf_row mZ 2)))), (an1, .inl (gI G, 120, .inl (kf_row mV 2))), (rd2, .inr (2, [.ref hk2, .int (kf_b (po 2)), .int (kf_p pt2)])), (hk2, .inr (1, [.ref aw2, .ref az2, .ref an2, .int (nI (cs 3))])), (aw2, .inl (gJ G, 120, .inr (.inl (kf_row mW 3)))), (az2, .inl (gI G, 120, .inl (kz_z (kf_row mZ 3)))), (an2, .inl (gI G, 120, .inl (kf_row mV 3))), (mo, .inr (4, [.int tv, .ref mc, .ref mw, .ref mz, .ref mv, .ref mp, .ref mh])), (mc, .inl (gI G, 4, .inl (kz_z cs))), (mw, .inl (gJ G, 480, .inr (.inl mW))), (mz, .inl (gI G, 480, .inl (kz_z mZ))), (mv, .inl (gI G, 480, .inl mV)), (mp, .inl (gZ G, 3, .inl (kz_bo po))), (mh, .inl (gI G, 3, .inl (kz_pw pw))), (ao, .inl (gJ G, 1, .inr (.inl fo)))] hP hD [0, 1, 2, 3, 4, 30] [5, 6, 7, 8, 9, 10, 11, 12, 13, 14, 15, 16, 17, 18, 19, 20, 21, 22, 23, 24, 25, 26, 27, 28, 29] rfl rfl rfl 31 rfl (by decide) (by decide) rfl hqk9 hB
    refine kz_asi (y := 1) hr9 ?_
    refine lv_istore (lv' := [(5, .int 1), (0, .ref b), (1, .ref xo), (2, .ref mo), (3, .ref ao), (4, .int (nI i))]) hx hb dL_law_151 hl (by decide) rfl (fun ls hl => ?_)
    refine lv_aload_n hx hb dL_law_153 rfl (lv_at hl 3 rfl) ?_
    refine lv_aload_n hx hb dL_law_154 rfl (lv_at hl 1 rfl) ?_
    refine lv_iload hx hb dL_law_155 (lv_at hl 5 rfl) ?_
    refine lv_iconst (v := 1) hx hb dL_law_157 (by decide) ?_
    refine lv_iadd hx hb dL_law_158 ?_
    refine kz_asi (y := nI (i + 1)) (nI_add i 1) ?_
    refine kz_sld hx hb hX hbl hbA hS (k := i + 1) (⟨by omega, by omega⟩) dL_law_159 ?_
    refine lv_i2l hx hb dL_law_160 rfl ?_
    refine lv_bipush (v := 32) hx hb dL_law_161 (by decide) ?_
    refine lv_lshl hx hb dL_law_163 rfl ?_
    refine lv_aload_n hx hb dL_law_164 rfl (lv_at hl 1 rfl) ?_
    refine lv_iload hx hb dL_law_165 (lv_at hl 5 rfl) ?_
    refine lv_iconst (v := 2) hx hb dL_law_167 (by decide) ?_
    refine lv_iadd hx hb dL_law_168 ?_
    refine kz_asi (y := nI (i + 2)) (nI_add i 2) ?_
    refine kz_sld hx hb hX hbl hbA hS (k := i + 2) (⟨by omega, by omega⟩) dL_law_169 ?_
    refine lv_i2l hx hb dL_law_170 rfl ?_
    refine lv_ldc2 (v := 4294967295) hx hb hown (hts _ kl_w35) dL_law_171 ?_
    refine lv_land hx hb dL_law_174 ?_
    refine lv_lor hx hb dL_law_175 ?_
    refine kz_asl (y := ww) hww ?_
    refine lv_aload_n hx hb dL_law_176 rfl (lv_at hl 1 rfl) ?_
    refine lv_iload hx hb dL_law_177 (lv_at hl 5 rfl) ?_
    refine lv_iconst (v := 3) hx hb dL_law_179 (by decide) ?_
    refine lv_iadd hx hb dL_law_180 ?_
    refine kz_asi (y := nI (i + 3)) (nI_add i 3) ?_
    refine kz_sld hx hb hX hbl hbA hS (k := i + 3) (⟨by omega, by omega⟩) dL_law_181 ?_
    refine lv_aload_n hx hb dL_law_182 rfl (lv_at hl 1 rfl) ?_
    refine lv_iload hx hb dL_law_183 (lv_at hl 5 rfl) ?_
    refine lv_iconst (v := 4) hx hb dL_law_185 (by decide) ?_
    refine lv_iadd hx hb dL_law_186 ?_
    refine kz_asi (y := nI (i + 4)) (nI_add i 4) ?_
    refine kz_sld hx hb hX hbl hbA hS (k := i + 4) (⟨by omega, by omega⟩) dL_law_187 ?_
    have hPc := hP.sub (ws' := [(mo, .inr (4, [.int tv, .ref mc, .ref mw, .ref mz, .ref mv, .ref mp, .ref mh])), (mc, .inl (gI G, 4, .inl (kz_z cs))), (mw, .inl (gJ G, 480, .inr (.inl mW))), (mz, .inl (gI G, 480, .inl (kz_z mZ))), (mv, .inl (gI G, 480, .inl mV)), (mp, .inl (gZ G, 3, .inl (kz_bo po))), (mh, .inl (gI G, 3, .inl (kz_pw pw)))]) [23, 24, 25, 26, 27, 28, 29] rfl
    have hDc := hD.sub (ws' := [(mo, .inr (4, [.int tv, .ref mc, .ref mw, .ref mz, .ref mv, .ref mp, .ref mh])), (mc, .inl (gI G, 4, .inl (kz_z cs))), (mw, .inl (gJ G, 480, .inr (.inl mW))), (mz, .inl (gI G, 480, .inl (kz_z mZ))), (mv, .inl (gI G, 480, .inl mV)), (mp, .inl (gZ G, 3, .inl (kz_bo po))), (mh, .inl (gI G, 3, .inl (kz_pw pw)))]) [23, 24, 25, 26, 27, 28, 29] (by decide) rfl
    have hFc := va_free (wc := [(mo, .inr (4, [.int tv, .ref mc, .ref mw, .ref mz, .ref mv, .ref mp, .ref mh])), (mc, .inl (gI G, 4, .inl (kz_z cs))), (mw, .inl (gJ G, 480, .inr (.inl mW))), (mz, .inl (gI G, 480, .inl (kz_z mZ))), (mv, .inl (gI G, 480, .inl mV)), (mp, .inl (gZ G, 3, .inl (kz_bo po))), (mh, .inl (gI G, 3, .inl (kz_pw pw)))]) hD hS hA [23, 24, 25, 26, 27, 28, 29] rfl
    refine va_calli (va_runV (As := [.long ww, .int (xs (i + 3)), .int (xs (i + 4))]) (rest := []) ⟨hx, hb, hml, hown, hts⟩ (c_X4_put l G mo mc mw mz mv mp mh tv cs mW mZ mV po pw ww (xs (i + 3)) (xs (i + 4)) _ hcs hmz) (cwV 3 hts kl_g_X4_put rfl rfl rfl (by decide +kernel) ⟨Nat.le_of_ble_eq_true rfl, Nat.le_of_ble_eq_true rfl⟩) (kz_pvm hK hPc hDc (va_recv hK.1 hPc (ci := 4) (q0 := 0) rfl rfl)) rfl rfl hl.1 rfl (lv_room (Nat.le_of_ble_eq_true rfl)) dL_law_188 ⟨hc9, hs9⟩) hS (fun q _ h => hFc q h) hFc (fun r8 u t H locs ht hvm hw hB hqz9 hqk9 hS => ?_)
    obtain ⟨hr8, hu⟩ : r8 = 0 ∧ u = [(mo, .inr (4, [.int 1, .ref mc, .ref mw, .ref mz, .ref mv, .ref mp, .ref mh])), (mc, .inl (gI G, 4, .inl (kz_z cs))), (mw, .inl (gJ G, 480, .inr (.inl mW))), (mz, .inl (gI G, 480, .inl (kz_z mZ))), (mv, .inl (gI G, 480, .inl mV)), (mp, .inl (gZ G, 3, .inl (kz_bo po))), (mh, .inl (gI G, 3, .inl (kz_pw pw)))] := by
      rcases hw with ⟨h1, h2, h3⟩ | ⟨z2, h1, h2, h3, h4, h5⟩ | ⟨z2, h1, h2, h3, h4, h5, h6⟩ | ⟨z2, h1, h2, h3, h4, h5, h6⟩
      · exact ⟨h2, h3⟩
      · exact absurd (by rw [h2]; exact kl_ok h1) hok
      · exact absurd (by rw [h2]; exact kl_ok h1) hok
      · exact absurd (by rw [h2]; exact kl_ok h1) hok
    have hB : va_P G.1 vwCl u H := by rw [← ht]; exact hB
    rw [hu] at hB
    obtain ⟨hP, hD⟩ := kz_join2 (wc := [(mo, .inr (4, [.int tv, .ref mc, .ref mw, .ref mz, .ref mv, .ref mp, .ref mh])), (mc, .inl (gI G, 4, .inl (kz_z cs))), (mw, .inl (gJ G, 480, .inr (.inl mW))), (mz, .inl (gI G, 480, .inl (kz_z mZ))), (mv, .inl (gI G, 480, .inl mV)), (mp, .inl (gZ G, 3, .inl (kz_bo po))), (mh, .inl (gI G, 3, .inl (kz_pw pw)))]) (w1 := [(mo, .inr (4, [.int 1, .ref mc, .ref mw, .ref mz, .ref mv, .ref mp, .ref mh])), (mc, .inl (gI G, 4, .inl (kz_z cs))), (mw, .inl (gJ G, 480, .inr (.inl mW))), (mz, .inl (gI G, 480, .inl (kz_z mZ))), (mv, .inl (gI G, 480, .inl mV)), (mp, .inl (gZ G, 3, .inl (kz_bo po))), (mh, .inl (gI G, 3, .inl (kz_pw pw)))]) [(xo, .inr (3, [.ref hk, .ref hc, .ref ra])), (hk, .inr (1, [.ref aw, .ref az, .ref an, .int (nI (cs 0))])), (aw, .inl (gJ G, 120, .inr (.inl mW))), (az, .inl (gI G, 120, .inl (kz_z mZ))), (an, .inl (gI G, 120, .inl mV)), (hc, .inr (0, [.ref ab])), (ab, .inl (gI G, 8, .inl (kz_z kf_z0))), (ra, .inl (gO G, 3, .inr (.inr (.inr (.inr (kf_ra rd0 rd1 rd2)))))), (rd0, .inr (2, [.ref hk0, .int (kf_b (po 0)), .int (kf_p pt0)])), (hk0, .inr (1, [.ref aw0, .ref az0, .ref an0, .int (nI (cs 1))])), (aw0, .inl (gJ G, 120, .inr (.inl (kf_row mW 1)))), (az0, .inl (gI G, 120, .inl (kz_z (kf_row mZ 1)))), (an0, .inl (gI G, 120, .inl (kf_row mV 1))), (rd1, .inr (2, [.ref hk1, .int (kf_b (po 1)), .int (kf_p pt1)])), (hk1, .inr (1, [.ref aw1, .ref az1, .ref an1, .int (nI (cs 2))])), (aw1, .inl (gJ G, 120, .inr (.inl (kf_row mW 2)))), (az1, .inl (gI G, 120, .inl (kz_z (kf_row mZ 2)))), (an1, .inl (gI G, 120, .inl (kf_row mV 2))), (rd2, .inr (2, [.ref hk2, .int (kf_b (po 2)), .int (kf_p pt2)])), (hk2, .inr (1, [.ref aw2, .ref az2, .ref an2, .int (nI (cs 3))])), (aw2, .inl (gJ G, 120, .inr (.inl (kf_row mW 3)))), (az2, .inl (gI G, 120, .inl (kz_z (kf_row mZ 3)))), (an2, .inl (gI G, 120, .inl (kf_row mV 3))), (mo, .inr (4, [.int 1, .ref mc, .ref mw, .ref mz, .ref mv, .ref mp, .ref mh])), (mc, .inl (gI G, 4, .inl (kz_z cs))), (mw, .inl (gJ G, 480, .inr (.inl mW))), (mz, .inl (gI G, 480, .inl (kz_z mZ))), (mv, .inl (gI G, 480, .inl mV)), (mp, .inl (gZ G, 3, .inl (kz_bo po))), (mh, .inl (gI G, 3, .inl (kz_pw pw))), (ao, .inl (gJ G, 1, .inr (.inl fo)))] hP hD [23, 24, 25, 26, 27, 28, 29] [0, 1, 2, 3, 4, 5, 6, 7, 8, 9, 10, 11, 12, 13, 14, 15, 16, 17, 18, 19, 20, 21, 22, 30] rfl rfl rfl 31 rfl (by decide) (by decide) rfl hqk9 hB
    refine kz_asi (y := 0) hr8 ?_
    refine lv_istore (lv' := [(6, .int 0), (5, .int 1), (0, .ref b), (1, .ref xo), (2, .ref mo), (3, .ref ao), (4, .int (nI i))]) hx hb dL_law_191 hl (by decide) rfl (fun ls hl => ?_)
    refine lv_aload_n hx hb dL_law_193 rfl (lv_at hl 4 rfl) ?_
    have hPc := hP.sub (ws' := [(mo, .inr (4, [.int 1, .ref mc, .ref mw, .ref mz, .ref mv, .ref mp, .ref mh])), (mc, .inl (gI G, 4, .inl (kz_z cs))), (mw, .inl (gJ G, 480, .inr (.inl mW))), (mz, .inl (gI G, 480, .inl (kz_z mZ))), (mv, .inl (gI G, 480, .inl mV)), (mp, .inl (gZ G, 3, .inl (kz_bo po))), (mh, .inl (gI G, 3, .inl (kz_pw pw)))]) [23, 24, 25, 26, 27, 28, 29] rfl
    refine kz_ci (v := 1) (va_runV (As := []) (rest := []) ⟨hx, hb, hml, hown, hts⟩ (c_X4_thrown l G mo mc mw mz mv mp mh 1 cs mW mZ mV po pw) (cwV 0 hts kl_g_X4_thrown rfl rfl rfl (by decide +kernel) ⟨Nat.le_of_ble_eq_true rfl, Nat.le_of_ble_eq_true rfl⟩) (kz_pv hK hPc (va_recv hK.1 hPc (ci := 4) (q0 := 0) rfl rfl)) rfl rfl hl.1 rfl (lv_room (Nat.le_of_ble_eq_true rfl)) dL_law_194 ⟨hc9, hs9⟩).run ?_
    refine lv_iload hx hb dL_law_197 (lv_at hl 1 rfl) ?_
    refine lv_icmp_eq (tgt := 204) hx hb dL_law_199 (by decide) (fun c_1 => ?_) (fun c_1 => ?_)
    · refine lv_iload hx hb dL_law_204 (lv_at hl 1 rfl) ?_
      refine lv_if_ne (tgt := 228) hx hb dL_law_206 (by decide) (fun c_2 => ?_) (fun c_2 => ?_)
      · refine lv_goto (tgt := 953) hx hb dL_law_228 (by decide) ?_
        refine W.widen (k := cells + 1) (n := slots + 6) (by omega) (by omega) ?_
        exact hN 1 cs mW mZ mV po pw pt0 pt1 pt2 fo H locs ls hM hP hD hS (lv_sub hl [2, 3, 4, 5, 6] rfl)
      · exact absurd c_2 (by decide)
    · exact absurd c_1 (by decide)
  · have hB : va_P G.1 vwCl u H := by rw [← ht]; exact hB
    rw [hu] at hB
    obtain ⟨hP, hD⟩ := kz_join2 (wc := [(xo, .inr (3, [.ref hk, .ref hc, .ref ra])), (hk, .inr (1, [.ref aw, .ref az, .ref an, .int (nI (cs 0))])), (aw, .inl (gJ G, 120, .inr (.inl mW))), (az, .inl (gI G, 120, .inl (kz_z mZ))), (an, .inl (gI G, 120, .inl mV)), (ao, .inl (gJ G, 1, .inr (.inl fo)))]) (w1 := [(xo, .inr (3, [.ref hk, .ref hc, .ref ra])), (hk, .inr (1, [.ref aw, .ref az, .ref an, .int (nI (cs 0))])), (aw, .inl (gJ G, 120, .inr (.inl mW))), (az, .inl (gI G, 120, .inl (kz_z mZ))), (an, .inl (gI G, 120, .inl mV)), (ao, .inl (gJ G, 1, .inr (.inl fo)))]) [(xo, .inr (3, [.ref hk, .ref hc, .ref ra])), (hk, .inr (1, [.ref aw, .ref az, .ref an, .int (nI (cs 0))])), (aw, .inl (gJ G, 120, .inr (.inl mW))), (az, .inl (gI G, 120, .inl (kz_z mZ))), (an, .inl (gI G, 120, .inl mV)), (hc, .inr (0, [.ref ab])), (ab, .inl (gI G, 8, .inl (kz_z kf_z0))), (ra, .inl (gO G, 3, .inr (.inr (.inr (.inr (kf_ra rd0 rd1 rd2)))))), (rd0, .inr (2, [.ref hk0, .int (kf_b (po 0)), .int (kf_p pt0)])), (hk0, .inr (1, [.ref aw0, .ref az0, .ref an0, .int (nI (cs 1))])), (aw0, .inl (gJ G, 120, .inr (.inl (kf_row mW 1)))), (az0, .inl (gI G, 120, .inl (kz_z (kf_row mZ 1)))), (an0, .inl (gI G, 120, .inl (kf_row mV 1))), (rd1, .inr (2, [.ref hk1, .int (kf_b (po 1)), .int (kf_p pt1)])), (hk1, .inr (1, [.ref aw1, .ref az1, .ref an1, .int (nI (cs 2))])), (aw1, .inl (gJ G, 120, .inr (.inl (kf_row mW 2)))), (az1, .inl (gI G, 120, .inl (kz_z (kf_row mZ 2)))), (an1, .inl (gI G, 120, .inl (kf_row mV 2))), (rd2, .inr (2, [.ref hk2, .int (kf_b (po 2)), .int (kf_p pt2)])), (hk2, .inr (1, [.ref aw2, .ref az2, .ref an2, .int (nI (cs 3))])), (aw2, .inl (gJ G, 120, .inr (.inl (kf_row mW 3)))), (az2, .inl (gI G, 120, .inl (kz_z (kf_row mZ 3)))), (an2, .inl (gI G, 120, .inl (kf_row mV 3))), (mo, .inr (4, [.int tv, .ref mc, .ref mw, .ref mz, .ref mv, .ref mp, .ref mh])), (mc, .inl (gI G, 4, .inl (kz_z cs))), (mw, .inl (gJ G, 480, .inr (.inl mW))), (mz, .inl (gI G, 480, .inl (kz_z mZ))), (mv, .inl (gI G, 480, .inl mV)), (mp, .inl (gZ G, 3, .inl (kz_bo po))), (mh, .inl (gI G, 3, .inl (kz_pw pw))), (ao, .inl (gJ G, 1, .inr (.inl fo)))] hP hD [0, 1, 2, 3, 4, 30] [5, 6, 7, 8, 9, 10, 11, 12, 13, 14, 15, 16, 17, 18, 19, 20, 21, 22, 23, 24, 25, 26, 27, 28, 29] rfl rfl rfl 31 rfl (by decide) (by decide) rfl hqk9 hB
    refine kz_asi (y := 2) hr9 ?_
    refine lv_istore (lv' := [(5, .int 2), (0, .ref b), (1, .ref xo), (2, .ref mo), (3, .ref ao), (4, .int (nI i))]) hx hb dL_law_151 hl (by decide) rfl (fun ls hl => ?_)
    refine lv_aload_n hx hb dL_law_153 rfl (lv_at hl 3 rfl) ?_
    refine lv_aload_n hx hb dL_law_154 rfl (lv_at hl 1 rfl) ?_
    refine lv_iload hx hb dL_law_155 (lv_at hl 5 rfl) ?_
    refine lv_iconst (v := 1) hx hb dL_law_157 (by decide) ?_
    refine lv_iadd hx hb dL_law_158 ?_
    refine kz_asi (y := nI (i + 1)) (nI_add i 1) ?_
    refine kz_sld hx hb hX hbl hbA hS (k := i + 1) (⟨by omega, by omega⟩) dL_law_159 ?_
    refine lv_i2l hx hb dL_law_160 rfl ?_
    refine lv_bipush (v := 32) hx hb dL_law_161 (by decide) ?_
    refine lv_lshl hx hb dL_law_163 rfl ?_
    refine lv_aload_n hx hb dL_law_164 rfl (lv_at hl 1 rfl) ?_
    refine lv_iload hx hb dL_law_165 (lv_at hl 5 rfl) ?_
    refine lv_iconst (v := 2) hx hb dL_law_167 (by decide) ?_
    refine lv_iadd hx hb dL_law_168 ?_
    refine kz_asi (y := nI (i + 2)) (nI_add i 2) ?_
    refine kz_sld hx hb hX hbl hbA hS (k := i + 2) (⟨by omega, by omega⟩) dL_law_169 ?_
    refine lv_i2l hx hb dL_law_170 rfl ?_
    refine lv_ldc2 (v := 4294967295) hx hb hown (hts _ kl_w35) dL_law_171 ?_
    refine lv_land hx hb dL_law_174 ?_
    refine lv_lor hx hb dL_law_175 ?_
    refine kz_asl (y := ww) hww ?_
    refine lv_aload_n hx hb dL_law_176 rfl (lv_at hl 1 rfl) ?_
    refine lv_iload hx hb dL_law_177 (lv_at hl 5 rfl) ?_
    refine lv_iconst (v := 3) hx hb dL_law_179 (by decide) ?_
    refine lv_iadd hx hb dL_law_180 ?_
    refine kz_asi (y := nI (i + 3)) (nI_add i 3) ?_
    refine kz_sld hx hb hX hbl hbA hS (k := i + 3) (⟨by omega, by omega⟩) dL_law_181 ?_
    refine lv_aload_n hx hb dL_law_182 rfl (lv_at hl 1 rfl) ?_
    refine lv_iload hx hb dL_law_183 (lv_at hl 5 rfl) ?_
    refine lv_iconst (v := 4) hx hb dL_law_185 (by decide) ?_
    refine lv_iadd hx hb dL_law_186 ?_
    refine kz_asi (y := nI (i + 4)) (nI_add i 4) ?_
    refine kz_sld hx hb hX hbl hbA hS (k := i + 4) (⟨by omega, by omega⟩) dL_law_187 ?_
    have hPc := hP.sub (ws' := [(mo, .inr (4, [.int tv, .ref mc, .ref mw, .ref mz, .ref mv, .ref mp, .ref mh])), (mc, .inl (gI G, 4, .inl (kz_z cs))), (mw, .inl (gJ G, 480, .inr (.inl mW))), (mz, .inl (gI G, 480, .inl (kz_z mZ))), (mv, .inl (gI G, 480, .inl mV)), (mp, .inl (gZ G, 3, .inl (kz_bo po))), (mh, .inl (gI G, 3, .inl (kz_pw pw)))]) [23, 24, 25, 26, 27, 28, 29] rfl
    have hDc := hD.sub (ws' := [(mo, .inr (4, [.int tv, .ref mc, .ref mw, .ref mz, .ref mv, .ref mp, .ref mh])), (mc, .inl (gI G, 4, .inl (kz_z cs))), (mw, .inl (gJ G, 480, .inr (.inl mW))), (mz, .inl (gI G, 480, .inl (kz_z mZ))), (mv, .inl (gI G, 480, .inl mV)), (mp, .inl (gZ G, 3, .inl (kz_bo po))), (mh, .inl (gI G, 3, .inl (kz_pw pw)))]) [23, 24, 25, 26, 27, 28, 29] (by decide) rfl
    have hFc := va_free (wc := [(mo, .inr (4, [.int tv, .ref mc, .ref mw, .ref mz, .ref mv, .ref mp, .ref mh])), (mc, .inl (gI G, 4, .inl (kz_z cs))), (mw, .inl (gJ G, 480, .inr (.inl mW))), (mz, .inl (gI G, 480, .inl (kz_z mZ))), (mv, .inl (gI G, 480, .inl mV)), (mp, .inl (gZ G, 3, .inl (kz_bo po))), (mh, .inl (gI G, 3, .inl (kz_pw pw)))]) hD hS hA [23, 24, 25, 26, 27, 28, 29] rfl
    refine va_calli (va_runV (As := [.long ww, .int (xs (i + 3)), .int (xs (i + 4))]) (rest := []) ⟨hx, hb, hml, hown, hts⟩ (c_X4_put l G mo mc mw mz mv mp mh tv cs mW mZ mV po pw ww (xs (i + 3)) (xs (i + 4)) _ hcs hmz) (cwV 3 hts kl_g_X4_put rfl rfl rfl (by decide +kernel) ⟨Nat.le_of_ble_eq_true rfl, Nat.le_of_ble_eq_true rfl⟩) (kz_pvm hK hPc hDc (va_recv hK.1 hPc (ci := 4) (q0 := 0) rfl rfl)) rfl rfl hl.1 rfl (lv_room (Nat.le_of_ble_eq_true rfl)) dL_law_188 ⟨hc9, hs9⟩) hS (fun q _ h => hFc q h) hFc (fun r8 u t H locs ht hvm hw hB hqz9 hqk9 hS => ?_)
    obtain ⟨hr8, hu⟩ : r8 = 0 ∧ u = [(mo, .inr (4, [.int 2, .ref mc, .ref mw, .ref mz, .ref mv, .ref mp, .ref mh])), (mc, .inl (gI G, 4, .inl (kz_z cs))), (mw, .inl (gJ G, 480, .inr (.inl mW))), (mz, .inl (gI G, 480, .inl (kz_z mZ))), (mv, .inl (gI G, 480, .inl mV)), (mp, .inl (gZ G, 3, .inl (kz_bo po))), (mh, .inl (gI G, 3, .inl (kz_pw pw)))] := by
      rcases hw with ⟨h1, h2, h3⟩ | ⟨z2, h1, h2, h3, h4, h5⟩ | ⟨z2, h1, h2, h3, h4, h5, h6⟩ | ⟨z2, h1, h2, h3, h4, h5, h6⟩
      · exact absurd (by rw [hnz]; exact kl_ok hzz) h1
      · obtain rfl := kl_inj h1 hzz h2 hnz
        exact absurd h3 hst
      · obtain rfl := kl_inj h1 hzz h2 hnz
        exact ⟨h5, h6⟩
      · obtain rfl := kl_inj h1 hzz h2 hnz
        exact absurd hfu h4
    have hB : va_P G.1 vwCl u H := by rw [← ht]; exact hB
    rw [hu] at hB
    obtain ⟨hP, hD⟩ := kz_join2 (wc := [(mo, .inr (4, [.int tv, .ref mc, .ref mw, .ref mz, .ref mv, .ref mp, .ref mh])), (mc, .inl (gI G, 4, .inl (kz_z cs))), (mw, .inl (gJ G, 480, .inr (.inl mW))), (mz, .inl (gI G, 480, .inl (kz_z mZ))), (mv, .inl (gI G, 480, .inl mV)), (mp, .inl (gZ G, 3, .inl (kz_bo po))), (mh, .inl (gI G, 3, .inl (kz_pw pw)))]) (w1 := [(mo, .inr (4, [.int 2, .ref mc, .ref mw, .ref mz, .ref mv, .ref mp, .ref mh])), (mc, .inl (gI G, 4, .inl (kz_z cs))), (mw, .inl (gJ G, 480, .inr (.inl mW))), (mz, .inl (gI G, 480, .inl (kz_z mZ))), (mv, .inl (gI G, 480, .inl mV)), (mp, .inl (gZ G, 3, .inl (kz_bo po))), (mh, .inl (gI G, 3, .inl (kz_pw pw)))]) [(xo, .inr (3, [.ref hk, .ref hc, .ref ra])), (hk, .inr (1, [.ref aw, .ref az, .ref an, .int (nI (cs 0))])), (aw, .inl (gJ G, 120, .inr (.inl mW))), (az, .inl (gI G, 120, .inl (kz_z mZ))), (an, .inl (gI G, 120, .inl mV)), (hc, .inr (0, [.ref ab])), (ab, .inl (gI G, 8, .inl (kz_z kf_z0))), (ra, .inl (gO G, 3, .inr (.inr (.inr (.inr (kf_ra rd0 rd1 rd2)))))), (rd0, .inr (2, [.ref hk0, .int (kf_b (po 0)), .int (kf_p pt0)])), (hk0, .inr (1, [.ref aw0, .ref az0, .ref an0, .int (nI (cs 1))])), (aw0, .inl (gJ G, 120, .inr (.inl (kf_row mW 1)))), (az0, .inl (gI G, 120, .inl (kz_z (kf_row mZ 1)))), (an0, .inl (gI G, 120, .inl (kf_row mV 1))), (rd1, .inr (2, [.ref hk1, .int (kf_b (po 1)), .int (kf_p pt1)])), (hk1, .inr (1, [.ref aw1, .ref az1, .ref an1, .int (nI (cs 2))])), (aw1, .inl (gJ G, 120, .inr (.inl (kf_row mW 2)))), (az1, .inl (gI G, 120, .inl (kz_z (kf_row mZ 2)))), (an1, .inl (gI G, 120, .inl (kf_row mV 2))), (rd2, .inr (2, [.ref hk2, .int (kf_b (po 2)), .int (kf_p pt2)])), (hk2, .inr (1, [.ref aw2, .ref az2, .ref an2, .int (nI (cs 3))])), (aw2, .inl (gJ G, 120, .inr (.inl (kf_row mW 3)))), (az2, .inl (gI G, 120, .inl (kz_z (kf_row mZ 3)))), (an2, .inl (gI G, 120, .inl (kf_row mV 3))), (mo, .inr (4, [.int 2, .ref mc, .ref mw, .ref mz, .ref mv, .ref mp, .ref mh])), (mc, .inl (gI G, 4, .inl (kz_z cs))), (mw, .inl (gJ G, 480, .inr (.inl mW))), (mz, .inl (gI G, 480, .inl (kz_z mZ))), (mv, .inl (gI G, 480, .inl mV)), (mp, .inl (gZ G, 3, .inl (kz_bo po))), (mh, .inl (gI G, 3, .inl (kz_pw pw))), (ao, .inl (gJ G, 1, .inr (.inl fo)))] hP hD [23, 24, 25, 26, 27, 28, 29] [0, 1, 2, 3, 4, 5, 6, 7, 8, 9, 10, 11, 12, 13, 14, 15, 16, 17, 18, 19, 20, 21, 22, 30] rfl rfl rfl 31 rfl (by decide) (by decide) rfl hqk9 hB
    refine kz_asi (y := 0) hr8 ?_
    refine lv_istore (lv' := [(6, .int 0), (5, .int 2), (0, .ref b), (1, .ref xo), (2, .ref mo), (3, .ref ao), (4, .int (nI i))]) hx hb dL_law_191 hl (by decide) rfl (fun ls hl => ?_)
    refine lv_aload_n hx hb dL_law_193 rfl (lv_at hl 4 rfl) ?_
    have hPc := hP.sub (ws' := [(mo, .inr (4, [.int 2, .ref mc, .ref mw, .ref mz, .ref mv, .ref mp, .ref mh])), (mc, .inl (gI G, 4, .inl (kz_z cs))), (mw, .inl (gJ G, 480, .inr (.inl mW))), (mz, .inl (gI G, 480, .inl (kz_z mZ))), (mv, .inl (gI G, 480, .inl mV)), (mp, .inl (gZ G, 3, .inl (kz_bo po))), (mh, .inl (gI G, 3, .inl (kz_pw pw)))]) [23, 24, 25, 26, 27, 28, 29] rfl
    refine kz_ci (v := 2) (va_runV (As := []) (rest := []) ⟨hx, hb, hml, hown, hts⟩ (c_X4_thrown l G mo mc mw mz mv mp mh 2 cs mW mZ mV po pw) (cwV 0 hts kl_g_X4_thrown rfl rfl rfl (by decide +kernel) ⟨Nat.le_of_ble_eq_true rfl, Nat.le_of_ble_eq_true rfl⟩) (kz_pv hK hPc (va_recv hK.1 hPc (ci := 4) (q0 := 0) rfl rfl)) rfl rfl hl.1 rfl (lv_room (Nat.le_of_ble_eq_true rfl)) dL_law_194 ⟨hc9, hs9⟩).run ?_
    refine lv_iload hx hb dL_law_197 (lv_at hl 1 rfl) ?_
    refine lv_icmp_eq (tgt := 204) hx hb dL_law_199 (by decide) (fun c_3 => ?_) (fun c_3 => ?_)
    · refine lv_iload hx hb dL_law_204 (lv_at hl 1 rfl) ?_
      refine lv_if_ne (tgt := 228) hx hb dL_law_206 (by decide) (fun c_4 => ?_) (fun c_4 => ?_)
      · refine lv_goto (tgt := 953) hx hb dL_law_228 (by decide) ?_
        refine W.widen (k := cells + 1) (n := slots + 6) (by omega) (by omega) ?_
        exact hN 2 cs mW mZ mV po pw pt0 pt1 pt2 fo H locs ls hM hP hD hS (lv_sub hl [2, 3, 4, 5, 6] rfl)
      · exact absurd c_4 (by decide)
    · exact absurd c_3 (by decide)
  · have hB : va_P G.1 vwCl u H := by rw [← ht]; exact hB
    rw [hu] at hB
    obtain ⟨hP, hD⟩ := kz_join2 (wc := [(xo, .inr (3, [.ref hk, .ref hc, .ref ra])), (hk, .inr (1, [.ref aw, .ref az, .ref an, .int (nI (cs 0))])), (aw, .inl (gJ G, 120, .inr (.inl mW))), (az, .inl (gI G, 120, .inl (kz_z mZ))), (an, .inl (gI G, 120, .inl mV)), (ao, .inl (gJ G, 1, .inr (.inl fo)))]) (w1 := [(xo, .inr (3, [.ref hk, .ref hc, .ref ra])), (hk, .inr (1, [.ref aw, .ref az, .ref an, .int (nI (cs 0))])), (aw, .inl (gJ G, 120, .inr (.inl mW))), (az, .inl (gI G, 120, .inl (kz_z mZ))), (an, .inl (gI G, 120, .inl (upd mV (kf_cb mW mZ (kf_cut ww zz) zz (cs 0)) (xs (i + 4))))), (ao, .inl (gJ G, 1, .inr (.inl (vp_updL fo 0 0))))]) [(xo, .inr (3, [.ref hk, .ref hc, .ref ra])), (hk, .inr (1, [.ref aw, .ref az, .ref an, .int (nI (cs 0))])), (aw, .inl (gJ G, 120, .inr (.inl mW))), (az, .inl (gI G, 120, .inl (kz_z mZ))), (an, .inl (gI G, 120, .inl (upd mV (kf_cb mW mZ (kf_cut ww zz) zz (cs 0)) (xs (i + 4))))), (hc, .inr (0, [.ref ab])), (ab, .inl (gI G, 8, .inl (kz_z kf_z0))), (ra, .inl (gO G, 3, .inr (.inr (.inr (.inr (kf_ra rd0 rd1 rd2)))))), (rd0, .inr (2, [.ref hk0, .int (kf_b (po 0)), .int (kf_p pt0)])), (hk0, .inr (1, [.ref aw0, .ref az0, .ref an0, .int (nI (cs 1))])), (aw0, .inl (gJ G, 120, .inr (.inl (kf_row mW 1)))), (az0, .inl (gI G, 120, .inl (kz_z (kf_row mZ 1)))), (an0, .inl (gI G, 120, .inl (kf_row mV 1))), (rd1, .inr (2, [.ref hk1, .int (kf_b (po 1)), .int (kf_p pt1)])), (hk1, .inr (1, [.ref aw1, .ref az1, .ref an1, .int (nI (cs 2))])), (aw1, .inl (gJ G, 120, .inr (.inl (kf_row mW 2)))), (az1, .inl (gI G, 120, .inl (kz_z (kf_row mZ 2)))), (an1, .inl (gI G, 120, .inl (kf_row mV 2))), (rd2, .inr (2, [.ref hk2, .int (kf_b (po 2)), .int (kf_p pt2)])), (hk2, .inr (1, [.ref aw2, .ref az2, .ref an2, .int (nI (cs 3))])), (aw2, .inl (gJ G, 120, .inr (.inl (kf_row mW 3)))), (az2, .inl (gI G, 120, .inl (kz_z (kf_row mZ 3)))), (an2, .inl (gI G, 120, .inl (kf_row mV 3))), (mo, .inr (4, [.int tv, .ref mc, .ref mw, .ref mz, .ref mv, .ref mp, .ref mh])), (mc, .inl (gI G, 4, .inl (kz_z cs))), (mw, .inl (gJ G, 480, .inr (.inl mW))), (mz, .inl (gI G, 480, .inl (kz_z mZ))), (mv, .inl (gI G, 480, .inl mV)), (mp, .inl (gZ G, 3, .inl (kz_bo po))), (mh, .inl (gI G, 3, .inl (kz_pw pw))), (ao, .inl (gJ G, 1, .inr (.inl (vp_updL fo 0 0))))] hP hD [0, 1, 2, 3, 4, 30] [5, 6, 7, 8, 9, 10, 11, 12, 13, 14, 15, 16, 17, 18, 19, 20, 21, 22, 23, 24, 25, 26, 27, 28, 29] rfl rfl rfl 31 rfl (by decide) (by decide) rfl hqk9 hB
    refine kz_asi (y := 0) hr9 ?_
    refine lv_istore (lv' := [(5, .int 0), (0, .ref b), (1, .ref xo), (2, .ref mo), (3, .ref ao), (4, .int (nI i))]) hx hb dL_law_151 hl (by decide) rfl (fun ls hl => ?_)
    refine lv_aload_n hx hb dL_law_153 rfl (lv_at hl 3 rfl) ?_
    refine lv_aload_n hx hb dL_law_154 rfl (lv_at hl 1 rfl) ?_
    refine lv_iload hx hb dL_law_155 (lv_at hl 5 rfl) ?_
    refine lv_iconst (v := 1) hx hb dL_law_157 (by decide) ?_
    refine lv_iadd hx hb dL_law_158 ?_
    refine kz_asi (y := nI (i + 1)) (nI_add i 1) ?_
    refine kz_sld hx hb hX hbl hbA hS (k := i + 1) (⟨by omega, by omega⟩) dL_law_159 ?_
    refine lv_i2l hx hb dL_law_160 rfl ?_
    refine lv_bipush (v := 32) hx hb dL_law_161 (by decide) ?_
    refine lv_lshl hx hb dL_law_163 rfl ?_
    refine lv_aload_n hx hb dL_law_164 rfl (lv_at hl 1 rfl) ?_
    refine lv_iload hx hb dL_law_165 (lv_at hl 5 rfl) ?_
    refine lv_iconst (v := 2) hx hb dL_law_167 (by decide) ?_
    refine lv_iadd hx hb dL_law_168 ?_
    refine kz_asi (y := nI (i + 2)) (nI_add i 2) ?_
    refine kz_sld hx hb hX hbl hbA hS (k := i + 2) (⟨by omega, by omega⟩) dL_law_169 ?_
    refine lv_i2l hx hb dL_law_170 rfl ?_
    refine lv_ldc2 (v := 4294967295) hx hb hown (hts _ kl_w35) dL_law_171 ?_
    refine lv_land hx hb dL_law_174 ?_
    refine lv_lor hx hb dL_law_175 ?_
    refine kz_asl (y := ww) hww ?_
    refine lv_aload_n hx hb dL_law_176 rfl (lv_at hl 1 rfl) ?_
    refine lv_iload hx hb dL_law_177 (lv_at hl 5 rfl) ?_
    refine lv_iconst (v := 3) hx hb dL_law_179 (by decide) ?_
    refine lv_iadd hx hb dL_law_180 ?_
    refine kz_asi (y := nI (i + 3)) (nI_add i 3) ?_
    refine kz_sld hx hb hX hbl hbA hS (k := i + 3) (⟨by omega, by omega⟩) dL_law_181 ?_
    refine lv_aload_n hx hb dL_law_182 rfl (lv_at hl 1 rfl) ?_
    refine lv_iload hx hb dL_law_183 (lv_at hl 5 rfl) ?_
    refine lv_iconst (v := 4) hx hb dL_law_185 (by decide) ?_
    refine lv_iadd hx hb dL_law_186 ?_
    refine kz_asi (y := nI (i + 4)) (nI_add i 4) ?_
    refine kz_sld hx hb hX hbl hbA hS (k := i + 4) (⟨by omega, by omega⟩) dL_law_187 ?_
    have hPc := hP.sub (ws' := [(mo, .inr (4, [.int tv, .ref mc, .ref mw, .ref mz, .ref mv, .ref mp, .ref mh])), (mc, .inl (gI G, 4, .inl (kz_z cs))), (mw, .inl (gJ G, 480, .inr (.inl mW))), (mz, .inl (gI G, 480, .inl (kz_z mZ))), (mv, .inl (gI G, 480, .inl mV)), (mp, .inl (gZ G, 3, .inl (kz_bo po))), (mh, .inl (gI G, 3, .inl (kz_pw pw)))]) [23, 24, 25, 26, 27, 28, 29] rfl
    have hDc := hD.sub (ws' := [(mo, .inr (4, [.int tv, .ref mc, .ref mw, .ref mz, .ref mv, .ref mp, .ref mh])), (mc, .inl (gI G, 4, .inl (kz_z cs))), (mw, .inl (gJ G, 480, .inr (.inl mW))), (mz, .inl (gI G, 480, .inl (kz_z mZ))), (mv, .inl (gI G, 480, .inl mV)), (mp, .inl (gZ G, 3, .inl (kz_bo po))), (mh, .inl (gI G, 3, .inl (kz_pw pw)))]) [23, 24, 25, 26, 27, 28, 29] (by decide) rfl
    have hFc := va_free (wc := [(mo, .inr (4, [.int tv, .ref mc, .ref mw, .ref mz, .ref mv, .ref mp, .ref mh])), (mc, .inl (gI G, 4, .inl (kz_z cs))), (mw, .inl (gJ G, 480, .inr (.inl mW))), (mz, .inl (gI G, 480, .inl (kz_z mZ))), (mv, .inl (gI G, 480, .inl mV)), (mp, .inl (gZ G, 3, .inl (kz_bo po))), (mh, .inl (gI G, 3, .inl (kz_pw pw)))]) hD hS hA [23, 24, 25, 26, 27, 28, 29] rfl
    refine va_calli (va_runV (As := [.long ww, .int (xs (i + 3)), .int (xs (i + 4))]) (rest := []) ⟨hx, hb, hml, hown, hts⟩ (c_X4_put l G mo mc mw mz mv mp mh tv cs mW mZ mV po pw ww (xs (i + 3)) (xs (i + 4)) _ hcs hmz) (cwV 3 hts kl_g_X4_put rfl rfl rfl (by decide +kernel) ⟨Nat.le_of_ble_eq_true rfl, Nat.le_of_ble_eq_true rfl⟩) (kz_pvm hK hPc hDc (va_recv hK.1 hPc (ci := 4) (q0 := 0) rfl rfl)) rfl rfl hl.1 rfl (lv_room (Nat.le_of_ble_eq_true rfl)) dL_law_188 ⟨hc9, hs9⟩) hS (fun q _ h => hFc q h) hFc (fun r8 u t H locs ht hvm hw hB hqz9 hqk9 hS => ?_)
    obtain ⟨hr8, hu⟩ : r8 = 0 ∧ u = [(mo, .inr (4, [.int 0, .ref mc, .ref mw, .ref mz, .ref mv, .ref mp, .ref mh])), (mc, .inl (gI G, 4, .inl (kz_z cs))), (mw, .inl (gJ G, 480, .inr (.inl mW))), (mz, .inl (gI G, 480, .inl (kz_z mZ))), (mv, .inl (gI G, 480, .inl (upd mV (kf_cb mW mZ (kf_cut ww zz) zz (cs 0)) (xs (i + 4))))), (mp, .inl (gZ G, 3, .inl (kz_bo po))), (mh, .inl (gI G, 3, .inl (kz_pw pw)))] := by
      rcases hw with ⟨h1, h2, h3⟩ | ⟨z2, h1, h2, h3, h4, h5⟩ | ⟨z2, h1, h2, h3, h4, h5, h6⟩ | ⟨z2, h1, h2, h3, h4, h5, h6⟩
      · exact absurd (by rw [hnz]; exact kl_ok hzz) h1
      · obtain rfl := kl_inj h1 hzz h2 hnz
        exact ⟨h4, h5⟩
      · obtain rfl := kl_inj h1 hzz h2 hnz
        exact absurd hst h3
      · obtain rfl := kl_inj h1 hzz h2 hnz
        exact absurd hst h3
    have hB : va_P G.1 vwCl u H := by rw [← ht]; exact hB
    rw [hu] at hB
    obtain ⟨hP, hD⟩ := kz_join2 (wc := [(mo, .inr (4, [.int tv, .ref mc, .ref mw, .ref mz, .ref mv, .ref mp, .ref mh])), (mc, .inl (gI G, 4, .inl (kz_z cs))), (mw, .inl (gJ G, 480, .inr (.inl mW))), (mz, .inl (gI G, 480, .inl (kz_z mZ))), (mv, .inl (gI G, 480, .inl mV)), (mp, .inl (gZ G, 3, .inl (kz_bo po))), (mh, .inl (gI G, 3, .inl (kz_pw pw)))]) (w1 := [(mo, .inr (4, [.int 0, .ref mc, .ref mw, .ref mz, .ref mv, .ref mp, .ref mh])), (mc, .inl (gI G, 4, .inl (kz_z cs))), (mw, .inl (gJ G, 480, .inr (.inl mW))), (mz, .inl (gI G, 480, .inl (kz_z mZ))), (mv, .inl (gI G, 480, .inl (upd mV (kf_cb mW mZ (kf_cut ww zz) zz (cs 0)) (xs (i + 4))))), (mp, .inl (gZ G, 3, .inl (kz_bo po))), (mh, .inl (gI G, 3, .inl (kz_pw pw)))]) [(xo, .inr (3, [.ref hk, .ref hc, .ref ra])), (hk, .inr (1, [.ref aw, .ref az, .ref an, .int (nI (cs 0))])), (aw, .inl (gJ G, 120, .inr (.inl mW))), (az, .inl (gI G, 120, .inl (kz_z mZ))), (an, .inl (gI G, 120, .inl (upd mV (kf_cb mW mZ (kf_cut ww zz) zz (cs 0)) (xs (i + 4))))), (hc, .inr (0, [.ref ab])), (ab, .inl (gI G, 8, .inl (kz_z kf_z0))), (ra, .inl (gO G, 3, .inr (.inr (.inr (.inr (kf_ra rd0 rd1 rd2)))))), (rd0, .inr (2, [.ref hk0, .int (kf_b (po 0)), .int (kf_p pt0)])), (hk0, .inr (1, [.ref aw0, .ref az0, .ref an0, .int (nI (cs 1))])), (aw0, .inl (gJ G, 120, .inr (.inl (kf_row mW 1)))), (az0, .inl (gI G, 120, .inl (kz_z (kf_row mZ 1)))), (an0, .inl (gI G, 120, .inl (kf_row mV 1))), (rd1, .inr (2, [.ref hk1, .int (kf_b (po 1)), .int (kf_p pt1)])), (hk1, .inr (1, [.ref aw1, .ref az1, .ref an1, .int (nI (cs 2))])), (aw1, .inl (gJ G, 120, .inr (.inl (kf_row mW 2)))), (az1, .inl (gI G, 120, .inl (kz_z (kf_row mZ 2)))), (an1, .inl (gI G, 120, .inl (kf_row mV 2))), (rd2, .inr (2, [.ref hk2, .int (kf_b (po 2)), .int (kf_p pt2)])), (hk2, .inr (1, [.ref aw2, .ref az2, .ref an2, .int (nI (cs 3))])), (aw2, .inl (gJ G, 120, .inr (.inl (kf_row mW 3)))), (az2, .inl (gI G, 120, .inl (kz_z (kf_row mZ 3)))), (an2, .inl (gI G, 120, .inl (kf_row mV 3))), (mo, .inr (4, [.int 0, .ref mc, .ref mw, .ref mz, .ref mv, .ref mp, .ref mh])), (mc, .inl (gI G, 4, .inl (kz_z cs))), (mw, .inl (gJ G, 480, .inr (.inl mW))), (mz, .inl (gI G, 480, .inl (kz_z mZ))), (mv, .inl (gI G, 480, .inl (upd mV (kf_cb mW mZ (kf_cut ww zz) zz (cs 0)) (xs (i + 4))))), (mp, .inl (gZ G, 3, .inl (kz_bo po))), (mh, .inl (gI G, 3, .inl (kz_pw pw))), (ao, .inl (gJ G, 1, .inr (.inl (vp_updL fo 0 0))))] hP hD [23, 24, 25, 26, 27, 28, 29] [0, 1, 2, 3, 4, 5, 6, 7, 8, 9, 10, 11, 12, 13, 14, 15, 16, 17, 18, 19, 20, 21, 22, 30] rfl rfl rfl 31 rfl (by decide) (by decide) rfl hqk9 hB
    refine kz_asi (y := 0) hr8 ?_
    refine lv_istore (lv' := [(6, .int 0), (5, .int 0), (0, .ref b), (1, .ref xo), (2, .ref mo), (3, .ref ao), (4, .int (nI i))]) hx hb dL_law_191 hl (by decide) rfl (fun ls hl => ?_)
    refine lv_aload_n hx hb dL_law_193 rfl (lv_at hl 4 rfl) ?_
    have hPc := hP.sub (ws' := [(mo, .inr (4, [.int 0, .ref mc, .ref mw, .ref mz, .ref mv, .ref mp, .ref mh])), (mc, .inl (gI G, 4, .inl (kz_z cs))), (mw, .inl (gJ G, 480, .inr (.inl mW))), (mz, .inl (gI G, 480, .inl (kz_z mZ))), (mv, .inl (gI G, 480, .inl (upd mV (kf_cb mW mZ (kf_cut ww zz) zz (cs 0)) (xs (i + 4))))), (mp, .inl (gZ G, 3, .inl (kz_bo po))), (mh, .inl (gI G, 3, .inl (kz_pw pw)))]) [23, 24, 25, 26, 27, 28, 29] rfl
    refine kz_ci (v := 0) (va_runV (As := []) (rest := []) ⟨hx, hb, hml, hown, hts⟩ (c_X4_thrown l G mo mc mw mz mv mp mh 0 cs mW mZ (upd mV (kf_cb mW mZ (kf_cut ww zz) zz (cs 0)) (xs (i + 4))) po pw) (cwV 0 hts kl_g_X4_thrown rfl rfl rfl (by decide +kernel) ⟨Nat.le_of_ble_eq_true rfl, Nat.le_of_ble_eq_true rfl⟩) (kz_pv hK hPc (va_recv hK.1 hPc (ci := 4) (q0 := 0) rfl rfl)) rfl rfl hl.1 rfl (lv_room (Nat.le_of_ble_eq_true rfl)) dL_law_194 ⟨hc9, hs9⟩).run ?_
    refine lv_iload hx hb dL_law_197 (lv_at hl 1 rfl) ?_
    refine lv_icmp_eq (tgt := 204) hx hb dL_law_199 (by decide) (fun c_5 => ?_) (fun c_5 => ?_)
    · refine lv_iload hx hb dL_law_204 (lv_at hl 1 rfl) ?_
      refine lv_if_ne (tgt := 228) hx hb dL_law_206 (by decide) (fun c_6 => ?_) (fun c_6 => ?_)
      · exact absurd c_6 (by decide)
      · refine lv_aload_n hx hb dL_law_209 rfl (lv_at hl 5 rfl) ?_
        refine lv_iconst (v := 0) hx hb dL_law_210 (by decide) ?_
        refine kz_lald hx hb hK.1 hP 30 1 rfl rfl (k := 0) (by decide) (by decide) dL_law_211 ?_
        refine kz_asl (y := 0) rfl ?_
        refine lv_iload hx hb dL_law_212 (lv_at hl 0 rfl) ?_
        refine lv_if_eq (tgt := 221) hx hb dL_law_214 (by decide) (fun c_7 => ?_) (fun c_7 => ?_)
        · refine lv_lconst (v := 0) hx hb dL_law_221 (by decide) ?_
          refine W.lcmp hx hb dL_law_222 ?_
          refine lv_if_eq (tgt := 228) hx hb dL_law_223 (by decide) (fun c_8 => ?_) (fun c_8 => ?_)
          · refine lv_goto (tgt := 953) hx hb dL_law_228 (by decide) ?_
            refine W.widen (k := cells + 1) (n := slots + 6) (by omega) (by omega) ?_
            have hcv : kl_all [(xo, .inr (3, [.ref hk, .ref hc, .ref ra])), (hk, .inr (1, [.ref aw, .ref az, .ref an, .int (nI (cs 0))])), (aw, .inl (gJ G, 120, .inr (.inl mW))), (az, .inl (gI G, 120, .inl (kz_z mZ))), (an, .inl (gI G, 120, .inl (upd mV (kf_cb mW mZ (kf_cut ww zz) zz (cs 0)) (xs (i + 4))))), (hc, .inr (0, [.ref ab])), (ab, .inl (gI G, 8, .inl (kz_z kf_z0))), (ra, .inl (gO G, 3, .inr (.inr (.inr (.inr (kf_ra rd0 rd1 rd2)))))), (rd0, .inr (2, [.ref hk0, .int (kf_b (po 0)), .int (kf_p pt0)])), (hk0, .inr (1, [.ref aw0, .ref az0, .ref an0, .int (nI (cs 1))])), (aw0, .inl (gJ G, 120, .inr (.inl (kf_row mW 1)))), (az0, .inl (gI G, 120, .inl (kz_z (kf_row mZ 1)))), (an0, .inl (gI G, 120, .inl (kf_row mV 1))), (rd1, .inr (2, [.ref hk1, .int (kf_b (po 1)), .int (kf_p pt1)])), (hk1, .inr (1, [.ref aw1, .ref az1, .ref an1, .int (nI (cs 2))])), (aw1, .inl (gJ G, 120, .inr (.inl (kf_row mW 2)))), (az1, .inl (gI G, 120, .inl (kz_z (kf_row mZ 2)))), (an1, .inl (gI G, 120, .inl (kf_row mV 2))), (rd2, .inr (2, [.ref hk2, .int (kf_b (po 2)), .int (kf_p pt2)])), (hk2, .inr (1, [.ref aw2, .ref az2, .ref an2, .int (nI (cs 3))])), (aw2, .inl (gJ G, 120, .inr (.inl (kf_row mW 3)))), (az2, .inl (gI G, 120, .inl (kz_z (kf_row mZ 3)))), (an2, .inl (gI G, 120, .inl (kf_row mV 3))), (mo, .inr (4, [.int 0, .ref mc, .ref mw, .ref mz, .ref mv, .ref mp, .ref mh])), (mc, .inl (gI G, 4, .inl (kz_z cs))), (mw, .inl (gJ G, 480, .inr (.inl mW))), (mz, .inl (gI G, 480, .inl (kz_z mZ))), (mv, .inl (gI G, 480, .inl (upd mV (kf_cb mW mZ (kf_cut ww zz) zz (cs 0)) (xs (i + 4))))), (mp, .inl (gZ G, 3, .inl (kz_bo po))), (mh, .inl (gI G, 3, .inl (kz_pw pw))), (ao, .inl (gJ G, 1, .inr (.inl (vp_updL fo 0 0))))] [(xo, .inr (3, [.ref hk, .ref hc, .ref ra])), (hk, .inr (1, [.ref aw, .ref az, .ref an, .int (nI (cs 0))])), (aw, .inl (gJ G, 120, .inr (.inl mW))), (az, .inl (gI G, 120, .inl (kz_z mZ))), (an, .inl (gI G, 120, .inl (upd mV (kf_cb mW mZ (kf_cut ww zz) zz (cs 0)) (xs (i + 4))))), (hc, .inr (0, [.ref ab])), (ab, .inl (gI G, 8, .inl (kz_z kf_z0))), (ra, .inl (gO G, 3, .inr (.inr (.inr (.inr (kf_ra rd0 rd1 rd2)))))), (rd0, .inr (2, [.ref hk0, .int (kf_b (po 0)), .int (kf_p pt0)])), (hk0, .inr (1, [.ref aw0, .ref az0, .ref an0, .int (nI (cs 1))])), (aw0, .inl (gJ G, 120, .inr (.inl (kf_row mW 1)))), (az0, .inl (gI G, 120, .inl (kz_z (kf_row mZ 1)))), (an0, .inl (gI G, 120, .inl (kf_row (upd mV (kf_cb mW mZ (kf_cut ww zz) zz (cs 0)) (xs (i + 4))) 1))), (rd1, .inr (2, [.ref hk1, .int (kf_b (po 1)), .int (kf_p pt1)])), (hk1, .inr (1, [.ref aw1, .ref az1, .ref an1, .int (nI (cs 2))])), (aw1, .inl (gJ G, 120, .inr (.inl (kf_row mW 2)))), (az1, .inl (gI G, 120, .inl (kz_z (kf_row mZ 2)))), (an1, .inl (gI G, 120, .inl (kf_row (upd mV (kf_cb mW mZ (kf_cut ww zz) zz (cs 0)) (xs (i + 4))) 2))), (rd2, .inr (2, [.ref hk2, .int (kf_b (po 2)), .int (kf_p pt2)])), (hk2, .inr (1, [.ref aw2, .ref az2, .ref an2, .int (nI (cs 3))])), (aw2, .inl (gJ G, 120, .inr (.inl (kf_row mW 3)))), (az2, .inl (gI G, 120, .inl (kz_z (kf_row mZ 3)))), (an2, .inl (gI G, 120, .inl (kf_row (upd mV (kf_cb mW mZ (kf_cut ww zz) zz (cs 0)) (xs (i + 4))) 3))), (mo, .inr (4, [.int 0, .ref mc, .ref mw, .ref mz, .ref mv, .ref mp, .ref mh])), (mc, .inl (gI G, 4, .inl (kz_z cs))), (mw, .inl (gJ G, 480, .inr (.inl mW))), (mz, .inl (gI G, 480, .inl (kz_z mZ))), (mv, .inl (gI G, 480, .inl (upd mV (kf_cb mW mZ (kf_cut ww zz) zz (cs 0)) (xs (i + 4))))), (mp, .inl (gZ G, 3, .inl (kz_bo po))), (mh, .inl (gI G, 3, .inl (kz_pw pw))), (ao, .inl (gJ G, 1, .inr (.inl (vp_updL fo 0 0))))] := (kl_c kl_r (kl_c kl_r (kl_c kl_r (kl_c kl_r (kl_c kl_r (kl_c kl_r (kl_c kl_r (kl_c kl_r (kl_c kl_r (kl_c kl_r (kl_c kl_r (kl_c kl_r (kl_c (kl_Ie (kl_u_row _ (Nat.lt_of_lt_of_le hst.1 (hcs 0)) (by decide))) (kl_c kl_r (kl_c kl_r (kl_c kl_r (kl_c kl_r (kl_c (kl_Ie (kl_u_row _ (Nat.lt_of_lt_of_le hst.1 (hcs 0)) (by decide))) (kl_c kl_r (kl_c kl_r (kl_c kl_r (kl_c kl_r (kl_c (kl_Ie (kl_u_row _ (Nat.lt_of_lt_of_le hst.1 (hcs 0)) (by decide))) (kl_c kl_r (kl_c kl_r (kl_c kl_r (kl_c kl_r (kl_c kl_r (kl_c kl_r (kl_c kl_r (kl_c kl_r kl_n)))))))))))))))))))))))))))))))
            exact hN 0 cs mW mZ (upd mV (kf_cb mW mZ (kf_cut ww zz) zz (cs 0)) (xs (i + 4))) po pw pt0 pt1 pt2 (vp_updL fo 0 0) H locs ls hM (kl_P hcv hP) (kl_D hcv hD) hS (lv_sub hl [2, 3, 4, 5, 6] rfl)
          · exact absurd ((lg_cmp_eq _ _).mpr rfl) c_8
        · exact absurd c_7 (by decide)
    · exact absurd c_5 (by decide)
  · have hB : va_P G.1 vwCl u H := by rw [← ht]; exact hB
    rw [hu] at hB
    obtain ⟨hP, hD⟩ := kz_join2 (wc := [(xo, .inr (3, [.ref hk, .ref hc, .ref ra])), (hk, .inr (1, [.ref aw, .ref az, .ref an, .int (nI (cs 0))])), (aw, .inl (gJ G, 120, .inr (.inl mW))), (az, .inl (gI G, 120, .inl (kz_z mZ))), (an, .inl (gI G, 120, .inl mV)), (ao, .inl (gJ G, 1, .inr (.inl fo)))]) (w1 := [(xo, .inr (3, [.ref hk, .ref hc, .ref ra])), (hk, .inr (1, [.ref aw, .ref az, .ref an, .int (nI (cs 0 + 1))])), (aw, .inl (gJ G, 120, .inr (.inl (vp_updL (kf_up mW (kf_cb mW mZ (kf_cut ww zz) zz (cs 0)) (cs 0)) (kf_cb mW mZ (kf_cut ww zz) zz (cs 0)) (kf_cut ww zz))))), (az, .inl (gI G, 120, .inl (kz_z (kz_un (kf_up mZ (kf_cb mW mZ (kf_cut ww zz) zz (cs 0)) (cs 0)) (kf_cb mW mZ (kf_cut ww zz) zz (cs 0)) zz)))), (an, .inl (gI G, 120, .inl (upd (kf_up mV (kf_cb mW mZ (kf_cut ww zz) zz (cs 0)) (cs 0)) (kf_cb mW mZ (kf_cut ww zz) zz (cs 0)) (xs (i + 4))))), (ao, .inl (gJ G, 1, .inr (.inl (vp_updL fo 0 1))))]) [(xo, .inr (3, [.ref hk, .ref hc, .ref ra])), (hk, .inr (1, [.ref aw, .ref az, .ref an, .int (nI (cs 0 + 1))])), (aw, .inl (gJ G, 120, .inr (.inl (vp_updL (kf_up mW (kf_cb mW mZ (kf_cut ww zz) zz (cs 0)) (cs 0)) (kf_cb mW mZ (kf_cut ww zz) zz (cs 0)) (kf_cut ww zz))))), (az, .inl (gI G, 120, .inl (kz_z (kz_un (kf_up mZ (kf_cb mW mZ (kf_cut ww zz) zz (cs 0)) (cs 0)) (kf_cb mW mZ (kf_cut ww zz) zz (cs 0)) zz)))), (an, .inl (gI G, 120, .inl (upd (kf_up mV (kf_cb mW mZ (kf_cut ww zz) zz (cs 0)) (cs 0)) (kf_cb mW mZ (kf_cut ww zz) zz (cs 0)) (xs (i + 4))))), (hc, .inr (0, [.ref ab])), (ab, .inl (gI G, 8, .inl (kz_z kf_z0))), (ra, .inl (gO G, 3, .inr (.inr (.inr (.inr (kf_ra rd0 rd1 rd2)))))), (rd0, .inr (2, [.ref hk0, .int (kf_b (po 0)), .int (kf_p pt0)])), (hk0, .inr (1, [.ref aw0, .ref az0, .ref an0, .int (nI (cs 1))])), (aw0, .inl (gJ G, 120, .inr (.inl (kf_row mW 1)))), (az0, .inl (gI G, 120, .inl (kz_z (kf_row mZ 1)))), (an0, .inl (gI G, 120, .inl (kf_row mV 1))), (rd1, .inr (2, [.ref hk1, .int (kf_b (po 1)), .int (kf_p pt1)])), (hk1, .inr (1, [.ref aw1, .ref az1, .ref an1, .int (nI (cs 2))])), (aw1, .inl (gJ G, 120, .inr (.inl (kf_row mW 2)))), (az1, .inl (gI G, 120, .inl (kz_z (kf_row mZ 2)))), (an1, .inl (gI G, 120, .inl (kf_row mV 2))), (rd2, .inr (2, [.ref hk2, .int (kf_b (po 2)), .int (kf_p pt2)])), (hk2, .inr (1, [.ref aw2, .ref az2, .ref an2, .int (nI (cs 3))])), (aw2, .inl (gJ G, 120, .inr (.inl (kf_row mW 3)))), (az2, .inl (gI G, 120, .inl (kz_z (kf_row mZ 3)))), (an2, .inl (gI G, 120, .inl (kf_row mV 3))), (mo, .inr (4, [.int tv, .ref mc, .ref mw, .ref mz, .ref mv, .ref mp, .ref mh])), (mc, .inl (gI G, 4, .inl (kz_z cs))), (mw, .inl (gJ G, 480, .inr (.inl mW))), (mz, .inl (gI G, 480, .inl (kz_z mZ))), (mv, .inl (gI G, 480, .inl mV)), (mp, .inl (gZ G, 3, .inl (kz_bo po))), (mh, .inl (gI G, 3, .inl (kz_pw pw))), (ao, .inl (gJ G, 1, .inr (.inl (vp_updL fo 0 1))))] hP hD [0, 1, 2, 3, 4, 30] [5, 6, 7, 8, 9, 10, 11, 12, 13, 14, 15, 16, 17, 18, 19, 20, 21, 22, 23, 24, 25, 26, 27, 28, 29] rfl rfl rfl 31 rfl (by decide) (by decide) rfl hqk9 hB
    refine kz_asi (y := 0) hr9 ?_
    refine lv_istore (lv' := [(5, .int 0), (0, .ref b), (1, .ref xo), (2, .ref mo), (3, .ref ao), (4, .int (nI i))]) hx hb dL_law_151 hl (by decide) rfl (fun ls hl => ?_)
    refine lv_aload_n hx hb dL_law_153 rfl (lv_at hl 3 rfl) ?_
    refine lv_aload_n hx hb dL_law_154 rfl (lv_at hl 1 rfl) ?_
    refine lv_iload hx hb dL_law_155 (lv_at hl 5 rfl) ?_
    refine lv_iconst (v := 1) hx hb dL_law_157 (by decide) ?_
    refine lv_iadd hx hb dL_law_158 ?_
    refine kz_asi (y := nI (i + 1)) (nI_add i 1) ?_
    refine kz_sld hx hb hX hbl hbA hS (k := i + 1) (⟨by omega, by omega⟩) dL_law_159 ?_
    refine lv_i2l hx hb dL_law_160 rfl ?_
    refine lv_bipush (v := 32) hx hb dL_law_161 (by decide) ?_
    refine lv_lshl hx hb dL_law_163 rfl ?_
    refine lv_aload_n hx hb dL_law_164 rfl (lv_at hl 1 rfl) ?_
    refine lv_iload hx hb dL_law_165 (lv_at hl 5 rfl) ?_
    refine lv_iconst (v := 2) hx hb dL_law_167 (by decide) ?_
    refine lv_iadd hx hb dL_law_168 ?_
    refine kz_asi (y := nI (i + 2)) (nI_add i 2) ?_
    refine kz_sld hx hb hX hbl hbA hS (k := i + 2) (⟨by omega, by omega⟩) dL_law_169 ?_
    refine lv_i2l hx hb dL_law_170 rfl ?_
    refine lv_ldc2 (v := 4294967295) hx hb hown (hts _ kl_w35) dL_law_171 ?_
    refine lv_land hx hb dL_law_174 ?_
    refine lv_lor hx hb dL_law_175 ?_
    refine kz_asl (y := ww) hww ?_
    refine lv_aload_n hx hb dL_law_176 rfl (lv_at hl 1 rfl) ?_
    refine lv_iload hx hb dL_law_177 (lv_at hl 5 rfl) ?_
    refine lv_iconst (v := 3) hx hb dL_law_179 (by decide) ?_
    refine lv_iadd hx hb dL_law_180 ?_
    refine kz_asi (y := nI (i + 3)) (nI_add i 3) ?_
    refine kz_sld hx hb hX hbl hbA hS (k := i + 3) (⟨by omega, by omega⟩) dL_law_181 ?_
    refine lv_aload_n hx hb dL_law_182 rfl (lv_at hl 1 rfl) ?_
    refine lv_iload hx hb dL_law_183 (lv_at hl 5 rfl) ?_
    refine lv_iconst (v := 4) hx hb dL_law_185 (by decide) ?_
    refine lv_iadd hx hb dL_law_186 ?_
    refine kz_asi (y := nI (i + 4)) (nI_add i 4) ?_
    refine kz_sld hx hb hX hbl hbA hS (k := i + 4) (⟨by omega, by omega⟩) dL_law_187 ?_
    have hPc := hP.sub (ws' := [(mo, .inr (4, [.int tv, .ref mc, .ref mw, .ref mz, .ref mv, .ref mp, .ref mh])), (mc, .inl (gI G, 4, .inl (kz_z cs))), (mw, .inl (gJ G, 480, .inr (.inl mW))), (mz, .inl (gI G, 480, .inl (kz_z mZ))), (mv, .inl (gI G, 480, .inl mV)), (mp, .inl (gZ G, 3, .inl (kz_bo po))), (mh, .inl (gI G, 3, .inl (kz_pw pw)))]) [23, 24, 25, 26, 27, 28, 29] rfl
    have hDc := hD.sub (ws' := [(mo, .inr (4, [.int tv, .ref mc, .ref mw, .ref mz, .ref mv, .ref mp, .ref mh])), (mc, .inl (gI G, 4, .inl (kz_z cs))), (mw, .inl (gJ G, 480, .inr (.inl mW))), (mz, .inl (gI G, 480, .inl (kz_z mZ))), (mv, .inl (gI G, 480, .inl mV)), (mp, .inl (gZ G, 3, .inl (kz_bo po))), (mh, .inl (gI G, 3, .inl (kz_pw pw)))]) [23, 24, 25, 26, 27, 28, 29] (by decide) rfl
    have hFc := va_free (wc := [(mo, .inr (4, [.int tv, .ref mc, .ref mw, .ref mz, .ref mv, .ref mp, .ref mh])), (mc, .inl (gI G, 4, .inl (kz_z cs))), (mw, .inl (gJ G, 480, .inr (.inl mW))), (mz, .inl (gI G, 480, .inl (kz_z mZ))), (mv, .inl (gI G, 480, .inl mV)), (mp, .inl (gZ G, 3, .inl (kz_bo po))), (mh, .inl (gI G, 3, .inl (kz_pw pw)))]) hD hS hA [23, 24, 25, 26, 27, 28, 29] rfl
    refine va_calli (va_runV (As := [.long ww, .int (xs (i + 3)), .int (xs (i + 4))]) (rest := []) ⟨hx, hb, hml, hown, hts⟩ (c_X4_put l G mo mc mw mz mv mp mh tv cs mW mZ mV po pw ww (xs (i + 3)) (xs (i + 4)) _ hcs hmz) (cwV 3 hts kl_g_X4_put rfl rfl rfl (by decide +kernel) ⟨Nat.le_of_ble_eq_true rfl, Nat.le_of_ble_eq_true rfl⟩) (kz_pvm hK hPc hDc (va_recv hK.1 hPc (ci := 4) (q0 := 0) rfl rfl)) rfl rfl hl.1 rfl (lv_room (Nat.le_of_ble_eq_true rfl)) dL_law_188 ⟨hc9, hs9⟩) hS (fun q _ h => hFc q h) hFc (fun r8 u t H locs ht hvm hw hB hqz9 hqk9 hS => ?_)
    obtain ⟨hr8, hu⟩ : r8 = 1 ∧ u = [(mo, .inr (4, [.int 0, .ref mc, .ref mw, .ref mz, .ref mv, .ref mp, .ref mh])), (mc, .inl (gI G, 4, .inl (kz_z (kz_un cs 0 (cs 0 + 1))))), (mw, .inl (gJ G, 480, .inr (.inl (vp_updL (kf_up mW (kf_cb mW mZ (kf_cut ww zz) zz (cs 0)) (cs 0)) (kf_cb mW mZ (kf_cut ww zz) zz (cs 0)) (kf_cut ww zz))))), (mz, .inl (gI G, 480, .inl (kz_z (kz_un (kf_up mZ (kf_cb mW mZ (kf_cut ww zz) zz (cs 0)) (cs 0)) (kf_cb mW mZ (kf_cut ww zz) zz (cs 0)) zz)))), (mv, .inl (gI G, 480, .inl (upd (kf_up mV (kf_cb mW mZ (kf_cut ww zz) zz (cs 0)) (cs 0)) (kf_cb mW mZ (kf_cut ww zz) zz (cs 0)) (xs (i + 4))))), (mp, .inl (gZ G, 3, .inl (kz_bo po))), (mh, .inl (gI G, 3, .inl (kz_pw pw)))] := by
      rcases hw with ⟨h1, h2, h3⟩ | ⟨z2, h1, h2, h3, h4, h5⟩ | ⟨z2, h1, h2, h3, h4, h5, h6⟩ | ⟨z2, h1, h2, h3, h4, h5, h6⟩
      · exact absurd (by rw [hnz]; exact kl_ok hzz) h1
      · obtain rfl := kl_inj h1 hzz h2 hnz
        exact absurd h3 hst
      · obtain rfl := kl_inj h1 hzz h2 hnz
        exact absurd h4 (by omega)
      · obtain rfl := kl_inj h1 hzz h2 hnz
        exact ⟨h5, h6⟩
    have hB : va_P G.1 vwCl u H := by rw [← ht]; exact hB
    rw [hu] at hB
    obtain ⟨hP, hD⟩ := kz_join2 (wc := [(mo, .inr (4, [.int tv, .ref mc, .ref mw, .ref mz, .ref mv, .ref mp, .ref mh])), (mc, .inl (gI G, 4, .inl (kz_z cs))), (mw, .inl (gJ G, 480, .inr (.inl mW))), (mz, .inl (gI G, 480, .inl (kz_z mZ))), (mv, .inl (gI G, 480, .inl mV)), (mp, .inl (gZ G, 3, .inl (kz_bo po))), (mh, .inl (gI G, 3, .inl (kz_pw pw)))]) (w1 := [(mo, .inr (4, [.int 0, .ref mc, .ref mw, .ref mz, .ref mv, .ref mp, .ref mh])), (mc, .inl (gI G, 4, .inl (kz_z (kz_un cs 0 (cs 0 + 1))))), (mw, .inl (gJ G, 480, .inr (.inl (vp_updL (kf_up mW (kf_cb mW mZ (kf_cut ww zz) zz (cs 0)) (cs 0)) (kf_cb mW mZ (kf_cut ww zz) zz (cs 0)) (kf_cut ww zz))))), (mz, .inl (gI G, 480, .inl (kz_z (kz_un (kf_up mZ (kf_cb mW mZ (kf_cut ww zz) zz (cs 0)) (cs 0)) (kf_cb mW mZ (kf_cut ww zz) zz (cs 0)) zz)))), (mv, .inl (gI G, 480, .inl (upd (kf_up mV (kf_cb mW mZ (kf_cut ww zz) zz (cs 0)) (cs 0)) (kf_cb mW mZ (kf_cut ww zz) zz (cs 0)) (xs (i + 4))))), (mp, .inl (gZ G, 3, .inl (kz_bo po))), (mh, .inl (gI G, 3, .inl (kz_pw pw)))]) [(xo, .inr (3, [.ref hk, .ref hc, .ref ra])), (hk, .inr (1, [.ref aw, .ref az, .ref an, .int (nI (cs 0 + 1))])), (aw, .inl (gJ G, 120, .inr (.inl (vp_updL (kf_up mW (kf_cb mW mZ (kf_cut ww zz) zz (cs 0)) (cs 0)) (kf_cb mW mZ (kf_cut ww zz) zz (cs 0)) (kf_cut ww zz))))), (az, .inl (gI G, 120, .inl (kz_z (kz_un (kf_up mZ (kf_cb mW mZ (kf_cut ww zz) zz (cs 0)) (cs 0)) (kf_cb mW mZ (kf_cut ww zz) zz (cs 0)) zz)))), (an, .inl (gI G, 120, .inl (upd (kf_up mV (kf_cb mW mZ (kf_cut ww zz) zz (cs 0)) (cs 0)) (kf_cb mW mZ (kf_cut ww zz) zz (cs 0)) (xs (i + 4))))), (hc, .inr (0, [.ref ab])), (ab, .inl (gI G, 8, .inl (kz_z kf_z0))), (ra, .inl (gO G, 3, .inr (.inr (.inr (.inr (kf_ra rd0 rd1 rd2)))))), (rd0, .inr (2, [.ref hk0, .int (kf_b (po 0)), .int (kf_p pt0)])), (hk0, .inr (1, [.ref aw0, .ref az0, .ref an0, .int (nI (cs 1))])), (aw0, .inl (gJ G, 120, .inr (.inl (kf_row mW 1)))), (az0, .inl (gI G, 120, .inl (kz_z (kf_row mZ 1)))), (an0, .inl (gI G, 120, .inl (kf_row mV 1))), (rd1, .inr (2, [.ref hk1, .int (kf_b (po 1)), .int (kf_p pt1)])), (hk1, .inr (1, [.ref aw1, .ref az1, .ref an1, .int (nI (cs 2))])), (aw1, .inl (gJ G, 120, .inr (.inl (kf_row mW 2)))), (az1, .inl (gI G, 120, .inl (kz_z (kf_row mZ 2)))), (an1, .inl (gI G, 120, .inl (kf_row mV 2))), (rd2, .inr (2, [.ref hk2, .int (kf_b (po 2)), .int (kf_p pt2)])), (hk2, .inr (1, [.ref aw2, .ref az2, .ref an2, .int (nI (cs 3))])), (aw2, .inl (gJ G, 120, .inr (.inl (kf_row mW 3)))), (az2, .inl (gI G, 120, .inl (kz_z (kf_row mZ 3)))), (an2, .inl (gI G, 120, .inl (kf_row mV 3))), (mo, .inr (4, [.int 0, .ref mc, .ref mw, .ref mz, .ref mv, .ref mp, .ref mh])), (mc, .inl (gI G, 4, .inl (kz_z (kz_un cs 0 (cs 0 + 1))))), (mw, .inl (gJ G, 480, .inr (.inl (vp_updL (kf_up mW (kf_cb mW mZ (kf_cut ww zz) zz (cs 0)) (cs 0)) (kf_cb mW mZ (kf_cut ww zz) zz (cs 0)) (kf_cut ww zz))))), (mz, .inl (gI G, 480, .inl (kz_z (kz_un (kf_up mZ (kf_cb mW mZ (kf_cut ww zz) zz (cs 0)) (cs 0)) (kf_cb mW mZ (kf_cut ww zz) zz (cs 0)) zz)))), (mv, .inl (gI G, 480, .inl (upd (kf_up mV (kf_cb mW mZ (kf_cut ww zz) zz (cs 0)) (cs 0)) (kf_cb mW mZ (kf_cut ww zz) zz (cs 0)) (xs (i + 4))))), (mp, .inl (gZ G, 3, .inl (kz_bo po))), (mh, .inl (gI G, 3, .inl (kz_pw pw))), (ao, .inl (gJ G, 1, .inr (.inl (vp_updL fo 0 1))))] hP hD [23, 24, 25, 26, 27, 28, 29] [0, 1, 2, 3, 4, 5, 6, 7, 8, 9, 10, 11, 12, 13, 14, 15, 16, 17, 18, 19, 20, 21, 22, 30] rfl rfl rfl 31 rfl (by decide) (by decide) rfl hqk9 hB
    refine kz_asi (y := 1) hr8 ?_
    refine lv_istore (lv' := [(6, .int 1), (5, .int 0), (0, .ref b), (1, .ref xo), (2, .ref mo), (3, .ref ao), (4, .int (nI i))]) hx hb dL_law_191 hl (by decide) rfl (fun ls hl => ?_)
    refine lv_aload_n hx hb dL_law_193 rfl (lv_at hl 4 rfl) ?_
    have hPc := hP.sub (ws' := [(mo, .inr (4, [.int 0, .ref mc, .ref mw, .ref mz, .ref mv, .ref mp, .ref mh])), (mc, .inl (gI G, 4, .inl (kz_z (kz_un cs 0 (cs 0 + 1))))), (mw, .inl (gJ G, 480, .inr (.inl (vp_updL (kf_up mW (kf_cb mW mZ (kf_cut ww zz) zz (cs 0)) (cs 0)) (kf_cb mW mZ (kf_cut ww zz) zz (cs 0)) (kf_cut ww zz))))), (mz, .inl (gI G, 480, .inl (kz_z (kz_un (kf_up mZ (kf_cb mW mZ (kf_cut ww zz) zz (cs 0)) (cs 0)) (kf_cb mW mZ (kf_cut ww zz) zz (cs 0)) zz)))), (mv, .inl (gI G, 480, .inl (upd (kf_up mV (kf_cb mW mZ (kf_cut ww zz) zz (cs 0)) (cs 0)) (kf_cb mW mZ (kf_cut ww zz) zz (cs 0)) (xs (i + 4))))), (mp, .inl (gZ G, 3, .inl (kz_bo po))), (mh, .inl (gI G, 3, .inl (kz_pw pw)))]) [23, 24, 25, 26, 27, 28, 29] rfl
    refine kz_ci (v := 0) (va_runV (As := []) (rest := []) ⟨hx, hb, hml, hown, hts⟩ (c_X4_thrown l G mo mc mw mz mv mp mh 0 (kz_un cs 0 (cs 0 + 1)) (vp_updL (kf_up mW (kf_cb mW mZ (kf_cut ww zz) zz (cs 0)) (cs 0)) (kf_cb mW mZ (kf_cut ww zz) zz (cs 0)) (kf_cut ww zz)) (kz_un (kf_up mZ (kf_cb mW mZ (kf_cut ww zz) zz (cs 0)) (cs 0)) (kf_cb mW mZ (kf_cut ww zz) zz (cs 0)) zz) (upd (kf_up mV (kf_cb mW mZ (kf_cut ww zz) zz (cs 0)) (cs 0)) (kf_cb mW mZ (kf_cut ww zz) zz (cs 0)) (xs (i + 4))) po pw) (cwV 0 hts kl_g_X4_thrown rfl rfl rfl (by decide +kernel) ⟨Nat.le_of_ble_eq_true rfl, Nat.le_of_ble_eq_true rfl⟩) (kz_pv hK hPc (va_recv hK.1 hPc (ci := 4) (q0 := 0) rfl rfl)) rfl rfl hl.1 rfl (lv_room (Nat.le_of_ble_eq_true rfl)) dL_law_194 ⟨hc9, hs9⟩).run ?_
    refine lv_iload hx hb dL_law_197 (lv_at hl 1 rfl) ?_
    refine lv_icmp_eq (tgt := 204) hx hb dL_law_199 (by decide) (fun c_9 => ?_) (fun c_9 => ?_)
    · refine lv_iload hx hb dL_law_204 (lv_at hl 1 rfl) ?_
      refine lv_if_ne (tgt := 228) hx hb dL_law_206 (by decide) (fun c_10 => ?_) (fun c_10 => ?_)
      · exact absurd c_10 (by decide)
      · refine lv_aload_n hx hb dL_law_209 rfl (lv_at hl 5 rfl) ?_
        refine lv_iconst (v := 0) hx hb dL_law_210 (by decide) ?_
        refine kz_lald hx hb hK.1 hP 30 1 rfl rfl (k := 0) (by decide) (by decide) dL_law_211 ?_
        refine kz_asl (y := 1) rfl ?_
        refine lv_iload hx hb dL_law_212 (lv_at hl 0 rfl) ?_
        refine lv_if_eq (tgt := 221) hx hb dL_law_214 (by decide) (fun c_11 => ?_) (fun c_11 => ?_)
        · exact absurd c_11 (by decide)
        · refine lv_lconst (v := 1) hx hb dL_law_217 (by decide) ?_
          refine lv_goto (tgt := 222) hx hb dL_law_218 (by decide) ?_
          refine W.lcmp hx hb dL_law_222 ?_
          refine lv_if_eq (tgt := 228) hx hb dL_law_223 (by decide) (fun c_12 => ?_) (fun c_12 => ?_)
          · refine lv_goto (tgt := 953) hx hb dL_law_228 (by decide) ?_
            refine W.widen (k := cells + 1) (n := slots + 6) (by omega) (by omega) ?_
            have hcv : kl_all [(xo, .inr (3, [.ref hk, .ref hc, .ref ra])), (hk, .inr (1, [.ref aw, .ref az, .ref an, .int (nI (cs 0 + 1))])), (aw, .inl (gJ G, 120, .inr (.inl (vp_updL (kf_up mW (kf_cb mW mZ (kf_cut ww zz) zz (cs 0)) (cs 0)) (kf_cb mW mZ (kf_cut ww zz) zz (cs 0)) (kf_cut ww zz))))), (az, .inl (gI G, 120, .inl (kz_z (kz_un (kf_up mZ (kf_cb mW mZ (kf_cut ww zz) zz (cs 0)) (cs 0)) (kf_cb mW mZ (kf_cut ww zz) zz (cs 0)) zz)))), (an, .inl (gI G, 120, .inl (upd (kf_up mV (kf_cb mW mZ (kf_cut ww zz) zz (cs 0)) (cs 0)) (kf_cb mW mZ (kf_cut ww zz) zz (cs 0)) (xs (i + 4))))), (hc, .inr (0, [.ref ab])), (ab, .inl (gI G, 8, .inl (kz_z kf_z0))), (ra, .inl (gO G, 3, .inr (.inr (.inr (.inr (kf_ra rd0 rd1 rd2)))))), (rd0, .inr (2, [.ref hk0, .int (kf_b (po 0)), .int (kf_p pt0)])), (hk0, .inr (1, [.ref aw0, .ref az0, .ref an0, .int (nI (cs 1))])), (aw0, .inl (gJ G, 120, .inr (.inl (kf_row mW 1)))), (az0, .inl (gI G, 120, .inl (kz_z (kf_row mZ 1)))), (an0, .inl (gI G, 120, .inl (kf_row mV 1))), (rd1, .inr (2, [.ref hk1, .int (kf_b (po 1)), .int (kf_p pt1)])), (hk1, .inr (1, [.ref aw1, .ref az1, .ref an1, .int (nI (cs 2))])), (aw1, .inl (gJ G, 120, .inr (.inl (kf_row mW 2)))), (az1, .inl (gI G, 120, .inl (kz_z (kf_row mZ 2)))), (an1, .inl (gI G, 120, .inl (kf_row mV 2))), (rd2, .inr (2, [.ref hk2, .int (kf_b (po 2)), .int (kf_p pt2)])), (hk2, .inr (1, [.ref aw2, .ref az2, .ref an2, .int (nI (cs 3))])), (aw2, .inl (gJ G, 120, .inr (.inl (kf_row mW 3)))), (az2, .inl (gI G, 120, .inl (kz_z (kf_row mZ 3)))), (an2, .inl (gI G, 120, .inl (kf_row mV 3))), (mo, .inr (4, [.int 0, .ref mc, .ref mw, .ref mz, .ref mv, .ref mp, .ref mh])), (mc, .inl (gI G, 4, .inl (kz_z (kz_un cs 0 (cs 0 + 1))))), (mw, .inl (gJ G, 480, .inr (.inl (vp_updL (kf_up mW (kf_cb mW mZ (kf_cut ww zz) zz (cs 0)) (cs 0)) (kf_cb mW mZ (kf_cut ww zz) zz (cs 0)) (kf_cut ww zz))))), (mz, .inl (gI G, 480, .inl (kz_z (kz_un (kf_up mZ (kf_cb mW mZ (kf_cut ww zz) zz (cs 0)) (cs 0)) (kf_cb mW mZ (kf_cut ww zz) zz (cs 0)) zz)))), (mv, .inl (gI G, 480, .inl (upd (kf_up mV (kf_cb mW mZ (kf_cut ww zz) zz (cs 0)) (cs 0)) (kf_cb mW mZ (kf_cut ww zz) zz (cs 0)) (xs (i + 4))))), (mp, .inl (gZ G, 3, .inl (kz_bo po))), (mh, .inl (gI G, 3, .inl (kz_pw pw))), (ao, .inl (gJ G, 1, .inr (.inl (vp_updL fo 0 1))))] [(xo, .inr (3, [.ref hk, .ref hc, .ref ra])), (hk, .inr (1, [.ref aw, .ref az, .ref an, .int (nI ((kz_un cs 0 (cs 0 + 1)) 0))])), (aw, .inl (gJ G, 120, .inr (.inl (vp_updL (kf_up mW (kf_cb mW mZ (kf_cut ww zz) zz (cs 0)) (cs 0)) (kf_cb mW mZ (kf_cut ww zz) zz (cs 0)) (kf_cut ww zz))))), (az, .inl (gI G, 120, .inl (kz_z (kz_un (kf_up mZ (kf_cb mW mZ (kf_cut ww zz) zz (cs 0)) (cs 0)) (kf_cb mW mZ (kf_cut ww zz) zz (cs 0)) zz)))), (an, .inl (gI G, 120, .inl (upd (kf_up mV (kf_cb mW mZ (kf_cut ww zz) zz (cs 0)) (cs 0)) (kf_cb mW mZ (kf_cut ww zz) zz (cs 0)) (xs (i + 4))))), (hc, .inr (0, [.ref ab])), (ab, .inl (gI G, 8, .inl (kz_z kf_z0))), (ra, .inl (gO G, 3, .inr (.inr (.inr (.inr (kf_ra rd0 rd1 rd2)))))), (rd0, .inr (2, [.ref hk0, .int (kf_b (po 0)), .int (kf_p pt0)])), (hk0, .inr (1, [.ref aw0, .ref az0, .ref an0, .int (nI ((kz_un cs 0 (cs 0 + 1)) 1))])), (aw0, .inl (gJ G, 120, .inr (.inl (kf_row (vp_updL (kf_up mW (kf_cb mW mZ (kf_cut ww zz) zz (cs 0)) (cs 0)) (kf_cb mW mZ (kf_cut ww zz) zz (cs 0)) (kf_cut ww zz)) 1)))), (az0, .inl (gI G, 120, .inl (kz_z (kf_row (kz_un (kf_up mZ (kf_cb mW mZ (kf_cut ww zz) zz (cs 0)) (cs 0)) (kf_cb mW mZ (kf_cut ww zz) zz (cs 0)) zz) 1)))), (an0, .inl (gI G, 120, .inl (kf_row (upd (kf_up mV (kf_cb mW mZ (kf_cut ww zz) zz (cs 0)) (cs 0)) (kf_cb mW mZ (kf_cut ww zz) zz (cs 0)) (xs (i + 4))) 1))), (rd1, .inr (2, [.ref hk1, .int (kf_b (po 1)), .int (kf_p pt1)])), (hk1, .inr (1, [.ref aw1, .ref az1, .ref an1, .int (nI ((kz_un cs 0 (cs 0 + 1)) 2))])), (aw1, .inl (gJ G, 120, .inr (.inl (kf_row (vp_updL (kf_up mW (kf_cb mW mZ (kf_cut ww zz) zz (cs 0)) (cs 0)) (kf_cb mW mZ (kf_cut ww zz) zz (cs 0)) (kf_cut ww zz)) 2)))), (az1, .inl (gI G, 120, .inl (kz_z (kf_row (kz_un (kf_up mZ (kf_cb mW mZ (kf_cut ww zz) zz (cs 0)) (cs 0)) (kf_cb mW mZ (kf_cut ww zz) zz (cs 0)) zz) 2)))), (an1, .inl (gI G, 120, .inl (kf_row (upd (kf_up mV (kf_cb mW mZ (kf_cut ww zz) zz (cs 0)) (cs 0)) (kf_cb mW mZ (kf_cut ww zz) zz (cs 0)) (xs (i + 4))) 2))), (rd2, .inr (2, [.ref hk2, .int (kf_b (po 2)), .int (kf_p pt2)])), (hk2, .inr (1, [.ref aw2, .ref az2, .ref an2, .int (nI ((kz_un cs 0 (cs 0 + 1)) 3))])), (aw2, .inl (gJ G, 120, .inr (.inl (kf_row (vp_updL (kf_up mW (kf_cb mW mZ (kf_cut ww zz) zz (cs 0)) (cs 0)) (kf_cb mW mZ (kf_cut ww zz) zz (cs 0)) (kf_cut ww zz)) 3)))), (az2, .inl (gI G, 120, .inl (kz_z (kf_row (kz_un (kf_up mZ (kf_cb mW mZ (kf_cut ww zz) zz (cs 0)) (cs 0)) (kf_cb mW mZ (kf_cut ww zz) zz (cs 0)) zz) 3)))), (an2, .inl (gI G, 120, .inl (kf_row (upd (kf_up mV (kf_cb mW mZ (kf_cut ww zz) zz (cs 0)) (cs 0)) (kf_cb mW mZ (kf_cut ww zz) zz (cs 0)) (xs (i + 4))) 3))), (mo, .inr (4, [.int 0, .ref mc, .ref mw, .ref mz, .ref mv, .ref mp, .ref mh])), (mc, .inl (gI G, 4, .inl (kz_z (kz_un cs 0 (cs 0 + 1))))), (mw, .inl (gJ G, 480, .inr (.inl (vp_updL (kf_up mW (kf_cb mW mZ (kf_cut ww zz) zz (cs 0)) (cs 0)) (kf_cb mW mZ (kf_cut ww zz) zz (cs 0)) (kf_cut ww zz))))), (mz, .inl (gI G, 480, .inl (kz_z (kz_un (kf_up mZ (kf_cb mW mZ (kf_cut ww zz) zz (cs 0)) (cs 0)) (kf_cb mW mZ (kf_cut ww zz) zz (cs 0)) zz)))), (mv, .inl (gI G, 480, .inl (upd (kf_up mV (kf_cb mW mZ (kf_cut ww zz) zz (cs 0)) (cs 0)) (kf_cb mW mZ (kf_cut ww zz) zz (cs 0)) (xs (i + 4))))), (mp, .inl (gZ G, 3, .inl (kz_bo po))), (mh, .inl (gI G, 3, .inl (kz_pw pw))), (ao, .inl (gJ G, 1, .inr (.inl (vp_updL fo 0 1))))] := (kl_c kl_r (kl_c kl_r (kl_c kl_r (kl_c kl_r (kl_c kl_r (kl_c kl_r (kl_c kl_r (kl_c kl_r (kl_c kl_r (kl_c kl_r (kl_c (kl_Je ((kl_uL_row _ (Nat.lt_of_le_of_lt (kf_cb_le mW mZ (kf_cut ww zz) zz (cs 0)) hlt) (by decide)).trans (kl_up_row _ hlt (by decide)))) (kl_c (kl_Ze ((kl_un_row _ (Nat.lt_of_le_of_lt (kf_cb_le mW mZ (kf_cut ww zz) zz (cs 0)) hlt) (by decide)).trans (kl_up_row _ hlt (by decide)))) (kl_c (kl_Ie ((kl_u_row _ (Nat.lt_of_le_of_lt (kf_cb_le mW mZ (kf_cut ww zz) zz (cs 0)) hlt) (by decide)).trans (kl_up_row _ hlt (by decide)))) (kl_c kl_r (kl_c kl_r (kl_c (kl_Je ((kl_uL_row _ (Nat.lt_of_le_of_lt (kf_cb_le mW mZ (kf_cut ww zz) zz (cs 0)) hlt) (by decide)).trans (kl_up_row _ hlt (by decide)))) (kl_c (kl_Ze ((kl_un_row _ (Nat.lt_of_le_of_lt (kf_cb_le mW mZ (kf_cut ww zz) zz (cs 0)) hlt) (by decide)).trans (kl_up_row _ hlt (by decide)))) (kl_c (kl_Ie ((kl_u_row _ (Nat.lt_of_le_of_lt (kf_cb_le mW mZ (kf_cut ww zz) zz (cs 0)) hlt) (by decide)).trans (kl_up_row _ hlt (by decide)))) (kl_c kl_r (kl_c kl_r (kl_c (kl_Je ((kl_uL_row _ (Nat.lt_of_le_of_lt (kf_cb_le mW mZ (kf_cut ww zz) zz (cs 0)) hlt) (by decide)).trans (kl_up_row _ hlt (by decide)))) (kl_c (kl_Ze ((kl_un_row _ (Nat.lt_of_le_of_lt (kf_cb_le mW mZ (kf_cut ww zz) zz (cs 0)) hlt) (by decide)).trans (kl_up_row _ hlt (by decide)))) (kl_c (kl_Ie ((kl_u_row _ (Nat.lt_of_le_of_lt (kf_cb_le mW mZ (kf_cut ww zz) zz (cs 0)) hlt) (by decide)).trans (kl_up_row _ hlt (by decide)))) (kl_c kl_r (kl_c kl_r (kl_c kl_r (kl_c kl_r (kl_c kl_r (kl_c kl_r (kl_c kl_r (kl_c kl_r kl_n)))))))))))))))))))))))))))))))
            exact hN 0 (kz_un cs 0 (cs 0 + 1)) (vp_updL (kf_up mW (kf_cb mW mZ (kf_cut ww zz) zz (cs 0)) (cs 0)) (kf_cb mW mZ (kf_cut ww zz) zz (cs 0)) (kf_cut ww zz)) (kz_un (kf_up mZ (kf_cb mW mZ (kf_cut ww zz) zz (cs 0)) (cs 0)) (kf_cb mW mZ (kf_cut ww zz) zz (cs 0)) zz) (upd (kf_up mV (kf_cb mW mZ (kf_cut ww zz) zz (cs 0)) (cs 0)) (kf_cb mW mZ (kf_cut ww zz) zz (cs 0)) (xs (i + 4))) po pw pt0 pt1 pt2 (vp_updL fo 0 1) H locs ls (kl_M_ins hM ww hzz hst hlt) (kl_P hcv hP) (kl_D hcv hD) hS (lv_sub hl [2, 3, 4, 5, 6] rfl)
          · exact absurd ((lg_cmp_eq _ _).mpr rfl) c_12
    · exact absurd c_9 (by decide)
