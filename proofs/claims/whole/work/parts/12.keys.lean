theorem kf_if0 {P : Prop} {inst : Decidable P} (h : (if P then (1 : Int32) else 0) = 0) : ¬ P := fun hp => by rw [if_pos hp] at h; exact absurd h (by decide)
theorem kf_if1 {P : Prop} {inst : Decidable P} (h : ¬ (if P then (1 : Int32) else 0) = 0) : P := by
  rcases Decidable.em P with hp | hp
  · exact hp
  · rw [if_neg hp] at h; exact absurd rfl h
theorem kf_pl {pl : Int32} {nn : Nat} (hn : nn ≤ 120) (h : 0 ≤ pl ∧ pl < nI nn) : ∃ jj : Nat, jj < nn ∧ pl = nI jj := by
  obtain ⟨jj, h1, rfl⟩ := nI_of (x := pl) (Int32.not_lt.mpr h.1)
  exact ⟨jj, (nI_ltI h1 (by omega)).mp h.2, rfl⟩
theorem kf_plN {jj nn : Nat} (hj : jj < 2 ^ 31) (hn : nn < 2 ^ 31) : (0 ≤ nI jj ∧ nI jj < nI nn) ↔ jj < nn := ⟨fun h => (nI_ltI hj hn).mp h.2, fun h => ⟨nI_pos' hj, (nI_ltI hj hn).mpr h⟩⟩

set_option maxHeartbeats 4000000 in
set_option maxRecDepth 100000 in
theorem c_X1_count (l : Launch) (G : kz_G) (hk aw az an nn : Nat) (fw : Nat → Int64) (fz fv : Nat → Int32) : Met l yX1_count wsX1_count { frames := 0, cells := 0, slots := 0, locals := 0 } (kz_Pp G [.ref hk] [(hk, .inr (1, [.ref aw, .ref az, .ref an, .int (nI nn)])), (aw, .inl (gJ G, 120, .inr (.inl fw))), (az, .inl (gI G, 120, .inl fz)), (an, .inl (gI G, 120, .inl fv))]) (vp_Si (fun r => r = nI nn)) 0 0 (fun _ => False) := by
  refine Met.ofW (cc := cX1_count) (maxL := 1) (ret := (some .int)) (by decide) rfl ?_
  intro p e s m args below meth c s₁ B hml hv
  obtain ⟨rfl, hP, hK⟩ := hv
  have hx := B.exec
  have hb := B.bytes
  have hr := B.returns
  have hts := atoms_spec (ws := wsX1_count) B.pre
  have hown : s.vm.findClass RX1 = some m.cls := findClass_of_methodNamed B.named
  have hlocks := B.notSynchronized
  have hinX1 : ∀ w ∈ wsX10, w ∈ wsX1_count := by decide +kernel
  have hP : va_P G.1 vwCl [(hk, .inr (1, [.ref aw, .ref az, .ref an, .int (nI nn)])), (aw, .inl (gJ G, 120, .inr (.inl fw))), (az, .inl (gI G, 120, .inl fz)), (an, .inl (gI G, 120, .inl fv))] s.heap := hP
  have hl := lv_entry ([.ref hk]) (n := 1) (Nat.le_of_ble_eq_true rfl)
  rw [lg_entry_eq]
  generalize (lg_sl ([.ref hk]) ++ List.replicate (1 - (lg_sl ([.ref hk])).length) Slot.unset).toArray = ls at hl ⊢
  have hl : lv_has ls 1 [(0, .ref hk)] := hl
  refine lv_aload_n hx hb dX1_count_0 rfl (lv_at hl 0 rfl) ?_
  refine va_get (D := G.1) (ci := 1) (v := .int (nI nn)) (C := RX1) (T := TX1) (N := 4) hx hb hts hinX1 hown hK.1 hP 0 rfl rfl 3 (by decide) (hts (.fieldLink RX1 22 "ForkStore$Keys" "count" "I") (by decide +kernel)) (fun _ h9 => h9) rfl dX1_count_1 ?_
  exact W.iret (v := nI nn) hx hb hr (fun t ht hW => ⟨_, rfl, rfl, ht⟩) (fun _ h => nomatch h) dX1_count_4

set_option maxHeartbeats 4000000 in
set_option maxRecDepth 100000 in
theorem c_X1_isFull (l : Launch) (G : kz_G) (hk aw az an nn : Nat) (fw : Nat → Int64) (fz fv : Nat → Int32) (hn : nn ≤ 120) : Met l yX1_isFull wsX1_isFull { frames := 0, cells := 0, slots := 0, locals := 0 } (kz_Pp G [.ref hk] [(hk, .inr (1, [.ref aw, .ref az, .ref an, .int (nI nn)])), (aw, .inl (gJ G, 120, .inr (.inl fw))), (az, .inl (gI G, 120, .inl fz)), (an, .inl (gI G, 120, .inl fv))]) (vp_Si (fun r => r = if 120 ≤ nn then 1 else 0)) 0 0 (fun _ => False) := by
  refine Met.ofW (cc := cX1_isFull) (maxL := 1) (ret := (some .boolean)) (by decide) rfl ?_
  intro p e s m args below meth c s₁ B hml hv
  obtain ⟨rfl, hP, hK⟩ := hv
  have hx := B.exec
  have hb := B.bytes
  have hr := B.returns
  have hts := atoms_spec (ws := wsX1_isFull) B.pre
  have hown : s.vm.findClass RX1 = some m.cls := findClass_of_methodNamed B.named
  have hlocks := B.notSynchronized
  have hinX1 : ∀ w ∈ wsX10, w ∈ wsX1_isFull := by decide +kernel
  have hP : va_P G.1 vwCl [(hk, .inr (1, [.ref aw, .ref az, .ref an, .int (nI nn)])), (aw, .inl (gJ G, 120, .inr (.inl fw))), (az, .inl (gI G, 120, .inl fz)), (an, .inl (gI G, 120, .inl fv))] s.heap := hP
  have hl := lv_entry ([.ref hk]) (n := 1) (Nat.le_of_ble_eq_true rfl)
  rw [lg_entry_eq]
  generalize (lg_sl ([.ref hk]) ++ List.replicate (1 - (lg_sl ([.ref hk])).length) Slot.unset).toArray = ls at hl ⊢
  have hl : lv_has ls 1 [(0, .ref hk)] := hl
  refine lv_aload_n hx hb dX1_isFull_0 rfl (lv_at hl 0 rfl) ?_
  refine va_get (D := G.1) (ci := 1) (v := .int (nI nn)) (C := RX1) (T := TX1) (N := 4) hx hb hts hinX1 hown hK.1 hP 0 rfl rfl 3 (by decide) (hts (.fieldLink RX1 22 "ForkStore$Keys" "count" "I") (by decide +kernel)) (fun _ h9 => h9) rfl dX1_isFull_1 ?_
  refine lv_bipush (v := 120) hx hb dX1_isFull_4 (by decide) ?_
  refine lv_icmp_lt (tgt := 13) hx hb dX1_isFull_6 (by decide) (fun c_1 => ?_) (fun c_1 => ?_)
  · refine lv_iconst (v := 0) hx hb dX1_isFull_13 (by decide) ?_
    exact W.zret (v := 0) hx hb hr rfl (fun t ht hW => ⟨_, rfl, (if_neg (fun h => absurd ((nI_ltI (b := 120) (by omega) (by decide)).mp c_1) (by omega))).symm, ht⟩) (fun _ h => nomatch h) dX1_isFull_14
  · refine lv_iconst (v := 1) hx hb dX1_isFull_9 (by decide) ?_
    refine lv_goto (tgt := 14) hx hb dX1_isFull_10 (by decide) ?_
    exact W.zret (v := 1) hx hb hr rfl (fun t ht hW => ⟨_, rfl, (if_pos (by rcases Nat.lt_or_ge nn 120 with h | h; exact absurd ((nI_ltI (b := 120) (by omega) (by decide)).mpr h) c_1; exact h)).symm, ht⟩) (fun _ h => nomatch h) dX1_isFull_14

set_option maxHeartbeats 4000000 in
set_option maxRecDepth 100000 in
theorem c_X1_isPlace (l : Launch) (G : kz_G) (hk aw az an nn : Nat) (fw : Nat → Int64) (fz fv : Nat → Int32) (pl : Int32) : Met l yX1_isPlace wsX1_isPlace { frames := 0, cells := 0, slots := 0, locals := 0 } (kz_Pp G [.ref hk, .int pl] [(hk, .inr (1, [.ref aw, .ref az, .ref an, .int (nI nn)])), (aw, .inl (gJ G, 120, .inr (.inl fw))), (az, .inl (gI G, 120, .inl fz)), (an, .inl (gI G, 120, .inl fv))]) (vp_Si (fun r => r = if 0 ≤ pl ∧ pl < nI nn then 1 else 0)) 0 0 (fun _ => False) := by
  refine Met.ofW (cc := cX1_isPlace) (maxL := 2) (ret := (some .boolean)) (by decide) rfl ?_
  intro p e s m args below meth c s₁ B hml hv
  obtain ⟨rfl, hP, hK⟩ := hv
  have hx := B.exec
  have hb := B.bytes
  have hr := B.returns
  have hts := atoms_spec (ws := wsX1_isPlace) B.pre
  have hown : s.vm.findClass RX1 = some m.cls := findClass_of_methodNamed B.named
  have hlocks := B.notSynchronized
  have hinX1 : ∀ w ∈ wsX10, w ∈ wsX1_isPlace := by decide +kernel
  have hP : va_P G.1 vwCl [(hk, .inr (1, [.ref aw, .ref az, .ref an, .int (nI nn)])), (aw, .inl (gJ G, 120, .inr (.inl fw))), (az, .inl (gI G, 120, .inl fz)), (an, .inl (gI G, 120, .inl fv))] s.heap := hP
  have hl := lv_entry ([.ref hk, .int pl]) (n := 2) (Nat.le_of_ble_eq_true rfl)
  rw [lg_entry_eq]
  generalize (lg_sl ([.ref hk, .int pl]) ++ List.replicate (2 - (lg_sl ([.ref hk, .int pl])).length) Slot.unset).toArray = ls at hl ⊢
  have hl : lv_has ls 2 [(0, .ref hk), (1, .int pl)] := hl
  refine lv_iload_n hx hb dX1_isPlace_0 rfl (lv_at hl 1 rfl) ?_
  refine lv_if_lt (tgt := 16) hx hb dX1_isPlace_1 (by decide) (fun c_1 => ?_) (fun c_1 => ?_)
  · refine lv_iconst (v := 0) hx hb dX1_isPlace_16 (by decide) ?_
    exact W.zret (v := 0) hx hb hr rfl (fun t ht hW => ⟨_, rfl, (if_neg (fun h => absurd c_1 (Int32.not_lt.mpr h.1))).symm, ht⟩) (fun _ h => nomatch h) dX1_isPlace_17
  · refine lv_iload_n hx hb dX1_isPlace_4 rfl (lv_at hl 1 rfl) ?_
    refine lv_aload_n hx hb dX1_isPlace_5 rfl (lv_at hl 0 rfl) ?_
    refine va_get (D := G.1) (ci := 1) (v := .int (nI nn)) (C := RX1) (T := TX1) (N := 4) hx hb hts hinX1 hown hK.1 hP 0 rfl rfl 3 (by decide) (hts (.fieldLink RX1 22 "ForkStore$Keys" "count" "I") (by decide +kernel)) (fun _ h9 => h9) rfl dX1_isPlace_6 ?_
    refine lv_icmp_ge (tgt := 16) hx hb dX1_isPlace_9 (by decide) (fun c_2 => ?_) (fun c_2 => ?_)
    · refine lv_iconst (v := 0) hx hb dX1_isPlace_16 (by decide) ?_
      exact W.zret (v := 0) hx hb hr rfl (fun t ht hW => ⟨_, rfl, (if_neg (fun h => absurd h.2 (Int32.not_lt.mpr c_2))).symm, ht⟩) (fun _ h => nomatch h) dX1_isPlace_17
    · refine lv_iconst (v := 1) hx hb dX1_isPlace_12 (by decide) ?_
      refine lv_goto (tgt := 17) hx hb dX1_isPlace_13 (by decide) ?_
      exact W.zret (v := 1) hx hb hr rfl (fun t ht hW => ⟨_, rfl, (if_pos ⟨Int32.not_lt.mp c_1, Int32.not_le.mp c_2⟩).symm, ht⟩) (fun _ h => nomatch h) dX1_isPlace_17

set_option maxHeartbeats 4000000 in
set_option maxRecDepth 100000 in
theorem c_X1_wordAt (l : Launch) (G : kz_G) (hk aw az an nn : Nat) (fw : Nat → Int64) (fz fv : Nat → Int32) (pl : Int32) (hn : nn ≤ 120) : Met l yX1_wordAt wsX1_wordAt { frames := 1, cells := 0, slots := 0, locals := 21 } (kz_Pp G [.ref hk, .int pl] [(hk, .inr (1, [.ref aw, .ref az, .ref an, .int (nI nn)])), (aw, .inl (gJ G, 120, .inr (.inl fw))), (az, .inl (gI G, 120, .inl fz)), (an, .inl (gI G, 120, .inl fv))]) (vp_Sl (fun r => r = if 0 ≤ pl ∧ pl < nI nn then fw pl.toNatClampNeg else 0)) 0 0 (fun _ => False) := by
  refine Met.ofW (cc := cX1_wordAt) (maxL := 2) (ret := (some .long)) (by decide) rfl ?_
  intro p e s m args below meth c s₁ B hml hv
  obtain ⟨rfl, hP, hK⟩ := hv
  have hx := B.exec
  have hb := B.bytes
  have hr := B.returns
  have hts := atoms_spec (ws := wsX1_wordAt) B.pre
  have hown : s.vm.findClass RX1 = some m.cls := findClass_of_methodNamed B.named
  have hlocks := B.notSynchronized
  have hinX1 : ∀ w ∈ wsX10, w ∈ wsX1_wordAt := by decide +kernel
  have hP : va_P G.1 vwCl [(hk, .inr (1, [.ref aw, .ref az, .ref an, .int (nI nn)])), (aw, .inl (gJ G, 120, .inr (.inl fw))), (az, .inl (gI G, 120, .inl fz)), (an, .inl (gI G, 120, .inl fv))] s.heap := hP
  have hl := lv_entry ([.ref hk, .int pl]) (n := 2) (Nat.le_of_ble_eq_true rfl)
  rw [lg_entry_eq]
  generalize (lg_sl ([.ref hk, .int pl]) ++ List.replicate (2 - (lg_sl ([.ref hk, .int pl])).length) Slot.unset).toArray = ls at hl ⊢
  have hl : lv_has ls 2 [(0, .ref hk), (1, .int pl)] := hl
  refine lv_aload_n hx hb dX1_wordAt_0 rfl (lv_at hl 0 rfl) ?_
  refine lv_iload_n hx hb dX1_wordAt_1 rfl (lv_at hl 1 rfl) ?_
  have hPc := hP.sub (ws' := [(hk, .inr (1, [.ref aw, .ref az, .ref an, .int (nI nn)])), (aw, .inl (gJ G, 120, .inr (.inl fw))), (az, .inl (gI G, 120, .inl fz)), (an, .inl (gI G, 120, .inl fv))]) [0, 1, 2, 3] rfl
  refine kz_ci (v := if 0 ≤ pl ∧ pl < nI nn then 1 else 0) (va_runV (As := [.int pl]) (rest := []) ⟨hx, hb, hml, hown, hts⟩ (c_X1_isPlace l G hk aw az an nn fw fz fv pl ) (cwV 1 hts gX1_wordAt_X1_isPlace rfl rfl rfl (by decide +kernel) ⟨Nat.le_of_ble_eq_true rfl, Nat.le_of_ble_eq_true rfl⟩) (kz_pv hK hPc (va_recv hK.1 hPc (ci := 1) (q0 := 0) rfl rfl)) rfl rfl hl.1 rfl (lv_room (Nat.le_of_ble_eq_true rfl)) dX1_wordAt_2 ⟨Nat.zero_le _, Nat.zero_le _⟩).run ?_
  refine lv_if_eq (tgt := 17) hx hb dX1_wordAt_5 (by decide) (fun c_1 => ?_) (fun c_1 => ?_)
  · have kc_1 := kf_if0 c_1
    refine lv_lconst (v := 0) hx hb dX1_wordAt_17 (by decide) ?_
    exact W.lret (v := 0) hx hb hr (fun t ht hW => ⟨_, rfl, (if_neg kc_1).symm, ht⟩) (fun _ h => nomatch h) dX1_wordAt_18
  · have kc_1 := kf_if1 c_1
    obtain ⟨jj, hjj, rfl⟩ := kf_pl hn kc_1
    refine lv_aload_n hx hb dX1_wordAt_8 rfl (lv_at hl 0 rfl) ?_
    refine va_get (D := G.1) (ci := 1) (v := .ref aw) (C := RX1) (T := TX1) (N := 4) hx hb hts hinX1 hown hK.1 hP 0 rfl rfl 0 (by decide) (hts (.fieldLink RX1 9 "ForkStore$Keys" "words" "[J") (by decide +kernel)) (fun _ h9 => h9) rfl dX1_wordAt_9 ?_
    refine lv_iload_n hx hb dX1_wordAt_12 rfl (lv_at hl 1 rfl) ?_
    refine kz_lald hx hb hK.1 hP 1 1 rfl rfl (k := jj) (by omega) (by decide) dX1_wordAt_13 ?_
    refine lv_goto (tgt := 18) hx hb dX1_wordAt_14 (by decide) ?_
    exact W.lret (v := fw jj) hx hb hr (fun t ht hW => ⟨_, rfl, (by rw [if_pos kc_1, nI_clamp (by omega)]), ht⟩) (fun _ h => nomatch h) dX1_wordAt_18

set_option maxHeartbeats 4000000 in
set_option maxRecDepth 100000 in
theorem c_X1_sizeAt (l : Launch) (G : kz_G) (hk aw az an nn : Nat) (fw : Nat → Int64) (fz fv : Nat → Int32) (pl : Int32) (hn : nn ≤ 120) : Met l yX1_sizeAt wsX1_sizeAt { frames := 1, cells := 0, slots := 0, locals := 21 } (kz_Pp G [.ref hk, .int pl] [(hk, .inr (1, [.ref aw, .ref az, .ref an, .int (nI nn)])), (aw, .inl (gJ G, 120, .inr (.inl fw))), (az, .inl (gI G, 120, .inl fz)), (an, .inl (gI G, 120, .inl fv))]) (vp_Si (fun r => r = if 0 ≤ pl ∧ pl < nI nn then fz pl.toNatClampNeg else -1)) 0 0 (fun _ => False) := by
  refine Met.ofW (cc := cX1_sizeAt) (maxL := 2) (ret := (some .int)) (by decide) rfl ?_
  intro p e s m args below meth c s₁ B hml hv
  obtain ⟨rfl, hP, hK⟩ := hv
  have hx := B.exec
  have hb := B.bytes
  have hr := B.returns
  have hts := atoms_spec (ws := wsX1_sizeAt) B.pre
  have hown : s.vm.findClass RX1 = some m.cls := findClass_of_methodNamed B.named
  have hlocks := B.notSynchronized
  have hinX1 : ∀ w ∈ wsX10, w ∈ wsX1_sizeAt := by decide +kernel
  have hP : va_P G.1 vwCl [(hk, .inr (1, [.ref aw, .ref az, .ref an, .int (nI nn)])), (aw, .inl (gJ G, 120, .inr (.inl fw))), (az, .inl (gI G, 120, .inl fz)), (an, .inl (gI G, 120, .inl fv))] s.heap := hP
  have hl := lv_entry ([.ref hk, .int pl]) (n := 2) (Nat.le_of_ble_eq_true rfl)
  rw [lg_entry_eq]
  generalize (lg_sl ([.ref hk, .int pl]) ++ List.replicate (2 - (lg_sl ([.ref hk, .int pl])).length) Slot.unset).toArray = ls at hl ⊢
  have hl : lv_has ls 2 [(0, .ref hk), (1, .int pl)] := hl
  refine lv_aload_n hx hb dX1_sizeAt_0 rfl (lv_at hl 0 rfl) ?_
  refine lv_iload_n hx hb dX1_sizeAt_1 rfl (lv_at hl 1 rfl) ?_
  have hPc := hP.sub (ws' := [(hk, .inr (1, [.ref aw, .ref az, .ref an, .int (nI nn)])), (aw, .inl (gJ G, 120, .inr (.inl fw))), (az, .inl (gI G, 120, .inl fz)), (an, .inl (gI G, 120, .inl fv))]) [0, 1, 2, 3] rfl
  refine kz_ci (v := if 0 ≤ pl ∧ pl < nI nn then 1 else 0) (va_runV (As := [.int pl]) (rest := []) ⟨hx, hb, hml, hown, hts⟩ (c_X1_isPlace l G hk aw az an nn fw fz fv pl ) (cwV 1 hts gX1_sizeAt_X1_isPlace rfl rfl rfl (by decide +kernel) ⟨Nat.le_of_ble_eq_true rfl, Nat.le_of_ble_eq_true rfl⟩) (kz_pv hK hPc (va_recv hK.1 hPc (ci := 1) (q0 := 0) rfl rfl)) rfl rfl hl.1 rfl (lv_room (Nat.le_of_ble_eq_true rfl)) dX1_sizeAt_2 ⟨Nat.zero_le _, Nat.zero_le _⟩).run ?_
  refine lv_if_eq (tgt := 17) hx hb dX1_sizeAt_5 (by decide) (fun c_1 => ?_) (fun c_1 => ?_)
  · have kc_1 := kf_if0 c_1
    refine lv_iconst (v := (-1)) hx hb dX1_sizeAt_17 (by decide) ?_
    exact W.iret (v := (-1)) hx hb hr (fun t ht hW => ⟨_, rfl, (if_neg kc_1).symm, ht⟩) (fun _ h => nomatch h) dX1_sizeAt_18
  · have kc_1 := kf_if1 c_1
    obtain ⟨jj, hjj, rfl⟩ := kf_pl hn kc_1
    refine lv_aload_n hx hb dX1_sizeAt_8 rfl (lv_at hl 0 rfl) ?_
    refine va_get (D := G.1) (ci := 1) (v := .ref az) (C := RX1) (T := TX1) (N := 4) hx hb hts hinX1 hown hK.1 hP 0 rfl rfl 1 (by decide) (hts (.fieldLink RX1 15 "ForkStore$Keys" "sizes" "[I") (by decide +kernel)) (fun _ h9 => h9) rfl dX1_sizeAt_9 ?_
    refine lv_iload_n hx hb dX1_sizeAt_12 rfl (lv_at hl 1 rfl) ?_
    refine kz_iald hx hb hK.1 hP 2 0 rfl rfl (k := jj) (by omega) (by decide) dX1_sizeAt_13 ?_
    refine lv_goto (tgt := 18) hx hb dX1_sizeAt_14 (by decide) ?_
    exact W.iret (v := fz jj) hx hb hr (fun t ht hW => ⟨_, rfl, (by rw [if_pos kc_1, nI_clamp (by omega)]), ht⟩) (fun _ h => nomatch h) dX1_sizeAt_18

set_option maxHeartbeats 4000000 in
set_option maxRecDepth 100000 in
theorem c_X1_numberAt (l : Launch) (G : kz_G) (hk aw az an nn : Nat) (fw : Nat → Int64) (fz fv : Nat → Int32) (pl : Int32) (hn : nn ≤ 120) : Met l yX1_numberAt wsX1_numberAt { frames := 1, cells := 0, slots := 0, locals := 21 } (kz_Pp G [.ref hk, .int pl] [(hk, .inr (1, [.ref aw, .ref az, .ref an, .int (nI nn)])), (aw, .inl (gJ G, 120, .inr (.inl fw))), (az, .inl (gI G, 120, .inl fz)), (an, .inl (gI G, 120, .inl fv))]) (vp_Si (fun r => r = if 0 ≤ pl ∧ pl < nI nn then fv pl.toNatClampNeg else 0)) 0 0 (fun _ => False) := by
  refine Met.ofW (cc := cX1_numberAt) (maxL := 2) (ret := (some .int)) (by decide) rfl ?_
  intro p e s m args below meth c s₁ B hml hv
  obtain ⟨rfl, hP, hK⟩ := hv
  have hx := B.exec
  have hb := B.bytes
  have hr := B.returns
  have hts := atoms_spec (ws := wsX1_numberAt) B.pre
  have hown : s.vm.findClass RX1 = some m.cls := findClass_of_methodNamed B.named
  have hlocks := B.notSynchronized
  have hinX1 : ∀ w ∈ wsX10, w ∈ wsX1_numberAt := by decide +kernel
  have hP : va_P G.1 vwCl [(hk, .inr (1, [.ref aw, .ref az, .ref an, .int (nI nn)])), (aw, .inl (gJ G, 120, .inr (.inl fw))), (az, .inl (gI G, 120, .inl fz)), (an, .inl (gI G, 120, .inl fv))] s.heap := hP
  have hl := lv_entry ([.ref hk, .int pl]) (n := 2) (Nat.le_of_ble_eq_true rfl)
  rw [lg_entry_eq]
  generalize (lg_sl ([.ref hk, .int pl]) ++ List.replicate (2 - (lg_sl ([.ref hk, .int pl])).length) Slot.unset).toArray = ls at hl ⊢
  have hl : lv_has ls 2 [(0, .ref hk), (1, .int pl)] := hl
  refine lv_aload_n hx hb dX1_numberAt_0 rfl (lv_at hl 0 rfl) ?_
  refine lv_iload_n hx hb dX1_numberAt_1 rfl (lv_at hl 1 rfl) ?_
  have hPc := hP.sub (ws' := [(hk, .inr (1, [.ref aw, .ref az, .ref an, .int (nI nn)])), (aw, .inl (gJ G, 120, .inr (.inl fw))), (az, .inl (gI G, 120, .inl fz)), (an, .inl (gI G, 120, .inl fv))]) [0, 1, 2, 3] rfl
  refine kz_ci (v := if 0 ≤ pl ∧ pl < nI nn then 1 else 0) (va_runV (As := [.int pl]) (rest := []) ⟨hx, hb, hml, hown, hts⟩ (c_X1_isPlace l G hk aw az an nn fw fz fv pl ) (cwV 1 hts gX1_numberAt_X1_isPlace rfl rfl rfl (by decide +kernel) ⟨Nat.le_of_ble_eq_true rfl, Nat.le_of_ble_eq_true rfl⟩) (kz_pv hK hPc (va_recv hK.1 hPc (ci := 1) (q0 := 0) rfl rfl)) rfl rfl hl.1 rfl (lv_room (Nat.le_of_ble_eq_true rfl)) dX1_numberAt_2 ⟨Nat.zero_le _, Nat.zero_le _⟩).run ?_
  refine lv_if_eq (tgt := 17) hx hb dX1_numberAt_5 (by decide) (fun c_1 => ?_) (fun c_1 => ?_)
  · have kc_1 := kf_if0 c_1
    refine lv_iconst (v := 0) hx hb dX1_numberAt_17 (by decide) ?_
    exact W.iret (v := 0) hx hb hr (fun t ht hW => ⟨_, rfl, (if_neg kc_1).symm, ht⟩) (fun _ h => nomatch h) dX1_numberAt_18
  · have kc_1 := kf_if1 c_1
    obtain ⟨jj, hjj, rfl⟩ := kf_pl hn kc_1
    refine lv_aload_n hx hb dX1_numberAt_8 rfl (lv_at hl 0 rfl) ?_
    refine va_get (D := G.1) (ci := 1) (v := .ref an) (C := RX1) (T := TX1) (N := 4) hx hb hts hinX1 hown hK.1 hP 0 rfl rfl 2 (by decide) (hts (.fieldLink RX1 19 "ForkStore$Keys" "numbers" "[I") (by decide +kernel)) (fun _ h9 => h9) rfl dX1_numberAt_9 ?_
    refine lv_iload_n hx hb dX1_numberAt_12 rfl (lv_at hl 1 rfl) ?_
    refine kz_iald hx hb hK.1 hP 3 0 rfl rfl (k := jj) (by omega) (by decide) dX1_numberAt_13 ?_
    refine lv_goto (tgt := 18) hx hb dX1_numberAt_14 (by decide) ?_
    exact W.iret (v := fv jj) hx hb hr (fun t ht hW => ⟨_, rfl, (by rw [if_pos kc_1, nI_clamp (by omega)]), ht⟩) (fun _ h => nomatch h) dX1_numberAt_18

set_option maxHeartbeats 4000000 in
set_option maxRecDepth 100000 in
theorem c_X1_standsAt (l : Launch) (G : kz_G) (hk aw az an nn : Nat) (fw : Nat → Int64) (zs : Nat → Nat) (fv : Nat → Int32) (kk : Nat) (ww : Int64) (zz : Nat) (hn : nn ≤ 120) (hz : ∀ j, zs j ≤ 8) (hkk : kk ≤ 120) (hzz : zz ≤ 8) : Met l yX1_standsAt wsX1_standsAt { frames := 1, cells := 0, slots := 0, locals := 21 } (kz_Pp G [.ref hk, .int (nI kk), .long ww, .int (nI zz)] [(hk, .inr (1, [.ref aw, .ref az, .ref an, .int (nI nn)])), (aw, .inl (gJ G, 120, .inr (.inl fw))), (az, .inl (gI G, 120, .inl (kz_z zs))), (an, .inl (gI G, 120, .inl fv))]) (vp_Si (fun r => r = if kk < nn ∧ fw kk = ww ∧ zs kk = zz then 1 else 0)) 0 0 (fun _ => False) := by
  refine Met.ofW (cc := cX1_standsAt) (maxL := 5) (ret := (some .boolean)) (by decide) rfl ?_
  intro p e s m args below meth c s₁ B hml hv
  obtain ⟨rfl, hP, hK⟩ := hv
  have hx := B.exec
  have hb := B.bytes
  have hr := B.returns
  have hts := atoms_spec (ws := wsX1_standsAt) B.pre
  have hown : s.vm.findClass RX1 = some m.cls := findClass_of_methodNamed B.named
  have hlocks := B.notSynchronized
  have hinX1 : ∀ w ∈ wsX10, w ∈ wsX1_standsAt := by decide +kernel
  have hP : va_P G.1 vwCl [(hk, .inr (1, [.ref aw, .ref az, .ref an, .int (nI nn)])), (aw, .inl (gJ G, 120, .inr (.inl fw))), (az, .inl (gI G, 120, .inl (kz_z zs))), (an, .inl (gI G, 120, .inl fv))] s.heap := hP
  have hl := lv_entry ([.ref hk, .int (nI kk), .long ww, .int (nI zz)]) (n := 5) (Nat.le_of_ble_eq_true rfl)
  rw [lg_entry_eq]
  generalize (lg_sl ([.ref hk, .int (nI kk), .long ww, .int (nI zz)]) ++ List.replicate (5 - (lg_sl ([.ref hk, .int (nI kk), .long ww, .int (nI zz)])).length) Slot.unset).toArray = ls at hl ⊢
  have hl : lv_has ls 5 [(0, .ref hk), (1, .int (nI kk)), (2, .long ww), (4, .int (nI zz))] := hl
  refine lv_aload_n hx hb dX1_standsAt_0 rfl (lv_at hl 0 rfl) ?_
  refine lv_iload_n hx hb dX1_standsAt_1 rfl (lv_at hl 1 rfl) ?_
  have hPc := hP.sub (ws' := [(hk, .inr (1, [.ref aw, .ref az, .ref an, .int (nI nn)])), (aw, .inl (gJ G, 120, .inr (.inl fw))), (az, .inl (gI G, 120, .inl (kz_z zs))), (an, .inl (gI G, 120, .inl fv))]) [0, 1, 2, 3] rfl
  refine kz_ci (v := if 0 ≤ nI kk ∧ nI kk < nI nn then 1 else 0) (va_runV (As := [.int (nI kk)]) (rest := []) ⟨hx, hb, hml, hown, hts⟩ (c_X1_isPlace l G hk aw az an nn fw (kz_z zs) fv (nI kk) ) (cwV 1 hts gX1_standsAt_X1_isPlace rfl rfl rfl (by decide +kernel) ⟨Nat.le_of_ble_eq_true rfl, Nat.le_of_ble_eq_true rfl⟩) (kz_pv hK hPc (va_recv hK.1 hPc (ci := 1) (q0 := 0) rfl rfl)) rfl rfl hl.1 rfl (lv_room (Nat.le_of_ble_eq_true rfl)) dX1_standsAt_2 ⟨Nat.zero_le _, Nat.zero_le _⟩).run ?_
  refine lv_if_eq (tgt := 34) hx hb dX1_standsAt_5 (by decide) (fun c_1 => ?_) (fun c_1 => ?_)
  · have kc_1 : ¬ kk < nn := fun h => kf_if0 c_1 ((kf_plN (by omega) (by omega)).mpr h)
    refine lv_iconst (v := 0) hx hb dX1_standsAt_34 (by decide) ?_
    exact W.zret (v := 0) hx hb hr rfl (fun t ht hW => ⟨_, rfl, (if_neg (fun h => kc_1 h.1)).symm, ht⟩) (fun _ h => nomatch h) dX1_standsAt_35
  · have kc_1 : kk < nn := (kf_plN (by omega) (by omega)).mp (kf_if1 c_1)
    refine lv_aload_n hx hb dX1_standsAt_8 rfl (lv_at hl 0 rfl) ?_
    refine va_get (D := G.1) (ci := 1) (v := .ref aw) (C := RX1) (T := TX1) (N := 4) hx hb hts hinX1 hown hK.1 hP 0 rfl rfl 0 (by decide) (hts (.fieldLink RX1 9 "ForkStore$Keys" "words" "[J") (by decide +kernel)) (fun _ h9 => h9) rfl dX1_standsAt_9 ?_
    refine lv_iload_n hx hb dX1_standsAt_12 rfl (lv_at hl 1 rfl) ?_
    refine kz_lald hx hb hK.1 hP 1 1 rfl rfl (k := kk) (by omega) (by decide) dX1_standsAt_13 ?_
    refine lv_lload_n hx hb dX1_standsAt_14 rfl (lv_at hl 2 rfl) ?_
    refine W.lcmp hx hb dX1_standsAt_15 ?_
    refine lv_if_ne (tgt := 34) hx hb dX1_standsAt_16 (by decide) (fun c_2 => ?_) (fun c_2 => ?_)
    · refine lv_iconst (v := 0) hx hb dX1_standsAt_34 (by decide) ?_
      exact W.zret (v := 0) hx hb hr rfl (fun t ht hW => ⟨_, rfl, (if_neg (fun h => c_2 ((lg_cmp_eq _ _).mpr h.2.1))).symm, ht⟩) (fun _ h => nomatch h) dX1_standsAt_35
    · refine lv_aload_n hx hb dX1_standsAt_19 rfl (lv_at hl 0 rfl) ?_
      refine va_get (D := G.1) (ci := 1) (v := .ref az) (C := RX1) (T := TX1) (N := 4) hx hb hts hinX1 hown hK.1 hP 0 rfl rfl 1 (by decide) (hts (.fieldLink RX1 15 "ForkStore$Keys" "sizes" "[I") (by decide +kernel)) (fun _ h9 => h9) rfl dX1_standsAt_20 ?_
      refine lv_iload_n hx hb dX1_standsAt_23 rfl (lv_at hl 1 rfl) ?_
      refine kz_iald hx hb hK.1 hP 2 0 rfl rfl (k := kk) (by omega) (by decide) dX1_standsAt_24 ?_
      refine kz_asi (y := nI (zs kk)) rfl ?_
      refine lv_iload hx hb dX1_standsAt_25 (lv_at hl 3 rfl) ?_
      refine lv_icmp_ne (tgt := 34) hx hb dX1_standsAt_27 (by decide) (fun c_3 => ?_) (fun c_3 => ?_)
      · refine lv_iconst (v := 0) hx hb dX1_standsAt_34 (by decide) ?_
        exact W.zret (v := 0) hx hb hr rfl (fun t ht hW => ⟨_, rfl, (if_neg (fun h => c_3 (by rw [h.2.2]))).symm, ht⟩) (fun _ h => nomatch h) dX1_standsAt_35
      · refine lv_iconst (v := 1) hx hb dX1_standsAt_30 (by decide) ?_
        refine lv_goto (tgt := 35) hx hb dX1_standsAt_31 (by decide) ?_
        exact W.zret (v := 1) hx hb hr rfl (fun t ht hW => ⟨_, rfl, (if_pos ⟨kc_1, (lg_cmp_eq _ _).mp c_2, (nI_eq (by have := hz kk; omega) (by omega)).mp c_3⟩).symm, ht⟩) (fun _ h => nomatch h) dX1_standsAt_35

theorem kf_lt_iff {a : Int64} {z : Nat} {b : Int64} {y : Nat} : kf_lt a z b y = true ↔ (un a < un b ∨ (a = b ∧ z < y)) := by
  unfold kf_lt
  simp

set_option maxHeartbeats 4000000 in
set_option maxRecDepth 100000 in
theorem c_X1_countBefore (l : Launch) (G : kz_G) (hk aw az an nn : Nat) (fw : Nat → Int64) (zs : Nat → Nat) (fv : Nat → Int32) (ww : Int64) (zz : Nat) (hn : nn ≤ 120) (hz : ∀ j, zs j ≤ 8) (hzz : zz ≤ 8) : Met l yX1_countBefore wsX1_countBefore { frames := 2, cells := 0, slots := 0, locals := 46 } (kz_Pp G [.ref hk, .long ww, .int (nI zz)] [(hk, .inr (1, [.ref aw, .ref az, .ref an, .int (nI nn)])), (aw, .inl (gJ G, 120, .inr (.inl fw))), (az, .inl (gI G, 120, .inl (kz_z zs))), (an, .inl (gI G, 120, .inl fv))]) (vp_Si (fun r => r = nI (kf_cb fw zs ww zz nn))) 0 0 (fun _ => False) := by
  refine Met.ofW (cc := cX1_countBefore) (maxL := 6) (ret := (some .int)) (by decide) rfl ?_
  intro p e s m args below meth c s₁ B hml hv
  obtain ⟨rfl, hP, hK⟩ := hv
  have hx := B.exec
  have hb := B.bytes
  have hr := B.returns
  have hts := atoms_spec (ws := wsX1_countBefore) B.pre
  have hown : s.vm.findClass RX1 = some m.cls := findClass_of_methodNamed B.named
  have hlocks := B.notSynchronized
  have hinX1 : ∀ w ∈ wsX10, w ∈ wsX1_countBefore := by decide +kernel
  have hP : va_P G.1 vwCl [(hk, .inr (1, [.ref aw, .ref az, .ref an, .int (nI nn)])), (aw, .inl (gJ G, 120, .inr (.inl fw))), (az, .inl (gI G, 120, .inl (kz_z zs))), (an, .inl (gI G, 120, .inl fv))] s.heap := hP
  have hl := lv_entry ([.ref hk, .long ww, .int (nI zz)]) (n := 6) (Nat.le_of_ble_eq_true rfl)
  rw [lg_entry_eq]
  generalize (lg_sl ([.ref hk, .long ww, .int (nI zz)]) ++ List.replicate (6 - (lg_sl ([.ref hk, .long ww, .int (nI zz)])).length) Slot.unset).toArray = ls at hl ⊢
  have hl : lv_has ls 6 [(0, .ref hk), (1, .long ww), (3, .int (nI zz))] := hl
  refine lv_iconst (v := 0) hx hb dX1_countBefore_0 (by decide) ?_
  refine lv_istore (lv' := [(4, .int 0), (0, .ref hk), (1, .long ww), (3, .int (nI zz))]) hx hb dX1_countBefore_1 hl (by decide) rfl (fun ls hl => ?_)
  have hfin : kf_cbn fw zs ww zz (nn - 0) 0 = kf_cb fw zs ww zz nn := rfl
  have hl : lv_has ls 6 [(4, .int (nI 0)), (0, .ref hk), (1, .long ww), (3, .int (nI zz))] := lv_sub hl [0, 1, 2, 3] rfl
  refine kz_loopf (nL := 6) (hd := 3) (e9 := nn) (LV := fun ii => [(4, .int (nI ii)), (0, .ref hk), (1, .long ww), (3, .int (nI zz))]) (F := fun ii => kf_cbn fw zs ww zz (nn - ii) ii = kf_cb fw zs ww zz nn) (fun ii ls hii hl hfin ih => ?_) (Nat.zero_le _) hl hfin
  have hl : lv_has ls 6 [(4, .int (nI ii)), (0, .ref hk), (1, .long ww), (3, .int (nI zz))] := hl
  have hfin : kf_cbn fw zs ww zz (nn - ii) ii = kf_cb fw zs ww zz nn := hfin
  refine lv_iload hx hb dX1_countBefore_3 (lv_at hl 0 rfl) ?_
  refine lv_aload_n hx hb dX1_countBefore_5 rfl (lv_at hl 1 rfl) ?_
  refine va_get (D := G.1) (ci := 1) (v := .int (nI nn)) (C := RX1) (T := TX1) (N := 4) hx hb hts hinX1 hown hK.1 hP 0 rfl rfl 3 (by decide) (hts (.fieldLink RX1 22 "ForkStore$Keys" "count" "I") (by decide +kernel)) (fun _ h9 => h9) rfl dX1_countBefore_6 ?_
  refine lv_icmp_ge (tgt := 55) hx hb dX1_countBefore_9 (by decide) (fun c_1 => ?_) (fun c_1 => ?_)
  · have kc_1 : nn ≤ ii := (nI_leI (by omega) (by omega)).mp c_1
    refine lv_aload_n hx hb dX1_countBefore_55 rfl (lv_at hl 1 rfl) ?_
    refine va_get (D := G.1) (ci := 1) (v := .int (nI nn)) (C := RX1) (T := TX1) (N := 4) hx hb hts hinX1 hown hK.1 hP 0 rfl rfl 3 (by decide) (hts (.fieldLink RX1 22 "ForkStore$Keys" "count" "I") (by decide +kernel)) (fun _ h9 => h9) rfl dX1_countBefore_56 ?_
    have hq : nI nn = nI (kf_cb fw zs ww zz nn) := by
      rw [← hfin, show nn - ii = 0 from by omega, show nn = ii from by omega]
      rfl
    exact W.iret (v := nI nn) hx hb hr (fun t ht hW => ⟨_, rfl, hq, ht⟩) (fun _ h => nomatch h) dX1_countBefore_59
  · have kc_1 : ii < nn := Nat.lt_of_not_le (fun h => c_1 (nI_le h (by omega)))
    refine lv_aload_n hx hb dX1_countBefore_12 rfl (lv_at hl 1 rfl) ?_
    refine va_get (D := G.1) (ci := 1) (v := .ref aw) (C := RX1) (T := TX1) (N := 4) hx hb hts hinX1 hown hK.1 hP 0 rfl rfl 0 (by decide) (hts (.fieldLink RX1 9 "ForkStore$Keys" "words" "[J") (by decide +kernel)) (fun _ h9 => h9) rfl dX1_countBefore_13 ?_
    refine lv_iload hx hb dX1_countBefore_16 (lv_at hl 0 rfl) ?_
    refine kz_lald hx hb hK.1 hP 1 1 rfl rfl (k := ii) (by omega) (by decide) dX1_countBefore_18 ?_
    refine lv_lload_n hx hb dX1_countBefore_19 rfl (lv_at hl 2 rfl) ?_
    refine kz_ci (v := kf_cu (fw ii) ww) (va_runS (As := [.long (fw ii), .long ww]) (rest := []) ⟨hx, hb, hml, hown, hts⟩ (c_J13_compareUnsigned_74951 l (fw ii) ww) (va_cwS 2 hts gX1_countBefore_J13_compareUnsigned_74951 rfl rfl rfl (by decide +kernel) ⟨Nat.le_of_ble_eq_true rfl, Nat.le_of_ble_eq_true rfl⟩) kz_ps0 rfl rfl hl.1 rfl (lv_room (Nat.le_of_ble_eq_true rfl)) dX1_countBefore_20 ⟨Nat.zero_le _, Nat.zero_le _⟩).run ?_
    refine lv_istore (lv' := [(5, .int (kf_cu (fw ii) ww)), (4, .int (nI ii)), (0, .ref hk), (1, .long ww), (3, .int (nI zz))]) hx hb dX1_countBefore_23 hl (by decide) rfl (fun ls hl => ?_)
    refine lv_iload hx hb dX1_countBefore_25 (lv_at hl 0 rfl) ?_
    refine lv_if_gt (tgt := 46) hx hb dX1_countBefore_27 (by decide) (fun c_2 => ?_) (fun c_2 => ?_)
    · refine lv_iload hx hb dX1_countBefore_46 (lv_at hl 1 rfl) ?_
      have hq : nI ii = nI (kf_cb fw zs ww zz nn) := by
        have hno : ¬ kf_lt (fw ii) (zs ii) ww zz = true := fun h => by
          have h9 := kf_cu_pos.mp c_2
          rcases (kf_lt_iff.mp h) with h | h
          · omega
          · rw [h.1] at h9; omega
        rw [← hfin, show nn - ii = (nn - ii - 1) + 1 from by omega]
        unfold kf_cbn
        rw [if_neg hno]
      exact W.iret (v := nI ii) hx hb hr (fun t ht hW => ⟨_, rfl, hq, ht⟩) (fun _ h => nomatch h) dX1_countBefore_48
    · refine lv_iload hx hb dX1_countBefore_30 (lv_at hl 0 rfl) ?_
      refine lv_if_ne (tgt := 49) hx hb dX1_countBefore_32 (by decide) (fun c_3 => ?_) (fun c_3 => ?_)
      · refine lv_iinc (v := nI (ii + 1)) (lv' := [(4, .int (nI (ii + 1))), (5, .int (kf_cu (fw ii) ww)), (0, .ref hk), (1, .long ww), (3, .int (nI zz))]) hx hb dX1_countBefore_49 hl (k := 1) rfl (nI_1 ii) (by decide) rfl (fun ls hl => ?_)
        refine lv_goto (tgt := 3) hx hb dX1_countBefore_52 (by decide) ?_
        have hgo : kf_lt (fw ii) (zs ii) ww zz = true := by
          have h9 : ¬ un ww < un (fw ii) := fun h => c_2 (kf_cu_pos.mpr h)
          have h8 : ¬ fw ii = ww := fun h => c_3 (kf_cu_zero.mpr h)
          refine kf_lt_iff.mpr (Or.inl ?_)
          rcases Nat.lt_or_ge (un (fw ii)) (un ww) with h | h
          · exact h
          · exact absurd (un_inj (by omega)) h8
        have hfin2 : kf_cbn fw zs ww zz (nn - (ii + 1)) (ii + 1) = kf_cb fw zs ww zz nn := by
          rw [← hfin, show nn - ii = (nn - (ii + 1)) + 1 from by omega]
          conv => rhs; unfold kf_cbn
          rw [if_pos hgo]
        exact ih ls (by omega) (lv_sub hl [0, 2, 3, 4] rfl) hfin2
      · refine lv_aload_n hx hb dX1_countBefore_35 rfl (lv_at hl 2 rfl) ?_
        refine va_get (D := G.1) (ci := 1) (v := .ref az) (C := RX1) (T := TX1) (N := 4) hx hb hts hinX1 hown hK.1 hP 0 rfl rfl 1 (by decide) (hts (.fieldLink RX1 15 "ForkStore$Keys" "sizes" "[I") (by decide +kernel)) (fun _ h9 => h9) rfl dX1_countBefore_36 ?_
        refine lv_iload hx hb dX1_countBefore_39 (lv_at hl 1 rfl) ?_
        refine kz_iald hx hb hK.1 hP 2 0 rfl rfl (k := ii) (by omega) (by decide) dX1_countBefore_41 ?_
        refine kz_asi (y := nI (zs ii)) rfl ?_
        refine lv_iload_n hx hb dX1_countBefore_42 rfl (lv_at hl 4 rfl) ?_
        refine lv_icmp_lt (tgt := 49) hx hb dX1_countBefore_43 (by decide) (fun c_4 => ?_) (fun c_4 => ?_)
        · refine lv_iinc (v := nI (ii + 1)) (lv' := [(4, .int (nI (ii + 1))), (5, .int (kf_cu (fw ii) ww)), (0, .ref hk), (1, .long ww), (3, .int (nI zz))]) hx hb dX1_countBefore_49 hl (k := 1) rfl (nI_1 ii) (by decide) rfl (fun ls hl => ?_)
          refine lv_goto (tgt := 3) hx hb dX1_countBefore_52 (by decide) ?_
          have hgo : kf_lt (fw ii) (zs ii) ww zz = true := by
            exact kf_lt_iff.mpr (Or.inr ⟨kf_cu_zero.mp c_3, (nI_ltI (by have := hz ii; omega) (by omega)).mp c_4⟩)
          have hfin2 : kf_cbn fw zs ww zz (nn - (ii + 1)) (ii + 1) = kf_cb fw zs ww zz nn := by
            rw [← hfin, show nn - ii = (nn - (ii + 1)) + 1 from by omega]
            conv => rhs; unfold kf_cbn
            rw [if_pos hgo]
          exact ih ls (by omega) (lv_sub hl [0, 2, 3, 4] rfl) hfin2
        · refine lv_iload hx hb dX1_countBefore_46 (lv_at hl 1 rfl) ?_
          have hq : nI ii = nI (kf_cb fw zs ww zz nn) := by
            have hno : ¬ kf_lt (fw ii) (zs ii) ww zz = true := fun h => by
              have h8 := kf_cu_zero.mp c_3
              rcases (kf_lt_iff.mp h) with h | h
              · rw [h8] at h; omega
              · exact c_4 (nI_lt h.2 (by omega))
            rw [← hfin, show nn - ii = (nn - ii - 1) + 1 from by omega]
            unfold kf_cbn
            rw [if_neg hno]
          exact W.iret (v := nI ii) hx hb hr (fun t ht hW => ⟨_, rfl, hq, ht⟩) (fun _ h => nomatch h) dX1_countBefore_48
