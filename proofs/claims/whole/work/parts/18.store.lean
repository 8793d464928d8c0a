theorem kf_dn_z (zs : Nat → Nat) (k i : Nat) : kf_dn (kz_z zs) k i = kz_z (kf_dn zs k i) := by
  funext j
  unfold kz_z kf_dn
  split <;> rfl
theorem kf_up_z (zs : Nat → Nat) (k i y : Nat) : upd (kf_up (kz_z zs) k i) k (nI y) = kz_z (kz_un (kf_up zs k i) k y) := by
  funext j
  unfold kz_z kf_up upd kz_un
  dsimp only
  split
  · rfl
  · split <;> rfl
theorem kf_cp_z (g f : Nat → Nat) (i : Nat) : kf_cp (kz_z g) (kz_z f) i = kz_z (kf_cp g f i) := by
  funext j
  unfold kz_z kf_cp
  split <;> rfl
/-- the key (b, y) has a value -/
abbrev kf_st (fw : Nat → Int64) (zs : Nat → Nat) (b : Int64) (y nn : Nat) : Prop := kf_cb fw zs b y nn < nn ∧ fw (kf_cb fw zs b y nn) = b ∧ zs (kf_cb fw zs b y nn) = y
abbrev kf_zn (nv : Int32) : Nat := nv.toNatClampNeg

set_option maxHeartbeats 4000000 in
set_option maxRecDepth 100000 in
theorem c_X3_size (l : Launch) (G : kz_G) (xo hc ra : Nat) (hk aw az an nn : Nat) (fw : Nat → Int64) (fz fv : Nat → Int32) : Met l yX3_size wsX3_size { frames := 1, cells := 0, slots := 0, locals := 20 } (kz_Pp G [.ref xo] [(xo, .inr (3, [.ref hk, .ref hc, .ref ra])), (hk, .inr (1, [.ref aw, .ref az, .ref an, .int (nI nn)])), (aw, .inl (gJ G, 120, .inr (.inl fw))), (az, .inl (gI G, 120, .inl fz)), (an, .inl (gI G, 120, .inl fv))]) (vp_Si (fun r => r = nI nn)) 0 0 (fun _ => False) := by
  refine Met.ofW (cc := cX3_size) (maxL := 1) (ret := (some .int)) (by decide) rfl ?_
  intro p e s m args below meth c s₁ B hml hv
  obtain ⟨rfl, hP, hK⟩ := hv
  have hx := B.exec
  have hb := B.bytes
  have hr := B.returns
  have hts := atoms_spec (ws := wsX3_size) B.pre
  have hown : s.vm.findClass RX3 = some m.cls := findClass_of_methodNamed B.named
  have hlocks := B.notSynchronized
  have hinX3 : ∀ w ∈ wsX30, w ∈ wsX3_size := by decide +kernel
  have hP : va_P G.1 vwCl [(xo, .inr (3, [.ref hk, .ref hc, .ref ra])), (hk, .inr (1, [.ref aw, .ref az, .ref an, .int (nI nn)])), (aw, .inl (gJ G, 120, .inr (.inl fw))), (az, .inl (gI G, 120, .inl fz)), (an, .inl (gI G, 120, .inl fv))] s.heap := hP
  have hl := lv_entry ([.ref xo]) (n := 1) (Nat.le_of_ble_eq_true rfl)
  rw [lg_entry_eq]
  generalize (lg_sl ([.ref xo]) ++ List.replicate (1 - (lg_sl ([.ref xo])).length) Slot.unset).toArray = ls at hl ⊢
  have hl : lv_has ls 1 [(0, .ref xo)] := hl
  refine lv_aload_n hx hb dX3_size_0 rfl (lv_at hl 0 rfl) ?_
  refine va_get (D := G.1) (ci := 3) (v := .ref hk) (C := RX3) (T := TX3) (N := 3) hx hb hts hinX3 hown hK.1 hP 0 rfl rfl 0 (by decide) (hts (.fieldLink RX3 10 "ForkStore" "keys" "LForkStore$Keys;") (by decide +kernel)) (fun _ h9 => h9) rfl dX3_size_1 ?_
  have hPc := hP.sub (ws' := [(hk, .inr (1, [.ref aw, .ref az, .ref an, .int (nI nn)])), (aw, .inl (gJ G, 120, .inr (.inl fw))), (az, .inl (gI G, 120, .inl fz)), (an, .inl (gI G, 120, .inl fv))]) [1, 2, 3, 4] rfl
  refine kz_ci (v := nI nn) (va_runV (As := []) (rest := []) ⟨hx, hb, hml, hown, hts⟩ (c_X1_count l G hk aw az an nn fw fz fv  ) (cwV 0 hts gX3_size_X1_count rfl rfl rfl (by decide +kernel) ⟨Nat.le_of_ble_eq_true rfl, Nat.le_of_ble_eq_true rfl⟩) (kz_pv hK hPc (va_recv hK.1 hPc (ci := 1) (q0 := 0) rfl rfl)) rfl rfl hl.1 rfl (lv_room (Nat.le_of_ble_eq_true rfl)) dX3_size_4 ⟨Nat.zero_le _, Nat.zero_le _⟩).run ?_
  exact W.iret (v := nI nn) hx hb hr (fun t ht hW => ⟨_, rfl, rfl, ht⟩) (fun _ h => nomatch h) dX3_size_7

set_option maxHeartbeats 4000000 in
set_option maxRecDepth 100000 in
theorem c_X3_within (l : Launch) (G : kz_G) (xo hc ra : Nat) (hk aw az an nn : Nat) (fw : Nat → Int64) (zs : Nat → Nat) (fv : Nat → Int32) (ww : Int64) (nv : Int32) (hn : nn ≤ 120) (hz : ∀ j, zs j ≤ 8) : Met l yX3_within wsX3_within { frames := 4, cells := 0, slots := 0, locals := 94 } (kz_Pp G [.ref xo, .long ww, .int nv] [(xo, .inr (3, [.ref hk, .ref hc, .ref ra])), (hk, .inr (1, [.ref aw, .ref az, .ref an, .int (nI nn)])), (aw, .inl (gJ G, 120, .inr (.inl fw))), (az, .inl (gI G, 120, .inl (kz_z zs))), (an, .inl (gI G, 120, .inl fv))]) (vp_Si (fun r => r = if 0 ≤ nv ∧ nv ≤ 8 then nI (kf_cnt (kf_bw fw zs (kf_cut ww (kf_zn nv)) (kf_zn nv)) nn) else 0)) 0 0 (fun _ => False) := by
  refine Met.ofW (cc := cX3_within) (maxL := 4) (ret := (some .int)) (by decide) rfl ?_
  intro p e s m args below meth c s₁ B hml hv
  obtain ⟨rfl, hP, hK⟩ := hv
  have hx := B.exec
  have hb := B.bytes
  have hr := B.returns
  have hts := atoms_spec (ws := wsX3_within) B.pre
  have hown : s.vm.findClass RX3 = some m.cls := findClass_of_methodNamed B.named
  have hlocks := B.notSynchronized
  have hinX3 : ∀ w ∈ wsX30, w ∈ wsX3_within := by decide +kernel
  have hP : va_P G.1 vwCl [(xo, .inr (3, [.ref hk, .ref hc, .ref ra])), (hk, .inr (1, [.ref aw, .ref az, .ref an, .int (nI nn)])), (aw, .inl (gJ G, 120, .inr (.inl fw))), (az, .inl (gI G, 120, .inl (kz_z zs))), (an, .inl (gI G, 120, .inl fv))] s.heap := hP
  have hl := lv_entry ([.ref xo, .long ww, .int nv]) (n := 4) (Nat.le_of_ble_eq_true rfl)
  rw [lg_entry_eq]
  generalize (lg_sl ([.ref xo, .long ww, .int nv]) ++ List.replicate (4 - (lg_sl ([.ref xo, .long ww, .int nv])).length) Slot.unset).toArray = ls at hl ⊢
  have hl : lv_has ls 4 [(0, .ref xo), (1, .long ww), (3, .int nv)] := hl
  refine lv_iload_n hx hb dX3_within_0 rfl (lv_at hl 2 rfl) ?_
  refine kz_ci (v := if 0 ≤ nv ∧ nv ≤ 8 then 1 else 0) (va_runS (As := [.int nv]) (rest := []) ⟨hx, hb, hml, hown, hts⟩ (c_X3_isKeySize l nv) (va_cwS 1 hts gX3_within_X3_isKeySize rfl rfl rfl (by decide +kernel) ⟨Nat.le_of_ble_eq_true rfl, Nat.le_of_ble_eq_true rfl⟩) kz_ps0 rfl rfl hl.1 rfl (lv_room (Nat.le_of_ble_eq_true rfl)) dX3_within_1 ⟨Nat.zero_le _, Nat.zero_le _⟩).run ?_
  refine lv_if_eq (tgt := 23) hx hb dX3_within_4 (by decide) (fun c_1 => ?_) (fun c_1 => ?_)
  · have kc_1 := kf_if0 c_1
    refine lv_iconst (v := 0) hx hb dX3_within_23 (by decide) ?_
    exact W.iret (v := 0) hx hb hr (fun t ht hW => ⟨_, rfl, (if_neg kc_1).symm, ht⟩) (fun _ h => nomatch h) dX3_within_24
  · have kc_1 := kf_if1 c_1
    obtain ⟨zz, hzz, rfl⟩ := kf_ok_nat kc_1
    refine lv_aload_n hx hb dX3_within_7 rfl (lv_at hl 0 rfl) ?_
    refine va_get (D := G.1) (ci := 3) (v := .ref hk) (C := RX3) (T := TX3) (N := 3) hx hb hts hinX3 hown hK.1 hP 0 rfl rfl 0 (by decide) (hts (.fieldLink RX3 10 "ForkStore" "keys" "LForkStore$Keys;") (by decide +kernel)) (fun _ h9 => h9) rfl dX3_within_8 ?_
    refine lv_lload_n hx hb dX3_within_11 rfl (lv_at hl 1 rfl) ?_
    refine lv_iload_n hx hb dX3_within_12 rfl (lv_at hl 2 rfl) ?_
    refine kz_cl (v := kf_cut ww zz) (va_runS (As := [.long ww, .int (nI zz)]) (rest := [.ref hk]) ⟨hx, hb, hml, hown, hts⟩ (c_X3_highestBytes l ww zz (by omega)) (va_cwS 2 hts gX3_within_X3_highestBytes rfl rfl rfl (by decide +kernel) ⟨Nat.le_of_ble_eq_true rfl, Nat.le_of_ble_eq_true rfl⟩) kz_ps0 rfl rfl hl.1 rfl (lv_room (Nat.le_of_ble_eq_true rfl)) dX3_within_13 ⟨Nat.zero_le _, Nat.zero_le _⟩).run ?_
    refine lv_iload_n hx hb dX3_within_16 rfl (lv_at hl 2 rfl) ?_
    have hPc := hP.sub (ws' := [(hk, .inr (1, [.ref aw, .ref az, .ref an, .int (nI nn)])), (aw, .inl (gJ G, 120, .inr (.inl fw))), (az, .inl (gI G, 120, .inl (kz_z zs))), (an, .inl (gI G, 120, .inl fv))]) [1, 2, 3, 4] rfl
    refine kz_ci (v := nI (kf_cnt (kf_bw fw zs (kf_cut ww zz) zz) nn)) (va_runV (As := [.long (kf_cut ww zz), .int (nI zz)]) (rest := []) ⟨hx, hb, hml, hown, hts⟩ (c_X1_countBeginningWith l G hk aw az an nn fw zs fv (kf_cut ww zz) zz (by omega) hz (by omega)) (cwV 2 hts gX3_within_X1_countBeginningWith rfl rfl rfl (by decide +kernel) ⟨Nat.le_of_ble_eq_true rfl, Nat.le_of_ble_eq_true rfl⟩) (kz_pv hK hPc (va_recv hK.1 hPc (ci := 1) (q0 := 0) rfl rfl)) rfl rfl hl.1 rfl (lv_room (Nat.le_of_ble_eq_true rfl)) dX3_within_17 ⟨Nat.zero_le _, Nat.zero_le _⟩).run ?_
    refine lv_goto (tgt := 24) hx hb dX3_within_20 (by decide) ?_
    exact W.iret (v := nI (kf_cnt (kf_bw fw zs (kf_cut ww zz) zz) nn)) hx hb hr (fun t ht hW => ⟨_, rfl, (by rw [if_pos kc_1, kf_zn, nI_clamp (by omega)]), ht⟩) (fun _ h => nomatch h) dX3_within_24

set_option maxHeartbeats 4000000 in
set_option maxRecDepth 100000 in
theorem c_X3_rank (l : Launch) (G : kz_G) (xo hc ra : Nat) (hk aw az an nn : Nat) (fw : Nat → Int64) (zs : Nat → Nat) (fv : Nat → Int32) (ww : Int64) (nv : Int32) (hn : nn ≤ 120) (hz : ∀ j, zs j ≤ 8) : Met l yX3_rank wsX3_rank { frames := 3, cells := 0, slots := 0, locals := 71 } (kz_Pp G [.ref xo, .long ww, .int nv] [(xo, .inr (3, [.ref hk, .ref hc, .ref ra])), (hk, .inr (1, [.ref aw, .ref az, .ref an, .int (nI nn)])), (aw, .inl (gJ G, 120, .inr (.inl fw))), (az, .inl (gI G, 120, .inl (kz_z zs))), (an, .inl (gI G, 120, .inl fv))]) (vp_Si (fun r => r = if 0 ≤ nv ∧ nv ≤ 8 then nI (kf_cb fw zs (kf_cut ww (kf_zn nv)) (kf_zn nv) nn) else -1)) 0 0 (fun _ => False) := by
  refine Met.ofW (cc := cX3_rank) (maxL := 4) (ret := (some .int)) (by decide) rfl ?_
  intro p e s m args below meth c s₁ B hml hv
  obtain ⟨rfl, hP, hK⟩ := hv
  have hx := B.exec
  have hb := B.bytes
  have hr := B.returns
  have hts := atoms_spec (ws := wsX3_rank) B.pre
  have hown : s.vm.findClass RX3 = some m.cls := findClass_of_methodNamed B.named
  have hlocks := B.notSynchronized
  have hinX3 : ∀ w ∈ wsX30, w ∈ wsX3_rank := by decide +kernel
  have hP : va_P G.1 vwCl [(xo, .inr (3, [.ref hk, .ref hc, .ref ra])), (hk, .inr (1, [.ref aw, .ref az, .ref an, .int (nI nn)])), (aw, .inl (gJ G, 120, .inr (.inl fw))), (az, .inl (gI G, 120, .inl (kz_z zs))), (an, .inl (gI G, 120, .inl fv))] s.heap := hP
  have hl := lv_entry ([.ref xo, .long ww, .int nv]) (n := 4) (Nat.le_of_ble_eq_true rfl)
  rw [lg_entry_eq]
  generalize (lg_sl ([.ref xo, .long ww, .int nv]) ++ List.replicate (4 - (lg_sl ([.ref xo, .long ww, .int nv])).length) Slot.unset).toArray = ls at hl ⊢
  have hl : lv_has ls 4 [(0, .ref xo), (1, .long ww), (3, .int nv)] := hl
  refine lv_iload_n hx hb dX3_rank_0 rfl (lv_at hl 2 rfl) ?_
  refine kz_ci (v := if 0 ≤ nv ∧ nv ≤ 8 then 1 else 0) (va_runS (As := [.int nv]) (rest := []) ⟨hx, hb, hml, hown, hts⟩ (c_X3_isKeySize l nv) (va_cwS 1 hts gX3_rank_X3_isKeySize rfl rfl rfl (by decide +kernel) ⟨Nat.le_of_ble_eq_true rfl, Nat.le_of_ble_eq_true rfl⟩) kz_ps0 rfl rfl hl.1 rfl (lv_room (Nat.le_of_ble_eq_true rfl)) dX3_rank_1 ⟨Nat.zero_le _, Nat.zero_le _⟩).run ?_
  refine lv_if_eq (tgt := 23) hx hb dX3_rank_4 (by decide) (fun c_1 => ?_) (fun c_1 => ?_)
  · have kc_1 := kf_if0 c_1
    refine lv_iconst (v := (-1)) hx hb dX3_rank_23 (by decide) ?_
    exact W.iret (v := (-1)) hx hb hr (fun t ht hW => ⟨_, rfl, (if_neg kc_1).symm, ht⟩) (fun _ h => nomatch h) dX3_rank_24
  · have kc_1 := kf_if1 c_1
    obtain ⟨zz, hzz, rfl⟩ := kf_ok_nat kc_1
    refine lv_aload_n hx hb dX3_rank_7 rfl (lv_at hl 0 rfl) ?_
    refine va_get (D := G.1) (ci := 3) (v := .ref hk) (C := RX3) (T := TX3) (N := 3) hx hb hts hinX3 hown hK.1 hP 0 rfl rfl 0 (by decide) (hts (.fieldLink RX3 10 "ForkStore" "keys" "LForkStore$Keys;") (by decide +kernel)) (fun _ h9 => h9) rfl dX3_rank_8 ?_
    refine lv_lload_n hx hb dX3_rank_11 rfl (lv_at hl 1 rfl) ?_
    refine lv_iload_n hx hb dX3_rank_12 rfl (lv_at hl 2 rfl) ?_
    refine kz_cl (v := kf_cut ww zz) (va_runS (As := [.long ww, .int (nI zz)]) (rest := [.ref hk]) ⟨hx, hb, hml, hown, hts⟩ (c_X3_highestBytes l ww zz (by omega)) (va_cwS 2 hts gX3_rank_X3_highestBytes rfl rfl rfl (by decide +kernel) ⟨Nat.le_of_ble_eq_true rfl, Nat.le_of_ble_eq_true rfl⟩) kz_ps0 rfl rfl hl.1 rfl (lv_room (Nat.le_of_ble_eq_true rfl)) dX3_rank_13 ⟨Nat.zero_le _, Nat.zero_le _⟩).run ?_
    refine lv_iload_n hx hb dX3_rank_16 rfl (lv_at hl 2 rfl) ?_
    have hPc := hP.sub (ws' := [(hk, .inr (1, [.ref aw, .ref az, .ref an, .int (nI nn)])), (aw, .inl (gJ G, 120, .inr (.inl fw))), (az, .inl (gI G, 120, .inl (kz_z zs))), (an, .inl (gI G, 120, .inl fv))]) [1, 2, 3, 4] rfl
    refine kz_ci (v := nI (kf_cb fw zs (kf_cut ww zz) zz nn)) (va_runV (As := [.long (kf_cut ww zz), .int (nI zz)]) (rest := []) ⟨hx, hb, hml, hown, hts⟩ (c_X1_countBefore l G hk aw az an nn fw zs fv (kf_cut ww zz) zz (by omega) hz (by omega)) (cwV 2 hts gX3_rank_X1_countBefore rfl rfl rfl (by decide +kernel) ⟨Nat.le_of_ble_eq_true rfl, Nat.le_of_ble_eq_true rfl⟩) (kz_pv hK hPc (va_recv hK.1 hPc (ci := 1) (q0 := 0) rfl rfl)) rfl rfl hl.1 rfl (lv_room (Nat.le_of_ble_eq_true rfl)) dX3_rank_17 ⟨Nat.zero_le _, Nat.zero_le _⟩).run ?_
    refine lv_goto (tgt := 24) hx hb dX3_rank_20 (by decide) ?_
    exact W.iret (v := nI (kf_cb fw zs (kf_cut ww zz) zz nn)) hx hb hr (fun t ht hW => ⟨_, rfl, (by rw [if_pos kc_1, kf_zn, nI_clamp (by omega)]), ht⟩) (fun _ h => nomatch h) dX3_rank_24

set_option maxHeartbeats 4000000 in
set_option maxRecDepth 100000 in
theorem c_X3_depth (l : Launch) (G : kz_G) (xo hc ra : Nat) (hk aw az an nn : Nat) (fw : Nat → Int64) (zs : Nat → Nat) (fv : Nat → Int32) (ww : Int64) (nv : Int32) (hn : nn ≤ 120) (hz : ∀ j, zs j ≤ 8) : Met l yX3_depth wsX3_depth { frames := 5, cells := 0, slots := 0, locals := 116 } (kz_Pp G [.ref xo, .long ww, .int nv] [(xo, .inr (3, [.ref hk, .ref hc, .ref ra])), (hk, .inr (1, [.ref aw, .ref az, .ref an, .int (nI nn)])), (aw, .inl (gJ G, 120, .inr (.inl fw))), (az, .inl (gI G, 120, .inl (kz_z zs))), (an, .inl (gI G, 120, .inl fv))]) (vp_Si (fun r => r = if 0 ≤ nv ∧ nv ≤ 8 then nI (kf_pop (kf_mk fw zs (kf_cut ww (kf_zn nv)) (kf_zn nv) (nn - 1))) else -1)) 0 0 (fun _ => False) := by
  refine Met.ofW (cc := cX3_depth) (maxL := 4) (ret := (some .int)) (by decide) rfl ?_
  intro p e s m args below meth c s₁ B hml hv
  obtain ⟨rfl, hP, hK⟩ := hv
  have hx := B.exec
  have hb := B.bytes
  have hr := B.returns
  have hts := atoms_spec (ws := wsX3_depth) B.pre
  have hown : s.vm.findClass RX3 = some m.cls := findClass_of_methodNamed B.named
  have hlocks := B.notSynchronized
  have hinX3 : ∀ w ∈ wsX30, w ∈ wsX3_depth := by decide +kernel
  have hP : va_P G.1 vwCl [(xo, .inr (3, [.ref hk, .ref hc, .ref ra])), (hk, .inr (1, [.ref aw, .ref az, .ref an, .int (nI nn)])), (aw, .inl (gJ G, 120, .inr (.inl fw))), (az, .inl (gI G, 120, .inl (kz_z zs))), (an, .inl (gI G, 120, .inl fv))] s.heap := hP
  have hl := lv_entry ([.ref xo, .long ww, .int nv]) (n := 4) (Nat.le_of_ble_eq_true rfl)
  rw [lg_entry_eq]
  generalize (lg_sl ([.ref xo, .long ww, .int nv]) ++ List.replicate (4 - (lg_sl ([.ref xo, .long ww, .int nv])).length) Slot.unset).toArray = ls at hl ⊢
  have hl : lv_has ls 4 [(0, .ref xo), (1, .long ww), (3, .int nv)] := hl
  refine lv_iload_n hx hb dX3_depth_0 rfl (lv_at hl 2 rfl) ?_
  refine kz_ci (v := if 0 ≤ nv ∧ nv ≤ 8 then 1 else 0) (va_runS (As := [.int nv]) (rest := []) ⟨hx, hb, hml, hown, hts⟩ (c_X3_isKeySize l nv) (va_cwS 1 hts gX3_depth_X3_isKeySize rfl rfl rfl (by decide +kernel) ⟨Nat.le_of_ble_eq_true rfl, Nat.le_of_ble_eq_true rfl⟩) kz_ps0 rfl rfl hl.1 rfl (lv_room (Nat.le_of_ble_eq_true rfl)) dX3_depth_1 ⟨Nat.zero_le _, Nat.zero_le _⟩).run ?_
  refine lv_if_eq (tgt := 23) hx hb dX3_depth_4 (by decide) (fun c_1 => ?_) (fun c_1 => ?_)
  · have kc_1 := kf_if0 c_1
    refine lv_iconst (v := (-1)) hx hb dX3_depth_23 (by decide) ?_
    exact W.iret (v := (-1)) hx hb hr (fun t ht hW => ⟨_, rfl, (if_neg kc_1).symm, ht⟩) (fun _ h => nomatch h) dX3_depth_24
  · have kc_1 := kf_if1 c_1
    obtain ⟨zz, hzz, rfl⟩ := kf_ok_nat kc_1
    refine lv_aload_n hx hb dX3_depth_7 rfl (lv_at hl 0 rfl) ?_
    refine va_get (D := G.1) (ci := 3) (v := .ref hk) (C := RX3) (T := TX3) (N := 3) hx hb hts hinX3 hown hK.1 hP 0 rfl rfl 0 (by decide) (hts (.fieldLink RX3 10 "ForkStore" "keys" "LForkStore$Keys;") (by decide +kernel)) (fun _ h9 => h9) rfl dX3_depth_8 ?_
    refine lv_lload_n hx hb dX3_depth_11 rfl (lv_at hl 1 rfl) ?_
    refine lv_iload_n hx hb dX3_depth_12 rfl (lv_at hl 2 rfl) ?_
    refine kz_cl (v := kf_cut ww zz) (va_runS (As := [.long ww, .int (nI zz)]) (rest := [.ref hk]) ⟨hx, hb, hml, hown, hts⟩ (c_X3_highestBytes l ww zz (by omega)) (va_cwS 2 hts gX3_depth_X3_highestBytes rfl rfl rfl (by decide +kernel) ⟨Nat.le_of_ble_eq_true rfl, Nat.le_of_ble_eq_true rfl⟩) kz_ps0 rfl rfl hl.1 rfl (lv_room (Nat.le_of_ble_eq_true rfl)) dX3_depth_13 ⟨Nat.zero_le _, Nat.zero_le _⟩).run ?_
    refine lv_iload_n hx hb dX3_depth_16 rfl (lv_at hl 2 rfl) ?_
    have hPc := hP.sub (ws' := [(hk, .inr (1, [.ref aw, .ref az, .ref an, .int (nI nn)])), (aw, .inl (gJ G, 120, .inr (.inl fw))), (az, .inl (gI G, 120, .inl (kz_z zs))), (an, .inl (gI G, 120, .inl fv))]) [1, 2, 3, 4] rfl
    refine kz_ci (v := nI (kf_pop (kf_mk fw zs (kf_cut ww zz) zz (nn - 1)))) (va_runV (As := [.long (kf_cut ww zz), .int (nI zz)]) (rest := []) ⟨hx, hb, hml, hown, hts⟩ (c_X1_countForksOnTheWayTo l G hk aw az an nn fw zs fv (kf_cut ww zz) zz (by omega) hz (by omega)) (cwV 2 hts gX3_depth_X1_countForksOnTheWayTo rfl rfl rfl (by decide +kernel) ⟨Nat.le_of_ble_eq_true rfl, Nat.le_of_ble_eq_true rfl⟩) (kz_pv hK hPc (va_recv hK.1 hPc (ci := 1) (q0 := 0) rfl rfl)) rfl rfl hl.1 rfl (lv_room (Nat.le_of_ble_eq_true rfl)) dX3_depth_17 ⟨Nat.zero_le _, Nat.zero_le _⟩).run ?_
    refine lv_goto (tgt := 24) hx hb dX3_depth_20 (by decide) ?_
    exact W.iret (v := nI (kf_pop (kf_mk fw zs (kf_cut ww zz) zz (nn - 1)))) hx hb hr (fun t ht hW => ⟨_, rfl, (by rw [if_pos kc_1, kf_zn, nI_clamp (by omega)]), ht⟩) (fun _ h => nomatch h) dX3_depth_24

set_option maxHeartbeats 4000000 in
set_option maxRecDepth 100000 in
theorem c_X3_forks (l : Launch) (G : kz_G) (xo hc ra ab : Nat) (hk aw az an nn : Nat) (fw : Nat → Int64) (zs : Nat → Nat) (fv : Nat → Int32) (sv : Int32) (sz : Nat) (hn : nn ≤ 120) (hz : ∀ j, zs j ≤ 8) : Met l yX3_forks wsX3_forks { frames := 5, cells := 0, slots := 0, locals := 115 } (kz_Pm G [.ref xo, .int sv] [(xo, .inr (3, [.ref hk, .ref hc, .ref ra])), (hc, .inr (0, [.ref ab])), (ab, .inl (gI G, 8, .inl (kz_z kf_z0))), (hk, .inr (1, [.ref aw, .ref az, .ref an, .int (nI nn)])), (aw, .inl (gJ G, 120, .inr (.inl fw))), (az, .inl (gI G, 120, .inl (kz_z zs))), (an, .inl (gI G, 120, .inl fv))] sz) (kz_Qi G (fun r w => r = (if 0 ≤ sv ∧ sv ≤ 3 then nI (kf_forks fw zs (kf_zn sv) nn) else -1) ∧ w = [(xo, .inr (3, [.ref hk, .ref hc, .ref ra])), (hc, .inr (0, [.ref ab])), (ab, .inl (gI G, 8, .inl (kz_z kf_z0))), (hk, .inr (1, [.ref aw, .ref az, .ref an, .int (nI nn)])), (aw, .inl (gJ G, 120, .inr (.inl fw))), (az, .inl (gI G, 120, .inl (kz_z zs))), (an, .inl (gI G, 120, .inl fv))]) (va_A [(xo, .inr (3, [.ref hk, .ref hc, .ref ra])), (hc, .inr (0, [.ref ab])), (ab, .inl (gI G, 8, .inl (kz_z kf_z0))), (hk, .inr (1, [.ref aw, .ref az, .ref an, .int (nI nn)])), (aw, .inl (gJ G, 120, .inr (.inl fw))), (az, .inl (gI G, 120, .inl (kz_z zs))), (an, .inl (gI G, 120, .inl fv))] sz)) 0 0 (va_A [(xo, .inr (3, [.ref hk, .ref hc, .ref ra])), (hc, .inr (0, [.ref ab])), (ab, .inl (gI G, 8, .inl (kz_z kf_z0))), (hk, .inr (1, [.ref aw, .ref az, .ref an, .int (nI nn)])), (aw, .inl (gJ G, 120, .inr (.inl fw))), (az, .inl (gI G, 120, .inl (kz_z zs))), (an, .inl (gI G, 120, .inl fv))] sz) := by
  refine Met.ofW (cc := cX3_forks) (maxL := 2) (ret := (some .int)) (by decide) rfl ?_
  intro p e s m args below meth c s₁ B hml hv
  obtain ⟨rfl, hsz, hP, hK, hD0⟩ := hv
  have hx := B.exec
  have hb := B.bytes
  have hr := B.returns
  have hts := atoms_spec (ws := wsX3_forks) B.pre
  have hown : s.vm.findClass RX3 = some m.cls := findClass_of_methodNamed B.named
  have hlocks := B.notSynchronized
  have hinX3 : ∀ w ∈ wsX30, w ∈ wsX3_forks := by decide +kernel
  subst hsz
  have hD := hD0.self (sz := s.heap.size)
  generalize hAe : va_A [(xo, .inr (3, [.ref hk, .ref hc, .ref ra])), (hc, .inr (0, [.ref ab])), (ab, .inl (gI G, 8, .inl (kz_z kf_z0))), (hk, .inr (1, [.ref aw, .ref az, .ref an, .int (nI nn)])), (aw, .inl (gJ G, 120, .inr (.inl fw))), (az, .inl (gI G, 120, .inl (kz_z zs))), (an, .inl (gI G, 120, .inl fv))] s.heap.size = A at hD ⊢
  have hA : ∀ q : Nat, s.heap.size ≤ q → A q := fun q h => by rw [← hAe]; exact Or.inr h
  have hS : va_S A s.heap s.heap [] := va_S.rf
  have hP : va_P G.1 vwCl [(xo, .inr (3, [.ref hk, .ref hc, .ref ra])), (hc, .inr (0, [.ref ab])), (ab, .inl (gI G, 8, .inl (kz_z kf_z0))), (hk, .inr (1, [.ref aw, .ref az, .ref an, .int (nI nn)])), (aw, .inl (gJ G, 120, .inr (.inl fw))), (az, .inl (gI G, 120, .inl (kz_z zs))), (an, .inl (gI G, 120, .inl fv))] s.heap := hP
  have hl := lv_entry ([.ref xo, .int sv]) (n := 2) (Nat.le_of_ble_eq_true rfl)
  rw [lg_entry_eq]
  generalize (lg_sl ([.ref xo, .int sv]) ++ List.replicate (2 - (lg_sl ([.ref xo, .int sv])).length) Slot.unset).toArray = ls at hl ⊢
  have hl : lv_has ls 2 [(0, .ref xo), (1, .int sv)] := hl
  refine lv_iload_n hx hb dX3_forks_0 rfl (lv_at hl 1 rfl) ?_
  refine lv_if_lt (tgt := 9) hx hb dX3_forks_1 (by decide) (fun c_1 => ?_) (fun c_1 => ?_)
  · refine lv_iconst (v := (-1)) hx hb dX3_forks_9 (by decide) ?_
    exact W.iret (v := (-1)) hx hb hr (fun t ht hW => ⟨⟨_, ([(xo, .inr (3, [.ref hk, .ref hc, .ref ra])), (hc, .inr (0, [.ref ab])), (ab, .inl (gI G, 8, .inl (kz_z kf_z0))), (hk, .inr (1, [.ref aw, .ref az, .ref an, .int (nI nn)])), (aw, .inl (gJ G, 120, .inr (.inl fw))), (az, .inl (gI G, 120, .inl (kz_z zs))), (an, .inl (gI G, 120, .inl fv))] : va_W), rfl, ⟨(if_neg (fun h => absurd c_1 (Int32.not_lt.mpr h.1))).symm, rfl⟩, by rw [← ht] at hP; exact hP⟩, hS.F ht⟩) hS.2.2 dX3_forks_10
  · refine lv_iload_n hx hb dX3_forks_4 rfl (lv_at hl 1 rfl) ?_
    refine lv_iconst (v := 3) hx hb dX3_forks_5 (by decide) ?_
    refine lv_icmp_le (tgt := 11) hx hb dX3_forks_6 (by decide) (fun c_2 => ?_) (fun c_2 => ?_)
    · obtain ⟨sq, hsq, rfl⟩ := nI_of2 (x := sv) (M := 3) (n := 3) rfl c_1 c_2
      refine lv_aload_n hx hb dX3_forks_11 rfl (lv_at hl 0 rfl) ?_
      refine va_get (D := G.1) (ci := 3) (v := .ref hc) (C := RX3) (T := TX3) (N := 3) hx hb hts hinX3 hown hK.1 hP 0 rfl rfl 1 (by decide) (hts (.fieldLink RX3 19 "ForkStore" "counter" "LForkStore$ForkCounter;") (by decide +kernel)) (fun _ h9 => h9) rfl dX3_forks_12 ?_
      refine lv_aload_n hx hb dX3_forks_15 rfl (lv_at hl 0 rfl) ?_
      refine va_get (D := G.1) (ci := 3) (v := .ref hk) (C := RX3) (T := TX3) (N := 3) hx hb hts hinX3 hown hK.1 hP 0 rfl rfl 0 (by decide) (hts (.fieldLink RX3 10 "ForkStore" "keys" "LForkStore$Keys;") (by decide +kernel)) (fun _ h9 => h9) rfl dX3_forks_16 ?_
      refine lv_iload_n hx hb dX3_forks_19 rfl (lv_at hl 1 rfl) ?_
      have hPc := hP.sub (ws' := [(hc, .inr (0, [.ref ab])), (ab, .inl (gI G, 8, .inl (kz_z kf_z0))), (hk, .inr (1, [.ref aw, .ref az, .ref an, .int (nI nn)])), (aw, .inl (gJ G, 120, .inr (.inl fw))), (az, .inl (gI G, 120, .inl (kz_z zs))), (an, .inl (gI G, 120, .inl fv))]) [1, 2, 3, 4, 5, 6] rfl
      have hDc := hD.sub (ws' := [(hc, .inr (0, [.ref ab])), (ab, .inl (gI G, 8, .inl (kz_z kf_z0))), (hk, .inr (1, [.ref aw, .ref az, .ref an, .int (nI nn)])), (aw, .inl (gJ G, 120, .inr (.inl fw))), (az, .inl (gI G, 120, .inl (kz_z zs))), (an, .inl (gI G, 120, .inl fv))]) [1, 2, 3, 4, 5, 6] (by decide) rfl
      have hFc := va_free (wc := [(hc, .inr (0, [.ref ab])), (ab, .inl (gI G, 8, .inl (kz_z kf_z0))), (hk, .inr (1, [.ref aw, .ref az, .ref an, .int (nI nn)])), (aw, .inl (gJ G, 120, .inr (.inl fw))), (az, .inl (gI G, 120, .inl (kz_z zs))), (an, .inl (gI G, 120, .inl fv))]) hD hS hA [1, 2, 3, 4, 5, 6] rfl
      refine va_calli (va_runV (As := [.ref hk, .int (nI sq)]) (rest := []) ⟨hx, hb, hml, hown, hts⟩ (c_X0_countOfSize l G hc ab hk aw az an nn fw zs fv sq _ (by omega) hz (by omega)) (cwV 2 hts gX3_forks_X0_countOfSize rfl rfl rfl (by decide +kernel) ⟨Nat.le_of_ble_eq_true rfl, Nat.le_of_ble_eq_true rfl⟩) (kz_pvm hK hPc hDc (va_recv hK.1 hPc (ci := 0) (q0 := 0) rfl rfl)) rfl rfl hl.1 rfl (lv_room (Nat.le_of_ble_eq_true rfl)) dX3_forks_20 ⟨Nat.zero_le _, Nat.zero_le _⟩) hS (fun q _ h => hFc q h) hFc (fun r_3 u t H locs ht hvm hw hB hqz9 hqk9 hS => ?_)
      obtain ⟨hr9, hw⟩ : r_3 = nI (kf_forks fw zs sq nn) ∧ u = [(hc, .inr (0, [.ref ab])), (ab, .inl (gI G, 8, .inl (kz_z kf_z0))), (hk, .inr (1, [.ref aw, .ref az, .ref an, .int (nI nn)])), (aw, .inl (gJ G, 120, .inr (.inl fw))), (az, .inl (gI G, 120, .inl (kz_z zs))), (an, .inl (gI G, 120, .inl fv))] := hw
      have hB : va_P G.1 vwCl u H := by rw [← ht]; exact hB
      rw [hw] at hB
      obtain ⟨hP, hD⟩ := kz_join (wc := [(hc, .inr (0, [.ref ab])), (ab, .inl (gI G, 8, .inl (kz_z kf_z0))), (hk, .inr (1, [.ref aw, .ref az, .ref an, .int (nI nn)])), (aw, .inl (gJ G, 120, .inr (.inl fw))), (az, .inl (gI G, 120, .inl (kz_z zs))), (an, .inl (gI G, 120, .inl fv))]) (w1 := [(hc, .inr (0, [.ref ab])), (ab, .inl (gI G, 8, .inl (kz_z kf_z0))), (hk, .inr (1, [.ref aw, .ref az, .ref an, .int (nI nn)])), (aw, .inl (gJ G, 120, .inr (.inl fw))), (az, .inl (gI G, 120, .inl (kz_z zs))), (an, .inl (gI G, 120, .inl fv))]) hP hD [1, 2, 3, 4, 5, 6] rfl (by decide) rfl hqk9 hB
      have hP : va_P G.1 vwCl [(xo, .inr (3, [.ref hk, .ref hc, .ref ra])), (hc, .inr (0, [.ref ab])), (ab, .inl (gI G, 8, .inl (kz_z kf_z0))), (hk, .inr (1, [.ref aw, .ref az, .ref an, .int (nI nn)])), (aw, .inl (gJ G, 120, .inr (.inl fw))), (az, .inl (gI G, 120, .inl (kz_z zs))), (an, .inl (gI G, 120, .inl fv))] H := hP
      have hD : va_D A [(xo, .inr (3, [.ref hk, .ref hc, .ref ra])), (hc, .inr (0, [.ref ab])), (ab, .inl (gI G, 8, .inl (kz_z kf_z0))), (hk, .inr (1, [.ref aw, .ref az, .ref an, .int (nI nn)])), (aw, .inl (gJ G, 120, .inr (.inl fw))), (az, .inl (gI G, 120, .inl (kz_z zs))), (an, .inl (gI G, 120, .inl fv))] := hD
      refine kz_asi (y := nI (kf_forks fw zs sq nn)) hr9 ?_
      exact W.iret (v := nI (kf_forks fw zs sq nn)) hx hb hr (fun t ht hW => ⟨⟨_, ([(xo, .inr (3, [.ref hk, .ref hc, .ref ra])), (hc, .inr (0, [.ref ab])), (ab, .inl (gI G, 8, .inl (kz_z kf_z0))), (hk, .inr (1, [.ref aw, .ref az, .ref an, .int (nI nn)])), (aw, .inl (gJ G, 120, .inr (.inl fw))), (az, .inl (gI G, 120, .inl (kz_z zs))), (an, .inl (gI G, 120, .inl fv))] : va_W), rfl, ⟨by rw [if_pos ⟨Int32.not_lt.mp c_1, c_2⟩, kf_zn, nI_clamp (by omega)], rfl⟩, by rw [← ht] at hP; exact hP⟩, hS.F ht⟩) hS.2.2 dX3_forks_23
    · refine lv_iconst (v := (-1)) hx hb dX3_forks_9 (by decide) ?_
      exact W.iret (v := (-1)) hx hb hr (fun t ht hW => ⟨⟨_, ([(xo, .inr (3, [.ref hk, .ref hc, .ref ra])), (hc, .inr (0, [.ref ab])), (ab, .inl (gI G, 8, .inl (kz_z kf_z0))), (hk, .inr (1, [.ref aw, .ref az, .ref an, .int (nI nn)])), (aw, .inl (gJ G, 120, .inr (.inl fw))), (az, .inl (gI G, 120, .inl (kz_z zs))), (an, .inl (gI G, 120, .inl fv))] : va_W), rfl, ⟨(if_neg (fun h => c_2 h.2)).symm, rfl⟩, by rw [← ht] at hP; exact hP⟩, hS.F ht⟩) hS.2.2 dX3_forks_10

set_option maxHeartbeats 4000000 in
set_option maxRecDepth 100000 in
theorem c_X3_remove (l : Launch) (G : kz_G) (xo hc ra : Nat) (hk aw az an nn : Nat) (fw : Nat → Int64) (zs : Nat → Nat) (fv : Nat → Int32) (ww : Int64) (nv : Int32) (sz : Nat) (hn : nn ≤ 120) (hz : ∀ j, zs j ≤ 8) : Met l yX3_remove wsX3_remove { frames := 3, cells := 0, slots := 0, locals := 71 } (kz_Pm G [.ref xo, .long ww, .int nv] [(xo, .inr (3, [.ref hk, .ref hc, .ref ra])), (hk, .inr (1, [.ref aw, .ref az, .ref an, .int (nI nn)])), (aw, .inl (gJ G, 120, .inr (.inl fw))), (az, .inl (gI G, 120, .inl (kz_z zs))), (an, .inl (gI G, 120, .inl fv))] sz) (kz_Qi G (fun r w => if (0 ≤ nv ∧ nv ≤ 8) ∧ kf_st fw zs (kf_cut ww (kf_zn nv)) (kf_zn nv) nn then r = 1 ∧ w = [(xo, .inr (3, [.ref hk, .ref hc, .ref ra])), (hk, .inr (1, [.ref aw, .ref az, .ref an, .int (nI (nn - 1))])), (aw, .inl (gJ G, 120, .inr (.inl (kf_dn fw (kf_cb fw zs (kf_cut ww (kf_zn nv)) (kf_zn nv) nn) (nn - 1))))), (az, .inl (gI G, 120, .inl (kz_z (kf_dn zs (kf_cb fw zs (kf_cut ww (kf_zn nv)) (kf_zn nv) nn) (nn - 1))))), (an, .inl (gI G, 120, .inl (kf_dn fv (kf_cb fw zs (kf_cut ww (kf_zn nv)) (kf_zn nv) nn) (nn - 1))))] else r = 0 ∧ w = [(xo, .inr (3, [.ref hk, .ref hc, .ref ra])), (hk, .inr (1, [.ref aw, .ref az, .ref an, .int (nI nn)])), (aw, .inl (gJ G, 120, .inr (.inl fw))), (az, .inl (gI G, 120, .inl (kz_z zs))), (an, .inl (gI G, 120, .inl fv))]) (va_A [(xo, .inr (3, [.ref hk, .ref hc, .ref ra])), (hk, .inr (1, [.ref aw, .ref az, .ref an, .int (nI nn)])), (aw, .inl (gJ G, 120, .inr (.inl fw))), (az, .inl (gI G, 120, .inl (kz_z zs))), (an, .inl (gI G, 120, .inl fv))] sz)) 0 0 (va_A [(xo, .inr (3, [.ref hk, .ref hc, .ref ra])), (hk, .inr (1, [.ref aw, .ref az, .ref an, .int (nI nn)])), (aw, .inl (gJ G, 120, .inr (.inl fw))), (az, .inl (gI G, 120, .inl (kz_z zs))), (an, .inl (gI G, 120, .inl fv))] sz) := by
  refine Met.ofW (cc := cX3_remove) (maxL := 7) (ret := (some .boolean)) (by decide) rfl ?_
  intro p e s m args below meth c s₁ B hml hv
  obtain ⟨rfl, hsz, hP, hK, hD0⟩ := hv
  have hx := B.exec
  have hb := B.bytes
  have hr := B.returns
  have hts := atoms_spec (ws := wsX3_remove) B.pre
  have hown : s.vm.findClass RX3 = some m.cls := findClass_of_methodNamed B.named
  have hlocks := B.notSynchronized
  have hinX3 : ∀ w ∈ wsX30, w ∈ wsX3_remove := by decide +kernel
  subst hsz
  have hD := hD0.self (sz := s.heap.size)
  generalize hAe : va_A [(xo, .inr (3, [.ref hk, .ref hc, .ref ra])), (hk, .inr (1, [.ref aw, .ref az, .ref an, .int (nI nn)])), (aw, .inl (gJ G, 120, .inr (.inl fw))), (az, .inl (gI G, 120, .inl (kz_z zs))), (an, .inl (gI G, 120, .inl fv))] s.heap.size = A at hD ⊢
  have hA : ∀ q : Nat, s.heap.size ≤ q → A q := fun q h => by rw [← hAe]; exact Or.inr h
  have hS : va_S A s.heap s.heap [] := va_S.rf
  have hP : va_P G.1 vwCl [(xo, .inr (3, [.ref hk, .ref hc, .ref ra])), (hk, .inr (1, [.ref aw, .ref az, .ref an, .int (nI nn)])), (aw, .inl (gJ G, 120, .inr (.inl fw))), (az, .inl (gI G, 120, .inl (kz_z zs))), (an, .inl (gI G, 120, .inl fv))] s.heap := hP
  have hl := lv_entry ([.ref xo, .long ww, .int nv]) (n := 7) (Nat.le_of_ble_eq_true rfl)
  rw [lg_entry_eq]
  generalize (lg_sl ([.ref xo, .long ww, .int nv]) ++ List.replicate (7 - (lg_sl ([.ref xo, .long ww, .int nv])).length) Slot.unset).toArray = ls at hl ⊢
  have hl : lv_has ls 7 [(0, .ref xo), (1, .long ww), (3, .int nv)] := hl
  refine lv_iload_n hx hb dX3_remove_0 rfl (lv_at hl 2 rfl) ?_
  refine kz_ci (v := if 0 ≤ nv ∧ nv ≤ 8 then 1 else 0) (va_runS (As := [.int nv]) (rest := []) ⟨hx, hb, hml, hown, hts⟩ (c_X3_isKeySize l nv) (va_cwS 1 hts gX3_remove_X3_isKeySize rfl rfl rfl (by decide +kernel) ⟨Nat.le_of_ble_eq_true rfl, Nat.le_of_ble_eq_true rfl⟩) kz_ps0 rfl rfl hl.1 rfl (lv_room (Nat.le_of_ble_eq_true rfl)) dX3_remove_1 ⟨Nat.zero_le _, Nat.zero_le _⟩).run ?_
  refine lv_if_ne (tgt := 9) hx hb dX3_remove_4 (by decide) (fun c_1 => ?_) (fun c_1 => ?_)
  · have kc_1 := kf_if1 c_1
    obtain ⟨zz, hzz, rfl⟩ := kf_ok_nat kc_1
    refine lv_lload_n hx hb dX3_remove_9 rfl (lv_at hl 1 rfl) ?_
    refine lv_iload_n hx hb dX3_remove_10 rfl (lv_at hl 2 rfl) ?_
    refine kz_cl (v := kf_cut ww zz) (va_runS (As := [.long ww, .int (nI zz)]) (rest := []) ⟨hx, hb, hml, hown, hts⟩ (c_X3_highestBytes l ww zz (by omega)) (va_cwS 2 hts gX3_remove_X3_highestBytes rfl rfl rfl (by decide +kernel) ⟨Nat.le_of_ble_eq_true rfl, Nat.le_of_ble_eq_true rfl⟩) kz_ps0 rfl rfl hl.1 rfl (lv_room (Nat.le_of_ble_eq_true rfl)) dX3_remove_11 ⟨Nat.zero_le _, Nat.zero_le _⟩).run ?_
    refine lv_lstore (lv' := [(4, .long (kf_cut ww zz)), (0, .ref xo), (1, .long ww), (3, .int (nI zz))]) hx hb dX3_remove_14 hl (by decide) rfl (fun ls hl => ?_)
    refine lv_aload_n hx hb dX3_remove_16 rfl (lv_at hl 1 rfl) ?_
    refine va_get (D := G.1) (ci := 3) (v := .ref hk) (C := RX3) (T := TX3) (N := 3) hx hb hts hinX3 hown hK.1 hP 0 rfl rfl 0 (by decide) (hts (.fieldLink RX3 10 "ForkStore" "keys" "LForkStore$Keys;") (by decide +kernel)) (fun _ h9 => h9) rfl dX3_remove_17 ?_
    refine lv_lload hx hb dX3_remove_20 (lv_at hl 0 rfl) ?_
    refine lv_iload_n hx hb dX3_remove_22 rfl (lv_at hl 3 rfl) ?_
    have hPc := hP.sub (ws' := [(hk, .inr (1, [.ref aw, .ref az, .ref an, .int (nI nn)])), (aw, .inl (gJ G, 120, .inr (.inl fw))), (az, .inl (gI G, 120, .inl (kz_z zs))), (an, .inl (gI G, 120, .inl fv))]) [1, 2, 3, 4] rfl
    refine kz_ci (v := nI (kf_cb fw zs (kf_cut ww zz) zz nn)) (va_runV (As := [.long (kf_cut ww zz), .int (nI zz)]) (rest := []) ⟨hx, hb, hml, hown, hts⟩ (c_X1_countBefore l G hk aw az an nn fw zs fv (kf_cut ww zz) zz (by omega) hz (by omega)) (cwV 2 hts gX3_remove_X1_countBefore rfl rfl rfl (by decide +kernel) ⟨Nat.le_of_ble_eq_true rfl, Nat.le_of_ble_eq_true rfl⟩) (kz_pv hK hPc (va_recv hK.1 hPc (ci := 1) (q0 := 0) rfl rfl)) rfl rfl hl.1 rfl (lv_room (Nat.le_of_ble_eq_true rfl)) dX3_remove_23 ⟨Nat.zero_le _, Nat.zero_le _⟩).run ?_
    refine lv_istore (lv' := [(6, .int (nI (kf_cb fw zs (kf_cut ww zz) zz nn))), (4, .long (kf_cut ww zz)), (0, .ref xo), (1, .long ww), (3, .int (nI zz))]) hx hb dX3_remove_26 hl (by decide) rfl (fun ls hl => ?_)
    have hcb := kf_cb_le fw zs (kf_cut ww zz) zz nn
    refine lv_aload_n hx hb dX3_remove_28 rfl (lv_at hl 2 rfl) ?_
    refine va_get (D := G.1) (ci := 3) (v := .ref hk) (C := RX3) (T := TX3) (N := 3) hx hb hts hinX3 hown hK.1 hP 0 rfl rfl 0 (by decide) (hts (.fieldLink RX3 10 "ForkStore" "keys" "LForkStore$Keys;") (by decide +kernel)) (fun _ h9 => h9) rfl dX3_remove_29 ?_
    refine lv_iload hx hb dX3_remove_32 (lv_at hl 0 rfl) ?_
    refine lv_lload hx hb dX3_remove_34 (lv_at hl 1 rfl) ?_
    refine lv_iload_n hx hb dX3_remove_36 rfl (lv_at hl 4 rfl) ?_
    have hPc := hP.sub (ws' := [(hk, .inr (1, [.ref aw, .ref az, .ref an, .int (nI nn)])), (aw, .inl (gJ G, 120, .inr (.inl fw))), (az, .inl (gI G, 120, .inl (kz_z zs))), (an, .inl (gI G, 120, .inl fv))]) [1, 2, 3, 4] rfl
    refine kz_ci (v := if (kf_cb fw zs (kf_cut ww zz) zz nn) < nn ∧ fw (kf_cb fw zs (kf_cut ww zz) zz nn) = kf_cut ww zz ∧ zs (kf_cb fw zs (kf_cut ww zz) zz nn) = zz then 1 else 0) (va_runV (As := [.int (nI (kf_cb fw zs (kf_cut ww zz) zz nn)), .long (kf_cut ww zz), .int (nI zz)]) (rest := []) ⟨hx, hb, hml, hown, hts⟩ (c_X1_standsAt l G hk aw az an nn fw zs fv (kf_cb fw zs (kf_cut ww zz) zz nn) (kf_cut ww zz) zz (by omega) hz (by omega) (by omega)) (cwV 3 hts gX3_remove_X1_standsAt rfl rfl rfl (by decide +kernel) ⟨Nat.le_of_ble_eq_true rfl, Nat.le_of_ble_eq_true rfl⟩) (kz_pv hK hPc (va_recv hK.1 hPc (ci := 1) (q0 := 0) rfl rfl)) rfl rfl hl.1 rfl (lv_room (Nat.le_of_ble_eq_true rfl)) dX3_remove_37 ⟨Nat.zero_le _, Nat.zero_le _⟩).run ?_
    refine lv_if_ne (tgt := 45) hx hb dX3_remove_40 (by decide) (fun c_2 => ?_) (fun c_2 => ?_)
    · have kc_2 := kf_if1 c_2
      refine lv_aload_n hx hb dX3_remove_45 rfl (lv_at hl 2 rfl) ?_
      refine va_get (D := G.1) (ci := 3) (v := .ref hk) (C := RX3) (T := TX3) (N := 3) hx hb hts hinX3 hown hK.1 hP 0 rfl rfl 0 (by decide) (hts (.fieldLink RX3 10 "ForkStore" "keys" "LForkStore$Keys;") (by decide +kernel)) (fun _ h9 => h9) rfl dX3_remove_46 ?_
      refine lv_iload hx hb dX3_remove_49 (lv_at hl 0 rfl) ?_
      have hPc := hP.sub (ws' := [(hk, .inr (1, [.ref aw, .ref az, .ref an, .int (nI nn)])), (aw, .inl (gJ G, 120, .inr (.inl fw))), (az, .inl (gI G, 120, .inl (kz_z zs))), (an, .inl (gI G, 120, .inl fv))]) [1, 2, 3, 4] rfl
      have hDc := hD.sub (ws' := [(hk, .inr (1, [.ref aw, .ref az, .ref an, .int (nI nn)])), (aw, .inl (gJ G, 120, .inr (.inl fw))), (az, .inl (gI G, 120, .inl (kz_z zs))), (an, .inl (gI G, 120, .inl fv))]) [1, 2, 3, 4] (by decide) rfl
      have hFc := va_free (wc := [(hk, .inr (1, [.ref aw, .ref az, .ref an, .int (nI nn)])), (aw, .inl (gJ G, 120, .inr (.inl fw))), (az, .inl (gI G, 120, .inl (kz_z zs))), (an, .inl (gI G, 120, .inl fv))]) hD hS hA [1, 2, 3, 4] rfl
      refine va_callv (va_runV (As := [.int (nI (kf_cb fw zs (kf_cut ww zz) zz nn))]) (rest := []) ⟨hx, hb, hml, hown, hts⟩ (c_X1_takeOut l G hk aw az an nn fw (kz_z zs) fv (kf_cb fw zs (kf_cut ww zz) zz nn) _ (by omega) kc_2.1) (cwV 1 hts gX3_remove_X1_takeOut rfl rfl rfl (by decide +kernel) ⟨Nat.le_of_ble_eq_true rfl, Nat.le_of_ble_eq_true rfl⟩) (kz_pvm hK hPc hDc (va_recv hK.1 hPc (ci := 1) (q0 := 0) rfl rfl)) rfl rfl hl.1 rfl (lv_room (Nat.le_of_ble_eq_true rfl)) dX3_remove_51 ⟨Nat.zero_le _, Nat.zero_le _⟩) hS (fun q _ h => hFc q h) hFc (fun u t H locs ht hvm hw hB hqz9 hqk9 hS => ?_)
      have hw : u = [(hk, .inr (1, [.ref aw, .ref az, .ref an, .int (nI (nn - 1))])), (aw, .inl (gJ G, 120, .inr (.inl (kf_dn fw (kf_cb fw zs (kf_cut ww zz) zz nn) (nn - 1))))), (az, .inl (gI G, 120, .inl (kf_dn (kz_z zs) (kf_cb fw zs (kf_cut ww zz) zz nn) (nn - 1)))), (an, .inl (gI G, 120, .inl (kf_dn fv (kf_cb fw zs (kf_cut ww zz) zz nn) (nn - 1))))] := hw
      have hB : va_P G.1 vwCl u H := by rw [← ht]; exact hB
      rw [hw] at hB
      obtain ⟨hP, hD⟩ := kz_join (wc := [(hk, .inr (1, [.ref aw, .ref az, .ref an, .int (nI nn)])), (aw, .inl (gJ G, 120, .inr (.inl fw))), (az, .inl (gI G, 120, .inl (kz_z zs))), (an, .inl (gI G, 120, .inl fv))]) (w1 := [(hk, .inr (1, [.ref aw, .ref az, .ref an, .int (nI (nn - 1))])), (aw, .inl (gJ G, 120, .inr (.inl (kf_dn fw (kf_cb fw zs (kf_cut ww zz) zz nn) (nn - 1))))), (az, .inl (gI G, 120, .inl (kf_dn (kz_z zs) (kf_cb fw zs (kf_cut ww zz) zz nn) (nn - 1)))), (an, .inl (gI G, 120, .inl (kf_dn fv (kf_cb fw zs (kf_cut ww zz) zz nn) (nn - 1))))]) hP hD [1, 2, 3, 4] rfl (by decide) rfl hqk9 hB
      have hP : va_P G.1 vwCl [(xo, .inr (3, [.ref hk, .ref hc, .ref ra])), (hk, .inr (1, [.ref aw, .ref az, .ref an, .int (nI (nn - 1))])), (aw, .inl (gJ G, 120, .inr (.inl (kf_dn fw (kf_cb fw zs (kf_cut ww zz) zz nn) (nn - 1))))), (az, .inl (gI G, 120, .inl (kf_dn (kz_z zs) (kf_cb fw zs (kf_cut ww zz) zz nn) (nn - 1)))), (an, .inl (gI G, 120, .inl (kf_dn fv (kf_cb fw zs (kf_cut ww zz) zz nn) (nn - 1))))] H := hP
      have hD : va_D A [(xo, .inr (3, [.ref hk, .ref hc, .ref ra])), (hk, .inr (1, [.ref aw, .ref az, .ref an, .int (nI (nn - 1))])), (aw, .inl (gJ G, 120, .inr (.inl (kf_dn fw (kf_cb fw zs (kf_cut ww zz) zz nn) (nn - 1))))), (az, .inl (gI G, 120, .inl (kf_dn (kz_z zs) (kf_cb fw zs (kf_cut ww zz) zz nn) (nn - 1)))), (an, .inl (gI G, 120, .inl (kf_dn fv (kf_cb fw zs (kf_cut ww zz) zz nn) (nn - 1))))] := hD
      rw [kf_dn_z] at hP hD
      have hP : va_P G.1 vwCl [(xo, .inr (3, [.ref hk, .ref hc, .ref ra])), (hk, .inr (1, [.ref aw, .ref az, .ref an, .int (nI (nn - 1))])), (aw, .inl (gJ G, 120, .inr (.inl (kf_dn fw (kf_cb fw zs (kf_cut ww zz) zz nn) (nn - 1))))), (az, .inl (gI G, 120, .inl (kz_z (kf_dn zs (kf_cb fw zs (kf_cut ww zz) zz nn) (nn - 1))))), (an, .inl (gI G, 120, .inl (kf_dn fv (kf_cb fw zs (kf_cut ww zz) zz nn) (nn - 1))))] H := hP
      have hD : va_D A [(xo, .inr (3, [.ref hk, .ref hc, .ref ra])), (hk, .inr (1, [.ref aw, .ref az, .ref an, .int (nI (nn - 1))])), (aw, .inl (gJ G, 120, .inr (.inl (kf_dn fw (kf_cb fw zs (kf_cut ww zz) zz nn) (nn - 1))))), (az, .inl (gI G, 120, .inl (kz_z (kf_dn zs (kf_cb fw zs (kf_cut ww zz) zz nn) (nn - 1))))), (an, .inl (gI G, 120, .inl (kf_dn fv (kf_cb fw zs (kf_cut ww zz) zz nn) (nn - 1))))] := hD
      refine lv_iconst (v := 1) hx hb dX3_remove_54 (by decide) ?_
      exact W.zret (v := 1) hx hb hr rfl (fun t ht hW => ⟨⟨_, ([(xo, .inr (3, [.ref hk, .ref hc, .ref ra])), (hk, .inr (1, [.ref aw, .ref az, .ref an, .int (nI (nn - 1))])), (aw, .inl (gJ G, 120, .inr (.inl (kf_dn fw (kf_cb fw zs (kf_cut ww zz) zz nn) (nn - 1))))), (az, .inl (gI G, 120, .inl (kz_z (kf_dn zs (kf_cb fw zs (kf_cut ww zz) zz nn) (nn - 1))))), (an, .inl (gI G, 120, .inl (kf_dn fv (kf_cb fw zs (kf_cut ww zz) zz nn) (nn - 1))))] : va_W), rfl, (by show if _ then _ else _; rw [show kf_zn (nI zz) = zz from nI_clamp (by omega), if_pos ⟨kc_1, kc_2⟩]; exact ⟨rfl, rfl⟩), by rw [← ht] at hP; exact hP⟩, hS.F ht⟩) hS.2.2 dX3_remove_55
    · have kc_2 := kf_if0 c_2
      refine lv_iconst (v := 0) hx hb dX3_remove_43 (by decide) ?_
      exact W.zret (v := 0) hx hb hr rfl (fun t ht hW => ⟨⟨_, ([(xo, .inr (3, [.ref hk, .ref hc, .ref ra])), (hk, .inr (1, [.ref aw, .ref az, .ref an, .int (nI nn)])), (aw, .inl (gJ G, 120, .inr (.inl fw))), (az, .inl (gI G, 120, .inl (kz_z zs))), (an, .inl (gI G, 120, .inl fv))] : va_W), rfl, (by show if _ then _ else _; rw [show kf_zn (nI zz) = zz from nI_clamp (by omega), if_neg (fun h => kc_2 h.2)]; exact ⟨rfl, rfl⟩), by rw [← ht] at hP; exact hP⟩, hS.F ht⟩) hS.2.2 dX3_remove_44
  · have kc_1 := kf_if0 c_1
    refine lv_iconst (v := 0) hx hb dX3_remove_7 (by decide) ?_
    exact W.zret (v := 0) hx hb hr rfl (fun t ht hW => ⟨⟨_, ([(xo, .inr (3, [.ref hk, .ref hc, .ref ra])), (hk, .inr (1, [.ref aw, .ref az, .ref an, .int (nI nn)])), (aw, .inl (gJ G, 120, .inr (.inl fw))), (az, .inl (gI G, 120, .inl (kz_z zs))), (an, .inl (gI G, 120, .inl fv))] : va_W), rfl, (by show if _ then _ else _; rw [if_neg (fun h => kc_1 h.1)]; exact ⟨rfl, rfl⟩), by rw [← ht] at hP; exact hP⟩, hS.F ht⟩) hS.2.2 dX3_remove_8
