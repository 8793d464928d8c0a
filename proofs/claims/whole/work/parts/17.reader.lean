def kf_b (b : Bool) : Int32 := if b = true then 1 else 0
theorem kf_b_nar (b : Bool) : narrow .boolean (.int (kf_b b)) = .int (kf_b b) := by cases b <;> rfl
theorem kf_b_0 {b : Bool} : kf_b b = 0 ↔ b = false := by cases b <;> decide
/-- a reader's place: 0 before all, k + 1 on the k-th, count + 1 behind all -/
def kf_p (pt : Nat) : Int32 := nI pt - 1
theorem kf_p_s (k : Nat) : kf_p (k + 1) = nI k := nI_pred k
theorem kf_p_1 (pt : Nat) : kf_p pt + 1 = nI pt := by
  unfold kf_p
  cases pt with
  | zero => rfl
  | succ k => rw [nI_pred, nI_1]
theorem kf_p_in {pt nn : Nat} (hp : pt ≤ 100000) (hn : nn ≤ 120) : (0 ≤ kf_p pt ∧ kf_p pt < nI nn) ↔ (0 < pt ∧ pt ≤ nn) := by
  cases pt with
  | zero => exact ⟨fun h => absurd h.1 (by decide), fun h => absurd h.1 (by decide)⟩
  | succ k =>
    rw [kf_p_s, kf_plN (by omega) (by omega)]
    omega
theorem kf_p_cl {pt : Nat} (h0 : 0 < pt) (hp : pt ≤ 100000) : (kf_p pt).toNatClampNeg = pt - 1 := by
  cases pt with
  | zero => omega
  | succ k =>
    rw [kf_p_s, nI_clamp (by omega)]
    rfl
theorem kf_p_if {α : Type} {pt nn : Nat} (hp : pt ≤ 100000) (hn : nn ≤ 120) (f : Nat → α) (d : α) : (if 0 ≤ kf_p pt ∧ kf_p pt < nI nn then f (kf_p pt).toNatClampNeg else d) = if 0 < pt ∧ pt ≤ nn then f (pt - 1) else d := by
  by_cases h : 0 < pt ∧ pt ≤ nn
  · rw [if_pos ((kf_p_in hp hn).mpr h), if_pos h, kf_p_cl h.1 hp]
  · rw [if_neg (fun z => h ((kf_p_in hp hn).mp z)), if_neg h]
theorem kf_p_ib {pt nn : Nat} (hp : pt ≤ 100000) (hn : nn ≤ 120) : (if 0 ≤ kf_p pt ∧ kf_p pt < nI nn then (1 : Int32) else 0) = if 0 < pt ∧ pt ≤ nn then 1 else 0 := by
  by_cases h : 0 < pt ∧ pt ≤ nn
  · rw [if_pos ((kf_p_in hp hn).mpr h), if_pos h]
  · rw [if_neg (fun z => h ((kf_p_in hp hn).mp z)), if_neg h]

set_option maxHeartbeats 4000000 in
set_option maxRecDepth 100000 in
theorem c_X2_isOpen (l : Launch) (G : kz_G) (rd : Nat) (ob : Bool) (pt : Nat) (hk aw az an nn : Nat) (fw : Nat → Int64) (fz fv : Nat → Int32) : Met l yX2_isOpen wsX2_isOpen { frames := 0, cells := 0, slots := 0, locals := 0 } (kz_Pp G [.ref rd] [(rd, .inr (2, [.ref hk, .int (kf_b ob), .int (kf_p pt)])), (hk, .inr (1, [.ref aw, .ref az, .ref an, .int (nI nn)])), (aw, .inl (gJ G, 120, .inr (.inl fw))), (az, .inl (gI G, 120, .inl fz)), (an, .inl (gI G, 120, .inl fv))]) (vp_Si (fun r => r = kf_b ob)) 0 0 (fun _ => False) := by
  refine Met.ofW (cc := cX2_isOpen) (maxL := 1) (ret := (some .boolean)) (by decide) rfl ?_
  intro p e s m args below meth c s₁ B hml hv
  obtain ⟨rfl, hP, hK⟩ := hv
  have hx := B.exec
  have hb := B.bytes
  have hr := B.returns
  have hts := atoms_spec (ws := wsX2_isOpen) B.pre
  have hown : s.vm.findClass RX2 = some m.cls := findClass_of_methodNamed B.named
  have hlocks := B.notSynchronized
  have hinX2 : ∀ w ∈ wsX20, w ∈ wsX2_isOpen := by decide +kernel
  have hP : va_P G.1 vwCl [(rd, .inr (2, [.ref hk, .int (kf_b ob), .int (kf_p pt)])), (hk, .inr (1, [.ref aw, .ref az, .ref an, .int (nI nn)])), (aw, .inl (gJ G, 120, .inr (.inl fw))), (az, .inl (gI G, 120, .inl fz)), (an, .inl (gI G, 120, .inl fv))] s.heap := hP
  have hl := lv_entry ([.ref rd]) (n := 1) (Nat.le_of_ble_eq_true rfl)
  rw [lg_entry_eq]
  generalize (lg_sl ([.ref rd]) ++ List.replicate (1 - (lg_sl ([.ref rd])).length) Slot.unset).toArray = ls at hl ⊢
  have hl : lv_has ls 1 [(0, .ref rd)] := hl
  refine lv_aload_n hx hb dX2_isOpen_0 rfl (lv_at hl 0 rfl) ?_
  refine va_get (D := G.1) (ci := 2) (v := .int (kf_b ob)) (C := RX2) (T := TX2) (N := 3) hx hb hts hinX2 hown hK.1 hP 0 rfl rfl 1 (by decide) (hts (.fieldLink RX2 18 "ForkStore$Reader" "isOpen" "Z") (by decide +kernel)) (fun _ h9 => h9) rfl dX2_isOpen_1 ?_
  exact W.zret (v := kf_b ob) hx hb hr (by cases ob <;> rfl) (fun t ht hW => ⟨_, rfl, rfl, ht⟩) (fun _ h => nomatch h) dX2_isOpen_4

set_option maxHeartbeats 4000000 in
set_option maxRecDepth 100000 in
theorem c_X2_bytesHere (l : Launch) (G : kz_G) (rd : Nat) (ob : Bool) (pt : Nat) (hk aw az an nn : Nat) (fw : Nat → Int64) (fz fv : Nat → Int32) (hpt : pt ≤ 100000) (hn : nn ≤ 120) : Met l yX2_bytesHere wsX2_bytesHere { frames := 2, cells := 0, slots := 0, locals := 42 } (kz_Pp G [.ref rd] [(rd, .inr (2, [.ref hk, .int (kf_b ob), .int (kf_p pt)])), (hk, .inr (1, [.ref aw, .ref az, .ref an, .int (nI nn)])), (aw, .inl (gJ G, 120, .inr (.inl fw))), (az, .inl (gI G, 120, .inl fz)), (an, .inl (gI G, 120, .inl fv))]) (vp_Sl (fun r => r = if 0 < pt ∧ pt ≤ nn then fw (pt - 1) else 0)) 0 0 (fun _ => False) := by
  refine Met.ofW (cc := cX2_bytesHere) (maxL := 1) (ret := (some .long)) (by decide) rfl ?_
  intro p e s m args below meth c s₁ B hml hv
  obtain ⟨rfl, hP, hK⟩ := hv
  have hx := B.exec
  have hb := B.bytes
  have hr := B.returns
  have hts := atoms_spec (ws := wsX2_bytesHere) B.pre
  have hown : s.vm.findClass RX2 = some m.cls := findClass_of_methodNamed B.named
  have hlocks := B.notSynchronized
  have hinX2 : ∀ w ∈ wsX20, w ∈ wsX2_bytesHere := by decide +kernel
  have hP : va_P G.1 vwCl [(rd, .inr (2, [.ref hk, .int (kf_b ob), .int (kf_p pt)])), (hk, .inr (1, [.ref aw, .ref az, .ref an, .int (nI nn)])), (aw, .inl (gJ G, 120, .inr (.inl fw))), (az, .inl (gI G, 120, .inl fz)), (an, .inl (gI G, 120, .inl fv))] s.heap := hP
  have hl := lv_entry ([.ref rd]) (n := 1) (Nat.le_of_ble_eq_true rfl)
  rw [lg_entry_eq]
  generalize (lg_sl ([.ref rd]) ++ List.replicate (1 - (lg_sl ([.ref rd])).length) Slot.unset).toArray = ls at hl ⊢
  have hl : lv_has ls 1 [(0, .ref rd)] := hl
  refine lv_aload_n hx hb dX2_bytesHere_0 rfl (lv_at hl 0 rfl) ?_
  refine va_get (D := G.1) (ci := 2) (v := .ref hk) (C := RX2) (T := TX2) (N := 3) hx hb hts hinX2 hown hK.1 hP 0 rfl rfl 0 (by decide) (hts (.fieldLink RX2 12 "ForkStore$Reader" "seen" "LForkStore$Keys;") (by decide +kernel)) (fun _ h9 => h9) rfl dX2_bytesHere_1 ?_
  refine lv_aload_n hx hb dX2_bytesHere_4 rfl (lv_at hl 0 rfl) ?_
  refine va_get (D := G.1) (ci := 2) (v := .int (kf_p pt)) (C := RX2) (T := TX2) (N := 3) hx hb hts hinX2 hown hK.1 hP 0 rfl rfl 2 (by decide) (hts (.fieldLink RX2 22 "ForkStore$Reader" "place" "I") (by decide +kernel)) (fun _ h9 => h9) rfl dX2_bytesHere_5 ?_
  have hPc := hP.sub (ws' := [(hk, .inr (1, [.ref aw, .ref az, .ref an, .int (nI nn)])), (aw, .inl (gJ G, 120, .inr (.inl fw))), (az, .inl (gI G, 120, .inl fz)), (an, .inl (gI G, 120, .inl fv))]) [1, 2, 3, 4] rfl
  refine kz_cl (v := if 0 ≤ kf_p pt ∧ kf_p pt < nI nn then fw (kf_p pt).toNatClampNeg else 0) (va_runV (As := [.int (kf_p pt)]) (rest := []) ⟨hx, hb, hml, hown, hts⟩ (c_X1_wordAt l G hk aw az an nn fw fz fv (kf_p pt) (by omega)) (cwV 1 hts gX2_bytesHere_X1_wordAt rfl rfl rfl (by decide +kernel) ⟨Nat.le_of_ble_eq_true rfl, Nat.le_of_ble_eq_true rfl⟩) (kz_pv hK hPc (va_recv hK.1 hPc (ci := 1) (q0 := 0) rfl rfl)) rfl rfl hl.1 rfl (lv_room (Nat.le_of_ble_eq_true rfl)) dX2_bytesHere_8 ⟨Nat.zero_le _, Nat.zero_le _⟩).run ?_
  exact W.lret (v := if 0 ≤ kf_p pt ∧ kf_p pt < nI nn then fw (kf_p pt).toNatClampNeg else 0) hx hb hr (fun t ht hW => ⟨_, rfl, kf_p_if hpt hn _ _, ht⟩) (fun _ h => nomatch h) dX2_bytesHere_11

set_option maxHeartbeats 4000000 in
set_option maxRecDepth 100000 in
theorem c_X2_sizeHere (l : Launch) (G : kz_G) (rd : Nat) (ob : Bool) (pt : Nat) (hk aw az an nn : Nat) (fw : Nat → Int64) (fz fv : Nat → Int32) (hpt : pt ≤ 100000) (hn : nn ≤ 120) : Met l yX2_sizeHere wsX2_sizeHere { frames := 2, cells := 0, slots := 0, locals := 42 } (kz_Pp G [.ref rd] [(rd, .inr (2, [.ref hk, .int (kf_b ob), .int (kf_p pt)])), (hk, .inr (1, [.ref aw, .ref az, .ref an, .int (nI nn)])), (aw, .inl (gJ G, 120, .inr (.inl fw))), (az, .inl (gI G, 120, .inl fz)), (an, .inl (gI G, 120, .inl fv))]) (vp_Si (fun r => r = if 0 < pt ∧ pt ≤ nn then fz (pt - 1) else -1)) 0 0 (fun _ => False) := by
  refine Met.ofW (cc := cX2_sizeHere) (maxL := 1) (ret := (some .int)) (by decide) rfl ?_
  intro p e s m args below meth c s₁ B hml hv
  obtain ⟨rfl, hP, hK⟩ := hv
  have hx := B.exec
  have hb := B.bytes
  have hr := B.returns
  have hts := atoms_spec (ws := wsX2_sizeHere) B.pre
  have hown : s.vm.findClass RX2 = some m.cls := findClass_of_methodNamed B.named
  have hlocks := B.notSynchronized
  have hinX2 : ∀ w ∈ wsX20, w ∈ wsX2_sizeHere := by decide +kernel
  have hP : va_P G.1 vwCl [(rd, .inr (2, [.ref hk, .int (kf_b ob), .int (kf_p pt)])), (hk, .inr (1, [.ref aw, .ref az, .ref an, .int (nI nn)])), (aw, .inl (gJ G, 120, .inr (.inl fw))), (az, .inl (gI G, 120, .inl fz)), (an, .inl (gI G, 120, .inl fv))] s.heap := hP
  have hl := lv_entry ([.ref rd]) (n := 1) (Nat.le_of_ble_eq_true rfl)
  rw [lg_entry_eq]
  generalize (lg_sl ([.ref rd]) ++ List.replicate (1 - (lg_sl ([.ref rd])).length) Slot.unset).toArray = ls at hl ⊢
  have hl : lv_has ls 1 [(0, .ref rd)] := hl
  refine lv_aload_n hx hb dX2_sizeHere_0 rfl (lv_at hl 0 rfl) ?_
  refine va_get (D := G.1) (ci := 2) (v := .ref hk) (C := RX2) (T := TX2) (N := 3) hx hb hts hinX2 hown hK.1 hP 0 rfl rfl 0 (by decide) (hts (.fieldLink RX2 12 "ForkStore$Reader" "seen" "LForkStore$Keys;") (by decide +kernel)) (fun _ h9 => h9) rfl dX2_sizeHere_1 ?_
  refine lv_aload_n hx hb dX2_sizeHere_4 rfl (lv_at hl 0 rfl) ?_
  refine va_get (D := G.1) (ci := 2) (v := .int (kf_p pt)) (C := RX2) (T := TX2) (N := 3) hx hb hts hinX2 hown hK.1 hP 0 rfl rfl 2 (by decide) (hts (.fieldLink RX2 22 "ForkStore$Reader" "place" "I") (by decide +kernel)) (fun _ h9 => h9) rfl dX2_sizeHere_5 ?_
  have hPc := hP.sub (ws' := [(hk, .inr (1, [.ref aw, .ref az, .ref an, .int (nI nn)])), (aw, .inl (gJ G, 120, .inr (.inl fw))), (az, .inl (gI G, 120, .inl fz)), (an, .inl (gI G, 120, .inl fv))]) [1, 2, 3, 4] rfl
  refine kz_ci (v := if 0 ≤ kf_p pt ∧ kf_p pt < nI nn then fz (kf_p pt).toNatClampNeg else -1) (va_runV (As := [.int (kf_p pt)]) (rest := []) ⟨hx, hb, hml, hown, hts⟩ (c_X1_sizeAt l G hk aw az an nn fw fz fv (kf_p pt) (by omega)) (cwV 1 hts gX2_sizeHere_X1_sizeAt rfl rfl rfl (by decide +kernel) ⟨Nat.le_of_ble_eq_true rfl, Nat.le_of_ble_eq_true rfl⟩) (kz_pv hK hPc (va_recv hK.1 hPc (ci := 1) (q0 := 0) rfl rfl)) rfl rfl hl.1 rfl (lv_room (Nat.le_of_ble_eq_true rfl)) dX2_sizeHere_8 ⟨Nat.zero_le _, Nat.zero_le _⟩).run ?_
  exact W.iret (v := if 0 ≤ kf_p pt ∧ kf_p pt < nI nn then fz (kf_p pt).toNatClampNeg else -1) hx hb hr (fun t ht hW => ⟨_, rfl, kf_p_if hpt hn _ _, ht⟩) (fun _ h => nomatch h) dX2_sizeHere_11

set_option maxHeartbeats 4000000 in
set_option maxRecDepth 100000 in
theorem c_X2_numberHere (l : Launch) (G : kz_G) (rd : Nat) (ob : Bool) (pt : Nat) (hk aw az an nn : Nat) (fw : Nat → Int64) (fz fv : Nat → Int32) (hpt : pt ≤ 100000) (hn : nn ≤ 120) : Met l yX2_numberHere wsX2_numberHere { frames := 2, cells := 0, slots := 0, locals := 42 } (kz_Pp G [.ref rd] [(rd, .inr (2, [.ref hk, .int (kf_b ob), .int (kf_p pt)])), (hk, .inr (1, [.ref aw, .ref az, .ref an, .int (nI nn)])), (aw, .inl (gJ G, 120, .inr (.inl fw))), (az, .inl (gI G, 120, .inl fz)), (an, .inl (gI G, 120, .inl fv))]) (vp_Si (fun r => r = if 0 < pt ∧ pt ≤ nn then fv (pt - 1) else 0)) 0 0 (fun _ => False) := by
  refine Met.ofW (cc := cX2_numberHere) (maxL := 1) (ret := (some .int)) (by decide) rfl ?_
  intro p e s m args below meth c s₁ B hml hv
  obtain ⟨rfl, hP, hK⟩ := hv
  have hx := B.exec
  have hb := B.bytes
  have hr := B.returns
  have hts := atoms_spec (ws := wsX2_numberHere) B.pre
  have hown : s.vm.findClass RX2 = some m.cls := findClass_of_methodNamed B.named
  have hlocks := B.notSynchronized
  have hinX2 : ∀ w ∈ wsX20, w ∈ wsX2_numberHere := by decide +kernel
  have hP : va_P G.1 vwCl [(rd, .inr (2, [.ref hk, .int (kf_b ob), .int (kf_p pt)])), (hk, .inr (1, [.ref aw, .ref az, .ref an, .int (nI nn)])), (aw, .inl (gJ G, 120, .inr (.inl fw))), (az, .inl (gI G, 120, .inl fz)), (an, .inl (gI G, 120, .inl fv))] s.heap := hP
  have hl := lv_entry ([.ref rd]) (n := 1) (Nat.le_of_ble_eq_true rfl)
  rw [lg_entry_eq]
  generalize (lg_sl ([.ref rd]) ++ List.replicate (1 - (lg_sl ([.ref rd])).length) Slot.unset).toArray = ls at hl ⊢
  have hl : lv_has ls 1 [(0, .ref rd)] := hl
  refine lv_aload_n hx hb dX2_numberHere_0 rfl (lv_at hl 0 rfl) ?_
  refine va_get (D := G.1) (ci := 2) (v := .ref hk) (C := RX2) (T := TX2) (N := 3) hx hb hts hinX2 hown hK.1 hP 0 rfl rfl 0 (by decide) (hts (.fieldLink RX2 12 "ForkStore$Reader" "seen" "LForkStore$Keys;") (by decide +kernel)) (fun _ h9 => h9) rfl dX2_numberHere_1 ?_
  refine lv_aload_n hx hb dX2_numberHere_4 rfl (lv_at hl 0 rfl) ?_
  refine va_get (D := G.1) (ci := 2) (v := .int (kf_p pt)) (C := RX2) (T := TX2) (N := 3) hx hb hts hinX2 hown hK.1 hP 0 rfl rfl 2 (by decide) (hts (.fieldLink RX2 22 "ForkStore$Reader" "place" "I") (by decide +kernel)) (fun _ h9 => h9) rfl dX2_numberHere_5 ?_
  have hPc := hP.sub (ws' := [(hk, .inr (1, [.ref aw, .ref az, .ref an, .int (nI nn)])), (aw, .inl (gJ G, 120, .inr (.inl fw))), (az, .inl (gI G, 120, .inl fz)), (an, .inl (gI G, 120, .inl fv))]) [1, 2, 3, 4] rfl
  refine kz_ci (v := if 0 ≤ kf_p pt ∧ kf_p pt < nI nn then fv (kf_p pt).toNatClampNeg else 0) (va_runV (As := [.int (kf_p pt)]) (rest := []) ⟨hx, hb, hml, hown, hts⟩ (c_X1_numberAt l G hk aw az an nn fw fz fv (kf_p pt) (by omega)) (cwV 1 hts gX2_numberHere_X1_numberAt rfl rfl rfl (by decide +kernel) ⟨Nat.le_of_ble_eq_true rfl, Nat.le_of_ble_eq_true rfl⟩) (kz_pv hK hPc (va_recv hK.1 hPc (ci := 1) (q0 := 0) rfl rfl)) rfl rfl hl.1 rfl (lv_room (Nat.le_of_ble_eq_true rfl)) dX2_numberHere_8 ⟨Nat.zero_le _, Nat.zero_le _⟩).run ?_
  exact W.iret (v := if 0 ≤ kf_p pt ∧ kf_p pt < nI nn then fv (kf_p pt).toNatClampNeg else 0) hx hb hr (fun t ht hW => ⟨_, rfl, kf_p_if hpt hn _ _, ht⟩) (fun _ h => nomatch h) dX2_numberHere_11

set_option maxHeartbeats 4000000 in
set_option maxRecDepth 100000 in
theorem c_X2_begin (l : Launch) (G : kz_G) (rd : Nat) (ob : Bool) (pt : Nat) (hk aw az an nn : Nat) (fw : Nat → Int64) (fz fv : Nat → Int32) (ohk oaw oaz oan onn : Nat) (ofw : Nat → Int64) (ofz ofv : Nat → Int32) (sz : Nat) (hn : onn ≤ 120) : Met l yX2_begin wsX2_begin { frames := 1, cells := 0, slots := 0, locals := 22 } (kz_Pm G [.ref rd, .ref ohk] [(rd, .inr (2, [.ref hk, .int (kf_b ob), .int (kf_p pt)])), (hk, .inr (1, [.ref aw, .ref az, .ref an, .int (nI nn)])), (aw, .inl (gJ G, 120, .inr (.inl fw))), (az, .inl (gI G, 120, .inl fz)), (an, .inl (gI G, 120, .inl fv)), (ohk, .inr (1, [.ref oaw, .ref oaz, .ref oan, .int (nI onn)])), (oaw, .inl (gJ G, 120, .inr (.inl ofw))), (oaz, .inl (gI G, 120, .inl ofz)), (oan, .inl (gI G, 120, .inl ofv))] sz) (kz_Qv G (fun w => w = [(rd, .inr (2, [.ref hk, .int (kf_b true), .int (kf_p 0)])), (hk, .inr (1, [.ref aw, .ref az, .ref an, .int (nI onn)])), (aw, .inl (gJ G, 120, .inr (.inl (kf_cp ofw fw onn)))), (az, .inl (gI G, 120, .inl (kf_cp ofz fz onn))), (an, .inl (gI G, 120, .inl (kf_cp ofv fv onn))), (ohk, .inr (1, [.ref oaw, .ref oaz, .ref oan, .int (nI onn)])), (oaw, .inl (gJ G, 120, .inr (.inl ofw))), (oaz, .inl (gI G, 120, .inl ofz)), (oan, .inl (gI G, 120, .inl ofv))]) (va_A [(rd, .inr (2, [.ref hk, .int (kf_b ob), .int (kf_p pt)])), (hk, .inr (1, [.ref aw, .ref az, .ref an, .int (nI nn)])), (aw, .inl (gJ G, 120, .inr (.inl fw))), (az, .inl (gI G, 120, .inl fz)), (an, .inl (gI G, 120, .inl fv)), (ohk, .inr (1, [.ref oaw, .ref oaz, .ref oan, .int (nI onn)])), (oaw, .inl (gJ G, 120, .inr (.inl ofw))), (oaz, .inl (gI G, 120, .inl ofz)), (oan, .inl (gI G, 120, .inl ofv))] sz)) 0 0 (va_A [(rd, .inr (2, [.ref hk, .int (kf_b ob), .int (kf_p pt)])), (hk, .inr (1, [.ref aw, .ref az, .ref an, .int (nI nn)])), (aw, .inl (gJ G, 120, .inr (.inl fw))), (az, .inl (gI G, 120, .inl fz)), (an, .inl (gI G, 120, .inl fv)), (ohk, .inr (1, [.ref oaw, .ref oaz, .ref oan, .int (nI onn)])), (oaw, .inl (gJ G, 120, .inr (.inl ofw))), (oaz, .inl (gI G, 120, .inl ofz)), (oan, .inl (gI G, 120, .inl ofv))] sz) := by
  refine Met.ofW (cc := cX2_begin) (maxL := 2) (ret := none) (by decide) rfl ?_
  intro p e s m args below meth c s₁ B hml hv
  obtain ⟨rfl, hsz, hP, hK, hD0⟩ := hv
  have hx := B.exec
  have hb := B.bytes
  have hr := B.returns
  have hts := atoms_spec (ws := wsX2_begin) B.pre
  have hown : s.vm.findClass RX2 = some m.cls := findClass_of_methodNamed B.named
  have hlocks := B.notSynchronized
  have hinX2 : ∀ w ∈ wsX20, w ∈ wsX2_begin := by decide +kernel
  subst hsz
  have hD := hD0.self (sz := s.heap.size)
  generalize hAe : va_A [(rd, .inr (2, [.ref hk, .int (kf_b ob), .int (kf_p pt)])), (hk, .inr (1, [.ref aw, .ref az, .ref an, .int (nI nn)])), (aw, .inl (gJ G, 120, .inr (.inl fw))), (az, .inl (gI G, 120, .inl fz)), (an, .inl (gI G, 120, .inl fv)), (ohk, .inr (1, [.ref oaw, .ref oaz, .ref oan, .int (nI onn)])), (oaw, .inl (gJ G, 120, .inr (.inl ofw))), (oaz, .inl (gI G, 120, .inl ofz)), (oan, .inl (gI G, 120, .inl ofv))] s.heap.size = A at hD ⊢
  have hA : ∀ q : Nat, s.heap.size ≤ q → A q := fun q h => by rw [← hAe]; exact Or.inr h
  have hS : va_S A s.heap s.heap [] := va_S.rf
  have hP : va_P G.1 vwCl [(rd, .inr (2, [.ref hk, .int (kf_b ob), .int (kf_p pt)])), (hk, .inr (1, [.ref aw, .ref az, .ref an, .int (nI nn)])), (aw, .inl (gJ G, 120, .inr (.inl fw))), (az, .inl (gI G, 120, .inl fz)), (an, .inl (gI G, 120, .inl fv)), (ohk, .inr (1, [.ref oaw, .ref oaz, .ref oan, .int (nI onn)])), (oaw, .inl (gJ G, 120, .inr (.inl ofw))), (oaz, .inl (gI G, 120, .inl ofz)), (oan, .inl (gI G, 120, .inl ofv))] s.heap := hP
  have hl := lv_entry ([.ref rd, .ref ohk]) (n := 2) (Nat.le_of_ble_eq_true rfl)
  rw [lg_entry_eq]
  generalize (lg_sl ([.ref rd, .ref ohk]) ++ List.replicate (2 - (lg_sl ([.ref rd, .ref ohk])).length) Slot.unset).toArray = ls at hl ⊢
  have hl : lv_has ls 2 [(0, .ref rd), (1, .ref ohk)] := hl
  refine lv_aload_n hx hb dX2_begin_0 rfl (lv_at hl 0 rfl) ?_
  refine va_get (D := G.1) (ci := 2) (v := .ref hk) (C := RX2) (T := TX2) (N := 3) hx hb hts hinX2 hown hK.1 hP 0 rfl rfl 0 (by decide) (hts (.fieldLink RX2 12 "ForkStore$Reader" "seen" "LForkStore$Keys;") (by decide +kernel)) (fun _ h9 => h9) rfl dX2_begin_1 ?_
  refine lv_aload_n hx hb dX2_begin_4 rfl (lv_at hl 1 rfl) ?_
  have hPc := hP.sub (ws' := [(hk, .inr (1, [.ref aw, .ref az, .ref an, .int (nI nn)])), (aw, .inl (gJ G, 120, .inr (.inl fw))), (az, .inl (gI G, 120, .inl fz)), (an, .inl (gI G, 120, .inl fv)), (ohk, .inr (1, [.ref oaw, .ref oaz, .ref oan, .int (nI onn)])), (oaw, .inl (gJ G, 120, .inr (.inl ofw))), (oaz, .inl (gI G, 120, .inl ofz)), (oan, .inl (gI G, 120, .inl ofv))]) [1, 2, 3, 4, 5, 6, 7, 8] rfl
  have hDc := hD.sub (ws' := [(hk, .inr (1, [.ref aw, .ref az, .ref an, .int (nI nn)])), (aw, .inl (gJ G, 120, .inr (.inl fw))), (az, .inl (gI G, 120, .inl fz)), (an, .inl (gI G, 120, .inl fv)), (ohk, .inr (1, [.ref oaw, .ref oaz, .ref oan, .int (nI onn)])), (oaw, .inl (gJ G, 120, .inr (.inl ofw))), (oaz, .inl (gI G, 120, .inl ofz)), (oan, .inl (gI G, 120, .inl ofv))]) [1, 2, 3, 4, 5, 6, 7, 8] (by decide) rfl
  have hFc := va_free (wc := [(hk, .inr (1, [.ref aw, .ref az, .ref an, .int (nI nn)])), (aw, .inl (gJ G, 120, .inr (.inl fw))), (az, .inl (gI G, 120, .inl fz)), (an, .inl (gI G, 120, .inl fv)), (ohk, .inr (1, [.ref oaw, .ref oaz, .ref oan, .int (nI onn)])), (oaw, .inl (gJ G, 120, .inr (.inl ofw))), (oaz, .inl (gI G, 120, .inl ofz)), (oan, .inl (gI G, 120, .inl ofv))]) hD hS hA [1, 2, 3, 4, 5, 6, 7, 8] rfl
  refine va_callv (va_runV (As := [.ref ohk]) (rest := []) ⟨hx, hb, hml, hown, hts⟩ (c_X1_copyFrom l G hk aw az an nn fw fz fv ohk oaw oaz oan onn ofw ofz ofv _ (by omega)) (cwV 1 hts gX2_begin_X1_copyFrom rfl rfl rfl (by decide +kernel) ⟨Nat.le_of_ble_eq_true rfl, Nat.le_of_ble_eq_true rfl⟩) (kz_pvm hK hPc hDc (va_recv hK.1 hPc (ci := 1) (q0 := 0) rfl rfl)) rfl rfl hl.1 rfl (lv_room (Nat.le_of_ble_eq_true rfl)) dX2_begin_5 ⟨Nat.zero_le _, Nat.zero_le _⟩) hS (fun q _ h => hFc q h) hFc (fun u t H locs ht hvm hw hB hqz9 hqk9 hS => ?_)
  have hw : u = [(hk, .inr (1, [.ref aw, .ref az, .ref an, .int (nI onn)])), (aw, .inl (gJ G, 120, .inr (.inl (kf_cp ofw fw onn)))), (az, .inl (gI G, 120, .inl (kf_cp ofz fz onn))), (an, .inl (gI G, 120, .inl (kf_cp ofv fv onn))), (ohk, .inr (1, [.ref oaw, .ref oaz, .ref oan, .int (nI onn)])), (oaw, .inl (gJ G, 120, .inr (.inl ofw))), (oaz, .inl (gI G, 120, .inl ofz)), (oan, .inl (gI G, 120, .inl ofv))] := hw
  have hB : va_P G.1 vwCl u H := by rw [← ht]; exact hB
  rw [hw] at hB
  obtain ⟨hP, hD⟩ := kz_join (wc := [(hk, .inr (1, [.ref aw, .ref az, .ref an, .int (nI nn)])), (aw, .inl (gJ G, 120, .inr (.inl fw))), (az, .inl (gI G, 120, .inl fz)), (an, .inl (gI G, 120, .inl fv)), (ohk, .inr (1, [.ref oaw, .ref oaz, .ref oan, .int (nI onn)])), (oaw, .inl (gJ G, 120, .inr (.inl ofw))), (oaz, .inl (gI G, 120, .inl ofz)), (oan, .inl (gI G, 120, .inl ofv))]) (w1 := [(hk, .inr (1, [.ref aw, .ref az, .ref an, .int (nI onn)])), (aw, .inl (gJ G, 120, .inr (.inl (kf_cp ofw fw onn)))), (az, .inl (gI G, 120, .inl (kf_cp ofz fz onn))), (an, .inl (gI G, 120, .inl (kf_cp ofv fv onn))), (ohk, .inr (1, [.ref oaw, .ref oaz, .ref oan, .int (nI onn)])), (oaw, .inl (gJ G, 120, .inr (.inl ofw))), (oaz, .inl (gI G, 120, .inl ofz)), (oan, .inl (gI G, 120, .inl ofv))]) hP hD [1, 2, 3, 4, 5, 6, 7, 8] rfl (by decide) rfl hqk9 hB
  have hP : va_P G.1 vwCl [(rd, .inr (2, [.ref hk, .int (kf_b ob), .int (kf_p pt)])), (hk, .inr (1, [.ref aw, .ref az, .ref an, .int (nI onn)])), (aw, .inl (gJ G, 120, .inr (.inl (kf_cp ofw fw onn)))), (az, .inl (gI G, 120, .inl (kf_cp ofz fz onn))), (an, .inl (gI G, 120, .inl (kf_cp ofv fv onn))), (ohk, .inr (1, [.ref oaw, .ref oaz, .ref oan, .int (nI onn)])), (oaw, .inl (gJ G, 120, .inr (.inl ofw))), (oaz, .inl (gI G, 120, .inl ofz)), (oan, .inl (gI G, 120, .inl ofv))] H := hP
  have hD : va_D A [(rd, .inr (2, [.ref hk, .int (kf_b ob), .int (kf_p pt)])), (hk, .inr (1, [.ref aw, .ref az, .ref an, .int (nI onn)])), (aw, .inl (gJ G, 120, .inr (.inl (kf_cp ofw fw onn)))), (az, .inl (gI G, 120, .inl (kf_cp ofz fz onn))), (an, .inl (gI G, 120, .inl (kf_cp ofv fv onn))), (ohk, .inr (1, [.ref oaw, .ref oaz, .ref oan, .int (nI onn)])), (oaw, .inl (gJ G, 120, .inr (.inl ofw))), (oaz, .inl (gI G, 120, .inl ofz)), (oan, .inl (gI G, 120, .inl ofv))] := hD
  refine lv_aload_n hx hb dX2_begin_8 rfl (lv_at hl 0 rfl) ?_
  refine lv_iconst (v := (-1)) hx hb dX2_begin_9 (by decide) ?_
  refine va_put (D := G.1) (ci := 2) (v := .int (-1)) (ty := .int) (C := RX2) (T := TX2) (N := 3) hx hb hts hinX2 tyX2 tyX2_ok nmX2 hown hK.1 hP hD hS 0 rfl rfl 2 (by decide) (hts (.fieldLink RX2 22 "ForkStore$Reader" "place" "I") (by decide +kernel)) (fun _ h9 => h9) rfl (by decide +kernel) rfl rfl (Nat.le_of_ble_eq_true rfl) dX2_begin_10 (fun H locs hP hD hS => ?_)
  have hP : va_P G.1 vwCl [(rd, .inr (2, [.ref hk, .int (kf_b ob), .int (-1)])), (hk, .inr (1, [.ref aw, .ref az, .ref an, .int (nI onn)])), (aw, .inl (gJ G, 120, .inr (.inl (kf_cp ofw fw onn)))), (az, .inl (gI G, 120, .inl (kf_cp ofz fz onn))), (an, .inl (gI G, 120, .inl (kf_cp ofv fv onn))), (ohk, .inr (1, [.ref oaw, .ref oaz, .ref oan, .int (nI onn)])), (oaw, .inl (gJ G, 120, .inr (.inl ofw))), (oaz, .inl (gI G, 120, .inl ofz)), (oan, .inl (gI G, 120, .inl ofv))] H := hP
  have hD : va_D A [(rd, .inr (2, [.ref hk, .int (kf_b ob), .int (-1)])), (hk, .inr (1, [.ref aw, .ref az, .ref an, .int (nI onn)])), (aw, .inl (gJ G, 120, .inr (.inl (kf_cp ofw fw onn)))), (az, .inl (gI G, 120, .inl (kf_cp ofz fz onn))), (an, .inl (gI G, 120, .inl (kf_cp ofv fv onn))), (ohk, .inr (1, [.ref oaw, .ref oaz, .ref oan, .int (nI onn)])), (oaw, .inl (gJ G, 120, .inr (.inl ofw))), (oaz, .inl (gI G, 120, .inl ofz)), (oan, .inl (gI G, 120, .inl ofv))] := hD
  refine lv_aload_n hx hb dX2_begin_13 rfl (lv_at hl 0 rfl) ?_
  refine lv_iconst (v := 1) hx hb dX2_begin_14 (by decide) ?_
  refine va_put (D := G.1) (ci := 2) (v := .int 1) (ty := .boolean) (C := RX2) (T := TX2) (N := 3) hx hb hts hinX2 tyX2 tyX2_ok nmX2 hown hK.1 hP hD hS 0 rfl rfl 1 (by decide) (hts (.fieldLink RX2 18 "ForkStore$Reader" "isOpen" "Z") (by decide +kernel)) (fun _ h9 => h9) rfl (by decide +kernel) rfl rfl (Nat.le_of_ble_eq_true rfl) dX2_begin_15 (fun H locs hP hD hS => ?_)
  have hP : va_P G.1 vwCl [(rd, .inr (2, [.ref hk, .int 1, .int (-1)])), (hk, .inr (1, [.ref aw, .ref az, .ref an, .int (nI onn)])), (aw, .inl (gJ G, 120, .inr (.inl (kf_cp ofw fw onn)))), (az, .inl (gI G, 120, .inl (kf_cp ofz fz onn))), (an, .inl (gI G, 120, .inl (kf_cp ofv fv onn))), (ohk, .inr (1, [.ref oaw, .ref oaz, .ref oan, .int (nI onn)])), (oaw, .inl (gJ G, 120, .inr (.inl ofw))), (oaz, .inl (gI G, 120, .inl ofz)), (oan, .inl (gI G, 120, .inl ofv))] H := hP
  have hD : va_D A [(rd, .inr (2, [.ref hk, .int 1, .int (-1)])), (hk, .inr (1, [.ref aw, .ref az, .ref an, .int (nI onn)])), (aw, .inl (gJ G, 120, .inr (.inl (kf_cp ofw fw onn)))), (az, .inl (gI G, 120, .inl (kf_cp ofz fz onn))), (an, .inl (gI G, 120, .inl (kf_cp ofv fv onn))), (ohk, .inr (1, [.ref oaw, .ref oaz, .ref oan, .int (nI onn)])), (oaw, .inl (gJ G, 120, .inr (.inl ofw))), (oaz, .inl (gI G, 120, .inl ofz)), (oan, .inl (gI G, 120, .inl ofv))] := hD
  exact W.vret hx hb hr (fun t ht hW => ⟨⟨([(rd, .inr (2, [.ref hk, .int 1, .int (-1)])), (hk, .inr (1, [.ref aw, .ref az, .ref an, .int (nI onn)])), (aw, .inl (gJ G, 120, .inr (.inl (kf_cp ofw fw onn)))), (az, .inl (gI G, 120, .inl (kf_cp ofz fz onn))), (an, .inl (gI G, 120, .inl (kf_cp ofv fv onn))), (ohk, .inr (1, [.ref oaw, .ref oaz, .ref oan, .int (nI onn)])), (oaw, .inl (gJ G, 120, .inr (.inl ofw))), (oaz, .inl (gI G, 120, .inl ofz)), (oan, .inl (gI G, 120, .inl ofv))] : va_W), rfl, rfl, by rw [← ht] at hP; exact hP⟩, hS.F ht⟩) hS.2.2 dX2_begin_18

set_option maxHeartbeats 4000000 in
set_option maxRecDepth 100000 in
theorem c_X2_end (l : Launch) (G : kz_G) (rd : Nat) (ob : Bool) (pt : Nat) (hk aw az an nn : Nat) (fw : Nat → Int64) (fz fv : Nat → Int32) (sz : Nat) : Met l yX2_end wsX2_end { frames := 0, cells := 0, slots := 0, locals := 0 } (kz_Pm G [.ref rd] [(rd, .inr (2, [.ref hk, .int (kf_b ob), .int (kf_p pt)])), (hk, .inr (1, [.ref aw, .ref az, .ref an, .int (nI nn)])), (aw, .inl (gJ G, 120, .inr (.inl fw))), (az, .inl (gI G, 120, .inl fz)), (an, .inl (gI G, 120, .inl fv))] sz) (kz_Qv G (fun w => w = [(rd, .inr (2, [.ref hk, .int (kf_b false), .int (kf_p pt)])), (hk, .inr (1, [.ref aw, .ref az, .ref an, .int (nI nn)])), (aw, .inl (gJ G, 120, .inr (.inl fw))), (az, .inl (gI G, 120, .inl fz)), (an, .inl (gI G, 120, .inl fv))]) (va_A [(rd, .inr (2, [.ref hk, .int (kf_b ob), .int (kf_p pt)])), (hk, .inr (1, [.ref aw, .ref az, .ref an, .int (nI nn)])), (aw, .inl (gJ G, 120, .inr (.inl fw))), (az, .inl (gI G, 120, .inl fz)), (an, .inl (gI G, 120, .inl fv))] sz)) 0 0 (va_A [(rd, .inr (2, [.ref hk, .int (kf_b ob), .int (kf_p pt)])), (hk, .inr (1, [.ref aw, .ref az, .ref an, .int (nI nn)])), (aw, .inl (gJ G, 120, .inr (.inl fw))), (az, .inl (gI G, 120, .inl fz)), (an, .inl (gI G, 120, .inl fv))] sz) := by
  refine Met.ofW (cc := cX2_end) (maxL := 1) (ret := none) (by decide) rfl ?_
  intro p e s m args below meth c s₁ B hml hv
  obtain ⟨rfl, hsz, hP, hK, hD0⟩ := hv
  have hx := B.exec
  have hb := B.bytes
  have hr := B.returns
  have hts := atoms_spec (ws := wsX2_end) B.pre
  have hown : s.vm.findClass RX2 = some m.cls := findClass_of_methodNamed B.named
  have hlocks := B.notSynchronized
  have hinX2 : ∀ w ∈ wsX20, w ∈ wsX2_end := by decide +kernel
  subst hsz
  have hD := hD0.self (sz := s.heap.size)
  generalize hAe : va_A [(rd, .inr (2, [.ref hk, .int (kf_b ob), .int (kf_p pt)])), (hk, .inr (1, [.ref aw, .ref az, .ref an, .int (nI nn)])), (aw, .inl (gJ G, 120, .inr (.inl fw))), (az, .inl (gI G, 120, .inl fz)), (an, .inl (gI G, 120, .inl fv))] s.heap.size = A at hD ⊢
  have hA : ∀ q : Nat, s.heap.size ≤ q → A q := fun q h => by rw [← hAe]; exact Or.inr h
  have hS : va_S A s.heap s.heap [] := va_S.rf
  have hP : va_P G.1 vwCl [(rd, .inr (2, [.ref hk, .int (kf_b ob), .int (kf_p pt)])), (hk, .inr (1, [.ref aw, .ref az, .ref an, .int (nI nn)])), (aw, .inl (gJ G, 120, .inr (.inl fw))), (az, .inl (gI G, 120, .inl fz)), (an, .inl (gI G, 120, .inl fv))] s.heap := hP
  have hl := lv_entry ([.ref rd]) (n := 1) (Nat.le_of_ble_eq_true rfl)
  rw [lg_entry_eq]
  generalize (lg_sl ([.ref rd]) ++ List.replicate (1 - (lg_sl ([.ref rd])).length) Slot.unset).toArray = ls at hl ⊢
  have hl : lv_has ls 1 [(0, .ref rd)] := hl
  refine lv_aload_n hx hb dX2_end_0 rfl (lv_at hl 0 rfl) ?_
  refine lv_iconst (v := 0) hx hb dX2_end_1 (by decide) ?_
  refine va_put (D := G.1) (ci := 2) (v := .int 0) (ty := .boolean) (C := RX2) (T := TX2) (N := 3) hx hb hts hinX2 tyX2 tyX2_ok nmX2 hown hK.1 hP hD hS 0 rfl rfl 1 (by decide) (hts (.fieldLink RX2 18 "ForkStore$Reader" "isOpen" "Z") (by decide +kernel)) (fun _ h9 => h9) rfl (by decide +kernel) rfl rfl (Nat.le_of_ble_eq_true rfl) dX2_end_2 (fun H locs hP hD hS => ?_)
  have hP : va_P G.1 vwCl [(rd, .inr (2, [.ref hk, .int 0, .int (kf_p pt)])), (hk, .inr (1, [.ref aw, .ref az, .ref an, .int (nI nn)])), (aw, .inl (gJ G, 120, .inr (.inl fw))), (az, .inl (gI G, 120, .inl fz)), (an, .inl (gI G, 120, .inl fv))] H := hP
  have hD : va_D A [(rd, .inr (2, [.ref hk, .int 0, .int (kf_p pt)])), (hk, .inr (1, [.ref aw, .ref az, .ref an, .int (nI nn)])), (aw, .inl (gJ G, 120, .inr (.inl fw))), (az, .inl (gI G, 120, .inl fz)), (an, .inl (gI G, 120, .inl fv))] := hD
  exact W.vret hx hb hr (fun t ht hW => ⟨⟨([(rd, .inr (2, [.ref hk, .int 0, .int (kf_p pt)])), (hk, .inr (1, [.ref aw, .ref az, .ref an, .int (nI nn)])), (aw, .inl (gJ G, 120, .inr (.inl fw))), (az, .inl (gI G, 120, .inl fz)), (an, .inl (gI G, 120, .inl fv))] : va_W), rfl, rfl, by rw [← ht] at hP; exact hP⟩, hS.F ht⟩) hS.2.2 dX2_end_5

theorem kf_ltc {k nn : Nat} (h : k ≤ nn) (hn : nn ≤ 120) : (if 0 ≤ kf_p (k + 1) ∧ kf_p (k + 1) < nI nn then (1 : Int32) else 0) = if k < nn then 1 else 0 := by
  rw [kf_p_ib (by omega) hn]
  by_cases h2 : k < nn
  · rw [if_pos h2, if_pos ⟨by omega, by omega⟩]
  · rw [if_neg h2, if_neg (by omega)]

set_option maxHeartbeats 4000000 in
set_option maxRecDepth 100000 in
theorem c_X2_goToOrBehind (l : Launch) (G : kz_G) (rd : Nat) (ob : Bool) (pt : Nat) (hk aw az an nn : Nat) (fw : Nat → Int64) (zs : Nat → Nat) (fv : Nat → Int32) (ww : Int64) (zz : Nat) (sz : Nat) (hn : nn ≤ 120) (hz : ∀ j, zs j ≤ 8) (hzz : zz ≤ 8) : Met l yX2_goToOrBehind wsX2_goToOrBehind { frames := 3, cells := 0, slots := 0, locals := 71 } (kz_Pm G [.ref rd, .long ww, .int (nI zz)] [(rd, .inr (2, [.ref hk, .int (kf_b ob), .int (kf_p pt)])), (hk, .inr (1, [.ref aw, .ref az, .ref an, .int (nI nn)])), (aw, .inl (gJ G, 120, .inr (.inl fw))), (az, .inl (gI G, 120, .inl (kz_z zs))), (an, .inl (gI G, 120, .inl fv))] sz) (kz_Qi G (fun r w => r = (if kf_cb fw zs ww zz nn < nn then 1 else 0) ∧ w = [(rd, .inr (2, [.ref hk, .int (kf_b ob), .int (kf_p (kf_cb fw zs ww zz nn + 1))])), (hk, .inr (1, [.ref aw, .ref az, .ref an, .int (nI nn)])), (aw, .inl (gJ G, 120, .inr (.inl fw))), (az, .inl (gI G, 120, .inl (kz_z zs))), (an, .inl (gI G, 120, .inl fv))]) (va_A [(rd, .inr (2, [.ref hk, .int (kf_b ob), .int (kf_p pt)])), (hk, .inr (1, [.ref aw, .ref az, .ref an, .int (nI nn)])), (aw, .inl (gJ G, 120, .inr (.inl fw))), (az, .inl (gI G, 120, .inl (kz_z zs))), (an, .inl (gI G, 120, .inl fv))] sz)) 0 0 (va_A [(rd, .inr (2, [.ref hk, .int (kf_b ob), .int (kf_p pt)])), (hk, .inr (1, [.ref aw, .ref az, .ref an, .int (nI nn)])), (aw, .inl (gJ G, 120, .inr (.inl fw))), (az, .inl (gI G, 120, .inl (kz_z zs))), (an, .inl (gI G, 120, .inl fv))] sz) := by
  refine Met.ofW (cc := cX2_goToOrBehind) (maxL := 4) (ret := (some .boolean)) (by decide) rfl ?_
  intro p e s m args below meth c s₁ B hml hv
  obtain ⟨rfl, hsz, hP, hK, hD0⟩ := hv
  have hx := B.exec
  have hb := B.bytes
  have hr := B.returns
  have hts := atoms_spec (ws := wsX2_goToOrBehind) B.pre
  have hown : s.vm.findClass RX2 = some m.cls := findClass_of_methodNamed B.named
  have hlocks := B.notSynchronized
  have hinX2 : ∀ w ∈ wsX20, w ∈ wsX2_goToOrBehind := by decide +kernel
  subst hsz
  have hD := hD0.self (sz := s.heap.size)
  generalize hAe : va_A [(rd, .inr (2, [.ref hk, .int (kf_b ob), .int (kf_p pt)])), (hk, .inr (1, [.ref aw, .ref az, .ref an, .int (nI nn)])), (aw, .inl (gJ G, 120, .inr (.inl fw))), (az, .inl (gI G, 120, .inl (kz_z zs))), (an, .inl (gI G, 120, .inl fv))] s.heap.size = A at hD ⊢
  have hA : ∀ q : Nat, s.heap.size ≤ q → A q := fun q h => by rw [← hAe]; exact Or.inr h
  have hS : va_S A s.heap s.heap [] := va_S.rf
  have hP : va_P G.1 vwCl [(rd, .inr (2, [.ref hk, .int (kf_b ob), .int (kf_p pt)])), (hk, .inr (1, [.ref aw, .ref az, .ref an, .int (nI nn)])), (aw, .inl (gJ G, 120, .inr (.inl fw))), (az, .inl (gI G, 120, .inl (kz_z zs))), (an, .inl (gI G, 120, .inl fv))] s.heap := hP
  have hl := lv_entry ([.ref rd, .long ww, .int (nI zz)]) (n := 4) (Nat.le_of_ble_eq_true rfl)
  rw [lg_entry_eq]
  generalize (lg_sl ([.ref rd, .long ww, .int (nI zz)]) ++ List.replicate (4 - (lg_sl ([.ref rd, .long ww, .int (nI zz)])).length) Slot.unset).toArray = ls at hl ⊢
  have hl : lv_has ls 4 [(0, .ref rd), (1, .long ww), (3, .int (nI zz))] := hl
  refine lv_aload_n hx hb dX2_goToOrBehind_0 rfl (lv_at hl 0 rfl) ?_
  refine lv_aload_n hx hb dX2_goToOrBehind_1 rfl (lv_at hl 0 rfl) ?_
  refine va_get (D := G.1) (ci := 2) (v := .ref hk) (C := RX2) (T := TX2) (N := 3) hx hb hts hinX2 hown hK.1 hP 0 rfl rfl 0 (by decide) (hts (.fieldLink RX2 12 "ForkStore$Reader" "seen" "LForkStore$Keys;") (by decide +kernel)) (fun _ h9 => h9) rfl dX2_goToOrBehind_2 ?_
  refine lv_lload_n hx hb dX2_goToOrBehind_5 rfl (lv_at hl 1 rfl) ?_
  refine lv_iload_n hx hb dX2_goToOrBehind_6 rfl (lv_at hl 2 rfl) ?_
  have hPc := hP.sub (ws' := [(hk, .inr (1, [.ref aw, .ref az, .ref an, .int (nI nn)])), (aw, .inl (gJ G, 120, .inr (.inl fw))), (az, .inl (gI G, 120, .inl (kz_z zs))), (an, .inl (gI G, 120, .inl fv))]) [1, 2, 3, 4] rfl
  refine kz_ci (v := nI (kf_cb fw zs ww zz nn)) (va_runV (As := [.long ww, .int (nI zz)]) (rest := [.ref rd]) ⟨hx, hb, hml, hown, hts⟩ (c_X1_countBefore l G hk aw az an nn fw zs fv ww zz (by omega) hz (by omega)) (cwV 2 hts gX2_goToOrBehind_X1_countBefore rfl rfl rfl (by decide +kernel) ⟨Nat.le_of_ble_eq_true rfl, Nat.le_of_ble_eq_true rfl⟩) (kz_pv hK hPc (va_recv hK.1 hPc (ci := 1) (q0 := 0) rfl rfl)) rfl rfl hl.1 rfl (lv_room (Nat.le_of_ble_eq_true rfl)) dX2_goToOrBehind_7 ⟨Nat.zero_le _, Nat.zero_le _⟩).run ?_
  refine kz_asi (y := kf_p (kf_cb fw zs ww zz nn + 1)) ((kf_p_s _).symm) ?_
  refine va_put (D := G.1) (ci := 2) (v := .int (kf_p (kf_cb fw zs ww zz nn + 1))) (ty := .int) (C := RX2) (T := TX2) (N := 3) hx hb hts hinX2 tyX2 tyX2_ok nmX2 hown hK.1 hP hD hS 0 rfl rfl 2 (by decide) (hts (.fieldLink RX2 22 "ForkStore$Reader" "place" "I") (by decide +kernel)) (fun _ h9 => h9) rfl (by decide +kernel) rfl rfl (Nat.le_of_ble_eq_true rfl) dX2_goToOrBehind_10 (fun H locs hP hD hS => ?_)
  have hP : va_P G.1 vwCl [(rd, .inr (2, [.ref hk, .int (kf_b ob), .int (kf_p (kf_cb fw zs ww zz nn + 1))])), (hk, .inr (1, [.ref aw, .ref az, .ref an, .int (nI nn)])), (aw, .inl (gJ G, 120, .inr (.inl fw))), (az, .inl (gI G, 120, .inl (kz_z zs))), (an, .inl (gI G, 120, .inl fv))] H := hP
  have hD : va_D A [(rd, .inr (2, [.ref hk, .int (kf_b ob), .int (kf_p (kf_cb fw zs ww zz nn + 1))])), (hk, .inr (1, [.ref aw, .ref az, .ref an, .int (nI nn)])), (aw, .inl (gJ G, 120, .inr (.inl fw))), (az, .inl (gI G, 120, .inl (kz_z zs))), (an, .inl (gI G, 120, .inl fv))] := hD
  refine lv_aload_n hx hb dX2_goToOrBehind_13 rfl (lv_at hl 0 rfl) ?_
  refine va_get (D := G.1) (ci := 2) (v := .ref hk) (C := RX2) (T := TX2) (N := 3) hx hb hts hinX2 hown hK.1 hP 0 rfl rfl 0 (by decide) (hts (.fieldLink RX2 12 "ForkStore$Reader" "seen" "LForkStore$Keys;") (by decide +kernel)) (fun _ h9 => h9) rfl dX2_goToOrBehind_14 ?_
  refine lv_aload_n hx hb dX2_goToOrBehind_17 rfl (lv_at hl 0 rfl) ?_
  refine va_get (D := G.1) (ci := 2) (v := .int (kf_p (kf_cb fw zs ww zz nn + 1))) (C := RX2) (T := TX2) (N := 3) hx hb hts hinX2 hown hK.1 hP 0 rfl rfl 2 (by decide) (hts (.fieldLink RX2 22 "ForkStore$Reader" "place" "I") (by decide +kernel)) (fun _ h9 => h9) rfl dX2_goToOrBehind_18 ?_
  have hPc := hP.sub (ws' := [(hk, .inr (1, [.ref aw, .ref az, .ref an, .int (nI nn)])), (aw, .inl (gJ G, 120, .inr (.inl fw))), (az, .inl (gI G, 120, .inl (kz_z zs))), (an, .inl (gI G, 120, .inl fv))]) [1, 2, 3, 4] rfl
  refine kz_ci (v := if 0 ≤ kf_p (kf_cb fw zs ww zz nn + 1) ∧ kf_p (kf_cb fw zs ww zz nn + 1) < nI nn then 1 else 0) (va_runV (As := [.int (kf_p (kf_cb fw zs ww zz nn + 1))]) (rest := []) ⟨hx, hb, hml, hown, hts⟩ (c_X1_isPlace l G hk aw az an nn fw (kz_z zs) fv (kf_p (kf_cb fw zs ww zz nn + 1)) ) (cwV 1 hts gX2_goToOrBehind_X1_isPlace rfl rfl rfl (by decide +kernel) ⟨Nat.le_of_ble_eq_true rfl, Nat.le_of_ble_eq_true rfl⟩) (kz_pv hK hPc (va_recv hK.1 hPc (ci := 1) (q0 := 0) rfl rfl)) rfl rfl hl.1 rfl (lv_room (Nat.le_of_ble_eq_true rfl)) dX2_goToOrBehind_21 ⟨Nat.zero_le _, Nat.zero_le _⟩).run ?_
  refine kz_asi (y := if kf_cb fw zs ww zz nn < nn then 1 else 0) (kf_ltc (kf_cb_le _ _ _ _ _) hn) ?_
  exact W.zret (v := if kf_cb fw zs ww zz nn < nn then 1 else 0) hx hb hr (by split <;> rfl) (fun t ht hW => ⟨⟨_, ([(rd, .inr (2, [.ref hk, .int (kf_b ob), .int (kf_p (kf_cb fw zs ww zz nn + 1))])), (hk, .inr (1, [.ref aw, .ref az, .ref an, .int (nI nn)])), (aw, .inl (gJ G, 120, .inr (.inl fw))), (az, .inl (gI G, 120, .inl (kz_z zs))), (an, .inl (gI G, 120, .inl fv))] : va_W), rfl, ⟨rfl, rfl⟩, by rw [← ht] at hP; exact hP⟩, hS.F ht⟩) hS.2.2 dX2_goToOrBehind_24

set_option maxHeartbeats 4000000 in
set_option maxRecDepth 100000 in
theorem c_X2_goOn (l : Launch) (G : kz_G) (rd : Nat) (ob : Bool) (pt : Nat) (hk aw az an nn : Nat) (fw : Nat → Int64) (fz fv : Nat → Int32) (sz : Nat) (hpt : pt ≤ 100000) (hn : nn ≤ 120) : Met l yX2_goOn wsX2_goOn { frames := 1, cells := 0, slots := 0, locals := 21 } (kz_Pm G [.ref rd] [(rd, .inr (2, [.ref hk, .int (kf_b ob), .int (kf_p pt)])), (hk, .inr (1, [.ref aw, .ref az, .ref an, .int (nI nn)])), (aw, .inl (gJ G, 120, .inr (.inl fw))), (az, .inl (gI G, 120, .inl fz)), (an, .inl (gI G, 120, .inl fv))] sz) (kz_Qi G (fun r w => r = (if min pt nn < nn then 1 else 0) ∧ w = [(rd, .inr (2, [.ref hk, .int (kf_b ob), .int (kf_p (min pt nn + 1))])), (hk, .inr (1, [.ref aw, .ref az, .ref an, .int (nI nn)])), (aw, .inl (gJ G, 120, .inr (.inl fw))), (az, .inl (gI G, 120, .inl fz)), (an, .inl (gI G, 120, .inl fv))]) (va_A [(rd, .inr (2, [.ref hk, .int (kf_b ob), .int (kf_p pt)])), (hk, .inr (1, [.ref aw, .ref az, .ref an, .int (nI nn)])), (aw, .inl (gJ G, 120, .inr (.inl fw))), (az, .inl (gI G, 120, .inl fz)), (an, .inl (gI G, 120, .inl fv))] sz)) 0 0 (va_A [(rd, .inr (2, [.ref hk, .int (kf_b ob), .int (kf_p pt)])), (hk, .inr (1, [.ref aw, .ref az, .ref an, .int (nI nn)])), (aw, .inl (gJ G, 120, .inr (.inl fw))), (az, .inl (gI G, 120, .inl fz)), (an, .inl (gI G, 120, .inl fv))] sz) := by
  refine Met.ofW (cc := cX2_goOn) (maxL := 1) (ret := (some .boolean)) (by decide) rfl ?_
  intro p e s m args below meth c s₁ B hml hv
  obtain ⟨rfl, hsz, hP, hK, hD0⟩ := hv
  have hx := B.exec
  have hb := B.bytes
  have hr := B.returns
  have hts := atoms_spec (ws := wsX2_goOn) B.pre
  have hown : s.vm.findClass RX2 = some m.cls := findClass_of_methodNamed B.named
  have hlocks := B.notSynchronized
  have hinX2 : ∀ w ∈ wsX20, w ∈ wsX2_goOn := by decide +kernel
  subst hsz
  have hD := hD0.self (sz := s.heap.size)
  generalize hAe : va_A [(rd, .inr (2, [.ref hk, .int (kf_b ob), .int (kf_p pt)])), (hk, .inr (1, [.ref aw, .ref az, .ref an, .int (nI nn)])), (aw, .inl (gJ G, 120, .inr (.inl fw))), (az, .inl (gI G, 120, .inl fz)), (an, .inl (gI G, 120, .inl fv))] s.heap.size = A at hD ⊢
  have hA : ∀ q : Nat, s.heap.size ≤ q → A q := fun q h => by rw [← hAe]; exact Or.inr h
  have hS : va_S A s.heap s.heap [] := va_S.rf
  have hP : va_P G.1 vwCl [(rd, .inr (2, [.ref hk, .int (kf_b ob), .int (kf_p pt)])), (hk, .inr (1, [.ref aw, .ref az, .ref an, .int (nI nn)])), (aw, .inl (gJ G, 120, .inr (.inl fw))), (az, .inl (gI G, 120, .inl fz)), (an, .inl (gI G, 120, .inl fv))] s.heap := hP
  have hl := lv_entry ([.ref rd]) (n := 1) (Nat.le_of_ble_eq_true rfl)
  rw [lg_entry_eq]
  generalize (lg_sl ([.ref rd]) ++ List.replicate (1 - (lg_sl ([.ref rd])).length) Slot.unset).toArray = ls at hl ⊢
  have hl : lv_has ls 1 [(0, .ref rd)] := hl
  refine lv_aload_n hx hb dX2_goOn_0 rfl (lv_at hl 0 rfl) ?_
  refine lv_aload_n hx hb dX2_goOn_1 rfl (lv_at hl 0 rfl) ?_
  refine va_get (D := G.1) (ci := 2) (v := .int (kf_p pt)) (C := RX2) (T := TX2) (N := 3) hx hb hts hinX2 hown hK.1 hP 0 rfl rfl 2 (by decide) (hts (.fieldLink RX2 22 "ForkStore$Reader" "place" "I") (by decide +kernel)) (fun _ h9 => h9) rfl dX2_goOn_2 ?_
  refine lv_iconst (v := 1) hx hb dX2_goOn_5 (by decide) ?_
  refine lv_iadd hx hb dX2_goOn_6 ?_
  refine kz_asi (y := nI pt) (kf_p_1 pt) ?_
  refine lv_aload_n hx hb dX2_goOn_7 rfl (lv_at hl 0 rfl) ?_
  refine va_get (D := G.1) (ci := 2) (v := .ref hk) (C := RX2) (T := TX2) (N := 3) hx hb hts hinX2 hown hK.1 hP 0 rfl rfl 0 (by decide) (hts (.fieldLink RX2 12 "ForkStore$Reader" "seen" "LForkStore$Keys;") (by decide +kernel)) (fun _ h9 => h9) rfl dX2_goOn_8 ?_
  have hPc := hP.sub (ws' := [(hk, .inr (1, [.ref aw, .ref az, .ref an, .int (nI nn)])), (aw, .inl (gJ G, 120, .inr (.inl fw))), (az, .inl (gI G, 120, .inl fz)), (an, .inl (gI G, 120, .inl fv))]) [1, 2, 3, 4] rfl
  refine kz_ci (v := nI nn) (va_runV (As := []) (rest := [.int (nI pt), .ref rd]) ⟨hx, hb, hml, hown, hts⟩ (c_X1_count l G hk aw az an nn fw fz fv  ) (cwV 0 hts gX2_goOn_X1_count rfl rfl rfl (by decide +kernel) ⟨Nat.le_of_ble_eq_true rfl, Nat.le_of_ble_eq_true rfl⟩) (kz_pv hK hPc (va_recv hK.1 hPc (ci := 1) (q0 := 0) rfl rfl)) rfl rfl hl.1 rfl (lv_room (Nat.le_of_ble_eq_true rfl)) dX2_goOn_11 ⟨Nat.zero_le _, Nat.zero_le _⟩).run ?_
  refine va_mmin hx hb (by rw [hml]; exact hl.1.symm) hown (hts (.methodLink RX2 42 Lib.Math.min.name) (by decide +kernel)) (hts (.static Lib.Math.min.name) (by decide +kernel)) (hts (.initialized "java/lang/Math") (by decide +kernel)) (hts (.code Lib.Math.min.name Lib.Math.min.code 2 (some .int)) (by decide +kernel)) (Nat.le_of_ble_eq_true rfl) (Nat.le_of_ble_eq_true rfl) (Nat.zero_le _) (Nat.zero_le _) dX2_goOn_14 ?_
  refine kz_asi (y := kf_p (min pt nn + 1)) ((kf_min (by omega) (by omega)).trans (kf_p_s _).symm) ?_
  refine va_put (D := G.1) (ci := 2) (v := .int (kf_p (min pt nn + 1))) (ty := .int) (C := RX2) (T := TX2) (N := 3) hx hb hts hinX2 tyX2 tyX2_ok nmX2 hown hK.1 hP hD hS 0 rfl rfl 2 (by decide) (hts (.fieldLink RX2 22 "ForkStore$Reader" "place" "I") (by decide +kernel)) (fun _ h9 => h9) rfl (by decide +kernel) rfl rfl (Nat.le_of_ble_eq_true rfl) dX2_goOn_17 (fun H locs hP hD hS => ?_)
  have hP : va_P G.1 vwCl [(rd, .inr (2, [.ref hk, .int (kf_b ob), .int (kf_p (min pt nn + 1))])), (hk, .inr (1, [.ref aw, .ref az, .ref an, .int (nI nn)])), (aw, .inl (gJ G, 120, .inr (.inl fw))), (az, .inl (gI G, 120, .inl fz)), (an, .inl (gI G, 120, .inl fv))] H := hP
  have hD : va_D A [(rd, .inr (2, [.ref hk, .int (kf_b ob), .int (kf_p (min pt nn + 1))])), (hk, .inr (1, [.ref aw, .ref az, .ref an, .int (nI nn)])), (aw, .inl (gJ G, 120, .inr (.inl fw))), (az, .inl (gI G, 120, .inl fz)), (an, .inl (gI G, 120, .inl fv))] := hD
  refine lv_aload_n hx hb dX2_goOn_20 rfl (lv_at hl 0 rfl) ?_
  refine va_get (D := G.1) (ci := 2) (v := .ref hk) (C := RX2) (T := TX2) (N := 3) hx hb hts hinX2 hown hK.1 hP 0 rfl rfl 0 (by decide) (hts (.fieldLink RX2 12 "ForkStore$Reader" "seen" "LForkStore$Keys;") (by decide +kernel)) (fun _ h9 => h9) rfl dX2_goOn_21 ?_
  refine lv_aload_n hx hb dX2_goOn_24 rfl (lv_at hl 0 rfl) ?_
  refine va_get (D := G.1) (ci := 2) (v := .int (kf_p (min pt nn + 1))) (C := RX2) (T := TX2) (N := 3) hx hb hts hinX2 hown hK.1 hP 0 rfl rfl 2 (by decide) (hts (.fieldLink RX2 22 "ForkStore$Reader" "place" "I") (by decide +kernel)) (fun _ h9 => h9) rfl dX2_goOn_25 ?_
  have hPc := hP.sub (ws' := [(hk, .inr (1, [.ref aw, .ref az, .ref an, .int (nI nn)])), (aw, .inl (gJ G, 120, .inr (.inl fw))), (az, .inl (gI G, 120, .inl fz)), (an, .inl (gI G, 120, .inl fv))]) [1, 2, 3, 4] rfl
  refine kz_ci (v := if 0 ≤ kf_p (min pt nn + 1) ∧ kf_p (min pt nn + 1) < nI nn then 1 else 0) (va_runV (As := [.int (kf_p (min pt nn + 1))]) (rest := []) ⟨hx, hb, hml, hown, hts⟩ (c_X1_isPlace l G hk aw az an nn fw fz fv (kf_p (min pt nn + 1)) ) (cwV 1 hts gX2_goOn_X1_isPlace rfl rfl rfl (by decide +kernel) ⟨Nat.le_of_ble_eq_true rfl, Nat.le_of_ble_eq_true rfl⟩) (kz_pv hK hPc (va_recv hK.1 hPc (ci := 1) (q0 := 0) rfl rfl)) rfl rfl hl.1 rfl (lv_room (Nat.le_of_ble_eq_true rfl)) dX2_goOn_28 ⟨Nat.zero_le _, Nat.zero_le _⟩).run ?_
  refine kz_asi (y := if min pt nn < nn then 1 else 0) (kf_ltc (Nat.min_le_right _ _) hn) ?_
  exact W.zret (v := if min pt nn < nn then 1 else 0) hx hb hr (by split <;> rfl) (fun t ht hW => ⟨⟨_, ([(rd, .inr (2, [.ref hk, .int (kf_b ob), .int (kf_p (min pt nn + 1))])), (hk, .inr (1, [.ref aw, .ref az, .ref an, .int (nI nn)])), (aw, .inl (gJ G, 120, .inr (.inl fw))), (az, .inl (gI G, 120, .inl fz)), (an, .inl (gI G, 120, .inl fv))] : va_W), rfl, ⟨rfl, rfl⟩, by rw [← ht] at hP; exact hP⟩, hS.F ht⟩) hS.2.2 dX2_goOn_31
