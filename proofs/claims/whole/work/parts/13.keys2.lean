/-- the i-th key begins with (b, y) -/
def kf_bw (fw : Nat → Int64) (zs : Nat → Nat) (b : Int64) (y : Nat) : Nat → Bool := fun j => decide (kf_cm (fw j) (zs j) b y = y)
/-- the length of the fork between the i-th key and the next -/
def kf_fk (fw : Nat → Int64) (zs : Nat → Nat) (i : Nat) : Nat := kf_cm (fw i) (zs i) (fw (i + 1)) (zs (i + 1))
theorem kf_cm_le (a : Int64) (z : Nat) (b : Int64) (y : Nat) : kf_cm a z b y ≤ 8 := by
  have := kf_al_le a b
  unfold kf_cm
  omega
theorem kf_fk_le (fw : Nat → Int64) (zs : Nat → Nat) (i : Nat) : kf_fk fw zs i ≤ 8 := kf_cm_le _ _ _ _
/-- the lengths of the forks, among the first i, that (b, y) begins with: a bit each -/
def kf_mk (fw : Nat → Int64) (zs : Nat → Nat) (b : Int64) (y : Nat) : Nat → Nat
  | 0 => 0
  | i + 1 => if kf_fk fw zs i ≤ kf_cm (fw i) (zs i) b y then kf_mk fw zs b y i ||| 2 ^ kf_fk fw zs i else kf_mk fw zs b y i
theorem kf_mk_lt (fw : Nat → Int64) (zs : Nat → Nat) (b : Int64) (y : Nat) : ∀ i, kf_mk fw zs b y i < 512
  | 0 => by show (0 : Nat) < 512; decide
  | i + 1 => by
    have h := kf_mk_lt fw zs b y i
    have h8 := kf_fk_le fw zs i
    unfold kf_mk
    split
    · have : 2 ^ kf_fk fw zs i < 2 ^ 9 := Nat.pow_lt_pow_right (by decide) (by omega)
      exact Nat.or_lt_two_pow (n := 9) h this
    · exact h
theorem kf_sh4 : ∀ f : Fin 9, (1 : Int32) <<< (nI f.val &&& 31) = nI (2 ^ f.val) := by decide +kernel
theorem kf_or (a b : Nat) : nI a ||| nI b = nI (a ||| b) := by
  apply Int32.toBitVec_inj.mp
  show BitVec.ofNat 32 a ||| BitVec.ofNat 32 b = BitVec.ofNat 32 (a ||| b)
  exact BitVec.ofNat_or.symm

set_option maxHeartbeats 4000000 in
set_option maxRecDepth 100000 in
theorem c_X1_countBeginningWith (l : Launch) (G : kz_G) (hk aw az an nn : Nat) (fw : Nat → Int64) (zs : Nat → Nat) (fv : Nat → Int32) (ww : Int64) (zz : Nat) (hn : nn ≤ 120) (hz : ∀ j, zs j ≤ 8) (hzz : zz ≤ 8) : Met l yX1_countBeginningWith wsX1_countBeginningWith { frames := 3, cells := 0, slots := 0, locals := 69 } (kz_Pp G [.ref hk, .long ww, .int (nI zz)] [(hk, .inr (1, [.ref aw, .ref az, .ref an, .int (nI nn)])), (aw, .inl (gJ G, 120, .inr (.inl fw))), (az, .inl (gI G, 120, .inl (kz_z zs))), (an, .inl (gI G, 120, .inl fv))]) (vp_Si (fun r => r = nI (kf_cnt (kf_bw fw zs ww zz) nn))) 0 0 (fun _ => False) := by
  refine Met.ofW (cc := cX1_countBeginningWith) (maxL := 6) (ret := (some .int)) (by decide) rfl ?_
  intro p e s m args below meth c s₁ B hml hv
  obtain ⟨rfl, hP, hK⟩ := hv
  have hx := B.exec
  have hb := B.bytes
  have hr := B.returns
  have hts := atoms_spec (ws := wsX1_countBeginningWith) B.pre
  have hown : s.vm.findClass RX1 = some m.cls := findClass_of_methodNamed B.named
  have hlocks := B.notSynchronized
  have hinX1 : ∀ w ∈ wsX10, w ∈ wsX1_countBeginningWith := by decide +kernel
  have hP : va_P G.1 vwCl [(hk, .inr (1, [.ref aw, .ref az, .ref an, .int (nI nn)])), (aw, .inl (gJ G, 120, .inr (.inl fw))), (az, .inl (gI G, 120, .inl (kz_z zs))), (an, .inl (gI G, 120, .inl fv))] s.heap := hP
  have hl := lv_entry ([.ref hk, .long ww, .int (nI zz)]) (n := 6) (Nat.le_of_ble_eq_true rfl)
  rw [lg_entry_eq]
  generalize (lg_sl ([.ref hk, .long ww, .int (nI zz)]) ++ List.replicate (6 - (lg_sl ([.ref hk, .long ww, .int (nI zz)])).length) Slot.unset).toArray = ls at hl ⊢
  have hl : lv_has ls 6 [(0, .ref hk), (1, .long ww), (3, .int (nI zz))] := hl
  refine lv_iconst (v := 0) hx hb dX1_countBeginningWith_0 (by decide) ?_
  refine lv_istore (lv' := [(4, .int 0), (0, .ref hk), (1, .long ww), (3, .int (nI zz))]) hx hb dX1_countBeginningWith_1 hl (by decide) rfl (fun ls hl => ?_)
  refine lv_iconst (v := 0) hx hb dX1_countBeginningWith_3 (by decide) ?_
  refine lv_istore (lv' := [(5, .int 0), (4, .int 0), (0, .ref hk), (1, .long ww), (3, .int (nI zz))]) hx hb dX1_countBeginningWith_4 hl (by decide) rfl (fun ls hl => ?_)
  refine kz_loop (nL := 6) (hd := 6) (e9 := nn) (i0 := 0) (LV := fun ii => [(4, .int (nI (kf_cnt (kf_bw fw zs ww zz) ii))), (5, .int (nI ii)), (0, .ref hk), (1, .long ww), (3, .int (nI zz))]) (fun ii ls hii hl ih => ?_) (Nat.zero_le _) (lv_sub hl [1, 0, 2, 3, 4] rfl)
  have hl : lv_has ls 6 [(4, .int (nI (kf_cnt (kf_bw fw zs ww zz) ii))), (5, .int (nI ii)), (0, .ref hk), (1, .long ww), (3, .int (nI zz))] := hl
  refine lv_iload hx hb dX1_countBeginningWith_6 (lv_at hl 1 rfl) ?_
  refine lv_aload_n hx hb dX1_countBeginningWith_8 rfl (lv_at hl 2 rfl) ?_
  refine va_get (D := G.1) (ci := 1) (v := .int (nI nn)) (C := RX1) (T := TX1) (N := 4) hx hb hts hinX1 hown hK.1 hP 0 rfl rfl 3 (by decide) (hts (.fieldLink RX1 22 "ForkStore$Keys" "count" "I") (by decide +kernel)) (fun _ h9 => h9) rfl dX1_countBeginningWith_9 ?_
  refine lv_icmp_ge (tgt := 47) hx hb dX1_countBeginningWith_12 (by decide) (fun c_1 => ?_) (fun c_1 => ?_)
  · have kc_1 : nn ≤ ii := (nI_leI (by omega) (by omega)).mp c_1
    refine lv_iload hx hb dX1_countBeginningWith_47 (lv_at hl 0 rfl) ?_
    obtain rfl : ii = nn := by omega
    exact W.iret (v := nI (kf_cnt (kf_bw fw zs ww zz) ii)) hx hb hr (fun t ht hW => ⟨_, rfl, rfl, ht⟩) (fun _ h => nomatch h) dX1_countBeginningWith_49
  · have kc_1 : ii < nn := Nat.lt_of_not_le (fun h => c_1 (nI_le h (by omega)))
    have hzi := hz ii
    refine lv_aload_n hx hb dX1_countBeginningWith_15 rfl (lv_at hl 2 rfl) ?_
    refine va_get (D := G.1) (ci := 1) (v := .ref aw) (C := RX1) (T := TX1) (N := 4) hx hb hts hinX1 hown hK.1 hP 0 rfl rfl 0 (by decide) (hts (.fieldLink RX1 9 "ForkStore$Keys" "words" "[J") (by decide +kernel)) (fun _ h9 => h9) rfl dX1_countBeginningWith_16 ?_
    refine lv_iload hx hb dX1_countBeginningWith_19 (lv_at hl 1 rfl) ?_
    refine kz_lald hx hb hK.1 hP 1 1 rfl rfl (k := ii) (by omega) (by decide) dX1_countBeginningWith_21 ?_
    refine lv_aload_n hx hb dX1_countBeginningWith_22 rfl (lv_at hl 2 rfl) ?_
    refine va_get (D := G.1) (ci := 1) (v := .ref az) (C := RX1) (T := TX1) (N := 4) hx hb hts hinX1 hown hK.1 hP 0 rfl rfl 1 (by decide) (hts (.fieldLink RX1 15 "ForkStore$Keys" "sizes" "[I") (by decide +kernel)) (fun _ h9 => h9) rfl dX1_countBeginningWith_23 ?_
    refine lv_iload hx hb dX1_countBeginningWith_26 (lv_at hl 1 rfl) ?_
    refine kz_iald hx hb hK.1 hP 2 0 rfl rfl (k := ii) (by omega) (by decide) dX1_countBeginningWith_28 ?_
    refine kz_asi (y := nI (zs ii)) rfl ?_
    refine lv_lload_n hx hb dX1_countBeginningWith_29 rfl (lv_at hl 3 rfl) ?_
    refine lv_iload_n hx hb dX1_countBeginningWith_30 rfl (lv_at hl 4 rfl) ?_
    refine kz_ci (v := nI (kf_cm (fw ii) (zs ii) ww zz)) (va_runSN (As := [.long (fw ii), .int (nI (zs ii)), .long ww, .int (nI zz)]) (rest := []) ⟨hx, hb, hml, hown, hts⟩ (c_X3_bytesInCommon l (fw ii) (zs ii) ww zz (by omega) (by omega)) ⟨(va_cnB 4 hts gX1_countBeginningWith_X3_bytesInCommon_n36 rfl rfl rfl hK.2 (hts (.initialized RX3) (by decide +kernel)) (by decide +kernel) ⟨Nat.le_of_ble_eq_true rfl, Nat.le_of_ble_eq_true rfl⟩), hts (.static yX3_bytesInCommon) (by decide +kernel), trivial⟩ kz_ps0 rfl rfl hl.1 rfl (lv_room (Nat.le_of_ble_eq_true rfl)) dX1_countBeginningWith_31 ⟨Nat.zero_le _, Nat.zero_le _⟩).run ?_
    refine lv_iload_n hx hb dX1_countBeginningWith_34 rfl (lv_at hl 4 rfl) ?_
    refine lv_icmp_ne (tgt := 41) hx hb dX1_countBeginningWith_35 (by decide) (fun c_2 => ?_) (fun c_2 => ?_)
    · have hno : ¬ kf_bw fw zs ww zz ii = true := fun h => c_2 (by rw [of_decide_eq_true h])
      refine lv_iinc (v := nI (ii + 1)) (lv' := [(5, .int (nI (ii + 1))), (4, .int (nI (kf_cnt (kf_bw fw zs ww zz) ii))), (0, .ref hk), (1, .long ww), (3, .int (nI zz))]) hx hb dX1_countBeginningWith_41 hl (k := 1) rfl (nI_1 ii) (by decide) rfl (fun ls hl => ?_)
      refine lv_goto (tgt := 6) hx hb dX1_countBeginningWith_44 (by decide) ?_
      exact ih ls (by omega) (by have e9 := kf_cnt_n hno; simp only [e9]; exact lv_sub hl [1, 0, 2, 3, 4] rfl)
    · have hyes : kf_bw fw zs ww zz ii = true := decide_eq_true ((nI_eq (by have := kf_cm_le (fw ii) (zs ii) ww zz; omega) (by omega)).mp c_2)
      refine lv_iinc (v := nI (kf_cnt (kf_bw fw zs ww zz) (ii + 1))) (lv' := [(4, .int (nI (kf_cnt (kf_bw fw zs ww zz) (ii + 1)))), (5, .int (nI ii)), (0, .ref hk), (1, .long ww), (3, .int (nI zz))]) hx hb dX1_countBeginningWith_38 hl (k := 0) rfl (by rw [kf_cnt_y hyes]; exact nI_1 _) (by decide) rfl (fun ls hl => ?_)
      refine lv_iinc (v := nI (ii + 1)) (lv' := [(5, .int (nI (ii + 1))), (4, .int (nI (kf_cnt (kf_bw fw zs ww zz) (ii + 1)))), (0, .ref hk), (1, .long ww), (3, .int (nI zz))]) hx hb dX1_countBeginningWith_41 hl (k := 1) rfl (nI_1 ii) (by decide) rfl (fun ls hl => ?_)
      refine lv_goto (tgt := 6) hx hb dX1_countBeginningWith_44 (by decide) ?_
      exact ih ls (by omega) (lv_sub hl [1, 0, 2, 3, 4] rfl)

set_option maxHeartbeats 4000000 in
set_option maxRecDepth 100000 in
theorem c_X1_forkBehind (l : Launch) (G : kz_G) (hk aw az an nn : Nat) (fw : Nat → Int64) (zs : Nat → Nat) (fv : Nat → Int32) (kk : Nat) (hn : nn ≤ 120) (hz : ∀ j, zs j ≤ 8) (hkk : kk + 1 < nn) : Met l yX1_forkBehind wsX1_forkBehind { frames := 3, cells := 0, slots := 0, locals := 69 } (kz_Pp G [.ref hk, .int (nI kk)] [(hk, .inr (1, [.ref aw, .ref az, .ref an, .int (nI nn)])), (aw, .inl (gJ G, 120, .inr (.inl fw))), (az, .inl (gI G, 120, .inl (kz_z zs))), (an, .inl (gI G, 120, .inl fv))]) (vp_Si (fun r => r = nI (kf_fk fw zs kk))) 0 0 (fun _ => False) := by
  refine Met.ofW (cc := cX1_forkBehind) (maxL := 2) (ret := (some .int)) (by decide) rfl ?_
  intro p e s m args below meth c s₁ B hml hv
  obtain ⟨rfl, hP, hK⟩ := hv
  have hx := B.exec
  have hb := B.bytes
  have hr := B.returns
  have hts := atoms_spec (ws := wsX1_forkBehind) B.pre
  have hown : s.vm.findClass RX1 = some m.cls := findClass_of_methodNamed B.named
  have hlocks := B.notSynchronized
  have hinX1 : ∀ w ∈ wsX10, w ∈ wsX1_forkBehind := by decide +kernel
  have hP : va_P G.1 vwCl [(hk, .inr (1, [.ref aw, .ref az, .ref an, .int (nI nn)])), (aw, .inl (gJ G, 120, .inr (.inl fw))), (az, .inl (gI G, 120, .inl (kz_z zs))), (an, .inl (gI G, 120, .inl fv))] s.heap := hP
  have hl := lv_entry ([.ref hk, .int (nI kk)]) (n := 2) (Nat.le_of_ble_eq_true rfl)
  rw [lg_entry_eq]
  generalize (lg_sl ([.ref hk, .int (nI kk)]) ++ List.replicate (2 - (lg_sl ([.ref hk, .int (nI kk)])).length) Slot.unset).toArray = ls at hl ⊢
  have hl : lv_has ls 2 [(0, .ref hk), (1, .int (nI kk))] := hl
  refine lv_aload_n hx hb dX1_forkBehind_0 rfl (lv_at hl 0 rfl) ?_
  refine lv_iload_n hx hb dX1_forkBehind_1 rfl (lv_at hl 1 rfl) ?_
  have hPc := hP.sub (ws' := [(hk, .inr (1, [.ref aw, .ref az, .ref an, .int (nI nn)])), (aw, .inl (gJ G, 120, .inr (.inl fw))), (az, .inl (gI G, 120, .inl (kz_z zs))), (an, .inl (gI G, 120, .inl fv))]) [0, 1, 2, 3] rfl
  refine kz_ci (v := if 0 ≤ nI kk ∧ nI kk < nI nn then 1 else 0) (va_runV (As := [.int (nI kk)]) (rest := []) ⟨hx, hb, hml, hown, hts⟩ (c_X1_isPlace l G hk aw az an nn fw (kz_z zs) fv (nI kk) ) (cwV 1 hts gX1_forkBehind_X1_isPlace rfl rfl rfl (by decide +kernel) ⟨Nat.le_of_ble_eq_true rfl, Nat.le_of_ble_eq_true rfl⟩) (kz_pv hK hPc (va_recv hK.1 hPc (ci := 1) (q0 := 0) rfl rfl)) rfl rfl hl.1 rfl (lv_room (Nat.le_of_ble_eq_true rfl)) dX1_forkBehind_2 ⟨Nat.zero_le _, Nat.zero_le _⟩).run ?_
  refine lv_if_eq (tgt := 18) hx hb dX1_forkBehind_5 (by decide) (fun c_1 => ?_) (fun c_1 => ?_)
  · exact absurd ((kf_plN (by omega) (by omega)).mpr (by omega)) (kf_if0 c_1)
  · have hz1 := hz kk
    have hz2 := hz (kk + 1)
    refine lv_aload_n hx hb dX1_forkBehind_8 rfl (lv_at hl 0 rfl) ?_
    refine lv_iload_n hx hb dX1_forkBehind_9 rfl (lv_at hl 1 rfl) ?_
    refine lv_iconst (v := 1) hx hb dX1_forkBehind_10 (by decide) ?_
    refine lv_iadd hx hb dX1_forkBehind_11 ?_
    refine kz_asi (y := nI (kk + 1)) (nI_1 kk) ?_
    have hPc := hP.sub (ws' := [(hk, .inr (1, [.ref aw, .ref az, .ref an, .int (nI nn)])), (aw, .inl (gJ G, 120, .inr (.inl fw))), (az, .inl (gI G, 120, .inl (kz_z zs))), (an, .inl (gI G, 120, .inl fv))]) [0, 1, 2, 3] rfl
    refine kz_ci (v := if 0 ≤ nI (kk + 1) ∧ nI (kk + 1) < nI nn then 1 else 0) (va_runV (As := [.int (nI (kk + 1))]) (rest := []) ⟨hx, hb, hml, hown, hts⟩ (c_X1_isPlace l G hk aw az an nn fw (kz_z zs) fv (nI (kk + 1)) ) (cwV 1 hts gX1_forkBehind_X1_isPlace rfl rfl rfl (by decide +kernel) ⟨Nat.le_of_ble_eq_true rfl, Nat.le_of_ble_eq_true rfl⟩) (kz_pv hK hPc (va_recv hK.1 hPc (ci := 1) (q0 := 0) rfl rfl)) rfl rfl hl.1 rfl (lv_room (Nat.le_of_ble_eq_true rfl)) dX1_forkBehind_12 ⟨Nat.zero_le _, Nat.zero_le _⟩).run ?_
    refine lv_if_ne (tgt := 20) hx hb dX1_forkBehind_15 (by decide) (fun c_2 => ?_) (fun c_2 => ?_)
    · refine lv_aload_n hx hb dX1_forkBehind_20 rfl (lv_at hl 0 rfl) ?_
      refine va_get (D := G.1) (ci := 1) (v := .ref aw) (C := RX1) (T := TX1) (N := 4) hx hb hts hinX1 hown hK.1 hP 0 rfl rfl 0 (by decide) (hts (.fieldLink RX1 9 "ForkStore$Keys" "words" "[J") (by decide +kernel)) (fun _ h9 => h9) rfl dX1_forkBehind_21 ?_
      refine lv_iload_n hx hb dX1_forkBehind_24 rfl (lv_at hl 1 rfl) ?_
      refine kz_lald hx hb hK.1 hP 1 1 rfl rfl (k := kk) (by omega) (by decide) dX1_forkBehind_25 ?_
      refine lv_aload_n hx hb dX1_forkBehind_26 rfl (lv_at hl 0 rfl) ?_
      refine va_get (D := G.1) (ci := 1) (v := .ref az) (C := RX1) (T := TX1) (N := 4) hx hb hts hinX1 hown hK.1 hP 0 rfl rfl 1 (by decide) (hts (.fieldLink RX1 15 "ForkStore$Keys" "sizes" "[I") (by decide +kernel)) (fun _ h9 => h9) rfl dX1_forkBehind_27 ?_
      refine lv_iload_n hx hb dX1_forkBehind_30 rfl (lv_at hl 1 rfl) ?_
      refine kz_iald hx hb hK.1 hP 2 0 rfl rfl (k := kk) (by omega) (by decide) dX1_forkBehind_31 ?_
      refine kz_asi (y := nI (zs kk)) rfl ?_
      refine lv_aload_n hx hb dX1_forkBehind_32 rfl (lv_at hl 0 rfl) ?_
      refine va_get (D := G.1) (ci := 1) (v := .ref aw) (C := RX1) (T := TX1) (N := 4) hx hb hts hinX1 hown hK.1 hP 0 rfl rfl 0 (by decide) (hts (.fieldLink RX1 9 "ForkStore$Keys" "words" "[J") (by decide +kernel)) (fun _ h9 => h9) rfl dX1_forkBehind_33 ?_
      refine lv_iload_n hx hb dX1_forkBehind_36 rfl (lv_at hl 1 rfl) ?_
      refine lv_iconst (v := 1) hx hb dX1_forkBehind_37 (by decide) ?_
      refine lv_iadd hx hb dX1_forkBehind_38 ?_
      refine kz_asi (y := nI (kk + 1)) (nI_1 kk) ?_
      refine kz_lald hx hb hK.1 hP 1 1 rfl rfl (k := (kk + 1)) (by omega) (by decide) dX1_forkBehind_39 ?_
      refine lv_aload_n hx hb dX1_forkBehind_40 rfl (lv_at hl 0 rfl) ?_
      refine va_get (D := G.1) (ci := 1) (v := .ref az) (C := RX1) (T := TX1) (N := 4) hx hb hts hinX1 hown hK.1 hP 0 rfl rfl 1 (by decide) (hts (.fieldLink RX1 15 "ForkStore$Keys" "sizes" "[I") (by decide +kernel)) (fun _ h9 => h9) rfl dX1_forkBehind_41 ?_
      refine lv_iload_n hx hb dX1_forkBehind_44 rfl (lv_at hl 1 rfl) ?_
      refine lv_iconst (v := 1) hx hb dX1_forkBehind_45 (by decide) ?_
      refine lv_iadd hx hb dX1_forkBehind_46 ?_
      refine kz_asi (y := nI (kk + 1)) (nI_1 kk) ?_
      refine kz_iald hx hb hK.1 hP 2 0 rfl rfl (k := (kk + 1)) (by omega) (by decide) dX1_forkBehind_47 ?_
      refine kz_asi (y := nI (zs (kk + 1))) rfl ?_
      refine kz_ci (v := nI (kf_cm (fw kk) (zs kk) (fw (kk + 1)) (zs (kk + 1)))) (va_runSN (As := [.long (fw kk), .int (nI (zs kk)), .long (fw (kk + 1)), .int (nI (zs (kk + 1)))]) (rest := []) ⟨hx, hb, hml, hown, hts⟩ (c_X3_bytesInCommon l (fw kk) (zs kk) (fw (kk + 1)) (zs (kk + 1)) (by omega) (by omega)) ⟨(va_cnB 4 hts gX1_forkBehind_X3_bytesInCommon_n36 rfl rfl rfl hK.2 (hts (.initialized RX3) (by decide +kernel)) (by decide +kernel) ⟨Nat.le_of_ble_eq_true rfl, Nat.le_of_ble_eq_true rfl⟩), hts (.static yX3_bytesInCommon) (by decide +kernel), trivial⟩ kz_ps0 rfl rfl hl.1 rfl (lv_room (Nat.le_of_ble_eq_true rfl)) dX1_forkBehind_48 ⟨Nat.zero_le _, Nat.zero_le _⟩).run ?_
      exact W.iret (v := nI (kf_cm (fw kk) (zs kk) (fw (kk + 1)) (zs (kk + 1)))) hx hb hr (fun t ht hW => ⟨_, rfl, rfl, ht⟩) (fun _ h => nomatch h) dX1_forkBehind_51
    · exact absurd ((kf_plN (by omega) (by omega)).mpr (by omega)) (kf_if0 c_2)

set_option maxHeartbeats 4000000 in
set_option maxRecDepth 100000 in
theorem c_X1_countForksOnTheWayTo (l : Launch) (G : kz_G) (hk aw az an nn : Nat) (fw : Nat → Int64) (zs : Nat → Nat) (fv : Nat → Int32) (ww : Int64) (zz : Nat) (hn : nn ≤ 120) (hz : ∀ j, zs j ≤ 8) (hzz : zz ≤ 8) : Met l yX1_countForksOnTheWayTo wsX1_countForksOnTheWayTo { frames := 4, cells := 0, slots := 0, locals := 90 } (kz_Pp G [.ref hk, .long ww, .int (nI zz)] [(hk, .inr (1, [.ref aw, .ref az, .ref an, .int (nI nn)])), (aw, .inl (gJ G, 120, .inr (.inl fw))), (az, .inl (gI G, 120, .inl (kz_z zs))), (an, .inl (gI G, 120, .inl fv))]) (vp_Si (fun r => r = nI (kf_pop (kf_mk fw zs ww zz (nn - 1))))) 0 0 (fun _ => False) := by
  refine Met.ofW (cc := cX1_countForksOnTheWayTo) (maxL := 7) (ret := (some .int)) (by decide) rfl ?_
  intro p e s m args below meth c s₁ B hml hv
  obtain ⟨rfl, hP, hK⟩ := hv
  have hx := B.exec
  have hb := B.bytes
  have hr := B.returns
  have hts := atoms_spec (ws := wsX1_countForksOnTheWayTo) B.pre
  have hown : s.vm.findClass RX1 = some m.cls := findClass_of_methodNamed B.named
  have hlocks := B.notSynchronized
  have hinX1 : ∀ w ∈ wsX10, w ∈ wsX1_countForksOnTheWayTo := by decide +kernel
  have hP : va_P G.1 vwCl [(hk, .inr (1, [.ref aw, .ref az, .ref an, .int (nI nn)])), (aw, .inl (gJ G, 120, .inr (.inl fw))), (az, .inl (gI G, 120, .inl (kz_z zs))), (an, .inl (gI G, 120, .inl fv))] s.heap := hP
  have hl := lv_entry ([.ref hk, .long ww, .int (nI zz)]) (n := 7) (Nat.le_of_ble_eq_true rfl)
  rw [lg_entry_eq]
  generalize (lg_sl ([.ref hk, .long ww, .int (nI zz)]) ++ List.replicate (7 - (lg_sl ([.ref hk, .long ww, .int (nI zz)])).length) Slot.unset).toArray = ls at hl ⊢
  have hl : lv_has ls 7 [(0, .ref hk), (1, .long ww), (3, .int (nI zz))] := hl
  refine lv_iconst (v := 0) hx hb dX1_countForksOnTheWayTo_0 (by decide) ?_
  refine lv_istore (lv' := [(4, .int 0), (0, .ref hk), (1, .long ww), (3, .int (nI zz))]) hx hb dX1_countForksOnTheWayTo_1 hl (by decide) rfl (fun ls hl => ?_)
  refine lv_iconst (v := 0) hx hb dX1_countForksOnTheWayTo_3 (by decide) ?_
  refine lv_istore (lv' := [(5, .int 0), (4, .int 0), (0, .ref hk), (1, .long ww), (3, .int (nI zz))]) hx hb dX1_countForksOnTheWayTo_4 hl (by decide) rfl (fun ls hl => ?_)
  refine kz_loop (nL := 7) (hd := 6) (e9 := nn - 1) (i0 := 0) (LV := fun ii => [(4, .int (nI (kf_mk fw zs ww zz ii))), (5, .int (nI ii)), (0, .ref hk), (1, .long ww), (3, .int (nI zz))]) (fun ii ls hii hl ih => ?_) (Nat.zero_le _) (lv_sub hl [1, 0, 2, 3, 4] rfl)
  have hl : lv_has ls 7 [(4, .int (nI (kf_mk fw zs ww zz ii))), (5, .int (nI ii)), (0, .ref hk), (1, .long ww), (3, .int (nI zz))] := hl
  refine lv_iload hx hb dX1_countForksOnTheWayTo_6 (lv_at hl 1 rfl) ?_
  refine lv_iconst (v := 1) hx hb dX1_countForksOnTheWayTo_8 (by decide) ?_
  refine lv_iadd hx hb dX1_countForksOnTheWayTo_9 ?_
  refine kz_asi (y := nI (ii + 1)) (nI_1 ii) ?_
  refine lv_aload_n hx hb dX1_countForksOnTheWayTo_10 rfl (lv_at hl 2 rfl) ?_
  refine va_get (D := G.1) (ci := 1) (v := .int (nI nn)) (C := RX1) (T := TX1) (N := 4) hx hb hts hinX1 hown hK.1 hP 0 rfl rfl 3 (by decide) (hts (.fieldLink RX1 22 "ForkStore$Keys" "count" "I") (by decide +kernel)) (fun _ h9 => h9) rfl dX1_countForksOnTheWayTo_11 ?_
  refine lv_icmp_ge (tgt := 69) hx hb dX1_countForksOnTheWayTo_14 (by decide) (fun c_1 => ?_) (fun c_1 => ?_)
  · have kc_1 : nn ≤ ii + 1 := (nI_leI (by omega) (by omega)).mp c_1
    refine lv_iload hx hb dX1_countForksOnTheWayTo_69 (lv_at hl 0 rfl) ?_
    refine kz_ci (v := nI (kf_pop (kf_mk fw zs ww zz ii))) (va_runS (As := [.int (nI (kf_mk fw zs ww zz ii))]) (rest := []) ⟨hx, hb, hml, hown, hts⟩ (c_J6_bitCount_0f7a4 l (kf_mk fw zs ww zz ii) (kf_mk_lt _ _ _ _ _)) (va_cwS 1 hts gX1_countForksOnTheWayTo_J6_bitCount_0f7a4 rfl rfl rfl (by decide +kernel) ⟨Nat.le_of_ble_eq_true rfl, Nat.le_of_ble_eq_true rfl⟩) kz_ps0 rfl rfl hl.1 rfl (lv_room (Nat.le_of_ble_eq_true rfl)) dX1_countForksOnTheWayTo_71 ⟨Nat.zero_le _, Nat.zero_le _⟩).run ?_
    exact W.iret (v := nI (kf_pop (kf_mk fw zs ww zz ii))) hx hb hr (fun t ht hW => ⟨_, rfl, (by rw [show ii = nn - 1 from by omega]), ht⟩) (fun _ h => nomatch h) dX1_countForksOnTheWayTo_74
  · have kc_1 : ii + 1 < nn := Nat.lt_of_not_le (fun h => c_1 (nI_le h (by omega)))
    have hzi := hz ii
    have hf8 := kf_fk_le fw zs ii
    have hc8 := kf_cm_le (fw ii) (zs ii) ww zz
    refine lv_aload_n hx hb dX1_countForksOnTheWayTo_17 rfl (lv_at hl 2 rfl) ?_
    refine lv_iload hx hb dX1_countForksOnTheWayTo_18 (lv_at hl 1 rfl) ?_
    have hPc := hP.sub (ws' := [(hk, .inr (1, [.ref aw, .ref az, .ref an, .int (nI nn)])), (aw, .inl (gJ G, 120, .inr (.inl fw))), (az, .inl (gI G, 120, .inl (kz_z zs))), (an, .inl (gI G, 120, .inl fv))]) [0, 1, 2, 3] rfl
    refine kz_ci (v := nI (kf_fk fw zs ii)) (va_runV (As := [.int (nI ii)]) (rest := []) ⟨hx, hb, hml, hown, hts⟩ (c_X1_forkBehind l G hk aw az an nn fw zs fv ii (by omega) hz (by omega)) (cwV 1 hts gX1_countForksOnTheWayTo_X1_forkBehind rfl rfl rfl (by decide +kernel) ⟨Nat.le_of_ble_eq_true rfl, Nat.le_of_ble_eq_true rfl⟩) (kz_pv hK hPc (va_recv hK.1 hPc (ci := 1) (q0 := 0) rfl rfl)) rfl rfl hl.1 rfl (lv_room (Nat.le_of_ble_eq_true rfl)) dX1_countForksOnTheWayTo_20 ⟨Nat.zero_le _, Nat.zero_le _⟩).run ?_
    refine lv_istore (lv' := [(6, .int (nI (kf_fk fw zs ii))), (4, .int (nI (kf_mk fw zs ww zz ii))), (5, .int (nI ii)), (0, .ref hk), (1, .long ww), (3, .int (nI zz))]) hx hb dX1_countForksOnTheWayTo_23 hl (by decide) rfl (fun ls hl => ?_)
    refine lv_iload hx hb dX1_countForksOnTheWayTo_25 (lv_at hl 0 rfl) ?_
    refine lv_if_lt (tgt := 63) hx hb dX1_countForksOnTheWayTo_27 (by decide) (fun c_2 => ?_) (fun c_2 => ?_)
    · exact absurd c_2 (nI_pos (by omega))
    · refine lv_iload hx hb dX1_countForksOnTheWayTo_30 (lv_at hl 0 rfl) ?_
      refine lv_aload_n hx hb dX1_countForksOnTheWayTo_32 rfl (lv_at hl 3 rfl) ?_
      refine va_get (D := G.1) (ci := 1) (v := .ref aw) (C := RX1) (T := TX1) (N := 4) hx hb hts hinX1 hown hK.1 hP 0 rfl rfl 0 (by decide) (hts (.fieldLink RX1 9 "ForkStore$Keys" "words" "[J") (by decide +kernel)) (fun _ h9 => h9) rfl dX1_countForksOnTheWayTo_33 ?_
      refine lv_iload hx hb dX1_countForksOnTheWayTo_36 (lv_at hl 2 rfl) ?_
      refine kz_lald hx hb hK.1 hP 1 1 rfl rfl (k := ii) (by omega) (by decide) dX1_countForksOnTheWayTo_38 ?_
      refine lv_aload_n hx hb dX1_countForksOnTheWayTo_39 rfl (lv_at hl 3 rfl) ?_
      refine va_get (D := G.1) (ci := 1) (v := .ref az) (C := RX1) (T := TX1) (N := 4) hx hb hts hinX1 hown hK.1 hP 0 rfl rfl 1 (by decide) (hts (.fieldLink RX1 15 "ForkStore$Keys" "sizes" "[I") (by decide +kernel)) (fun _ h9 => h9) rfl dX1_countForksOnTheWayTo_40 ?_
      refine lv_iload hx hb dX1_countForksOnTheWayTo_43 (lv_at hl 2 rfl) ?_
      refine kz_iald hx hb hK.1 hP 2 0 rfl rfl (k := ii) (by omega) (by decide) dX1_countForksOnTheWayTo_45 ?_
      refine kz_asi (y := nI (zs ii)) rfl ?_
      refine lv_lload_n hx hb dX1_countForksOnTheWayTo_46 rfl (lv_at hl 4 rfl) ?_
      refine lv_iload_n hx hb dX1_countForksOnTheWayTo_47 rfl (lv_at hl 5 rfl) ?_
      refine kz_ci (v := nI (kf_cm (fw ii) (zs ii) ww zz)) (va_runSN (As := [.long (fw ii), .int (nI (zs ii)), .long ww, .int (nI zz)]) (rest := [.int (nI (kf_fk fw zs ii))]) ⟨hx, hb, hml, hown, hts⟩ (c_X3_bytesInCommon l (fw ii) (zs ii) ww zz (by omega) (by omega)) ⟨(va_cnB 4 hts gX1_countForksOnTheWayTo_X3_bytesInCommon_n36 rfl rfl rfl hK.2 (hts (.initialized RX3) (by decide +kernel)) (by decide +kernel) ⟨Nat.le_of_ble_eq_true rfl, Nat.le_of_ble_eq_true rfl⟩), hts (.static yX3_bytesInCommon) (by decide +kernel), trivial⟩ kz_ps0 rfl rfl hl.1 rfl (lv_room (Nat.le_of_ble_eq_true rfl)) dX1_countForksOnTheWayTo_48 ⟨Nat.zero_le _, Nat.zero_le _⟩).run ?_
      refine lv_icmp_gt (tgt := 63) hx hb dX1_countForksOnTheWayTo_51 (by decide) (fun c_3 => ?_) (fun c_3 => ?_)
      · have hno : ¬ kf_fk fw zs ii ≤ kf_cm (fw ii) (zs ii) ww zz := fun h => absurd ((nI_ltI (by omega) (by omega)).mp c_3) (by omega)
        refine lv_iinc (v := nI (ii + 1)) (lv' := [(5, .int (nI (ii + 1))), (6, .int (nI (kf_fk fw zs ii))), (4, .int (nI (kf_mk fw zs ww zz ii))), (0, .ref hk), (1, .long ww), (3, .int (nI zz))]) hx hb dX1_countForksOnTheWayTo_63 hl (k := 2) rfl (nI_1 ii) (by decide) rfl (fun ls hl => ?_)
        refine lv_goto (tgt := 6) hx hb dX1_countForksOnTheWayTo_66 (by decide) ?_
        have e9 : kf_mk fw zs ww zz (ii + 1) = kf_mk fw zs ww zz ii := by rw [kf_mk, if_neg hno]
        exact ih ls (by omega) (by simp only [e9]; exact lv_sub hl [2, 0, 3, 4, 5] rfl)
      · have hyes : kf_fk fw zs ii ≤ kf_cm (fw ii) (zs ii) ww zz := (nI_leI (by omega) (by omega)).mp (Int32.not_lt.mp c_3)
        refine lv_iload hx hb dX1_countForksOnTheWayTo_54 (lv_at hl 1 rfl) ?_
        refine lv_iconst (v := 1) hx hb dX1_countForksOnTheWayTo_56 (by decide) ?_
        refine lv_iload hx hb dX1_countForksOnTheWayTo_57 (lv_at hl 0 rfl) ?_
        refine lv_ishl hx hb dX1_countForksOnTheWayTo_59 ?_
        refine lv_ior hx hb dX1_countForksOnTheWayTo_60 ?_
        refine kz_asi (y := nI (kf_mk fw zs ww zz (ii + 1))) (by rw [kf_sh4 ⟨kf_fk fw zs ii, by omega⟩, kf_or, kf_mk, if_pos hyes]) ?_
        refine lv_istore (lv' := [(4, .int (nI (kf_mk fw zs ww zz (ii + 1)))), (6, .int (nI (kf_fk fw zs ii))), (5, .int (nI ii)), (0, .ref hk), (1, .long ww), (3, .int (nI zz))]) hx hb dX1_countForksOnTheWayTo_61 hl (by decide) rfl (fun ls hl => ?_)
        refine lv_iinc (v := nI (ii + 1)) (lv' := [(5, .int (nI (ii + 1))), (4, .int (nI (kf_mk fw zs ww zz (ii + 1)))), (6, .int (nI (kf_fk fw zs ii))), (0, .ref hk), (1, .long ww), (3, .int (nI zz))]) hx hb dX1_countForksOnTheWayTo_63 hl (k := 2) rfl (nI_1 ii) (by decide) rfl (fun ls hl => ?_)
        refine lv_goto (tgt := 6) hx hb dX1_countForksOnTheWayTo_66 (by decide) ?_
        exact ih ls (by omega) (lv_sub hl [1, 0, 3, 4, 5] rfl)
