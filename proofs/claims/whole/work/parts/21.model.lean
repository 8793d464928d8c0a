def kz_bo (po : Nat → Bool) : Nat → Int32 := fun j => kf_b (po j)
def kz_ub (po : Nat → Bool) (k : Nat) (b : Bool) : Nat → Bool := fun j => if j = k then b else po j
theorem kz_bu (po : Nat → Bool) (k : Nat) (b : Bool) : kz_bo (kz_ub po k b) = upd (kz_bo po) k (kf_b b) := by
  funext j
  unfold kz_bo kz_ub upd
  split <;> rfl
def kz_pw (pw : Nat → Nat) : Nat → Int32 := fun j => kf_p (pw j)
theorem kz_pu (pw : Nat → Nat) (k n : Nat) : kz_pw (kz_un pw k n) = upd (kz_pw pw) k (kf_p n) := by
  funext j
  unfold kz_pw kz_un upd
  split <;> rfl
/-- a row of 120 places -/
def kf_row {α : Type} (f : Nat → α) (ro : Nat) : Nat → α := fun j => f (120 * ro + j)
theorem kf_xor63 {a : Nat} (h : a < 18446744073709551616) : a ^^^ 2 ^ 63 = (a + 9223372036854775808) % 18446744073709551616 := by
  have h1 : (a ^^^ 2 ^ 63) % 2 ^ 63 = a % 2 ^ 63 := by rw [Nat.xor_mod_two_pow, Nat.mod_self, Nat.xor_zero]
  have h2 : (a ^^^ 2 ^ 63) / 2 ^ 63 = (a / 2 ^ 63) ^^^ 1 := by rw [Nat.xor_div_two_pow, Nat.div_self (Nat.two_pow_pos 63)]
  have h3 : a / 2 ^ 63 = 0 ∨ a / 2 ^ 63 = 1 := by omega
  generalize a ^^^ 2 ^ 63 = t at h1 h2
  rcases h3 with h3 | h3
  · rw [h3] at h2
    have h2 : t / 2 ^ 63 = 1 := h2
    omega
  · rw [h3] at h2
    have h2 : t / 2 ^ 63 = 0 := h2
    omega
theorem kf_xormin (a : Int64) : a ^^^ (-9223372036854775808) = a + (-9223372036854775808) := by
  apply Int64.toBitVec_inj.mp
  apply BitVec.eq_of_toNat_eq
  have h2 := a.toBitVec.isLt
  rw [Int64.toBitVec_xor, BitVec.toNat_xor, Int64.toBitVec_add, BitVec.toNat_add]
  have e2 : ((-9223372036854775808 : Int64).toBitVec).toNat = 2 ^ 63 := by decide
  rw [e2, kf_xor63 (by omega)]
/-- ForkStoreModel.order -/
def kf_od (x : Int64) (z : Nat) (w : Int64) (y : Nat) : Int32 := if x = w then nI z - nI y else if un x < un w then -1 else 1
theorem kf_od_lt {x : Int64} {z : Nat} {w : Int64} {y : Nat} (hz : z ≤ 8) (hy : y ≤ 8) : kf_od x z w y < 0 ↔ kf_lt x z w y = true := by
  rw [kf_lt_iff]
  unfold kf_od
  split
  · rename_i h
    subst h
    constructor
    · intro h
      refine Or.inr ⟨rfl, ?_⟩
      rcases Nat.lt_or_ge z y with h2 | h2
      · exact h2
      · rw [pk_sub h2] at h
        exact absurd h (nI_pos (by omega))
    · intro h
      rcases h with h | h
      · omega
      · exact pk_sneg (by omega) h.2
  · rename_i h
    split
    · rename_i h2
      exact ⟨fun _ => Or.inl h2, fun _ => by decide⟩
    · rename_i h2
      exact ⟨fun z => absurd z (by decide), fun z => by
        rcases z with z | z
        · exact absurd z h2
        · exact absurd z.1 h⟩
theorem kf_od_eq {x : Int64} {z : Nat} {w : Int64} {y : Nat} (hz : z ≤ 8) (hy : y ≤ 8) : kf_od x z w y = 0 ↔ (x = w ∧ z = y) := by
  unfold kf_od
  split
  · rename_i h
    constructor
    · intro h2
      refine ⟨h, ?_⟩
      have h3 : nI z = nI y := by
        have h4 := congrArg (fun t => t + nI y) h2
        simpa using h4
      exact (nI_eq (by omega) (by omega)).mp h3
    · rintro ⟨-, rfl⟩
      exact Int32.sub_self _
  · rename_i h
    split
    · exact ⟨fun z => absurd z (by decide), fun z => absurd z.1 h⟩
    · exact ⟨fun z => absurd z (by decide), fun z => absurd z.1 h⟩
/-- ForkStoreModel.isOpen -/
def kf_mop (po : Nat → Bool) (rr : Int32) : Bool := if 0 ≤ rr ∧ rr < 3 then po (kf_zn rr) else false
theorem kf_3 {jj : Nat} (h : jj < 3) : 0 ≤ nI jj ∧ nI jj < 3 := (kf_plN (jj := jj) (nn := 3) (by omega) (by decide)).mpr h
theorem kf_mop_n {po : Nat → Bool} {jj : Nat} (h : jj < 3) : kf_mop po (nI jj) = po jj := by
  unfold kf_mop
  rw [if_pos (kf_3 h), kf_zn, nI_clamp (by omega)]
theorem kf_mop_t {po : Nat → Bool} {rr : Int32} (h : kf_mop po rr = true) : ∃ jj : Nat, jj < 3 ∧ rr = nI jj ∧ po jj = true := by
  unfold kf_mop at h
  split at h
  · rename_i h1
    obtain ⟨jj, h2, rfl⟩ := kf_pl (nn := 3) (by decide) h1
    rw [kf_zn, nI_clamp (by omega)] at h
    exact ⟨jj, h2, rfl, h⟩
  · cases h
/-- ForkStoreModel.begins -/
abbrev kf_bg (x : Int64) (z : Nat) (w : Int64) (y : Nat) : Prop := y ≤ z ∧ kf_cut x y = w

set_option maxHeartbeats 4000000 in
set_option maxRecDepth 100000 in
theorem c_X4_thrown (l : Launch) (G : kz_G) (mo mc mw mz mv mp mh : Nat) (tv : Int32) (cs : Nat → Nat) (mW : Nat → Int64) (mZ : Nat → Nat) (mV : Nat → Int32) (po : Nat → Bool) (pw : Nat → Nat) : Met l yX4_thrown wsX4_thrown { frames := 0, cells := 0, slots := 0, locals := 0 } (kz_Pp G [.ref mo] [(mo, .inr (4, [.int tv, .ref mc, .ref mw, .ref mz, .ref mv, .ref mp, .ref mh])), (mc, .inl (gI G, 4, .inl (kz_z cs))), (mw, .inl (gJ G, 480, .inr (.inl mW))), (mz, .inl (gI G, 480, .inl (kz_z mZ))), (mv, .inl (gI G, 480, .inl mV)), (mp, .inl (gZ G, 3, .inl (kz_bo po))), (mh, .inl (gI G, 3, .inl (kz_pw pw)))]) (vp_Si (fun r => r = tv)) 0 0 (fun _ => False) := by
  refine Met.ofW (cc := cX4_thrown) (maxL := 1) (ret := (some .int)) (by decide) rfl ?_
  intro p e s m args below meth c s₁ B hml hv
  obtain ⟨rfl, hP, hK⟩ := hv
  have hx := B.exec
  have hb := B.bytes
  have hr := B.returns
  have hts := atoms_spec (ws := wsX4_thrown) B.pre
  have hown : s.vm.findClass RX4 = some m.cls := findClass_of_methodNamed B.named
  have hlocks := B.notSynchronized
  have hinX4 : ∀ w ∈ wsX40, w ∈ wsX4_thrown := by decide +kernel
  have hP : va_P G.1 vwCl [(mo, .inr (4, [.int tv, .ref mc, .ref mw, .ref mz, .ref mv, .ref mp, .ref mh])), (mc, .inl (gI G, 4, .inl (kz_z cs))), (mw, .inl (gJ G, 480, .inr (.inl mW))), (mz, .inl (gI G, 480, .inl (kz_z mZ))), (mv, .inl (gI G, 480, .inl mV)), (mp, .inl (gZ G, 3, .inl (kz_bo po))), (mh, .inl (gI G, 3, .inl (kz_pw pw)))] s.heap := hP
  have hl := lv_entry ([.ref mo]) (n := 1) (Nat.le_of_ble_eq_true rfl)
  rw [lg_entry_eq]
  generalize (lg_sl ([.ref mo]) ++ List.replicate (1 - (lg_sl ([.ref mo])).length) Slot.unset).toArray = ls at hl ⊢
  have hl : lv_has ls 1 [(0, .ref mo)] := hl
  refine lv_aload_n hx hb dX4_thrown_0 rfl (lv_at hl 0 rfl) ?_
  refine va_get (D := G.1) (ci := 4) (v := .int tv) (C := RX4) (T := TX4) (N := 7) hx hb hts hinX4 hown hK.1 hP 0 rfl rfl 0 (by decide) (hts (.fieldLink RX4 30 "ForkStoreModel" "thrown" "I") (by decide +kernel)) (fun _ h9 => h9) rfl dX4_thrown_1 ?_
  exact W.iret (v := tv) hx hb hr (fun t ht hW => ⟨_, rfl, rfl, ht⟩) (fun _ h => nomatch h) dX4_thrown_4

set_option maxHeartbeats 4000000 in
set_option maxRecDepth 100000 in
theorem c_X4_order (l : Launch) (G : kz_G) (mo mc mw mz mv mp mh : Nat) (tv : Int32) (cs : Nat → Nat) (mW : Nat → Int64) (mZ : Nat → Nat) (mV : Nat → Int32) (po : Nat → Bool) (pw : Nat → Nat) (aa : Nat) (ww : Int64) (zz : Nat) (haa : aa < 480) : Met l yX4_order wsX4_order { frames := 0, cells := 0, slots := 0, locals := 0 } (kz_Pp G [.ref mo, .int (nI aa), .long ww, .int (nI zz)] [(mo, .inr (4, [.int tv, .ref mc, .ref mw, .ref mz, .ref mv, .ref mp, .ref mh])), (mc, .inl (gI G, 4, .inl (kz_z cs))), (mw, .inl (gJ G, 480, .inr (.inl mW))), (mz, .inl (gI G, 480, .inl (kz_z mZ))), (mv, .inl (gI G, 480, .inl mV)), (mp, .inl (gZ G, 3, .inl (kz_bo po))), (mh, .inl (gI G, 3, .inl (kz_pw pw)))]) (vp_Si (fun r => r = kf_od (mW aa) (mZ aa) ww zz)) 0 0 (fun _ => False) := by
  refine Met.ofW (cc := cX4_order) (maxL := 7) (ret := (some .int)) (by decide) rfl ?_
  intro p e s m args below meth c s₁ B hml hv
  obtain ⟨rfl, hP, hK⟩ := hv
  have hx := B.exec
  have hb := B.bytes
  have hr := B.returns
  have hts := atoms_spec (ws := wsX4_order) B.pre
  have hown : s.vm.findClass RX4 = some m.cls := findClass_of_methodNamed B.named
  have hlocks := B.notSynchronized
  have hinX4 : ∀ w ∈ wsX40, w ∈ wsX4_order := by decide +kernel
  have hP : va_P G.1 vwCl [(mo, .inr (4, [.int tv, .ref mc, .ref mw, .ref mz, .ref mv, .ref mp, .ref mh])), (mc, .inl (gI G, 4, .inl (kz_z cs))), (mw, .inl (gJ G, 480, .inr (.inl mW))), (mz, .inl (gI G, 480, .inl (kz_z mZ))), (mv, .inl (gI G, 480, .inl mV)), (mp, .inl (gZ G, 3, .inl (kz_bo po))), (mh, .inl (gI G, 3, .inl (kz_pw pw)))] s.heap := hP
  have hl := lv_entry ([.ref mo, .int (nI aa), .long ww, .int (nI zz)]) (n := 7) (Nat.le_of_ble_eq_true rfl)
  rw [lg_entry_eq]
  generalize (lg_sl ([.ref mo, .int (nI aa), .long ww, .int (nI zz)]) ++ List.replicate (7 - (lg_sl ([.ref mo, .int (nI aa), .long ww, .int (nI zz)])).length) Slot.unset).toArray = ls at hl ⊢
  have hl : lv_has ls 7 [(0, .ref mo), (1, .int (nI aa)), (2, .long ww), (4, .int (nI zz))] := hl
  refine lv_aload_n hx hb dX4_order_0 rfl (lv_at hl 0 rfl) ?_
  refine va_get (D := G.1) (ci := 4) (v := .ref mw) (C := RX4) (T := TX4) (N := 7) hx hb hts hinX4 hown hK.1 hP 0 rfl rfl 2 (by decide) (hts (.fieldLink RX4 13 "ForkStoreModel" "words" "[J") (by decide +kernel)) (fun _ h9 => h9) rfl dX4_order_1 ?_
  refine lv_iload_n hx hb dX4_order_4 rfl (lv_at hl 1 rfl) ?_
  refine kz_lald hx hb hK.1 hP 2 1 rfl rfl (k := aa) (by omega) (by decide) dX4_order_5 ?_
  refine lv_lstore (lv' := [(5, .long (mW aa)), (0, .ref mo), (1, .int (nI aa)), (2, .long ww), (4, .int (nI zz))]) hx hb dX4_order_6 hl (by decide) rfl (fun ls hl => ?_)
  refine lv_lload hx hb dX4_order_8 (lv_at hl 0 rfl) ?_
  refine lv_lload_n hx hb dX4_order_10 rfl (lv_at hl 3 rfl) ?_
  refine W.lcmp hx hb dX4_order_11 ?_
  refine lv_if_ne (tgt := 25) hx hb dX4_order_12 (by decide) (fun c_1 => ?_) (fun c_1 => ?_)
  · refine lv_lload hx hb dX4_order_25 (lv_at hl 0 rfl) ?_
    refine lv_ldc2 (v := (-9223372036854775808)) hx hb hown (hts (.constantLong RX4 34 (-9223372036854775808)) (by decide +kernel)) dX4_order_27 ?_
    refine lv_lxor hx hb dX4_order_30 ?_
    refine lv_lload_n hx hb dX4_order_31 rfl (lv_at hl 3 rfl) ?_
    refine lv_ldc2 (v := (-9223372036854775808)) hx hb hown (hts (.constantLong RX4 34 (-9223372036854775808)) (by decide +kernel)) dX4_order_32 ?_
    refine lv_lxor hx hb dX4_order_35 ?_
    refine W.lcmp hx hb dX4_order_36 ?_
    refine lv_if_ge (tgt := 44) hx hb dX4_order_37 (by decide) (fun c_2 => ?_) (fun c_2 => ?_)
    · refine lv_iconst (v := 1) hx hb dX4_order_44 (by decide) ?_
      exact W.iret (v := 1) hx hb hr (fun t ht hW => ⟨_, rfl, (by unfold kf_od; rw [if_neg (fun h => c_1 ((lg_cmp_eq _ _).mpr h)), if_neg (fun h => absurd ((lg_cmp_ge _ _).mp c_2) (Int64.not_le.mpr (by rw [kf_xormin, kf_xormin]; exact un_lt.mpr h)))]), ht⟩) (fun _ h => nomatch h) dX4_order_45
    · refine lv_iconst (v := (-1)) hx hb dX4_order_40 (by decide) ?_
      refine lv_goto (tgt := 45) hx hb dX4_order_41 (by decide) ?_
      exact W.iret (v := (-1)) hx hb hr (fun t ht hW => ⟨_, rfl, (by unfold kf_od; rw [if_neg (fun h => c_1 ((lg_cmp_eq _ _).mpr h)), if_pos (by rcases Decidable.em (un (mW aa) < un ww) with h | h; exact h; exact absurd ((lg_cmp_ge _ _).mpr (Int64.not_lt.mp (fun z => h (un_lt.mp (by rw [kf_xormin, kf_xormin] at z; exact z))))) c_2)]), ht⟩) (fun _ h => nomatch h) dX4_order_45
  · refine lv_aload_n hx hb dX4_order_15 rfl (lv_at hl 1 rfl) ?_
    refine va_get (D := G.1) (ci := 4) (v := .ref mz) (C := RX4) (T := TX4) (N := 7) hx hb hts hinX4 hown hK.1 hP 0 rfl rfl 3 (by decide) (hts (.fieldLink RX4 17 "ForkStoreModel" "sizes" "[I") (by decide +kernel)) (fun _ h9 => h9) rfl dX4_order_16 ?_
    refine lv_iload_n hx hb dX4_order_19 rfl (lv_at hl 2 rfl) ?_
    refine kz_iald hx hb hK.1 hP 3 0 rfl rfl (k := aa) (by omega) (by decide) dX4_order_20 ?_
    refine kz_asi (y := nI (mZ aa)) rfl ?_
    refine lv_iload hx hb dX4_order_21 (lv_at hl 4 rfl) ?_
    refine lv_isub hx hb dX4_order_23 ?_
    exact W.iret (v := (nI (mZ aa)) - (nI zz)) hx hb hr (fun t ht hW => ⟨_, rfl, (if_pos ((lg_cmp_eq _ _).mp c_1)).symm, ht⟩) (fun _ h => nomatch h) dX4_order_24

set_option maxHeartbeats 4000000 in
set_option maxRecDepth 100000 in
theorem c_X4_place (l : Launch) (G : kz_G) (mo mc mw mz mv mp mh : Nat) (tv : Int32) (cs : Nat → Nat) (mW : Nat → Int64) (mZ : Nat → Nat) (mV : Nat → Int32) (po : Nat → Bool) (pw : Nat → Nat) (ro : Nat) (ww : Int64) (zz : Nat) (hcs : ∀ j, cs j ≤ 120) (hmz : ∀ j, mZ j ≤ 8) (hro : ro < 4) (hzz : zz ≤ 8) : Met l yX4_place wsX4_place { frames := 1, cells := 0, slots := 0, locals := 26 } (kz_Pp G [.ref mo, .int (nI ro), .long ww, .int (nI zz)] [(mo, .inr (4, [.int tv, .ref mc, .ref mw, .ref mz, .ref mv, .ref mp, .ref mh])), (mc, .inl (gI G, 4, .inl (kz_z cs))), (mw, .inl (gJ G, 480, .inr (.inl mW))), (mz, .inl (gI G, 480, .inl (kz_z mZ))), (mv, .inl (gI G, 480, .inl mV)), (mp, .inl (gZ G, 3, .inl (kz_bo po))), (mh, .inl (gI G, 3, .inl (kz_pw pw)))]) (vp_Si (fun r => r = nI (120 * ro + kf_cb (kf_row mW ro) (kf_row mZ ro) ww zz (cs ro)))) 0 0 (fun _ => False) := by
  refine Met.ofW (cc := cX4_place) (maxL := 6) (ret := (some .int)) (by decide) rfl ?_
  intro p e s m args below meth c s₁ B hml hv
  obtain ⟨rfl, hP, hK⟩ := hv
  have hx := B.exec
  have hb := B.bytes
  have hr := B.returns
  have hts := atoms_spec (ws := wsX4_place) B.pre
  have hown : s.vm.findClass RX4 = some m.cls := findClass_of_methodNamed B.named
  have hlocks := B.notSynchronized
  have hinX4 : ∀ w ∈ wsX40, w ∈ wsX4_place := by decide +kernel
  have hP : va_P G.1 vwCl [(mo, .inr (4, [.int tv, .ref mc, .ref mw, .ref mz, .ref mv, .ref mp, .ref mh])), (mc, .inl (gI G, 4, .inl (kz_z cs))), (mw, .inl (gJ G, 480, .inr (.inl mW))), (mz, .inl (gI G, 480, .inl (kz_z mZ))), (mv, .inl (gI G, 480, .inl mV)), (mp, .inl (gZ G, 3, .inl (kz_bo po))), (mh, .inl (gI G, 3, .inl (kz_pw pw)))] s.heap := hP
  have hl := lv_entry ([.ref mo, .int (nI ro), .long ww, .int (nI zz)]) (n := 6) (Nat.le_of_ble_eq_true rfl)
  rw [lg_entry_eq]
  generalize (lg_sl ([.ref mo, .int (nI ro), .long ww, .int (nI zz)]) ++ List.replicate (6 - (lg_sl ([.ref mo, .int (nI ro), .long ww, .int (nI zz)])).length) Slot.unset).toArray = ls at hl ⊢
  have hl : lv_has ls 6 [(0, .ref mo), (1, .int (nI ro)), (2, .long ww), (4, .int (nI zz))] := hl
  have hcr := hcs ro
  refine lv_bipush (v := 120) hx hb dX4_place_0 (by decide) ?_
  refine lv_iload_n hx hb dX4_place_2 rfl (lv_at hl 1 rfl) ?_
  refine lv_imul hx hb dX4_place_3 ?_
  refine kz_asi (y := nI (120 * ro)) (pk_mul 120 ro) ?_
  refine lv_istore (lv' := [(5, .int (nI (120 * ro))), (0, .ref mo), (1, .int (nI ro)), (2, .long ww), (4, .int (nI zz))]) hx hb dX4_place_4 hl (by decide) rfl (fun ls hl => ?_)
  refine kz_loopf (nL := 6) (hd := 6) (e9 := cs ro) (i0 := 0) (LV := fun ii => [(5, .int (nI (120 * ro + ii))), (0, .ref mo), (1, .int (nI ro)), (2, .long ww), (4, .int (nI zz))]) (F := fun ii => kf_cbn (kf_row mW ro) (kf_row mZ ro) ww zz (cs ro - ii) ii = kf_cb (kf_row mW ro) (kf_row mZ ro) ww zz (cs ro)) (fun ii ls hii hl hfin ih => ?_) (Nat.zero_le _) (lv_sub hl [0, 1, 2, 3, 4] rfl) rfl
  have hl : lv_has ls 6 [(5, .int (nI (120 * ro + ii))), (0, .ref mo), (1, .int (nI ro)), (2, .long ww), (4, .int (nI zz))] := hl
  have hfin : kf_cbn (kf_row mW ro) (kf_row mZ ro) ww zz (cs ro - ii) ii = kf_cb (kf_row mW ro) (kf_row mZ ro) ww zz (cs ro) := hfin
  refine lv_iload hx hb dX4_place_6 (lv_at hl 0 rfl) ?_
  refine lv_bipush (v := 120) hx hb dX4_place_8 (by decide) ?_
  refine lv_iload_n hx hb dX4_place_10 rfl (lv_at hl 2 rfl) ?_
  refine lv_imul hx hb dX4_place_11 ?_
  refine kz_asi (y := nI (120 * ro)) (pk_mul 120 ro) ?_
  refine lv_aload_n hx hb dX4_place_12 rfl (lv_at hl 1 rfl) ?_
  refine va_get (D := G.1) (ci := 4) (v := .ref mc) (C := RX4) (T := TX4) (N := 7) hx hb hts hinX4 hown hK.1 hP 0 rfl rfl 1 (by decide) (hts (.fieldLink RX4 7 "ForkStoreModel" "counts" "[I") (by decide +kernel)) (fun _ h9 => h9) rfl dX4_place_13 ?_
  refine lv_iload_n hx hb dX4_place_16 rfl (lv_at hl 2 rfl) ?_
  refine kz_iald hx hb hK.1 hP 1 0 rfl rfl (k := ro) (by omega) (by decide) dX4_place_17 ?_
  refine kz_asi (y := nI (cs ro)) rfl ?_
  refine lv_iadd hx hb dX4_place_18 ?_
  refine kz_asi (y := nI (120 * ro + cs ro)) (nI_add _ _) ?_
  refine lv_icmp_ge (tgt := 40) hx hb dX4_place_19 (by decide) (fun c_1 => ?_) (fun c_1 => ?_)
  · have kc_1 : cs ro ≤ ii := by
      have := (nI_leI (by omega) (by omega)).mp c_1
      omega
    refine lv_iload hx hb dX4_place_40 (lv_at hl 0 rfl) ?_
    have hq : nI (120 * ro + ii) = nI (120 * ro + kf_cb (kf_row mW ro) (kf_row mZ ro) ww zz (cs ro)) := by
      rw [← hfin, show cs ro - ii = 0 from by omega]
      rfl
    exact W.iret (v := nI (120 * ro + ii)) hx hb hr (fun t ht hW => ⟨_, rfl, hq, ht⟩) (fun _ h => nomatch h) dX4_place_42
  · have kc_1 : ii < cs ro := by
      have : ¬ 120 * ro + cs ro ≤ 120 * ro + ii := fun h => c_1 (nI_le h (by omega))
      omega
    refine lv_aload_n hx hb dX4_place_22 rfl (lv_at hl 1 rfl) ?_
    refine lv_iload hx hb dX4_place_23 (lv_at hl 0 rfl) ?_
    refine lv_lload_n hx hb dX4_place_25 rfl (lv_at hl 3 rfl) ?_
    refine lv_iload hx hb dX4_place_26 (lv_at hl 4 rfl) ?_
    have hPc := hP.sub (ws' := [(mo, .inr (4, [.int tv, .ref mc, .ref mw, .ref mz, .ref mv, .ref mp, .ref mh])), (mc, .inl (gI G, 4, .inl (kz_z cs))), (mw, .inl (gJ G, 480, .inr (.inl mW))), (mz, .inl (gI G, 480, .inl (kz_z mZ))), (mv, .inl (gI G, 480, .inl mV)), (mp, .inl (gZ G, 3, .inl (kz_bo po))), (mh, .inl (gI G, 3, .inl (kz_pw pw)))]) [0, 1, 2, 3, 4, 5, 6] rfl
    refine kz_ci (v := kf_od (mW (120 * ro + ii)) (mZ (120 * ro + ii)) ww zz) (va_runV (As := [.int (nI (120 * ro + ii)), .long ww, .int (nI zz)]) (rest := []) ⟨hx, hb, hml, hown, hts⟩ (c_X4_order l G mo mc mw mz mv mp mh tv cs mW mZ mV po pw (120 * ro + ii) ww zz (by omega)) (cwV 3 hts gX4_place_X4_order rfl rfl rfl (by decide +kernel) ⟨Nat.le_of_ble_eq_true rfl, Nat.le_of_ble_eq_true rfl⟩) (kz_pv hK hPc (va_recv hK.1 hPc (ci := 4) (q0 := 0) rfl rfl)) rfl rfl hl.1 rfl (lv_room (Nat.le_of_ble_eq_true rfl)) dX4_place_28 ⟨Nat.zero_le _, Nat.zero_le _⟩).run ?_
    refine lv_if_ge (tgt := 40) hx hb dX4_place_31 (by decide) (fun c_2 => ?_) (fun c_2 => ?_)
    · have hno : ¬ kf_lt (kf_row mW ro ii) (kf_row mZ ro ii) ww zz = true := fun h => absurd ((kf_od_lt (hmz _) hzz).mpr h) (Int32.not_lt.mpr c_2)
      refine lv_iload hx hb dX4_place_40 (lv_at hl 0 rfl) ?_
      have hq : nI (120 * ro + ii) = nI (120 * ro + kf_cb (kf_row mW ro) (kf_row mZ ro) ww zz (cs ro)) := by
        rw [← hfin, show cs ro - ii = (cs ro - ii - 1) + 1 from by omega]
        unfold kf_cbn
        rw [if_neg hno]
      exact W.iret (v := nI (120 * ro + ii)) hx hb hr (fun t ht hW => ⟨_, rfl, hq, ht⟩) (fun _ h => nomatch h) dX4_place_42
    · have hgo : kf_lt (kf_row mW ro ii) (kf_row mZ ro ii) ww zz = true := (kf_od_lt (hmz _) hzz).mp (Int32.not_le.mp c_2)
      refine lv_iinc (v := nI (120 * ro + (ii + 1))) (lv' := [(5, .int (nI (120 * ro + (ii + 1)))), (0, .ref mo), (1, .int (nI ro)), (2, .long ww), (4, .int (nI zz))]) hx hb dX4_place_34 hl (k := 0) rfl (nI_1 (120 * ro + ii)) (by decide) rfl (fun ls hl => ?_)
      refine lv_goto (tgt := 6) hx hb dX4_place_37 (by decide) ?_
      have hfin2 : kf_cbn (kf_row mW ro) (kf_row mZ ro) ww zz (cs ro - (ii + 1)) (ii + 1) = kf_cb (kf_row mW ro) (kf_row mZ ro) ww zz (cs ro) := by
        rw [← hfin, show cs ro - ii = (cs ro - (ii + 1)) + 1 from by omega]
        conv => rhs; unfold kf_cbn
        rw [if_pos hgo]
      exact ih ls (by omega) (lv_sub hl [0, 1, 2, 3, 4] rfl) hfin2

set_option maxHeartbeats 4000000 in
set_option maxRecDepth 100000 in
theorem c_X4_has (l : Launch) (G : kz_G) (mo mc mw mz mv mp mh : Nat) (tv : Int32) (cs : Nat → Nat) (mW : Nat → Int64) (mZ : Nat → Nat) (mV : Nat → Int32) (po : Nat → Bool) (pw : Nat → Nat) (ro kk : Nat) (ww : Int64) (zz : Nat) (hcs : ∀ j, cs j ≤ 120) (hmz : ∀ j, mZ j ≤ 8) (hro : ro < 4) (hkk : kk ≤ 120) (hzz : zz ≤ 8) : Met l yX4_has wsX4_has { frames := 1, cells := 0, slots := 0, locals := 26 } (kz_Pp G [.ref mo, .int (nI ro), .int (nI (120 * ro + kk)), .long ww, .int (nI zz)] [(mo, .inr (4, [.int tv, .ref mc, .ref mw, .ref mz, .ref mv, .ref mp, .ref mh])), (mc, .inl (gI G, 4, .inl (kz_z cs))), (mw, .inl (gJ G, 480, .inr (.inl mW))), (mz, .inl (gI G, 480, .inl (kz_z mZ))), (mv, .inl (gI G, 480, .inl mV)), (mp, .inl (gZ G, 3, .inl (kz_bo po))), (mh, .inl (gI G, 3, .inl (kz_pw pw)))]) (vp_Si (fun r => r = if kk < cs ro ∧ kf_row mW ro kk = ww ∧ kf_row mZ ro kk = zz then 1 else 0)) 0 0 (fun _ => False) := by
  refine Met.ofW (cc := cX4_has) (maxL := 6) (ret := (some .boolean)) (by decide) rfl ?_
  intro p e s m args below meth c s₁ B hml hv
  obtain ⟨rfl, hP, hK⟩ := hv
  have hx := B.exec
  have hb := B.bytes
  have hr := B.returns
  have hts := atoms_spec (ws := wsX4_has) B.pre
  have hown : s.vm.findClass RX4 = some m.cls := findClass_of_methodNamed B.named
  have hlocks := B.notSynchronized
  have hinX4 : ∀ w ∈ wsX40, w ∈ wsX4_has := by decide +kernel
  have hP : va_P G.1 vwCl [(mo, .inr (4, [.int tv, .ref mc, .ref mw, .ref mz, .ref mv, .ref mp, .ref mh])), (mc, .inl (gI G, 4, .inl (kz_z cs))), (mw, .inl (gJ G, 480, .inr (.inl mW))), (mz, .inl (gI G, 480, .inl (kz_z mZ))), (mv, .inl (gI G, 480, .inl mV)), (mp, .inl (gZ G, 3, .inl (kz_bo po))), (mh, .inl (gI G, 3, .inl (kz_pw pw)))] s.heap := hP
  have hl := lv_entry ([.ref mo, .int (nI ro), .int (nI (120 * ro + kk)), .long ww, .int (nI zz)]) (n := 6) (Nat.le_of_ble_eq_true rfl)
  rw [lg_entry_eq]
  generalize (lg_sl ([.ref mo, .int (nI ro), .int (nI (120 * ro + kk)), .long ww, .int (nI zz)]) ++ List.replicate (6 - (lg_sl ([.ref mo, .int (nI ro), .int (nI (120 * ro + kk)), .long ww, .int (nI zz)])).length) Slot.unset).toArray = ls at hl ⊢
  have hl : lv_has ls 6 [(0, .ref mo), (1, .int (nI ro)), (2, .int (nI (120 * ro + kk))), (3, .long ww), (5, .int (nI zz))] := hl
  have hcr := hcs ro
  refine lv_iload_n hx hb dX4_has_0 rfl (lv_at hl 2 rfl) ?_
  refine lv_bipush (v := 120) hx hb dX4_has_1 (by decide) ?_
  refine lv_iload_n hx hb dX4_has_3 rfl (lv_at hl 1 rfl) ?_
  refine lv_imul hx hb dX4_has_4 ?_
  refine kz_asi (y := nI (120 * ro)) (pk_mul 120 ro) ?_
  refine lv_aload_n hx hb dX4_has_5 rfl (lv_at hl 0 rfl) ?_
  refine va_get (D := G.1) (ci := 4) (v := .ref mc) (C := RX4) (T := TX4) (N := 7) hx hb hts hinX4 hown hK.1 hP 0 rfl rfl 1 (by decide) (hts (.fieldLink RX4 7 "ForkStoreModel" "counts" "[I") (by decide +kernel)) (fun _ h9 => h9) rfl dX4_has_6 ?_
  refine lv_iload_n hx hb dX4_has_9 rfl (lv_at hl 1 rfl) ?_
  refine kz_iald hx hb hK.1 hP 1 0 rfl rfl (k := ro) (by omega) (by decide) dX4_has_10 ?_
  refine kz_asi (y := nI (cs ro)) rfl ?_
  refine lv_iadd hx hb dX4_has_11 ?_
  refine kz_asi (y := nI (120 * ro + cs ro)) (nI_add _ _) ?_
  refine lv_icmp_ge (tgt := 30) hx hb dX4_has_12 (by decide) (fun c_1 => ?_) (fun c_1 => ?_)
  · have kc_1 : ¬ kk < cs ro := by
      have := (nI_leI (by omega) (by omega)).mp c_1
      omega
    refine lv_iconst (v := 0) hx hb dX4_has_30 (by decide) ?_
    exact W.zret (v := 0) hx hb hr rfl (fun t ht hW => ⟨_, rfl, (if_neg (fun h => kc_1 h.1)).symm, ht⟩) (fun _ h => nomatch h) dX4_has_31
  · have kc_1 : kk < cs ro := by
      have : ¬ 120 * ro + cs ro ≤ 120 * ro + kk := fun h => c_1 (nI_le h (by omega))
      omega
    refine lv_aload_n hx hb dX4_has_15 rfl (lv_at hl 0 rfl) ?_
    refine lv_iload_n hx hb dX4_has_16 rfl (lv_at hl 2 rfl) ?_
    refine lv_lload_n hx hb dX4_has_17 rfl (lv_at hl 3 rfl) ?_
    refine lv_iload hx hb dX4_has_18 (lv_at hl 4 rfl) ?_
    have hPc := hP.sub (ws' := [(mo, .inr (4, [.int tv, .ref mc, .ref mw, .ref mz, .ref mv, .ref mp, .ref mh])), (mc, .inl (gI G, 4, .inl (kz_z cs))), (mw, .inl (gJ G, 480, .inr (.inl mW))), (mz, .inl (gI G, 480, .inl (kz_z mZ))), (mv, .inl (gI G, 480, .inl mV)), (mp, .inl (gZ G, 3, .inl (kz_bo po))), (mh, .inl (gI G, 3, .inl (kz_pw pw)))]) [0, 1, 2, 3, 4, 5, 6] rfl
    refine kz_ci (v := kf_od (mW (120 * ro + kk)) (mZ (120 * ro + kk)) ww zz) (va_runV (As := [.int (nI (120 * ro + kk)), .long ww, .int (nI zz)]) (rest := []) ⟨hx, hb, hml, hown, hts⟩ (c_X4_order l G mo mc mw mz mv mp mh tv cs mW mZ mV po pw (120 * ro + kk) ww zz (by omega)) (cwV 3 hts gX4_has_X4_order rfl rfl rfl (by decide +kernel) ⟨Nat.le_of_ble_eq_true rfl, Nat.le_of_ble_eq_true rfl⟩) (kz_pv hK hPc (va_recv hK.1 hPc (ci := 4) (q0 := 0) rfl rfl)) rfl rfl hl.1 rfl (lv_room (Nat.le_of_ble_eq_true rfl)) dX4_has_20 ⟨Nat.zero_le _, Nat.zero_le _⟩).run ?_
    refine lv_if_ne (tgt := 30) hx hb dX4_has_23 (by decide) (fun c_2 => ?_) (fun c_2 => ?_)
    · refine lv_iconst (v := 0) hx hb dX4_has_30 (by decide) ?_
      exact W.zret (v := 0) hx hb hr rfl (fun t ht hW => ⟨_, rfl, (if_neg (fun h => c_2 ((kf_od_eq (hmz _) hzz).mpr h.2))).symm, ht⟩) (fun _ h => nomatch h) dX4_has_31
    · refine lv_iconst (v := 1) hx hb dX4_has_26 (by decide) ?_
      refine lv_goto (tgt := 31) hx hb dX4_has_27 (by decide) ?_
      exact W.zret (v := 1) hx hb hr rfl (fun t ht hW => ⟨_, rfl, (if_pos ⟨kc_1, (kf_od_eq (hmz _) hzz).mp c_2⟩).symm, ht⟩) (fun _ h => nomatch h) dX4_has_31

set_option maxHeartbeats 4000000 in
set_option maxRecDepth 100000 in
theorem c_X4_begins (l : Launch) (G : kz_G) (mo mc mw mz mv mp mh : Nat) (tv : Int32) (cs : Nat → Nat) (mW : Nat → Int64) (mZ : Nat → Nat) (mV : Nat → Int32) (po : Nat → Bool) (pw : Nat → Nat) (aa : Nat) (ww : Int64) (zz : Nat) (hmz : ∀ j, mZ j ≤ 8) (haa : aa < 480) (hzz : zz ≤ 8) : Met l yX4_begins wsX4_begins { frames := 1, cells := 0, slots := 0, locals := 22 } (kz_Pp G [.ref mo, .int (nI aa), .long ww, .int (nI zz)] [(mo, .inr (4, [.int tv, .ref mc, .ref mw, .ref mz, .ref mv, .ref mp, .ref mh])), (mc, .inl (gI G, 4, .inl (kz_z cs))), (mw, .inl (gJ G, 480, .inr (.inl mW))), (mz, .inl (gI G, 480, .inl (kz_z mZ))), (mv, .inl (gI G, 480, .inl mV)), (mp, .inl (gZ G, 3, .inl (kz_bo po))), (mh, .inl (gI G, 3, .inl (kz_pw pw)))]) (vp_Si (fun r => r = if kf_bg (mW aa) (mZ aa) ww zz then 1 else 0)) 0 0 (fun _ => False) := by
  refine Met.ofW (cc := cX4_begins) (maxL := 5) (ret := (some .boolean)) (by decide) rfl ?_
  intro p e s m args below meth c s₁ B hml hv
  obtain ⟨rfl, hP, hK⟩ := hv
  have hx := B.exec
  have hb := B.bytes
  have hr := B.returns
  have hts := atoms_spec (ws := wsX4_begins) B.pre
  have hown : s.vm.findClass RX4 = some m.cls := findClass_of_methodNamed B.named
  have hlocks := B.notSynchronized
  have hinX4 : ∀ w ∈ wsX40, w ∈ wsX4_begins := by decide +kernel
  have hP : va_P G.1 vwCl [(mo, .inr (4, [.int tv, .ref mc, .ref mw, .ref mz, .ref mv, .ref mp, .ref mh])), (mc, .inl (gI G, 4, .inl (kz_z cs))), (mw, .inl (gJ G, 480, .inr (.inl mW))), (mz, .inl (gI G, 480, .inl (kz_z mZ))), (mv, .inl (gI G, 480, .inl mV)), (mp, .inl (gZ G, 3, .inl (kz_bo po))), (mh, .inl (gI G, 3, .inl (kz_pw pw)))] s.heap := hP
  have hl := lv_entry ([.ref mo, .int (nI aa), .long ww, .int (nI zz)]) (n := 5) (Nat.le_of_ble_eq_true rfl)
  rw [lg_entry_eq]
  generalize (lg_sl ([.ref mo, .int (nI aa), .long ww, .int (nI zz)]) ++ List.replicate (5 - (lg_sl ([.ref mo, .int (nI aa), .long ww, .int (nI zz)])).length) Slot.unset).toArray = ls at hl ⊢
  have hl : lv_has ls 5 [(0, .ref mo), (1, .int (nI aa)), (2, .long ww), (4, .int (nI zz))] := hl
  refine lv_aload_n hx hb dX4_begins_0 rfl (lv_at hl 0 rfl) ?_
  refine va_get (D := G.1) (ci := 4) (v := .ref mz) (C := RX4) (T := TX4) (N := 7) hx hb hts hinX4 hown hK.1 hP 0 rfl rfl 3 (by decide) (hts (.fieldLink RX4 17 "ForkStoreModel" "sizes" "[I") (by decide +kernel)) (fun _ h9 => h9) rfl dX4_begins_1 ?_
  refine lv_iload_n hx hb dX4_begins_4 rfl (lv_at hl 1 rfl) ?_
  refine kz_iald hx hb hK.1 hP 3 0 rfl rfl (k := aa) (by omega) (by decide) dX4_begins_5 ?_
  refine kz_asi (y := nI (mZ aa)) rfl ?_
  refine lv_iload hx hb dX4_begins_6 (lv_at hl 3 rfl) ?_
  refine lv_icmp_lt (tgt := 31) hx hb dX4_begins_8 (by decide) (fun c_1 => ?_) (fun c_1 => ?_)
  · have kc_1 : ¬ zz ≤ mZ aa := fun h => absurd ((nI_ltI (by have := hmz aa; omega) (by omega)).mp c_1) (by omega)
    refine lv_iconst (v := 0) hx hb dX4_begins_31 (by decide) ?_
    exact W.zret (v := 0) hx hb hr rfl (fun t ht hW => ⟨_, rfl, (if_neg (fun h => kc_1 h.1)).symm, ht⟩) (fun _ h => nomatch h) dX4_begins_32
  · have kc_1 : zz ≤ mZ aa := by
      have : ¬ mZ aa < zz := fun h => c_1 (nI_lt h (by omega))
      omega
    refine lv_aload_n hx hb dX4_begins_11 rfl (lv_at hl 0 rfl) ?_
    refine va_get (D := G.1) (ci := 4) (v := .ref mw) (C := RX4) (T := TX4) (N := 7) hx hb hts hinX4 hown hK.1 hP 0 rfl rfl 2 (by decide) (hts (.fieldLink RX4 13 "ForkStoreModel" "words" "[J") (by decide +kernel)) (fun _ h9 => h9) rfl dX4_begins_12 ?_
    refine lv_iload_n hx hb dX4_begins_15 rfl (lv_at hl 1 rfl) ?_
    refine kz_lald hx hb hK.1 hP 2 1 rfl rfl (k := aa) (by omega) (by decide) dX4_begins_16 ?_
    refine lv_iload hx hb dX4_begins_17 (lv_at hl 3 rfl) ?_
    refine kz_cl (v := kf_cut (mW aa) zz) (va_runS (As := [.long (mW aa), .int (nI zz)]) (rest := []) ⟨hx, hb, hml, hown, hts⟩ (c_X4_cut l (mW aa) zz (by omega)) (va_cwS 2 hts gX4_begins_X4_cut rfl rfl rfl (by decide +kernel) ⟨Nat.le_of_ble_eq_true rfl, Nat.le_of_ble_eq_true rfl⟩) kz_ps0 rfl rfl hl.1 rfl (lv_room (Nat.le_of_ble_eq_true rfl)) dX4_begins_19 ⟨Nat.zero_le _, Nat.zero_le _⟩).run ?_
    refine lv_lload_n hx hb dX4_begins_22 rfl (lv_at hl 2 rfl) ?_
    refine W.lcmp hx hb dX4_begins_23 ?_
    refine lv_if_ne (tgt := 31) hx hb dX4_begins_24 (by decide) (fun c_2 => ?_) (fun c_2 => ?_)
    · refine lv_iconst (v := 0) hx hb dX4_begins_31 (by decide) ?_
      exact W.zret (v := 0) hx hb hr rfl (fun t ht hW => ⟨_, rfl, (if_neg (fun h => c_2 ((lg_cmp_eq _ _).mpr h.2))).symm, ht⟩) (fun _ h => nomatch h) dX4_begins_32
    · refine lv_iconst (v := 1) hx hb dX4_begins_27 (by decide) ?_
      refine lv_goto (tgt := 32) hx hb dX4_begins_28 (by decide) ?_
      exact W.zret (v := 1) hx hb hr rfl (fun t ht hW => ⟨_, rfl, (if_pos ⟨kc_1, (lg_cmp_eq _ _).mp c_2⟩).symm, ht⟩) (fun _ h => nomatch h) dX4_begins_32

set_option maxHeartbeats 4000000 in
set_option maxRecDepth 100000 in
theorem c_X4_copy (l : Launch) (G : kz_G) (mo mc mw mz mv mp mh : Nat) (tv : Int32) (cs : Nat → Nat) (mW : Nat → Int64) (mZ : Nat → Nat) (mV : Nat → Int32) (po : Nat → Bool) (pw : Nat → Nat) (aa bb : Nat) (sz : Nat) (haa : aa < 480) (hbb : bb < 480) : Met l yX4_copy wsX4_copy { frames := 0, cells := 0, slots := 0, locals := 0 } (kz_Pm G [.ref mo, .int (nI aa), .int (nI bb)] [(mo, .inr (4, [.int tv, .ref mc, .ref mw, .ref mz, .ref mv, .ref mp, .ref mh])), (mc, .inl (gI G, 4, .inl (kz_z cs))), (mw, .inl (gJ G, 480, .inr (.inl mW))), (mz, .inl (gI G, 480, .inl (kz_z mZ))), (mv, .inl (gI G, 480, .inl mV)), (mp, .inl (gZ G, 3, .inl (kz_bo po))), (mh, .inl (gI G, 3, .inl (kz_pw pw)))] sz) (kz_Qv G (fun w => w = [(mo, .inr (4, [.int tv, .ref mc, .ref mw, .ref mz, .ref mv, .ref mp, .ref mh])), (mc, .inl (gI G, 4, .inl (kz_z cs))), (mw, .inl (gJ G, 480, .inr (.inl (vp_updL mW bb (mW aa))))), (mz, .inl (gI G, 480, .inl (kz_z (kz_un mZ bb (mZ aa))))), (mv, .inl (gI G, 480, .inl (upd mV bb (mV aa)))), (mp, .inl (gZ G, 3, .inl (kz_bo po))), (mh, .inl (gI G, 3, .inl (kz_pw pw)))]) (va_A [(mo, .inr (4, [.int tv, .ref mc, .ref mw, .ref mz, .ref mv, .ref mp, .ref mh])), (mc, .inl (gI G, 4, .inl (kz_z cs))), (mw, .inl (gJ G, 480, .inr (.inl mW))), (mz, .inl (gI G, 480, .inl (kz_z mZ))), (mv, .inl (gI G, 480, .inl mV)), (mp, .inl (gZ G, 3, .inl (kz_bo po))), (mh, .inl (gI G, 3, .inl (kz_pw pw)))] sz)) 0 0 (va_A [(mo, .inr (4, [.int tv, .ref mc, .ref mw, .ref mz, .ref mv, .ref mp, .ref mh])), (mc, .inl (gI G, 4, .inl (kz_z cs))), (mw, .inl (gJ G, 480, .inr (.inl mW))), (mz, .inl (gI G, 480, .inl (kz_z mZ))), (mv, .inl (gI G, 480, .inl mV)), (mp, .inl (gZ G, 3, .inl (kz_bo po))), (mh, .inl (gI G, 3, .inl (kz_pw pw)))] sz) := by
  refine Met.ofW (cc := cX4_copy) (maxL := 3) (ret := none) (by decide) rfl ?_
  intro p e s m args below meth c s₁ B hml hv
  obtain ⟨rfl, hsz, hP, hK, hD0⟩ := hv
  have hx := B.exec
  have hb := B.bytes
  have hr := B.returns
  have hts := atoms_spec (ws := wsX4_copy) B.pre
  have hown : s.vm.findClass RX4 = some m.cls := findClass_of_methodNamed B.named
  have hlocks := B.notSynchronized
  have hinX4 : ∀ w ∈ wsX40, w ∈ wsX4_copy := by decide +kernel
  subst hsz
  have hD := hD0.self (sz := s.heap.size)
  generalize hAe : va_A [(mo, .inr (4, [.int tv, .ref mc, .ref mw, .ref mz, .ref mv, .ref mp, .ref mh])), (mc, .inl (gI G, 4, .inl (kz_z cs))), (mw, .inl (gJ G, 480, .inr (.inl mW))), (mz, .inl (gI G, 480, .inl (kz_z mZ))), (mv, .inl (gI G, 480, .inl mV)), (mp, .inl (gZ G, 3, .inl (kz_bo po))), (mh, .inl (gI G, 3, .inl (kz_pw pw)))] s.heap.size = A at hD ⊢
  have hA : ∀ q : Nat, s.heap.size ≤ q → A q := fun q h => by rw [← hAe]; exact Or.inr h
  have hS : va_S A s.heap s.heap [] := va_S.rf
  have hP : va_P G.1 vwCl [(mo, .inr (4, [.int tv, .ref mc, .ref mw, .ref mz, .ref mv, .ref mp, .ref mh])), (mc, .inl (gI G, 4, .inl (kz_z cs))), (mw, .inl (gJ G, 480, .inr (.inl mW))), (mz, .inl (gI G, 480, .inl (kz_z mZ))), (mv, .inl (gI G, 480, .inl mV)), (mp, .inl (gZ G, 3, .inl (kz_bo po))), (mh, .inl (gI G, 3, .inl (kz_pw pw)))] s.heap := hP
  have hl := lv_entry ([.ref mo, .int (nI aa), .int (nI bb)]) (n := 3) (Nat.le_of_ble_eq_true rfl)
  rw [lg_entry_eq]
  generalize (lg_sl ([.ref mo, .int (nI aa), .int (nI bb)]) ++ List.replicate (3 - (lg_sl ([.ref mo, .int (nI aa), .int (nI bb)])).length) Slot.unset).toArray = ls at hl ⊢
  have hl : lv_has ls 3 [(0, .ref mo), (1, .int (nI aa)), (2, .int (nI bb))] := hl
  refine lv_aload_n hx hb dX4_copy_0 rfl (lv_at hl 0 rfl) ?_
  refine va_get (D := G.1) (ci := 4) (v := .ref mw) (C := RX4) (T := TX4) (N := 7) hx hb hts hinX4 hown hK.1 hP 0 rfl rfl 2 (by decide) (hts (.fieldLink RX4 13 "ForkStoreModel" "words" "[J") (by decide +kernel)) (fun _ h9 => h9) rfl dX4_copy_1 ?_
  refine lv_iload_n hx hb dX4_copy_4 rfl (lv_at hl 2 rfl) ?_
  refine lv_aload_n hx hb dX4_copy_5 rfl (lv_at hl 0 rfl) ?_
  refine va_get (D := G.1) (ci := 4) (v := .ref mw) (C := RX4) (T := TX4) (N := 7) hx hb hts hinX4 hown hK.1 hP 0 rfl rfl 2 (by decide) (hts (.fieldLink RX4 13 "ForkStoreModel" "words" "[J") (by decide +kernel)) (fun _ h9 => h9) rfl dX4_copy_6 ?_
  refine lv_iload_n hx hb dX4_copy_9 rfl (lv_at hl 1 rfl) ?_
  refine kz_lald hx hb hK.1 hP 2 1 rfl rfl (k := aa) (by omega) (by decide) dX4_copy_10 ?_
  refine kz_last hx hb hK.1 hP hD hS 2 1 rfl rfl (k := bb) (by omega) (by decide) dX4_copy_11 (fun H locs hP hD hS => ?_)
  have hP : va_P G.1 vwCl [(mo, .inr (4, [.int tv, .ref mc, .ref mw, .ref mz, .ref mv, .ref mp, .ref mh])), (mc, .inl (gI G, 4, .inl (kz_z cs))), (mw, .inl (gJ G, 480, .inr (.inl (vp_updL mW bb (mW aa))))), (mz, .inl (gI G, 480, .inl (kz_z mZ))), (mv, .inl (gI G, 480, .inl mV)), (mp, .inl (gZ G, 3, .inl (kz_bo po))), (mh, .inl (gI G, 3, .inl (kz_pw pw)))] H := hP
  have hD : va_D A [(mo, .inr (4, [.int tv, .ref mc, .ref mw, .ref mz, .ref mv, .ref mp, .ref mh])), (mc, .inl (gI G, 4, .inl (kz_z cs))), (mw, .inl (gJ G, 480, .inr (.inl (vp_updL mW bb (mW aa))))), (mz, .inl (gI G, 480, .inl (kz_z mZ))), (mv, .inl (gI G, 480, .inl mV)), (mp, .inl (gZ G, 3, .inl (kz_bo po))), (mh, .inl (gI G, 3, .inl (kz_pw pw)))] := hD
  refine lv_aload_n hx hb dX4_copy_12 rfl (lv_at hl 0 rfl) ?_
  refine va_get (D := G.1) (ci := 4) (v := .ref mz) (C := RX4) (T := TX4) (N := 7) hx hb hts hinX4 hown hK.1 hP 0 rfl rfl 3 (by decide) (hts (.fieldLink RX4 17 "ForkStoreModel" "sizes" "[I") (by decide +kernel)) (fun _ h9 => h9) rfl dX4_copy_13 ?_
  refine lv_iload_n hx hb dX4_copy_16 rfl (lv_at hl 2 rfl) ?_
  refine lv_aload_n hx hb dX4_copy_17 rfl (lv_at hl 0 rfl) ?_
  refine va_get (D := G.1) (ci := 4) (v := .ref mz) (C := RX4) (T := TX4) (N := 7) hx hb hts hinX4 hown hK.1 hP 0 rfl rfl 3 (by decide) (hts (.fieldLink RX4 17 "ForkStoreModel" "sizes" "[I") (by decide +kernel)) (fun _ h9 => h9) rfl dX4_copy_18 ?_
  refine lv_iload_n hx hb dX4_copy_21 rfl (lv_at hl 1 rfl) ?_
  refine kz_iald hx hb hK.1 hP 3 0 rfl rfl (k := aa) (by omega) (by decide) dX4_copy_22 ?_
  refine kz_asi (y := nI (mZ aa)) rfl ?_
  refine kz_iast hx hb hK.1 hP hD hS 3 0 rfl rfl (k := bb) (by omega) (by decide) dX4_copy_23 (fun H locs hP hD hS => ?_)
  have hP : va_P G.1 vwCl [(mo, .inr (4, [.int tv, .ref mc, .ref mw, .ref mz, .ref mv, .ref mp, .ref mh])), (mc, .inl (gI G, 4, .inl (kz_z cs))), (mw, .inl (gJ G, 480, .inr (.inl (vp_updL mW bb (mW aa))))), (mz, .inl (gI G, 480, .inl (upd (kz_z mZ) bb (nI (mZ aa))))), (mv, .inl (gI G, 480, .inl mV)), (mp, .inl (gZ G, 3, .inl (kz_bo po))), (mh, .inl (gI G, 3, .inl (kz_pw pw)))] H := hP
  have hD : va_D A [(mo, .inr (4, [.int tv, .ref mc, .ref mw, .ref mz, .ref mv, .ref mp, .ref mh])), (mc, .inl (gI G, 4, .inl (kz_z cs))), (mw, .inl (gJ G, 480, .inr (.inl (vp_updL mW bb (mW aa))))), (mz, .inl (gI G, 480, .inl (upd (kz_z mZ) bb (nI (mZ aa))))), (mv, .inl (gI G, 480, .inl mV)), (mp, .inl (gZ G, 3, .inl (kz_bo po))), (mh, .inl (gI G, 3, .inl (kz_pw pw)))] := hD
  rw [show upd (kz_z mZ) bb (nI (mZ aa)) = kz_z (kz_un mZ bb (mZ aa)) from (kz_zu _ _ _).symm] at hP hD
  have hP : va_P G.1 vwCl [(mo, .inr (4, [.int tv, .ref mc, .ref mw, .ref mz, .ref mv, .ref mp, .ref mh])), (mc, .inl (gI G, 4, .inl (kz_z cs))), (mw, .inl (gJ G, 480, .inr (.inl (vp_updL mW bb (mW aa))))), (mz, .inl (gI G, 480, .inl (kz_z (kz_un mZ bb (mZ aa))))), (mv, .inl (gI G, 480, .inl mV)), (mp, .inl (gZ G, 3, .inl (kz_bo po))), (mh, .inl (gI G, 3, .inl (kz_pw pw)))] H := hP
  have hD : va_D A [(mo, .inr (4, [.int tv, .ref mc, .ref mw, .ref mz, .ref mv, .ref mp, .ref mh])), (mc, .inl (gI G, 4, .inl (kz_z cs))), (mw, .inl (gJ G, 480, .inr (.inl (vp_updL mW bb (mW aa))))), (mz, .inl (gI G, 480, .inl (kz_z (kz_un mZ bb (mZ aa))))), (mv, .inl (gI G, 480, .inl mV)), (mp, .inl (gZ G, 3, .inl (kz_bo po))), (mh, .inl (gI G, 3, .inl (kz_pw pw)))] := hD
  refine lv_aload_n hx hb dX4_copy_24 rfl (lv_at hl 0 rfl) ?_
  refine va_get (D := G.1) (ci := 4) (v := .ref mv) (C := RX4) (T := TX4) (N := 7) hx hb hts hinX4 hown hK.1 hP 0 rfl rfl 4 (by decide) (hts (.fieldLink RX4 20 "ForkStoreModel" "values" "[I") (by decide +kernel)) (fun _ h9 => h9) rfl dX4_copy_25 ?_
  refine lv_iload_n hx hb dX4_copy_28 rfl (lv_at hl 2 rfl) ?_
  refine lv_aload_n hx hb dX4_copy_29 rfl (lv_at hl 0 rfl) ?_
  refine va_get (D := G.1) (ci := 4) (v := .ref mv) (C := RX4) (T := TX4) (N := 7) hx hb hts hinX4 hown hK.1 hP 0 rfl rfl 4 (by decide) (hts (.fieldLink RX4 20 "ForkStoreModel" "values" "[I") (by decide +kernel)) (fun _ h9 => h9) rfl dX4_copy_30 ?_
  refine lv_iload_n hx hb dX4_copy_33 rfl (lv_at hl 1 rfl) ?_
  refine kz_iald hx hb hK.1 hP 4 0 rfl rfl (k := aa) (by omega) (by decide) dX4_copy_34 ?_
  refine kz_iast hx hb hK.1 hP hD hS 4 0 rfl rfl (k := bb) (by omega) (by decide) dX4_copy_35 (fun H locs hP hD hS => ?_)
  have hP : va_P G.1 vwCl [(mo, .inr (4, [.int tv, .ref mc, .ref mw, .ref mz, .ref mv, .ref mp, .ref mh])), (mc, .inl (gI G, 4, .inl (kz_z cs))), (mw, .inl (gJ G, 480, .inr (.inl (vp_updL mW bb (mW aa))))), (mz, .inl (gI G, 480, .inl (kz_z (kz_un mZ bb (mZ aa))))), (mv, .inl (gI G, 480, .inl (upd mV bb (mV aa)))), (mp, .inl (gZ G, 3, .inl (kz_bo po))), (mh, .inl (gI G, 3, .inl (kz_pw pw)))] H := hP
  have hD : va_D A [(mo, .inr (4, [.int tv, .ref mc, .ref mw, .ref mz, .ref mv, .ref mp, .ref mh])), (mc, .inl (gI G, 4, .inl (kz_z cs))), (mw, .inl (gJ G, 480, .inr (.inl (vp_updL mW bb (mW aa))))), (mz, .inl (gI G, 480, .inl (kz_z (kz_un mZ bb (mZ aa))))), (mv, .inl (gI G, 480, .inl (upd mV bb (mV aa)))), (mp, .inl (gZ G, 3, .inl (kz_bo po))), (mh, .inl (gI G, 3, .inl (kz_pw pw)))] := hD
  exact W.vret hx hb hr (fun t ht hW => ⟨⟨([(mo, .inr (4, [.int tv, .ref mc, .ref mw, .ref mz, .ref mv, .ref mp, .ref mh])), (mc, .inl (gI G, 4, .inl (kz_z cs))), (mw, .inl (gJ G, 480, .inr (.inl (vp_updL mW bb (mW aa))))), (mz, .inl (gI G, 480, .inl (kz_z (kz_un mZ bb (mZ aa))))), (mv, .inl (gI G, 480, .inl (upd mV bb (mV aa)))), (mp, .inl (gZ G, 3, .inl (kz_bo po))), (mh, .inl (gI G, 3, .inl (kz_pw pw)))] : va_W), rfl, rfl, by rw [← ht] at hP; exact hP⟩, hS.F ht⟩) hS.2.2 dX4_copy_36

set_option maxHeartbeats 4000000 in
set_option maxRecDepth 100000 in
theorem c_X4_isOpen (l : Launch) (G : kz_G) (mo mc mw mz mv mp mh : Nat) (tv : Int32) (cs : Nat → Nat) (mW : Nat → Int64) (mZ : Nat → Nat) (mV : Nat → Int32) (po : Nat → Bool) (pw : Nat → Nat) (rr : Int32) : Met l yX4_isOpen wsX4_isOpen { frames := 0, cells := 0, slots := 0, locals := 0 } (kz_Pp G [.ref mo, .int rr] [(mo, .inr (4, [.int tv, .ref mc, .ref mw, .ref mz, .ref mv, .ref mp, .ref mh])), (mc, .inl (gI G, 4, .inl (kz_z cs))), (mw, .inl (gJ G, 480, .inr (.inl mW))), (mz, .inl (gI G, 480, .inl (kz_z mZ))), (mv, .inl (gI G, 480, .inl mV)), (mp, .inl (gZ G, 3, .inl (kz_bo po))), (mh, .inl (gI G, 3, .inl (kz_pw pw)))]) (vp_Si (fun r => r = kf_b (kf_mop po rr))) 0 0 (fun _ => False) := by
  refine Met.ofW (cc := cX4_isOpen) (maxL := 2) (ret := (some .boolean)) (by decide) rfl ?_
  intro p e s m args below meth c s₁ B hml hv
  obtain ⟨rfl, hP, hK⟩ := hv
  have hx := B.exec
  have hb := B.bytes
  have hr := B.returns
  have hts := atoms_spec (ws := wsX4_isOpen) B.pre
  have hown : s.vm.findClass RX4 = some m.cls := findClass_of_methodNamed B.named
  have hlocks := B.notSynchronized
  have hinX4 : ∀ w ∈ wsX40, w ∈ wsX4_isOpen := by decide +kernel
  have hP : va_P G.1 vwCl [(mo, .inr (4, [.int tv, .ref mc, .ref mw, .ref mz, .ref mv, .ref mp, .ref mh])), (mc, .inl (gI G, 4, .inl (kz_z cs))), (mw, .inl (gJ G, 480, .inr (.inl mW))), (mz, .inl (gI G, 480, .inl (kz_z mZ))), (mv, .inl (gI G, 480, .inl mV)), (mp, .inl (gZ G, 3, .inl (kz_bo po))), (mh, .inl (gI G, 3, .inl (kz_pw pw)))] s.heap := hP
  have hl := lv_entry ([.ref mo, .int rr]) (n := 2) (Nat.le_of_ble_eq_true rfl)
  rw [lg_entry_eq]
  generalize (lg_sl ([.ref mo, .int rr]) ++ List.replicate (2 - (lg_sl ([.ref mo, .int rr])).length) Slot.unset).toArray = ls at hl ⊢
  have hl : lv_has ls 2 [(0, .ref mo), (1, .int rr)] := hl
  refine lv_iload_n hx hb dX4_isOpen_0 rfl (lv_at hl 1 rfl) ?_
  refine lv_if_lt (tgt := 22) hx hb dX4_isOpen_1 (by decide) (fun c_1 => ?_) (fun c_1 => ?_)
  · refine lv_iconst (v := 0) hx hb dX4_isOpen_22 (by decide) ?_
    exact W.zret (v := 0) hx hb hr rfl (fun t ht hW => ⟨_, rfl, (by unfold kf_mop; rw [if_neg (fun h => absurd c_1 (Int32.not_lt.mpr h.1))]; rfl), ht⟩) (fun _ h => nomatch h) dX4_isOpen_23
  · refine lv_iload_n hx hb dX4_isOpen_4 rfl (lv_at hl 1 rfl) ?_
    refine lv_iconst (v := 3) hx hb dX4_isOpen_5 (by decide) ?_
    refine lv_icmp_ge (tgt := 22) hx hb dX4_isOpen_6 (by decide) (fun c_2 => ?_) (fun c_2 => ?_)
    · refine lv_iconst (v := 0) hx hb dX4_isOpen_22 (by decide) ?_
      exact W.zret (v := 0) hx hb hr rfl (fun t ht hW => ⟨_, rfl, (by unfold kf_mop; rw [if_neg (fun h => absurd h.2 (Int32.not_lt.mpr c_2))]; rfl), ht⟩) (fun _ h => nomatch h) dX4_isOpen_23
    · obtain ⟨jj, hjj, rfl⟩ := kf_pl (nn := 3) (by decide) ⟨Int32.not_lt.mp c_1, Int32.not_le.mp c_2⟩
      refine lv_aload_n hx hb dX4_isOpen_9 rfl (lv_at hl 0 rfl) ?_
      refine va_get (D := G.1) (ci := 4) (v := .ref mp) (C := RX4) (T := TX4) (N := 7) hx hb hts hinX4 hown hK.1 hP 0 rfl rfl 5 (by decide) (hts (.fieldLink RX4 23 "ForkStoreModel" "open" "[Z") (by decide +kernel)) (fun _ h9 => h9) rfl dX4_isOpen_10 ?_
      refine lv_iload_n hx hb dX4_isOpen_13 rfl (lv_at hl 1 rfl) ?_
      refine kz_zald hx hb hK.1 hP 5 2 rfl rfl (k := jj) (by omega) (by decide) dX4_isOpen_14 ?_
      refine kz_asi (y := kf_b (po jj)) rfl ?_
      refine lv_if_eq (tgt := 22) hx hb dX4_isOpen_15 (by decide) (fun c_3 => ?_) (fun c_3 => ?_)
      · have kc_3 : po jj = false := kf_b_0.mp c_3
        refine lv_iconst (v := 0) hx hb dX4_isOpen_22 (by decide) ?_
        exact W.zret (v := 0) hx hb hr rfl (fun t ht hW => ⟨_, rfl, (by rw [kf_mop_n hjj, kc_3]; rfl), ht⟩) (fun _ h => nomatch h) dX4_isOpen_23
      · have kc_3 : po jj = true := by
          cases h9 : po jj
          · exact absurd (by rw [h9]; rfl) c_3
          · rfl
        refine lv_iconst (v := 1) hx hb dX4_isOpen_18 (by decide) ?_
        refine lv_goto (tgt := 23) hx hb dX4_isOpen_19 (by decide) ?_
        exact W.zret (v := 1) hx hb hr rfl (fun t ht hW => ⟨_, rfl, (by rw [kf_mop_n hjj, kc_3]; rfl), ht⟩) (fun _ h => nomatch h) dX4_isOpen_23
