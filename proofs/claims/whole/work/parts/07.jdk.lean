/-- the unsigned value -/
def un (a : Int64) : Nat := a.toBitVec.toNat
/-- Long.compareUnsigned -/
def kf_cu (a b : Int64) : Int32 := if un a < un b then -1 else if a = b then 0 else 1
theorem un_inj {a b : Int64} (h : un a = un b) : a = b := by
  have h1 : a.toBitVec = b.toBitVec := BitVec.eq_of_toNat_eq h
  exact Int64.toBitVec_inj.mp h1
theorem un_min (a : Int64) : (a + (-9223372036854775808)).toInt = (un a : Int) - 9223372036854775808 := by
  have h2 := a.toBitVec.isLt
  have e1 : (a + (-9223372036854775808 : Int64)).toInt = (a.toBitVec + (-9223372036854775808 : Int64).toBitVec).toInt := rfl
  rw [e1, BitVec.toInt_eq_toNat_bmod, BitVec.toNat_add]
  have e2 : ((-9223372036854775808 : Int64).toBitVec).toNat = 9223372036854775808 := by decide
  rw [e2]
  unfold un
  simp only [Int.bmod_def]
  omega
theorem un_lt {a b : Int64} : (a + (-9223372036854775808)) < (b + (-9223372036854775808)) ↔ un a < un b := by
  rw [Int64.lt_iff_toInt_lt, un_min, un_min]
  omega
theorem un_eq {a b : Int64} : (a + (-9223372036854775808)) = (b + (-9223372036854775808)) ↔ a = b := by
  constructor
  · intro h
    apply un_inj
    have h1 := un_min a
    have h2 := un_min b
    rw [h] at h1
    omega
  · rintro rfl
    rfl

set_option maxHeartbeats 4000000 in
set_option maxRecDepth 100000 in
theorem c_J13_compare_74951 (l : Launch) (a b : Int64) : Met l yJ13_compare_74951 wsJ13_compare_74951 { frames := 0, cells := 0, slots := 0, locals := 0 } (kz_P0 [.long a, .long b]) (vp_Si (fun r => r = if a < b then -1 else if a = b then 0 else 1)) 0 0 (fun _ => False) := by
  refine Met.ofW (cc := cJ13_compare_74951) (maxL := 4) (ret := (some .int)) (by decide) rfl ?_
  intro p e s m args below meth c s₁ B hml hv
  obtain ⟨rfl, -⟩ := hv
  have hx := B.exec
  have hb := B.bytes
  have hr := B.returns
  have hts := atoms_spec (ws := wsJ13_compare_74951) B.pre
  have hown : s.vm.findClass RJ13 = some m.cls := findClass_of_methodNamed B.named
  have hlocks := B.notSynchronized
  have hl := lv_entry ([.long a, .long b]) (n := 4) (Nat.le_of_ble_eq_true rfl)
  rw [lg_entry_eq]
  generalize (lg_sl ([.long a, .long b]) ++ List.replicate (4 - (lg_sl ([.long a, .long b])).length) Slot.unset).toArray = ls at hl ⊢
  have hl : lv_has ls 4 [(0, .long a), (2, .long b)] := hl
  refine lv_lload_n hx hb dJ13_compare_74951_0 rfl (lv_at hl 0 rfl) ?_
  refine lv_lload_n hx hb dJ13_compare_74951_1 rfl (lv_at hl 1 rfl) ?_
  refine W.lcmp hx hb dJ13_compare_74951_2 ?_
  refine lv_if_ge (tgt := 10) hx hb dJ13_compare_74951_3 (by decide) (fun c_1 => ?_) (fun c_1 => ?_)
  · refine lv_lload_n hx hb dJ13_compare_74951_10 rfl (lv_at hl 0 rfl) ?_
    refine lv_lload_n hx hb dJ13_compare_74951_11 rfl (lv_at hl 1 rfl) ?_
    refine W.lcmp hx hb dJ13_compare_74951_12 ?_
    refine lv_if_ne (tgt := 20) hx hb dJ13_compare_74951_13 (by decide) (fun c_2 => ?_) (fun c_2 => ?_)
    · refine lv_iconst (v := 1) hx hb dJ13_compare_74951_20 (by decide) ?_
      exact W.iret (v := 1) hx hb hr (fun t ht hW => ⟨_, rfl, by rw [if_neg ((fun h => absurd ((lg_cmp_ge a b).mp c_1) (Int64.not_le.mpr h))), if_neg (fun h => c_2 ((lg_cmp_eq a b).mpr h))], ht⟩) (fun _ h => nomatch h) dJ13_compare_74951_21
    · refine lv_iconst (v := 0) hx hb dJ13_compare_74951_16 (by decide) ?_
      refine lv_goto (tgt := 21) hx hb dJ13_compare_74951_17 (by decide) ?_
      exact W.iret (v := 0) hx hb hr (fun t ht hW => ⟨_, rfl, by rw [if_neg ((fun h => absurd ((lg_cmp_ge a b).mp c_1) (Int64.not_le.mpr h))), if_pos ((lg_cmp_eq a b).mp c_2)], ht⟩) (fun _ h => nomatch h) dJ13_compare_74951_21
  · refine lv_iconst (v := (-1)) hx hb dJ13_compare_74951_6 (by decide) ?_
    refine lv_goto (tgt := 21) hx hb dJ13_compare_74951_7 (by decide) ?_
    exact W.iret (v := (-1)) hx hb hr (fun t ht hW => ⟨_, rfl, by rw [if_pos ((show a < b from by rcases Decidable.em (a < b) with h | h; exact h; exact absurd ((lg_cmp_ge a b).mpr (Int64.not_lt.mp h)) c_1))], ht⟩) (fun _ h => nomatch h) dJ13_compare_74951_21

set_option maxHeartbeats 4000000 in
set_option maxRecDepth 100000 in
theorem c_J13_compareUnsigned_74951 (l : Launch) (a b : Int64) : Met l yJ13_compareUnsigned_74951 wsJ13_compareUnsigned_74951 { frames := 1, cells := 0, slots := 0, locals := 23 } (kz_P0 [.long a, .long b]) (vp_Si (fun r => r = kf_cu a b)) 0 0 (fun _ => False) := by
  refine Met.ofW (cc := cJ13_compareUnsigned_74951) (maxL := 4) (ret := (some .int)) (by decide) rfl ?_
  intro p e s m args below meth c s₁ B hml hv
  obtain ⟨rfl, -⟩ := hv
  have hx := B.exec
  have hb := B.bytes
  have hr := B.returns
  have hts := atoms_spec (ws := wsJ13_compareUnsigned_74951) B.pre
  have hown : s.vm.findClass RJ13 = some m.cls := findClass_of_methodNamed B.named
  have hlocks := B.notSynchronized
  have hl := lv_entry ([.long a, .long b]) (n := 4) (Nat.le_of_ble_eq_true rfl)
  rw [lg_entry_eq]
  generalize (lg_sl ([.long a, .long b]) ++ List.replicate (4 - (lg_sl ([.long a, .long b])).length) Slot.unset).toArray = ls at hl ⊢
  have hl : lv_has ls 4 [(0, .long a), (2, .long b)] := hl
  refine lv_lload_n hx hb dJ13_compareUnsigned_74951_0 rfl (lv_at hl 0 rfl) ?_
  refine lv_ldc2 (v := (-9223372036854775808)) hx hb hown (hts (.constantLong RJ13 168 (-9223372036854775808)) (by decide +kernel)) dJ13_compareUnsigned_74951_1 ?_
  refine lv_ladd hx hb dJ13_compareUnsigned_74951_4 ?_
  refine lv_lload_n hx hb dJ13_compareUnsigned_74951_5 rfl (lv_at hl 1 rfl) ?_
  refine lv_ldc2 (v := (-9223372036854775808)) hx hb hown (hts (.constantLong RJ13 168 (-9223372036854775808)) (by decide +kernel)) dJ13_compareUnsigned_74951_6 ?_
  refine lv_ladd hx hb dJ13_compareUnsigned_74951_9 ?_
  refine kz_ci (v := if a + (-9223372036854775808) < b + (-9223372036854775808) then -1 else if a + (-9223372036854775808) = b + (-9223372036854775808) then 0 else 1) (va_runS (As := [.long (a + (-9223372036854775808)), .long (b + (-9223372036854775808))]) (rest := []) ⟨hx, hb, hml, hown, hts⟩ (c_J13_compare_74951 l (a + (-9223372036854775808)) (b + (-9223372036854775808))) (va_cwS 2 hts gJ13_compareUnsigned_74951_J13_compare_74951 rfl rfl rfl (by decide +kernel) ⟨Nat.le_of_ble_eq_true rfl, Nat.le_of_ble_eq_true rfl⟩) kz_ps0 rfl rfl hl.1 rfl (lv_room (Nat.le_of_ble_eq_true rfl)) dJ13_compareUnsigned_74951_10 ⟨Nat.zero_le _, Nat.zero_le _⟩).run ?_
  exact W.iret (v := if a + (-9223372036854775808) < b + (-9223372036854775808) then -1 else if a + (-9223372036854775808) = b + (-9223372036854775808) then 0 else 1) hx hb hr (fun t ht hW => ⟨_, rfl, by simp only [kf_cu, un_lt, un_eq], ht⟩) (fun _ h => nomatch h) dJ13_compareUnsigned_74951_13
