theorem kf_row_0 {α : Type} (f : Nat → α) : kf_row f 0 = f := by
  funext j
  unfold kf_row
  rw [Nat.mul_zero, Nat.zero_add]
theorem kf_okc (nv : Int32) : (∃ zz : Nat, zz ≤ 8 ∧ nv = nI zz) ∨ ¬ (0 ≤ nv ∧ nv ≤ 8) := by
  rcases Decidable.em (0 ≤ nv ∧ nv ≤ 8) with h | h
  · exact Or.inl (kf_ok_nat h)
  · exact Or.inr h
theorem kf_up_N (f : Nat → Nat) {i n : Nat} (h0 : 0 < i) (hi : i ≤ n) : kf_up f (i - 1) n = kz_un (kf_up f i n) i (kf_up f i n (i - 1)) := by
  funext j
  unfold kz_un kf_up
  by_cases h : j = i
  · subst h
    rw [if_pos (by omega), if_pos rfl, if_neg (by omega)]
  · rw [if_neg h]
    by_cases h2 : i < j ∧ j ≤ n
    · rw [if_pos (by omega), if_pos h2]
    · rw [if_neg (by omega), if_neg h2]
theorem kf_dn_N (f : Nat → Nat) {k i : Nat} (h : k ≤ i) : kf_dn f k (i + 1) = kz_un (kf_dn f k i) i (kf_dn f k i (i + 1)) := by
  funext j
  unfold kz_un kf_dn
  by_cases hj : j = i
  · subst hj
    rw [if_pos (by omega), if_pos rfl, if_neg (by omega)]
  · rw [if_neg hj]
    by_cases h2 : k ≤ j ∧ j < i
    · rw [if_pos (by omega), if_pos h2]
    · rw [if_neg (by omega), if_neg h2]

set_option maxHeartbeats 4000000 in
set_option maxRecDepth 100000 in
theorem c_X4_place0 (l : Launch) (G : kz_G) (mo mc mw mz mv mp mh : Nat) (tv : Int32) (cs : Nat → Nat) (mW : Nat → Int64) (mZ : Nat → Nat) (mV : Nat → Int32) (po : Nat → Bool) (pw : Nat → Nat) (ww : Int64) (zz : Nat) (hcs : ∀ j, cs j ≤ 120) (hmz : ∀ j, mZ j ≤ 8) (hzz : zz ≤ 8) : Met l yX4_place wsX4_place { frames := 1, cells := 0, slots := 0, locals := 26 } (kz_Pp G [.ref mo, .int 0, .long ww, .int (nI zz)] [(mo, .inr (4, [.int tv, .ref mc, .ref mw, .ref mz, .ref mv, .ref mp, .ref mh])), (mc, .inl (gI G, 4, .inl (kz_z cs))), (mw, .inl (gJ G, 480, .inr (.inl mW))), (mz, .inl (gI G, 480, .inl (kz_z mZ))), (mv, .inl (gI G, 480, .inl mV)), (mp, .inl (gZ G, 3, .inl (kz_bo po))), (mh, .inl (gI G, 3, .inl (kz_pw pw)))]) (vp_Si (fun r => r = nI (kf_cb mW mZ ww zz (cs 0)))) 0 0 (fun _ => False) := by
  have h := c_X4_place l G mo mc mw mz mv mp mh tv cs mW mZ mV po pw 0 ww zz hcs hmz (by omega) hzz
  rw [kf_row_0, kf_row_0, Nat.mul_zero, Nat.zero_add] at h
  exact h

set_option maxHeartbeats 4000000 in
set_option maxRecDepth 100000 in
theorem c_X4_has0 (l : Launch) (G : kz_G) (mo mc mw mz mv mp mh : Nat) (tv : Int32) (cs : Nat → Nat) (mW : Nat → Int64) (mZ : Nat → Nat) (mV : Nat → Int32) (po : Nat → Bool) (pw : Nat → Nat) (kk : Nat) (ww : Int64) (zz : Nat) (hcs : ∀ j, cs j ≤ 120) (hmz : ∀ j, mZ j ≤ 8) (hkk : kk ≤ 120) (hzz : zz ≤ 8) : Met l yX4_has wsX4_has { frames := 1, cells := 0, slots := 0, locals := 26 } (kz_Pp G [.ref mo, .int 0, .int (nI kk), .long ww, .int (nI zz)] [(mo, .inr (4, [.int tv, .ref mc, .ref mw, .ref mz, .ref mv, .ref mp, .ref mh])), (mc, .inl (gI G, 4, .inl (kz_z cs))), (mw, .inl (gJ G, 480, .inr (.inl mW))), (mz, .inl (gI G, 480, .inl (kz_z mZ))), (mv, .inl (gI G, 480, .inl mV)), (mp, .inl (gZ G, 3, .inl (kz_bo po))), (mh, .inl (gI G, 3, .inl (kz_pw pw)))]) (vp_Si (fun r => r = if kk < cs 0 ∧ mW kk = ww ∧ mZ kk = zz then 1 else 0)) 0 0 (fun _ => False) := by
  have h := c_X4_has l G mo mc mw mz mv mp mh tv cs mW mZ mV po pw 0 kk ww zz hcs hmz (by omega) hkk hzz
  rw [kf_row_0, kf_row_0, Nat.mul_zero, Nat.zero_add] at h
  exact h

set_option maxHeartbeats 4000000 in
set_option maxRecDepth 100000 in
theorem c_X4_size (l : Launch) (G : kz_G) (mo mc mw mz mv mp mh : Nat) (tv : Int32) (cs : Nat → Nat) (mW : Nat → Int64) (mZ : Nat → Nat) (mV : Nat → Int32) (po : Nat → Bool) (pw : Nat → Nat) (sz : Nat) : Met l yX4_size wsX4_size { frames := 0, cells := 0, slots := 0, locals := 0 } (kz_Pm G [.ref mo] [(mo, .inr (4, [.int tv, .ref mc, .ref mw, .ref mz, .ref mv, .ref mp, .ref mh])), (mc, .inl (gI G, 4, .inl (kz_z cs))), (mw, .inl (gJ G, 480, .inr (.inl mW))), (mz, .inl (gI G, 480, .inl (kz_z mZ))), (mv, .inl (gI G, 480, .inl mV)), (mp, .inl (gZ G, 3, .inl (kz_bo po))), (mh, .inl (gI G, 3, .inl (kz_pw pw)))] sz) (kz_Qi G (fun r w => r = nI (cs 0) ∧ w = [(mo, .inr (4, [.int 0, .ref mc, .ref mw, .ref mz, .ref mv, .ref mp, .ref mh])), (mc, .inl (gI G, 4, .inl (kz_z cs))), (mw, .inl (gJ G, 480, .inr (.inl mW))), (mz, .inl (gI G, 480, .inl (kz_z mZ))), (mv, .inl (gI G, 480, .inl mV)), (mp, .inl (gZ G, 3, .inl (kz_bo po))), (mh, .inl (gI G, 3, .inl (kz_pw pw)))]) (va_A [(mo, .inr (4, [.int tv, .ref mc, .ref mw, .ref mz, .ref mv, .ref mp, .ref mh])), (mc, .inl (gI G, 4, .inl (kz_z cs))), (mw, .inl (gJ G, 480, .inr (.inl mW))), (mz, .inl (gI G, 480, .inl (kz_z mZ))), (mv, .inl (gI G, 480, .inl mV)), (mp, .inl (gZ G, 3, .inl (kz_bo po))), (mh, .inl (gI G, 3, .inl (kz_pw pw)))] sz)) 0 0 (va_A [(mo, .inr (4, [.int tv, .ref mc, .ref mw, .ref mz, .ref mv, .ref mp, .ref mh])), (mc, .inl (gI G, 4, .inl (kz_z cs))), (mw, .inl (gJ G, 480, .inr (.inl mW))), (mz, .inl (gI G, 480, .inl (kz_z mZ))), (mv, .inl (gI G, 480, .inl mV)), (mp, .inl (gZ G, 3, .inl (kz_bo po))), (mh, .inl (gI G, 3, .inl (kz_pw pw)))] sz) := by
  refine Met.ofW (cc := cX4_size) (maxL := 1) (ret := (some .int)) (by decide) rfl ?_
  intro p e s m args below meth c s₁ B hml hv
  obtain ⟨rfl, hsz, hP, hK, hD0⟩ := hv
  have hx := B.exec
  have hb := B.bytes
  have hr := B.returns
  have hts := atoms_spec (ws := wsX4_size) B.pre
  have hown : s.vm.findClass RX4 = some m.cls := findClass_of_methodNamed B.named
  have hlocks := B.notSynchronized
  have hinX4 : ∀ w ∈ wsX40, w ∈ wsX4_size := by decide +kernel
  subst hsz
  have hD := hD0.self (sz := s.heap.size)
  generalize hAe : va_A [(mo, .inr (4, [.int tv, .ref mc, .ref mw, .ref mz, .ref mv, .ref mp, .ref mh])), (mc, .inl (gI G, 4, .inl (kz_z cs))), (mw, .inl (gJ G, 480, .inr (.inl mW))), (mz, .inl (gI G, 480, .inl (kz_z mZ))), (mv, .inl (gI G, 480, .inl mV)), (mp, .inl (gZ G, 3, .inl (kz_bo po))), (mh, .inl (gI G, 3, .inl (kz_pw pw)))] s.heap.size = A at hD ⊢
  have hA : ∀ q : Nat, s.heap.size ≤ q → A q := fun q h => by rw [← hAe]; exact Or.inr h
  have hS : va_S A s.heap s.heap [] := va_S.rf
  have hP : va_P G.1 vwCl [(mo, .inr (4, [.int tv, .ref mc, .ref mw, .ref mz, .ref mv, .ref mp, .ref mh])), (mc, .inl (gI G, 4, .inl (kz_z cs))), (mw, .inl (gJ G, 480, .inr (.inl mW))), (mz, .inl (gI G, 480, .inl (kz_z mZ))), (mv, .inl (gI G, 480, .inl mV)), (mp, .inl (gZ G, 3, .inl (kz_bo po))), (mh, .inl (gI G, 3, .inl (kz_pw pw)))] s.heap := hP
  have hl := lv_entry ([.ref mo]) (n := 1) (Nat.le_of_ble_eq_true rfl)
  rw [lg_entry_eq]
  generalize (lg_sl ([.ref mo]) ++ List.replicate (1 - (lg_sl ([.ref mo])).length) Slot.unset).toArray = ls at hl ⊢
  have hl : lv_has ls 1 [(0, .ref mo)] := hl
  refine lv_aload_n hx hb dX4_size_0 rfl (lv_at hl 0 rfl) ?_
  refine lv_iconst (v := 0) hx hb dX4_size_1 (by decide) ?_
  refine va_put (D := G.1) (ci := 4) (v := .int 0) (ty := .int) (C := RX4) (T := TX4) (N := 7) hx hb hts hinX4 tyX4 tyX4_ok nmX4 hown hK.1 hP hD hS 0 rfl rfl 0 (by decide) (hts (.fieldLink RX4 30 "ForkStoreModel" "thrown" "I") (by decide +kernel)) (fun _ h9 => h9) rfl (by decide +kernel) rfl rfl (Nat.le_of_ble_eq_true rfl) dX4_size_2 (fun H locs hP hD hS => ?_)
  have hP : va_P G.1 vwCl [(mo, .inr (4, [.int 0, .ref mc, .ref mw, .ref mz, .ref mv, .ref mp, .ref mh])), (mc, .inl (gI G, 4, .inl (kz_z cs))), (mw, .inl (gJ G, 480, .inr (.inl mW))), (mz, .inl (gI G, 480, .inl (kz_z mZ))), (mv, .inl (gI G, 480, .inl mV)), (mp, .inl (gZ G, 3, .inl (kz_bo po))), (mh, .inl (gI G, 3, .inl (kz_pw pw)))] H := hP
  have hD : va_D A [(mo, .inr (4, [.int 0, .ref mc, .ref mw, .ref mz, .ref mv, .ref mp, .ref mh])), (mc, .inl (gI G, 4, .inl (kz_z cs))), (mw, .inl (gJ G, 480, .inr (.inl mW))), (mz, .inl (gI G, 480, .inl (kz_z mZ))), (mv, .inl (gI G, 480, .inl mV)), (mp, .inl (gZ G, 3, .inl (kz_bo po))), (mh, .inl (gI G, 3, .inl (kz_pw pw)))] := hD
  refine lv_aload_n hx hb dX4_size_5 rfl (lv_at hl 0 rfl) ?_
  refine va_get (D := G.1) (ci := 4) (v := .ref mc) (C := RX4) (T := TX4) (N := 7) hx hb hts hinX4 hown hK.1 hP 0 rfl rfl 1 (by decide) (hts (.fieldLink RX4 7 "ForkStoreModel" "counts" "[I") (by decide +kernel)) (fun _ h9 => h9) rfl dX4_size_6 ?_
  refine lv_iconst (v := 0) hx hb dX4_size_9 (by decide) ?_
  refine kz_iald hx hb hK.1 hP 1 0 rfl rfl (k := 0) (by decide) (by decide) dX4_size_10 ?_
  refine kz_asi (y := nI (cs 0)) rfl ?_
  exact W.iret (v := nI (cs 0)) hx hb hr (fun t ht hW => ⟨⟨_, ([(mo, .inr (4, [.int 0, .ref mc, .ref mw, .ref mz, .ref mv, .ref mp, .ref mh])), (mc, .inl (gI G, 4, .inl (kz_z cs))), (mw, .inl (gJ G, 480, .inr (.inl mW))), (mz, .inl (gI G, 480, .inl (kz_z mZ))), (mv, .inl (gI G, 480, .inl mV)), (mp, .inl (gZ G, 3, .inl (kz_bo po))), (mh, .inl (gI G, 3, .inl (kz_pw pw)))] : va_W), rfl, ⟨rfl, rfl⟩, by rw [← ht] at hP; exact hP⟩, hS.F ht⟩) hS.2.2 dX4_size_11

set_option maxHeartbeats 4000000 in
set_option maxRecDepth 100000 in
theorem c_X4_rank (l : Launch) (G : kz_G) (mo mc mw mz mv mp mh : Nat) (tv : Int32) (cs : Nat → Nat) (mW : Nat → Int64) (mZ : Nat → Nat) (mV : Nat → Int32) (po : Nat → Bool) (pw : Nat → Nat) (ww : Int64) (nv : Int32) (sz : Nat) (hcs : ∀ j, cs j ≤ 120) (hmz : ∀ j, mZ j ≤ 8) : Met l yX4_rank wsX4_rank { frames := 2, cells := 0, slots := 0, locals := 51 } (kz_Pm G [.ref mo, .long ww, .int nv] [(mo, .inr (4, [.int tv, .ref mc, .ref mw, .ref mz, .ref mv, .ref mp, .ref mh])), (mc, .inl (gI G, 4, .inl (kz_z cs))), (mw, .inl (gJ G, 480, .inr (.inl mW))), (mz, .inl (gI G, 480, .inl (kz_z mZ))), (mv, .inl (gI G, 480, .inl mV)), (mp, .inl (gZ G, 3, .inl (kz_bo po))), (mh, .inl (gI G, 3, .inl (kz_pw pw)))] sz) (kz_Qi G (fun r w => (¬ (0 ≤ nv ∧ nv ≤ 8) ∧ r = -1 ∧ w = [(mo, .inr (4, [.int 0, .ref mc, .ref mw, .ref mz, .ref mv, .ref mp, .ref mh])), (mc, .inl (gI G, 4, .inl (kz_z cs))), (mw, .inl (gJ G, 480, .inr (.inl mW))), (mz, .inl (gI G, 480, .inl (kz_z mZ))), (mv, .inl (gI G, 480, .inl mV)), (mp, .inl (gZ G, 3, .inl (kz_bo po))), (mh, .inl (gI G, 3, .inl (kz_pw pw)))]) ∨ (∃ zz : Nat, zz ≤ 8 ∧ nv = nI zz ∧ r = nI (kf_cb mW mZ (kf_cut ww zz) zz (cs 0)) ∧ w = [(mo, .inr (4, [.int 0, .ref mc, .ref mw, .ref mz, .ref mv, .ref mp, .ref mh])), (mc, .inl (gI G, 4, .inl (kz_z cs))), (mw, .inl (gJ G, 480, .inr (.inl mW))), (mz, .inl (gI G, 480, .inl (kz_z mZ))), (mv, .inl (gI G, 480, .inl mV)), (mp, .inl (gZ G, 3, .inl (kz_bo po))), (mh, .inl (gI G, 3, .inl (kz_pw pw)))])) (va_A [(mo, .inr (4, [.int tv, .ref mc, .ref mw, .ref mz, .ref mv, .ref mp, .ref mh])), (mc, .inl (gI G, 4, .inl (kz_z cs))), (mw, .inl (gJ G, 480, .inr (.inl mW))), (mz, .inl (gI G, 480, .inl (kz_z mZ))), (mv, .inl (gI G, 480, .inl mV)), (mp, .inl (gZ G, 3, .inl (kz_bo po))), (mh, .inl (gI G, 3, .inl (kz_pw pw)))] sz)) 0 0 (va_A [(mo, .inr (4, [.int tv, .ref mc, .ref mw, .ref mz, .ref mv, .ref mp, .ref mh])), (mc, .inl (gI G, 4, .inl (kz_z cs))), (mw, .inl (gJ G, 480, .inr (.inl mW))), (mz, .inl (gI G, 480, .inl (kz_z mZ))), (mv, .inl (gI G, 480, .inl mV)), (mp, .inl (gZ G, 3, .inl (kz_bo po))), (mh, .inl (gI G, 3, .inl (kz_pw pw)))] sz) := by
  refine Met.ofW (cc := cX4_rank) (maxL := 4) (ret := (some .int)) (by decide) rfl ?_
  intro p e s m args below meth c s₁ B hml hv
  obtain ⟨rfl, hsz, hP, hK, hD0⟩ := hv
  have hx := B.exec
  have hb := B.bytes
  have hr := B.returns
  have hts := atoms_spec (ws := wsX4_rank) B.pre
  have hown : s.vm.findClass RX4 = some m.cls := findClass_of_methodNamed B.named
  have hlocks := B.notSynchronized
  have hinX4 : ∀ w ∈ wsX40, w ∈ wsX4_rank := by decide +kernel
  subst hsz
  have hD := hD0.self (sz := s.heap.size)
  generalize hAe : va_A [(mo, .inr (4, [.int tv, .ref mc, .ref mw, .ref mz, .ref mv, .ref mp, .ref mh])), (mc, .inl (gI G, 4, .inl (kz_z cs))), (mw, .inl (gJ G, 480, .inr (.inl mW))), (mz, .inl (gI G, 480, .inl (kz_z mZ))), (mv, .inl (gI G, 480, .inl mV)), (mp, .inl (gZ G, 3, .inl (kz_bo po))), (mh, .inl (gI G, 3, .inl (kz_pw pw)))] s.heap.size = A at hD ⊢
  have hA : ∀ q : Nat, s.heap.size ≤ q → A q := fun q h => by rw [← hAe]; exact Or.inr h
  have hS : va_S A s.heap s.heap [] := va_S.rf
  have hP : va_P G.1 vwCl [(mo, .inr (4, [.int tv, .ref mc, .ref mw, .ref mz, .ref mv, .ref mp, .ref mh])), (mc, .inl (gI G, 4, .inl (kz_z cs))), (mw, .inl (gJ G, 480, .inr (.inl mW))), (mz, .inl (gI G, 480, .inl (kz_z mZ))), (mv, .inl (gI G, 480, .inl mV)), (mp, .inl (gZ G, 3, .inl (kz_bo po))), (mh, .inl (gI G, 3, .inl (kz_pw pw)))] s.heap := hP
  have hl := lv_entry ([.ref mo, .long ww, .int nv]) (n := 4) (Nat.le_of_ble_eq_true rfl)
  rw [lg_entry_eq]
  generalize (lg_sl ([.ref mo, .long ww, .int nv]) ++ List.replicate (4 - (lg_sl ([.ref mo, .long ww, .int nv])).length) Slot.unset).toArray = ls at hl ⊢
  have hl : lv_has ls 4 [(0, .ref mo), (1, .long ww), (3, .int nv)] := hl
  rcases kf_okc nv with ⟨zz, hzz, rfl⟩ | hno
  · have hl : lv_has ls 4 [(0, .ref mo), (1, .long ww), (3, .int (nI zz))] := hl
    refine lv_aload_n hx hb dX4_rank_0 rfl (lv_at hl 0 rfl) ?_
    refine lv_iconst (v := 0) hx hb dX4_rank_1 (by decide) ?_
    refine va_put (D := G.1) (ci := 4) (v := .int 0) (ty := .int) (C := RX4) (T := TX4) (N := 7) hx hb hts hinX4 tyX4 tyX4_ok nmX4 hown hK.1 hP hD hS 0 rfl rfl 0 (by decide) (hts (.fieldLink RX4 30 "ForkStoreModel" "thrown" "I") (by decide +kernel)) (fun _ h9 => h9) rfl (by decide +kernel) rfl rfl (Nat.le_of_ble_eq_true rfl) dX4_rank_2 (fun H locs hP hD hS => ?_)
    have hP : va_P G.1 vwCl [(mo, .inr (4, [.int 0, .ref mc, .ref mw, .ref mz, .ref mv, .ref mp, .ref mh])), (mc, .inl (gI G, 4, .inl (kz_z cs))), (mw, .inl (gJ G, 480, .inr (.inl mW))), (mz, .inl (gI G, 480, .inl (kz_z mZ))), (mv, .inl (gI G, 480, .inl mV)), (mp, .inl (gZ G, 3, .inl (kz_bo po))), (mh, .inl (gI G, 3, .inl (kz_pw pw)))] H := hP
    have hD : va_D A [(mo, .inr (4, [.int 0, .ref mc, .ref mw, .ref mz, .ref mv, .ref mp, .ref mh])), (mc, .inl (gI G, 4, .inl (kz_z cs))), (mw, .inl (gJ G, 480, .inr (.inl mW))), (mz, .inl (gI G, 480, .inl (kz_z mZ))), (mv, .inl (gI G, 480, .inl mV)), (mp, .inl (gZ G, 3, .inl (kz_bo po))), (mh, .inl (gI G, 3, .inl (kz_pw pw)))] := hD
    refine lv_iload_n hx hb dX4_rank_5 rfl (lv_at hl 2 rfl) ?_
    refine lv_if_lt (tgt := 15) hx hb dX4_rank_6 (by decide) (fun c_1 => ?_) (fun c_1 => ?_)
    · exact absurd c_1 (nI_pos (by omega))
    · refine lv_iload_n hx hb dX4_rank_9 rfl (lv_at hl 2 rfl) ?_
      refine lv_bipush (v := 8) hx hb dX4_rank_10 (by decide) ?_
      refine lv_icmp_le (tgt := 19) hx hb dX4_rank_12 (by decide) (fun c_2 => ?_) (fun c_2 => ?_)
      · refine lv_aload_n hx hb dX4_rank_19 rfl (lv_at hl 0 rfl) ?_
        refine lv_iconst (v := 0) hx hb dX4_rank_20 (by decide) ?_
        refine lv_lload_n hx hb dX4_rank_21 rfl (lv_at hl 1 rfl) ?_
        refine lv_iload_n hx hb dX4_rank_22 rfl (lv_at hl 2 rfl) ?_
        refine kz_cl (v := kf_cut ww zz) (va_runS (As := [.long ww, .int (nI zz)]) (rest := [.int 0, .ref mo]) ⟨hx, hb, hml, hown, hts⟩ (c_X4_cut l ww zz (by omega)) (va_cwS 2 hts gX4_rank_X4_cut rfl rfl rfl (by decide +kernel) ⟨Nat.le_of_ble_eq_true rfl, Nat.le_of_ble_eq_true rfl⟩) kz_ps0 rfl rfl hl.1 rfl (lv_room (Nat.le_of_ble_eq_true rfl)) dX4_rank_23 ⟨Nat.zero_le _, Nat.zero_le _⟩).run ?_
        refine lv_iload_n hx hb dX4_rank_26 rfl (lv_at hl 2 rfl) ?_
        have hPc := hP.sub (ws' := [(mo, .inr (4, [.int 0, .ref mc, .ref mw, .ref mz, .ref mv, .ref mp, .ref mh])), (mc, .inl (gI G, 4, .inl (kz_z cs))), (mw, .inl (gJ G, 480, .inr (.inl mW))), (mz, .inl (gI G, 480, .inl (kz_z mZ))), (mv, .inl (gI G, 480, .inl mV)), (mp, .inl (gZ G, 3, .inl (kz_bo po))), (mh, .inl (gI G, 3, .inl (kz_pw pw)))]) [0, 1, 2, 3, 4, 5, 6] rfl
        refine kz_ci (v := nI (kf_cb mW mZ (kf_cut ww zz) zz (cs 0))) (va_runV (As := [.int 0, .long (kf_cut ww zz), .int (nI zz)]) (rest := []) ⟨hx, hb, hml, hown, hts⟩ (c_X4_place0 l G mo mc mw mz mv mp mh 0 cs mW mZ mV po pw (kf_cut ww zz) zz hcs hmz (by omega)) (cwV 3 hts gX4_rank_X4_place rfl rfl rfl (by decide +kernel) ⟨Nat.le_of_ble_eq_true rfl, Nat.le_of_ble_eq_true rfl⟩) (kz_pv hK hPc (va_recv hK.1 hPc (ci := 4) (q0 := 0) rfl rfl)) rfl rfl hl.1 rfl (lv_room (Nat.le_of_ble_eq_true rfl)) dX4_rank_27 ⟨Nat.zero_le _, Nat.zero_le _⟩).run ?_
        exact W.iret (v := nI (kf_cb mW mZ (kf_cut ww zz) zz (cs 0))) hx hb hr (fun t ht hW => ⟨⟨_, ([(mo, .inr (4, [.int 0, .ref mc, .ref mw, .ref mz, .ref mv, .ref mp, .ref mh])), (mc, .inl (gI G, 4, .inl (kz_z cs))), (mw, .inl (gJ G, 480, .inr (.inl mW))), (mz, .inl (gI G, 480, .inl (kz_z mZ))), (mv, .inl (gI G, 480, .inl mV)), (mp, .inl (gZ G, 3, .inl (kz_bo po))), (mh, .inl (gI G, 3, .inl (kz_pw pw)))] : va_W), rfl, (Or.inr ⟨zz, hzz, rfl, rfl, rfl⟩), by rw [← ht] at hP; exact hP⟩, hS.F ht⟩) hS.2.2 dX4_rank_30
      · exact absurd (nI_le (b := 8) hzz (by decide)) c_2
  · have hno := hno
    refine lv_aload_n hx hb dX4_rank_0 rfl (lv_at hl 0 rfl) ?_
    refine lv_iconst (v := 0) hx hb dX4_rank_1 (by decide) ?_
    refine va_put (D := G.1) (ci := 4) (v := .int 0) (ty := .int) (C := RX4) (T := TX4) (N := 7) hx hb hts hinX4 tyX4 tyX4_ok nmX4 hown hK.1 hP hD hS 0 rfl rfl 0 (by decide) (hts (.fieldLink RX4 30 "ForkStoreModel" "thrown" "I") (by decide +kernel)) (fun _ h9 => h9) rfl (by decide +kernel) rfl rfl (Nat.le_of_ble_eq_true rfl) dX4_rank_2 (fun H locs hP hD hS => ?_)
    have hP : va_P G.1 vwCl [(mo, .inr (4, [.int 0, .ref mc, .ref mw, .ref mz, .ref mv, .ref mp, .ref mh])), (mc, .inl (gI G, 4, .inl (kz_z cs))), (mw, .inl (gJ G, 480, .inr (.inl mW))), (mz, .inl (gI G, 480, .inl (kz_z mZ))), (mv, .inl (gI G, 480, .inl mV)), (mp, .inl (gZ G, 3, .inl (kz_bo po))), (mh, .inl (gI G, 3, .inl (kz_pw pw)))] H := hP
    have hD : va_D A [(mo, .inr (4, [.int 0, .ref mc, .ref mw, .ref mz, .ref mv, .ref mp, .ref mh])), (mc, .inl (gI G, 4, .inl (kz_z cs))), (mw, .inl (gJ G, 480, .inr (.inl mW))), (mz, .inl (gI G, 480, .inl (kz_z mZ))), (mv, .inl (gI G, 480, .inl mV)), (mp, .inl (gZ G, 3, .inl (kz_bo po))), (mh, .inl (gI G, 3, .inl (kz_pw pw)))] := hD
    refine lv_iload_n hx hb dX4_rank_5 rfl (lv_at hl 2 rfl) ?_
    refine lv_if_lt (tgt := 15) hx hb dX4_rank_6 (by decide) (fun c_3 => ?_) (fun c_3 => ?_)
    · refine lv_iconst (v := (-1)) hx hb dX4_rank_15 (by decide) ?_
      refine lv_goto (tgt := 30) hx hb dX4_rank_16 (by decide) ?_
      exact W.iret (v := (-1)) hx hb hr (fun t ht hW => ⟨⟨_, ([(mo, .inr (4, [.int 0, .ref mc, .ref mw, .ref mz, .ref mv, .ref mp, .ref mh])), (mc, .inl (gI G, 4, .inl (kz_z cs))), (mw, .inl (gJ G, 480, .inr (.inl mW))), (mz, .inl (gI G, 480, .inl (kz_z mZ))), (mv, .inl (gI G, 480, .inl mV)), (mp, .inl (gZ G, 3, .inl (kz_bo po))), (mh, .inl (gI G, 3, .inl (kz_pw pw)))] : va_W), rfl, (Or.inl ⟨hno, rfl, rfl⟩), by rw [← ht] at hP; exact hP⟩, hS.F ht⟩) hS.2.2 dX4_rank_30
    · refine lv_iload_n hx hb dX4_rank_9 rfl (lv_at hl 2 rfl) ?_
      refine lv_bipush (v := 8) hx hb dX4_rank_10 (by decide) ?_
      refine lv_icmp_le (tgt := 19) hx hb dX4_rank_12 (by decide) (fun c_4 => ?_) (fun c_4 => ?_)
      · exact absurd ⟨Int32.not_lt.mp c_3, c_4⟩ hno
      · refine lv_iconst (v := (-1)) hx hb dX4_rank_15 (by decide) ?_
        refine lv_goto (tgt := 30) hx hb dX4_rank_16 (by decide) ?_
        exact W.iret (v := (-1)) hx hb hr (fun t ht hW => ⟨⟨_, ([(mo, .inr (4, [.int 0, .ref mc, .ref mw, .ref mz, .ref mv, .ref mp, .ref mh])), (mc, .inl (gI G, 4, .inl (kz_z cs))), (mw, .inl (gJ G, 480, .inr (.inl mW))), (mz, .inl (gI G, 480, .inl (kz_z mZ))), (mv, .inl (gI G, 480, .inl mV)), (mp, .inl (gZ G, 3, .inl (kz_bo po))), (mh, .inl (gI G, 3, .inl (kz_pw pw)))] : va_W), rfl, (Or.inl ⟨hno, rfl, rfl⟩), by rw [← ht] at hP; exact hP⟩, hS.F ht⟩) hS.2.2 dX4_rank_30

set_option maxHeartbeats 4000000 in
set_option maxRecDepth 100000 in
theorem c_X4_get (l : Launch) (G : kz_G) (mo mc mw mz mv mp mh : Nat) (tv : Int32) (cs : Nat → Nat) (mW : Nat → Int64) (mZ : Nat → Nat) (mV : Nat → Int32) (po : Nat → Bool) (pw : Nat → Nat) (ww : Int64) (nv : Int32) (sz : Nat) (hcs : ∀ j, cs j ≤ 120) (hmz : ∀ j, mZ j ≤ 8) : Met l yX4_get wsX4_get { frames := 2, cells := 0, slots := 0, locals := 51 } (kz_Pm G [.ref mo, .long ww, .int nv] [(mo, .inr (4, [.int tv, .ref mc, .ref mw, .ref mz, .ref mv, .ref mp, .ref mh])), (mc, .inl (gI G, 4, .inl (kz_z cs))), (mw, .inl (gJ G, 480, .inr (.inl mW))), (mz, .inl (gI G, 480, .inl (kz_z mZ))), (mv, .inl (gI G, 480, .inl mV)), (mp, .inl (gZ G, 3, .inl (kz_bo po))), (mh, .inl (gI G, 3, .inl (kz_pw pw)))] sz) (kz_Qi G (fun r w => (¬ (0 ≤ nv ∧ nv ≤ 8) ∧ r = 0 ∧ w = [(mo, .inr (4, [.int 1, .ref mc, .ref mw, .ref mz, .ref mv, .ref mp, .ref mh])), (mc, .inl (gI G, 4, .inl (kz_z cs))), (mw, .inl (gJ G, 480, .inr (.inl mW))), (mz, .inl (gI G, 480, .inl (kz_z mZ))), (mv, .inl (gI G, 480, .inl mV)), (mp, .inl (gZ G, 3, .inl (kz_bo po))), (mh, .inl (gI G, 3, .inl (kz_pw pw)))]) ∨ (∃ zz : Nat, zz ≤ 8 ∧ nv = nI zz ∧ kf_st mW mZ (kf_cut ww zz) zz (cs 0) ∧ r = mV (kf_cb mW mZ (kf_cut ww zz) zz (cs 0)) ∧ w = [(mo, .inr (4, [.int 0, .ref mc, .ref mw, .ref mz, .ref mv, .ref mp, .ref mh])), (mc, .inl (gI G, 4, .inl (kz_z cs))), (mw, .inl (gJ G, 480, .inr (.inl mW))), (mz, .inl (gI G, 480, .inl (kz_z mZ))), (mv, .inl (gI G, 480, .inl mV)), (mp, .inl (gZ G, 3, .inl (kz_bo po))), (mh, .inl (gI G, 3, .inl (kz_pw pw)))]) ∨ (∃ zz : Nat, zz ≤ 8 ∧ nv = nI zz ∧ ¬ kf_st mW mZ (kf_cut ww zz) zz (cs 0) ∧ r = 0 ∧ w = [(mo, .inr (4, [.int 2, .ref mc, .ref mw, .ref mz, .ref mv, .ref mp, .ref mh])), (mc, .inl (gI G, 4, .inl (kz_z cs))), (mw, .inl (gJ G, 480, .inr (.inl mW))), (mz, .inl (gI G, 480, .inl (kz_z mZ))), (mv, .inl (gI G, 480, .inl mV)), (mp, .inl (gZ G, 3, .inl (kz_bo po))), (mh, .inl (gI G, 3, .inl (kz_pw pw)))])) (va_A [(mo, .inr (4, [.int tv, .ref mc, .ref mw, .ref mz, .ref mv, .ref mp, .ref mh])), (mc, .inl (gI G, 4, .inl (kz_z cs))), (mw, .inl (gJ G, 480, .inr (.inl mW))), (mz, .inl (gI G, 480, .inl (kz_z mZ))), (mv, .inl (gI G, 480, .inl mV)), (mp, .inl (gZ G, 3, .inl (kz_bo po))), (mh, .inl (gI G, 3, .inl (kz_pw pw)))] sz)) 0 0 (va_A [(mo, .inr (4, [.int tv, .ref mc, .ref mw, .ref mz, .ref mv, .ref mp, .ref mh])), (mc, .inl (gI G, 4, .inl (kz_z cs))), (mw, .inl (gJ G, 480, .inr (.inl mW))), (mz, .inl (gI G, 480, .inl (kz_z mZ))), (mv, .inl (gI G, 480, .inl mV)), (mp, .inl (gZ G, 3, .inl (kz_bo po))), (mh, .inl (gI G, 3, .inl (kz_pw pw)))] sz) := by
  refine Met.ofW (cc := cX4_get) (maxL := 8) (ret := (some .int)) (by decide) rfl ?_
  intro p e s m args below meth c s₁ B hml hv
  obtain ⟨rfl, hsz, hP, hK, hD0⟩ := hv
  have hx := B.exec
  have hb := B.bytes
  have hr := B.returns
  have hts := atoms_spec (ws := wsX4_get) B.pre
  have hown : s.vm.findClass RX4 = some m.cls := findClass_of_methodNamed B.named
  have hlocks := B.notSynchronized
  have hinX4 : ∀ w ∈ wsX40, w ∈ wsX4_get := by decide +kernel
  subst hsz
  have hD := hD0.self (sz := s.heap.size)
  generalize hAe : va_A [(mo, .inr (4, [.int tv, .ref mc, .ref mw, .ref mz, .ref mv, .ref mp, .ref mh])), (mc, .inl (gI G, 4, .inl (kz_z cs))), (mw, .inl (gJ G, 480, .inr (.inl mW))), (mz, .inl (gI G, 480, .inl (kz_z mZ))), (mv, .inl (gI G, 480, .inl mV)), (mp, .inl (gZ G, 3, .inl (kz_bo po))), (mh, .inl (gI G, 3, .inl (kz_pw pw)))] s.heap.size = A at hD ⊢
  have hA : ∀ q : Nat, s.heap.size ≤ q → A q := fun q h => by rw [← hAe]; exact Or.inr h
  have hS : va_S A s.heap s.heap [] := va_S.rf
  have hP : va_P G.1 vwCl [(mo, .inr (4, [.int tv, .ref mc, .ref mw, .ref mz, .ref mv, .ref mp, .ref mh])), (mc, .inl (gI G, 4, .inl (kz_z cs))), (mw, .inl (gJ G, 480, .inr (.inl mW))), (mz, .inl (gI G, 480, .inl (kz_z mZ))), (mv, .inl (gI G, 480, .inl mV)), (mp, .inl (gZ G, 3, .inl (kz_bo po))), (mh, .inl (gI G, 3, .inl (kz_pw pw)))] s.heap := hP
  have hl := lv_entry ([.ref mo, .long ww, .int nv]) (n := 8) (Nat.le_of_ble_eq_true rfl)
  rw [lg_entry_eq]
  generalize (lg_sl ([.ref mo, .long ww, .int nv]) ++ List.replicate (8 - (lg_sl ([.ref mo, .long ww, .int nv])).length) Slot.unset).toArray = ls at hl ⊢
  have hl : lv_has ls 8 [(0, .ref mo), (1, .long ww), (3, .int nv)] := hl
  rcases kf_okc nv with ⟨zz, hzz, rfl⟩ | hno
  · have hl : lv_has ls 8 [(0, .ref mo), (1, .long ww), (3, .int (nI zz))] := hl
    refine lv_iload_n hx hb dX4_get_0 rfl (lv_at hl 2 rfl) ?_
    refine lv_if_lt (tgt := 14) hx hb dX4_get_1 (by decide) (fun c_1 => ?_) (fun c_1 => ?_)
    · exact absurd c_1 (nI_pos (by omega))
    · refine lv_iload_n hx hb dX4_get_4 rfl (lv_at hl 2 rfl) ?_
      refine lv_bipush (v := 8) hx hb dX4_get_5 (by decide) ?_
      refine lv_icmp_gt (tgt := 14) hx hb dX4_get_7 (by decide) (fun c_2 => ?_) (fun c_2 => ?_)
      · exact absurd c_2 (Int32.not_lt.mpr (nI_le (b := 8) hzz (by decide)))
      · refine lv_iconst (v := 1) hx hb dX4_get_10 (by decide) ?_
        refine lv_goto (tgt := 15) hx hb dX4_get_11 (by decide) ?_
        refine lv_istore (lv' := [(4, .int 1), (0, .ref mo), (1, .long ww), (3, .int (nI zz))]) hx hb dX4_get_15 hl (by decide) rfl (fun ls hl => ?_)
        refine lv_iload hx hb dX4_get_17 (lv_at hl 0 rfl) ?_
        refine lv_if_eq (tgt := 30) hx hb dX4_get_19 (by decide) (fun c_3 => ?_) (fun c_3 => ?_)
        · exact absurd c_3 (by decide)
        · refine lv_lload_n hx hb dX4_get_22 rfl (lv_at hl 2 rfl) ?_
          refine lv_iload_n hx hb dX4_get_23 rfl (lv_at hl 3 rfl) ?_
          refine kz_cl (v := kf_cut ww zz) (va_runS (As := [.long ww, .int (nI zz)]) (rest := []) ⟨hx, hb, hml, hown, hts⟩ (c_X4_cut l ww zz (by omega)) (va_cwS 2 hts gX4_get_X4_cut rfl rfl rfl (by decide +kernel) ⟨Nat.le_of_ble_eq_true rfl, Nat.le_of_ble_eq_true rfl⟩) kz_ps0 rfl rfl hl.1 rfl (lv_room (Nat.le_of_ble_eq_true rfl)) dX4_get_24 ⟨Nat.zero_le _, Nat.zero_le _⟩).run ?_
          refine lv_goto (tgt := 31) hx hb dX4_get_27 (by decide) ?_
          refine lv_lstore (lv' := [(5, .long (kf_cut ww zz)), (4, .int 1), (0, .ref mo), (1, .long ww), (3, .int (nI zz))]) hx hb dX4_get_31 hl (by decide) rfl (fun ls hl => ?_)
          refine lv_iload hx hb dX4_get_33 (lv_at hl 1 rfl) ?_
          refine lv_if_eq (tgt := 49) hx hb dX4_get_35 (by decide) (fun c_4 => ?_) (fun c_4 => ?_)
          · exact absurd c_4 (by decide)
          · refine lv_aload_n hx hb dX4_get_38 rfl (lv_at hl 2 rfl) ?_
            refine lv_iconst (v := 0) hx hb dX4_get_39 (by decide) ?_
            refine lv_lload hx hb dX4_get_40 (lv_at hl 0 rfl) ?_
            refine lv_iload_n hx hb dX4_get_42 rfl (lv_at hl 4 rfl) ?_
            have hPc := hP.sub (ws' := [(mo, .inr (4, [.int tv, .ref mc, .ref mw, .ref mz, .ref mv, .ref mp, .ref mh])), (mc, .inl (gI G, 4, .inl (kz_z cs))), (mw, .inl (gJ G, 480, .inr (.inl mW))), (mz, .inl (gI G, 480, .inl (kz_z mZ))), (mv, .inl (gI G, 480, .inl mV)), (mp, .inl (gZ G, 3, .inl (kz_bo po))), (mh, .inl (gI G, 3, .inl (kz_pw pw)))]) [0, 1, 2, 3, 4, 5, 6] rfl
            refine kz_ci (v := nI (kf_cb mW mZ (kf_cut ww zz) zz (cs 0))) (va_runV (As := [.int 0, .long (kf_cut ww zz), .int (nI zz)]) (rest := []) ⟨hx, hb, hml, hown, hts⟩ (c_X4_place0 l G mo mc mw mz mv mp mh tv cs mW mZ mV po pw (kf_cut ww zz) zz hcs hmz (by omega)) (cwV 3 hts gX4_get_X4_place rfl rfl rfl (by decide +kernel) ⟨Nat.le_of_ble_eq_true rfl, Nat.le_of_ble_eq_true rfl⟩) (kz_pv hK hPc (va_recv hK.1 hPc (ci := 4) (q0 := 0) rfl rfl)) rfl rfl hl.1 rfl (lv_room (Nat.le_of_ble_eq_true rfl)) dX4_get_43 ⟨Nat.zero_le _, Nat.zero_le _⟩).run ?_
            refine lv_goto (tgt := 50) hx hb dX4_get_46 (by decide) ?_
            refine lv_istore (lv' := [(7, .int (nI (kf_cb mW mZ (kf_cut ww zz) zz (cs 0)))), (5, .long (kf_cut ww zz)), (4, .int 1), (0, .ref mo), (1, .long ww), (3, .int (nI zz))]) hx hb dX4_get_50 hl (by decide) rfl (fun ls hl => ?_)
            have hcb := kf_cb_le mW mZ (kf_cut ww zz) zz (cs 0)
            have hc0 := hcs 0
            refine lv_aload_n hx hb dX4_get_52 rfl (lv_at hl 3 rfl) ?_
            refine lv_iload hx hb dX4_get_53 (lv_at hl 2 rfl) ?_
            refine lv_if_ne (tgt := 62) hx hb dX4_get_55 (by decide) (fun c_5 => ?_) (fun c_5 => ?_)
            · refine lv_aload_n hx hb dX4_get_62 rfl (lv_at hl 3 rfl) ?_
              refine lv_iconst (v := 0) hx hb dX4_get_63 (by decide) ?_
              refine lv_iload hx hb dX4_get_64 (lv_at hl 0 rfl) ?_
              refine lv_lload hx hb dX4_get_66 (lv_at hl 1 rfl) ?_
              refine lv_iload_n hx hb dX4_get_68 rfl (lv_at hl 5 rfl) ?_
              have hPc := hP.sub (ws' := [(mo, .inr (4, [.int tv, .ref mc, .ref mw, .ref mz, .ref mv, .ref mp, .ref mh])), (mc, .inl (gI G, 4, .inl (kz_z cs))), (mw, .inl (gJ G, 480, .inr (.inl mW))), (mz, .inl (gI G, 480, .inl (kz_z mZ))), (mv, .inl (gI G, 480, .inl mV)), (mp, .inl (gZ G, 3, .inl (kz_bo po))), (mh, .inl (gI G, 3, .inl (kz_pw pw)))]) [0, 1, 2, 3, 4, 5, 6] rfl
              refine kz_ci (v := if (kf_cb mW mZ (kf_cut ww zz) zz (cs 0)) < cs 0 ∧ mW (kf_cb mW mZ (kf_cut ww zz) zz (cs 0)) = kf_cut ww zz ∧ mZ (kf_cb mW mZ (kf_cut ww zz) zz (cs 0)) = zz then 1 else 0) (va_runV (As := [.int 0, .int (nI (kf_cb mW mZ (kf_cut ww zz) zz (cs 0))), .long (kf_cut ww zz), .int (nI zz)]) (rest := [.ref mo]) ⟨hx, hb, hml, hown, hts⟩ (c_X4_has0 l G mo mc mw mz mv mp mh tv cs mW mZ mV po pw (kf_cb mW mZ (kf_cut ww zz) zz (cs 0)) (kf_cut ww zz) zz hcs hmz (by omega) (by omega)) (cwV 4 hts gX4_get_X4_has rfl rfl rfl (by decide +kernel) ⟨Nat.le_of_ble_eq_true rfl, Nat.le_of_ble_eq_true rfl⟩) (kz_pv hK hPc (va_recv hK.1 hPc (ci := 4) (q0 := 0) rfl rfl)) rfl rfl hl.1 rfl (lv_room (Nat.le_of_ble_eq_true rfl)) dX4_get_69 ⟨Nat.zero_le _, Nat.zero_le _⟩).run ?_
              refine lv_if_eq (tgt := 79) hx hb dX4_get_72 (by decide) (fun c_6 => ?_) (fun c_6 => ?_)
              · have kc_6 := kf_if0 c_6
                refine lv_iconst (v := 2) hx hb dX4_get_79 (by decide) ?_
                refine va_put (D := G.1) (ci := 4) (v := .int 2) (ty := .int) (C := RX4) (T := TX4) (N := 7) hx hb hts hinX4 tyX4 tyX4_ok nmX4 hown hK.1 hP hD hS 0 rfl rfl 0 (by decide) (hts (.fieldLink RX4 30 "ForkStoreModel" "thrown" "I") (by decide +kernel)) (fun _ h9 => h9) rfl (by decide +kernel) rfl rfl (Nat.le_of_ble_eq_true rfl) dX4_get_80 (fun H locs hP hD hS => ?_)
                have hP : va_P G.1 vwCl [(mo, .inr (4, [.int 2, .ref mc, .ref mw, .ref mz, .ref mv, .ref mp, .ref mh])), (mc, .inl (gI G, 4, .inl (kz_z cs))), (mw, .inl (gJ G, 480, .inr (.inl mW))), (mz, .inl (gI G, 480, .inl (kz_z mZ))), (mv, .inl (gI G, 480, .inl mV)), (mp, .inl (gZ G, 3, .inl (kz_bo po))), (mh, .inl (gI G, 3, .inl (kz_pw pw)))] H := hP
                have hD : va_D A [(mo, .inr (4, [.int 2, .ref mc, .ref mw, .ref mz, .ref mv, .ref mp, .ref mh])), (mc, .inl (gI G, 4, .inl (kz_z cs))), (mw, .inl (gJ G, 480, .inr (.inl mW))), (mz, .inl (gI G, 480, .inl (kz_z mZ))), (mv, .inl (gI G, 480, .inl mV)), (mp, .inl (gZ G, 3, .inl (kz_bo po))), (mh, .inl (gI G, 3, .inl (kz_pw pw)))] := hD
                refine lv_aload_n hx hb dX4_get_83 rfl (lv_at hl 3 rfl) ?_
                refine va_get (D := G.1) (ci := 4) (v := .int 2) (C := RX4) (T := TX4) (N := 7) hx hb hts hinX4 hown hK.1 hP 0 rfl rfl 0 (by decide) (hts (.fieldLink RX4 30 "ForkStoreModel" "thrown" "I") (by decide +kernel)) (fun _ h9 => h9) rfl dX4_get_84 ?_
                refine lv_if_le (tgt := 94) hx hb dX4_get_87 (by decide) (fun c_7 => ?_) (fun c_7 => ?_)
                · exact absurd c_7 (by decide)
                · refine lv_iconst (v := 0) hx hb dX4_get_90 (by decide) ?_
                  refine lv_goto (tgt := 101) hx hb dX4_get_91 (by decide) ?_
                  exact W.iret (v := 0) hx hb hr (fun t ht hW => ⟨⟨_, ([(mo, .inr (4, [.int 2, .ref mc, .ref mw, .ref mz, .ref mv, .ref mp, .ref mh])), (mc, .inl (gI G, 4, .inl (kz_z cs))), (mw, .inl (gJ G, 480, .inr (.inl mW))), (mz, .inl (gI G, 480, .inl (kz_z mZ))), (mv, .inl (gI G, 480, .inl mV)), (mp, .inl (gZ G, 3, .inl (kz_bo po))), (mh, .inl (gI G, 3, .inl (kz_pw pw)))] : va_W), rfl, (Or.inr (Or.inr ⟨zz, hzz, rfl, kc_6, rfl, rfl⟩)), by rw [← ht] at hP; exact hP⟩, hS.F ht⟩) hS.2.2 dX4_get_101
              · have kc_6 := kf_if1 c_6
                refine lv_iconst (v := 0) hx hb dX4_get_75 (by decide) ?_
                refine lv_goto (tgt := 80) hx hb dX4_get_76 (by decide) ?_
                refine va_put (D := G.1) (ci := 4) (v := .int 0) (ty := .int) (C := RX4) (T := TX4) (N := 7) hx hb hts hinX4 tyX4 tyX4_ok nmX4 hown hK.1 hP hD hS 0 rfl rfl 0 (by decide) (hts (.fieldLink RX4 30 "ForkStoreModel" "thrown" "I") (by decide +kernel)) (fun _ h9 => h9) rfl (by decide +kernel) rfl rfl (Nat.le_of_ble_eq_true rfl) dX4_get_80 (fun H locs hP hD hS => ?_)
                have hP : va_P G.1 vwCl [(mo, .inr (4, [.int 0, .ref mc, .ref mw, .ref mz, .ref mv, .ref mp, .ref mh])), (mc, .inl (gI G, 4, .inl (kz_z cs))), (mw, .inl (gJ G, 480, .inr (.inl mW))), (mz, .inl (gI G, 480, .inl (kz_z mZ))), (mv, .inl (gI G, 480, .inl mV)), (mp, .inl (gZ G, 3, .inl (kz_bo po))), (mh, .inl (gI G, 3, .inl (kz_pw pw)))] H := hP
                have hD : va_D A [(mo, .inr (4, [.int 0, .ref mc, .ref mw, .ref mz, .ref mv, .ref mp, .ref mh])), (mc, .inl (gI G, 4, .inl (kz_z cs))), (mw, .inl (gJ G, 480, .inr (.inl mW))), (mz, .inl (gI G, 480, .inl (kz_z mZ))), (mv, .inl (gI G, 480, .inl mV)), (mp, .inl (gZ G, 3, .inl (kz_bo po))), (mh, .inl (gI G, 3, .inl (kz_pw pw)))] := hD
                refine lv_aload_n hx hb dX4_get_83 rfl (lv_at hl 3 rfl) ?_
                refine va_get (D := G.1) (ci := 4) (v := .int 0) (C := RX4) (T := TX4) (N := 7) hx hb hts hinX4 hown hK.1 hP 0 rfl rfl 0 (by decide) (hts (.fieldLink RX4 30 "ForkStoreModel" "thrown" "I") (by decide +kernel)) (fun _ h9 => h9) rfl dX4_get_84 ?_
                refine lv_if_le (tgt := 94) hx hb dX4_get_87 (by decide) (fun c_8 => ?_) (fun c_8 => ?_)
                · refine lv_aload_n hx hb dX4_get_94 rfl (lv_at hl 3 rfl) ?_
                  refine va_get (D := G.1) (ci := 4) (v := .ref mv) (C := RX4) (T := TX4) (N := 7) hx hb hts hinX4 hown hK.1 hP 0 rfl rfl 4 (by decide) (hts (.fieldLink RX4 20 "ForkStoreModel" "values" "[I") (by decide +kernel)) (fun _ h9 => h9) rfl dX4_get_95 ?_
                  refine lv_iload hx hb dX4_get_98 (lv_at hl 0 rfl) ?_
                  refine kz_iald hx hb hK.1 hP 4 0 rfl rfl (k := (kf_cb mW mZ (kf_cut ww zz) zz (cs 0))) (by omega) (by decide) dX4_get_100 ?_
                  exact W.iret (v := mV (kf_cb mW mZ (kf_cut ww zz) zz (cs 0))) hx hb hr (fun t ht hW => ⟨⟨_, ([(mo, .inr (4, [.int 0, .ref mc, .ref mw, .ref mz, .ref mv, .ref mp, .ref mh])), (mc, .inl (gI G, 4, .inl (kz_z cs))), (mw, .inl (gJ G, 480, .inr (.inl mW))), (mz, .inl (gI G, 480, .inl (kz_z mZ))), (mv, .inl (gI G, 480, .inl mV)), (mp, .inl (gZ G, 3, .inl (kz_bo po))), (mh, .inl (gI G, 3, .inl (kz_pw pw)))] : va_W), rfl, (Or.inr (Or.inl ⟨zz, hzz, rfl, kc_6, rfl, rfl⟩)), by rw [← ht] at hP; exact hP⟩, hS.F ht⟩) hS.2.2 dX4_get_101
                · exact absurd c_8 (by decide)
            · exact absurd c_5 (by decide)
  · have hno := hno
    refine lv_iload_n hx hb dX4_get_0 rfl (lv_at hl 2 rfl) ?_
    refine lv_if_lt (tgt := 14) hx hb dX4_get_1 (by decide) (fun c_9 => ?_) (fun c_9 => ?_)
    · refine lv_iconst (v := 0) hx hb dX4_get_14 (by decide) ?_
      refine lv_istore (lv' := [(4, .int 0), (0, .ref mo), (1, .long ww), (3, .int nv)]) hx hb dX4_get_15 hl (by decide) rfl (fun ls hl => ?_)
      refine lv_iload hx hb dX4_get_17 (lv_at hl 0 rfl) ?_
      refine lv_if_eq (tgt := 30) hx hb dX4_get_19 (by decide) (fun c_10 => ?_) (fun c_10 => ?_)
      · refine lv_lconst (v := 0) hx hb dX4_get_30 (by decide) ?_
        refine lv_lstore (lv' := [(5, .long 0), (4, .int 0), (0, .ref mo), (1, .long ww), (3, .int nv)]) hx hb dX4_get_31 hl (by decide) rfl (fun ls hl => ?_)
        refine lv_iload hx hb dX4_get_33 (lv_at hl 1 rfl) ?_
        refine lv_if_eq (tgt := 49) hx hb dX4_get_35 (by decide) (fun c_11 => ?_) (fun c_11 => ?_)
        · refine lv_iconst (v := 0) hx hb dX4_get_49 (by decide) ?_
          refine lv_istore (lv' := [(7, .int 0), (5, .long 0), (4, .int 0), (0, .ref mo), (1, .long ww), (3, .int nv)]) hx hb dX4_get_50 hl (by decide) rfl (fun ls hl => ?_)
          refine lv_aload_n hx hb dX4_get_52 rfl (lv_at hl 3 rfl) ?_
          refine lv_iload hx hb dX4_get_53 (lv_at hl 2 rfl) ?_
          refine lv_if_ne (tgt := 62) hx hb dX4_get_55 (by decide) (fun c_12 => ?_) (fun c_12 => ?_)
          · exact absurd c_12 (by decide)
          · refine lv_iconst (v := 1) hx hb dX4_get_58 (by decide) ?_
            refine lv_goto (tgt := 80) hx hb dX4_get_59 (by decide) ?_
            refine va_put (D := G.1) (ci := 4) (v := .int 1) (ty := .int) (C := RX4) (T := TX4) (N := 7) hx hb hts hinX4 tyX4 tyX4_ok nmX4 hown hK.1 hP hD hS 0 rfl rfl 0 (by decide) (hts (.fieldLink RX4 30 "ForkStoreModel" "thrown" "I") (by decide +kernel)) (fun _ h9 => h9) rfl (by decide +kernel) rfl rfl (Nat.le_of_ble_eq_true rfl) dX4_get_80 (fun H locs hP hD hS => ?_)
            have hP : va_P G.1 vwCl [(mo, .inr (4, [.int 1, .ref mc, .ref mw, .ref mz, .ref mv, .ref mp, .ref mh])), (mc, .inl (gI G, 4, .inl (kz_z cs))), (mw, .inl (gJ G, 480, .inr (.inl mW))), (mz, .inl (gI G, 480, .inl (kz_z mZ))), (mv, .inl (gI G, 480, .inl mV)), (mp, .inl (gZ G, 3, .inl (kz_bo po))), (mh, .inl (gI G, 3, .inl (kz_pw pw)))] H := hP
            have hD : va_D A [(mo, .inr (4, [.int 1, .ref mc, .ref mw, .ref mz, .ref mv, .ref mp, .ref mh])), (mc, .inl (gI G, 4, .inl (kz_z cs))), (mw, .inl (gJ G, 480, .inr (.inl mW))), (mz, .inl (gI G, 480, .inl (kz_z mZ))), (mv, .inl (gI G, 480, .inl mV)), (mp, .inl (gZ G, 3, .inl (kz_bo po))), (mh, .inl (gI G, 3, .inl (kz_pw pw)))] := hD
            refine lv_aload_n hx hb dX4_get_83 rfl (lv_at hl 3 rfl) ?_
            refine va_get (D := G.1) (ci := 4) (v := .int 1) (C := RX4) (T := TX4) (N := 7) hx hb hts hinX4 hown hK.1 hP 0 rfl rfl 0 (by decide) (hts (.fieldLink RX4 30 "ForkStoreModel" "thrown" "I") (by decide +kernel)) (fun _ h9 => h9) rfl dX4_get_84 ?_
            refine lv_if_le (tgt := 94) hx hb dX4_get_87 (by decide) (fun c_13 => ?_) (fun c_13 => ?_)
            · exact absurd c_13 (by decide)
            · refine lv_iconst (v := 0) hx hb dX4_get_90 (by decide) ?_
              refine lv_goto (tgt := 101) hx hb dX4_get_91 (by decide) ?_
              exact W.iret (v := 0) hx hb hr (fun t ht hW => ⟨⟨_, ([(mo, .inr (4, [.int 1, .ref mc, .ref mw, .ref mz, .ref mv, .ref mp, .ref mh])), (mc, .inl (gI G, 4, .inl (kz_z cs))), (mw, .inl (gJ G, 480, .inr (.inl mW))), (mz, .inl (gI G, 480, .inl (kz_z mZ))), (mv, .inl (gI G, 480, .inl mV)), (mp, .inl (gZ G, 3, .inl (kz_bo po))), (mh, .inl (gI G, 3, .inl (kz_pw pw)))] : va_W), rfl, (Or.inl ⟨hno, rfl, rfl⟩), by rw [← ht] at hP; exact hP⟩, hS.F ht⟩) hS.2.2 dX4_get_101
        · exact absurd c_11 (by decide)
      · exact absurd c_10 (by decide)
    · refine lv_iload_n hx hb dX4_get_4 rfl (lv_at hl 2 rfl) ?_
      refine lv_bipush (v := 8) hx hb dX4_get_5 (by decide) ?_
      refine lv_icmp_gt (tgt := 14) hx hb dX4_get_7 (by decide) (fun c_14 => ?_) (fun c_14 => ?_)
      · refine lv_iconst (v := 0) hx hb dX4_get_14 (by decide) ?_
        refine lv_istore (lv' := [(4, .int 0), (0, .ref mo), (1, .long ww), (3, .int nv)]) hx hb dX4_get_15 hl (by decide) rfl (fun ls hl => ?_)
        refine lv_iload hx hb dX4_get_17 (lv_at hl 0 rfl) ?_
        refine lv_if_eq (tgt := 30) hx hb dX4_get_19 (by decide) (fun c_15 => ?_) (fun c_15 => ?_)
        · refine lv_lconst (v := 0) hx hb dX4_get_30 (by decide) ?_
          refine lv_lstore (lv' := [(5, .long 0), (4, .int 0), (0, .ref mo), (1, .long ww), (3, .int nv)]) hx hb dX4_get_31 hl (by decide) rfl (fun ls hl => ?_)
          refine lv_iload hx hb dX4_get_33 (lv_at hl 1 rfl) ?_
          refine lv_if_eq (tgt := 49) hx hb dX4_get_35 (by decide) (fun c_16 => ?_) (fun c_16 => ?_)
          · refine lv_iconst (v := 0) hx hb dX4_get_49 (by decide) ?_
            refine lv_istore (lv' := [(7, .int 0), (5, .long 0), (4, .int 0), (0, .ref mo), (1, .long ww), (3, .int nv)]) hx hb dX4_get_50 hl (by decide) rfl (fun ls hl => ?_)
            refine lv_aload_n hx hb dX4_get_52 rfl (lv_at hl 3 rfl) ?_
            refine lv_iload hx hb dX4_get_53 (lv_at hl 2 rfl) ?_
            refine lv_if_ne (tgt := 62) hx hb dX4_get_55 (by decide) (fun c_17 => ?_) (fun c_17 => ?_)
            · exact absurd c_17 (by decide)
            · refine lv_iconst (v := 1) hx hb dX4_get_58 (by decide) ?_
              refine lv_goto (tgt := 80) hx hb dX4_get_59 (by decide) ?_
              refine va_put (D := G.1) (ci := 4) (v := .int 1) (ty := .int) (C := RX4) (T := TX4) (N := 7) hx hb hts hinX4 tyX4 tyX4_ok nmX4 hown hK.1 hP hD hS 0 rfl rfl 0 (by decide) (hts (.fieldLink RX4 30 "ForkStoreModel" "thrown" "I") (by decide +kernel)) (fun _ h9 => h9) rfl (by decide +kernel) rfl rfl (Nat.le_of_ble_eq_true rfl) dX4_get_80 (fun H locs hP hD hS => ?_)
              have hP : va_P G.1 vwCl [(mo, .inr (4, [.int 1, .ref mc, .ref mw, .ref mz, .ref mv, .ref mp, .ref mh])), (mc, .inl (gI G, 4, .inl (kz_z cs))), (mw, .inl (gJ G, 480, .inr (.inl mW))), (mz, .inl (gI G, 480, .inl (kz_z mZ))), (mv, .inl (gI G, 480, .inl mV)), (mp, .inl (gZ G, 3, .inl (kz_bo po))), (mh, .inl (gI G, 3, .inl (kz_pw pw)))] H := hP
              have hD : va_D A [(mo, .inr (4, [.int 1, .ref mc, .ref mw, .ref mz, .ref mv, .ref mp, .ref mh])), (mc, .inl (gI G, 4, .inl (kz_z cs))), (mw, .inl (gJ G, 480, .inr (.inl mW))), (mz, .inl (gI G, 480, .inl (kz_z mZ))), (mv, .inl (gI G, 480, .inl mV)), (mp, .inl (gZ G, 3, .inl (kz_bo po))), (mh, .inl (gI G, 3, .inl (kz_pw pw)))] := hD
              refine lv_aload_n hx hb dX4_get_83 rfl (lv_at hl 3 rfl) ?_
              refine va_get (D := G.1) (ci := 4) (v := .int 1) (C := RX4) (T := TX4) (N := 7) hx hb hts hinX4 hown hK.1 hP 0 rfl rfl 0 (by decide) (hts (.fieldLink RX4 30 "ForkStoreModel" "thrown" "I") (by decide +kernel)) (fun _ h9 => h9) rfl dX4_get_84 ?_
              refine lv_if_le (tgt := 94) hx hb dX4_get_87 (by decide) (fun c_18 => ?_) (fun c_18 => ?_)
              · exact absurd c_18 (by decide)
              · refine lv_iconst (v := 0) hx hb dX4_get_90 (by decide) ?_
                refine lv_goto (tgt := 101) hx hb dX4_get_91 (by decide) ?_
                exact W.iret (v := 0) hx hb hr (fun t ht hW => ⟨⟨_, ([(mo, .inr (4, [.int 1, .ref mc, .ref mw, .ref mz, .ref mv, .ref mp, .ref mh])), (mc, .inl (gI G, 4, .inl (kz_z cs))), (mw, .inl (gJ G, 480, .inr (.inl mW))), (mz, .inl (gI G, 480, .inl (kz_z mZ))), (mv, .inl (gI G, 480, .inl mV)), (mp, .inl (gZ G, 3, .inl (kz_bo po))), (mh, .inl (gI G, 3, .inl (kz_pw pw)))] : va_W), rfl, (Or.inl ⟨hno, rfl, rfl⟩), by rw [← ht] at hP; exact hP⟩, hS.F ht⟩) hS.2.2 dX4_get_101
          · exact absurd c_16 (by decide)
        · exact absurd c_15 (by decide)
      · exact absurd ⟨Int32.not_lt.mp c_9, Int32.not_lt.mp c_14⟩ hno

set_option maxHeartbeats 4000000 in
set_option maxRecDepth 100000 in
theorem c_X4_remove (l : Launch) (G : kz_G) (mo mc mw mz mv mp mh : Nat) (tv : Int32) (cs : Nat → Nat) (mW : Nat → Int64) (mZ : Nat → Nat) (mV : Nat → Int32) (po : Nat → Bool) (pw : Nat → Nat) (ww : Int64) (nv : Int32) (sz : Nat) (hcs : ∀ j, cs j ≤ 120) (hmz : ∀ j, mZ j ≤ 8) : Met l yX4_remove wsX4_remove { frames := 2, cells := 0, slots := 0, locals := 51 } (kz_Pm G [.ref mo, .long ww, .int nv] [(mo, .inr (4, [.int tv, .ref mc, .ref mw, .ref mz, .ref mv, .ref mp, .ref mh])), (mc, .inl (gI G, 4, .inl (kz_z cs))), (mw, .inl (gJ G, 480, .inr (.inl mW))), (mz, .inl (gI G, 480, .inl (kz_z mZ))), (mv, .inl (gI G, 480, .inl mV)), (mp, .inl (gZ G, 3, .inl (kz_bo po))), (mh, .inl (gI G, 3, .inl (kz_pw pw)))] sz) (kz_Qi G (fun r w => (¬ (0 ≤ nv ∧ nv ≤ 8) ∧ r = 0 ∧ w = [(mo, .inr (4, [.int 0, .ref mc, .ref mw, .ref mz, .ref mv, .ref mp, .ref mh])), (mc, .inl (gI G, 4, .inl (kz_z cs))), (mw, .inl (gJ G, 480, .inr (.inl mW))), (mz, .inl (gI G, 480, .inl (kz_z mZ))), (mv, .inl (gI G, 480, .inl mV)), (mp, .inl (gZ G, 3, .inl (kz_bo po))), (mh, .inl (gI G, 3, .inl (kz_pw pw)))]) ∨ (∃ zz : Nat, zz ≤ 8 ∧ nv = nI zz ∧ kf_st mW mZ (kf_cut ww zz) zz (cs 0) ∧ r = 1 ∧ w = [(mo, .inr (4, [.int 0, .ref mc, .ref mw, .ref mz, .ref mv, .ref mp, .ref mh])), (mc, .inl (gI G, 4, .inl (kz_z (kz_un cs 0 (cs 0 - 1))))), (mw, .inl (gJ G, 480, .inr (.inl (kf_dn mW (kf_cb mW mZ (kf_cut ww zz) zz (cs 0)) (cs 0 - 1))))), (mz, .inl (gI G, 480, .inl (kz_z (kf_dn mZ (kf_cb mW mZ (kf_cut ww zz) zz (cs 0)) (cs 0 - 1))))), (mv, .inl (gI G, 480, .inl (kf_dn mV (kf_cb mW mZ (kf_cut ww zz) zz (cs 0)) (cs 0 - 1)))), (mp, .inl (gZ G, 3, .inl (kz_bo po))), (mh, .inl (gI G, 3, .inl (kz_pw pw)))]) ∨ (∃ zz : Nat, zz ≤ 8 ∧ nv = nI zz ∧ ¬ kf_st mW mZ (kf_cut ww zz) zz (cs 0) ∧ r = 0 ∧ w = [(mo, .inr (4, [.int 0, .ref mc, .ref mw, .ref mz, .ref mv, .ref mp, .ref mh])), (mc, .inl (gI G, 4, .inl (kz_z cs))), (mw, .inl (gJ G, 480, .inr (.inl mW))), (mz, .inl (gI G, 480, .inl (kz_z mZ))), (mv, .inl (gI G, 480, .inl mV)), (mp, .inl (gZ G, 3, .inl (kz_bo po))), (mh, .inl (gI G, 3, .inl (kz_pw pw)))])) (va_A [(mo, .inr (4, [.int tv, .ref mc, .ref mw, .ref mz, .ref mv, .ref mp, .ref mh])), (mc, .inl (gI G, 4, .inl (kz_z cs))), (mw, .inl (gJ G, 480, .inr (.inl mW))), (mz, .inl (gI G, 480, .inl (kz_z mZ))), (mv, .inl (gI G, 480, .inl mV)), (mp, .inl (gZ G, 3, .inl (kz_bo po))), (mh, .inl (gI G, 3, .inl (kz_pw pw)))] sz)) 0 0 (va_A [(mo, .inr (4, [.int tv, .ref mc, .ref mw, .ref mz, .ref mv, .ref mp, .ref mh])), (mc, .inl (gI G, 4, .inl (kz_z cs))), (mw, .inl (gJ G, 480, .inr (.inl mW))), (mz, .inl (gI G, 480, .inl (kz_z mZ))), (mv, .inl (gI G, 480, .inl mV)), (mp, .inl (gZ G, 3, .inl (kz_bo po))), (mh, .inl (gI G, 3, .inl (kz_pw pw)))] sz) := by
  refine Met.ofW (cc := cX4_remove) (maxL := 6) (ret := (some .boolean)) (by decide) rfl ?_
  intro p e s m args below meth c s₁ B hml hv
  obtain ⟨rfl, hsz, hP, hK, hD0⟩ := hv
  have hx := B.exec
  have hb := B.bytes
  have hr := B.returns
  have hts := atoms_spec (ws := wsX4_remove) B.pre
  have hown : s.vm.findClass RX4 = some m.cls := findClass_of_methodNamed B.named
  have hlocks := B.notSynchronized
  have hinX4 : ∀ w ∈ wsX40, w ∈ wsX4_remove := by decide +kernel
  subst hsz
  have hD := hD0.self (sz := s.heap.size)
  generalize hAe : va_A [(mo, .inr (4, [.int tv, .ref mc, .ref mw, .ref mz, .ref mv, .ref mp, .ref mh])), (mc, .inl (gI G, 4, .inl (kz_z cs))), (mw, .inl (gJ G, 480, .inr (.inl mW))), (mz, .inl (gI G, 480, .inl (kz_z mZ))), (mv, .inl (gI G, 480, .inl mV)), (mp, .inl (gZ G, 3, .inl (kz_bo po))), (mh, .inl (gI G, 3, .inl (kz_pw pw)))] s.heap.size = A at hD ⊢
  have hA : ∀ q : Nat, s.heap.size ≤ q → A q := fun q h => by rw [← hAe]; exact Or.inr h
  have hS : va_S A s.heap s.heap [] := va_S.rf
  have hP : va_P G.1 vwCl [(mo, .inr (4, [.int tv, .ref mc, .ref mw, .ref mz, .ref mv, .ref mp, .ref mh])), (mc, .inl (gI G, 4, .inl (kz_z cs))), (mw, .inl (gJ G, 480, .inr (.inl mW))), (mz, .inl (gI G, 480, .inl (kz_z mZ))), (mv, .inl (gI G, 480, .inl mV)), (mp, .inl (gZ G, 3, .inl (kz_bo po))), (mh, .inl (gI G, 3, .inl (kz_pw pw)))] s.heap := hP
  have hl := lv_entry ([.ref mo, .long ww, .int nv]) (n := 6) (Nat.le_of_ble_eq_true rfl)
  rw [lg_entry_eq]
  generalize (lg_sl ([.ref mo, .long ww, .int nv]) ++ List.replicate (6 - (lg_sl ([.ref mo, .long ww, .int nv])).length) Slot.unset).toArray = ls at hl ⊢
  have hl : lv_has ls 6 [(0, .ref mo), (1, .long ww), (3, .int nv)] := hl
  rcases kf_okc nv with ⟨zz, hzz, rfl⟩ | hno
  · have hl : lv_has ls 6 [(0, .ref mo), (1, .long ww), (3, .int (nI zz))] := hl
    refine lv_aload_n hx hb dX4_remove_0 rfl (lv_at hl 0 rfl) ?_
    refine lv_iconst (v := 0) hx hb dX4_remove_1 (by decide) ?_
    refine va_put (D := G.1) (ci := 4) (v := .int 0) (ty := .int) (C := RX4) (T := TX4) (N := 7) hx hb hts hinX4 tyX4 tyX4_ok nmX4 hown hK.1 hP hD hS 0 rfl rfl 0 (by decide) (hts (.fieldLink RX4 30 "ForkStoreModel" "thrown" "I") (by decide +kernel)) (fun _ h9 => h9) rfl (by decide +kernel) rfl rfl (Nat.le_of_ble_eq_true rfl) dX4_remove_2 (fun H locs hP hD hS => ?_)
    have hP : va_P G.1 vwCl [(mo, .inr (4, [.int 0, .ref mc, .ref mw, .ref mz, .ref mv, .ref mp, .ref mh])), (mc, .inl (gI G, 4, .inl (kz_z cs))), (mw, .inl (gJ G, 480, .inr (.inl mW))), (mz, .inl (gI G, 480, .inl (kz_z mZ))), (mv, .inl (gI G, 480, .inl mV)), (mp, .inl (gZ G, 3, .inl (kz_bo po))), (mh, .inl (gI G, 3, .inl (kz_pw pw)))] H := hP
    have hD : va_D A [(mo, .inr (4, [.int 0, .ref mc, .ref mw, .ref mz, .ref mv, .ref mp, .ref mh])), (mc, .inl (gI G, 4, .inl (kz_z cs))), (mw, .inl (gJ G, 480, .inr (.inl mW))), (mz, .inl (gI G, 480, .inl (kz_z mZ))), (mv, .inl (gI G, 480, .inl mV)), (mp, .inl (gZ G, 3, .inl (kz_bo po))), (mh, .inl (gI G, 3, .inl (kz_pw pw)))] := hD
    refine lv_iload_n hx hb dX4_remove_5 rfl (lv_at hl 2 rfl) ?_
    refine lv_if_lt (tgt := 15) hx hb dX4_remove_6 (by decide) (fun c_1 => ?_) (fun c_1 => ?_)
    · exact absurd c_1 (nI_pos (by omega))
    · refine lv_iload_n hx hb dX4_remove_9 rfl (lv_at hl 2 rfl) ?_
      refine lv_bipush (v := 8) hx hb dX4_remove_10 (by decide) ?_
      refine lv_icmp_le (tgt := 17) hx hb dX4_remove_12 (by decide) (fun c_2 => ?_) (fun c_2 => ?_)
      · refine lv_aload_n hx hb dX4_remove_17 rfl (lv_at hl 0 rfl) ?_
        refine lv_iconst (v := 0) hx hb dX4_remove_18 (by decide) ?_
        refine lv_lload_n hx hb dX4_remove_19 rfl (lv_at hl 1 rfl) ?_
        refine lv_iload_n hx hb dX4_remove_20 rfl (lv_at hl 2 rfl) ?_
        refine kz_cl (v := kf_cut ww zz) (va_runS (As := [.long ww, .int (nI zz)]) (rest := [.int 0, .ref mo]) ⟨hx, hb, hml, hown, hts⟩ (c_X4_cut l ww zz (by omega)) (va_cwS 2 hts gX4_remove_X4_cut rfl rfl rfl (by decide +kernel) ⟨Nat.le_of_ble_eq_true rfl, Nat.le_of_ble_eq_true rfl⟩) kz_ps0 rfl rfl hl.1 rfl (lv_room (Nat.le_of_ble_eq_true rfl)) dX4_remove_21 ⟨Nat.zero_le _, Nat.zero_le _⟩).run ?_
        refine lv_iload_n hx hb dX4_remove_24 rfl (lv_at hl 2 rfl) ?_
        have hPc := hP.sub (ws' := [(mo, .inr (4, [.int 0, .ref mc, .ref mw, .ref mz, .ref mv, .ref mp, .ref mh])), (mc, .inl (gI G, 4, .inl (kz_z cs))), (mw, .inl (gJ G, 480, .inr (.inl mW))), (mz, .inl (gI G, 480, .inl (kz_z mZ))), (mv, .inl (gI G, 480, .inl mV)), (mp, .inl (gZ G, 3, .inl (kz_bo po))), (mh, .inl (gI G, 3, .inl (kz_pw pw)))]) [0, 1, 2, 3, 4, 5, 6] rfl
        refine kz_ci (v := nI (kf_cb mW mZ (kf_cut ww zz) zz (cs 0))) (va_runV (As := [.int 0, .long (kf_cut ww zz), .int (nI zz)]) (rest := []) ⟨hx, hb, hml, hown, hts⟩ (c_X4_place0 l G mo mc mw mz mv mp mh 0 cs mW mZ mV po pw (kf_cut ww zz) zz hcs hmz (by omega)) (cwV 3 hts gX4_remove_X4_place rfl rfl rfl (by decide +kernel) ⟨Nat.le_of_ble_eq_true rfl, Nat.le_of_ble_eq_true rfl⟩) (kz_pv hK hPc (va_recv hK.1 hPc (ci := 4) (q0 := 0) rfl rfl)) rfl rfl hl.1 rfl (lv_room (Nat.le_of_ble_eq_true rfl)) dX4_remove_25 ⟨Nat.zero_le _, Nat.zero_le _⟩).run ?_
        refine lv_istore (lv' := [(4, .int (nI (kf_cb mW mZ (kf_cut ww zz) zz (cs 0)))), (0, .ref mo), (1, .long ww), (3, .int (nI zz))]) hx hb dX4_remove_28 hl (by decide) rfl (fun ls hl => ?_)
        have hcb := kf_cb_le mW mZ (kf_cut ww zz) zz (cs 0)
        have hc0 := hcs 0
        refine lv_aload_n hx hb dX4_remove_30 rfl (lv_at hl 1 rfl) ?_
        refine lv_iconst (v := 0) hx hb dX4_remove_31 (by decide) ?_
        refine lv_iload hx hb dX4_remove_32 (lv_at hl 0 rfl) ?_
        refine lv_lload_n hx hb dX4_remove_34 rfl (lv_at hl 2 rfl) ?_
        refine lv_iload_n hx hb dX4_remove_35 rfl (lv_at hl 3 rfl) ?_
        refine kz_cl (v := kf_cut ww zz) (va_runS (As := [.long ww, .int (nI zz)]) (rest := [.int (nI (kf_cb mW mZ (kf_cut ww zz) zz (cs 0))), .int 0, .ref mo]) ⟨hx, hb, hml, hown, hts⟩ (c_X4_cut l ww zz (by omega)) (va_cwS 2 hts gX4_remove_X4_cut rfl rfl rfl (by decide +kernel) ⟨Nat.le_of_ble_eq_true rfl, Nat.le_of_ble_eq_true rfl⟩) kz_ps0 rfl rfl hl.1 rfl (lv_room (Nat.le_of_ble_eq_true rfl)) dX4_remove_36 ⟨Nat.zero_le _, Nat.zero_le _⟩).run ?_
        refine lv_iload_n hx hb dX4_remove_39 rfl (lv_at hl 3 rfl) ?_
        have hPc := hP.sub (ws' := [(mo, .inr (4, [.int 0, .ref mc, .ref mw, .ref mz, .ref mv, .ref mp, .ref mh])), (mc, .inl (gI G, 4, .inl (kz_z cs))), (mw, .inl (gJ G, 480, .inr (.inl mW))), (mz, .inl (gI G, 480, .inl (kz_z mZ))), (mv, .inl (gI G, 480, .inl mV)), (mp, .inl (gZ G, 3, .inl (kz_bo po))), (mh, .inl (gI G, 3, .inl (kz_pw pw)))]) [0, 1, 2, 3, 4, 5, 6] rfl
        refine kz_ci (v := if (kf_cb mW mZ (kf_cut ww zz) zz (cs 0)) < cs 0 ∧ mW (kf_cb mW mZ (kf_cut ww zz) zz (cs 0)) = kf_cut ww zz ∧ mZ (kf_cb mW mZ (kf_cut ww zz) zz (cs 0)) = zz then 1 else 0) (va_runV (As := [.int 0, .int (nI (kf_cb mW mZ (kf_cut ww zz) zz (cs 0))), .long (kf_cut ww zz), .int (nI zz)]) (rest := []) ⟨hx, hb, hml, hown, hts⟩ (c_X4_has0 l G mo mc mw mz mv mp mh 0 cs mW mZ mV po pw (kf_cb mW mZ (kf_cut ww zz) zz (cs 0)) (kf_cut ww zz) zz hcs hmz (by omega) (by omega)) (cwV 4 hts gX4_remove_X4_has rfl rfl rfl (by decide +kernel) ⟨Nat.le_of_ble_eq_true rfl, Nat.le_of_ble_eq_true rfl⟩) (kz_pv hK hPc (va_recv hK.1 hPc (ci := 4) (q0 := 0) rfl rfl)) rfl rfl hl.1 rfl (lv_room (Nat.le_of_ble_eq_true rfl)) dX4_remove_40 ⟨Nat.zero_le _, Nat.zero_le _⟩).run ?_
        refine lv_if_ne (tgt := 48) hx hb dX4_remove_43 (by decide) (fun c_3 => ?_) (fun c_3 => ?_)
        · have kc_3 := kf_if1 c_3
          have hlt := kc_3.1
          refine lv_aload_n hx hb dX4_remove_48 rfl (lv_at hl 1 rfl) ?_
          refine va_get (D := G.1) (ci := 4) (v := .ref mc) (C := RX4) (T := TX4) (N := 7) hx hb hts hinX4 hown hK.1 hP 0 rfl rfl 1 (by decide) (hts (.fieldLink RX4 7 "ForkStoreModel" "counts" "[I") (by decide +kernel)) (fun _ h9 => h9) rfl dX4_remove_49 ?_
          refine lv_iconst (v := 0) hx hb dX4_remove_52 (by decide) ?_
          refine lv_dup2_11 hx hb dX4_remove_53 rfl rfl ?_
          refine kz_iald hx hb hK.1 hP 1 0 rfl rfl (k := 0) (by decide) (by decide) dX4_remove_54 ?_
          refine kz_asi (y := nI (cs 0)) rfl ?_
          refine lv_iconst (v := 1) hx hb dX4_remove_55 (by decide) ?_
          refine lv_isub hx hb dX4_remove_56 ?_
          refine kz_asi (y := nI (cs 0 - 1)) (pk_sub (a := cs 0) (b := 1) (by omega)) ?_
          refine kz_iast hx hb hK.1 hP hD hS 1 0 rfl rfl (k := 0) (by decide) (by decide) dX4_remove_57 (fun H locs hP hD hS => ?_)
          have hP : va_P G.1 vwCl [(mo, .inr (4, [.int 0, .ref mc, .ref mw, .ref mz, .ref mv, .ref mp, .ref mh])), (mc, .inl (gI G, 4, .inl (upd (kz_z cs) 0 (nI (cs 0 - 1))))), (mw, .inl (gJ G, 480, .inr (.inl mW))), (mz, .inl (gI G, 480, .inl (kz_z mZ))), (mv, .inl (gI G, 480, .inl mV)), (mp, .inl (gZ G, 3, .inl (kz_bo po))), (mh, .inl (gI G, 3, .inl (kz_pw pw)))] H := hP
          have hD : va_D A [(mo, .inr (4, [.int 0, .ref mc, .ref mw, .ref mz, .ref mv, .ref mp, .ref mh])), (mc, .inl (gI G, 4, .inl (upd (kz_z cs) 0 (nI (cs 0 - 1))))), (mw, .inl (gJ G, 480, .inr (.inl mW))), (mz, .inl (gI G, 480, .inl (kz_z mZ))), (mv, .inl (gI G, 480, .inl mV)), (mp, .inl (gZ G, 3, .inl (kz_bo po))), (mh, .inl (gI G, 3, .inl (kz_pw pw)))] := hD
          rw [show upd (kz_z cs) 0 (nI (cs 0 - 1)) = kz_z (kz_un cs 0 (cs 0 - 1)) from (kz_zu _ _ _).symm] at hP hD
          have hP : va_P G.1 vwCl [(mo, .inr (4, [.int 0, .ref mc, .ref mw, .ref mz, .ref mv, .ref mp, .ref mh])), (mc, .inl (gI G, 4, .inl (kz_z (kz_un cs 0 (cs 0 - 1))))), (mw, .inl (gJ G, 480, .inr (.inl mW))), (mz, .inl (gI G, 480, .inl (kz_z mZ))), (mv, .inl (gI G, 480, .inl mV)), (mp, .inl (gZ G, 3, .inl (kz_bo po))), (mh, .inl (gI G, 3, .inl (kz_pw pw)))] H := hP
          have hD : va_D A [(mo, .inr (4, [.int 0, .ref mc, .ref mw, .ref mz, .ref mv, .ref mp, .ref mh])), (mc, .inl (gI G, 4, .inl (kz_z (kz_un cs 0 (cs 0 - 1))))), (mw, .inl (gJ G, 480, .inr (.inl mW))), (mz, .inl (gI G, 480, .inl (kz_z mZ))), (mv, .inl (gI G, 480, .inl mV)), (mp, .inl (gZ G, 3, .inl (kz_bo po))), (mh, .inl (gI G, 3, .inl (kz_pw pw)))] := hD
          refine lv_iload hx hb dX4_remove_58 (lv_at hl 0 rfl) ?_
          refine lv_istore (lv' := [(5, .int (nI (kf_cb mW mZ (kf_cut ww zz) zz (cs 0)))), (4, .int (nI (kf_cb mW mZ (kf_cut ww zz) zz (cs 0)))), (0, .ref mo), (1, .long ww), (3, .int (nI zz))]) hx hb dX4_remove_60 hl (by decide) rfl (fun ls hl => ?_)
          refine kz_loopm (D := G.1) (cl := vwCl) (A := A) (H0 := s.heap) (nL := 6) (hd := 62) (e9 := cs 0 - 1 - (kf_cb mW mZ (kf_cut ww zz) zz (cs 0))) (i0 := 0) (LV := fun ii => [(5, .int (nI ((kf_cb mW mZ (kf_cut ww zz) zz (cs 0)) + ii))), (0, .ref mo), (1, .long ww), (3, .int (nI zz)), (4, .int (nI (kf_cb mW mZ (kf_cut ww zz) zz (cs 0))))]) (WV := fun ii => [(mo, .inr (4, [.int 0, .ref mc, .ref mw, .ref mz, .ref mv, .ref mp, .ref mh])), (mc, .inl (gI G, 4, .inl (kz_z (kz_un cs 0 (cs 0 - 1))))), (mw, .inl (gJ G, 480, .inr (.inl (kf_dn mW (kf_cb mW mZ (kf_cut ww zz) zz (cs 0)) ((kf_cb mW mZ (kf_cut ww zz) zz (cs 0)) + ii))))), (mz, .inl (gI G, 480, .inl (kz_z (kf_dn mZ (kf_cb mW mZ (kf_cut ww zz) zz (cs 0)) ((kf_cb mW mZ (kf_cut ww zz) zz (cs 0)) + ii))))), (mv, .inl (gI G, 480, .inl (kf_dn mV (kf_cb mW mZ (kf_cut ww zz) zz (cs 0)) ((kf_cb mW mZ (kf_cut ww zz) zz (cs 0)) + ii)))), (mp, .inl (gZ G, 3, .inl (kz_bo po))), (mh, .inl (gI G, 3, .inl (kz_pw pw)))]) (fun ii H locs ls hii hl hP hD hS ih => ?_) (Nat.zero_le _) (lv_sub hl [0, 2, 3, 4, 1] rfl) (by simp only [Nat.add_zero, kf_dn_id]; exact hP) (by simp only [Nat.add_zero, kf_dn_id]; exact hD) hS
          have hl : lv_has ls 6 [(5, .int (nI ((kf_cb mW mZ (kf_cut ww zz) zz (cs 0)) + ii))), (0, .ref mo), (1, .long ww), (3, .int (nI zz)), (4, .int (nI (kf_cb mW mZ (kf_cut ww zz) zz (cs 0))))] := hl
          have hP : va_P G.1 vwCl [(mo, .inr (4, [.int 0, .ref mc, .ref mw, .ref mz, .ref mv, .ref mp, .ref mh])), (mc, .inl (gI G, 4, .inl (kz_z (kz_un cs 0 (cs 0 - 1))))), (mw, .inl (gJ G, 480, .inr (.inl (kf_dn mW (kf_cb mW mZ (kf_cut ww zz) zz (cs 0)) ((kf_cb mW mZ (kf_cut ww zz) zz (cs 0)) + ii))))), (mz, .inl (gI G, 480, .inl (kz_z (kf_dn mZ (kf_cb mW mZ (kf_cut ww zz) zz (cs 0)) ((kf_cb mW mZ (kf_cut ww zz) zz (cs 0)) + ii))))), (mv, .inl (gI G, 480, .inl (kf_dn mV (kf_cb mW mZ (kf_cut ww zz) zz (cs 0)) ((kf_cb mW mZ (kf_cut ww zz) zz (cs 0)) + ii)))), (mp, .inl (gZ G, 3, .inl (kz_bo po))), (mh, .inl (gI G, 3, .inl (kz_pw pw)))] H := hP
          have hD : va_D A [(mo, .inr (4, [.int 0, .ref mc, .ref mw, .ref mz, .ref mv, .ref mp, .ref mh])), (mc, .inl (gI G, 4, .inl (kz_z (kz_un cs 0 (cs 0 - 1))))), (mw, .inl (gJ G, 480, .inr (.inl (kf_dn mW (kf_cb mW mZ (kf_cut ww zz) zz (cs 0)) ((kf_cb mW mZ (kf_cut ww zz) zz (cs 0)) + ii))))), (mz, .inl (gI G, 480, .inl (kz_z (kf_dn mZ (kf_cb mW mZ (kf_cut ww zz) zz (cs 0)) ((kf_cb mW mZ (kf_cut ww zz) zz (cs 0)) + ii))))), (mv, .inl (gI G, 480, .inl (kf_dn mV (kf_cb mW mZ (kf_cut ww zz) zz (cs 0)) ((kf_cb mW mZ (kf_cut ww zz) zz (cs 0)) + ii)))), (mp, .inl (gZ G, 3, .inl (kz_bo po))), (mh, .inl (gI G, 3, .inl (kz_pw pw)))] := hD
          refine lv_iload hx hb dX4_remove_62 (lv_at hl 0 rfl) ?_
          refine lv_aload_n hx hb dX4_remove_64 rfl (lv_at hl 1 rfl) ?_
          refine va_get (D := G.1) (ci := 4) (v := .ref mc) (C := RX4) (T := TX4) (N := 7) hx hb hts hinX4 hown hK.1 hP 0 rfl rfl 1 (by decide) (hts (.fieldLink RX4 7 "ForkStoreModel" "counts" "[I") (by decide +kernel)) (fun _ h9 => h9) rfl dX4_remove_65 ?_
          refine lv_iconst (v := 0) hx hb dX4_remove_68 (by decide) ?_
          refine kz_iald hx hb hK.1 hP 1 0 rfl rfl (k := 0) (by decide) (by decide) dX4_remove_69 ?_
          refine kz_asi (y := nI ((kz_un cs 0 (cs 0 - 1)) 0)) rfl ?_
          refine kz_asi (y := nI (cs 0 - 1)) rfl ?_
          refine lv_icmp_ge (tgt := 89) hx hb dX4_remove_70 (by decide) (fun c_4 => ?_) (fun c_4 => ?_)
          · have kc_4 : cs 0 - 1 ≤ (kf_cb mW mZ (kf_cut ww zz) zz (cs 0)) + ii := (nI_leI (by omega) (by omega)).mp c_4
            rw [show (kf_cb mW mZ (kf_cut ww zz) zz (cs 0)) + ii = cs 0 - 1 from by omega] at hP hD
            have hP : va_P G.1 vwCl [(mo, .inr (4, [.int 0, .ref mc, .ref mw, .ref mz, .ref mv, .ref mp, .ref mh])), (mc, .inl (gI G, 4, .inl (kz_z (kz_un cs 0 (cs 0 - 1))))), (mw, .inl (gJ G, 480, .inr (.inl (kf_dn mW (kf_cb mW mZ (kf_cut ww zz) zz (cs 0)) (cs 0 - 1))))), (mz, .inl (gI G, 480, .inl (kz_z (kf_dn mZ (kf_cb mW mZ (kf_cut ww zz) zz (cs 0)) (cs 0 - 1))))), (mv, .inl (gI G, 480, .inl (kf_dn mV (kf_cb mW mZ (kf_cut ww zz) zz (cs 0)) (cs 0 - 1)))), (mp, .inl (gZ G, 3, .inl (kz_bo po))), (mh, .inl (gI G, 3, .inl (kz_pw pw)))] _ := hP
            have hD : va_D A [(mo, .inr (4, [.int 0, .ref mc, .ref mw, .ref mz, .ref mv, .ref mp, .ref mh])), (mc, .inl (gI G, 4, .inl (kz_z (kz_un cs 0 (cs 0 - 1))))), (mw, .inl (gJ G, 480, .inr (.inl (kf_dn mW (kf_cb mW mZ (kf_cut ww zz) zz (cs 0)) (cs 0 - 1))))), (mz, .inl (gI G, 480, .inl (kz_z (kf_dn mZ (kf_cb mW mZ (kf_cut ww zz) zz (cs 0)) (cs 0 - 1))))), (mv, .inl (gI G, 480, .inl (kf_dn mV (kf_cb mW mZ (kf_cut ww zz) zz (cs 0)) (cs 0 - 1)))), (mp, .inl (gZ G, 3, .inl (kz_bo po))), (mh, .inl (gI G, 3, .inl (kz_pw pw)))] := hD
            refine lv_iconst (v := 1) hx hb dX4_remove_89 (by decide) ?_
            exact W.zret (v := 1) hx hb hr rfl (fun t ht hW => ⟨⟨_, ([(mo, .inr (4, [.int 0, .ref mc, .ref mw, .ref mz, .ref mv, .ref mp, .ref mh])), (mc, .inl (gI G, 4, .inl (kz_z (kz_un cs 0 (cs 0 - 1))))), (mw, .inl (gJ G, 480, .inr (.inl (kf_dn mW (kf_cb mW mZ (kf_cut ww zz) zz (cs 0)) (cs 0 - 1))))), (mz, .inl (gI G, 480, .inl (kz_z (kf_dn mZ (kf_cb mW mZ (kf_cut ww zz) zz (cs 0)) (cs 0 - 1))))), (mv, .inl (gI G, 480, .inl (kf_dn mV (kf_cb mW mZ (kf_cut ww zz) zz (cs 0)) (cs 0 - 1)))), (mp, .inl (gZ G, 3, .inl (kz_bo po))), (mh, .inl (gI G, 3, .inl (kz_pw pw)))] : va_W), rfl, (Or.inr (Or.inl ⟨zz, hzz, rfl, kc_3, rfl, rfl⟩)), by rw [← ht] at hP; exact hP⟩, hS.F ht⟩) hS.2.2 dX4_remove_90
          · have kc_4 : (kf_cb mW mZ (kf_cut ww zz) zz (cs 0)) + ii < cs 0 - 1 := Nat.lt_of_not_le (fun h => c_4 (nI_le h (by omega)))
            refine lv_aload_n hx hb dX4_remove_73 rfl (lv_at hl 1 rfl) ?_
            refine lv_iload hx hb dX4_remove_74 (lv_at hl 0 rfl) ?_
            refine lv_iconst (v := 1) hx hb dX4_remove_76 (by decide) ?_
            refine lv_iadd hx hb dX4_remove_77 ?_
            refine kz_asi (y := nI ((kf_cb mW mZ (kf_cut ww zz) zz (cs 0)) + ii + 1)) (nI_1 _) ?_
            refine lv_iload hx hb dX4_remove_78 (lv_at hl 0 rfl) ?_
            have hPc := hP.sub (ws' := [(mo, .inr (4, [.int 0, .ref mc, .ref mw, .ref mz, .ref mv, .ref mp, .ref mh])), (mc, .inl (gI G, 4, .inl (kz_z (kz_un cs 0 (cs 0 - 1))))), (mw, .inl (gJ G, 480, .inr (.inl (kf_dn mW (kf_cb mW mZ (kf_cut ww zz) zz (cs 0)) ((kf_cb mW mZ (kf_cut ww zz) zz (cs 0)) + ii))))), (mz, .inl (gI G, 480, .inl (kz_z (kf_dn mZ (kf_cb mW mZ (kf_cut ww zz) zz (cs 0)) ((kf_cb mW mZ (kf_cut ww zz) zz (cs 0)) + ii))))), (mv, .inl (gI G, 480, .inl (kf_dn mV (kf_cb mW mZ (kf_cut ww zz) zz (cs 0)) ((kf_cb mW mZ (kf_cut ww zz) zz (cs 0)) + ii)))), (mp, .inl (gZ G, 3, .inl (kz_bo po))), (mh, .inl (gI G, 3, .inl (kz_pw pw)))]) [0, 1, 2, 3, 4, 5, 6] rfl
            have hDc := hD.sub (ws' := [(mo, .inr (4, [.int 0, .ref mc, .ref mw, .ref mz, .ref mv, .ref mp, .ref mh])), (mc, .inl (gI G, 4, .inl (kz_z (kz_un cs 0 (cs 0 - 1))))), (mw, .inl (gJ G, 480, .inr (.inl (kf_dn mW (kf_cb mW mZ (kf_cut ww zz) zz (cs 0)) ((kf_cb mW mZ (kf_cut ww zz) zz (cs 0)) + ii))))), (mz, .inl (gI G, 480, .inl (kz_z (kf_dn mZ (kf_cb mW mZ (kf_cut ww zz) zz (cs 0)) ((kf_cb mW mZ (kf_cut ww zz) zz (cs 0)) + ii))))), (mv, .inl (gI G, 480, .inl (kf_dn mV (kf_cb mW mZ (kf_cut ww zz) zz (cs 0)) ((kf_cb mW mZ (kf_cut ww zz) zz (cs 0)) + ii)))), (mp, .inl (gZ G, 3, .inl (kz_bo po))), (mh, .inl (gI G, 3, .inl (kz_pw pw)))]) [0, 1, 2, 3, 4, 5, 6] (by decide) rfl
            have hFc := va_free (wc := [(mo, .inr (4, [.int 0, .ref mc, .ref mw, .ref mz, .ref mv, .ref mp, .ref mh])), (mc, .inl (gI G, 4, .inl (kz_z (kz_un cs 0 (cs 0 - 1))))), (mw, .inl (gJ G, 480, .inr (.inl (kf_dn mW (kf_cb mW mZ (kf_cut ww zz) zz (cs 0)) ((kf_cb mW mZ (kf_cut ww zz) zz (cs 0)) + ii))))), (mz, .inl (gI G, 480, .inl (kz_z (kf_dn mZ (kf_cb mW mZ (kf_cut ww zz) zz (cs 0)) ((kf_cb mW mZ (kf_cut ww zz) zz (cs 0)) + ii))))), (mv, .inl (gI G, 480, .inl (kf_dn mV (kf_cb mW mZ (kf_cut ww zz) zz (cs 0)) ((kf_cb mW mZ (kf_cut ww zz) zz (cs 0)) + ii)))), (mp, .inl (gZ G, 3, .inl (kz_bo po))), (mh, .inl (gI G, 3, .inl (kz_pw pw)))]) hD hS hA [0, 1, 2, 3, 4, 5, 6] rfl
            refine va_callv (va_runV (As := [.int (nI ((kf_cb mW mZ (kf_cut ww zz) zz (cs 0)) + ii + 1)), .int (nI ((kf_cb mW mZ (kf_cut ww zz) zz (cs 0)) + ii))]) (rest := []) ⟨hx, hb, hml, hown, hts⟩ (c_X4_copy l G mo mc mw mz mv mp mh 0 (kz_un cs 0 (cs 0 - 1)) (kf_dn mW (kf_cb mW mZ (kf_cut ww zz) zz (cs 0)) ((kf_cb mW mZ (kf_cut ww zz) zz (cs 0)) + ii)) (kf_dn mZ (kf_cb mW mZ (kf_cut ww zz) zz (cs 0)) ((kf_cb mW mZ (kf_cut ww zz) zz (cs 0)) + ii)) (kf_dn mV (kf_cb mW mZ (kf_cut ww zz) zz (cs 0)) ((kf_cb mW mZ (kf_cut ww zz) zz (cs 0)) + ii)) po pw ((kf_cb mW mZ (kf_cut ww zz) zz (cs 0)) + ii + 1) ((kf_cb mW mZ (kf_cut ww zz) zz (cs 0)) + ii) _ (by omega) (by omega)) (cwV 2 hts gX4_remove_X4_copy rfl rfl rfl (by decide +kernel) ⟨Nat.le_of_ble_eq_true rfl, Nat.le_of_ble_eq_true rfl⟩) (kz_pvm hK hPc hDc (va_recv hK.1 hPc (ci := 4) (q0 := 0) rfl rfl)) rfl rfl hl.1 rfl (lv_room (Nat.le_of_ble_eq_true rfl)) dX4_remove_80 ⟨Nat.zero_le _, Nat.zero_le _⟩) hS (fun q _ h => hFc q h) hFc (fun u t H locs ht hvm hw hB hqz9 hqk9 hS => ?_)
            have hw : u = [(mo, .inr (4, [.int 0, .ref mc, .ref mw, .ref mz, .ref mv, .ref mp, .ref mh])), (mc, .inl (gI G, 4, .inl (kz_z (kz_un cs 0 (cs 0 - 1))))), (mw, .inl (gJ G, 480, .inr (.inl (vp_updL (kf_dn mW (kf_cb mW mZ (kf_cut ww zz) zz (cs 0)) ((kf_cb mW mZ (kf_cut ww zz) zz (cs 0)) + ii)) ((kf_cb mW mZ (kf_cut ww zz) zz (cs 0)) + ii) ((kf_dn mW (kf_cb mW mZ (kf_cut ww zz) zz (cs 0)) ((kf_cb mW mZ (kf_cut ww zz) zz (cs 0)) + ii)) ((kf_cb mW mZ (kf_cut ww zz) zz (cs 0)) + ii + 1)))))), (mz, .inl (gI G, 480, .inl (kz_z (kz_un (kf_dn mZ (kf_cb mW mZ (kf_cut ww zz) zz (cs 0)) ((kf_cb mW mZ (kf_cut ww zz) zz (cs 0)) + ii)) ((kf_cb mW mZ (kf_cut ww zz) zz (cs 0)) + ii) ((kf_dn mZ (kf_cb mW mZ (kf_cut ww zz) zz (cs 0)) ((kf_cb mW mZ (kf_cut ww zz) zz (cs 0)) + ii)) ((kf_cb mW mZ (kf_cut ww zz) zz (cs 0)) + ii + 1)))))), (mv, .inl (gI G, 480, .inl (upd (kf_dn mV (kf_cb mW mZ (kf_cut ww zz) zz (cs 0)) ((kf_cb mW mZ (kf_cut ww zz) zz (cs 0)) + ii)) ((kf_cb mW mZ (kf_cut ww zz) zz (cs 0)) + ii) ((kf_dn mV (kf_cb mW mZ (kf_cut ww zz) zz (cs 0)) ((kf_cb mW mZ (kf_cut ww zz) zz (cs 0)) + ii)) ((kf_cb mW mZ (kf_cut ww zz) zz (cs 0)) + ii + 1))))), (mp, .inl (gZ G, 3, .inl (kz_bo po))), (mh, .inl (gI G, 3, .inl (kz_pw pw)))] := hw
            have hB : va_P G.1 vwCl u H := by rw [← ht]; exact hB
            rw [hw] at hB
            obtain ⟨hP, hD⟩ := kz_join (wc := [(mo, .inr (4, [.int 0, .ref mc, .ref mw, .ref mz, .ref mv, .ref mp, .ref mh])), (mc, .inl (gI G, 4, .inl (kz_z (kz_un cs 0 (cs 0 - 1))))), (mw, .inl (gJ G, 480, .inr (.inl (kf_dn mW (kf_cb mW mZ (kf_cut ww zz) zz (cs 0)) ((kf_cb mW mZ (kf_cut ww zz) zz (cs 0)) + ii))))), (mz, .inl (gI G, 480, .inl (kz_z (kf_dn mZ (kf_cb mW mZ (kf_cut ww zz) zz (cs 0)) ((kf_cb mW mZ (kf_cut ww zz) zz (cs 0)) + ii))))), (mv, .inl (gI G, 480, .inl (kf_dn mV (kf_cb mW mZ (kf_cut ww zz) zz (cs 0)) ((kf_cb mW mZ (kf_cut ww zz) zz (cs 0)) + ii)))), (mp, .inl (gZ G, 3, .inl (kz_bo po))), (mh, .inl (gI G, 3, .inl (kz_pw pw)))]) (w1 := [(mo, .inr (4, [.int 0, .ref mc, .ref mw, .ref mz, .ref mv, .ref mp, .ref mh])), (mc, .inl (gI G, 4, .inl (kz_z (kz_un cs 0 (cs 0 - 1))))), (mw, .inl (gJ G, 480, .inr (.inl (vp_updL (kf_dn mW (kf_cb mW mZ (kf_cut ww zz) zz (cs 0)) ((kf_cb mW mZ (kf_cut ww zz) zz (cs 0)) + ii)) ((kf_cb mW mZ (kf_cut ww zz) zz (cs 0)) + ii) ((kf_dn mW (kf_cb mW mZ (kf_cut ww zz) zz (cs 0)) ((kf_cb mW mZ (kf_cut ww zz) zz (cs 0)) + ii)) ((kf_cb mW mZ (kf_cut ww zz) zz (cs 0)) + ii + 1)))))), (mz, .inl (gI G, 480, .inl (kz_z (kz_un (kf_dn mZ (kf_cb mW mZ (kf_cut ww zz) zz (cs 0)) ((kf_cb mW mZ (kf_cut ww zz) zz (cs 0)) + ii)) ((kf_cb mW mZ (kf_cut ww zz) zz (cs 0)) + ii) ((kf_dn mZ (kf_cb mW mZ (kf_cut ww zz) zz (cs 0)) ((kf_cb mW mZ (kf_cut ww zz) zz (cs 0)) + ii)) ((kf_cb mW mZ (kf_cut ww zz) zz (cs 0)) + ii + 1)))))), (mv, .inl (gI G, 480, .inl (upd (kf_dn mV (kf_cb mW mZ (kf_cut ww zz) zz (cs 0)) ((kf_cb mW mZ (kf_cut ww zz) zz (cs 0)) + ii)) ((kf_cb mW mZ (kf_cut ww zz) zz (cs 0)) + ii) ((kf_dn mV (kf_cb mW mZ (kf_cut ww zz) zz (cs 0)) ((kf_cb mW mZ (kf_cut ww zz) zz (cs 0)) + ii)) ((kf_cb mW mZ (kf_cut ww zz) zz (cs 0)) + ii + 1))))), (mp, .inl (gZ G, 3, .inl (kz_bo po))), (mh, .inl (gI G, 3, .inl (kz_pw pw)))]) hP hD [0, 1, 2, 3, 4, 5, 6] rfl (by decide) rfl hqk9 hB
            have hP : va_P G.1 vwCl [(mo, .inr (4, [.int 0, .ref mc, .ref mw, .ref mz, .ref mv, .ref mp, .ref mh])), (mc, .inl (gI G, 4, .inl (kz_z (kz_un cs 0 (cs 0 - 1))))), (mw, .inl (gJ G, 480, .inr (.inl (vp_updL (kf_dn mW (kf_cb mW mZ (kf_cut ww zz) zz (cs 0)) ((kf_cb mW mZ (kf_cut ww zz) zz (cs 0)) + ii)) ((kf_cb mW mZ (kf_cut ww zz) zz (cs 0)) + ii) ((kf_dn mW (kf_cb mW mZ (kf_cut ww zz) zz (cs 0)) ((kf_cb mW mZ (kf_cut ww zz) zz (cs 0)) + ii)) ((kf_cb mW mZ (kf_cut ww zz) zz (cs 0)) + ii + 1)))))), (mz, .inl (gI G, 480, .inl (kz_z (kz_un (kf_dn mZ (kf_cb mW mZ (kf_cut ww zz) zz (cs 0)) ((kf_cb mW mZ (kf_cut ww zz) zz (cs 0)) + ii)) ((kf_cb mW mZ (kf_cut ww zz) zz (cs 0)) + ii) ((kf_dn mZ (kf_cb mW mZ (kf_cut ww zz) zz (cs 0)) ((kf_cb mW mZ (kf_cut ww zz) zz (cs 0)) + ii)) ((kf_cb mW mZ (kf_cut ww zz) zz (cs 0)) + ii + 1)))))), (mv, .inl (gI G, 480, .inl (upd (kf_dn mV (kf_cb mW mZ (kf_cut ww zz) zz (cs 0)) ((kf_cb mW mZ (kf_cut ww zz) zz (cs 0)) + ii)) ((kf_cb mW mZ (kf_cut ww zz) zz (cs 0)) + ii) ((kf_dn mV (kf_cb mW mZ (kf_cut ww zz) zz (cs 0)) ((kf_cb mW mZ (kf_cut ww zz) zz (cs 0)) + ii)) ((kf_cb mW mZ (kf_cut ww zz) zz (cs 0)) + ii + 1))))), (mp, .inl (gZ G, 3, .inl (kz_bo po))), (mh, .inl (gI G, 3, .inl (kz_pw pw)))] H := hP
            have hD : va_D A [(mo, .inr (4, [.int 0, .ref mc, .ref mw, .ref mz, .ref mv, .ref mp, .ref mh])), (mc, .inl (gI G, 4, .inl (kz_z (kz_un cs 0 (cs 0 - 1))))), (mw, .inl (gJ G, 480, .inr (.inl (vp_updL (kf_dn mW (kf_cb mW mZ (kf_cut ww zz) zz (cs 0)) ((kf_cb mW mZ (kf_cut ww zz) zz (cs 0)) + ii)) ((kf_cb mW mZ (kf_cut ww zz) zz (cs 0)) + ii) ((kf_dn mW (kf_cb mW mZ (kf_cut ww zz) zz (cs 0)) ((kf_cb mW mZ (kf_cut ww zz) zz (cs 0)) + ii)) ((kf_cb mW mZ (kf_cut ww zz) zz (cs 0)) + ii + 1)))))), (mz, .inl (gI G, 480, .inl (kz_z (kz_un (kf_dn mZ (kf_cb mW mZ (kf_cut ww zz) zz (cs 0)) ((kf_cb mW mZ (kf_cut ww zz) zz (cs 0)) + ii)) ((kf_cb mW mZ (kf_cut ww zz) zz (cs 0)) + ii) ((kf_dn mZ (kf_cb mW mZ (kf_cut ww zz) zz (cs 0)) ((kf_cb mW mZ (kf_cut ww zz) zz (cs 0)) + ii)) ((kf_cb mW mZ (kf_cut ww zz) zz (cs 0)) + ii + 1)))))), (mv, .inl (gI G, 480, .inl (upd (kf_dn mV (kf_cb mW mZ (kf_cut ww zz) zz (cs 0)) ((kf_cb mW mZ (kf_cut ww zz) zz (cs 0)) + ii)) ((kf_cb mW mZ (kf_cut ww zz) zz (cs 0)) + ii) ((kf_dn mV (kf_cb mW mZ (kf_cut ww zz) zz (cs 0)) ((kf_cb mW mZ (kf_cut ww zz) zz (cs 0)) + ii)) ((kf_cb mW mZ (kf_cut ww zz) zz (cs 0)) + ii + 1))))), (mp, .inl (gZ G, 3, .inl (kz_bo po))), (mh, .inl (gI G, 3, .inl (kz_pw pw)))] := hD
            refine lv_iinc (v := nI ((kf_cb mW mZ (kf_cut ww zz) zz (cs 0)) + (ii + 1))) (lv' := [(5, .int (nI ((kf_cb mW mZ (kf_cut ww zz) zz (cs 0)) + (ii + 1)))), (0, .ref mo), (1, .long ww), (3, .int (nI zz)), (4, .int (nI (kf_cb mW mZ (kf_cut ww zz) zz (cs 0))))]) hx hb dX4_remove_83 hl (k := 0) rfl (nI_1 ((kf_cb mW mZ (kf_cut ww zz) zz (cs 0)) + ii)) (by decide) rfl (fun ls hl => ?_)
            refine lv_goto (tgt := 62) hx hb dX4_remove_86 (by decide) ?_
            have e1 := kf_dn_L mW (k := (kf_cb mW mZ (kf_cut ww zz) zz (cs 0))) (i := (kf_cb mW mZ (kf_cut ww zz) zz (cs 0)) + ii) (by omega)
            have e2 := kf_dn_N mZ (k := (kf_cb mW mZ (kf_cut ww zz) zz (cs 0))) (i := (kf_cb mW mZ (kf_cut ww zz) zz (cs 0)) + ii) (by omega)
            have e3 := kf_dn_I mV (k := (kf_cb mW mZ (kf_cut ww zz) zz (cs 0))) (i := (kf_cb mW mZ (kf_cut ww zz) zz (cs 0)) + ii) (by omega)
            exact ih H locs ls (by omega) (lv_sub hl [0, 1, 2, 3, 4] rfl) (by show va_P G.1 vwCl [(mo, .inr (4, [.int 0, .ref mc, .ref mw, .ref mz, .ref mv, .ref mp, .ref mh])), (mc, .inl (gI G, 4, .inl (kz_z (kz_un cs 0 (cs 0 - 1))))), (mw, .inl (gJ G, 480, .inr (.inl (kf_dn mW (kf_cb mW mZ (kf_cut ww zz) zz (cs 0)) ((kf_cb mW mZ (kf_cut ww zz) zz (cs 0)) + ii + 1))))), (mz, .inl (gI G, 480, .inl (kz_z (kf_dn mZ (kf_cb mW mZ (kf_cut ww zz) zz (cs 0)) ((kf_cb mW mZ (kf_cut ww zz) zz (cs 0)) + ii + 1))))), (mv, .inl (gI G, 480, .inl (kf_dn mV (kf_cb mW mZ (kf_cut ww zz) zz (cs 0)) ((kf_cb mW mZ (kf_cut ww zz) zz (cs 0)) + ii + 1)))), (mp, .inl (gZ G, 3, .inl (kz_bo po))), (mh, .inl (gI G, 3, .inl (kz_pw pw)))] H; rw [e1, e2, e3]; exact hP) (by show va_D A [(mo, .inr (4, [.int 0, .ref mc, .ref mw, .ref mz, .ref mv, .ref mp, .ref mh])), (mc, .inl (gI G, 4, .inl (kz_z (kz_un cs 0 (cs 0 - 1))))), (mw, .inl (gJ G, 480, .inr (.inl (kf_dn mW (kf_cb mW mZ (kf_cut ww zz) zz (cs 0)) ((kf_cb mW mZ (kf_cut ww zz) zz (cs 0)) + ii + 1))))), (mz, .inl (gI G, 480, .inl (kz_z (kf_dn mZ (kf_cb mW mZ (kf_cut ww zz) zz (cs 0)) ((kf_cb mW mZ (kf_cut ww zz) zz (cs 0)) + ii + 1))))), (mv, .inl (gI G, 480, .inl (kf_dn mV (kf_cb mW mZ (kf_cut ww zz) zz (cs 0)) ((kf_cb mW mZ (kf_cut ww zz) zz (cs 0)) + ii + 1)))), (mp, .inl (gZ G, 3, .inl (kz_bo po))), (mh, .inl (gI G, 3, .inl (kz_pw pw)))]; rw [e1, e2, e3]; exact hD) hS
        · have kc_3 := kf_if0 c_3
          refine lv_iconst (v := 0) hx hb dX4_remove_46 (by decide) ?_
          exact W.zret (v := 0) hx hb hr rfl (fun t ht hW => ⟨⟨_, ([(mo, .inr (4, [.int 0, .ref mc, .ref mw, .ref mz, .ref mv, .ref mp, .ref mh])), (mc, .inl (gI G, 4, .inl (kz_z cs))), (mw, .inl (gJ G, 480, .inr (.inl mW))), (mz, .inl (gI G, 480, .inl (kz_z mZ))), (mv, .inl (gI G, 480, .inl mV)), (mp, .inl (gZ G, 3, .inl (kz_bo po))), (mh, .inl (gI G, 3, .inl (kz_pw pw)))] : va_W), rfl, (Or.inr (Or.inr ⟨zz, hzz, rfl, kc_3, rfl, rfl⟩)), by rw [← ht] at hP; exact hP⟩, hS.F ht⟩) hS.2.2 dX4_remove_47
      · exact absurd (nI_le (b := 8) hzz (by decide)) c_2
  · have hno := hno
    refine lv_aload_n hx hb dX4_remove_0 rfl (lv_at hl 0 rfl) ?_
    refine lv_iconst (v := 0) hx hb dX4_remove_1 (by decide) ?_
    refine va_put (D := G.1) (ci := 4) (v := .int 0) (ty := .int) (C := RX4) (T := TX4) (N := 7) hx hb hts hinX4 tyX4 tyX4_ok nmX4 hown hK.1 hP hD hS 0 rfl rfl 0 (by decide) (hts (.fieldLink RX4 30 "ForkStoreModel" "thrown" "I") (by decide +kernel)) (fun _ h9 => h9) rfl (by decide +kernel) rfl rfl (Nat.le_of_ble_eq_true rfl) dX4_remove_2 (fun H locs hP hD hS => ?_)
    have hP : va_P G.1 vwCl [(mo, .inr (4, [.int 0, .ref mc, .ref mw, .ref mz, .ref mv, .ref mp, .ref mh])), (mc, .inl (gI G, 4, .inl (kz_z cs))), (mw, .inl (gJ G, 480, .inr (.inl mW))), (mz, .inl (gI G, 480, .inl (kz_z mZ))), (mv, .inl (gI G, 480, .inl mV)), (mp, .inl (gZ G, 3, .inl (kz_bo po))), (mh, .inl (gI G, 3, .inl (kz_pw pw)))] H := hP
    have hD : va_D A [(mo, .inr (4, [.int 0, .ref mc, .ref mw, .ref mz, .ref mv, .ref mp, .ref mh])), (mc, .inl (gI G, 4, .inl (kz_z cs))), (mw, .inl (gJ G, 480, .inr (.inl mW))), (mz, .inl (gI G, 480, .inl (kz_z mZ))), (mv, .inl (gI G, 480, .inl mV)), (mp, .inl (gZ G, 3, .inl (kz_bo po))), (mh, .inl (gI G, 3, .inl (kz_pw pw)))] := hD
    refine lv_iload_n hx hb dX4_remove_5 rfl (lv_at hl 2 rfl) ?_
    refine lv_if_lt (tgt := 15) hx hb dX4_remove_6 (by decide) (fun c_5 => ?_) (fun c_5 => ?_)
    · refine lv_iconst (v := 0) hx hb dX4_remove_15 (by decide) ?_
      exact W.zret (v := 0) hx hb hr rfl (fun t ht hW => ⟨⟨_, ([(mo, .inr (4, [.int 0, .ref mc, .ref mw, .ref mz, .ref mv, .ref mp, .ref mh])), (mc, .inl (gI G, 4, .inl (kz_z cs))), (mw, .inl (gJ G, 480, .inr (.inl mW))), (mz, .inl (gI G, 480, .inl (kz_z mZ))), (mv, .inl (gI G, 480, .inl mV)), (mp, .inl (gZ G, 3, .inl (kz_bo po))), (mh, .inl (gI G, 3, .inl (kz_pw pw)))] : va_W), rfl, (Or.inl ⟨hno, rfl, rfl⟩), by rw [← ht] at hP; exact hP⟩, hS.F ht⟩) hS.2.2 dX4_remove_16
    · refine lv_iload_n hx hb dX4_remove_9 rfl (lv_at hl 2 rfl) ?_
      refine lv_bipush (v := 8) hx hb dX4_remove_10 (by decide) ?_
      refine lv_icmp_le (tgt := 17) hx hb dX4_remove_12 (by decide) (fun c_6 => ?_) (fun c_6 => ?_)
      · exact absurd ⟨Int32.not_lt.mp c_5, c_6⟩ hno
      · refine lv_iconst (v := 0) hx hb dX4_remove_15 (by decide) ?_
        exact W.zret (v := 0) hx hb hr rfl (fun t ht hW => ⟨⟨_, ([(mo, .inr (4, [.int 0, .ref mc, .ref mw, .ref mz, .ref mv, .ref mp, .ref mh])), (mc, .inl (gI G, 4, .inl (kz_z cs))), (mw, .inl (gJ G, 480, .inr (.inl mW))), (mz, .inl (gI G, 480, .inl (kz_z mZ))), (mv, .inl (gI G, 480, .inl mV)), (mp, .inl (gZ G, 3, .inl (kz_bo po))), (mh, .inl (gI G, 3, .inl (kz_pw pw)))] : va_W), rfl, (Or.inl ⟨hno, rfl, rfl⟩), by rw [← ht] at hP; exact hP⟩, hS.F ht⟩) hS.2.2 dX4_remove_16
