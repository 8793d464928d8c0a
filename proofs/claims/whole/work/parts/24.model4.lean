/-- (w's k bytes) is a fork, as the model has it -/
def kf_dp (mW : Nat → Int64) (mZ : Nat → Nat) (w : Int64) (nn : Nat) : Nat → Bool := fun k => decide (0 < kf_br mW mZ (kf_cut w k) k nn)
def kf_sum (f : Nat → Nat) : Nat → Nat
  | 0 => 0
  | n + 1 => kf_sum f n + f n
/-- ForkStoreModel.forks: the branches counted at the k-th key's first n bytes -/
def kf_fb (mW : Nat → Int64) (mZ : Nat → Nat) (nn k n : Nat) : Nat := if k = 0 ∨ ¬ kf_bg (mW (k - 1)) (mZ (k - 1)) (kf_cut (mW k) n) n then kf_br mW mZ (kf_cut (mW k) n) n nn else 0
def kf_ft (mW : Nat → Int64) (mZ : Nat → Nat) (nn sq k : Nat) : Nat → Bool := fun n => decide (0 < kf_fb mW mZ nn k n ∧ kf_sz (kf_fb mW mZ nn k n) = sq)
def kf_fF (mW : Nat → Int64) (mZ : Nat → Nat) (nn sq : Nat) : Nat → Nat := fun k => kf_cnt (kf_ft mW mZ nn sq k) (mZ k + 1)

set_option maxHeartbeats 4000000 in
set_option maxRecDepth 100000 in
theorem c_X4_depth (l : Launch) (G : kz_G) (mo mc mw mz mv mp mh : Nat) (tv : Int32) (cs : Nat → Nat) (mW : Nat → Int64) (mZ : Nat → Nat) (mV : Nat → Int32) (po : Nat → Bool) (pw : Nat → Nat) (ww : Int64) (nv : Int32) (sz : Nat) (hcs : ∀ j, cs j ≤ 120) (hmz : ∀ j, mZ j ≤ 8) : Met l yX4_depth wsX4_depth { frames := 3, cells := 0, slots := 0, locals := 76 } (kz_Pm G [.ref mo, .long ww, .int nv] [(mo, .inr (4, [.int tv, .ref mc, .ref mw, .ref mz, .ref mv, .ref mp, .ref mh])), (mc, .inl (gI G, 4, .inl (kz_z cs))), (mw, .inl (gJ G, 480, .inr (.inl mW))), (mz, .inl (gI G, 480, .inl (kz_z mZ))), (mv, .inl (gI G, 480, .inl mV)), (mp, .inl (gZ G, 3, .inl (kz_bo po))), (mh, .inl (gI G, 3, .inl (kz_pw pw)))] sz) (kz_Qi G (fun r w => (¬ (0 ≤ nv ∧ nv ≤ 8) ∧ r = -1 ∧ w = [(mo, .inr (4, [.int 0, .ref mc, .ref mw, .ref mz, .ref mv, .ref mp, .ref mh])), (mc, .inl (gI G, 4, .inl (kz_z cs))), (mw, .inl (gJ G, 480, .inr (.inl mW))), (mz, .inl (gI G, 480, .inl (kz_z mZ))), (mv, .inl (gI G, 480, .inl mV)), (mp, .inl (gZ G, 3, .inl (kz_bo po))), (mh, .inl (gI G, 3, .inl (kz_pw pw)))]) ∨ (∃ zz : Nat, zz ≤ 8 ∧ nv = nI zz ∧ r = nI (kf_cnt (kf_dp mW mZ ww (cs 0)) (zz + 1)) ∧ w = [(mo, .inr (4, [.int 0, .ref mc, .ref mw, .ref mz, .ref mv, .ref mp, .ref mh])), (mc, .inl (gI G, 4, .inl (kz_z cs))), (mw, .inl (gJ G, 480, .inr (.inl mW))), (mz, .inl (gI G, 480, .inl (kz_z mZ))), (mv, .inl (gI G, 480, .inl mV)), (mp, .inl (gZ G, 3, .inl (kz_bo po))), (mh, .inl (gI G, 3, .inl (kz_pw pw)))])) (va_A [(mo, .inr (4, [.int tv, .ref mc, .ref mw, .ref mz, .ref mv, .ref mp, .ref mh])), (mc, .inl (gI G, 4, .inl (kz_z cs))), (mw, .inl (gJ G, 480, .inr (.inl mW))), (mz, .inl (gI G, 480, .inl (kz_z mZ))), (mv, .inl (gI G, 480, .inl mV)), (mp, .inl (gZ G, 3, .inl (kz_bo po))), (mh, .inl (gI G, 3, .inl (kz_pw pw)))] sz)) 0 0 (va_A [(mo, .inr (4, [.int tv, .ref mc, .ref mw, .ref mz, .ref mv, .ref mp, .ref mh])), (mc, .inl (gI G, 4, .inl (kz_z cs))), (mw, .inl (gJ G, 480, .inr (.inl mW))), (mz, .inl (gI G, 480, .inl (kz_z mZ))), (mv, .inl (gI G, 480, .inl mV)), (mp, .inl (gZ G, 3, .inl (kz_bo po))), (mh, .inl (gI G, 3, .inl (kz_pw pw)))] sz) := by
  refine Met.ofW (cc := cX4_depth) (maxL := 6) (ret := (some .int)) (by decide) rfl ?_
  intro p e s m args below meth c s₁ B hml hv
  obtain ⟨rfl, hsz, hP, hK, hD0⟩ := hv
  have hx := B.exec
  have hb := B.bytes
  have hr := B.returns
  have hts := atoms_spec (ws := wsX4_depth) B.pre
  have hown : s.vm.findClass RX4 = some m.cls := findClass_of_methodNamed B.named
  have hlocks := B.notSynchronized
  have hinX4 : ∀ w ∈ wsX40, w ∈ wsX4_depth := by decide +kernel
  subst hsz
  have hD := hD0.self (sz := s.heap.size)
  generalize hAe : va_A [(mo, .inr (4, [.int tv, .ref mc, .ref mw, .ref mz, .ref mv, .ref mp, .ref mh])), (mc, .inl (gI G, 4, .inl (kz_z cs))), (mw, .inl (gJ G, 480, .inr (.inl mW))), (mz, .inl (gI G, 480, .inl (kz_z mZ))), (mv, .inl (gI G, 480, .inl mV)), (mp, .inl (gZ G, 3, .inl (kz_bo po))), (mh, .inl (gI G, 3, .inl (kz_pw pw)))] s.heap.size = A at hD ⊢
  have hA : ∀ q : Nat, s.heap.size ≤ q → A q := fun q h => by rw [← hAe]; exact Or.inr h
  have hS : va_S A s.heap s.heap [] := va_S.rf
  have hP : va_P G.1 vwCl [(mo, .inr (4, [.int tv, .ref mc, .ref mw, .ref mz, .ref mv, .ref mp, .ref mh])), (mc, .inl (gI G, 4, .inl (kz_z cs))), (mw, .inl (gJ G, 480, .inr (.inl mW))), (mz, .inl (gI G, 480, .inl (kz_z mZ))), (mv, .inl (gI G, 480, .inl mV)), (mp, .inl (gZ G, 3, .inl (kz_bo po))), (mh, .inl (gI G, 3, .inl (kz_pw pw)))] s.heap := hP
  have hl := lv_entry ([.ref mo, .long ww, .int nv]) (n := 6) (Nat.le_of_ble_eq_true rfl)
  rw [lg_entry_eq]
  generalize (lg_sl ([.ref mo, .long ww, .int nv]) ++ List.replicate (6 - (lg_sl ([.ref mo, .long ww, .int nv])).length) Slot.unset).toArray = ls at hl ⊢
  have hl : lv_has ls 6 [(0, .ref mo), (1, .long ww), (3, .int nv)] := hl
  have hc0 := hcs 0
  rcases kf_okc nv with ⟨zz, hzz, rfl⟩ | hno
  · have hl : lv_has ls 6 [(0, .ref mo), (1, .long ww), (3, .int (nI zz))] := hl
    refine lv_aload_n hx hb dX4_depth_0 rfl (lv_at hl 0 rfl) ?_
    refine lv_iconst (v := 0) hx hb dX4_depth_1 (by decide) ?_
    refine va_put (D := G.1) (ci := 4) (v := .int 0) (ty := .int) (C := RX4) (T := TX4) (N := 7) hx hb hts hinX4 tyX4 tyX4_ok nmX4 hown hK.1 hP hD hS 0 rfl rfl 0 (by decide) (hts (.fieldLink RX4 30 "ForkStoreModel" "thrown" "I") (by decide +kernel)) (fun _ h9 => h9) rfl (by decide +kernel) rfl rfl (Nat.le_of_ble_eq_true rfl) dX4_depth_2 (fun H locs hP hD hS => ?_)
    have hP : va_P G.1 vwCl [(mo, .inr (4, [.int 0, .ref mc, .ref mw, .ref mz, .ref mv, .ref mp, .ref mh])), (mc, .inl (gI G, 4, .inl (kz_z cs))), (mw, .inl (gJ G, 480, .inr (.inl mW))), (mz, .inl (gI G, 480, .inl (kz_z mZ))), (mv, .inl (gI G, 480, .inl mV)), (mp, .inl (gZ G, 3, .inl (kz_bo po))), (mh, .inl (gI G, 3, .inl (kz_pw pw)))] H := hP
    have hD : va_D A [(mo, .inr (4, [.int 0, .ref mc, .ref mw, .ref mz, .ref mv, .ref mp, .ref mh])), (mc, .inl (gI G, 4, .inl (kz_z cs))), (mw, .inl (gJ G, 480, .inr (.inl mW))), (mz, .inl (gI G, 480, .inl (kz_z mZ))), (mv, .inl (gI G, 480, .inl mV)), (mp, .inl (gZ G, 3, .inl (kz_bo po))), (mh, .inl (gI G, 3, .inl (kz_pw pw)))] := hD
    refine lv_iload_n hx hb dX4_depth_5 rfl (lv_at hl 2 rfl) ?_
    refine lv_if_lt (tgt := 15) hx hb dX4_depth_6 (by decide) (fun c_1 => ?_) (fun c_1 => ?_)
    · exact absurd c_1 (nI_pos (by omega))
    · refine lv_iload_n hx hb dX4_depth_9 rfl (lv_at hl 2 rfl) ?_
      refine lv_bipush (v := 8) hx hb dX4_depth_10 (by decide) ?_
      refine lv_icmp_le (tgt := 17) hx hb dX4_depth_12 (by decide) (fun c_2 => ?_) (fun c_2 => ?_)
      · refine lv_iconst (v := 0) hx hb dX4_depth_17 (by decide) ?_
        refine lv_istore (lv' := [(4, .int 0), (0, .ref mo), (1, .long ww), (3, .int (nI zz))]) hx hb dX4_depth_18 hl (by decide) rfl (fun ls hl => ?_)
        refine lv_iconst (v := 0) hx hb dX4_depth_20 (by decide) ?_
        refine lv_istore (lv' := [(5, .int 0), (4, .int 0), (0, .ref mo), (1, .long ww), (3, .int (nI zz))]) hx hb dX4_depth_21 hl (by decide) rfl (fun ls hl => ?_)
        refine kz_loop (nL := 6) (hd := 23) (e9 := zz + 1) (i0 := 0) (LV := fun ii => [(4, .int (nI (kf_cnt (kf_dp mW mZ ww (cs 0)) ii))), (5, .int (nI ii)), (0, .ref mo), (1, .long ww), (3, .int (nI zz))]) (fun ii ls hii hl ih => ?_) (Nat.zero_le _) (lv_sub hl [1, 0, 2, 3, 4] rfl)
        have hl : lv_has ls 6 [(4, .int (nI (kf_cnt (kf_dp mW mZ ww (cs 0)) ii))), (5, .int (nI ii)), (0, .ref mo), (1, .long ww), (3, .int (nI zz))] := hl
        refine lv_iload hx hb dX4_depth_23 (lv_at hl 1 rfl) ?_
        refine lv_iload_n hx hb dX4_depth_25 rfl (lv_at hl 4 rfl) ?_
        refine lv_icmp_gt (tgt := 61) hx hb dX4_depth_26 (by decide) (fun c_3 => ?_) (fun c_3 => ?_)
        · have kc_3 : zz < ii := (nI_ltI (by omega) (by omega)).mp c_3
          refine lv_iload hx hb dX4_depth_61 (lv_at hl 0 rfl) ?_
          exact W.iret (v := nI (kf_cnt (kf_dp mW mZ ww (cs 0)) ii)) hx hb hr (fun t ht hW => ⟨⟨_, ([(mo, .inr (4, [.int 0, .ref mc, .ref mw, .ref mz, .ref mv, .ref mp, .ref mh])), (mc, .inl (gI G, 4, .inl (kz_z cs))), (mw, .inl (gJ G, 480, .inr (.inl mW))), (mz, .inl (gI G, 480, .inl (kz_z mZ))), (mv, .inl (gI G, 480, .inl mV)), (mp, .inl (gZ G, 3, .inl (kz_bo po))), (mh, .inl (gI G, 3, .inl (kz_pw pw)))] : va_W), rfl, (Or.inr ⟨zz, hzz, rfl, by rw [show ii = zz + 1 from by omega], rfl⟩), by rw [← ht] at hP; exact hP⟩, hS.F ht⟩) hS.2.2 dX4_depth_63
        · have kc_3 : ii ≤ zz := Nat.le_of_not_lt (fun h => c_3 (nI_lt h (by omega)))
          refine lv_aload_n hx hb dX4_depth_29 rfl (lv_at hl 2 rfl) ?_
          refine lv_lload_n hx hb dX4_depth_30 rfl (lv_at hl 3 rfl) ?_
          refine lv_iload hx hb dX4_depth_31 (lv_at hl 1 rfl) ?_
          refine kz_cl (v := kf_cut ww ii) (va_runS (As := [.long ww, .int (nI ii)]) (rest := [.ref mo]) ⟨hx, hb, hml, hown, hts⟩ (c_X4_cut l ww ii (by omega)) (va_cwS 2 hts gX4_depth_X4_cut rfl rfl rfl (by decide +kernel) ⟨Nat.le_of_ble_eq_true rfl, Nat.le_of_ble_eq_true rfl⟩) kz_ps0 rfl rfl hl.1 rfl (lv_room (Nat.le_of_ble_eq_true rfl)) dX4_depth_33 ⟨Nat.zero_le _, Nat.zero_le _⟩).run ?_
          refine lv_iload hx hb dX4_depth_36 (lv_at hl 1 rfl) ?_
          have hPc := hP.sub (ws' := [(mo, .inr (4, [.int 0, .ref mc, .ref mw, .ref mz, .ref mv, .ref mp, .ref mh])), (mc, .inl (gI G, 4, .inl (kz_z cs))), (mw, .inl (gJ G, 480, .inr (.inl mW))), (mz, .inl (gI G, 480, .inl (kz_z mZ))), (mv, .inl (gI G, 480, .inl mV)), (mp, .inl (gZ G, 3, .inl (kz_bo po))), (mh, .inl (gI G, 3, .inl (kz_pw pw)))]) [0, 1, 2, 3, 4, 5, 6] rfl
          refine kz_ci (v := nI (kf_br mW mZ (kf_cut ww ii) ii (cs 0))) (va_runV (As := [.long (kf_cut ww ii), .int (nI ii)]) (rest := []) ⟨hx, hb, hml, hown, hts⟩ (c_X4_branches l G mo mc mw mz mv mp mh 0 cs mW mZ mV po pw (kf_cut ww ii) ii hcs hmz (by omega)) (cwV 2 hts gX4_depth_X4_branches rfl rfl rfl (by decide +kernel) ⟨Nat.le_of_ble_eq_true rfl, Nat.le_of_ble_eq_true rfl⟩) (kz_pv hK hPc (va_recv hK.1 hPc (ci := 4) (q0 := 0) rfl rfl)) rfl rfl hl.1 rfl (lv_room (Nat.le_of_ble_eq_true rfl)) dX4_depth_38 ⟨Nat.zero_le _, Nat.zero_le _⟩).run ?_
          have hbl := kf_br_le mW mZ (kf_cut ww ii) ii (cs 0)
          refine lv_if_le (tgt := 51) hx hb dX4_depth_41 (by decide) (fun c_4 => ?_) (fun c_4 => ?_)
          · have hnb : ¬ kf_dp mW mZ ww (cs 0) ii = true := fun h => by
              have h8 := of_decide_eq_true h
              have h7 := (nI_leI (b := 0) (by omega) (by decide)).mp c_4
              omega
            refine lv_iload hx hb dX4_depth_51 (lv_at hl 0 rfl) ?_
            refine kz_asi (y := nI (kf_cnt (kf_dp mW mZ ww (cs 0)) (ii + 1))) (by rw [kf_cnt_n hnb]) ?_
            refine lv_istore (lv' := [(4, .int (nI (kf_cnt (kf_dp mW mZ ww (cs 0)) (ii + 1)))), (5, .int (nI ii)), (0, .ref mo), (1, .long ww), (3, .int (nI zz))]) hx hb dX4_depth_53 hl (by decide) rfl (fun ls hl => ?_)
            refine lv_iinc (v := nI (ii + 1)) (lv' := [(5, .int (nI (ii + 1))), (4, .int (nI (kf_cnt (kf_dp mW mZ ww (cs 0)) (ii + 1)))), (0, .ref mo), (1, .long ww), (3, .int (nI zz))]) hx hb dX4_depth_55 hl (k := 1) rfl (nI_1 ii) (by decide) rfl (fun ls hl => ?_)
            refine lv_goto (tgt := 23) hx hb dX4_depth_58 (by decide) ?_
            exact ih ls (by omega) (lv_sub hl [1, 0, 2, 3, 4] rfl)
          · have hyes : kf_dp mW mZ ww (cs 0) ii = true := decide_eq_true ((nI_ltI (a := 0) (by decide) (by omega)).mp (Int32.not_le.mp c_4))
            refine lv_iload hx hb dX4_depth_44 (lv_at hl 0 rfl) ?_
            refine lv_iconst (v := 1) hx hb dX4_depth_46 (by decide) ?_
            refine lv_iadd hx hb dX4_depth_47 ?_
            refine lv_goto (tgt := 53) hx hb dX4_depth_48 (by decide) ?_
            refine kz_asi (y := nI (kf_cnt (kf_dp mW mZ ww (cs 0)) (ii + 1))) (by rw [kf_cnt_y hyes]; exact nI_1 _) ?_
            refine lv_istore (lv' := [(4, .int (nI (kf_cnt (kf_dp mW mZ ww (cs 0)) (ii + 1)))), (5, .int (nI ii)), (0, .ref mo), (1, .long ww), (3, .int (nI zz))]) hx hb dX4_depth_53 hl (by decide) rfl (fun ls hl => ?_)
            refine lv_iinc (v := nI (ii + 1)) (lv' := [(5, .int (nI (ii + 1))), (4, .int (nI (kf_cnt (kf_dp mW mZ ww (cs 0)) (ii + 1)))), (0, .ref mo), (1, .long ww), (3, .int (nI zz))]) hx hb dX4_depth_55 hl (k := 1) rfl (nI_1 ii) (by decide) rfl (fun ls hl => ?_)
            refine lv_goto (tgt := 23) hx hb dX4_depth_58 (by decide) ?_
            exact ih ls (by omega) (lv_sub hl [1, 0, 2, 3, 4] rfl)
      · exact absurd (nI_le (b := 8) hzz (by decide)) c_2
  · have hno := hno
    refine lv_aload_n hx hb dX4_depth_0 rfl (lv_at hl 0 rfl) ?_
    refine lv_iconst (v := 0) hx hb dX4_depth_1 (by decide) ?_
    refine va_put (D := G.1) (ci := 4) (v := .int 0) (ty := .int) (C := RX4) (T := TX4) (N := 7) hx hb hts hinX4 tyX4 tyX4_ok nmX4 hown hK.1 hP hD hS 0 rfl rfl 0 (by decide) (hts (.fieldLink RX4 30 "ForkStoreModel" "thrown" "I") (by decide +kernel)) (fun _ h9 => h9) rfl (by decide +kernel) rfl rfl (Nat.le_of_ble_eq_true rfl) dX4_depth_2 (fun H locs hP hD hS => ?_)
    have hP : va_P G.1 vwCl [(mo, .inr (4, [.int 0, .ref mc, .ref mw, .ref mz, .ref mv, .ref mp, .ref mh])), (mc, .inl (gI G, 4, .inl (kz_z cs))), (mw, .inl (gJ G, 480, .inr (.inl mW))), (mz, .inl (gI G, 480, .inl (kz_z mZ))), (mv, .inl (gI G, 480, .inl mV)), (mp, .inl (gZ G, 3, .inl (kz_bo po))), (mh, .inl (gI G, 3, .inl (kz_pw pw)))] H := hP
    have hD : va_D A [(mo, .inr (4, [.int 0, .ref mc, .ref mw, .ref mz, .ref mv, .ref mp, .ref mh])), (mc, .inl (gI G, 4, .inl (kz_z cs))), (mw, .inl (gJ G, 480, .inr (.inl mW))), (mz, .inl (gI G, 480, .inl (kz_z mZ))), (mv, .inl (gI G, 480, .inl mV)), (mp, .inl (gZ G, 3, .inl (kz_bo po))), (mh, .inl (gI G, 3, .inl (kz_pw pw)))] := hD
    refine lv_iload_n hx hb dX4_depth_5 rfl (lv_at hl 2 rfl) ?_
    refine lv_if_lt (tgt := 15) hx hb dX4_depth_6 (by decide) (fun c_5 => ?_) (fun c_5 => ?_)
    · refine lv_iconst (v := (-1)) hx hb dX4_depth_15 (by decide) ?_
      exact W.iret (v := (-1)) hx hb hr (fun t ht hW => ⟨⟨_, ([(mo, .inr (4, [.int 0, .ref mc, .ref mw, .ref mz, .ref mv, .ref mp, .ref mh])), (mc, .inl (gI G, 4, .inl (kz_z cs))), (mw, .inl (gJ G, 480, .inr (.inl mW))), (mz, .inl (gI G, 480, .inl (kz_z mZ))), (mv, .inl (gI G, 480, .inl mV)), (mp, .inl (gZ G, 3, .inl (kz_bo po))), (mh, .inl (gI G, 3, .inl (kz_pw pw)))] : va_W), rfl, (Or.inl ⟨hno, rfl, rfl⟩), by rw [← ht] at hP; exact hP⟩, hS.F ht⟩) hS.2.2 dX4_depth_16
    · refine lv_iload_n hx hb dX4_depth_9 rfl (lv_at hl 2 rfl) ?_
      refine lv_bipush (v := 8) hx hb dX4_depth_10 (by decide) ?_
      refine lv_icmp_le (tgt := 17) hx hb dX4_depth_12 (by decide) (fun c_6 => ?_) (fun c_6 => ?_)
      · exact absurd ⟨Int32.not_lt.mp c_5, c_6⟩ hno
      · refine lv_iconst (v := (-1)) hx hb dX4_depth_15 (by decide) ?_
        exact W.iret (v := (-1)) hx hb hr (fun t ht hW => ⟨⟨_, ([(mo, .inr (4, [.int 0, .ref mc, .ref mw, .ref mz, .ref mv, .ref mp, .ref mh])), (mc, .inl (gI G, 4, .inl (kz_z cs))), (mw, .inl (gJ G, 480, .inr (.inl mW))), (mz, .inl (gI G, 480, .inl (kz_z mZ))), (mv, .inl (gI G, 480, .inl mV)), (mp, .inl (gZ G, 3, .inl (kz_bo po))), (mh, .inl (gI G, 3, .inl (kz_pw pw)))] : va_W), rfl, (Or.inl ⟨hno, rfl, rfl⟩), by rw [← ht] at hP; exact hP⟩, hS.F ht⟩) hS.2.2 dX4_depth_16

set_option maxHeartbeats 4000000 in
set_option maxRecDepth 100000 in
theorem c_X4_forks (l : Launch) (G : kz_G) (mo mc mw mz mv mp mh : Nat) (tv : Int32) (cs : Nat → Nat) (mW : Nat → Int64) (mZ : Nat → Nat) (mV : Nat → Int32) (po : Nat → Bool) (pw : Nat → Nat) (sv : Int32) (sz : Nat) (hcs : ∀ j, cs j ≤ 120) (hmz : ∀ j, mZ j ≤ 8) : Met l yX4_forks wsX4_forks { frames := 3, cells := 0, slots := 0, locals := 76 } (kz_Pm G [.ref mo, .int sv] [(mo, .inr (4, [.int tv, .ref mc, .ref mw, .ref mz, .ref mv, .ref mp, .ref mh])), (mc, .inl (gI G, 4, .inl (kz_z cs))), (mw, .inl (gJ G, 480, .inr (.inl mW))), (mz, .inl (gI G, 480, .inl (kz_z mZ))), (mv, .inl (gI G, 480, .inl mV)), (mp, .inl (gZ G, 3, .inl (kz_bo po))), (mh, .inl (gI G, 3, .inl (kz_pw pw)))] sz) (kz_Qi G (fun r w => r = (if 0 ≤ sv ∧ sv ≤ 3 then nI (kf_sum (kf_fF mW mZ (cs 0) (kf_zn sv)) (cs 0)) else -1) ∧ w = [(mo, .inr (4, [.int 0, .ref mc, .ref mw, .ref mz, .ref mv, .ref mp, .ref mh])), (mc, .inl (gI G, 4, .inl (kz_z cs))), (mw, .inl (gJ G, 480, .inr (.inl mW))), (mz, .inl (gI G, 480, .inl (kz_z mZ))), (mv, .inl (gI G, 480, .inl mV)), (mp, .inl (gZ G, 3, .inl (kz_bo po))), (mh, .inl (gI G, 3, .inl (kz_pw pw)))]) (va_A [(mo, .inr (4, [.int tv, .ref mc, .ref mw, .ref mz, .ref mv, .ref mp, .ref mh])), (mc, .inl (gI G, 4, .inl (kz_z cs))), (mw, .inl (gJ G, 480, .inr (.inl mW))), (mz, .inl (gI G, 480, .inl (kz_z mZ))), (mv, .inl (gI G, 480, .inl mV)), (mp, .inl (gZ G, 3, .inl (kz_bo po))), (mh, .inl (gI G, 3, .inl (kz_pw pw)))] sz)) 0 0 (va_A [(mo, .inr (4, [.int tv, .ref mc, .ref mw, .ref mz, .ref mv, .ref mp, .ref mh])), (mc, .inl (gI G, 4, .inl (kz_z cs))), (mw, .inl (gJ G, 480, .inr (.inl mW))), (mz, .inl (gI G, 480, .inl (kz_z mZ))), (mv, .inl (gI G, 480, .inl mV)), (mp, .inl (gZ G, 3, .inl (kz_bo po))), (mh, .inl (gI G, 3, .inl (kz_pw pw)))] sz) := by
  refine Met.ofW (cc := cX4_forks) (maxL := 9) (ret := (some .int)) (by decide) rfl ?_
  intro p e s m args below meth c s₁ B hml hv
  obtain ⟨rfl, hsz, hP, hK, hD0⟩ := hv
  have hx := B.exec
  have hb := B.bytes
  have hr := B.returns
  have hts := atoms_spec (ws := wsX4_forks) B.pre
  have hown : s.vm.findClass RX4 = some m.cls := findClass_of_methodNamed B.named
  have hlocks := B.notSynchronized
  have hinX4 : ∀ w ∈ wsX40, w ∈ wsX4_forks := by decide +kernel
  subst hsz
  have hD := hD0.self (sz := s.heap.size)
  generalize hAe : va_A [(mo, .inr (4, [.int tv, .ref mc, .ref mw, .ref mz, .ref mv, .ref mp, .ref mh])), (mc, .inl (gI G, 4, .inl (kz_z cs))), (mw, .inl (gJ G, 480, .inr (.inl mW))), (mz, .inl (gI G, 480, .inl (kz_z mZ))), (mv, .inl (gI G, 480, .inl mV)), (mp, .inl (gZ G, 3, .inl (kz_bo po))), (mh, .inl (gI G, 3, .inl (kz_pw pw)))] s.heap.size = A at hD ⊢
  have hA : ∀ q : Nat, s.heap.size ≤ q → A q := fun q h => by rw [← hAe]; exact Or.inr h
  have hS : va_S A s.heap s.heap [] := va_S.rf
  have hP : va_P G.1 vwCl [(mo, .inr (4, [.int tv, .ref mc, .ref mw, .ref mz, .ref mv, .ref mp, .ref mh])), (mc, .inl (gI G, 4, .inl (kz_z cs))), (mw, .inl (gJ G, 480, .inr (.inl mW))), (mz, .inl (gI G, 480, .inl (kz_z mZ))), (mv, .inl (gI G, 480, .inl mV)), (mp, .inl (gZ G, 3, .inl (kz_bo po))), (mh, .inl (gI G, 3, .inl (kz_pw pw)))] s.heap := hP
  have hl := lv_entry ([.ref mo, .int sv]) (n := 9) (Nat.le_of_ble_eq_true rfl)
  rw [lg_entry_eq]
  generalize (lg_sl ([.ref mo, .int sv]) ++ List.replicate (9 - (lg_sl ([.ref mo, .int sv])).length) Slot.unset).toArray = ls at hl ⊢
  have hl : lv_has ls 9 [(0, .ref mo), (1, .int sv)] := hl
  have hc0 := hcs 0
  refine lv_aload_n hx hb dX4_forks_0 rfl (lv_at hl 0 rfl) ?_
  refine lv_iconst (v := 0) hx hb dX4_forks_1 (by decide) ?_
  refine va_put (D := G.1) (ci := 4) (v := .int 0) (ty := .int) (C := RX4) (T := TX4) (N := 7) hx hb hts hinX4 tyX4 tyX4_ok nmX4 hown hK.1 hP hD hS 0 rfl rfl 0 (by decide) (hts (.fieldLink RX4 30 "ForkStoreModel" "thrown" "I") (by decide +kernel)) (fun _ h9 => h9) rfl (by decide +kernel) rfl rfl (Nat.le_of_ble_eq_true rfl) dX4_forks_2 (fun H locs hP hD hS => ?_)
  have hP : va_P G.1 vwCl [(mo, .inr (4, [.int 0, .ref mc, .ref mw, .ref mz, .ref mv, .ref mp, .ref mh])), (mc, .inl (gI G, 4, .inl (kz_z cs))), (mw, .inl (gJ G, 480, .inr (.inl mW))), (mz, .inl (gI G, 480, .inl (kz_z mZ))), (mv, .inl (gI G, 480, .inl mV)), (mp, .inl (gZ G, 3, .inl (kz_bo po))), (mh, .inl (gI G, 3, .inl (kz_pw pw)))] H := hP
  have hD : va_D A [(mo, .inr (4, [.int 0, .ref mc, .ref mw, .ref mz, .ref mv, .ref mp, .ref mh])), (mc, .inl (gI G, 4, .inl (kz_z cs))), (mw, .inl (gJ G, 480, .inr (.inl mW))), (mz, .inl (gI G, 480, .inl (kz_z mZ))), (mv, .inl (gI G, 480, .inl mV)), (mp, .inl (gZ G, 3, .inl (kz_bo po))), (mh, .inl (gI G, 3, .inl (kz_pw pw)))] := hD
  refine lv_iload_n hx hb dX4_forks_5 rfl (lv_at hl 1 rfl) ?_
  refine lv_if_lt (tgt := 14) hx hb dX4_forks_6 (by decide) (fun c_1 => ?_) (fun c_1 => ?_)
  · refine lv_iconst (v := (-1)) hx hb dX4_forks_14 (by decide) ?_
    exact W.iret (v := (-1)) hx hb hr (fun t ht hW => ⟨⟨_, ([(mo, .inr (4, [.int 0, .ref mc, .ref mw, .ref mz, .ref mv, .ref mp, .ref mh])), (mc, .inl (gI G, 4, .inl (kz_z cs))), (mw, .inl (gJ G, 480, .inr (.inl mW))), (mz, .inl (gI G, 480, .inl (kz_z mZ))), (mv, .inl (gI G, 480, .inl mV)), (mp, .inl (gZ G, 3, .inl (kz_bo po))), (mh, .inl (gI G, 3, .inl (kz_pw pw)))] : va_W), rfl, ⟨(if_neg (fun h => absurd c_1 (Int32.not_lt.mpr h.1))).symm, rfl⟩, by rw [← ht] at hP; exact hP⟩, hS.F ht⟩) hS.2.2 dX4_forks_15
  · refine lv_iload_n hx hb dX4_forks_9 rfl (lv_at hl 1 rfl) ?_
    refine lv_iconst (v := 3) hx hb dX4_forks_10 (by decide) ?_
    refine lv_icmp_le (tgt := 16) hx hb dX4_forks_11 (by decide) (fun c_2 => ?_) (fun c_2 => ?_)
    · obtain ⟨sq, hsq, rfl⟩ := nI_of2 (x := sv) (M := 3) (n := 3) rfl c_1 c_2
      refine lv_iconst (v := 0) hx hb dX4_forks_16 (by decide) ?_
      refine lv_istore_n (lv' := [(2, .int 0), (0, .ref mo), (1, .int (nI sq))]) hx hb dX4_forks_17 rfl hl (by decide) rfl (fun ls hl => ?_)
      refine lv_iconst (v := 0) hx hb dX4_forks_18 (by decide) ?_
      refine lv_istore_n (lv' := [(3, .int 0), (2, .int 0), (0, .ref mo), (1, .int (nI sq))]) hx hb dX4_forks_19 rfl hl (by decide) rfl (fun ls hl => ?_)
      refine kz_loop (nL := 9) (hd := 20) (e9 := cs 0) (i0 := 0) (LV := fun ii => [(2, .int (nI (kf_sum (kf_fF mW mZ (cs 0) sq) ii))), (3, .int (nI ii)), (0, .ref mo), (1, .int (nI sq))]) (fun ii ls hii hl ih => ?_) (Nat.zero_le _) (lv_sub hl [1, 0, 2, 3] rfl)
      have hl : lv_has ls 9 [(2, .int (nI (kf_sum (kf_fF mW mZ (cs 0) sq) ii))), (3, .int (nI ii)), (0, .ref mo), (1, .int (nI sq))] := hl
      refine lv_iload_n hx hb dX4_forks_20 rfl (lv_at hl 1 rfl) ?_
      refine lv_aload_n hx hb dX4_forks_21 rfl (lv_at hl 2 rfl) ?_
      refine va_get (D := G.1) (ci := 4) (v := .ref mc) (C := RX4) (T := TX4) (N := 7) hx hb hts hinX4 hown hK.1 hP 0 rfl rfl 1 (by decide) (hts (.fieldLink RX4 7 "ForkStoreModel" "counts" "[I") (by decide +kernel)) (fun _ h9 => h9) rfl dX4_forks_22 ?_
      refine lv_iconst (v := 0) hx hb dX4_forks_25 (by decide) ?_
      refine kz_iald hx hb hK.1 hP 1 0 rfl rfl (k := 0) (by decide) (by decide) dX4_forks_26 ?_
      refine kz_asi (y := nI (cs 0)) rfl ?_
      refine lv_icmp_ge (tgt := 135) hx hb dX4_forks_27 (by decide) (fun c_3 => ?_) (fun c_3 => ?_)
      · have kc_3 : cs 0 ≤ ii := (nI_leI (by omega) (by omega)).mp c_3
        refine lv_iload_n hx hb dX4_forks_135 rfl (lv_at hl 0 rfl) ?_
        exact W.iret (v := nI (kf_sum (kf_fF mW mZ (cs 0) sq) ii)) hx hb hr (fun t ht hW => ⟨⟨_, ([(mo, .inr (4, [.int 0, .ref mc, .ref mw, .ref mz, .ref mv, .ref mp, .ref mh])), (mc, .inl (gI G, 4, .inl (kz_z cs))), (mw, .inl (gJ G, 480, .inr (.inl mW))), (mz, .inl (gI G, 480, .inl (kz_z mZ))), (mv, .inl (gI G, 480, .inl mV)), (mp, .inl (gZ G, 3, .inl (kz_bo po))), (mh, .inl (gI G, 3, .inl (kz_pw pw)))] : va_W), rfl, ⟨by rw [if_pos ⟨Int32.not_lt.mp c_1, c_2⟩, kf_zn, nI_clamp (by omega), show ii = cs 0 from by omega], rfl⟩, by rw [← ht] at hP; exact hP⟩, hS.F ht⟩) hS.2.2 dX4_forks_136
      · have kc_3 : ii < cs 0 := Nat.lt_of_not_le (fun h => c_3 (nI_le h (by omega)))
        have hz9 := hmz ii
        refine lv_iconst (v := 0) hx hb dX4_forks_30 (by decide) ?_
        refine lv_istore (lv' := [(4, .int 0), (2, .int (nI (kf_sum (kf_fF mW mZ (cs 0) sq) ii))), (3, .int (nI ii)), (0, .ref mo), (1, .int (nI sq))]) hx hb dX4_forks_31 hl (by decide) rfl (fun ls hl => ?_)
        refine kz_loop (nL := 9) (hd := 33) (e9 := mZ ii + 1) (i0 := 0) (LV := fun jj => [(4, .int (nI jj)), (2, .int (nI (kf_sum (kf_fF mW mZ (cs 0) sq) ii + kf_cnt (kf_ft mW mZ (cs 0) sq ii) jj))), (3, .int (nI ii)), (0, .ref mo), (1, .int (nI sq))]) (fun jj ls hjj hl ih2 => ?_) (Nat.zero_le _) (lv_sub hl [0, 1, 2, 3, 4] rfl)
        have hl : lv_has ls 9 [(4, .int (nI jj)), (2, .int (nI (kf_sum (kf_fF mW mZ (cs 0) sq) ii + kf_cnt (kf_ft mW mZ (cs 0) sq ii) jj))), (3, .int (nI ii)), (0, .ref mo), (1, .int (nI sq))] := hl
        refine lv_iload hx hb dX4_forks_33 (lv_at hl 0 rfl) ?_
        refine lv_aload_n hx hb dX4_forks_35 rfl (lv_at hl 3 rfl) ?_
        refine va_get (D := G.1) (ci := 4) (v := .ref mz) (C := RX4) (T := TX4) (N := 7) hx hb hts hinX4 hown hK.1 hP 0 rfl rfl 3 (by decide) (hts (.fieldLink RX4 17 "ForkStoreModel" "sizes" "[I") (by decide +kernel)) (fun _ h9 => h9) rfl dX4_forks_36 ?_
        refine lv_iload_n hx hb dX4_forks_39 rfl (lv_at hl 2 rfl) ?_
        refine kz_iald hx hb hK.1 hP 3 0 rfl rfl (k := ii) (by omega) (by decide) dX4_forks_40 ?_
        refine kz_asi (y := nI (mZ ii)) rfl ?_
        refine lv_icmp_gt (tgt := 129) hx hb dX4_forks_41 (by decide) (fun c_4 => ?_) (fun c_4 => ?_)
        · have kc_4 : mZ ii < jj := (nI_ltI (by omega) (by omega)).mp c_4
          refine lv_iinc (v := nI (ii + 1)) (lv' := [(3, .int (nI (ii + 1))), (4, .int (nI jj)), (2, .int (nI (kf_sum (kf_fF mW mZ (cs 0) sq) ii + kf_cnt (kf_ft mW mZ (cs 0) sq ii) jj))), (0, .ref mo), (1, .int (nI sq))]) hx hb dX4_forks_129 hl (k := 2) rfl (nI_1 ii) (by decide) rfl (fun ls hl => ?_)
          refine lv_goto (tgt := 20) hx hb dX4_forks_132 (by decide) ?_
          have e9 : kf_sum (kf_fF mW mZ (cs 0) sq) (ii + 1) = kf_sum (kf_fF mW mZ (cs 0) sq) ii + kf_cnt (kf_ft mW mZ (cs 0) sq ii) jj := by
            rw [show jj = mZ ii + 1 from by omega]
            rfl
          exact ih ls (by omega) (by simp only [e9]; exact lv_sub hl [2, 0, 3, 4] rfl)
        · have kc_4 : jj ≤ mZ ii := Nat.le_of_not_lt (fun h => c_4 (nI_lt h (by omega)))
          refine lv_aload_n hx hb dX4_forks_44 rfl (lv_at hl 3 rfl) ?_
          refine va_get (D := G.1) (ci := 4) (v := .ref mw) (C := RX4) (T := TX4) (N := 7) hx hb hts hinX4 hown hK.1 hP 0 rfl rfl 2 (by decide) (hts (.fieldLink RX4 13 "ForkStoreModel" "words" "[J") (by decide +kernel)) (fun _ h9 => h9) rfl dX4_forks_45 ?_
          refine lv_iload_n hx hb dX4_forks_48 rfl (lv_at hl 2 rfl) ?_
          refine kz_lald hx hb hK.1 hP 2 1 rfl rfl (k := ii) (by omega) (by decide) dX4_forks_49 ?_
          refine lv_iload hx hb dX4_forks_50 (lv_at hl 0 rfl) ?_
          refine kz_cl (v := kf_cut (mW ii) jj) (va_runS (As := [.long (mW ii), .int (nI jj)]) (rest := []) ⟨hx, hb, hml, hown, hts⟩ (c_X4_cut l (mW ii) jj (by omega)) (va_cwS 2 hts gX4_forks_X4_cut rfl rfl rfl (by decide +kernel) ⟨Nat.le_of_ble_eq_true rfl, Nat.le_of_ble_eq_true rfl⟩) kz_ps0 rfl rfl hl.1 rfl (lv_room (Nat.le_of_ble_eq_true rfl)) dX4_forks_52 ⟨Nat.zero_le _, Nat.zero_le _⟩).run ?_
          refine lv_lstore (lv' := [(5, .long (kf_cut (mW ii) jj)), (4, .int (nI jj)), (2, .int (nI (kf_sum (kf_fF mW mZ (cs 0) sq) ii + kf_cnt (kf_ft mW mZ (cs 0) sq ii) jj))), (3, .int (nI ii)), (0, .ref mo), (1, .int (nI sq))]) hx hb dX4_forks_55 hl (by decide) rfl (fun ls hl => ?_)
          refine lv_iload_n hx hb dX4_forks_57 rfl (lv_at hl 3 rfl) ?_
          refine lv_if_eq (tgt := 75) hx hb dX4_forks_58 (by decide) (fun c_5 => ?_) (fun c_5 => ?_)
          · have hi0 : ii = 0 := (nI_eq (b := 0) (by omega) (by decide)).mp c_5
            have hfb : kf_fb mW mZ (cs 0) ii jj = kf_br mW mZ (kf_cut (mW ii) jj) jj (cs 0) := if_pos (Or.inl hi0)
            refine lv_iconst (v := 1) hx hb dX4_forks_75 (by decide) ?_
            refine lv_goto (tgt := 80) hx hb dX4_forks_76 (by decide) ?_
            refine lv_istore (lv' := [(7, .int 1), (5, .long (kf_cut (mW ii) jj)), (4, .int (nI jj)), (2, .int (nI (kf_sum (kf_fF mW mZ (cs 0) sq) ii + kf_cnt (kf_ft mW mZ (cs 0) sq ii) jj))), (3, .int (nI ii)), (0, .ref mo), (1, .int (nI sq))]) hx hb dX4_forks_80 hl (by decide) rfl (fun ls hl => ?_)
            refine lv_iload hx hb dX4_forks_82 (lv_at hl 0 rfl) ?_
            refine lv_if_eq (tgt := 98) hx hb dX4_forks_84 (by decide) (fun c_6 => ?_) (fun c_6 => ?_)
            · exact absurd c_6 (by decide)
            · refine lv_aload_n hx hb dX4_forks_87 rfl (lv_at hl 5 rfl) ?_
              refine lv_lload hx hb dX4_forks_88 (lv_at hl 1 rfl) ?_
              refine lv_iload hx hb dX4_forks_90 (lv_at hl 2 rfl) ?_
              have hPc := hP.sub (ws' := [(mo, .inr (4, [.int 0, .ref mc, .ref mw, .ref mz, .ref mv, .ref mp, .ref mh])), (mc, .inl (gI G, 4, .inl (kz_z cs))), (mw, .inl (gJ G, 480, .inr (.inl mW))), (mz, .inl (gI G, 480, .inl (kz_z mZ))), (mv, .inl (gI G, 480, .inl mV)), (mp, .inl (gZ G, 3, .inl (kz_bo po))), (mh, .inl (gI G, 3, .inl (kz_pw pw)))]) [0, 1, 2, 3, 4, 5, 6] rfl
              refine kz_ci (v := nI (kf_br mW mZ (kf_cut (mW ii) jj) jj (cs 0))) (va_runV (As := [.long (kf_cut (mW ii) jj), .int (nI jj)]) (rest := []) ⟨hx, hb, hml, hown, hts⟩ (c_X4_branches l G mo mc mw mz mv mp mh 0 cs mW mZ mV po pw (kf_cut (mW ii) jj) jj hcs hmz (by omega)) (cwV 2 hts gX4_forks_X4_branches rfl rfl rfl (by decide +kernel) ⟨Nat.le_of_ble_eq_true rfl, Nat.le_of_ble_eq_true rfl⟩) (kz_pv hK hPc (va_recv hK.1 hPc (ci := 4) (q0 := 0) rfl rfl)) rfl rfl hl.1 rfl (lv_room (Nat.le_of_ble_eq_true rfl)) dX4_forks_92 ⟨Nat.zero_le _, Nat.zero_le _⟩).run ?_
              refine lv_goto (tgt := 99) hx hb dX4_forks_95 (by decide) ?_
              refine lv_istore (lv' := [(8, .int (nI (kf_br mW mZ (kf_cut (mW ii) jj) jj (cs 0)))), (7, .int 1), (5, .long (kf_cut (mW ii) jj)), (4, .int (nI jj)), (2, .int (nI (kf_sum (kf_fF mW mZ (cs 0) sq) ii + kf_cnt (kf_ft mW mZ (cs 0) sq ii) jj))), (3, .int (nI ii)), (0, .ref mo), (1, .int (nI sq))]) hx hb dX4_forks_99 hl (by decide) rfl (fun ls hl => ?_)
              refine lv_iload hx hb dX4_forks_101 (lv_at hl 0 rfl) ?_
              refine lv_if_le (tgt := 121) hx hb dX4_forks_103 (by decide) (fun c_7 => ?_) (fun c_7 => ?_)
              · have hbl := kf_br_le mW mZ (kf_cut (mW ii) jj) jj (cs 0)
                have h103 := (nI_leI (b := 0) (by omega) (by decide)).mp c_7
                refine lv_iload_n hx hb dX4_forks_121 rfl (lv_at hl 4 rfl) ?_
                have hno9 : ¬ kf_ft mW mZ (cs 0) sq ii jj = true := fun h => by
                  have h8 := (of_decide_eq_true h).1
                  rw [hfb] at h8
                  omega
                refine kz_asi (y := nI (kf_sum (kf_fF mW mZ (cs 0) sq) ii + kf_cnt (kf_ft mW mZ (cs 0) sq ii) (jj + 1))) (by rw [kf_cnt_n hno9]) ?_
                refine lv_istore_n (lv' := [(2, .int (nI (kf_sum (kf_fF mW mZ (cs 0) sq) ii + kf_cnt (kf_ft mW mZ (cs 0) sq ii) (jj + 1)))), (8, .int (nI (kf_br mW mZ (kf_cut (mW ii) jj) jj (cs 0)))), (7, .int 1), (5, .long (kf_cut (mW ii) jj)), (4, .int (nI jj)), (3, .int (nI ii)), (0, .ref mo), (1, .int (nI sq))]) hx hb dX4_forks_122 rfl hl (by decide) rfl (fun ls hl => ?_)
                refine lv_iinc (v := nI (jj + 1)) (lv' := [(4, .int (nI (jj + 1))), (2, .int (nI (kf_sum (kf_fF mW mZ (cs 0) sq) ii + kf_cnt (kf_ft mW mZ (cs 0) sq ii) (jj + 1)))), (8, .int (nI (kf_br mW mZ (kf_cut (mW ii) jj) jj (cs 0)))), (7, .int 1), (5, .long (kf_cut (mW ii) jj)), (3, .int (nI ii)), (0, .ref mo), (1, .int (nI sq))]) hx hb dX4_forks_123 hl (k := 4) rfl (nI_1 jj) (by decide) rfl (fun ls hl => ?_)
                refine lv_goto (tgt := 33) hx hb dX4_forks_126 (by decide) ?_
                exact ih2 ls (by omega) (lv_sub hl [0, 1, 5, 6, 7] rfl)
              · have hbl := kf_br_le mW mZ (kf_cut (mW ii) jj) jj (cs 0)
                have h103 := (nI_ltI (a := 0) (by decide) (by omega)).mp (Int32.not_le.mp c_7)
                refine lv_iload hx hb dX4_forks_106 (lv_at hl 0 rfl) ?_
                refine kz_ci (v := nI (kf_sz (kf_br mW mZ (kf_cut (mW ii) jj) jj (cs 0)))) (va_runS (As := [.int (nI (kf_br mW mZ (kf_cut (mW ii) jj) jj (cs 0)))]) (rest := []) ⟨hx, hb, hml, hown, hts⟩ (c_X4_sizeOf l (kf_br mW mZ (kf_cut (mW ii) jj) jj (cs 0)) (by omega)) (va_cwS 1 hts gX4_forks_X4_sizeOf rfl rfl rfl (by decide +kernel) ⟨Nat.le_of_ble_eq_true rfl, Nat.le_of_ble_eq_true rfl⟩) kz_ps0 rfl rfl hl.1 rfl (lv_room (Nat.le_of_ble_eq_true rfl)) dX4_forks_108 ⟨Nat.zero_le _, Nat.zero_le _⟩).run ?_
                refine lv_iload_n hx hb dX4_forks_111 rfl (lv_at hl 7 rfl) ?_
                refine lv_icmp_ne (tgt := 121) hx hb dX4_forks_112 (by decide) (fun c_8 => ?_) (fun c_8 => ?_)
                · have h112 := c_8
                  refine lv_iload_n hx hb dX4_forks_121 rfl (lv_at hl 4 rfl) ?_
                  have hno9 : ¬ kf_ft mW mZ (cs 0) sq ii jj = true := fun h => by
                    have h8 := (of_decide_eq_true h).2
                    rw [hfb] at h8
                    exact h112 (by rw [h8])
                  refine kz_asi (y := nI (kf_sum (kf_fF mW mZ (cs 0) sq) ii + kf_cnt (kf_ft mW mZ (cs 0) sq ii) (jj + 1))) (by rw [kf_cnt_n hno9]) ?_
                  refine lv_istore_n (lv' := [(2, .int (nI (kf_sum (kf_fF mW mZ (cs 0) sq) ii + kf_cnt (kf_ft mW mZ (cs 0) sq ii) (jj + 1)))), (8, .int (nI (kf_br mW mZ (kf_cut (mW ii) jj) jj (cs 0)))), (7, .int 1), (5, .long (kf_cut (mW ii) jj)), (4, .int (nI jj)), (3, .int (nI ii)), (0, .ref mo), (1, .int (nI sq))]) hx hb dX4_forks_122 rfl hl (by decide) rfl (fun ls hl => ?_)
                  refine lv_iinc (v := nI (jj + 1)) (lv' := [(4, .int (nI (jj + 1))), (2, .int (nI (kf_sum (kf_fF mW mZ (cs 0) sq) ii + kf_cnt (kf_ft mW mZ (cs 0) sq ii) (jj + 1)))), (8, .int (nI (kf_br mW mZ (kf_cut (mW ii) jj) jj (cs 0)))), (7, .int 1), (5, .long (kf_cut (mW ii) jj)), (3, .int (nI ii)), (0, .ref mo), (1, .int (nI sq))]) hx hb dX4_forks_123 hl (k := 4) rfl (nI_1 jj) (by decide) rfl (fun ls hl => ?_)
                  refine lv_goto (tgt := 33) hx hb dX4_forks_126 (by decide) ?_
                  exact ih2 ls (by omega) (lv_sub hl [0, 1, 5, 6, 7] rfl)
                · have h112 := (nI_eq (by have := kf_sz_le (kf_br mW mZ (kf_cut (mW ii) jj) jj (cs 0)); omega) (by omega)).mp c_8
                  refine lv_iload_n hx hb dX4_forks_115 rfl (lv_at hl 4 rfl) ?_
                  refine lv_iconst (v := 1) hx hb dX4_forks_116 (by decide) ?_
                  refine lv_iadd hx hb dX4_forks_117 ?_
                  refine lv_goto (tgt := 122) hx hb dX4_forks_118 (by decide) ?_
                  have hyes : kf_ft mW mZ (cs 0) sq ii jj = true := decide_eq_true ⟨by rw [hfb]; exact h103, by rw [hfb]; exact h112⟩
                  refine kz_asi (y := nI (kf_sum (kf_fF mW mZ (cs 0) sq) ii + kf_cnt (kf_ft mW mZ (cs 0) sq ii) (jj + 1))) (by rw [kf_cnt_y hyes, ← Nat.add_assoc]; exact nI_1 _) ?_
                  refine lv_istore_n (lv' := [(2, .int (nI (kf_sum (kf_fF mW mZ (cs 0) sq) ii + kf_cnt (kf_ft mW mZ (cs 0) sq ii) (jj + 1)))), (8, .int (nI (kf_br mW mZ (kf_cut (mW ii) jj) jj (cs 0)))), (7, .int 1), (5, .long (kf_cut (mW ii) jj)), (4, .int (nI jj)), (3, .int (nI ii)), (0, .ref mo), (1, .int (nI sq))]) hx hb dX4_forks_122 rfl hl (by decide) rfl (fun ls hl => ?_)
                  refine lv_iinc (v := nI (jj + 1)) (lv' := [(4, .int (nI (jj + 1))), (2, .int (nI (kf_sum (kf_fF mW mZ (cs 0) sq) ii + kf_cnt (kf_ft mW mZ (cs 0) sq ii) (jj + 1)))), (8, .int (nI (kf_br mW mZ (kf_cut (mW ii) jj) jj (cs 0)))), (7, .int 1), (5, .long (kf_cut (mW ii) jj)), (3, .int (nI ii)), (0, .ref mo), (1, .int (nI sq))]) hx hb dX4_forks_123 hl (k := 4) rfl (nI_1 jj) (by decide) rfl (fun ls hl => ?_)
                  refine lv_goto (tgt := 33) hx hb dX4_forks_126 (by decide) ?_
                  exact ih2 ls (by omega) (lv_sub hl [0, 1, 5, 6, 7] rfl)
          · have hi0 : ¬ ii = 0 := fun h => c_5 (by rw [h]; rfl)
            refine lv_aload_n hx hb dX4_forks_61 rfl (lv_at hl 4 rfl) ?_
            refine lv_iload_n hx hb dX4_forks_62 rfl (lv_at hl 3 rfl) ?_
            refine lv_iconst (v := 1) hx hb dX4_forks_63 (by decide) ?_
            refine lv_isub hx hb dX4_forks_64 ?_
            refine kz_asi (y := nI (ii - 1)) (pk_sub (a := ii) (b := 1) (by omega)) ?_
            refine lv_lload hx hb dX4_forks_65 (lv_at hl 0 rfl) ?_
            refine lv_iload hx hb dX4_forks_67 (lv_at hl 1 rfl) ?_
            have hPc := hP.sub (ws' := [(mo, .inr (4, [.int 0, .ref mc, .ref mw, .ref mz, .ref mv, .ref mp, .ref mh])), (mc, .inl (gI G, 4, .inl (kz_z cs))), (mw, .inl (gJ G, 480, .inr (.inl mW))), (mz, .inl (gI G, 480, .inl (kz_z mZ))), (mv, .inl (gI G, 480, .inl mV)), (mp, .inl (gZ G, 3, .inl (kz_bo po))), (mh, .inl (gI G, 3, .inl (kz_pw pw)))]) [0, 1, 2, 3, 4, 5, 6] rfl
            refine kz_ci (v := if kf_bg (mW (ii - 1)) (mZ (ii - 1)) (kf_cut (mW ii) jj) jj then 1 else 0) (va_runV (As := [.int (nI (ii - 1)), .long (kf_cut (mW ii) jj), .int (nI jj)]) (rest := []) ⟨hx, hb, hml, hown, hts⟩ (c_X4_begins l G mo mc mw mz mv mp mh 0 cs mW mZ mV po pw (ii - 1) (kf_cut (mW ii) jj) jj hmz (by omega) (by omega)) (cwV 3 hts gX4_forks_X4_begins rfl rfl rfl (by decide +kernel) ⟨Nat.le_of_ble_eq_true rfl, Nat.le_of_ble_eq_true rfl⟩) (kz_pv hK hPc (va_recv hK.1 hPc (ci := 4) (q0 := 0) rfl rfl)) rfl rfl hl.1 rfl (lv_room (Nat.le_of_ble_eq_true rfl)) dX4_forks_69 ⟨Nat.zero_le _, Nat.zero_le _⟩).run ?_
            refine lv_if_ne (tgt := 79) hx hb dX4_forks_72 (by decide) (fun c_9 => ?_) (fun c_9 => ?_)
            · have hbg := kf_if1 c_9
              have hfb : kf_fb mW mZ (cs 0) ii jj = 0 := if_neg (fun h => h.elim hi0 (fun h => h hbg))
              refine lv_iconst (v := 0) hx hb dX4_forks_79 (by decide) ?_
              refine lv_istore (lv' := [(7, .int 0), (5, .long (kf_cut (mW ii) jj)), (4, .int (nI jj)), (2, .int (nI (kf_sum (kf_fF mW mZ (cs 0) sq) ii + kf_cnt (kf_ft mW mZ (cs 0) sq ii) jj))), (3, .int (nI ii)), (0, .ref mo), (1, .int (nI sq))]) hx hb dX4_forks_80 hl (by decide) rfl (fun ls hl => ?_)
              refine lv_iload hx hb dX4_forks_82 (lv_at hl 0 rfl) ?_
              refine lv_if_eq (tgt := 98) hx hb dX4_forks_84 (by decide) (fun c_10 => ?_) (fun c_10 => ?_)
              · refine lv_iconst (v := 0) hx hb dX4_forks_98 (by decide) ?_
                refine lv_istore (lv' := [(8, .int 0), (7, .int 0), (5, .long (kf_cut (mW ii) jj)), (4, .int (nI jj)), (2, .int (nI (kf_sum (kf_fF mW mZ (cs 0) sq) ii + kf_cnt (kf_ft mW mZ (cs 0) sq ii) jj))), (3, .int (nI ii)), (0, .ref mo), (1, .int (nI sq))]) hx hb dX4_forks_99 hl (by decide) rfl (fun ls hl => ?_)
                refine lv_iload hx hb dX4_forks_101 (lv_at hl 0 rfl) ?_
                refine lv_if_le (tgt := 121) hx hb dX4_forks_103 (by decide) (fun c_11 => ?_) (fun c_11 => ?_)
                · refine lv_iload_n hx hb dX4_forks_121 rfl (lv_at hl 4 rfl) ?_
                  have hno9 : ¬ kf_ft mW mZ (cs 0) sq ii jj = true := fun h => by
                    have h8 := (of_decide_eq_true h).1
                    rw [hfb] at h8
                    exact absurd h8 (by decide)
                  refine kz_asi (y := nI (kf_sum (kf_fF mW mZ (cs 0) sq) ii + kf_cnt (kf_ft mW mZ (cs 0) sq ii) (jj + 1))) (by rw [kf_cnt_n hno9]) ?_
                  refine lv_istore_n (lv' := [(2, .int (nI (kf_sum (kf_fF mW mZ (cs 0) sq) ii + kf_cnt (kf_ft mW mZ (cs 0) sq ii) (jj + 1)))), (8, .int 0), (7, .int 0), (5, .long (kf_cut (mW ii) jj)), (4, .int (nI jj)), (3, .int (nI ii)), (0, .ref mo), (1, .int (nI sq))]) hx hb dX4_forks_122 rfl hl (by decide) rfl (fun ls hl => ?_)
                  refine lv_iinc (v := nI (jj + 1)) (lv' := [(4, .int (nI (jj + 1))), (2, .int (nI (kf_sum (kf_fF mW mZ (cs 0) sq) ii + kf_cnt (kf_ft mW mZ (cs 0) sq ii) (jj + 1)))), (8, .int 0), (7, .int 0), (5, .long (kf_cut (mW ii) jj)), (3, .int (nI ii)), (0, .ref mo), (1, .int (nI sq))]) hx hb dX4_forks_123 hl (k := 4) rfl (nI_1 jj) (by decide) rfl (fun ls hl => ?_)
                  refine lv_goto (tgt := 33) hx hb dX4_forks_126 (by decide) ?_
                  exact ih2 ls (by omega) (lv_sub hl [0, 1, 5, 6, 7] rfl)
                · exact absurd c_11 (by decide)
              · exact absurd c_10 (by decide)
            · have hnb := kf_if0 c_9
              have hfb : kf_fb mW mZ (cs 0) ii jj = kf_br mW mZ (kf_cut (mW ii) jj) jj (cs 0) := if_pos (Or.inr hnb)
              refine lv_iconst (v := 1) hx hb dX4_forks_75 (by decide) ?_
              refine lv_goto (tgt := 80) hx hb dX4_forks_76 (by decide) ?_
              refine lv_istore (lv' := [(7, .int 1), (5, .long (kf_cut (mW ii) jj)), (4, .int (nI jj)), (2, .int (nI (kf_sum (kf_fF mW mZ (cs 0) sq) ii + kf_cnt (kf_ft mW mZ (cs 0) sq ii) jj))), (3, .int (nI ii)), (0, .ref mo), (1, .int (nI sq))]) hx hb dX4_forks_80 hl (by decide) rfl (fun ls hl => ?_)
              refine lv_iload hx hb dX4_forks_82 (lv_at hl 0 rfl) ?_
              refine lv_if_eq (tgt := 98) hx hb dX4_forks_84 (by decide) (fun c_12 => ?_) (fun c_12 => ?_)
              · exact absurd c_12 (by decide)
              · refine lv_aload_n hx hb dX4_forks_87 rfl (lv_at hl 5 rfl) ?_
                refine lv_lload hx hb dX4_forks_88 (lv_at hl 1 rfl) ?_
                refine lv_iload hx hb dX4_forks_90 (lv_at hl 2 rfl) ?_
                have hPc := hP.sub (ws' := [(mo, .inr (4, [.int 0, .ref mc, .ref mw, .ref mz, .ref mv, .ref mp, .ref mh])), (mc, .inl (gI G, 4, .inl (kz_z cs))), (mw, .inl (gJ G, 480, .inr (.inl mW))), (mz, .inl (gI G, 480, .inl (kz_z mZ))), (mv, .inl (gI G, 480, .inl mV)), (mp, .inl (gZ G, 3, .inl (kz_bo po))), (mh, .inl (gI G, 3, .inl (kz_pw pw)))]) [0, 1, 2, 3, 4, 5, 6] rfl
                refine kz_ci (v := nI (kf_br mW mZ (kf_cut (mW ii) jj) jj (cs 0))) (va_runV (As := [.long (kf_cut (mW ii) jj), .int (nI jj)]) (rest := []) ⟨hx, hb, hml, hown, hts⟩ (c_X4_branches l G mo mc mw mz mv mp mh 0 cs mW mZ mV po pw (kf_cut (mW ii) jj) jj hcs hmz (by omega)) (cwV 2 hts gX4_forks_X4_branches rfl rfl rfl (by decide +kernel) ⟨Nat.le_of_ble_eq_true rfl, Nat.le_of_ble_eq_true rfl⟩) (kz_pv hK hPc (va_recv hK.1 hPc (ci := 4) (q0 := 0) rfl rfl)) rfl rfl hl.1 rfl (lv_room (Nat.le_of_ble_eq_true rfl)) dX4_forks_92 ⟨Nat.zero_le _, Nat.zero_le _⟩).run ?_
                refine lv_goto (tgt := 99) hx hb dX4_forks_95 (by decide) ?_
                refine lv_istore (lv' := [(8, .int (nI (kf_br mW mZ (kf_cut (mW ii) jj) jj (cs 0)))), (7, .int 1), (5, .long (kf_cut (mW ii) jj)), (4, .int (nI jj)), (2, .int (nI (kf_sum (kf_fF mW mZ (cs 0) sq) ii + kf_cnt (kf_ft mW mZ (cs 0) sq ii) jj))), (3, .int (nI ii)), (0, .ref mo), (1, .int (nI sq))]) hx hb dX4_forks_99 hl (by decide) rfl (fun ls hl => ?_)
                refine lv_iload hx hb dX4_forks_101 (lv_at hl 0 rfl) ?_
                refine lv_if_le (tgt := 121) hx hb dX4_forks_103 (by decide) (fun c_13 => ?_) (fun c_13 => ?_)
                · have hbl := kf_br_le mW mZ (kf_cut (mW ii) jj) jj (cs 0)
                  have h103 := (nI_leI (b := 0) (by omega) (by decide)).mp c_13
                  refine lv_iload_n hx hb dX4_forks_121 rfl (lv_at hl 4 rfl) ?_
                  have hno9 : ¬ kf_ft mW mZ (cs 0) sq ii jj = true := fun h => by
                    have h8 := (of_decide_eq_true h).1
                    rw [hfb] at h8
                    omega
                  refine kz_asi (y := nI (kf_sum (kf_fF mW mZ (cs 0) sq) ii + kf_cnt (kf_ft mW mZ (cs 0) sq ii) (jj + 1))) (by rw [kf_cnt_n hno9]) ?_
                  refine lv_istore_n (lv' := [(2, .int (nI (kf_sum (kf_fF mW mZ (cs 0) sq) ii + kf_cnt (kf_ft mW mZ (cs 0) sq ii) (jj + 1)))), (8, .int (nI (kf_br mW mZ (kf_cut (mW ii) jj) jj (cs 0)))), (7, .int 1), (5, .long (kf_cut (mW ii) jj)), (4, .int (nI jj)), (3, .int (nI ii)), (0, .ref mo), (1, .int (nI sq))]) hx hb dX4_forks_122 rfl hl (by decide) rfl (fun ls hl => ?_)
                  refine lv_iinc (v := nI (jj + 1)) (lv' := [(4, .int (nI (jj + 1))), (2, .int (nI (kf_sum (kf_fF mW mZ (cs 0) sq) ii + kf_cnt (kf_ft mW mZ (cs 0) sq ii) (jj + 1)))), (8, .int (nI (kf_br mW mZ (kf_cut (mW ii) jj) jj (cs 0)))), (7, .int 1), (5, .long (kf_cut (mW ii) jj)), (3, .int (nI ii)), (0, .ref mo), (1, .int (nI sq))]) hx hb dX4_forks_123 hl (k := 4) rfl (nI_1 jj) (by decide) rfl (fun ls hl => ?_)
                  refine lv_goto (tgt := 33) hx hb dX4_forks_126 (by decide) ?_
                  exact ih2 ls (by omega) (lv_sub hl [0, 1, 5, 6, 7] rfl)
                · have hbl := kf_br_le mW mZ (kf_cut (mW ii) jj) jj (cs 0)
                  have h103 := (nI_ltI (a := 0) (by decide) (by omega)).mp (Int32.not_le.mp c_13)
                  refine lv_iload hx hb dX4_forks_106 (lv_at hl 0 rfl) ?_
                  refine kz_ci (v := nI (kf_sz (kf_br mW mZ (kf_cut (mW ii) jj) jj (cs 0)))) (va_runS (As := [.int (nI (kf_br mW mZ (kf_cut (mW ii) jj) jj (cs 0)))]) (rest := []) ⟨hx, hb, hml, hown, hts⟩ (c_X4_sizeOf l (kf_br mW mZ (kf_cut (mW ii) jj) jj (cs 0)) (by omega)) (va_cwS 1 hts gX4_forks_X4_sizeOf rfl rfl rfl (by decide +kernel) ⟨Nat.le_of_ble_eq_true rfl, Nat.le_of_ble_eq_true rfl⟩) kz_ps0 rfl rfl hl.1 rfl (lv_room (Nat.le_of_ble_eq_true rfl)) dX4_forks_108 ⟨Nat.zero_le _, Nat.zero_le _⟩).run ?_
                  refine lv_iload_n hx hb dX4_forks_111 rfl (lv_at hl 7 rfl) ?_
                  refine lv_icmp_ne (tgt := 121) hx hb dX4_forks_112 (by decide) (fun c_14 => ?_) (fun c_14 => ?_)
                  · have h112 := c_14
                    refine lv_iload_n hx hb dX4_forks_121 rfl (lv_at hl 4 rfl) ?_
                    have hno9 : ¬ kf_ft mW mZ (cs 0) sq ii jj = true := fun h => by
                      have h8 := (of_decide_eq_true h).2
                      rw [hfb] at h8
                      exact h112 (by rw [h8])
                    refine kz_asi (y := nI (kf_sum (kf_fF mW mZ (cs 0) sq) ii + kf_cnt (kf_ft mW mZ (cs 0) sq ii) (jj + 1))) (by rw [kf_cnt_n hno9]) ?_
                    refine lv_istore_n (lv' := [(2, .int (nI (kf_sum (kf_fF mW mZ (cs 0) sq) ii + kf_cnt (kf_ft mW mZ (cs 0) sq ii) (jj + 1)))), (8, .int (nI (kf_br mW mZ (kf_cut (mW ii) jj) jj (cs 0)))), (7, .int 1), (5, .long (kf_cut (mW ii) jj)), (4, .int (nI jj)), (3, .int (nI ii)), (0, .ref mo), (1, .int (nI sq))]) hx hb dX4_forks_122 rfl hl (by decide) rfl (fun ls hl => ?_)
                    refine lv_iinc (v := nI (jj + 1)) (lv' := [(4, .int (nI (jj + 1))), (2, .int (nI (kf_sum (kf_fF mW mZ (cs 0) sq) ii + kf_cnt (kf_ft mW mZ (cs 0) sq ii) (jj + 1)))), (8, .int (nI (kf_br mW mZ (kf_cut (mW ii) jj) jj (cs 0)))), (7, .int 1), (5, .long (kf_cut (mW ii) jj)), (3, .int (nI ii)), (0, .ref mo), (1, .int (nI sq))]) hx hb dX4_forks_123 hl (k := 4) rfl (nI_1 jj) (by decide) rfl (fun ls hl => ?_)
                    refine lv_goto (tgt := 33) hx hb dX4_forks_126 (by decide) ?_
                    exact ih2 ls (by omega) (lv_sub hl [0, 1, 5, 6, 7] rfl)
                  · have h112 := (nI_eq (by have := kf_sz_le (kf_br mW mZ (kf_cut (mW ii) jj) jj (cs 0)); omega) (by omega)).mp c_14
                    refine lv_iload_n hx hb dX4_forks_115 rfl (lv_at hl 4 rfl) ?_
                    refine lv_iconst (v := 1) hx hb dX4_forks_116 (by decide) ?_
                    refine lv_iadd hx hb dX4_forks_117 ?_
                    refine lv_goto (tgt := 122) hx hb dX4_forks_118 (by decide) ?_
                    have hyes : kf_ft mW mZ (cs 0) sq ii jj = true := decide_eq_true ⟨by rw [hfb]; exact h103, by rw [hfb]; exact h112⟩
                    refine kz_asi (y := nI (kf_sum (kf_fF mW mZ (cs 0) sq) ii + kf_cnt (kf_ft mW mZ (cs 0) sq ii) (jj + 1))) (by rw [kf_cnt_y hyes, ← Nat.add_assoc]; exact nI_1 _) ?_
                    refine lv_istore_n (lv' := [(2, .int (nI (kf_sum (kf_fF mW mZ (cs 0) sq) ii + kf_cnt (kf_ft mW mZ (cs 0) sq ii) (jj + 1)))), (8, .int (nI (kf_br mW mZ (kf_cut (mW ii) jj) jj (cs 0)))), (7, .int 1), (5, .long (kf_cut (mW ii) jj)), (4, .int (nI jj)), (3, .int (nI ii)), (0, .ref mo), (1, .int (nI sq))]) hx hb dX4_forks_122 rfl hl (by decide) rfl (fun ls hl => ?_)
                    refine lv_iinc (v := nI (jj + 1)) (lv' := [(4, .int (nI (jj + 1))), (2, .int (nI (kf_sum (kf_fF mW mZ (cs 0) sq) ii + kf_cnt (kf_ft mW mZ (cs 0) sq ii) (jj + 1)))), (8, .int (nI (kf_br mW mZ (kf_cut (mW ii) jj) jj (cs 0)))), (7, .int 1), (5, .long (kf_cut (mW ii) jj)), (3, .int (nI ii)), (0, .ref mo), (1, .int (nI sq))]) hx hb dX4_forks_123 hl (k := 4) rfl (nI_1 jj) (by decide) rfl (fun ls hl => ?_)
                    refine lv_goto (tgt := 33) hx hb dX4_forks_126 (by decide) ?_
                    exact ih2 ls (by omega) (lv_sub hl [0, 1, 5, 6, 7] rfl)
    · refine lv_iconst (v := (-1)) hx hb dX4_forks_14 (by decide) ?_
      exact W.iret (v := (-1)) hx hb hr (fun t ht hW => ⟨⟨_, ([(mo, .inr (4, [.int 0, .ref mc, .ref mw, .ref mz, .ref mv, .ref mp, .ref mh])), (mc, .inl (gI G, 4, .inl (kz_z cs))), (mw, .inl (gJ G, 480, .inr (.inl mW))), (mz, .inl (gI G, 480, .inl (kz_z mZ))), (mv, .inl (gI G, 480, .inl mV)), (mp, .inl (gZ G, 3, .inl (kz_bo po))), (mh, .inl (gI G, 3, .inl (kz_pw pw)))] : va_W), rfl, ⟨(if_neg (fun h => c_2 h.2)).symm, rfl⟩, by rw [← ht] at hP; exact hP⟩, hS.F ht⟩) hS.2.2 dX4_forks_15
