set_option maxHeartbeats 4000000 in
set_option maxRecDepth 100000 in
theorem c_X4_put (l : Launch) (G : kz_G) (mo mc mw mz mv mp mh : Nat) (tv : Int32) (cs : Nat → Nat) (mW : Nat → Int64) (mZ : Nat → Nat) (mV : Nat → Int32) (po : Nat → Bool) (pw : Nat → Nat) (ww : Int64) (nv vv : Int32) (sz : Nat) (hcs : ∀ j, cs j ≤ 120) (hmz : ∀ j, mZ j ≤ 8) : Met l yX4_put wsX4_put { frames := 2, cells := 0, slots := 0, locals := 51 } (kz_Pm G [.ref mo, .long ww, .int nv, .int vv] [(mo, .inr (4, [.int tv, .ref mc, .ref mw, .ref mz, .ref mv, .ref mp, .ref mh])), (mc, .inl (gI G, 4, .inl (kz_z cs))), (mw, .inl (gJ G, 480, .inr (.inl mW))), (mz, .inl (gI G, 480, .inl (kz_z mZ))), (mv, .inl (gI G, 480, .inl mV)), (mp, .inl (gZ G, 3, .inl (kz_bo po))), (mh, .inl (gI G, 3, .inl (kz_pw pw)))] sz) (kz_Qi G (fun r w => (¬ (0 ≤ nv ∧ nv ≤ 8) ∧ r = 0 ∧ w = [(mo, .inr (4, [.int 1, .ref mc, .ref mw, .ref mz, .ref mv, .ref mp, .ref mh])), (mc, .inl (gI G, 4, .inl (kz_z cs))), (mw, .inl (gJ G, 480, .inr (.inl mW))), (mz, .inl (gI G, 480, .inl (kz_z mZ))), (mv, .inl (gI G, 480, .inl mV)), (mp, .inl (gZ G, 3, .inl (kz_bo po))), (mh, .inl (gI G, 3, .inl (kz_pw pw)))]) ∨ (∃ zz : Nat, zz ≤ 8 ∧ nv = nI zz ∧ kf_st mW mZ (kf_cut ww zz) zz (cs 0) ∧ r = 0 ∧ w = [(mo, .inr (4, [.int 0, .ref mc, .ref mw, .ref mz, .ref mv, .ref mp, .ref mh])), (mc, .inl (gI G, 4, .inl (kz_z cs))), (mw, .inl (gJ G, 480, .inr (.inl mW))), (mz, .inl (gI G, 480, .inl (kz_z mZ))), (mv, .inl (gI G, 480, .inl (upd mV (kf_cb mW mZ (kf_cut ww zz) zz (cs 0)) vv))), (mp, .inl (gZ G, 3, .inl (kz_bo po))), (mh, .inl (gI G, 3, .inl (kz_pw pw)))]) ∨ (∃ zz : Nat, zz ≤ 8 ∧ nv = nI zz ∧ ¬ kf_st mW mZ (kf_cut ww zz) zz (cs 0) ∧ cs 0 = 120 ∧ r = 0 ∧ w = [(mo, .inr (4, [.int 2, .ref mc, .ref mw, .ref mz, .ref mv, .ref mp, .ref mh])), (mc, .inl (gI G, 4, .inl (kz_z cs))), (mw, .inl (gJ G, 480, .inr (.inl mW))), (mz, .inl (gI G, 480, .inl (kz_z mZ))), (mv, .inl (gI G, 480, .inl mV)), (mp, .inl (gZ G, 3, .inl (kz_bo po))), (mh, .inl (gI G, 3, .inl (kz_pw pw)))]) ∨ (∃ zz : Nat, zz ≤ 8 ∧ nv = nI zz ∧ ¬ kf_st mW mZ (kf_cut ww zz) zz (cs 0) ∧ ¬ cs 0 = 120 ∧ r = 1 ∧ w = [(mo, .inr (4, [.int 0, .ref mc, .ref mw, .ref mz, .ref mv, .ref mp, .ref mh])), (mc, .inl (gI G, 4, .inl (kz_z (kz_un cs 0 (cs 0 + 1))))), (mw, .inl (gJ G, 480, .inr (.inl (vp_updL (kf_up mW (kf_cb mW mZ (kf_cut ww zz) zz (cs 0)) (cs 0)) (kf_cb mW mZ (kf_cut ww zz) zz (cs 0)) (kf_cut ww zz))))), (mz, .inl (gI G, 480, .inl (kz_z (kz_un (kf_up mZ (kf_cb mW mZ (kf_cut ww zz) zz (cs 0)) (cs 0)) (kf_cb mW mZ (kf_cut ww zz) zz (cs 0)) zz)))), (mv, .inl (gI G, 480, .inl (upd (kf_up mV (kf_cb mW mZ (kf_cut ww zz) zz (cs 0)) (cs 0)) (kf_cb mW mZ (kf_cut ww zz) zz (cs 0)) vv))), (mp, .inl (gZ G, 3, .inl (kz_bo po))), (mh, .inl (gI G, 3, .inl (kz_pw pw)))])) (va_A [(mo, .inr (4, [.int tv, .ref mc, .ref mw, .ref mz, .ref mv, .ref mp, .ref mh])), (mc, .inl (gI G, 4, .inl (kz_z cs))), (mw, .inl (gJ G, 480, .inr (.inl mW))), (mz, .inl (gI G, 480, .inl (kz_z mZ))), (mv, .inl (gI G, 480, .inl mV)), (mp, .inl (gZ G, 3, .inl (kz_bo po))), (mh, .inl (gI G, 3, .inl (kz_pw pw)))] sz)) 0 0 (va_A [(mo, .inr (4, [.int tv, .ref mc, .ref mw, .ref mz, .ref mv, .ref mp, .ref mh])), (mc, .inl (gI G, 4, .inl (kz_z cs))), (mw, .inl (gJ G, 480, .inr (.inl mW))), (mz, .inl (gI G, 480, .inl (kz_z mZ))), (mv, .inl (gI G, 480, .inl mV)), (mp, .inl (gZ G, 3, .inl (kz_bo po))), (mh, .inl (gI G, 3, .inl (kz_pw pw)))] sz) := by
  refine Met.ofW (cc := cX4_put) (maxL := 11) (ret := (some .boolean)) (by decide) rfl ?_
  intro p e s m args below meth c s₁ B hml hv
  obtain ⟨rfl, hsz, hP, hK, hD0⟩ := hv
  have hx := B.exec
  have hb := B.bytes
  have hr := B.returns
  have hts := atoms_spec (ws := wsX4_put) B.pre
  have hown : s.vm.findClass RX4 = some m.cls := findClass_of_methodNamed B.named
  have hlocks := B.notSynchronized
  have hinX4 : ∀ w ∈ wsX40, w ∈ wsX4_put := by decide +kernel
  subst hsz
  have hD := hD0.self (sz := s.heap.size)
  generalize hAe : va_A [(mo, .inr (4, [.int tv, .ref mc, .ref mw, .ref mz, .ref mv, .ref mp, .ref mh])), (mc, .inl (gI G, 4, .inl (kz_z cs))), (mw, .inl (gJ G, 480, .inr (.inl mW))), (mz, .inl (gI G, 480, .inl (kz_z mZ))), (mv, .inl (gI G, 480, .inl mV)), (mp, .inl (gZ G, 3, .inl (kz_bo po))), (mh, .inl (gI G, 3, .inl (kz_pw pw)))] s.heap.size = A at hD ⊢
  have hA : ∀ q : Nat, s.heap.size ≤ q → A q := fun q h => by rw [← hAe]; exact Or.inr h
  have hS : va_S A s.heap s.heap [] := va_S.rf
  have hP : va_P G.1 vwCl [(mo, .inr (4, [.int tv, .ref mc, .ref mw, .ref mz, .ref mv, .ref mp, .ref mh])), (mc, .inl (gI G, 4, .inl (kz_z cs))), (mw, .inl (gJ G, 480, .inr (.inl mW))), (mz, .inl (gI G, 480, .inl (kz_z mZ))), (mv, .inl (gI G, 480, .inl mV)), (mp, .inl (gZ G, 3, .inl (kz_bo po))), (mh, .inl (gI G, 3, .inl (kz_pw pw)))] s.heap := hP
  have hl := lv_entry ([.ref mo, .long ww, .int nv, .int vv]) (n := 11) (Nat.le_of_ble_eq_true rfl)
  rw [lg_entry_eq]
  generalize (lg_sl ([.ref mo, .long ww, .int nv, .int vv]) ++ List.replicate (11 - (lg_sl ([.ref mo, .long ww, .int nv, .int vv])).length) Slot.unset).toArray = ls at hl ⊢
  have hl : lv_has ls 11 [(0, .ref mo), (1, .long ww), (3, .int nv), (4, .int vv)] := hl
  rcases kf_okc nv with ⟨zz, hzz, rfl⟩ | hno
  · have hl : lv_has ls 11 [(0, .ref mo), (1, .long ww), (3, .int (nI zz)), (4, .int vv)] := hl
    refine lv_iload_n hx hb dX4_put_0 rfl (lv_at hl 2 rfl) ?_
    refine lv_if_lt (tgt := 14) hx hb dX4_put_1 (by decide) (fun c_1 => ?_) (fun c_1 => ?_)
    · exact absurd c_1 (nI_pos (by omega))
    · refine lv_iload_n hx hb dX4_put_4 rfl (lv_at hl 2 rfl) ?_
      refine lv_bipush (v := 8) hx hb dX4_put_5 (by decide) ?_
      refine lv_icmp_gt (tgt := 14) hx hb dX4_put_7 (by decide) (fun c_2 => ?_) (fun c_2 => ?_)
      · exact absurd c_2 (Int32.not_lt.mpr (nI_le (b := 8) hzz (by decide)))
      · refine lv_iconst (v := 1) hx hb dX4_put_10 (by decide) ?_
        refine lv_goto (tgt := 15) hx hb dX4_put_11 (by decide) ?_
        refine lv_istore (lv' := [(5, .int 1), (0, .ref mo), (1, .long ww), (3, .int (nI zz)), (4, .int vv)]) hx hb dX4_put_15 hl (by decide) rfl (fun ls hl => ?_)
        refine lv_iload hx hb dX4_put_17 (lv_at hl 0 rfl) ?_
        refine lv_if_eq (tgt := 30) hx hb dX4_put_19 (by decide) (fun c_3 => ?_) (fun c_3 => ?_)
        · exact absurd c_3 (by decide)
        · refine lv_lload_n hx hb dX4_put_22 rfl (lv_at hl 2 rfl) ?_
          refine lv_iload_n hx hb dX4_put_23 rfl (lv_at hl 3 rfl) ?_
          refine kz_cl (v := kf_cut ww zz) (va_runS (As := [.long ww, .int (nI zz)]) (rest := []) ⟨hx, hb, hml, hown, hts⟩ (c_X4_cut l ww zz (by omega)) (va_cwS 2 hts gX4_put_X4_cut rfl rfl rfl (by decide +kernel) ⟨Nat.le_of_ble_eq_true rfl, Nat.le_of_ble_eq_true rfl⟩) kz_ps0 rfl rfl hl.1 rfl (lv_room (Nat.le_of_ble_eq_true rfl)) dX4_put_24 ⟨Nat.zero_le _, Nat.zero_le _⟩).run ?_
          refine lv_goto (tgt := 31) hx hb dX4_put_27 (by decide) ?_
          refine lv_lstore (lv' := [(6, .long (kf_cut ww zz)), (5, .int 1), (0, .ref mo), (1, .long ww), (3, .int (nI zz)), (4, .int vv)]) hx hb dX4_put_31 hl (by decide) rfl (fun ls hl => ?_)
          refine lv_iload hx hb dX4_put_33 (lv_at hl 1 rfl) ?_
          refine lv_if_eq (tgt := 49) hx hb dX4_put_35 (by decide) (fun c_4 => ?_) (fun c_4 => ?_)
          · exact absurd c_4 (by decide)
          · refine lv_aload_n hx hb dX4_put_38 rfl (lv_at hl 2 rfl) ?_
            refine lv_iconst (v := 0) hx hb dX4_put_39 (by decide) ?_
            refine lv_lload hx hb dX4_put_40 (lv_at hl 0 rfl) ?_
            refine lv_iload_n hx hb dX4_put_42 rfl (lv_at hl 4 rfl) ?_
            have hPc := hP.sub (ws' := [(mo, .inr (4, [.int tv, .ref mc, .ref mw, .ref mz, .ref mv, .ref mp, .ref mh])), (mc, .inl (gI G, 4, .inl (kz_z cs))), (mw, .inl (gJ G, 480, .inr (.inl mW))), (mz, .inl (gI G, 480, .inl (kz_z mZ))), (mv, .inl (gI G, 480, .inl mV)), (mp, .inl (gZ G, 3, .inl (kz_bo po))), (mh, .inl (gI G, 3, .inl (kz_pw pw)))]) [0, 1, 2, 3, 4, 5, 6] rfl
            refine kz_ci (v := nI (kf_cb mW mZ (kf_cut ww zz) zz (cs 0))) (va_runV (As := [.int 0, .long (kf_cut ww zz), .int (nI zz)]) (rest := []) ⟨hx, hb, hml, hown, hts⟩ (c_X4_place0 l G mo mc mw mz mv mp mh tv cs mW mZ mV po pw (kf_cut ww zz) zz hcs hmz (by omega)) (cwV 3 hts gX4_put_X4_place rfl rfl rfl (by decide +kernel) ⟨Nat.le_of_ble_eq_true rfl, Nat.le_of_ble_eq_true rfl⟩) (kz_pv hK hPc (va_recv hK.1 hPc (ci := 4) (q0 := 0) rfl rfl)) rfl rfl hl.1 rfl (lv_room (Nat.le_of_ble_eq_true rfl)) dX4_put_43 ⟨Nat.zero_le _, Nat.zero_le _⟩).run ?_
            refine lv_goto (tgt := 50) hx hb dX4_put_46 (by decide) ?_
            refine lv_istore (lv' := [(8, .int (nI (kf_cb mW mZ (kf_cut ww zz) zz (cs 0)))), (6, .long (kf_cut ww zz)), (5, .int 1), (0, .ref mo), (1, .long ww), (3, .int (nI zz)), (4, .int vv)]) hx hb dX4_put_50 hl (by decide) rfl (fun ls hl => ?_)
            have hcb := kf_cb_le mW mZ (kf_cut ww zz) zz (cs 0)
            have hc0 := hcs 0
            refine lv_iload hx hb dX4_put_52 (lv_at hl 2 rfl) ?_
            refine lv_if_eq (tgt := 74) hx hb dX4_put_54 (by decide) (fun c_5 => ?_) (fun c_5 => ?_)
            · exact absurd c_5 (by decide)
            · refine lv_aload_n hx hb dX4_put_57 rfl (lv_at hl 3 rfl) ?_
              refine lv_iconst (v := 0) hx hb dX4_put_58 (by decide) ?_
              refine lv_iload hx hb dX4_put_59 (lv_at hl 0 rfl) ?_
              refine lv_lload hx hb dX4_put_61 (lv_at hl 1 rfl) ?_
              refine lv_iload_n hx hb dX4_put_63 rfl (lv_at hl 5 rfl) ?_
              have hPc := hP.sub (ws' := [(mo, .inr (4, [.int tv, .ref mc, .ref mw, .ref mz, .ref mv, .ref mp, .ref mh])), (mc, .inl (gI G, 4, .inl (kz_z cs))), (mw, .inl (gJ G, 480, .inr (.inl mW))), (mz, .inl (gI G, 480, .inl (kz_z mZ))), (mv, .inl (gI G, 480, .inl mV)), (mp, .inl (gZ G, 3, .inl (kz_bo po))), (mh, .inl (gI G, 3, .inl (kz_pw pw)))]) [0, 1, 2, 3, 4, 5, 6] rfl
              refine kz_ci (v := if (kf_cb mW mZ (kf_cut ww zz) zz (cs 0)) < cs 0 ∧ mW (kf_cb mW mZ (kf_cut ww zz) zz (cs 0)) = kf_cut ww zz ∧ mZ (kf_cb mW mZ (kf_cut ww zz) zz (cs 0)) = zz then 1 else 0) (va_runV (As := [.int 0, .int (nI (kf_cb mW mZ (kf_cut ww zz) zz (cs 0))), .long (kf_cut ww zz), .int (nI zz)]) (rest := []) ⟨hx, hb, hml, hown, hts⟩ (c_X4_has0 l G mo mc mw mz mv mp mh tv cs mW mZ mV po pw (kf_cb mW mZ (kf_cut ww zz) zz (cs 0)) (kf_cut ww zz) zz hcs hmz (by omega) (by omega)) (cwV 4 hts gX4_put_X4_has rfl rfl rfl (by decide +kernel) ⟨Nat.le_of_ble_eq_true rfl, Nat.le_of_ble_eq_true rfl⟩) (kz_pv hK hPc (va_recv hK.1 hPc (ci := 4) (q0 := 0) rfl rfl)) rfl rfl hl.1 rfl (lv_room (Nat.le_of_ble_eq_true rfl)) dX4_put_64 ⟨Nat.zero_le _, Nat.zero_le _⟩).run ?_
              refine lv_if_eq (tgt := 74) hx hb dX4_put_67 (by decide) (fun c_6 => ?_) (fun c_6 => ?_)
              · have kc_6 := kf_if0 c_6
                refine lv_iconst (v := 0) hx hb dX4_put_74 (by decide) ?_
                refine lv_istore (lv' := [(9, .int 0), (8, .int (nI (kf_cb mW mZ (kf_cut ww zz) zz (cs 0)))), (6, .long (kf_cut ww zz)), (5, .int 1), (0, .ref mo), (1, .long ww), (3, .int (nI zz)), (4, .int vv)]) hx hb dX4_put_75 hl (by decide) rfl (fun ls hl => ?_)
                refine lv_aload_n hx hb dX4_put_77 rfl (lv_at hl 4 rfl) ?_
                refine lv_iload hx hb dX4_put_78 (lv_at hl 3 rfl) ?_
                refine lv_if_ne (tgt := 87) hx hb dX4_put_80 (by decide) (fun c_7 => ?_) (fun c_7 => ?_)
                · refine lv_iload hx hb dX4_put_87 (lv_at hl 0 rfl) ?_
                  refine lv_if_ne (tgt := 107) hx hb dX4_put_89 (by decide) (fun c_8 => ?_) (fun c_8 => ?_)
                  · exact absurd c_8 (by decide)
                  · refine lv_aload_n hx hb dX4_put_92 rfl (lv_at hl 4 rfl) ?_
                    refine va_get (D := G.1) (ci := 4) (v := .ref mc) (C := RX4) (T := TX4) (N := 7) hx hb hts hinX4 hown hK.1 hP 0 rfl rfl 1 (by decide) (hts (.fieldLink RX4 7 "ForkStoreModel" "counts" "[I") (by decide +kernel)) (fun _ h9 => h9) rfl dX4_put_93 ?_
                    refine lv_iconst (v := 0) hx hb dX4_put_96 (by decide) ?_
                    refine kz_iald hx hb hK.1 hP 1 0 rfl rfl (k := 0) (by decide) (by decide) dX4_put_97 ?_
                    refine kz_asi (y := nI (cs 0)) rfl ?_
                    refine lv_bipush (v := 120) hx hb dX4_put_98 (by decide) ?_
                    refine lv_icmp_ne (tgt := 107) hx hb dX4_put_100 (by decide) (fun c_9 => ?_) (fun c_9 => ?_)
                    · have kc_9 : ¬ cs 0 = 120 := fun h => c_9 (by rw [h]; rfl)
                      refine lv_iconst (v := 0) hx hb dX4_put_107 (by decide) ?_
                      refine va_put (D := G.1) (ci := 4) (v := .int 0) (ty := .int) (C := RX4) (T := TX4) (N := 7) hx hb hts hinX4 tyX4 tyX4_ok nmX4 hown hK.1 hP hD hS 0 rfl rfl 0 (by decide) (hts (.fieldLink RX4 30 "ForkStoreModel" "thrown" "I") (by decide +kernel)) (fun _ h9 => h9) rfl (by decide +kernel) rfl rfl (Nat.le_of_ble_eq_true rfl) dX4_put_108 (fun H locs hP hD hS => ?_)
                      have hP : va_P G.1 vwCl [(mo, .inr (4, [.int 0, .ref mc, .ref mw, .ref mz, .ref mv, .ref mp, .ref mh])), (mc, .inl (gI G, 4, .inl (kz_z cs))), (mw, .inl (gJ G, 480, .inr (.inl mW))), (mz, .inl (gI G, 480, .inl (kz_z mZ))), (mv, .inl (gI G, 480, .inl mV)), (mp, .inl (gZ G, 3, .inl (kz_bo po))), (mh, .inl (gI G, 3, .inl (kz_pw pw)))] H := hP
                      have hD : va_D A [(mo, .inr (4, [.int 0, .ref mc, .ref mw, .ref mz, .ref mv, .ref mp, .ref mh])), (mc, .inl (gI G, 4, .inl (kz_z cs))), (mw, .inl (gJ G, 480, .inr (.inl mW))), (mz, .inl (gI G, 480, .inl (kz_z mZ))), (mv, .inl (gI G, 480, .inl mV)), (mp, .inl (gZ G, 3, .inl (kz_bo po))), (mh, .inl (gI G, 3, .inl (kz_pw pw)))] := hD
                      refine lv_aload_n hx hb dX4_put_111 rfl (lv_at hl 4 rfl) ?_
                      refine va_get (D := G.1) (ci := 4) (v := .int 0) (C := RX4) (T := TX4) (N := 7) hx hb hts hinX4 hown hK.1 hP 0 rfl rfl 0 (by decide) (hts (.fieldLink RX4 30 "ForkStoreModel" "thrown" "I") (by decide +kernel)) (fun _ h9 => h9) rfl dX4_put_112 ?_
                      refine lv_if_le (tgt := 120) hx hb dX4_put_115 (by decide) (fun c_10 => ?_) (fun c_10 => ?_)
                      · refine lv_iload hx hb dX4_put_120 (lv_at hl 0 rfl) ?_
                        refine lv_if_ne (tgt := 183) hx hb dX4_put_122 (by decide) (fun c_11 => ?_) (fun c_11 => ?_)
                        · exact absurd c_11 (by decide)
                        · refine lv_aload_n hx hb dX4_put_125 rfl (lv_at hl 4 rfl) ?_
                          refine va_get (D := G.1) (ci := 4) (v := .ref mc) (C := RX4) (T := TX4) (N := 7) hx hb hts hinX4 hown hK.1 hP 0 rfl rfl 1 (by decide) (hts (.fieldLink RX4 7 "ForkStoreModel" "counts" "[I") (by decide +kernel)) (fun _ h9 => h9) rfl dX4_put_126 ?_
                          refine lv_iconst (v := 0) hx hb dX4_put_129 (by decide) ?_
                          refine kz_iald hx hb hK.1 hP 1 0 rfl rfl (k := 0) (by decide) (by decide) dX4_put_130 ?_
                          refine kz_asi (y := nI (cs 0)) rfl ?_
                          refine lv_istore (lv' := [(10, .int (nI (cs 0))), (9, .int 0), (8, .int (nI (kf_cb mW mZ (kf_cut ww zz) zz (cs 0)))), (6, .long (kf_cut ww zz)), (5, .int 1), (0, .ref mo), (1, .long ww), (3, .int (nI zz)), (4, .int vv)]) hx hb dX4_put_131 hl (by decide) rfl (fun ls hl => ?_)
                          refine kz_loopm (D := G.1) (cl := vwCl) (A := A) (H0 := s.heap) (nL := 11) (hd := 133) (e9 := cs 0 - (kf_cb mW mZ (kf_cut ww zz) zz (cs 0))) (i0 := 0) (LV := fun ii => [(10, .int (nI (cs 0 - ii))), (0, .ref mo), (3, .int (nI zz)), (4, .int vv), (5, .int 1), (6, .long (kf_cut ww zz)), (8, .int (nI (kf_cb mW mZ (kf_cut ww zz) zz (cs 0)))), (9, .int 0)]) (WV := fun ii => [(mo, .inr (4, [.int 0, .ref mc, .ref mw, .ref mz, .ref mv, .ref mp, .ref mh])), (mc, .inl (gI G, 4, .inl (kz_z cs))), (mw, .inl (gJ G, 480, .inr (.inl (kf_up mW (cs 0 - ii) (cs 0))))), (mz, .inl (gI G, 480, .inl (kz_z (kf_up mZ (cs 0 - ii) (cs 0))))), (mv, .inl (gI G, 480, .inl (kf_up mV (cs 0 - ii) (cs 0)))), (mp, .inl (gZ G, 3, .inl (kz_bo po))), (mh, .inl (gI G, 3, .inl (kz_pw pw)))]) (fun ii H locs ls hii hl hP hD hS ih => ?_) (Nat.zero_le _) (lv_sub hl [0, 5, 7, 8, 4, 3, 2, 1] rfl) (by simp only [Nat.sub_zero, kf_up_id]; exact hP) (by simp only [Nat.sub_zero, kf_up_id]; exact hD) hS
                          have hl : lv_has ls 11 [(10, .int (nI (cs 0 - ii))), (0, .ref mo), (3, .int (nI zz)), (4, .int vv), (5, .int 1), (6, .long (kf_cut ww zz)), (8, .int (nI (kf_cb mW mZ (kf_cut ww zz) zz (cs 0)))), (9, .int 0)] := hl
                          have hP : va_P G.1 vwCl [(mo, .inr (4, [.int 0, .ref mc, .ref mw, .ref mz, .ref mv, .ref mp, .ref mh])), (mc, .inl (gI G, 4, .inl (kz_z cs))), (mw, .inl (gJ G, 480, .inr (.inl (kf_up mW (cs 0 - ii) (cs 0))))), (mz, .inl (gI G, 480, .inl (kz_z (kf_up mZ (cs 0 - ii) (cs 0))))), (mv, .inl (gI G, 480, .inl (kf_up mV (cs 0 - ii) (cs 0)))), (mp, .inl (gZ G, 3, .inl (kz_bo po))), (mh, .inl (gI G, 3, .inl (kz_pw pw)))] H := hP
                          have hD : va_D A [(mo, .inr (4, [.int 0, .ref mc, .ref mw, .ref mz, .ref mv, .ref mp, .ref mh])), (mc, .inl (gI G, 4, .inl (kz_z cs))), (mw, .inl (gJ G, 480, .inr (.inl (kf_up mW (cs 0 - ii) (cs 0))))), (mz, .inl (gI G, 480, .inl (kz_z (kf_up mZ (cs 0 - ii) (cs 0))))), (mv, .inl (gI G, 480, .inl (kf_up mV (cs 0 - ii) (cs 0)))), (mp, .inl (gZ G, 3, .inl (kz_bo po))), (mh, .inl (gI G, 3, .inl (kz_pw pw)))] := hD
                          refine lv_iload hx hb dX4_put_133 (lv_at hl 0 rfl) ?_
                          refine lv_iload hx hb dX4_put_135 (lv_at hl 6 rfl) ?_
                          refine lv_icmp_le (tgt := 156) hx hb dX4_put_137 (by decide) (fun c_12 => ?_) (fun c_12 => ?_)
                          · have kc_12 : cs 0 - ii ≤ (kf_cb mW mZ (kf_cut ww zz) zz (cs 0)) := (nI_leI (by omega) (by omega)).mp c_12
                            rw [show cs 0 - ii = (kf_cb mW mZ (kf_cut ww zz) zz (cs 0)) from by omega] at hP hD
                            have hP : va_P G.1 vwCl [(mo, .inr (4, [.int 0, .ref mc, .ref mw, .ref mz, .ref mv, .ref mp, .ref mh])), (mc, .inl (gI G, 4, .inl (kz_z cs))), (mw, .inl (gJ G, 480, .inr (.inl (kf_up mW (kf_cb mW mZ (kf_cut ww zz) zz (cs 0)) (cs 0))))), (mz, .inl (gI G, 480, .inl (kz_z (kf_up mZ (kf_cb mW mZ (kf_cut ww zz) zz (cs 0)) (cs 0))))), (mv, .inl (gI G, 480, .inl (kf_up mV (kf_cb mW mZ (kf_cut ww zz) zz (cs 0)) (cs 0)))), (mp, .inl (gZ G, 3, .inl (kz_bo po))), (mh, .inl (gI G, 3, .inl (kz_pw pw)))] _ := hP
                            have hD : va_D A [(mo, .inr (4, [.int 0, .ref mc, .ref mw, .ref mz, .ref mv, .ref mp, .ref mh])), (mc, .inl (gI G, 4, .inl (kz_z cs))), (mw, .inl (gJ G, 480, .inr (.inl (kf_up mW (kf_cb mW mZ (kf_cut ww zz) zz (cs 0)) (cs 0))))), (mz, .inl (gI G, 480, .inl (kz_z (kf_up mZ (kf_cb mW mZ (kf_cut ww zz) zz (cs 0)) (cs 0))))), (mv, .inl (gI G, 480, .inl (kf_up mV (kf_cb mW mZ (kf_cut ww zz) zz (cs 0)) (cs 0)))), (mp, .inl (gZ G, 3, .inl (kz_bo po))), (mh, .inl (gI G, 3, .inl (kz_pw pw)))] := hD
                            refine lv_aload_n hx hb dX4_put_156 rfl (lv_at hl 1 rfl) ?_
                            refine va_get (D := G.1) (ci := 4) (v := .ref mc) (C := RX4) (T := TX4) (N := 7) hx hb hts hinX4 hown hK.1 hP 0 rfl rfl 1 (by decide) (hts (.fieldLink RX4 7 "ForkStoreModel" "counts" "[I") (by decide +kernel)) (fun _ h9 => h9) rfl dX4_put_157 ?_
                            refine lv_iconst (v := 0) hx hb dX4_put_160 (by decide) ?_
                            refine lv_dup2_11 hx hb dX4_put_161 rfl rfl ?_
                            refine kz_iald hx hb hK.1 hP 1 0 rfl rfl (k := 0) (by decide) (by decide) dX4_put_162 ?_
                            refine kz_asi (y := nI (cs 0)) rfl ?_
                            refine lv_iconst (v := 1) hx hb dX4_put_163 (by decide) ?_
                            refine lv_iadd hx hb dX4_put_164 ?_
                            refine kz_asi (y := nI (cs 0 + 1)) (nI_1 _) ?_
                            refine kz_iast hx hb hK.1 hP hD hS 1 0 rfl rfl (k := 0) (by decide) (by decide) dX4_put_165 (fun H locs hP hD hS => ?_)
                            have hP : va_P G.1 vwCl [(mo, .inr (4, [.int 0, .ref mc, .ref mw, .ref mz, .ref mv, .ref mp, .ref mh])), (mc, .inl (gI G, 4, .inl (upd (kz_z cs) 0 (nI (cs 0 + 1))))), (mw, .inl (gJ G, 480, .inr (.inl (kf_up mW (kf_cb mW mZ (kf_cut ww zz) zz (cs 0)) (cs 0))))), (mz, .inl (gI G, 480, .inl (kz_z (kf_up mZ (kf_cb mW mZ (kf_cut ww zz) zz (cs 0)) (cs 0))))), (mv, .inl (gI G, 480, .inl (kf_up mV (kf_cb mW mZ (kf_cut ww zz) zz (cs 0)) (cs 0)))), (mp, .inl (gZ G, 3, .inl (kz_bo po))), (mh, .inl (gI G, 3, .inl (kz_pw pw)))] H := hP
                            have hD : va_D A [(mo, .inr (4, [.int 0, .ref mc, .ref mw, .ref mz, .ref mv, .ref mp, .ref mh])), (mc, .inl (gI G, 4, .inl (upd (kz_z cs) 0 (nI (cs 0 + 1))))), (mw, .inl (gJ G, 480, .inr (.inl (kf_up mW (kf_cb mW mZ (kf_cut ww zz) zz (cs 0)) (cs 0))))), (mz, .inl (gI G, 480, .inl (kz_z (kf_up mZ (kf_cb mW mZ (kf_cut ww zz) zz (cs 0)) (cs 0))))), (mv, .inl (gI G, 480, .inl (kf_up mV (kf_cb mW mZ (kf_cut ww zz) zz (cs 0)) (cs 0)))), (mp, .inl (gZ G, 3, .inl (kz_bo po))), (mh, .inl (gI G, 3, .inl (kz_pw pw)))] := hD
                            rw [show upd (kz_z cs) 0 (nI (cs 0 + 1)) = kz_z (kz_un cs 0 (cs 0 + 1)) from (kz_zu _ _ _).symm] at hP hD
                            have hP : va_P G.1 vwCl [(mo, .inr (4, [.int 0, .ref mc, .ref mw, .ref mz, .ref mv, .ref mp, .ref mh])), (mc, .inl (gI G, 4, .inl (kz_z (kz_un cs 0 (cs 0 + 1))))), (mw, .inl (gJ G, 480, .inr (.inl (kf_up mW (kf_cb mW mZ (kf_cut ww zz) zz (cs 0)) (cs 0))))), (mz, .inl (gI G, 480, .inl (kz_z (kf_up mZ (kf_cb mW mZ (kf_cut ww zz) zz (cs 0)) (cs 0))))), (mv, .inl (gI G, 480, .inl (kf_up mV (kf_cb mW mZ (kf_cut ww zz) zz (cs 0)) (cs 0)))), (mp, .inl (gZ G, 3, .inl (kz_bo po))), (mh, .inl (gI G, 3, .inl (kz_pw pw)))] H := hP
                            have hD : va_D A [(mo, .inr (4, [.int 0, .ref mc, .ref mw, .ref mz, .ref mv, .ref mp, .ref mh])), (mc, .inl (gI G, 4, .inl (kz_z (kz_un cs 0 (cs 0 + 1))))), (mw, .inl (gJ G, 480, .inr (.inl (kf_up mW (kf_cb mW mZ (kf_cut ww zz) zz (cs 0)) (cs 0))))), (mz, .inl (gI G, 480, .inl (kz_z (kf_up mZ (kf_cb mW mZ (kf_cut ww zz) zz (cs 0)) (cs 0))))), (mv, .inl (gI G, 480, .inl (kf_up mV (kf_cb mW mZ (kf_cut ww zz) zz (cs 0)) (cs 0)))), (mp, .inl (gZ G, 3, .inl (kz_bo po))), (mh, .inl (gI G, 3, .inl (kz_pw pw)))] := hD
                            refine lv_aload_n hx hb dX4_put_166 rfl (lv_at hl 1 rfl) ?_
                            refine va_get (D := G.1) (ci := 4) (v := .ref mw) (C := RX4) (T := TX4) (N := 7) hx hb hts hinX4 hown hK.1 hP 0 rfl rfl 2 (by decide) (hts (.fieldLink RX4 13 "ForkStoreModel" "words" "[J") (by decide +kernel)) (fun _ h9 => h9) rfl dX4_put_167 ?_
                            refine lv_iload hx hb dX4_put_170 (lv_at hl 6 rfl) ?_
                            refine lv_lload hx hb dX4_put_172 (lv_at hl 5 rfl) ?_
                            refine kz_last hx hb hK.1 hP hD hS 2 1 rfl rfl (k := (kf_cb mW mZ (kf_cut ww zz) zz (cs 0))) (by omega) (by decide) dX4_put_174 (fun H locs hP hD hS => ?_)
                            have hP : va_P G.1 vwCl [(mo, .inr (4, [.int 0, .ref mc, .ref mw, .ref mz, .ref mv, .ref mp, .ref mh])), (mc, .inl (gI G, 4, .inl (kz_z (kz_un cs 0 (cs 0 + 1))))), (mw, .inl (gJ G, 480, .inr (.inl (vp_updL (kf_up mW (kf_cb mW mZ (kf_cut ww zz) zz (cs 0)) (cs 0)) (kf_cb mW mZ (kf_cut ww zz) zz (cs 0)) (kf_cut ww zz))))), (mz, .inl (gI G, 480, .inl (kz_z (kf_up mZ (kf_cb mW mZ (kf_cut ww zz) zz (cs 0)) (cs 0))))), (mv, .inl (gI G, 480, .inl (kf_up mV (kf_cb mW mZ (kf_cut ww zz) zz (cs 0)) (cs 0)))), (mp, .inl (gZ G, 3, .inl (kz_bo po))), (mh, .inl (gI G, 3, .inl (kz_pw pw)))] H := hP
                            have hD : va_D A [(mo, .inr (4, [.int 0, .ref mc, .ref mw, .ref mz, .ref mv, .ref mp, .ref mh])), (mc, .inl (gI G, 4, .inl (kz_z (kz_un cs 0 (cs 0 + 1))))), (mw, .inl (gJ G, 480, .inr (.inl (vp_updL (kf_up mW (kf_cb mW mZ (kf_cut ww zz) zz (cs 0)) (cs 0)) (kf_cb mW mZ (kf_cut ww zz) zz (cs 0)) (kf_cut ww zz))))), (mz, .inl (gI G, 480, .inl (kz_z (kf_up mZ (kf_cb mW mZ (kf_cut ww zz) zz (cs 0)) (cs 0))))), (mv, .inl (gI G, 480, .inl (kf_up mV (kf_cb mW mZ (kf_cut ww zz) zz (cs 0)) (cs 0)))), (mp, .inl (gZ G, 3, .inl (kz_bo po))), (mh, .inl (gI G, 3, .inl (kz_pw pw)))] := hD
                            refine lv_aload_n hx hb dX4_put_175 rfl (lv_at hl 1 rfl) ?_
                            refine va_get (D := G.1) (ci := 4) (v := .ref mz) (C := RX4) (T := TX4) (N := 7) hx hb hts hinX4 hown hK.1 hP 0 rfl rfl 3 (by decide) (hts (.fieldLink RX4 17 "ForkStoreModel" "sizes" "[I") (by decide +kernel)) (fun _ h9 => h9) rfl dX4_put_176 ?_
                            refine lv_iload hx hb dX4_put_179 (lv_at hl 6 rfl) ?_
                            refine lv_iload_n hx hb dX4_put_181 rfl (lv_at hl 2 rfl) ?_
                            refine kz_iast hx hb hK.1 hP hD hS 3 0 rfl rfl (k := (kf_cb mW mZ (kf_cut ww zz) zz (cs 0))) (by omega) (by decide) dX4_put_182 (fun H locs hP hD hS => ?_)
                            have hP : va_P G.1 vwCl [(mo, .inr (4, [.int 0, .ref mc, .ref mw, .ref mz, .ref mv, .ref mp, .ref mh])), (mc, .inl (gI G, 4, .inl (kz_z (kz_un cs 0 (cs 0 + 1))))), (mw, .inl (gJ G, 480, .inr (.inl (vp_updL (kf_up mW (kf_cb mW mZ (kf_cut ww zz) zz (cs 0)) (cs 0)) (kf_cb mW mZ (kf_cut ww zz) zz (cs 0)) (kf_cut ww zz))))), (mz, .inl (gI G, 480, .inl (upd (kz_z (kf_up mZ (kf_cb mW mZ (kf_cut ww zz) zz (cs 0)) (cs 0))) (kf_cb mW mZ (kf_cut ww zz) zz (cs 0)) (nI zz)))), (mv, .inl (gI G, 480, .inl (kf_up mV (kf_cb mW mZ (kf_cut ww zz) zz (cs 0)) (cs 0)))), (mp, .inl (gZ G, 3, .inl (kz_bo po))), (mh, .inl (gI G, 3, .inl (kz_pw pw)))] H := hP
                            have hD : va_D A [(mo, .inr (4, [.int 0, .ref mc, .ref mw, .ref mz, .ref mv, .ref mp, .ref mh])), (mc, .inl (gI G, 4, .inl (kz_z (kz_un cs 0 (cs 0 + 1))))), (mw, .inl (gJ G, 480, .inr (.inl (vp_updL (kf_up mW (kf_cb mW mZ (kf_cut ww zz) zz (cs 0)) (cs 0)) (kf_cb mW mZ (kf_cut ww zz) zz (cs 0)) (kf_cut ww zz))))), (mz, .inl (gI G, 480, .inl (upd (kz_z (kf_up mZ (kf_cb mW mZ (kf_cut ww zz) zz (cs 0)) (cs 0))) (kf_cb mW mZ (kf_cut ww zz) zz (cs 0)) (nI zz)))), (mv, .inl (gI G, 480, .inl (kf_up mV (kf_cb mW mZ (kf_cut ww zz) zz (cs 0)) (cs 0)))), (mp, .inl (gZ G, 3, .inl (kz_bo po))), (mh, .inl (gI G, 3, .inl (kz_pw pw)))] := hD
                            rw [show upd (kz_z (kf_up mZ (kf_cb mW mZ (kf_cut ww zz) zz (cs 0)) (cs 0))) (kf_cb mW mZ (kf_cut ww zz) zz (cs 0)) (nI zz) = kz_z (kz_un (kf_up mZ (kf_cb mW mZ (kf_cut ww zz) zz (cs 0)) (cs 0)) (kf_cb mW mZ (kf_cut ww zz) zz (cs 0)) zz) from (kz_zu _ _ _).symm] at hP hD
                            have hP : va_P G.1 vwCl [(mo, .inr (4, [.int 0, .ref mc, .ref mw, .ref mz, .ref mv, .ref mp, .ref mh])), (mc, .inl (gI G, 4, .inl (kz_z (kz_un cs 0 (cs 0 + 1))))), (mw, .inl (gJ G, 480, .inr (.inl (vp_updL (kf_up mW (kf_cb mW mZ (kf_cut ww zz) zz (cs 0)) (cs 0)) (kf_cb mW mZ (kf_cut ww zz) zz (cs 0)) (kf_cut ww zz))))), (mz, .inl (gI G, 480, .inl (kz_z (kz_un (kf_up mZ (kf_cb mW mZ (kf_cut ww zz) zz (cs 0)) (cs 0)) (kf_cb mW mZ (kf_cut ww zz) zz (cs 0)) zz)))), (mv, .inl (gI G, 480, .inl (kf_up mV (kf_cb mW mZ (kf_cut ww zz) zz (cs 0)) (cs 0)))), (mp, .inl (gZ G, 3, .inl (kz_bo po))), (mh, .inl (gI G, 3, .inl (kz_pw pw)))] H := hP
                            have hD : va_D A [(mo, .inr (4, [.int 0, .ref mc, .ref mw, .ref mz, .ref mv, .ref mp, .ref mh])), (mc, .inl (gI G, 4, .inl (kz_z (kz_un cs 0 (cs 0 + 1))))), (mw, .inl (gJ G, 480, .inr (.inl (vp_updL (kf_up mW (kf_cb mW mZ (kf_cut ww zz) zz (cs 0)) (cs 0)) (kf_cb mW mZ (kf_cut ww zz) zz (cs 0)) (kf_cut ww zz))))), (mz, .inl (gI G, 480, .inl (kz_z (kz_un (kf_up mZ (kf_cb mW mZ (kf_cut ww zz) zz (cs 0)) (cs 0)) (kf_cb mW mZ (kf_cut ww zz) zz (cs 0)) zz)))), (mv, .inl (gI G, 480, .inl (kf_up mV (kf_cb mW mZ (kf_cut ww zz) zz (cs 0)) (cs 0)))), (mp, .inl (gZ G, 3, .inl (kz_bo po))), (mh, .inl (gI G, 3, .inl (kz_pw pw)))] := hD
                            refine lv_aload_n hx hb dX4_put_183 rfl (lv_at hl 1 rfl) ?_
                            refine va_get (D := G.1) (ci := 4) (v := .ref mv) (C := RX4) (T := TX4) (N := 7) hx hb hts hinX4 hown hK.1 hP 0 rfl rfl 4 (by decide) (hts (.fieldLink RX4 20 "ForkStoreModel" "values" "[I") (by decide +kernel)) (fun _ h9 => h9) rfl dX4_put_184 ?_
                            refine lv_iload hx hb dX4_put_187 (lv_at hl 6 rfl) ?_
                            refine lv_iload hx hb dX4_put_189 (lv_at hl 3 rfl) ?_
                            refine kz_iast hx hb hK.1 hP hD hS 4 0 rfl rfl (k := (kf_cb mW mZ (kf_cut ww zz) zz (cs 0))) (by omega) (by decide) dX4_put_191 (fun H locs hP hD hS => ?_)
                            have hP : va_P G.1 vwCl [(mo, .inr (4, [.int 0, .ref mc, .ref mw, .ref mz, .ref mv, .ref mp, .ref mh])), (mc, .inl (gI G, 4, .inl (kz_z (kz_un cs 0 (cs 0 + 1))))), (mw, .inl (gJ G, 480, .inr (.inl (vp_updL (kf_up mW (kf_cb mW mZ (kf_cut ww zz) zz (cs 0)) (cs 0)) (kf_cb mW mZ (kf_cut ww zz) zz (cs 0)) (kf_cut ww zz))))), (mz, .inl (gI G, 480, .inl (kz_z (kz_un (kf_up mZ (kf_cb mW mZ (kf_cut ww zz) zz (cs 0)) (cs 0)) (kf_cb mW mZ (kf_cut ww zz) zz (cs 0)) zz)))), (mv, .inl (gI G, 480, .inl (upd (kf_up mV (kf_cb mW mZ (kf_cut ww zz) zz (cs 0)) (cs 0)) (kf_cb mW mZ (kf_cut ww zz) zz (cs 0)) vv))), (mp, .inl (gZ G, 3, .inl (kz_bo po))), (mh, .inl (gI G, 3, .inl (kz_pw pw)))] H := hP
                            have hD : va_D A [(mo, .inr (4, [.int 0, .ref mc, .ref mw, .ref mz, .ref mv, .ref mp, .ref mh])), (mc, .inl (gI G, 4, .inl (kz_z (kz_un cs 0 (cs 0 + 1))))), (mw, .inl (gJ G, 480, .inr (.inl (vp_updL (kf_up mW (kf_cb mW mZ (kf_cut ww zz) zz (cs 0)) (cs 0)) (kf_cb mW mZ (kf_cut ww zz) zz (cs 0)) (kf_cut ww zz))))), (mz, .inl (gI G, 480, .inl (kz_z (kz_un (kf_up mZ (kf_cb mW mZ (kf_cut ww zz) zz (cs 0)) (cs 0)) (kf_cb mW mZ (kf_cut ww zz) zz (cs 0)) zz)))), (mv, .inl (gI G, 480, .inl (upd (kf_up mV (kf_cb mW mZ (kf_cut ww zz) zz (cs 0)) (cs 0)) (kf_cb mW mZ (kf_cut ww zz) zz (cs 0)) vv))), (mp, .inl (gZ G, 3, .inl (kz_bo po))), (mh, .inl (gI G, 3, .inl (kz_pw pw)))] := hD
                            refine lv_iload hx hb dX4_put_192 (lv_at hl 7 rfl) ?_
                            refine lv_if_ne (tgt := 201) hx hb dX4_put_194 (by decide) (fun c_13 => ?_) (fun c_13 => ?_)
                            · exact absurd c_13 (by decide)
                            · refine lv_iconst (v := 1) hx hb dX4_put_197 (by decide) ?_
                              refine lv_goto (tgt := 202) hx hb dX4_put_198 (by decide) ?_
                              exact W.zret (v := 1) hx hb hr rfl (fun t ht hW => ⟨⟨_, ([(mo, .inr (4, [.int 0, .ref mc, .ref mw, .ref mz, .ref mv, .ref mp, .ref mh])), (mc, .inl (gI G, 4, .inl (kz_z (kz_un cs 0 (cs 0 + 1))))), (mw, .inl (gJ G, 480, .inr (.inl (vp_updL (kf_up mW (kf_cb mW mZ (kf_cut ww zz) zz (cs 0)) (cs 0)) (kf_cb mW mZ (kf_cut ww zz) zz (cs 0)) (kf_cut ww zz))))), (mz, .inl (gI G, 480, .inl (kz_z (kz_un (kf_up mZ (kf_cb mW mZ (kf_cut ww zz) zz (cs 0)) (cs 0)) (kf_cb mW mZ (kf_cut ww zz) zz (cs 0)) zz)))), (mv, .inl (gI G, 480, .inl (upd (kf_up mV (kf_cb mW mZ (kf_cut ww zz) zz (cs 0)) (cs 0)) (kf_cb mW mZ (kf_cut ww zz) zz (cs 0)) vv))), (mp, .inl (gZ G, 3, .inl (kz_bo po))), (mh, .inl (gI G, 3, .inl (kz_pw pw)))] : va_W), rfl, (Or.inr (Or.inr (Or.inr ⟨zz, hzz, rfl, kc_6, kc_9, rfl, rfl⟩))), by rw [← ht] at hP; exact hP⟩, hS.F ht⟩) hS.2.2 dX4_put_202
                          · have kc_12 : (kf_cb mW mZ (kf_cut ww zz) zz (cs 0)) < cs 0 - ii := Nat.lt_of_not_le (fun h => c_12 (nI_le h (by omega)))
                            refine lv_aload_n hx hb dX4_put_140 rfl (lv_at hl 1 rfl) ?_
                            refine lv_iload hx hb dX4_put_141 (lv_at hl 0 rfl) ?_
                            refine lv_iconst (v := 1) hx hb dX4_put_143 (by decide) ?_
                            refine lv_isub hx hb dX4_put_144 ?_
                            refine kz_asi (y := nI (cs 0 - ii - 1)) (pk_sub (a := cs 0 - ii) (b := 1) (by omega)) ?_
                            refine lv_iload hx hb dX4_put_145 (lv_at hl 0 rfl) ?_
                            have hPc := hP.sub (ws' := [(mo, .inr (4, [.int 0, .ref mc, .ref mw, .ref mz, .ref mv, .ref mp, .ref mh])), (mc, .inl (gI G, 4, .inl (kz_z cs))), (mw, .inl (gJ G, 480, .inr (.inl (kf_up mW (cs 0 - ii) (cs 0))))), (mz, .inl (gI G, 480, .inl (kz_z (kf_up mZ (cs 0 - ii) (cs 0))))), (mv, .inl (gI G, 480, .inl (kf_up mV (cs 0 - ii) (cs 0)))), (mp, .inl (gZ G, 3, .inl (kz_bo po))), (mh, .inl (gI G, 3, .inl (kz_pw pw)))]) [0, 1, 2, 3, 4, 5, 6] rfl
                            have hDc := hD.sub (ws' := [(mo, .inr (4, [.int 0, .ref mc, .ref mw, .ref mz, .ref mv, .ref mp, .ref mh])), (mc, .inl (gI G, 4, .inl (kz_z cs))), (mw, .inl (gJ G, 480, .inr (.inl (kf_up mW (cs 0 - ii) (cs 0))))), (mz, .inl (gI G, 480, .inl (kz_z (kf_up mZ (cs 0 - ii) (cs 0))))), (mv, .inl (gI G, 480, .inl (kf_up mV (cs 0 - ii) (cs 0)))), (mp, .inl (gZ G, 3, .inl (kz_bo po))), (mh, .inl (gI G, 3, .inl (kz_pw pw)))]) [0, 1, 2, 3, 4, 5, 6] (by decide) rfl
                            have hFc := va_free (wc := [(mo, .inr (4, [.int 0, .ref mc, .ref mw, .ref mz, .ref mv, .ref mp, .ref mh])), (mc, .inl (gI G, 4, .inl (kz_z cs))), (mw, .inl (gJ G, 480, .inr (.inl (kf_up mW (cs 0 - ii) (cs 0))))), (mz, .inl (gI G, 480, .inl (kz_z (kf_up mZ (cs 0 - ii) (cs 0))))), (mv, .inl (gI G, 480, .inl (kf_up mV (cs 0 - ii) (cs 0)))), (mp, .inl (gZ G, 3, .inl (kz_bo po))), (mh, .inl (gI G, 3, .inl (kz_pw pw)))]) hD hS hA [0, 1, 2, 3, 4, 5, 6] rfl
                            refine va_callv (va_runV (As := [.int (nI (cs 0 - ii - 1)), .int (nI (cs 0 - ii))]) (rest := []) ⟨hx, hb, hml, hown, hts⟩ (c_X4_copy l G mo mc mw mz mv mp mh 0 cs (kf_up mW (cs 0 - ii) (cs 0)) (kf_up mZ (cs 0 - ii) (cs 0)) (kf_up mV (cs 0 - ii) (cs 0)) po pw (cs 0 - ii - 1) (cs 0 - ii) _ (by omega) (by omega)) (cwV 2 hts gX4_put_X4_copy rfl rfl rfl (by decide +kernel) ⟨Nat.le_of_ble_eq_true rfl, Nat.le_of_ble_eq_true rfl⟩) (kz_pvm hK hPc hDc (va_recv hK.1 hPc (ci := 4) (q0 := 0) rfl rfl)) rfl rfl hl.1 rfl (lv_room (Nat.le_of_ble_eq_true rfl)) dX4_put_147 ⟨Nat.zero_le _, Nat.zero_le _⟩) hS (fun q _ h => hFc q h) hFc (fun u t H locs ht hvm hw hB hqz9 hqk9 hS => ?_)
                            have hw : u = [(mo, .inr (4, [.int 0, .ref mc, .ref mw, .ref mz, .ref mv, .ref mp, .ref mh])), (mc, .inl (gI G, 4, .inl (kz_z cs))), (mw, .inl (gJ G, 480, .inr (.inl (vp_updL (kf_up mW (cs 0 - ii) (cs 0)) (cs 0 - ii) ((kf_up mW (cs 0 - ii) (cs 0)) (cs 0 - ii - 1)))))), (mz, .inl (gI G, 480, .inl (kz_z (kz_un (kf_up mZ (cs 0 - ii) (cs 0)) (cs 0 - ii) ((kf_up mZ (cs 0 - ii) (cs 0)) (cs 0 - ii - 1)))))), (mv, .inl (gI G, 480, .inl (upd (kf_up mV (cs 0 - ii) (cs 0)) (cs 0 - ii) ((kf_up mV (cs 0 - ii) (cs 0)) (cs 0 - ii - 1))))), (mp, .inl (gZ G, 3, .inl (kz_bo po))), (mh, .inl (gI G, 3, .inl (kz_pw pw)))] := hw
                            have hB : va_P G.1 vwCl u H := by rw [← ht]; exact hB
                            rw [hw] at hB
                            obtain ⟨hP, hD⟩ := kz_join (wc := [(mo, .inr (4, [.int 0, .ref mc, .ref mw, .ref mz, .ref mv, .ref mp, .ref mh])), (mc, .inl (gI G, 4, .inl (kz_z cs))), (mw, .inl (gJ G, 480, .inr (.inl (kf_up mW (cs 0 - ii) (cs 0))))), (mz, .inl (gI G, 480, .inl (kz_z (kf_up mZ (cs 0 - ii) (cs 0))))), (mv, .inl (gI G, 480, .inl (kf_up mV (cs 0 - ii) (cs 0)))), (mp, .inl (gZ G, 3, .inl (kz_bo po))), (mh, .inl (gI G, 3, .inl (kz_pw pw)))]) (w1 := [(mo, .inr (4, [.int 0, .ref mc, .ref mw, .ref mz, .ref mv, .ref mp, .ref mh])), (mc, .inl (gI G, 4, .inl (kz_z cs))), (mw, .inl (gJ G, 480, .inr (.inl (vp_updL (kf_up mW (cs 0 - ii) (cs 0)) (cs 0 - ii) ((kf_up mW (cs 0 - ii) (cs 0)) (cs 0 - ii - 1)))))), (mz, .inl (gI G, 480, .inl (kz_z (kz_un (kf_up mZ (cs 0 - ii) (cs 0)) (cs 0 - ii) ((kf_up mZ (cs 0 - ii) (cs 0)) (cs 0 - ii - 1)))))), (mv, .inl (gI G, 480, .inl (upd (kf_up mV (cs 0 - ii) (cs 0)) (cs 0 - ii) ((kf_up mV (cs 0 - ii) (cs 0)) (cs 0 - ii - 1))))), (mp, .inl (gZ G, 3, .inl (kz_bo po))), (mh, .inl (gI G, 3, .inl (kz_pw pw)))]) hP hD [0, 1, 2, 3, 4, 5, 6] rfl (by decide) rfl hqk9 hB
                            have hP : va_P G.1 vwCl [(mo, .inr (4, [.int 0, .ref mc, .ref mw, .ref mz, .ref mv, .ref mp, .ref mh])), (mc, .inl (gI G, 4, .inl (kz_z cs))), (mw, .inl (gJ G, 480, .inr (.inl (vp_updL (kf_up mW (cs 0 - ii) (cs 0)) (cs 0 - ii) ((kf_up mW (cs 0 - ii) (cs 0)) (cs 0 - ii - 1)))))), (mz, .inl (gI G, 480, .inl (kz_z (kz_un (kf_up mZ (cs 0 - ii) (cs 0)) (cs 0 - ii) ((kf_up mZ (cs 0 - ii) (cs 0)) (cs 0 - ii - 1)))))), (mv, .inl (gI G, 480, .inl (upd (kf_up mV (cs 0 - ii) (cs 0)) (cs 0 - ii) ((kf_up mV (cs 0 - ii) (cs 0)) (cs 0 - ii - 1))))), (mp, .inl (gZ G, 3, .inl (kz_bo po))), (mh, .inl (gI G, 3, .inl (kz_pw pw)))] H := hP
                            have hD : va_D A [(mo, .inr (4, [.int 0, .ref mc, .ref mw, .ref mz, .ref mv, .ref mp, .ref mh])), (mc, .inl (gI G, 4, .inl (kz_z cs))), (mw, .inl (gJ G, 480, .inr (.inl (vp_updL (kf_up mW (cs 0 - ii) (cs 0)) (cs 0 - ii) ((kf_up mW (cs 0 - ii) (cs 0)) (cs 0 - ii - 1)))))), (mz, .inl (gI G, 480, .inl (kz_z (kz_un (kf_up mZ (cs 0 - ii) (cs 0)) (cs 0 - ii) ((kf_up mZ (cs 0 - ii) (cs 0)) (cs 0 - ii - 1)))))), (mv, .inl (gI G, 480, .inl (upd (kf_up mV (cs 0 - ii) (cs 0)) (cs 0 - ii) ((kf_up mV (cs 0 - ii) (cs 0)) (cs 0 - ii - 1))))), (mp, .inl (gZ G, 3, .inl (kz_bo po))), (mh, .inl (gI G, 3, .inl (kz_pw pw)))] := hD
                            refine lv_iinc (v := nI (cs 0 - (ii + 1))) (lv' := [(10, .int (nI (cs 0 - (ii + 1)))), (0, .ref mo), (3, .int (nI zz)), (4, .int vv), (5, .int 1), (6, .long (kf_cut ww zz)), (8, .int (nI (kf_cb mW mZ (kf_cut ww zz) zz (cs 0)))), (9, .int 0)]) hx hb dX4_put_150 hl (k := 0) rfl (by rw [show cs 0 - ii = (cs 0 - (ii + 1)) + 1 from by omega]; exact pk_m1 _) (by decide) rfl (fun ls hl => ?_)
                            refine lv_goto (tgt := 133) hx hb dX4_put_153 (by decide) ?_
                            have e1 := kf_up_L mW (i := cs 0 - ii) (n := cs 0) (by omega) (by omega)
                            have e2 := kf_up_N mZ (i := cs 0 - ii) (n := cs 0) (by omega) (by omega)
                            have e3 := kf_up_I mV (i := cs 0 - ii) (n := cs 0) (by omega) (by omega)
                            exact ih H locs ls (by omega) (lv_sub hl [0, 1, 2, 3, 4, 5, 6, 7] rfl) (by show va_P G.1 vwCl [(mo, .inr (4, [.int 0, .ref mc, .ref mw, .ref mz, .ref mv, .ref mp, .ref mh])), (mc, .inl (gI G, 4, .inl (kz_z cs))), (mw, .inl (gJ G, 480, .inr (.inl (kf_up mW (cs 0 - ii - 1) (cs 0))))), (mz, .inl (gI G, 480, .inl (kz_z (kf_up mZ (cs 0 - ii - 1) (cs 0))))), (mv, .inl (gI G, 480, .inl (kf_up mV (cs 0 - ii - 1) (cs 0)))), (mp, .inl (gZ G, 3, .inl (kz_bo po))), (mh, .inl (gI G, 3, .inl (kz_pw pw)))] H; rw [e1, e2, e3]; exact hP) (by show va_D A [(mo, .inr (4, [.int 0, .ref mc, .ref mw, .ref mz, .ref mv, .ref mp, .ref mh])), (mc, .inl (gI G, 4, .inl (kz_z cs))), (mw, .inl (gJ G, 480, .inr (.inl (kf_up mW (cs 0 - ii - 1) (cs 0))))), (mz, .inl (gI G, 480, .inl (kz_z (kf_up mZ (cs 0 - ii - 1) (cs 0))))), (mv, .inl (gI G, 480, .inl (kf_up mV (cs 0 - ii - 1) (cs 0)))), (mp, .inl (gZ G, 3, .inl (kz_bo po))), (mh, .inl (gI G, 3, .inl (kz_pw pw)))]; rw [e1, e2, e3]; exact hD) hS
                      · exact absurd c_10 (by decide)
                    · have kc_9 : cs 0 = 120 := (nI_eq (b := 120) (by omega) (by decide)).mp c_9
                      refine lv_iconst (v := 2) hx hb dX4_put_103 (by decide) ?_
                      refine lv_goto (tgt := 108) hx hb dX4_put_104 (by decide) ?_
                      refine va_put (D := G.1) (ci := 4) (v := .int 2) (ty := .int) (C := RX4) (T := TX4) (N := 7) hx hb hts hinX4 tyX4 tyX4_ok nmX4 hown hK.1 hP hD hS 0 rfl rfl 0 (by decide) (hts (.fieldLink RX4 30 "ForkStoreModel" "thrown" "I") (by decide +kernel)) (fun _ h9 => h9) rfl (by decide +kernel) rfl rfl (Nat.le_of_ble_eq_true rfl) dX4_put_108 (fun H locs hP hD hS => ?_)
                      have hP : va_P G.1 vwCl [(mo, .inr (4, [.int 2, .ref mc, .ref mw, .ref mz, .ref mv, .ref mp, .ref mh])), (mc, .inl (gI G, 4, .inl (kz_z cs))), (mw, .inl (gJ G, 480, .inr (.inl mW))), (mz, .inl (gI G, 480, .inl (kz_z mZ))), (mv, .inl (gI G, 480, .inl mV)), (mp, .inl (gZ G, 3, .inl (kz_bo po))), (mh, .inl (gI G, 3, .inl (kz_pw pw)))] H := hP
                      have hD : va_D A [(mo, .inr (4, [.int 2, .ref mc, .ref mw, .ref mz, .ref mv, .ref mp, .ref mh])), (mc, .inl (gI G, 4, .inl (kz_z cs))), (mw, .inl (gJ G, 480, .inr (.inl mW))), (mz, .inl (gI G, 480, .inl (kz_z mZ))), (mv, .inl (gI G, 480, .inl mV)), (mp, .inl (gZ G, 3, .inl (kz_bo po))), (mh, .inl (gI G, 3, .inl (kz_pw pw)))] := hD
                      refine lv_aload_n hx hb dX4_put_111 rfl (lv_at hl 4 rfl) ?_
                      refine va_get (D := G.1) (ci := 4) (v := .int 2) (C := RX4) (T := TX4) (N := 7) hx hb hts hinX4 hown hK.1 hP 0 rfl rfl 0 (by decide) (hts (.fieldLink RX4 30 "ForkStoreModel" "thrown" "I") (by decide +kernel)) (fun _ h9 => h9) rfl dX4_put_112 ?_
                      refine lv_if_le (tgt := 120) hx hb dX4_put_115 (by decide) (fun c_14 => ?_) (fun c_14 => ?_)
                      · exact absurd c_14 (by decide)
                      · refine lv_iconst (v := 0) hx hb dX4_put_118 (by decide) ?_
                        exact W.zret (v := 0) hx hb hr rfl (fun t ht hW => ⟨⟨_, ([(mo, .inr (4, [.int 2, .ref mc, .ref mw, .ref mz, .ref mv, .ref mp, .ref mh])), (mc, .inl (gI G, 4, .inl (kz_z cs))), (mw, .inl (gJ G, 480, .inr (.inl mW))), (mz, .inl (gI G, 480, .inl (kz_z mZ))), (mv, .inl (gI G, 480, .inl mV)), (mp, .inl (gZ G, 3, .inl (kz_bo po))), (mh, .inl (gI G, 3, .inl (kz_pw pw)))] : va_W), rfl, (Or.inr (Or.inr (Or.inl ⟨zz, hzz, rfl, kc_6, kc_9, rfl, rfl⟩))), by rw [← ht] at hP; exact hP⟩, hS.F ht⟩) hS.2.2 dX4_put_119
                · exact absurd c_7 (by decide)
              · have kc_6 := kf_if1 c_6
                have hlt := kc_6.1
                refine lv_iconst (v := 1) hx hb dX4_put_70 (by decide) ?_
                refine lv_goto (tgt := 75) hx hb dX4_put_71 (by decide) ?_
                refine lv_istore (lv' := [(9, .int 1), (8, .int (nI (kf_cb mW mZ (kf_cut ww zz) zz (cs 0)))), (6, .long (kf_cut ww zz)), (5, .int 1), (0, .ref mo), (1, .long ww), (3, .int (nI zz)), (4, .int vv)]) hx hb dX4_put_75 hl (by decide) rfl (fun ls hl => ?_)
                refine lv_aload_n hx hb dX4_put_77 rfl (lv_at hl 4 rfl) ?_
                refine lv_iload hx hb dX4_put_78 (lv_at hl 3 rfl) ?_
                refine lv_if_ne (tgt := 87) hx hb dX4_put_80 (by decide) (fun c_15 => ?_) (fun c_15 => ?_)
                · refine lv_iload hx hb dX4_put_87 (lv_at hl 0 rfl) ?_
                  refine lv_if_ne (tgt := 107) hx hb dX4_put_89 (by decide) (fun c_16 => ?_) (fun c_16 => ?_)
                  · refine lv_iconst (v := 0) hx hb dX4_put_107 (by decide) ?_
                    refine va_put (D := G.1) (ci := 4) (v := .int 0) (ty := .int) (C := RX4) (T := TX4) (N := 7) hx hb hts hinX4 tyX4 tyX4_ok nmX4 hown hK.1 hP hD hS 0 rfl rfl 0 (by decide) (hts (.fieldLink RX4 30 "ForkStoreModel" "thrown" "I") (by decide +kernel)) (fun _ h9 => h9) rfl (by decide +kernel) rfl rfl (Nat.le_of_ble_eq_true rfl) dX4_put_108 (fun H locs hP hD hS => ?_)
                    have hP : va_P G.1 vwCl [(mo, .inr (4, [.int 0, .ref mc, .ref mw, .ref mz, .ref mv, .ref mp, .ref mh])), (mc, .inl (gI G, 4, .inl (kz_z cs))), (mw, .inl (gJ G, 480, .inr (.inl mW))), (mz, .inl (gI G, 480, .inl (kz_z mZ))), (mv, .inl (gI G, 480, .inl mV)), (mp, .inl (gZ G, 3, .inl (kz_bo po))), (mh, .inl (gI G, 3, .inl (kz_pw pw)))] H := hP
                    have hD : va_D A [(mo, .inr (4, [.int 0, .ref mc, .ref mw, .ref mz, .ref mv, .ref mp, .ref mh])), (mc, .inl (gI G, 4, .inl (kz_z cs))), (mw, .inl (gJ G, 480, .inr (.inl mW))), (mz, .inl (gI G, 480, .inl (kz_z mZ))), (mv, .inl (gI G, 480, .inl mV)), (mp, .inl (gZ G, 3, .inl (kz_bo po))), (mh, .inl (gI G, 3, .inl (kz_pw pw)))] := hD
                    refine lv_aload_n hx hb dX4_put_111 rfl (lv_at hl 4 rfl) ?_
                    refine va_get (D := G.1) (ci := 4) (v := .int 0) (C := RX4) (T := TX4) (N := 7) hx hb hts hinX4 hown hK.1 hP 0 rfl rfl 0 (by decide) (hts (.fieldLink RX4 30 "ForkStoreModel" "thrown" "I") (by decide +kernel)) (fun _ h9 => h9) rfl dX4_put_112 ?_
                    refine lv_if_le (tgt := 120) hx hb dX4_put_115 (by decide) (fun c_17 => ?_) (fun c_17 => ?_)
                    · refine lv_iload hx hb dX4_put_120 (lv_at hl 0 rfl) ?_
                      refine lv_if_ne (tgt := 183) hx hb dX4_put_122 (by decide) (fun c_18 => ?_) (fun c_18 => ?_)
                      · refine lv_aload_n hx hb dX4_put_183 rfl (lv_at hl 4 rfl) ?_
                        refine va_get (D := G.1) (ci := 4) (v := .ref mv) (C := RX4) (T := TX4) (N := 7) hx hb hts hinX4 hown hK.1 hP 0 rfl rfl 4 (by decide) (hts (.fieldLink RX4 20 "ForkStoreModel" "values" "[I") (by decide +kernel)) (fun _ h9 => h9) rfl dX4_put_184 ?_
                        refine lv_iload hx hb dX4_put_187 (lv_at hl 1 rfl) ?_
                        refine lv_iload hx hb dX4_put_189 (lv_at hl 7 rfl) ?_
                        refine kz_iast hx hb hK.1 hP hD hS 4 0 rfl rfl (k := (kf_cb mW mZ (kf_cut ww zz) zz (cs 0))) (by omega) (by decide) dX4_put_191 (fun H locs hP hD hS => ?_)
                        have hP : va_P G.1 vwCl [(mo, .inr (4, [.int 0, .ref mc, .ref mw, .ref mz, .ref mv, .ref mp, .ref mh])), (mc, .inl (gI G, 4, .inl (kz_z cs))), (mw, .inl (gJ G, 480, .inr (.inl mW))), (mz, .inl (gI G, 480, .inl (kz_z mZ))), (mv, .inl (gI G, 480, .inl (upd mV (kf_cb mW mZ (kf_cut ww zz) zz (cs 0)) vv))), (mp, .inl (gZ G, 3, .inl (kz_bo po))), (mh, .inl (gI G, 3, .inl (kz_pw pw)))] H := hP
                        have hD : va_D A [(mo, .inr (4, [.int 0, .ref mc, .ref mw, .ref mz, .ref mv, .ref mp, .ref mh])), (mc, .inl (gI G, 4, .inl (kz_z cs))), (mw, .inl (gJ G, 480, .inr (.inl mW))), (mz, .inl (gI G, 480, .inl (kz_z mZ))), (mv, .inl (gI G, 480, .inl (upd mV (kf_cb mW mZ (kf_cut ww zz) zz (cs 0)) vv))), (mp, .inl (gZ G, 3, .inl (kz_bo po))), (mh, .inl (gI G, 3, .inl (kz_pw pw)))] := hD
                        refine lv_iload hx hb dX4_put_192 (lv_at hl 0 rfl) ?_
                        refine lv_if_ne (tgt := 201) hx hb dX4_put_194 (by decide) (fun c_19 => ?_) (fun c_19 => ?_)
                        · refine lv_iconst (v := 0) hx hb dX4_put_201 (by decide) ?_
                          exact W.zret (v := 0) hx hb hr rfl (fun t ht hW => ⟨⟨_, ([(mo, .inr (4, [.int 0, .ref mc, .ref mw, .ref mz, .ref mv, .ref mp, .ref mh])), (mc, .inl (gI G, 4, .inl (kz_z cs))), (mw, .inl (gJ G, 480, .inr (.inl mW))), (mz, .inl (gI G, 480, .inl (kz_z mZ))), (mv, .inl (gI G, 480, .inl (upd mV (kf_cb mW mZ (kf_cut ww zz) zz (cs 0)) vv))), (mp, .inl (gZ G, 3, .inl (kz_bo po))), (mh, .inl (gI G, 3, .inl (kz_pw pw)))] : va_W), rfl, (Or.inr (Or.inl ⟨zz, hzz, rfl, kc_6, rfl, rfl⟩)), by rw [← ht] at hP; exact hP⟩, hS.F ht⟩) hS.2.2 dX4_put_202
                        · exact absurd c_19 (by decide)
                      · exact absurd c_18 (by decide)
                    · exact absurd c_17 (by decide)
                  · exact absurd c_16 (by decide)
                · exact absurd c_15 (by decide)
  · have hno := hno
    refine lv_iload_n hx hb dX4_put_0 rfl (lv_at hl 2 rfl) ?_
    refine lv_if_lt (tgt := 14) hx hb dX4_put_1 (by decide) (fun c_20 => ?_) (fun c_20 => ?_)
    · refine lv_iconst (v := 0) hx hb dX4_put_14 (by decide) ?_
      refine lv_istore (lv' := [(5, .int 0), (0, .ref mo), (1, .long ww), (3, .int nv), (4, .int vv)]) hx hb dX4_put_15 hl (by decide) rfl (fun ls hl => ?_)
      refine lv_iload hx hb dX4_put_17 (lv_at hl 0 rfl) ?_
      refine lv_if_eq (tgt := 30) hx hb dX4_put_19 (by decide) (fun c_21 => ?_) (fun c_21 => ?_)
      · refine lv_lconst (v := 0) hx hb dX4_put_30 (by decide) ?_
        refine lv_lstore (lv' := [(6, .long 0), (5, .int 0), (0, .ref mo), (1, .long ww), (3, .int nv), (4, .int vv)]) hx hb dX4_put_31 hl (by decide) rfl (fun ls hl => ?_)
        refine lv_iload hx hb dX4_put_33 (lv_at hl 1 rfl) ?_
        refine lv_if_eq (tgt := 49) hx hb dX4_put_35 (by decide) (fun c_22 => ?_) (fun c_22 => ?_)
        · refine lv_iconst (v := 0) hx hb dX4_put_49 (by decide) ?_
          refine lv_istore (lv' := [(8, .int 0), (6, .long 0), (5, .int 0), (0, .ref mo), (1, .long ww), (3, .int nv), (4, .int vv)]) hx hb dX4_put_50 hl (by decide) rfl (fun ls hl => ?_)
          refine lv_iload hx hb dX4_put_52 (lv_at hl 2 rfl) ?_
          refine lv_if_eq (tgt := 74) hx hb dX4_put_54 (by decide) (fun c_23 => ?_) (fun c_23 => ?_)
          · refine lv_iconst (v := 0) hx hb dX4_put_74 (by decide) ?_
            refine lv_istore (lv' := [(9, .int 0), (8, .int 0), (6, .long 0), (5, .int 0), (0, .ref mo), (1, .long ww), (3, .int nv), (4, .int vv)]) hx hb dX4_put_75 hl (by decide) rfl (fun ls hl => ?_)
            refine lv_aload_n hx hb dX4_put_77 rfl (lv_at hl 4 rfl) ?_
            refine lv_iload hx hb dX4_put_78 (lv_at hl 3 rfl) ?_
            refine lv_if_ne (tgt := 87) hx hb dX4_put_80 (by decide) (fun c_24 => ?_) (fun c_24 => ?_)
            · exact absurd c_24 (by decide)
            · refine lv_iconst (v := 1) hx hb dX4_put_83 (by decide) ?_
              refine lv_goto (tgt := 108) hx hb dX4_put_84 (by decide) ?_
              refine va_put (D := G.1) (ci := 4) (v := .int 1) (ty := .int) (C := RX4) (T := TX4) (N := 7) hx hb hts hinX4 tyX4 tyX4_ok nmX4 hown hK.1 hP hD hS 0 rfl rfl 0 (by decide) (hts (.fieldLink RX4 30 "ForkStoreModel" "thrown" "I") (by decide +kernel)) (fun _ h9 => h9) rfl (by decide +kernel) rfl rfl (Nat.le_of_ble_eq_true rfl) dX4_put_108 (fun H locs hP hD hS => ?_)
              have hP : va_P G.1 vwCl [(mo, .inr (4, [.int 1, .ref mc, .ref mw, .ref mz, .ref mv, .ref mp, .ref mh])), (mc, .inl (gI G, 4, .inl (kz_z cs))), (mw, .inl (gJ G, 480, .inr (.inl mW))), (mz, .inl (gI G, 480, .inl (kz_z mZ))), (mv, .inl (gI G, 480, .inl mV)), (mp, .inl (gZ G, 3, .inl (kz_bo po))), (mh, .inl (gI G, 3, .inl (kz_pw pw)))] H := hP
              have hD : va_D A [(mo, .inr (4, [.int 1, .ref mc, .ref mw, .ref mz, .ref mv, .ref mp, .ref mh])), (mc, .inl (gI G, 4, .inl (kz_z cs))), (mw, .inl (gJ G, 480, .inr (.inl mW))), (mz, .inl (gI G, 480, .inl (kz_z mZ))), (mv, .inl (gI G, 480, .inl mV)), (mp, .inl (gZ G, 3, .inl (kz_bo po))), (mh, .inl (gI G, 3, .inl (kz_pw pw)))] := hD
              refine lv_aload_n hx hb dX4_put_111 rfl (lv_at hl 4 rfl) ?_
              refine va_get (D := G.1) (ci := 4) (v := .int 1) (C := RX4) (T := TX4) (N := 7) hx hb hts hinX4 hown hK.1 hP 0 rfl rfl 0 (by decide) (hts (.fieldLink RX4 30 "ForkStoreModel" "thrown" "I") (by decide +kernel)) (fun _ h9 => h9) rfl dX4_put_112 ?_
              refine lv_if_le (tgt := 120) hx hb dX4_put_115 (by decide) (fun c_25 => ?_) (fun c_25 => ?_)
              · exact absurd c_25 (by decide)
              · refine lv_iconst (v := 0) hx hb dX4_put_118 (by decide) ?_
                exact W.zret (v := 0) hx hb hr rfl (fun t ht hW => ⟨⟨_, ([(mo, .inr (4, [.int 1, .ref mc, .ref mw, .ref mz, .ref mv, .ref mp, .ref mh])), (mc, .inl (gI G, 4, .inl (kz_z cs))), (mw, .inl (gJ G, 480, .inr (.inl mW))), (mz, .inl (gI G, 480, .inl (kz_z mZ))), (mv, .inl (gI G, 480, .inl mV)), (mp, .inl (gZ G, 3, .inl (kz_bo po))), (mh, .inl (gI G, 3, .inl (kz_pw pw)))] : va_W), rfl, (Or.inl ⟨hno, rfl, rfl⟩), by rw [← ht] at hP; exact hP⟩, hS.F ht⟩) hS.2.2 dX4_put_119
          · exact absurd c_23 (by decide)
        · exact absurd c_22 (by decide)
      · exact absurd c_21 (by decide)
    · refine lv_iload_n hx hb dX4_put_4 rfl (lv_at hl 2 rfl) ?_
      refine lv_bipush (v := 8) hx hb dX4_put_5 (by decide) ?_
      refine lv_icmp_gt (tgt := 14) hx hb dX4_put_7 (by decide) (fun c_26 => ?_) (fun c_26 => ?_)
      · refine lv_iconst (v := 0) hx hb dX4_put_14 (by decide) ?_
        refine lv_istore (lv' := [(5, .int 0), (0, .ref mo), (1, .long ww), (3, .int nv), (4, .int vv)]) hx hb dX4_put_15 hl (by decide) rfl (fun ls hl => ?_)
        refine lv_iload hx hb dX4_put_17 (lv_at hl 0 rfl) ?_
        refine lv_if_eq (tgt := 30) hx hb dX4_put_19 (by decide) (fun c_27 => ?_) (fun c_27 => ?_)
        · refine lv_lconst (v := 0) hx hb dX4_put_30 (by decide) ?_
          refine lv_lstore (lv' := [(6, .long 0), (5, .int 0), (0, .ref mo), (1, .long ww), (3, .int nv), (4, .int vv)]) hx hb dX4_put_31 hl (by decide) rfl (fun ls hl => ?_)
          refine lv_iload hx hb dX4_put_33 (lv_at hl 1 rfl) ?_
          refine lv_if_eq (tgt := 49) hx hb dX4_put_35 (by decide) (fun c_28 => ?_) (fun c_28 => ?_)
          · refine lv_iconst (v := 0) hx hb dX4_put_49 (by decide) ?_
            refine lv_istore (lv' := [(8, .int 0), (6, .long 0), (5, .int 0), (0, .ref mo), (1, .long ww), (3, .int nv), (4, .int vv)]) hx hb dX4_put_50 hl (by decide) rfl (fun ls hl => ?_)
            refine lv_iload hx hb dX4_put_52 (lv_at hl 2 rfl) ?_
            refine lv_if_eq (tgt := 74) hx hb dX4_put_54 (by decide) (fun c_29 => ?_) (fun c_29 => ?_)
            · refine lv_iconst (v := 0) hx hb dX4_put_74 (by decide) ?_
              refine lv_istore (lv' := [(9, .int 0), (8, .int 0), (6, .long 0), (5, .int 0), (0, .ref mo), (1, .long ww), (3, .int nv), (4, .int vv)]) hx hb dX4_put_75 hl (by decide) rfl (fun ls hl => ?_)
              refine lv_aload_n hx hb dX4_put_77 rfl (lv_at hl 4 rfl) ?_
              refine lv_iload hx hb dX4_put_78 (lv_at hl 3 rfl) ?_
              refine lv_if_ne (tgt := 87) hx hb dX4_put_80 (by decide) (fun c_30 => ?_) (fun c_30 => ?_)
              · exact absurd c_30 (by decide)
              · refine lv_iconst (v := 1) hx hb dX4_put_83 (by decide) ?_
                refine lv_goto (tgt := 108) hx hb dX4_put_84 (by decide) ?_
                refine va_put (D := G.1) (ci := 4) (v := .int 1) (ty := .int) (C := RX4) (T := TX4) (N := 7) hx hb hts hinX4 tyX4 tyX4_ok nmX4 hown hK.1 hP hD hS 0 rfl rfl 0 (by decide) (hts (.fieldLink RX4 30 "ForkStoreModel" "thrown" "I") (by decide +kernel)) (fun _ h9 => h9) rfl (by decide +kernel) rfl rfl (Nat.le_of_ble_eq_true rfl) dX4_put_108 (fun H locs hP hD hS => ?_)
                have hP : va_P G.1 vwCl [(mo, .inr (4, [.int 1, .ref mc, .ref mw, .ref mz, .ref mv, .ref mp, .ref mh])), (mc, .inl (gI G, 4, .inl (kz_z cs))), (mw, .inl (gJ G, 480, .inr (.inl mW))), (mz, .inl (gI G, 480, .inl (kz_z mZ))), (mv, .inl (gI G, 480, .inl mV)), (mp, .inl (gZ G, 3, .inl (kz_bo po))), (mh, .inl (gI G, 3, .inl (kz_pw pw)))] H := hP
                have hD : va_D A [(mo, .inr (4, [.int 1, .ref mc, .ref mw, .ref mz, .ref mv, .ref mp, .ref mh])), (mc, .inl (gI G, 4, .inl (kz_z cs))), (mw, .inl (gJ G, 480, .inr (.inl mW))), (mz, .inl (gI G, 480, .inl (kz_z mZ))), (mv, .inl (gI G, 480, .inl mV)), (mp, .inl (gZ G, 3, .inl (kz_bo po))), (mh, .inl (gI G, 3, .inl (kz_pw pw)))] := hD
                refine lv_aload_n hx hb dX4_put_111 rfl (lv_at hl 4 rfl) ?_
                refine va_get (D := G.1) (ci := 4) (v := .int 1) (C := RX4) (T := TX4) (N := 7) hx hb hts hinX4 hown hK.1 hP 0 rfl rfl 0 (by decide) (hts (.fieldLink RX4 30 "ForkStoreModel" "thrown" "I") (by decide +kernel)) (fun _ h9 => h9) rfl dX4_put_112 ?_
                refine lv_if_le (tgt := 120) hx hb dX4_put_115 (by decide) (fun c_31 => ?_) (fun c_31 => ?_)
                · exact absurd c_31 (by decide)
                · refine lv_iconst (v := 0) hx hb dX4_put_118 (by decide) ?_
                  exact W.zret (v := 0) hx hb hr rfl (fun t ht hW => ⟨⟨_, ([(mo, .inr (4, [.int 1, .ref mc, .ref mw, .ref mz, .ref mv, .ref mp, .ref mh])), (mc, .inl (gI G, 4, .inl (kz_z cs))), (mw, .inl (gJ G, 480, .inr (.inl mW))), (mz, .inl (gI G, 480, .inl (kz_z mZ))), (mv, .inl (gI G, 480, .inl mV)), (mp, .inl (gZ G, 3, .inl (kz_bo po))), (mh, .inl (gI G, 3, .inl (kz_pw pw)))] : va_W), rfl, (Or.inl ⟨hno, rfl, rfl⟩), by rw [← ht] at hP; exact hP⟩, hS.F ht⟩) hS.2.2 dX4_put_119
            · exact absurd c_29 (by decide)
          · exact absurd c_28 (by decide)
        · exact absurd c_27 (by decide)
      · exact absurd ⟨Int32.not_lt.mp c_20, Int32.not_lt.mp c_26⟩ hno

/-- the i-th key begins with (w, y), as the model has it -/
def kf_mb (mW : Nat → Int64) (mZ : Nat → Nat) (w : Int64) (y : Nat) : Nat → Bool := fun j => decide (kf_bg (mW j) (mZ j) w y)

set_option maxHeartbeats 4000000 in
set_option maxRecDepth 100000 in
theorem c_X4_within (l : Launch) (G : kz_G) (mo mc mw mz mv mp mh : Nat) (tv : Int32) (cs : Nat → Nat) (mW : Nat → Int64) (mZ : Nat → Nat) (mV : Nat → Int32) (po : Nat → Bool) (pw : Nat → Nat) (ww : Int64) (nv : Int32) (sz : Nat) (hcs : ∀ j, cs j ≤ 120) (hmz : ∀ j, mZ j ≤ 8) : Met l yX4_within wsX4_within { frames := 2, cells := 0, slots := 0, locals := 46 } (kz_Pm G [.ref mo, .long ww, .int nv] [(mo, .inr (4, [.int tv, .ref mc, .ref mw, .ref mz, .ref mv, .ref mp, .ref mh])), (mc, .inl (gI G, 4, .inl (kz_z cs))), (mw, .inl (gJ G, 480, .inr (.inl mW))), (mz, .inl (gI G, 480, .inl (kz_z mZ))), (mv, .inl (gI G, 480, .inl mV)), (mp, .inl (gZ G, 3, .inl (kz_bo po))), (mh, .inl (gI G, 3, .inl (kz_pw pw)))] sz) (kz_Qi G (fun r w => (¬ (0 ≤ nv ∧ nv ≤ 8) ∧ r = 0 ∧ w = [(mo, .inr (4, [.int 0, .ref mc, .ref mw, .ref mz, .ref mv, .ref mp, .ref mh])), (mc, .inl (gI G, 4, .inl (kz_z cs))), (mw, .inl (gJ G, 480, .inr (.inl mW))), (mz, .inl (gI G, 480, .inl (kz_z mZ))), (mv, .inl (gI G, 480, .inl mV)), (mp, .inl (gZ G, 3, .inl (kz_bo po))), (mh, .inl (gI G, 3, .inl (kz_pw pw)))]) ∨ (∃ zz : Nat, zz ≤ 8 ∧ nv = nI zz ∧ r = nI (kf_cnt (kf_mb mW mZ (kf_cut ww zz) zz) (cs 0)) ∧ w = [(mo, .inr (4, [.int 0, .ref mc, .ref mw, .ref mz, .ref mv, .ref mp, .ref mh])), (mc, .inl (gI G, 4, .inl (kz_z cs))), (mw, .inl (gJ G, 480, .inr (.inl mW))), (mz, .inl (gI G, 480, .inl (kz_z mZ))), (mv, .inl (gI G, 480, .inl mV)), (mp, .inl (gZ G, 3, .inl (kz_bo po))), (mh, .inl (gI G, 3, .inl (kz_pw pw)))])) (va_A [(mo, .inr (4, [.int tv, .ref mc, .ref mw, .ref mz, .ref mv, .ref mp, .ref mh])), (mc, .inl (gI G, 4, .inl (kz_z cs))), (mw, .inl (gJ G, 480, .inr (.inl mW))), (mz, .inl (gI G, 480, .inl (kz_z mZ))), (mv, .inl (gI G, 480, .inl mV)), (mp, .inl (gZ G, 3, .inl (kz_bo po))), (mh, .inl (gI G, 3, .inl (kz_pw pw)))] sz)) 0 0 (va_A [(mo, .inr (4, [.int tv, .ref mc, .ref mw, .ref mz, .ref mv, .ref mp, .ref mh])), (mc, .inl (gI G, 4, .inl (kz_z cs))), (mw, .inl (gJ G, 480, .inr (.inl mW))), (mz, .inl (gI G, 480, .inl (kz_z mZ))), (mv, .inl (gI G, 480, .inl mV)), (mp, .inl (gZ G, 3, .inl (kz_bo po))), (mh, .inl (gI G, 3, .inl (kz_pw pw)))] sz) := by
  refine Met.ofW (cc := cX4_within) (maxL := 6) (ret := (some .int)) (by decide) rfl ?_
  intro p e s m args below meth c s₁ B hml hv
  obtain ⟨rfl, hsz, hP, hK, hD0⟩ := hv
  have hx := B.exec
  have hb := B.bytes
  have hr := B.returns
  have hts := atoms_spec (ws := wsX4_within) B.pre
  have hown : s.vm.findClass RX4 = some m.cls := findClass_of_methodNamed B.named
  have hlocks := B.notSynchronized
  have hinX4 : ∀ w ∈ wsX40, w ∈ wsX4_within := by decide +kernel
  subst hsz
  have hD := hD0.self (sz := s.heap.size)
  generalize hAe : va_A [(mo, .inr (4, [.int tv, .ref mc, .ref mw, .ref mz, .ref mv, .ref mp, .ref mh])), (mc, .inl (gI G, 4, .inl (kz_z cs))), (mw, .inl (gJ G, 480, .inr (.inl mW))), (mz, .inl (gI G, 480, .inl (kz_z mZ))), (mv, .inl (gI G, 480, .inl mV)), (mp, .inl (gZ G, 3, .inl (kz_bo po))), (mh, .inl (gI G, 3, .inl (kz_pw pw)))] s.heap.size = A at hD ⊢
  have hA : ∀ q : Nat, s.heap.size ≤ q → A q := fun q h => by rw [← hAe]; exact Or.inr h
  have hS : va_S A s.heap s.heap [] := va_S.rf
  have hP : va_P G.1 vwCl [(mo, .inr (4, [.int tv, .ref mc, .ref mw, .ref mz, .ref mv, .ref mp, .ref mh])), (mc, .inl (gI G, 4, .inl (kz_z cs))), (mw, .inl (gJ G, 480, .inr (.inl mW))), (mz, .inl (gI G, 480, .inl (kz_z mZ))), (mv, .inl (gI G, 480, .inl mV)), (mp, .inl (gZ G, 3, .inl (kz_bo po))), (mh, .inl (gI G, 3, .inl (kz_pw pw)))] s.heap := hP
  have hl := lv_entry ([.ref mo, .long ww, .int nv]) (n := 6) (Nat.le_of_ble_eq_true rfl)
  rw [lg_entry_eq]
  generalize (lg_sl ([.ref mo, .long ww, .int nv]) ++ List.replicate (6 - (lg_sl ([.ref mo, .long ww, .int nv])).length) Slot.unset).toArray = ls at hl ⊢
  have hl : lv_has ls 6 [(0, .ref mo), (1, .long ww), (3, .int nv)] := hl
  have hc0 := hcs 0
  rcases kf_okc nv with ⟨zz, hzz, rfl⟩ | hno
  · have hl : lv_has ls 6 [(0, .ref mo), (1, .long ww), (3, .int (nI zz))] := hl
    refine lv_aload_n hx hb dX4_within_0 rfl (lv_at hl 0 rfl) ?_
    refine lv_iconst (v := 0) hx hb dX4_within_1 (by decide) ?_
    refine va_put (D := G.1) (ci := 4) (v := .int 0) (ty := .int) (C := RX4) (T := TX4) (N := 7) hx hb hts hinX4 tyX4 tyX4_ok nmX4 hown hK.1 hP hD hS 0 rfl rfl 0 (by decide) (hts (.fieldLink RX4 30 "ForkStoreModel" "thrown" "I") (by decide +kernel)) (fun _ h9 => h9) rfl (by decide +kernel) rfl rfl (Nat.le_of_ble_eq_true rfl) dX4_within_2 (fun H locs hP hD hS => ?_)
    have hP : va_P G.1 vwCl [(mo, .inr (4, [.int 0, .ref mc, .ref mw, .ref mz, .ref mv, .ref mp, .ref mh])), (mc, .inl (gI G, 4, .inl (kz_z cs))), (mw, .inl (gJ G, 480, .inr (.inl mW))), (mz, .inl (gI G, 480, .inl (kz_z mZ))), (mv, .inl (gI G, 480, .inl mV)), (mp, .inl (gZ G, 3, .inl (kz_bo po))), (mh, .inl (gI G, 3, .inl (kz_pw pw)))] H := hP
    have hD : va_D A [(mo, .inr (4, [.int 0, .ref mc, .ref mw, .ref mz, .ref mv, .ref mp, .ref mh])), (mc, .inl (gI G, 4, .inl (kz_z cs))), (mw, .inl (gJ G, 480, .inr (.inl mW))), (mz, .inl (gI G, 480, .inl (kz_z mZ))), (mv, .inl (gI G, 480, .inl mV)), (mp, .inl (gZ G, 3, .inl (kz_bo po))), (mh, .inl (gI G, 3, .inl (kz_pw pw)))] := hD
    refine lv_iconst (v := 0) hx hb dX4_within_5 (by decide) ?_
    refine lv_istore (lv' := [(4, .int 0), (0, .ref mo), (1, .long ww), (3, .int (nI zz))]) hx hb dX4_within_6 hl (by decide) rfl (fun ls hl => ?_)
    refine lv_iconst (v := 0) hx hb dX4_within_8 (by decide) ?_
    refine lv_istore (lv' := [(5, .int 0), (4, .int 0), (0, .ref mo), (1, .long ww), (3, .int (nI zz))]) hx hb dX4_within_9 hl (by decide) rfl (fun ls hl => ?_)
    refine kz_loop (nL := 6) (hd := 11) (e9 := cs 0) (i0 := 0) (LV := fun ii => [(4, .int (nI (kf_cnt (kf_mb mW mZ (kf_cut ww zz) zz) ii))), (5, .int (nI ii)), (0, .ref mo), (1, .long ww), (3, .int (nI zz))]) (fun ii ls hii hl ih => ?_) (Nat.zero_le _) (lv_sub hl [1, 0, 2, 3, 4] rfl)
    have hl : lv_has ls 6 [(4, .int (nI (kf_cnt (kf_mb mW mZ (kf_cut ww zz) zz) ii))), (5, .int (nI ii)), (0, .ref mo), (1, .long ww), (3, .int (nI zz))] := hl
    refine lv_iload hx hb dX4_within_11 (lv_at hl 1 rfl) ?_
    refine lv_aload_n hx hb dX4_within_13 rfl (lv_at hl 2 rfl) ?_
    refine va_get (D := G.1) (ci := 4) (v := .ref mc) (C := RX4) (T := TX4) (N := 7) hx hb hts hinX4 hown hK.1 hP 0 rfl rfl 1 (by decide) (hts (.fieldLink RX4 7 "ForkStoreModel" "counts" "[I") (by decide +kernel)) (fun _ h9 => h9) rfl dX4_within_14 ?_
    refine lv_iconst (v := 0) hx hb dX4_within_17 (by decide) ?_
    refine kz_iald hx hb hK.1 hP 1 0 rfl rfl (k := 0) (by decide) (by decide) dX4_within_18 ?_
    refine kz_asi (y := nI (cs 0)) rfl ?_
    refine lv_icmp_ge (tgt := 64) hx hb dX4_within_19 (by decide) (fun c_1 => ?_) (fun c_1 => ?_)
    · have kc_1 : cs 0 ≤ ii := (nI_leI (by have := hcs 0; omega) (by omega)).mp c_1
      refine lv_iload hx hb dX4_within_64 (lv_at hl 0 rfl) ?_
      have hie : ii = cs 0 := by omega
      exact W.iret (v := nI (kf_cnt (kf_mb mW mZ (kf_cut ww zz) zz) ii)) hx hb hr (fun t ht hW => ⟨⟨_, ([(mo, .inr (4, [.int 0, .ref mc, .ref mw, .ref mz, .ref mv, .ref mp, .ref mh])), (mc, .inl (gI G, 4, .inl (kz_z cs))), (mw, .inl (gJ G, 480, .inr (.inl mW))), (mz, .inl (gI G, 480, .inl (kz_z mZ))), (mv, .inl (gI G, 480, .inl mV)), (mp, .inl (gZ G, 3, .inl (kz_bo po))), (mh, .inl (gI G, 3, .inl (kz_pw pw)))] : va_W), rfl, (Or.inr ⟨zz, hzz, rfl, by rw [hie], rfl⟩), by rw [← ht] at hP; exact hP⟩, hS.F ht⟩) hS.2.2 dX4_within_66
    · have hc0 := hcs 0
      have kc_1 : ii < cs 0 := Nat.lt_of_not_le (fun h => c_1 (nI_le h (by omega)))
      refine lv_iload_n hx hb dX4_within_22 rfl (lv_at hl 4 rfl) ?_
      refine lv_if_lt (tgt := 64) hx hb dX4_within_23 (by decide) (fun c_2 => ?_) (fun c_2 => ?_)
      · exact absurd c_2 (nI_pos (by omega))
      · refine lv_iload_n hx hb dX4_within_26 rfl (lv_at hl 4 rfl) ?_
        refine lv_bipush (v := 8) hx hb dX4_within_27 (by decide) ?_
        refine lv_icmp_gt (tgt := 64) hx hb dX4_within_29 (by decide) (fun c_3 => ?_) (fun c_3 => ?_)
        · exact absurd c_3 (Int32.not_lt.mpr (nI_le (b := 8) hzz (by decide)))
        · refine lv_aload_n hx hb dX4_within_32 rfl (lv_at hl 2 rfl) ?_
          refine lv_iload hx hb dX4_within_33 (lv_at hl 1 rfl) ?_
          refine lv_lload_n hx hb dX4_within_35 rfl (lv_at hl 3 rfl) ?_
          refine lv_iload_n hx hb dX4_within_36 rfl (lv_at hl 4 rfl) ?_
          refine kz_cl (v := kf_cut ww zz) (va_runS (As := [.long ww, .int (nI zz)]) (rest := [.int (nI ii), .ref mo]) ⟨hx, hb, hml, hown, hts⟩ (c_X4_cut l ww zz (by omega)) (va_cwS 2 hts gX4_within_X4_cut rfl rfl rfl (by decide +kernel) ⟨Nat.le_of_ble_eq_true rfl, Nat.le_of_ble_eq_true rfl⟩) kz_ps0 rfl rfl hl.1 rfl (lv_room (Nat.le_of_ble_eq_true rfl)) dX4_within_37 ⟨Nat.zero_le _, Nat.zero_le _⟩).run ?_
          refine lv_iload_n hx hb dX4_within_40 rfl (lv_at hl 4 rfl) ?_
          have hPc := hP.sub (ws' := [(mo, .inr (4, [.int 0, .ref mc, .ref mw, .ref mz, .ref mv, .ref mp, .ref mh])), (mc, .inl (gI G, 4, .inl (kz_z cs))), (mw, .inl (gJ G, 480, .inr (.inl mW))), (mz, .inl (gI G, 480, .inl (kz_z mZ))), (mv, .inl (gI G, 480, .inl mV)), (mp, .inl (gZ G, 3, .inl (kz_bo po))), (mh, .inl (gI G, 3, .inl (kz_pw pw)))]) [0, 1, 2, 3, 4, 5, 6] rfl
          refine kz_ci (v := if kf_bg (mW ii) (mZ ii) (kf_cut ww zz) zz then 1 else 0) (va_runV (As := [.int (nI ii), .long (kf_cut ww zz), .int (nI zz)]) (rest := []) ⟨hx, hb, hml, hown, hts⟩ (c_X4_begins l G mo mc mw mz mv mp mh 0 cs mW mZ mV po pw ii (kf_cut ww zz) zz hmz (by omega) (by omega)) (cwV 3 hts gX4_within_X4_begins rfl rfl rfl (by decide +kernel) ⟨Nat.le_of_ble_eq_true rfl, Nat.le_of_ble_eq_true rfl⟩) (kz_pv hK hPc (va_recv hK.1 hPc (ci := 4) (q0 := 0) rfl rfl)) rfl rfl hl.1 rfl (lv_room (Nat.le_of_ble_eq_true rfl)) dX4_within_41 ⟨Nat.zero_le _, Nat.zero_le _⟩).run ?_
          refine lv_if_eq (tgt := 54) hx hb dX4_within_44 (by decide) (fun c_4 => ?_) (fun c_4 => ?_)
          · have hnb : ¬ kf_mb mW mZ (kf_cut ww zz) zz ii = true := fun h => kf_if0 c_4 (of_decide_eq_true h)
            refine lv_iload hx hb dX4_within_54 (lv_at hl 0 rfl) ?_
            refine kz_asi (y := nI (kf_cnt (kf_mb mW mZ (kf_cut ww zz) zz) (ii + 1))) (by rw [kf_cnt_n hnb]) ?_
            refine lv_istore (lv' := [(4, .int (nI (kf_cnt (kf_mb mW mZ (kf_cut ww zz) zz) (ii + 1)))), (5, .int (nI ii)), (0, .ref mo), (1, .long ww), (3, .int (nI zz))]) hx hb dX4_within_56 hl (by decide) rfl (fun ls hl => ?_)
            refine lv_iinc (v := nI (ii + 1)) (lv' := [(5, .int (nI (ii + 1))), (4, .int (nI (kf_cnt (kf_mb mW mZ (kf_cut ww zz) zz) (ii + 1)))), (0, .ref mo), (1, .long ww), (3, .int (nI zz))]) hx hb dX4_within_58 hl (k := 1) rfl (nI_1 ii) (by decide) rfl (fun ls hl => ?_)
            refine lv_goto (tgt := 11) hx hb dX4_within_61 (by decide) ?_
            exact ih ls (by omega) (lv_sub hl [1, 0, 2, 3, 4] rfl)
          · have hyes : kf_mb mW mZ (kf_cut ww zz) zz ii = true := decide_eq_true (kf_if1 c_4)
            refine lv_iload hx hb dX4_within_47 (lv_at hl 0 rfl) ?_
            refine lv_iconst (v := 1) hx hb dX4_within_49 (by decide) ?_
            refine lv_iadd hx hb dX4_within_50 ?_
            refine lv_goto (tgt := 56) hx hb dX4_within_51 (by decide) ?_
            refine kz_asi (y := nI (kf_cnt (kf_mb mW mZ (kf_cut ww zz) zz) (ii + 1))) (by rw [kf_cnt_y hyes]; exact nI_1 _) ?_
            refine lv_istore (lv' := [(4, .int (nI (kf_cnt (kf_mb mW mZ (kf_cut ww zz) zz) (ii + 1)))), (5, .int (nI ii)), (0, .ref mo), (1, .long ww), (3, .int (nI zz))]) hx hb dX4_within_56 hl (by decide) rfl (fun ls hl => ?_)
            refine lv_iinc (v := nI (ii + 1)) (lv' := [(5, .int (nI (ii + 1))), (4, .int (nI (kf_cnt (kf_mb mW mZ (kf_cut ww zz) zz) (ii + 1)))), (0, .ref mo), (1, .long ww), (3, .int (nI zz))]) hx hb dX4_within_58 hl (k := 1) rfl (nI_1 ii) (by decide) rfl (fun ls hl => ?_)
            refine lv_goto (tgt := 11) hx hb dX4_within_61 (by decide) ?_
            exact ih ls (by omega) (lv_sub hl [1, 0, 2, 3, 4] rfl)
  · have hno := hno
    refine lv_aload_n hx hb dX4_within_0 rfl (lv_at hl 0 rfl) ?_
    refine lv_iconst (v := 0) hx hb dX4_within_1 (by decide) ?_
    refine va_put (D := G.1) (ci := 4) (v := .int 0) (ty := .int) (C := RX4) (T := TX4) (N := 7) hx hb hts hinX4 tyX4 tyX4_ok nmX4 hown hK.1 hP hD hS 0 rfl rfl 0 (by decide) (hts (.fieldLink RX4 30 "ForkStoreModel" "thrown" "I") (by decide +kernel)) (fun _ h9 => h9) rfl (by decide +kernel) rfl rfl (Nat.le_of_ble_eq_true rfl) dX4_within_2 (fun H locs hP hD hS => ?_)
    have hP : va_P G.1 vwCl [(mo, .inr (4, [.int 0, .ref mc, .ref mw, .ref mz, .ref mv, .ref mp, .ref mh])), (mc, .inl (gI G, 4, .inl (kz_z cs))), (mw, .inl (gJ G, 480, .inr (.inl mW))), (mz, .inl (gI G, 480, .inl (kz_z mZ))), (mv, .inl (gI G, 480, .inl mV)), (mp, .inl (gZ G, 3, .inl (kz_bo po))), (mh, .inl (gI G, 3, .inl (kz_pw pw)))] H := hP
    have hD : va_D A [(mo, .inr (4, [.int 0, .ref mc, .ref mw, .ref mz, .ref mv, .ref mp, .ref mh])), (mc, .inl (gI G, 4, .inl (kz_z cs))), (mw, .inl (gJ G, 480, .inr (.inl mW))), (mz, .inl (gI G, 480, .inl (kz_z mZ))), (mv, .inl (gI G, 480, .inl mV)), (mp, .inl (gZ G, 3, .inl (kz_bo po))), (mh, .inl (gI G, 3, .inl (kz_pw pw)))] := hD
    refine lv_iconst (v := 0) hx hb dX4_within_5 (by decide) ?_
    refine lv_istore (lv' := [(4, .int 0), (0, .ref mo), (1, .long ww), (3, .int nv)]) hx hb dX4_within_6 hl (by decide) rfl (fun ls hl => ?_)
    refine lv_iconst (v := 0) hx hb dX4_within_8 (by decide) ?_
    refine lv_istore (lv' := [(5, .int 0), (4, .int 0), (0, .ref mo), (1, .long ww), (3, .int nv)]) hx hb dX4_within_9 hl (by decide) rfl (fun ls hl => ?_)
    refine lv_iload hx hb dX4_within_11 (lv_at hl 0 rfl) ?_
    refine lv_aload_n hx hb dX4_within_13 rfl (lv_at hl 2 rfl) ?_
    refine va_get (D := G.1) (ci := 4) (v := .ref mc) (C := RX4) (T := TX4) (N := 7) hx hb hts hinX4 hown hK.1 hP 0 rfl rfl 1 (by decide) (hts (.fieldLink RX4 7 "ForkStoreModel" "counts" "[I") (by decide +kernel)) (fun _ h9 => h9) rfl dX4_within_14 ?_
    refine lv_iconst (v := 0) hx hb dX4_within_17 (by decide) ?_
    refine kz_iald hx hb hK.1 hP 1 0 rfl rfl (k := 0) (by decide) (by decide) dX4_within_18 ?_
    refine kz_asi (y := nI (cs 0)) rfl ?_
    refine lv_icmp_ge (tgt := 64) hx hb dX4_within_19 (by decide) (fun c_5 => ?_) (fun c_5 => ?_)
    · refine lv_iload hx hb dX4_within_64 (lv_at hl 1 rfl) ?_
      exact W.iret (v := 0) hx hb hr (fun t ht hW => ⟨⟨_, ([(mo, .inr (4, [.int 0, .ref mc, .ref mw, .ref mz, .ref mv, .ref mp, .ref mh])), (mc, .inl (gI G, 4, .inl (kz_z cs))), (mw, .inl (gJ G, 480, .inr (.inl mW))), (mz, .inl (gI G, 480, .inl (kz_z mZ))), (mv, .inl (gI G, 480, .inl mV)), (mp, .inl (gZ G, 3, .inl (kz_bo po))), (mh, .inl (gI G, 3, .inl (kz_pw pw)))] : va_W), rfl, (Or.inl ⟨hno, rfl, rfl⟩), by rw [← ht] at hP; exact hP⟩, hS.F ht⟩) hS.2.2 dX4_within_66
    · refine lv_iload_n hx hb dX4_within_22 rfl (lv_at hl 4 rfl) ?_
      refine lv_if_lt (tgt := 64) hx hb dX4_within_23 (by decide) (fun c_6 => ?_) (fun c_6 => ?_)
      · refine lv_iload hx hb dX4_within_64 (lv_at hl 1 rfl) ?_
        exact W.iret (v := 0) hx hb hr (fun t ht hW => ⟨⟨_, ([(mo, .inr (4, [.int 0, .ref mc, .ref mw, .ref mz, .ref mv, .ref mp, .ref mh])), (mc, .inl (gI G, 4, .inl (kz_z cs))), (mw, .inl (gJ G, 480, .inr (.inl mW))), (mz, .inl (gI G, 480, .inl (kz_z mZ))), (mv, .inl (gI G, 480, .inl mV)), (mp, .inl (gZ G, 3, .inl (kz_bo po))), (mh, .inl (gI G, 3, .inl (kz_pw pw)))] : va_W), rfl, (Or.inl ⟨hno, rfl, rfl⟩), by rw [← ht] at hP; exact hP⟩, hS.F ht⟩) hS.2.2 dX4_within_66
      · refine lv_iload_n hx hb dX4_within_26 rfl (lv_at hl 4 rfl) ?_
        refine lv_bipush (v := 8) hx hb dX4_within_27 (by decide) ?_
        refine lv_icmp_gt (tgt := 64) hx hb dX4_within_29 (by decide) (fun c_7 => ?_) (fun c_7 => ?_)
        · refine lv_iload hx hb dX4_within_64 (lv_at hl 1 rfl) ?_
          exact W.iret (v := 0) hx hb hr (fun t ht hW => ⟨⟨_, ([(mo, .inr (4, [.int 0, .ref mc, .ref mw, .ref mz, .ref mv, .ref mp, .ref mh])), (mc, .inl (gI G, 4, .inl (kz_z cs))), (mw, .inl (gJ G, 480, .inr (.inl mW))), (mz, .inl (gI G, 480, .inl (kz_z mZ))), (mv, .inl (gI G, 480, .inl mV)), (mp, .inl (gZ G, 3, .inl (kz_bo po))), (mh, .inl (gI G, 3, .inl (kz_pw pw)))] : va_W), rfl, (Or.inl ⟨hno, rfl, rfl⟩), by rw [← ht] at hP; exact hP⟩, hS.F ht⟩) hS.2.2 dX4_within_66
        · exact absurd ⟨Int32.not_lt.mp c_6, Int32.not_lt.mp c_7⟩ hno

/-- the walk of ForkStoreModel.branches: many, different, ends, last -/
def kf_brs (mW : Nat → Int64) (mZ : Nat → Nat) (w : Int64) (y : Nat) : Nat → Nat × Nat × Bool × Int32
  | 0 => (0, 0, false, -1)
  | k + 1 => if kf_bg (mW k) (mZ k) w y then
      (if mZ k = y then ((kf_brs mW mZ w y k).1 + 1, (kf_brs mW mZ w y k).2.1, true, (kf_brs mW mZ w y k).2.2.2)
       else ((kf_brs mW mZ w y k).1 + 1, (if nI (un (mW k) / 2 ^ (56 - 8 * y) % 256) = (kf_brs mW mZ w y k).2.2.2 then (kf_brs mW mZ w y k).2.1 else (kf_brs mW mZ w y k).2.1 + 1), (kf_brs mW mZ w y k).2.2.1, nI (un (mW k) / 2 ^ (56 - 8 * y) % 256)))
    else kf_brs mW mZ w y k
theorem kf_brs_le (mW : Nat → Int64) (mZ : Nat → Nat) (w : Int64) (y : Nat) : ∀ k, (kf_brs mW mZ w y k).1 ≤ k ∧ (kf_brs mW mZ w y k).2.1 ≤ k
  | 0 => ⟨Nat.le_refl _, Nat.le_refl _⟩
  | k + 1 => by
    have h := kf_brs_le mW mZ w y k
    unfold kf_brs
    split
    · split
      · exact ⟨by show _ + 1 ≤ _; omega, by show (kf_brs mW mZ w y k).2.1 ≤ _; omega⟩
      · refine ⟨by show _ + 1 ≤ _; omega, ?_⟩
        have h3 : ∀ (c : Prop) [Decidable c] (a : Nat), (if c then a else a + 1) ≤ a + 1 := fun c _ a => by split <;> omega
        exact Nat.le_trans (h3 _ _) (by omega)
    · exact ⟨by omega, by omega⟩
/-- ForkStoreModel.branches -/
def kf_br (mW : Nat → Int64) (mZ : Nat → Nat) (w : Int64) (y nn : Nat) : Nat := if 1 < (kf_brs mW mZ w y nn).2.1 ∨ ((kf_brs mW mZ w y nn).2.2.1 = true ∧ 1 < (kf_brs mW mZ w y nn).1) then (kf_brs mW mZ w y nn).2.1 else 0
theorem kf_br_le (mW : Nat → Int64) (mZ : Nat → Nat) (w : Int64) (y nn : Nat) : kf_br mW mZ w y nn ≤ nn := by
  have h := kf_brs_le mW mZ w y nn
  unfold kf_br
  split <;> omega

set_option maxHeartbeats 4000000 in
set_option maxRecDepth 100000 in
theorem c_X4_branches (l : Launch) (G : kz_G) (mo mc mw mz mv mp mh : Nat) (tv : Int32) (cs : Nat → Nat) (mW : Nat → Int64) (mZ : Nat → Nat) (mV : Nat → Int32) (po : Nat → Bool) (pw : Nat → Nat) (ww : Int64) (zz : Nat) (hcs : ∀ j, cs j ≤ 120) (hmz : ∀ j, mZ j ≤ 8) (hzz : zz ≤ 8) : Met l yX4_branches wsX4_branches { frames := 2, cells := 0, slots := 0, locals := 46 } (kz_Pp G [.ref mo, .long ww, .int (nI zz)] [(mo, .inr (4, [.int tv, .ref mc, .ref mw, .ref mz, .ref mv, .ref mp, .ref mh])), (mc, .inl (gI G, 4, .inl (kz_z cs))), (mw, .inl (gJ G, 480, .inr (.inl mW))), (mz, .inl (gI G, 480, .inl (kz_z mZ))), (mv, .inl (gI G, 480, .inl mV)), (mp, .inl (gZ G, 3, .inl (kz_bo po))), (mh, .inl (gI G, 3, .inl (kz_pw pw)))]) (vp_Si (fun r => r = nI (kf_br mW mZ ww zz (cs 0)))) 0 0 (fun _ => False) := by
  refine Met.ofW (cc := cX4_branches) (maxL := 11) (ret := (some .int)) (by decide) rfl ?_
  intro p e s m args below meth c s₁ B hml hv
  obtain ⟨rfl, hP, hK⟩ := hv
  have hx := B.exec
  have hb := B.bytes
  have hr := B.returns
  have hts := atoms_spec (ws := wsX4_branches) B.pre
  have hown : s.vm.findClass RX4 = some m.cls := findClass_of_methodNamed B.named
  have hlocks := B.notSynchronized
  have hinX4 : ∀ w ∈ wsX40, w ∈ wsX4_branches := by decide +kernel
  have hP : va_P G.1 vwCl [(mo, .inr (4, [.int tv, .ref mc, .ref mw, .ref mz, .ref mv, .ref mp, .ref mh])), (mc, .inl (gI G, 4, .inl (kz_z cs))), (mw, .inl (gJ G, 480, .inr (.inl mW))), (mz, .inl (gI G, 480, .inl (kz_z mZ))), (mv, .inl (gI G, 480, .inl mV)), (mp, .inl (gZ G, 3, .inl (kz_bo po))), (mh, .inl (gI G, 3, .inl (kz_pw pw)))] s.heap := hP
  have hl := lv_entry ([.ref mo, .long ww, .int (nI zz)]) (n := 11) (Nat.le_of_ble_eq_true rfl)
  rw [lg_entry_eq]
  generalize (lg_sl ([.ref mo, .long ww, .int (nI zz)]) ++ List.replicate (11 - (lg_sl ([.ref mo, .long ww, .int (nI zz)])).length) Slot.unset).toArray = ls at hl ⊢
  have hl : lv_has ls 11 [(0, .ref mo), (1, .long ww), (3, .int (nI zz))] := hl
  have hc0 := hcs 0
  refine lv_iconst (v := 0) hx hb dX4_branches_0 (by decide) ?_
  refine lv_istore (lv' := [(4, .int 0), (0, .ref mo), (1, .long ww), (3, .int (nI zz))]) hx hb dX4_branches_1 hl (by decide) rfl (fun ls hl => ?_)
  refine lv_iconst (v := 0) hx hb dX4_branches_3 (by decide) ?_
  refine lv_istore (lv' := [(5, .int 0), (4, .int 0), (0, .ref mo), (1, .long ww), (3, .int (nI zz))]) hx hb dX4_branches_4 hl (by decide) rfl (fun ls hl => ?_)
  refine lv_iconst (v := 0) hx hb dX4_branches_6 (by decide) ?_
  refine lv_istore (lv' := [(6, .int 0), (5, .int 0), (4, .int 0), (0, .ref mo), (1, .long ww), (3, .int (nI zz))]) hx hb dX4_branches_7 hl (by decide) rfl (fun ls hl => ?_)
  refine lv_iconst (v := (-1)) hx hb dX4_branches_9 (by decide) ?_
  refine lv_istore (lv' := [(7, .int (-1)), (6, .int 0), (5, .int 0), (4, .int 0), (0, .ref mo), (1, .long ww), (3, .int (nI zz))]) hx hb dX4_branches_10 hl (by decide) rfl (fun ls hl => ?_)
  refine lv_iconst (v := 0) hx hb dX4_branches_12 (by decide) ?_
  refine lv_istore (lv' := [(8, .int 0), (7, .int (-1)), (6, .int 0), (5, .int 0), (4, .int 0), (0, .ref mo), (1, .long ww), (3, .int (nI zz))]) hx hb dX4_branches_13 hl (by decide) rfl (fun ls hl => ?_)
  refine kz_loop (nL := 11) (hd := 15) (e9 := cs 0) (i0 := 0) (LV := fun ii => [(4, .int (nI (kf_brs mW mZ ww zz ii).1)), (5, .int (nI (kf_brs mW mZ ww zz ii).2.1)), (6, .int (kf_b (kf_brs mW mZ ww zz ii).2.2.1)), (7, .int ((kf_brs mW mZ ww zz ii).2.2.2)), (8, .int (nI ii)), (0, .ref mo), (1, .long ww), (3, .int (nI zz))]) (fun ii ls hii hl ih => ?_) (Nat.zero_le _) (lv_sub hl [4, 3, 2, 1, 0, 5, 6, 7] rfl)
  have hl : lv_has ls 11 [(4, .int (nI (kf_brs mW mZ ww zz ii).1)), (5, .int (nI (kf_brs mW mZ ww zz ii).2.1)), (6, .int (kf_b (kf_brs mW mZ ww zz ii).2.2.1)), (7, .int ((kf_brs mW mZ ww zz ii).2.2.2)), (8, .int (nI ii)), (0, .ref mo), (1, .long ww), (3, .int (nI zz))] := hl
  refine lv_iload hx hb dX4_branches_15 (lv_at hl 4 rfl) ?_
  refine lv_aload_n hx hb dX4_branches_17 rfl (lv_at hl 5 rfl) ?_
  refine va_get (D := G.1) (ci := 4) (v := .ref mc) (C := RX4) (T := TX4) (N := 7) hx hb hts hinX4 hown hK.1 hP 0 rfl rfl 1 (by decide) (hts (.fieldLink RX4 7 "ForkStoreModel" "counts" "[I") (by decide +kernel)) (fun _ h9 => h9) rfl dX4_branches_18 ?_
  refine lv_iconst (v := 0) hx hb dX4_branches_21 (by decide) ?_
  refine kz_iald hx hb hK.1 hP 1 0 rfl rfl (k := 0) (by decide) (by decide) dX4_branches_22 ?_
  refine kz_asi (y := nI (cs 0)) rfl ?_
  refine lv_icmp_ge (tgt := 140) hx hb dX4_branches_23 (by decide) (fun c_1 => ?_) (fun c_1 => ?_)
  · have kc_1 : cs 0 ≤ ii := (nI_leI (by omega) (by omega)).mp c_1
    refine lv_iload hx hb dX4_branches_140 (lv_at hl 1 rfl) ?_
    refine lv_iconst (v := 1) hx hb dX4_branches_142 (by decide) ?_
    refine lv_icmp_gt (tgt := 157) hx hb dX4_branches_143 (by decide) (fun c_2 => ?_) (fun c_2 => ?_)
    · refine lv_iload hx hb dX4_branches_157 (lv_at hl 1 rfl) ?_
      refine lv_goto (tgt := 163) hx hb dX4_branches_159 (by decide) ?_
      have hie : ii = cs 0 := by omega
      have hbl := kf_brs_le mW mZ ww zz ii
      have hq : nI (kf_brs mW mZ ww zz ii).2.1 = nI (kf_br mW mZ ww zz (cs 0)) := by
        rw [← hie]
        unfold kf_br
        rw [if_pos (Or.inl ((nI_ltI (a := 1) (by decide) (by omega)).mp c_2))]
      exact W.iret (v := nI (kf_brs mW mZ ww zz ii).2.1) hx hb hr (fun t ht hW => ⟨_, rfl, hq, ht⟩) (fun _ h => nomatch h) dX4_branches_163
    · refine lv_iload hx hb dX4_branches_146 (lv_at hl 2 rfl) ?_
      refine lv_if_eq (tgt := 162) hx hb dX4_branches_148 (by decide) (fun c_3 => ?_) (fun c_3 => ?_)
      · refine lv_iconst (v := 0) hx hb dX4_branches_162 (by decide) ?_
        have hie : ii = cs 0 := by omega
        have hbl := kf_brs_le mW mZ ww zz ii
        have hq : 0 = nI (kf_br mW mZ ww zz (cs 0)) := by
          rw [← hie]
          unfold kf_br
          rw [if_neg (fun h => h.elim (fun h => c_2 (nI_lt (a := 1) h (by omega))) (fun h => by rw [kf_b_0.mp c_3] at h; exact absurd h.1 (by decide)))]
          rfl
        exact W.iret (v := 0) hx hb hr (fun t ht hW => ⟨_, rfl, hq, ht⟩) (fun _ h => nomatch h) dX4_branches_163
      · refine lv_iload hx hb dX4_branches_151 (lv_at hl 0 rfl) ?_
        refine lv_iconst (v := 1) hx hb dX4_branches_153 (by decide) ?_
        refine lv_icmp_le (tgt := 162) hx hb dX4_branches_154 (by decide) (fun c_4 => ?_) (fun c_4 => ?_)
        · refine lv_iconst (v := 0) hx hb dX4_branches_162 (by decide) ?_
          have hie : ii = cs 0 := by omega
          have hbl := kf_brs_le mW mZ ww zz ii
          have hq : 0 = nI (kf_br mW mZ ww zz (cs 0)) := by
            rw [← hie]
            unfold kf_br
            rw [if_neg (fun h => h.elim (fun h => c_2 (nI_lt (a := 1) h (by omega))) (fun h => absurd ((nI_leI (b := 1) (by omega) (by decide)).mp c_4) (by omega)))]
            rfl
          exact W.iret (v := 0) hx hb hr (fun t ht hW => ⟨_, rfl, hq, ht⟩) (fun _ h => nomatch h) dX4_branches_163
        · refine lv_iload hx hb dX4_branches_157 (lv_at hl 1 rfl) ?_
          refine lv_goto (tgt := 163) hx hb dX4_branches_159 (by decide) ?_
          have hie : ii = cs 0 := by omega
          have hbl := kf_brs_le mW mZ ww zz ii
          have hq : nI (kf_brs mW mZ ww zz ii).2.1 = nI (kf_br mW mZ ww zz (cs 0)) := by
            rw [← hie]
            unfold kf_br
            rw [if_pos (Or.inr ⟨by cases h9 : (kf_brs mW mZ ww zz ii).2.2.1; exact absurd (by rw [h9]; rfl) c_3; rfl, by rcases Nat.lt_or_ge 1 (kf_brs mW mZ ww zz ii).1 with h | h; exact h; exact absurd (nI_le (b := 1) h (by decide)) c_4⟩)]
          exact W.iret (v := nI (kf_brs mW mZ ww zz ii).2.1) hx hb hr (fun t ht hW => ⟨_, rfl, hq, ht⟩) (fun _ h => nomatch h) dX4_branches_163
  · have kc_1 : ii < cs 0 := Nat.lt_of_not_le (fun h => c_1 (nI_le h (by omega)))
    refine lv_aload_n hx hb dX4_branches_26 rfl (lv_at hl 5 rfl) ?_
    refine lv_iload hx hb dX4_branches_27 (lv_at hl 4 rfl) ?_
    refine lv_lload_n hx hb dX4_branches_29 rfl (lv_at hl 6 rfl) ?_
    refine lv_iload_n hx hb dX4_branches_30 rfl (lv_at hl 7 rfl) ?_
    have hPc := hP.sub (ws' := [(mo, .inr (4, [.int tv, .ref mc, .ref mw, .ref mz, .ref mv, .ref mp, .ref mh])), (mc, .inl (gI G, 4, .inl (kz_z cs))), (mw, .inl (gJ G, 480, .inr (.inl mW))), (mz, .inl (gI G, 480, .inl (kz_z mZ))), (mv, .inl (gI G, 480, .inl mV)), (mp, .inl (gZ G, 3, .inl (kz_bo po))), (mh, .inl (gI G, 3, .inl (kz_pw pw)))]) [0, 1, 2, 3, 4, 5, 6] rfl
    refine kz_ci (v := if kf_bg (mW ii) (mZ ii) ww zz then 1 else 0) (va_runV (As := [.int (nI ii), .long ww, .int (nI zz)]) (rest := []) ⟨hx, hb, hml, hown, hts⟩ (c_X4_begins l G mo mc mw mz mv mp mh tv cs mW mZ mV po pw ii ww zz hmz (by omega) (by omega)) (cwV 3 hts gX4_branches_X4_begins rfl rfl rfl (by decide +kernel) ⟨Nat.le_of_ble_eq_true rfl, Nat.le_of_ble_eq_true rfl⟩) (kz_pv hK hPc (va_recv hK.1 hPc (ci := 4) (q0 := 0) rfl rfl)) rfl rfl hl.1 rfl (lv_room (Nat.le_of_ble_eq_true rfl)) dX4_branches_31 ⟨Nat.zero_le _, Nat.zero_le _⟩).run ?_
    refine lv_if_eq (tgt := 134) hx hb dX4_branches_34 (by decide) (fun c_5 => ?_) (fun c_5 => ?_)
    · have hnb := kf_if0 c_5
      refine lv_iinc (v := nI (ii + 1)) (lv' := [(8, .int (nI (ii + 1))), (4, .int (nI (kf_brs mW mZ ww zz ii).1)), (5, .int (nI (kf_brs mW mZ ww zz ii).2.1)), (6, .int (kf_b (kf_brs mW mZ ww zz ii).2.2.1)), (7, .int ((kf_brs mW mZ ww zz ii).2.2.2)), (0, .ref mo), (1, .long ww), (3, .int (nI zz))]) hx hb dX4_branches_134 hl (k := 4) rfl (nI_1 ii) (by decide) rfl (fun ls hl => ?_)
      refine lv_goto (tgt := 15) hx hb dX4_branches_137 (by decide) ?_
      have e9 : kf_brs mW mZ ww zz (ii + 1) = kf_brs mW mZ ww zz ii := by rw [kf_brs, if_neg hnb]
      exact ih ls (by omega) (by simp only [e9]; exact lv_sub hl [1, 2, 3, 4, 0, 5, 6, 7] rfl)
    · have hyb := kf_if1 c_5
      have hz9 := hmz ii
      refine lv_iinc (v := nI ((kf_brs mW mZ ww zz ii).1 + 1)) (lv' := [(4, .int (nI ((kf_brs mW mZ ww zz ii).1 + 1))), (5, .int (nI (kf_brs mW mZ ww zz ii).2.1)), (6, .int (kf_b (kf_brs mW mZ ww zz ii).2.2.1)), (7, .int ((kf_brs mW mZ ww zz ii).2.2.2)), (8, .int (nI ii)), (0, .ref mo), (1, .long ww), (3, .int (nI zz))]) hx hb dX4_branches_37 hl (k := 0) rfl (nI_1 _) (by decide) rfl (fun ls hl => ?_)
      refine lv_aload_n hx hb dX4_branches_40 rfl (lv_at hl 5 rfl) ?_
      refine va_get (D := G.1) (ci := 4) (v := .ref mz) (C := RX4) (T := TX4) (N := 7) hx hb hts hinX4 hown hK.1 hP 0 rfl rfl 3 (by decide) (hts (.fieldLink RX4 17 "ForkStoreModel" "sizes" "[I") (by decide +kernel)) (fun _ h9 => h9) rfl dX4_branches_41 ?_
      refine lv_iload hx hb dX4_branches_44 (lv_at hl 4 rfl) ?_
      refine kz_iald hx hb hK.1 hP 3 0 rfl rfl (k := ii) (by omega) (by decide) dX4_branches_46 ?_
      refine kz_asi (y := nI (mZ ii)) rfl ?_
      refine lv_iload_n hx hb dX4_branches_47 rfl (lv_at hl 7 rfl) ?_
      refine lv_icmp_ne (tgt := 55) hx hb dX4_branches_48 (by decide) (fun c_6 => ?_) (fun c_6 => ?_)
      · have hne : ¬ mZ ii = zz := fun h => c_6 (by rw [h])
        have hz8 : zz < 8 := by omega
        refine lv_iconst (v := 0) hx hb dX4_branches_55 (by decide) ?_
        refine lv_istore (lv' := [(9, .int 0), (4, .int (nI ((kf_brs mW mZ ww zz ii).1 + 1))), (5, .int (nI (kf_brs mW mZ ww zz ii).2.1)), (6, .int (kf_b (kf_brs mW mZ ww zz ii).2.2.1)), (7, .int ((kf_brs mW mZ ww zz ii).2.2.2)), (8, .int (nI ii)), (0, .ref mo), (1, .long ww), (3, .int (nI zz))]) hx hb dX4_branches_56 hl (by decide) rfl (fun ls hl => ?_)
        refine lv_iload hx hb dX4_branches_58 (lv_at hl 3 rfl) ?_
        refine lv_if_ne (tgt := 68) hx hb dX4_branches_60 (by decide) (fun c_7 => ?_) (fun c_7 => ?_)
        · have hen : (kf_brs mW mZ ww zz ii).2.2.1 = true := by
            cases h9 : (kf_brs mW mZ ww zz ii).2.2.1
            · exact absurd (by rw [h9]; rfl) c_7
            · rfl
          refine lv_iconst (v := 1) hx hb dX4_branches_68 (by decide) ?_
          refine lv_goto (tgt := 73) hx hb dX4_branches_69 (by decide) ?_
          refine lv_istore (lv' := [(6, .int 1), (9, .int 0), (4, .int (nI ((kf_brs mW mZ ww zz ii).1 + 1))), (5, .int (nI (kf_brs mW mZ ww zz ii).2.1)), (7, .int ((kf_brs mW mZ ww zz ii).2.2.2)), (8, .int (nI ii)), (0, .ref mo), (1, .long ww), (3, .int (nI zz))]) hx hb dX4_branches_73 hl (by decide) rfl (fun ls hl => ?_)
          refine lv_iload hx hb dX4_branches_75 (lv_at hl 1 rfl) ?_
          refine lv_if_eq (tgt := 84) hx hb dX4_branches_77 (by decide) (fun c_8 => ?_) (fun c_8 => ?_)
          · refine lv_aload_n hx hb dX4_branches_84 rfl (lv_at hl 6 rfl) ?_
            refine va_get (D := G.1) (ci := 4) (v := .ref mw) (C := RX4) (T := TX4) (N := 7) hx hb hts hinX4 hown hK.1 hP 0 rfl rfl 2 (by decide) (hts (.fieldLink RX4 13 "ForkStoreModel" "words" "[J") (by decide +kernel)) (fun _ h9 => h9) rfl dX4_branches_85 ?_
            refine lv_iload hx hb dX4_branches_88 (lv_at hl 5 rfl) ?_
            refine kz_lald hx hb hK.1 hP 2 1 rfl rfl (k := ii) (by omega) (by decide) dX4_branches_90 ?_
            refine lv_iload_n hx hb dX4_branches_91 rfl (lv_at hl 8 rfl) ?_
            refine kz_ci (v := nI (un (mW ii) / 2 ^ (56 - 8 * zz) % 256)) (va_runS (As := [.long (mW ii), .int (nI zz)]) (rest := []) ⟨hx, hb, hml, hown, hts⟩ (c_X4_part l (mW ii) zz (by omega)) (va_cwS 2 hts gX4_branches_X4_part rfl rfl rfl (by decide +kernel) ⟨Nat.le_of_ble_eq_true rfl, Nat.le_of_ble_eq_true rfl⟩) kz_ps0 rfl rfl hl.1 rfl (lv_room (Nat.le_of_ble_eq_true rfl)) dX4_branches_92 ⟨Nat.zero_le _, Nat.zero_le _⟩).run ?_
            refine lv_istore (lv' := [(10, .int (nI (un (mW ii) / 2 ^ (56 - 8 * zz) % 256))), (6, .int 1), (9, .int 0), (4, .int (nI ((kf_brs mW mZ ww zz ii).1 + 1))), (5, .int (nI (kf_brs mW mZ ww zz ii).2.1)), (7, .int ((kf_brs mW mZ ww zz ii).2.2.2)), (8, .int (nI ii)), (0, .ref mo), (1, .long ww), (3, .int (nI zz))]) hx hb dX4_branches_95 hl (by decide) rfl (fun ls hl => ?_)
            refine lv_iload hx hb dX4_branches_97 (lv_at hl 2 rfl) ?_
            refine lv_if_ne (tgt := 116) hx hb dX4_branches_99 (by decide) (fun c_9 => ?_) (fun c_9 => ?_)
            · exact absurd c_9 (by decide)
            · refine lv_iload hx hb dX4_branches_102 (lv_at hl 0 rfl) ?_
              refine lv_iload hx hb dX4_branches_104 (lv_at hl 5 rfl) ?_
              refine lv_icmp_eq (tgt := 116) hx hb dX4_branches_106 (by decide) (fun c_10 => ?_) (fun c_10 => ?_)
              · have hla := c_10
                refine lv_iload hx hb dX4_branches_116 (lv_at hl 4 rfl) ?_
                refine lv_istore (lv' := [(5, .int (nI (kf_brs mW mZ ww zz ii).2.1)), (10, .int (nI (un (mW ii) / 2 ^ (56 - 8 * zz) % 256))), (6, .int 1), (9, .int 0), (4, .int (nI ((kf_brs mW mZ ww zz ii).1 + 1))), (7, .int ((kf_brs mW mZ ww zz ii).2.2.2)), (8, .int (nI ii)), (0, .ref mo), (1, .long ww), (3, .int (nI zz))]) hx hb dX4_branches_118 hl (by decide) rfl (fun ls hl => ?_)
                refine lv_iload hx hb dX4_branches_120 (lv_at hl 3 rfl) ?_
                refine lv_if_eq (tgt := 130) hx hb dX4_branches_122 (by decide) (fun c_11 => ?_) (fun c_11 => ?_)
                · refine lv_iload hx hb dX4_branches_130 (lv_at hl 1 rfl) ?_
                  refine lv_istore (lv' := [(7, .int (nI (un (mW ii) / 2 ^ (56 - 8 * zz) % 256))), (5, .int (nI (kf_brs mW mZ ww zz ii).2.1)), (10, .int (nI (un (mW ii) / 2 ^ (56 - 8 * zz) % 256))), (6, .int 1), (9, .int 0), (4, .int (nI ((kf_brs mW mZ ww zz ii).1 + 1))), (8, .int (nI ii)), (0, .ref mo), (1, .long ww), (3, .int (nI zz))]) hx hb dX4_branches_132 hl (by decide) rfl (fun ls hl => ?_)
                  refine lv_iinc (v := nI (ii + 1)) (lv' := [(8, .int (nI (ii + 1))), (7, .int (nI (un (mW ii) / 2 ^ (56 - 8 * zz) % 256))), (5, .int (nI (kf_brs mW mZ ww zz ii).2.1)), (10, .int (nI (un (mW ii) / 2 ^ (56 - 8 * zz) % 256))), (6, .int 1), (9, .int 0), (4, .int (nI ((kf_brs mW mZ ww zz ii).1 + 1))), (0, .ref mo), (1, .long ww), (3, .int (nI zz))]) hx hb dX4_branches_134 hl (k := 6) rfl (nI_1 ii) (by decide) rfl (fun ls hl => ?_)
                  refine lv_goto (tgt := 15) hx hb dX4_branches_137 (by decide) ?_
                  have e9 : kf_brs mW mZ ww zz (ii + 1) = ((kf_brs mW mZ ww zz ii).1 + 1, (kf_brs mW mZ ww zz ii).2.1, true, nI (un (mW ii) / 2 ^ (56 - 8 * zz) % 256)) := by rw [kf_brs, if_pos hyb, if_neg hne, if_pos hla, hen]
                  exact ih ls (by omega) (by simp only [e9]; exact lv_sub hl [6, 2, 4, 1, 0, 7, 8, 9] rfl)
                · exact absurd c_11 (by decide)
              · have hla := c_10
                refine lv_iload hx hb dX4_branches_109 (lv_at hl 4 rfl) ?_
                refine lv_iconst (v := 1) hx hb dX4_branches_111 (by decide) ?_
                refine lv_iadd hx hb dX4_branches_112 ?_
                refine kz_asi (y := nI ((kf_brs mW mZ ww zz ii).2.1 + 1)) (nI_1 _) ?_
                refine lv_goto (tgt := 118) hx hb dX4_branches_113 (by decide) ?_
                refine lv_istore (lv' := [(5, .int (nI ((kf_brs mW mZ ww zz ii).2.1 + 1))), (10, .int (nI (un (mW ii) / 2 ^ (56 - 8 * zz) % 256))), (6, .int 1), (9, .int 0), (4, .int (nI ((kf_brs mW mZ ww zz ii).1 + 1))), (7, .int ((kf_brs mW mZ ww zz ii).2.2.2)), (8, .int (nI ii)), (0, .ref mo), (1, .long ww), (3, .int (nI zz))]) hx hb dX4_branches_118 hl (by decide) rfl (fun ls hl => ?_)
                refine lv_iload hx hb dX4_branches_120 (lv_at hl 3 rfl) ?_
                refine lv_if_eq (tgt := 130) hx hb dX4_branches_122 (by decide) (fun c_12 => ?_) (fun c_12 => ?_)
                · refine lv_iload hx hb dX4_branches_130 (lv_at hl 1 rfl) ?_
                  refine lv_istore (lv' := [(7, .int (nI (un (mW ii) / 2 ^ (56 - 8 * zz) % 256))), (5, .int (nI ((kf_brs mW mZ ww zz ii).2.1 + 1))), (10, .int (nI (un (mW ii) / 2 ^ (56 - 8 * zz) % 256))), (6, .int 1), (9, .int 0), (4, .int (nI ((kf_brs mW mZ ww zz ii).1 + 1))), (8, .int (nI ii)), (0, .ref mo), (1, .long ww), (3, .int (nI zz))]) hx hb dX4_branches_132 hl (by decide) rfl (fun ls hl => ?_)
                  refine lv_iinc (v := nI (ii + 1)) (lv' := [(8, .int (nI (ii + 1))), (7, .int (nI (un (mW ii) / 2 ^ (56 - 8 * zz) % 256))), (5, .int (nI ((kf_brs mW mZ ww zz ii).2.1 + 1))), (10, .int (nI (un (mW ii) / 2 ^ (56 - 8 * zz) % 256))), (6, .int 1), (9, .int 0), (4, .int (nI ((kf_brs mW mZ ww zz ii).1 + 1))), (0, .ref mo), (1, .long ww), (3, .int (nI zz))]) hx hb dX4_branches_134 hl (k := 6) rfl (nI_1 ii) (by decide) rfl (fun ls hl => ?_)
                  refine lv_goto (tgt := 15) hx hb dX4_branches_137 (by decide) ?_
                  have e9 : kf_brs mW mZ ww zz (ii + 1) = ((kf_brs mW mZ ww zz ii).1 + 1, (kf_brs mW mZ ww zz ii).2.1 + 1, true, nI (un (mW ii) / 2 ^ (56 - 8 * zz) % 256)) := by rw [kf_brs, if_pos hyb, if_neg hne, if_neg hla, hen]
                  exact ih ls (by omega) (by simp only [e9]; exact lv_sub hl [6, 2, 4, 1, 0, 7, 8, 9] rfl)
                · exact absurd c_12 (by decide)
          · exact absurd c_8 (by decide)
        · have hen : (kf_brs mW mZ ww zz ii).2.2.1 = false := kf_b_0.mp c_7
          refine lv_iload hx hb dX4_branches_63 (lv_at hl 0 rfl) ?_
          refine lv_if_eq (tgt := 72) hx hb dX4_branches_65 (by decide) (fun c_13 => ?_) (fun c_13 => ?_)
          · refine lv_iconst (v := 0) hx hb dX4_branches_72 (by decide) ?_
            refine lv_istore (lv' := [(6, .int 0), (9, .int 0), (4, .int (nI ((kf_brs mW mZ ww zz ii).1 + 1))), (5, .int (nI (kf_brs mW mZ ww zz ii).2.1)), (7, .int ((kf_brs mW mZ ww zz ii).2.2.2)), (8, .int (nI ii)), (0, .ref mo), (1, .long ww), (3, .int (nI zz))]) hx hb dX4_branches_73 hl (by decide) rfl (fun ls hl => ?_)
            refine lv_iload hx hb dX4_branches_75 (lv_at hl 1 rfl) ?_
            refine lv_if_eq (tgt := 84) hx hb dX4_branches_77 (by decide) (fun c_14 => ?_) (fun c_14 => ?_)
            · refine lv_aload_n hx hb dX4_branches_84 rfl (lv_at hl 6 rfl) ?_
              refine va_get (D := G.1) (ci := 4) (v := .ref mw) (C := RX4) (T := TX4) (N := 7) hx hb hts hinX4 hown hK.1 hP 0 rfl rfl 2 (by decide) (hts (.fieldLink RX4 13 "ForkStoreModel" "words" "[J") (by decide +kernel)) (fun _ h9 => h9) rfl dX4_branches_85 ?_
              refine lv_iload hx hb dX4_branches_88 (lv_at hl 5 rfl) ?_
              refine kz_lald hx hb hK.1 hP 2 1 rfl rfl (k := ii) (by omega) (by decide) dX4_branches_90 ?_
              refine lv_iload_n hx hb dX4_branches_91 rfl (lv_at hl 8 rfl) ?_
              refine kz_ci (v := nI (un (mW ii) / 2 ^ (56 - 8 * zz) % 256)) (va_runS (As := [.long (mW ii), .int (nI zz)]) (rest := []) ⟨hx, hb, hml, hown, hts⟩ (c_X4_part l (mW ii) zz (by omega)) (va_cwS 2 hts gX4_branches_X4_part rfl rfl rfl (by decide +kernel) ⟨Nat.le_of_ble_eq_true rfl, Nat.le_of_ble_eq_true rfl⟩) kz_ps0 rfl rfl hl.1 rfl (lv_room (Nat.le_of_ble_eq_true rfl)) dX4_branches_92 ⟨Nat.zero_le _, Nat.zero_le _⟩).run ?_
              refine lv_istore (lv' := [(10, .int (nI (un (mW ii) / 2 ^ (56 - 8 * zz) % 256))), (6, .int 0), (9, .int 0), (4, .int (nI ((kf_brs mW mZ ww zz ii).1 + 1))), (5, .int (nI (kf_brs mW mZ ww zz ii).2.1)), (7, .int ((kf_brs mW mZ ww zz ii).2.2.2)), (8, .int (nI ii)), (0, .ref mo), (1, .long ww), (3, .int (nI zz))]) hx hb dX4_branches_95 hl (by decide) rfl (fun ls hl => ?_)
              refine lv_iload hx hb dX4_branches_97 (lv_at hl 2 rfl) ?_
              refine lv_if_ne (tgt := 116) hx hb dX4_branches_99 (by decide) (fun c_15 => ?_) (fun c_15 => ?_)
              · exact absurd c_15 (by decide)
              · refine lv_iload hx hb dX4_branches_102 (lv_at hl 0 rfl) ?_
                refine lv_iload hx hb dX4_branches_104 (lv_at hl 5 rfl) ?_
                refine lv_icmp_eq (tgt := 116) hx hb dX4_branches_106 (by decide) (fun c_16 => ?_) (fun c_16 => ?_)
                · have hla := c_16
                  refine lv_iload hx hb dX4_branches_116 (lv_at hl 4 rfl) ?_
                  refine lv_istore (lv' := [(5, .int (nI (kf_brs mW mZ ww zz ii).2.1)), (10, .int (nI (un (mW ii) / 2 ^ (56 - 8 * zz) % 256))), (6, .int 0), (9, .int 0), (4, .int (nI ((kf_brs mW mZ ww zz ii).1 + 1))), (7, .int ((kf_brs mW mZ ww zz ii).2.2.2)), (8, .int (nI ii)), (0, .ref mo), (1, .long ww), (3, .int (nI zz))]) hx hb dX4_branches_118 hl (by decide) rfl (fun ls hl => ?_)
                  refine lv_iload hx hb dX4_branches_120 (lv_at hl 3 rfl) ?_
                  refine lv_if_eq (tgt := 130) hx hb dX4_branches_122 (by decide) (fun c_17 => ?_) (fun c_17 => ?_)
                  · refine lv_iload hx hb dX4_branches_130 (lv_at hl 1 rfl) ?_
                    refine lv_istore (lv' := [(7, .int (nI (un (mW ii) / 2 ^ (56 - 8 * zz) % 256))), (5, .int (nI (kf_brs mW mZ ww zz ii).2.1)), (10, .int (nI (un (mW ii) / 2 ^ (56 - 8 * zz) % 256))), (6, .int 0), (9, .int 0), (4, .int (nI ((kf_brs mW mZ ww zz ii).1 + 1))), (8, .int (nI ii)), (0, .ref mo), (1, .long ww), (3, .int (nI zz))]) hx hb dX4_branches_132 hl (by decide) rfl (fun ls hl => ?_)
                    refine lv_iinc (v := nI (ii + 1)) (lv' := [(8, .int (nI (ii + 1))), (7, .int (nI (un (mW ii) / 2 ^ (56 - 8 * zz) % 256))), (5, .int (nI (kf_brs mW mZ ww zz ii).2.1)), (10, .int (nI (un (mW ii) / 2 ^ (56 - 8 * zz) % 256))), (6, .int 0), (9, .int 0), (4, .int (nI ((kf_brs mW mZ ww zz ii).1 + 1))), (0, .ref mo), (1, .long ww), (3, .int (nI zz))]) hx hb dX4_branches_134 hl (k := 6) rfl (nI_1 ii) (by decide) rfl (fun ls hl => ?_)
                    refine lv_goto (tgt := 15) hx hb dX4_branches_137 (by decide) ?_
                    have e9 : kf_brs mW mZ ww zz (ii + 1) = ((kf_brs mW mZ ww zz ii).1 + 1, (kf_brs mW mZ ww zz ii).2.1, false, nI (un (mW ii) / 2 ^ (56 - 8 * zz) % 256)) := by rw [kf_brs, if_pos hyb, if_neg hne, if_pos hla, hen]
                    exact ih ls (by omega) (by simp only [e9]; exact lv_sub hl [6, 2, 4, 1, 0, 7, 8, 9] rfl)
                  · exact absurd c_17 (by decide)
                · have hla := c_16
                  refine lv_iload hx hb dX4_branches_109 (lv_at hl 4 rfl) ?_
                  refine lv_iconst (v := 1) hx hb dX4_branches_111 (by decide) ?_
                  refine lv_iadd hx hb dX4_branches_112 ?_
                  refine kz_asi (y := nI ((kf_brs mW mZ ww zz ii).2.1 + 1)) (nI_1 _) ?_
                  refine lv_goto (tgt := 118) hx hb dX4_branches_113 (by decide) ?_
                  refine lv_istore (lv' := [(5, .int (nI ((kf_brs mW mZ ww zz ii).2.1 + 1))), (10, .int (nI (un (mW ii) / 2 ^ (56 - 8 * zz) % 256))), (6, .int 0), (9, .int 0), (4, .int (nI ((kf_brs mW mZ ww zz ii).1 + 1))), (7, .int ((kf_brs mW mZ ww zz ii).2.2.2)), (8, .int (nI ii)), (0, .ref mo), (1, .long ww), (3, .int (nI zz))]) hx hb dX4_branches_118 hl (by decide) rfl (fun ls hl => ?_)
                  refine lv_iload hx hb dX4_branches_120 (lv_at hl 3 rfl) ?_
                  refine lv_if_eq (tgt := 130) hx hb dX4_branches_122 (by decide) (fun c_18 => ?_) (fun c_18 => ?_)
                  · refine lv_iload hx hb dX4_branches_130 (lv_at hl 1 rfl) ?_
                    refine lv_istore (lv' := [(7, .int (nI (un (mW ii) / 2 ^ (56 - 8 * zz) % 256))), (5, .int (nI ((kf_brs mW mZ ww zz ii).2.1 + 1))), (10, .int (nI (un (mW ii) / 2 ^ (56 - 8 * zz) % 256))), (6, .int 0), (9, .int 0), (4, .int (nI ((kf_brs mW mZ ww zz ii).1 + 1))), (8, .int (nI ii)), (0, .ref mo), (1, .long ww), (3, .int (nI zz))]) hx hb dX4_branches_132 hl (by decide) rfl (fun ls hl => ?_)
                    refine lv_iinc (v := nI (ii + 1)) (lv' := [(8, .int (nI (ii + 1))), (7, .int (nI (un (mW ii) / 2 ^ (56 - 8 * zz) % 256))), (5, .int (nI ((kf_brs mW mZ ww zz ii).2.1 + 1))), (10, .int (nI (un (mW ii) / 2 ^ (56 - 8 * zz) % 256))), (6, .int 0), (9, .int 0), (4, .int (nI ((kf_brs mW mZ ww zz ii).1 + 1))), (0, .ref mo), (1, .long ww), (3, .int (nI zz))]) hx hb dX4_branches_134 hl (k := 6) rfl (nI_1 ii) (by decide) rfl (fun ls hl => ?_)
                    refine lv_goto (tgt := 15) hx hb dX4_branches_137 (by decide) ?_
                    have e9 : kf_brs mW mZ ww zz (ii + 1) = ((kf_brs mW mZ ww zz ii).1 + 1, (kf_brs mW mZ ww zz ii).2.1 + 1, false, nI (un (mW ii) / 2 ^ (56 - 8 * zz) % 256)) := by rw [kf_brs, if_pos hyb, if_neg hne, if_neg hla, hen]
                    exact ih ls (by omega) (by simp only [e9]; exact lv_sub hl [6, 2, 4, 1, 0, 7, 8, 9] rfl)
                  · exact absurd c_18 (by decide)
            · exact absurd c_14 (by decide)
          · exact absurd c_13 (by decide)
      · have heq : mZ ii = zz := (nI_eq (by omega) (by omega)).mp c_6
        refine lv_iconst (v := 1) hx hb dX4_branches_51 (by decide) ?_
        refine lv_goto (tgt := 56) hx hb dX4_branches_52 (by decide) ?_
        refine lv_istore (lv' := [(9, .int 1), (4, .int (nI ((kf_brs mW mZ ww zz ii).1 + 1))), (5, .int (nI (kf_brs mW mZ ww zz ii).2.1)), (6, .int (kf_b (kf_brs mW mZ ww zz ii).2.2.1)), (7, .int ((kf_brs mW mZ ww zz ii).2.2.2)), (8, .int (nI ii)), (0, .ref mo), (1, .long ww), (3, .int (nI zz))]) hx hb dX4_branches_56 hl (by decide) rfl (fun ls hl => ?_)
        refine lv_iload hx hb dX4_branches_58 (lv_at hl 3 rfl) ?_
        refine lv_if_ne (tgt := 68) hx hb dX4_branches_60 (by decide) (fun c_19 => ?_) (fun c_19 => ?_)
        · have hen : (kf_brs mW mZ ww zz ii).2.2.1 = true := by
            cases h9 : (kf_brs mW mZ ww zz ii).2.2.1
            · exact absurd (by rw [h9]; rfl) c_19
            · rfl
          refine lv_iconst (v := 1) hx hb dX4_branches_68 (by decide) ?_
          refine lv_goto (tgt := 73) hx hb dX4_branches_69 (by decide) ?_
          refine lv_istore (lv' := [(6, .int 1), (9, .int 1), (4, .int (nI ((kf_brs mW mZ ww zz ii).1 + 1))), (5, .int (nI (kf_brs mW mZ ww zz ii).2.1)), (7, .int ((kf_brs mW mZ ww zz ii).2.2.2)), (8, .int (nI ii)), (0, .ref mo), (1, .long ww), (3, .int (nI zz))]) hx hb dX4_branches_73 hl (by decide) rfl (fun ls hl => ?_)
          refine lv_iload hx hb dX4_branches_75 (lv_at hl 1 rfl) ?_
          refine lv_if_eq (tgt := 84) hx hb dX4_branches_77 (by decide) (fun c_20 => ?_) (fun c_20 => ?_)
          · exact absurd c_20 (by decide)
          · refine lv_iconst (v := (-1)) hx hb dX4_branches_80 (by decide) ?_
            refine lv_goto (tgt := 95) hx hb dX4_branches_81 (by decide) ?_
            refine lv_istore (lv' := [(10, .int (-1)), (6, .int 1), (9, .int 1), (4, .int (nI ((kf_brs mW mZ ww zz ii).1 + 1))), (5, .int (nI (kf_brs mW mZ ww zz ii).2.1)), (7, .int ((kf_brs mW mZ ww zz ii).2.2.2)), (8, .int (nI ii)), (0, .ref mo), (1, .long ww), (3, .int (nI zz))]) hx hb dX4_branches_95 hl (by decide) rfl (fun ls hl => ?_)
            refine lv_iload hx hb dX4_branches_97 (lv_at hl 2 rfl) ?_
            refine lv_if_ne (tgt := 116) hx hb dX4_branches_99 (by decide) (fun c_21 => ?_) (fun c_21 => ?_)
            · refine lv_iload hx hb dX4_branches_116 (lv_at hl 4 rfl) ?_
              refine lv_istore (lv' := [(5, .int (nI (kf_brs mW mZ ww zz ii).2.1)), (10, .int (-1)), (6, .int 1), (9, .int 1), (4, .int (nI ((kf_brs mW mZ ww zz ii).1 + 1))), (7, .int ((kf_brs mW mZ ww zz ii).2.2.2)), (8, .int (nI ii)), (0, .ref mo), (1, .long ww), (3, .int (nI zz))]) hx hb dX4_branches_118 hl (by decide) rfl (fun ls hl => ?_)
              refine lv_iload hx hb dX4_branches_120 (lv_at hl 3 rfl) ?_
              refine lv_if_eq (tgt := 130) hx hb dX4_branches_122 (by decide) (fun c_22 => ?_) (fun c_22 => ?_)
              · exact absurd c_22 (by decide)
              · refine lv_iload hx hb dX4_branches_125 (lv_at hl 5 rfl) ?_
                refine lv_goto (tgt := 132) hx hb dX4_branches_127 (by decide) ?_
                refine lv_istore (lv' := [(7, .int ((kf_brs mW mZ ww zz ii).2.2.2)), (5, .int (nI (kf_brs mW mZ ww zz ii).2.1)), (10, .int (-1)), (6, .int 1), (9, .int 1), (4, .int (nI ((kf_brs mW mZ ww zz ii).1 + 1))), (8, .int (nI ii)), (0, .ref mo), (1, .long ww), (3, .int (nI zz))]) hx hb dX4_branches_132 hl (by decide) rfl (fun ls hl => ?_)
                refine lv_iinc (v := nI (ii + 1)) (lv' := [(8, .int (nI (ii + 1))), (7, .int ((kf_brs mW mZ ww zz ii).2.2.2)), (5, .int (nI (kf_brs mW mZ ww zz ii).2.1)), (10, .int (-1)), (6, .int 1), (9, .int 1), (4, .int (nI ((kf_brs mW mZ ww zz ii).1 + 1))), (0, .ref mo), (1, .long ww), (3, .int (nI zz))]) hx hb dX4_branches_134 hl (k := 6) rfl (nI_1 ii) (by decide) rfl (fun ls hl => ?_)
                refine lv_goto (tgt := 15) hx hb dX4_branches_137 (by decide) ?_
                have e9 : kf_brs mW mZ ww zz (ii + 1) = ((kf_brs mW mZ ww zz ii).1 + 1, (kf_brs mW mZ ww zz ii).2.1, true, (kf_brs mW mZ ww zz ii).2.2.2) := by rw [kf_brs, if_pos hyb, if_pos heq]
                exact ih ls (by omega) (by simp only [e9]; exact lv_sub hl [6, 2, 4, 1, 0, 7, 8, 9] rfl)
            · exact absurd c_21 (by decide)
        · have hen : (kf_brs mW mZ ww zz ii).2.2.1 = false := kf_b_0.mp c_19
          refine lv_iload hx hb dX4_branches_63 (lv_at hl 0 rfl) ?_
          refine lv_if_eq (tgt := 72) hx hb dX4_branches_65 (by decide) (fun c_23 => ?_) (fun c_23 => ?_)
          · exact absurd c_23 (by decide)
          · refine lv_iconst (v := 1) hx hb dX4_branches_68 (by decide) ?_
            refine lv_goto (tgt := 73) hx hb dX4_branches_69 (by decide) ?_
            refine lv_istore (lv' := [(6, .int 1), (9, .int 1), (4, .int (nI ((kf_brs mW mZ ww zz ii).1 + 1))), (5, .int (nI (kf_brs mW mZ ww zz ii).2.1)), (7, .int ((kf_brs mW mZ ww zz ii).2.2.2)), (8, .int (nI ii)), (0, .ref mo), (1, .long ww), (3, .int (nI zz))]) hx hb dX4_branches_73 hl (by decide) rfl (fun ls hl => ?_)
            refine lv_iload hx hb dX4_branches_75 (lv_at hl 1 rfl) ?_
            refine lv_if_eq (tgt := 84) hx hb dX4_branches_77 (by decide) (fun c_24 => ?_) (fun c_24 => ?_)
            · exact absurd c_24 (by decide)
            · refine lv_iconst (v := (-1)) hx hb dX4_branches_80 (by decide) ?_
              refine lv_goto (tgt := 95) hx hb dX4_branches_81 (by decide) ?_
              refine lv_istore (lv' := [(10, .int (-1)), (6, .int 1), (9, .int 1), (4, .int (nI ((kf_brs mW mZ ww zz ii).1 + 1))), (5, .int (nI (kf_brs mW mZ ww zz ii).2.1)), (7, .int ((kf_brs mW mZ ww zz ii).2.2.2)), (8, .int (nI ii)), (0, .ref mo), (1, .long ww), (3, .int (nI zz))]) hx hb dX4_branches_95 hl (by decide) rfl (fun ls hl => ?_)
              refine lv_iload hx hb dX4_branches_97 (lv_at hl 2 rfl) ?_
              refine lv_if_ne (tgt := 116) hx hb dX4_branches_99 (by decide) (fun c_25 => ?_) (fun c_25 => ?_)
              · refine lv_iload hx hb dX4_branches_116 (lv_at hl 4 rfl) ?_
                refine lv_istore (lv' := [(5, .int (nI (kf_brs mW mZ ww zz ii).2.1)), (10, .int (-1)), (6, .int 1), (9, .int 1), (4, .int (nI ((kf_brs mW mZ ww zz ii).1 + 1))), (7, .int ((kf_brs mW mZ ww zz ii).2.2.2)), (8, .int (nI ii)), (0, .ref mo), (1, .long ww), (3, .int (nI zz))]) hx hb dX4_branches_118 hl (by decide) rfl (fun ls hl => ?_)
                refine lv_iload hx hb dX4_branches_120 (lv_at hl 3 rfl) ?_
                refine lv_if_eq (tgt := 130) hx hb dX4_branches_122 (by decide) (fun c_26 => ?_) (fun c_26 => ?_)
                · exact absurd c_26 (by decide)
                · refine lv_iload hx hb dX4_branches_125 (lv_at hl 5 rfl) ?_
                  refine lv_goto (tgt := 132) hx hb dX4_branches_127 (by decide) ?_
                  refine lv_istore (lv' := [(7, .int ((kf_brs mW mZ ww zz ii).2.2.2)), (5, .int (nI (kf_brs mW mZ ww zz ii).2.1)), (10, .int (-1)), (6, .int 1), (9, .int 1), (4, .int (nI ((kf_brs mW mZ ww zz ii).1 + 1))), (8, .int (nI ii)), (0, .ref mo), (1, .long ww), (3, .int (nI zz))]) hx hb dX4_branches_132 hl (by decide) rfl (fun ls hl => ?_)
                  refine lv_iinc (v := nI (ii + 1)) (lv' := [(8, .int (nI (ii + 1))), (7, .int ((kf_brs mW mZ ww zz ii).2.2.2)), (5, .int (nI (kf_brs mW mZ ww zz ii).2.1)), (10, .int (-1)), (6, .int 1), (9, .int 1), (4, .int (nI ((kf_brs mW mZ ww zz ii).1 + 1))), (0, .ref mo), (1, .long ww), (3, .int (nI zz))]) hx hb dX4_branches_134 hl (k := 6) rfl (nI_1 ii) (by decide) rfl (fun ls hl => ?_)
                  refine lv_goto (tgt := 15) hx hb dX4_branches_137 (by decide) ?_
                  have e9 : kf_brs mW mZ ww zz (ii + 1) = ((kf_brs mW mZ ww zz ii).1 + 1, (kf_brs mW mZ ww zz ii).2.1, true, (kf_brs mW mZ ww zz ii).2.2.2) := by rw [kf_brs, if_pos hyb, if_pos heq]
                  exact ih ls (by omega) (by simp only [e9]; exact lv_sub hl [6, 2, 4, 1, 0, 7, 8, 9] rfl)
              · exact absurd c_25 (by decide)
