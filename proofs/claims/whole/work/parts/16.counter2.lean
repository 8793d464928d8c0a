/-- the walk of ForkCounter.countOfSize: behind i turns, what was found, and the branches under way -/
def kf_cs (fw : Nat → Int64) (zs : Nat → Nat) (sq : Nat) : Nat → Nat × (Nat → Nat)
  | 0 => (0, kf_z0)
  | i + 1 => ((kf_cs fw zs sq i).1 + kf_cnt (kf_ep (kf_cs fw zs sq i).2 sq (kf_fk fw zs i + 1)) (max (kf_fk fw zs i + 1) 8), kf_ab (kf_zr (kf_cs fw zs sq i).2 (kf_fk fw zs i + 1) (max (kf_fk fw zs i + 1) 8)) (kf_fk fw zs i) (if zs i = kf_fk fw zs i then 1 else 0))
theorem kf_zr_le (bs : Nat → Nat) (st i j : Nat) : kf_zr bs st i j ≤ bs j := by
  unfold kf_zr
  split <;> omega
theorem kf_ab_le {bs : Nat → Nat} {m : Nat} (h : ∀ j, bs j ≤ m) (ff : Nat) (kv : Int32) (j : Nat) : kf_ab bs ff kv j ≤ m + 2 := by
  have h1 := h j
  unfold kf_ab
  split
  · unfold kz_un
    split
    · have h2 := h ff
      split <;> omega
    · omega
  · omega
theorem kf_cs_le (fw : Nat → Int64) (zs : Nat → Nat) (sq : Nat) : ∀ i j, (kf_cs fw zs sq i).2 j ≤ 2 * i
  | 0, j => Nat.le_refl _
  | i + 1, j => kf_ab_le (m := 2 * i) (fun j => Nat.le_trans (kf_zr_le _ _ _ j) (kf_cs_le fw zs sq i j)) _ _ j
theorem kf_cs_hi (fw : Nat → Int64) (zs : Nat → Nat) (sq : Nat) : ∀ i j, 8 ≤ j → (kf_cs fw zs sq i).2 j = 0
  | 0, j, _ => rfl
  | i + 1, j, h => by
    have h1 := kf_cs_hi fw zs sq i j h
    have h2 : kf_zr (kf_cs fw zs sq i).2 (kf_fk fw zs i + 1) (max (kf_fk fw zs i + 1) 8) j = 0 := by
      have := kf_zr_le (kf_cs fw zs sq i).2 (kf_fk fw zs i + 1) (max (kf_fk fw zs i + 1) 8) j
      omega
    show kf_ab _ _ _ j = 0
    unfold kf_ab
    split
    · unfold kz_un
      rw [if_neg (by omega)]
      exact h2
    · exact h2
theorem kf_cs_end (fw : Nat → Int64) (zs : Nat → Nat) (sq i : Nat) : kf_zr (kf_cs fw zs sq i).2 0 (max 0 8) = kf_z0 := by
  funext j
  unfold kf_zr kf_z0
  split
  · rfl
  · exact kf_cs_hi fw zs sq i j (by omega)
/-- ForkCounter.countOfSize -/
def kf_forks (fw : Nat → Int64) (zs : Nat → Nat) (sq nn : Nat) : Nat := (kf_cs fw zs sq (nn - 1)).1 + kf_cnt (kf_ep (kf_cs fw zs sq (nn - 1)).2 sq 0) (max 0 8)

set_option maxHeartbeats 4000000 in
set_option maxRecDepth 100000 in
theorem c_X0_countOfSize (l : Launch) (G : kz_G) (hc ab : Nat) (hk aw az an nn : Nat) (fw : Nat → Int64) (zs : Nat → Nat) (fv : Nat → Int32) (sq : Nat) (sz : Nat) (hn : nn ≤ 120) (hz : ∀ j, zs j ≤ 8) (hsq : sq ≤ 3) : Met l yX0_countOfSize wsX0_countOfSize { frames := 4, cells := 0, slots := 0, locals := 90 } (kz_Pm G [.ref hc, .ref hk, .int (nI sq)] [(hc, .inr (0, [.ref ab])), (ab, .inl (gI G, 8, .inl (kz_z kf_z0))), (hk, .inr (1, [.ref aw, .ref az, .ref an, .int (nI nn)])), (aw, .inl (gJ G, 120, .inr (.inl fw))), (az, .inl (gI G, 120, .inl (kz_z zs))), (an, .inl (gI G, 120, .inl fv))] sz) (kz_Qi G (fun r w => r = nI (kf_forks fw zs sq nn) ∧ w = [(hc, .inr (0, [.ref ab])), (ab, .inl (gI G, 8, .inl (kz_z kf_z0))), (hk, .inr (1, [.ref aw, .ref az, .ref an, .int (nI nn)])), (aw, .inl (gJ G, 120, .inr (.inl fw))), (az, .inl (gI G, 120, .inl (kz_z zs))), (an, .inl (gI G, 120, .inl fv))]) (va_A [(hc, .inr (0, [.ref ab])), (ab, .inl (gI G, 8, .inl (kz_z kf_z0))), (hk, .inr (1, [.ref aw, .ref az, .ref an, .int (nI nn)])), (aw, .inl (gJ G, 120, .inr (.inl fw))), (az, .inl (gI G, 120, .inl (kz_z zs))), (an, .inl (gI G, 120, .inl fv))] sz)) 0 0 (va_A [(hc, .inr (0, [.ref ab])), (ab, .inl (gI G, 8, .inl (kz_z kf_z0))), (hk, .inr (1, [.ref aw, .ref az, .ref an, .int (nI nn)])), (aw, .inl (gJ G, 120, .inr (.inl fw))), (az, .inl (gI G, 120, .inl (kz_z zs))), (an, .inl (gI G, 120, .inl fv))] sz) := by
  refine Met.ofW (cc := cX0_countOfSize) (maxL := 6) (ret := (some .int)) (by decide) rfl ?_
  intro p e s m args below meth c s₁ B hml hv
  obtain ⟨rfl, hsz, hP, hK, hD0⟩ := hv
  have hx := B.exec
  have hb := B.bytes
  have hr := B.returns
  have hts := atoms_spec (ws := wsX0_countOfSize) B.pre
  have hown : s.vm.findClass RX0 = some m.cls := findClass_of_methodNamed B.named
  have hlocks := B.notSynchronized
  subst hsz
  have hD := hD0.self (sz := s.heap.size)
  generalize hAe : va_A [(hc, .inr (0, [.ref ab])), (ab, .inl (gI G, 8, .inl (kz_z kf_z0))), (hk, .inr (1, [.ref aw, .ref az, .ref an, .int (nI nn)])), (aw, .inl (gJ G, 120, .inr (.inl fw))), (az, .inl (gI G, 120, .inl (kz_z zs))), (an, .inl (gI G, 120, .inl fv))] s.heap.size = A at hD ⊢
  have hA : ∀ q : Nat, s.heap.size ≤ q → A q := fun q h => by rw [← hAe]; exact Or.inr h
  have hS : va_S A s.heap s.heap [] := va_S.rf
  have hP : va_P G.1 vwCl [(hc, .inr (0, [.ref ab])), (ab, .inl (gI G, 8, .inl (kz_z kf_z0))), (hk, .inr (1, [.ref aw, .ref az, .ref an, .int (nI nn)])), (aw, .inl (gJ G, 120, .inr (.inl fw))), (az, .inl (gI G, 120, .inl (kz_z zs))), (an, .inl (gI G, 120, .inl fv))] s.heap := hP
  have hl := lv_entry ([.ref hc, .ref hk, .int (nI sq)]) (n := 6) (Nat.le_of_ble_eq_true rfl)
  rw [lg_entry_eq]
  generalize (lg_sl ([.ref hc, .ref hk, .int (nI sq)]) ++ List.replicate (6 - (lg_sl ([.ref hc, .ref hk, .int (nI sq)])).length) Slot.unset).toArray = ls at hl ⊢
  have hl : lv_has ls 6 [(0, .ref hc), (1, .ref hk), (2, .int (nI sq))] := hl
  refine lv_iconst (v := 0) hx hb dX0_countOfSize_0 (by decide) ?_
  refine lv_istore_n (lv' := [(3, .int 0), (0, .ref hc), (1, .ref hk), (2, .int (nI sq))]) hx hb dX0_countOfSize_1 rfl hl (by decide) rfl (fun ls hl => ?_)
  refine lv_iconst (v := 0) hx hb dX0_countOfSize_2 (by decide) ?_
  refine lv_istore (lv' := [(4, .int 0), (3, .int 0), (0, .ref hc), (1, .ref hk), (2, .int (nI sq))]) hx hb dX0_countOfSize_3 hl (by decide) rfl (fun ls hl => ?_)
  refine kz_loopm (D := G.1) (cl := vwCl) (A := A) (H0 := s.heap) (nL := 6) (hd := 5) (e9 := nn - 1) (i0 := 0) (LV := fun ii => [(3, .int (nI ((kf_cs fw zs sq ii).1))), (4, .int (nI ii)), (0, .ref hc), (1, .ref hk), (2, .int (nI sq))]) (WV := fun ii => [(hc, .inr (0, [.ref ab])), (ab, .inl (gI G, 8, .inl (kz_z ((kf_cs fw zs sq ii).2)))), (hk, .inr (1, [.ref aw, .ref az, .ref an, .int (nI nn)])), (aw, .inl (gJ G, 120, .inr (.inl fw))), (az, .inl (gI G, 120, .inl (kz_z zs))), (an, .inl (gI G, 120, .inl fv))]) (fun ii H locs ls hii hl hP hD hS ih => ?_) (Nat.zero_le _) (lv_sub hl [1, 0, 2, 3, 4] rfl) hP hD hS
  have hl : lv_has ls 6 [(3, .int (nI ((kf_cs fw zs sq ii).1))), (4, .int (nI ii)), (0, .ref hc), (1, .ref hk), (2, .int (nI sq))] := hl
  have hP : va_P G.1 vwCl [(hc, .inr (0, [.ref ab])), (ab, .inl (gI G, 8, .inl (kz_z ((kf_cs fw zs sq ii).2)))), (hk, .inr (1, [.ref aw, .ref az, .ref an, .int (nI nn)])), (aw, .inl (gJ G, 120, .inr (.inl fw))), (az, .inl (gI G, 120, .inl (kz_z zs))), (an, .inl (gI G, 120, .inl fv))] H := hP
  have hD : va_D A [(hc, .inr (0, [.ref ab])), (ab, .inl (gI G, 8, .inl (kz_z ((kf_cs fw zs sq ii).2)))), (hk, .inr (1, [.ref aw, .ref az, .ref an, .int (nI nn)])), (aw, .inl (gJ G, 120, .inr (.inl fw))), (az, .inl (gI G, 120, .inl (kz_z zs))), (an, .inl (gI G, 120, .inl fv))] := hD
  refine lv_iload hx hb dX0_countOfSize_5 (lv_at hl 1 rfl) ?_
  refine lv_iconst (v := 1) hx hb dX0_countOfSize_7 (by decide) ?_
  refine lv_iadd hx hb dX0_countOfSize_8 ?_
  refine kz_asi (y := nI (ii + 1)) (nI_1 ii) ?_
  refine lv_aload_n hx hb dX0_countOfSize_9 rfl (lv_at hl 3 rfl) ?_
  have hPc := hP.sub (ws' := [(hk, .inr (1, [.ref aw, .ref az, .ref an, .int (nI nn)])), (aw, .inl (gJ G, 120, .inr (.inl fw))), (az, .inl (gI G, 120, .inl (kz_z zs))), (an, .inl (gI G, 120, .inl fv))]) [2, 3, 4, 5] rfl
  refine kz_ci (v := nI nn) (va_runV (As := []) (rest := [.int (nI (ii + 1))]) ⟨hx, hb, hml, hown, hts⟩ (c_X1_count l G hk aw az an nn fw (kz_z zs) fv  ) (cwV 0 hts gX0_countOfSize_X1_count rfl rfl rfl (by decide +kernel) ⟨Nat.le_of_ble_eq_true rfl, Nat.le_of_ble_eq_true rfl⟩) (kz_pv hK hPc (va_recv hK.1 hPc (ci := 1) (q0 := 0) rfl rfl)) rfl rfl hl.1 rfl (lv_room (Nat.le_of_ble_eq_true rfl)) dX0_countOfSize_10 ⟨Nat.zero_le _, Nat.zero_le _⟩).run ?_
  refine lv_icmp_ge (tgt := 62) hx hb dX0_countOfSize_13 (by decide) (fun c_1 => ?_) (fun c_1 => ?_)
  · have kc_1 : nn ≤ ii + 1 := (nI_leI (by omega) (by omega)).mp c_1
    refine lv_iload_n hx hb dX0_countOfSize_62 rfl (lv_at hl 0 rfl) ?_
    refine lv_aload_n hx hb dX0_countOfSize_63 rfl (lv_at hl 2 rfl) ?_
    refine lv_iconst (v := (-1)) hx hb dX0_countOfSize_64 (by decide) ?_
    refine lv_iload_n hx hb dX0_countOfSize_65 rfl (lv_at hl 4 rfl) ?_
    have hPc := hP.sub (ws' := [(hc, .inr (0, [.ref ab])), (ab, .inl (gI G, 8, .inl (kz_z ((kf_cs fw zs sq ii).2))))]) [0, 1] rfl
    have hDc := hD.sub (ws' := [(hc, .inr (0, [.ref ab])), (ab, .inl (gI G, 8, .inl (kz_z ((kf_cs fw zs sq ii).2))))]) [0, 1] (by decide) rfl
    have hFc := va_free (wc := [(hc, .inr (0, [.ref ab])), (ab, .inl (gI G, 8, .inl (kz_z ((kf_cs fw zs sq ii).2))))]) hD hS hA [0, 1] rfl
    refine va_calli (va_runV (As := [.int (-1), .int (nI sq)]) (rest := [.int (nI ((kf_cs fw zs sq ii).1))]) ⟨hx, hb, hml, hown, hts⟩ (c_X0_endLongerThan l G hc ab ((kf_cs fw zs sq ii).2) (-1) 0 sq _ (by decide) (by omega) (by omega) (fun j => by have := kf_cs_le fw zs sq ii j; have := kf_zr_le (kf_cs fw zs sq ii).2 (kf_fk fw zs ii + 1) (max (kf_fk fw zs ii + 1) 8) j; omega)) (cwV 2 hts gX0_countOfSize_X0_endLongerThan rfl rfl rfl (by decide +kernel) ⟨Nat.le_of_ble_eq_true rfl, Nat.le_of_ble_eq_true rfl⟩) (kz_pvm hK hPc hDc (va_recv hK.1 hPc (ci := 0) (q0 := 0) rfl rfl)) rfl rfl hl.1 rfl (lv_room (Nat.le_of_ble_eq_true rfl)) dX0_countOfSize_66 ⟨Nat.zero_le _, Nat.zero_le _⟩) hS (fun q _ h => hFc q h) hFc (fun r_2 u t H locs ht hvm hw hB hqz9 hqk9 hS => ?_)
    obtain ⟨hr9, hw⟩ : r_2 = nI (kf_cnt (kf_ep ((kf_cs fw zs sq ii).2) sq 0) (max 0 8)) ∧ u = [(hc, .inr (0, [.ref ab])), (ab, .inl (gI G, 8, .inl (kz_z (kf_zr ((kf_cs fw zs sq ii).2) 0 (max 0 8)))))] := hw
    have hB : va_P G.1 vwCl u H := by rw [← ht]; exact hB
    rw [hw] at hB
    obtain ⟨hP, hD⟩ := kz_join (wc := [(hc, .inr (0, [.ref ab])), (ab, .inl (gI G, 8, .inl (kz_z ((kf_cs fw zs sq ii).2))))]) (w1 := [(hc, .inr (0, [.ref ab])), (ab, .inl (gI G, 8, .inl (kz_z (kf_zr ((kf_cs fw zs sq ii).2) 0 (max 0 8)))))]) hP hD [0, 1] rfl (by decide) rfl hqk9 hB
    have hP : va_P G.1 vwCl [(hc, .inr (0, [.ref ab])), (ab, .inl (gI G, 8, .inl (kz_z (kf_zr ((kf_cs fw zs sq ii).2) 0 (max 0 8))))), (hk, .inr (1, [.ref aw, .ref az, .ref an, .int (nI nn)])), (aw, .inl (gJ G, 120, .inr (.inl fw))), (az, .inl (gI G, 120, .inl (kz_z zs))), (an, .inl (gI G, 120, .inl fv))] H := hP
    have hD : va_D A [(hc, .inr (0, [.ref ab])), (ab, .inl (gI G, 8, .inl (kz_z (kf_zr ((kf_cs fw zs sq ii).2) 0 (max 0 8))))), (hk, .inr (1, [.ref aw, .ref az, .ref an, .int (nI nn)])), (aw, .inl (gJ G, 120, .inr (.inl fw))), (az, .inl (gI G, 120, .inl (kz_z zs))), (an, .inl (gI G, 120, .inl fv))] := hD
    refine kz_asi (y := nI (kf_cnt (kf_ep ((kf_cs fw zs sq ii).2) sq 0) (max 0 8))) hr9 ?_
    refine lv_iadd hx hb dX0_countOfSize_69 ?_
    exact W.iret (v := (nI ((kf_cs fw zs sq ii).1)) + (nI (kf_cnt (kf_ep ((kf_cs fw zs sq ii).2) sq 0) (max 0 8)))) hx hb hr (fun t ht hW => ⟨⟨_, ([(hc, .inr (0, [.ref ab])), (ab, .inl (gI G, 8, .inl (kz_z (kf_zr ((kf_cs fw zs sq ii).2) 0 (max 0 8))))), (hk, .inr (1, [.ref aw, .ref az, .ref an, .int (nI nn)])), (aw, .inl (gJ G, 120, .inr (.inl fw))), (az, .inl (gI G, 120, .inl (kz_z zs))), (an, .inl (gI G, 120, .inl fv))] : va_W), rfl, ⟨by rw [nI_add, show ii = nn - 1 from by omega]; rfl, by rw [kf_cs_end]⟩, by rw [← ht] at hP; exact hP⟩, hS.F ht⟩) hS.2.2 dX0_countOfSize_70
  · have kc_1 : ii + 1 < nn := Nat.lt_of_not_le (fun h => c_1 (nI_le h (by omega)))
    have hzi := hz ii
    have hf8 := kf_fk_le fw zs ii
    refine lv_aload_n hx hb dX0_countOfSize_16 rfl (lv_at hl 3 rfl) ?_
    refine lv_iload hx hb dX0_countOfSize_17 (lv_at hl 1 rfl) ?_
    have hPc := hP.sub (ws' := [(hk, .inr (1, [.ref aw, .ref az, .ref an, .int (nI nn)])), (aw, .inl (gJ G, 120, .inr (.inl fw))), (az, .inl (gI G, 120, .inl (kz_z zs))), (an, .inl (gI G, 120, .inl fv))]) [2, 3, 4, 5] rfl
    refine kz_ci (v := nI (kf_fk fw zs ii)) (va_runV (As := [.int (nI ii)]) (rest := []) ⟨hx, hb, hml, hown, hts⟩ (c_X1_forkBehind l G hk aw az an nn fw zs fv ii (by omega) hz (by omega)) (cwV 1 hts gX0_countOfSize_X1_forkBehind rfl rfl rfl (by decide +kernel) ⟨Nat.le_of_ble_eq_true rfl, Nat.le_of_ble_eq_true rfl⟩) (kz_pv hK hPc (va_recv hK.1 hPc (ci := 1) (q0 := 0) rfl rfl)) rfl rfl hl.1 rfl (lv_room (Nat.le_of_ble_eq_true rfl)) dX0_countOfSize_19 ⟨Nat.zero_le _, Nat.zero_le _⟩).run ?_
    refine lv_istore (lv' := [(5, .int (nI (kf_fk fw zs ii))), (3, .int (nI ((kf_cs fw zs sq ii).1))), (4, .int (nI ii)), (0, .ref hc), (1, .ref hk), (2, .int (nI sq))]) hx hb dX0_countOfSize_22 hl (by decide) rfl (fun ls hl => ?_)
    refine lv_iload_n hx hb dX0_countOfSize_24 rfl (lv_at hl 1 rfl) ?_
    refine lv_aload_n hx hb dX0_countOfSize_25 rfl (lv_at hl 3 rfl) ?_
    refine lv_iload hx hb dX0_countOfSize_26 (lv_at hl 0 rfl) ?_
    refine lv_iload_n hx hb dX0_countOfSize_28 rfl (lv_at hl 5 rfl) ?_
    have hPc := hP.sub (ws' := [(hc, .inr (0, [.ref ab])), (ab, .inl (gI G, 8, .inl (kz_z ((kf_cs fw zs sq ii).2))))]) [0, 1] rfl
    have hDc := hD.sub (ws' := [(hc, .inr (0, [.ref ab])), (ab, .inl (gI G, 8, .inl (kz_z ((kf_cs fw zs sq ii).2))))]) [0, 1] (by decide) rfl
    have hFc := va_free (wc := [(hc, .inr (0, [.ref ab])), (ab, .inl (gI G, 8, .inl (kz_z ((kf_cs fw zs sq ii).2))))]) hD hS hA [0, 1] rfl
    refine va_calli (va_runV (As := [.int (nI (kf_fk fw zs ii)), .int (nI sq)]) (rest := [.int (nI ((kf_cs fw zs sq ii).1))]) ⟨hx, hb, hml, hown, hts⟩ (c_X0_endLongerThan l G hc ab ((kf_cs fw zs sq ii).2) (nI (kf_fk fw zs ii)) ((kf_fk fw zs ii) + 1) sq _ (nI_1 _) (by omega) (by omega) (fun j => by have := kf_cs_le fw zs sq ii j; have := kf_zr_le (kf_cs fw zs sq ii).2 (kf_fk fw zs ii + 1) (max (kf_fk fw zs ii + 1) 8) j; omega)) (cwV 2 hts gX0_countOfSize_X0_endLongerThan rfl rfl rfl (by decide +kernel) ⟨Nat.le_of_ble_eq_true rfl, Nat.le_of_ble_eq_true rfl⟩) (kz_pvm hK hPc hDc (va_recv hK.1 hPc (ci := 0) (q0 := 0) rfl rfl)) rfl rfl hl.1 rfl (lv_room (Nat.le_of_ble_eq_true rfl)) dX0_countOfSize_29 ⟨Nat.zero_le _, Nat.zero_le _⟩) hS (fun q _ h => hFc q h) hFc (fun r_3 u t H locs ht hvm hw hB hqz9 hqk9 hS => ?_)
    obtain ⟨hr9, hw⟩ : r_3 = nI (kf_cnt (kf_ep ((kf_cs fw zs sq ii).2) sq ((kf_fk fw zs ii) + 1)) (max ((kf_fk fw zs ii) + 1) 8)) ∧ u = [(hc, .inr (0, [.ref ab])), (ab, .inl (gI G, 8, .inl (kz_z (kf_zr ((kf_cs fw zs sq ii).2) ((kf_fk fw zs ii) + 1) (max ((kf_fk fw zs ii) + 1) 8)))))] := hw
    have hB : va_P G.1 vwCl u H := by rw [← ht]; exact hB
    rw [hw] at hB
    obtain ⟨hP, hD⟩ := kz_join (wc := [(hc, .inr (0, [.ref ab])), (ab, .inl (gI G, 8, .inl (kz_z ((kf_cs fw zs sq ii).2))))]) (w1 := [(hc, .inr (0, [.ref ab])), (ab, .inl (gI G, 8, .inl (kz_z (kf_zr ((kf_cs fw zs sq ii).2) ((kf_fk fw zs ii) + 1) (max ((kf_fk fw zs ii) + 1) 8)))))]) hP hD [0, 1] rfl (by decide) rfl hqk9 hB
    have hP : va_P G.1 vwCl [(hc, .inr (0, [.ref ab])), (ab, .inl (gI G, 8, .inl (kz_z (kf_zr ((kf_cs fw zs sq ii).2) ((kf_fk fw zs ii) + 1) (max ((kf_fk fw zs ii) + 1) 8))))), (hk, .inr (1, [.ref aw, .ref az, .ref an, .int (nI nn)])), (aw, .inl (gJ G, 120, .inr (.inl fw))), (az, .inl (gI G, 120, .inl (kz_z zs))), (an, .inl (gI G, 120, .inl fv))] H := hP
    have hD : va_D A [(hc, .inr (0, [.ref ab])), (ab, .inl (gI G, 8, .inl (kz_z (kf_zr ((kf_cs fw zs sq ii).2) ((kf_fk fw zs ii) + 1) (max ((kf_fk fw zs ii) + 1) 8))))), (hk, .inr (1, [.ref aw, .ref az, .ref an, .int (nI nn)])), (aw, .inl (gJ G, 120, .inr (.inl fw))), (az, .inl (gI G, 120, .inl (kz_z zs))), (an, .inl (gI G, 120, .inl fv))] := hD
    refine kz_asi (y := nI (kf_cnt (kf_ep ((kf_cs fw zs sq ii).2) sq ((kf_fk fw zs ii) + 1)) (max ((kf_fk fw zs ii) + 1) 8))) hr9 ?_
    refine lv_iadd hx hb dX0_countOfSize_32 ?_
    refine kz_asi (y := nI ((kf_cs fw zs sq (ii + 1)).1)) (nI_add _ _) ?_
    refine lv_istore_n (lv' := [(3, .int (nI ((kf_cs fw zs sq (ii + 1)).1))), (5, .int (nI (kf_fk fw zs ii))), (4, .int (nI ii)), (0, .ref hc), (1, .ref hk), (2, .int (nI sq))]) hx hb dX0_countOfSize_33 rfl hl (by decide) rfl (fun ls hl => ?_)
    refine lv_aload_n hx hb dX0_countOfSize_34 rfl (lv_at hl 3 rfl) ?_
    refine lv_iload hx hb dX0_countOfSize_35 (lv_at hl 1 rfl) ?_
    refine lv_aload_n hx hb dX0_countOfSize_37 rfl (lv_at hl 4 rfl) ?_
    refine lv_iload hx hb dX0_countOfSize_38 (lv_at hl 2 rfl) ?_
    have hPc := hP.sub (ws' := [(hk, .inr (1, [.ref aw, .ref az, .ref an, .int (nI nn)])), (aw, .inl (gJ G, 120, .inr (.inl fw))), (az, .inl (gI G, 120, .inl (kz_z zs))), (an, .inl (gI G, 120, .inl fv))]) [2, 3, 4, 5] rfl
    refine kz_ci (v := if 0 ≤ nI ii ∧ nI ii < nI nn then (kz_z zs) (nI ii).toNatClampNeg else -1) (va_runV (As := [.int (nI ii)]) (rest := [.int (nI (kf_fk fw zs ii)), .ref hc]) ⟨hx, hb, hml, hown, hts⟩ (c_X1_sizeAt l G hk aw az an nn fw (kz_z zs) fv (nI ii) (by omega)) (cwV 1 hts gX0_countOfSize_X1_sizeAt rfl rfl rfl (by decide +kernel) ⟨Nat.le_of_ble_eq_true rfl, Nat.le_of_ble_eq_true rfl⟩) (kz_pv hK hPc (va_recv hK.1 hPc (ci := 1) (q0 := 0) rfl rfl)) rfl rfl hl.1 rfl (lv_room (Nat.le_of_ble_eq_true rfl)) dX0_countOfSize_40 ⟨Nat.zero_le _, Nat.zero_le _⟩).run ?_
    refine kz_asi (y := nI (zs ii)) (by rw [if_pos ((kf_plN (by omega) (by omega)).mpr (by omega)), nI_clamp (by omega)]; rfl) ?_
    refine lv_iload hx hb dX0_countOfSize_43 (lv_at hl 1 rfl) ?_
    refine lv_icmp_ne (tgt := 52) hx hb dX0_countOfSize_45 (by decide) (fun c_4 => ?_) (fun c_4 => ?_)
    · have hne : ¬ zs ii = kf_fk fw zs ii := fun h => c_4 (by rw [h])
      refine lv_iconst (v := 0) hx hb dX0_countOfSize_52 (by decide) ?_
      have hPc := hP.sub (ws' := [(hc, .inr (0, [.ref ab])), (ab, .inl (gI G, 8, .inl (kz_z (kf_zr ((kf_cs fw zs sq ii).2) ((kf_fk fw zs ii) + 1) (max ((kf_fk fw zs ii) + 1) 8)))))]) [0, 1] rfl
      have hDc := hD.sub (ws' := [(hc, .inr (0, [.ref ab])), (ab, .inl (gI G, 8, .inl (kz_z (kf_zr ((kf_cs fw zs sq ii).2) ((kf_fk fw zs ii) + 1) (max ((kf_fk fw zs ii) + 1) 8)))))]) [0, 1] (by decide) rfl
      have hFc := va_free (wc := [(hc, .inr (0, [.ref ab])), (ab, .inl (gI G, 8, .inl (kz_z (kf_zr ((kf_cs fw zs sq ii).2) ((kf_fk fw zs ii) + 1) (max ((kf_fk fw zs ii) + 1) 8)))))]) hD hS hA [0, 1] rfl
      refine va_callv (va_runV (As := [.int (nI (kf_fk fw zs ii)), .int 0]) (rest := []) ⟨hx, hb, hml, hown, hts⟩ (c_X0_addBranch l G hc ab (kf_zr ((kf_cs fw zs sq ii).2) ((kf_fk fw zs ii) + 1) (max ((kf_fk fw zs ii) + 1) 8)) (kf_fk fw zs ii) 0 _ (by omega) (fun j => by have := kf_cs_le fw zs sq ii j; have := kf_zr_le (kf_cs fw zs sq ii).2 (kf_fk fw zs ii + 1) (max (kf_fk fw zs ii + 1) 8) j; omega)) (cwV 2 hts gX0_countOfSize_X0_addBranch rfl rfl rfl (by decide +kernel) ⟨Nat.le_of_ble_eq_true rfl, Nat.le_of_ble_eq_true rfl⟩) (kz_pvm hK hPc hDc (va_recv hK.1 hPc (ci := 0) (q0 := 0) rfl rfl)) rfl rfl hl.1 rfl (lv_room (Nat.le_of_ble_eq_true rfl)) dX0_countOfSize_53 ⟨Nat.zero_le _, Nat.zero_le _⟩) hS (fun q _ h => hFc q h) hFc (fun u t H locs ht hvm hw hB hqz9 hqk9 hS => ?_)
      have hw : u = [(hc, .inr (0, [.ref ab])), (ab, .inl (gI G, 8, .inl (kz_z (kf_ab (kf_zr ((kf_cs fw zs sq ii).2) ((kf_fk fw zs ii) + 1) (max ((kf_fk fw zs ii) + 1) 8)) (kf_fk fw zs ii) 0))))] := hw
      have hB : va_P G.1 vwCl u H := by rw [← ht]; exact hB
      rw [hw] at hB
      obtain ⟨hP, hD⟩ := kz_join (wc := [(hc, .inr (0, [.ref ab])), (ab, .inl (gI G, 8, .inl (kz_z (kf_zr ((kf_cs fw zs sq ii).2) ((kf_fk fw zs ii) + 1) (max ((kf_fk fw zs ii) + 1) 8)))))]) (w1 := [(hc, .inr (0, [.ref ab])), (ab, .inl (gI G, 8, .inl (kz_z (kf_ab (kf_zr ((kf_cs fw zs sq ii).2) ((kf_fk fw zs ii) + 1) (max ((kf_fk fw zs ii) + 1) 8)) (kf_fk fw zs ii) 0))))]) hP hD [0, 1] rfl (by decide) rfl hqk9 hB
      have hP : va_P G.1 vwCl [(hc, .inr (0, [.ref ab])), (ab, .inl (gI G, 8, .inl (kz_z (kf_ab (kf_zr ((kf_cs fw zs sq ii).2) ((kf_fk fw zs ii) + 1) (max ((kf_fk fw zs ii) + 1) 8)) (kf_fk fw zs ii) 0)))), (hk, .inr (1, [.ref aw, .ref az, .ref an, .int (nI nn)])), (aw, .inl (gJ G, 120, .inr (.inl fw))), (az, .inl (gI G, 120, .inl (kz_z zs))), (an, .inl (gI G, 120, .inl fv))] H := hP
      have hD : va_D A [(hc, .inr (0, [.ref ab])), (ab, .inl (gI G, 8, .inl (kz_z (kf_ab (kf_zr ((kf_cs fw zs sq ii).2) ((kf_fk fw zs ii) + 1) (max ((kf_fk fw zs ii) + 1) 8)) (kf_fk fw zs ii) 0)))), (hk, .inr (1, [.ref aw, .ref az, .ref an, .int (nI nn)])), (aw, .inl (gJ G, 120, .inr (.inl fw))), (az, .inl (gI G, 120, .inl (kz_z zs))), (an, .inl (gI G, 120, .inl fv))] := hD
      refine lv_iinc (v := nI (ii + 1)) (lv' := [(4, .int (nI (ii + 1))), (3, .int (nI ((kf_cs fw zs sq (ii + 1)).1))), (5, .int (nI (kf_fk fw zs ii))), (0, .ref hc), (1, .ref hk), (2, .int (nI sq))]) hx hb dX0_countOfSize_56 hl (k := 2) rfl (nI_1 ii) (by decide) rfl (fun ls hl => ?_)
      refine lv_goto (tgt := 5) hx hb dX0_countOfSize_59 (by decide) ?_
      have e1 : (kf_cs fw zs sq (ii + 1)).2 = kf_ab (kf_zr (kf_cs fw zs sq ii).2 (kf_fk fw zs ii + 1) (max (kf_fk fw zs ii + 1) 8)) (kf_fk fw zs ii) 0 := by
        show kf_ab _ _ (if zs ii = kf_fk fw zs ii then 1 else 0) = _
        rw [if_neg hne]
      exact ih H locs ls (by omega) (lv_sub hl [1, 0, 3, 4, 5] rfl) (by show va_P G.1 vwCl [(hc, .inr (0, [.ref ab])), (ab, .inl (gI G, 8, .inl (kz_z ((kf_cs fw zs sq (ii + 1)).2)))), (hk, .inr (1, [.ref aw, .ref az, .ref an, .int (nI nn)])), (aw, .inl (gJ G, 120, .inr (.inl fw))), (az, .inl (gI G, 120, .inl (kz_z zs))), (an, .inl (gI G, 120, .inl fv))] H; rw [e1]; exact hP) (by show va_D A [(hc, .inr (0, [.ref ab])), (ab, .inl (gI G, 8, .inl (kz_z ((kf_cs fw zs sq (ii + 1)).2)))), (hk, .inr (1, [.ref aw, .ref az, .ref an, .int (nI nn)])), (aw, .inl (gJ G, 120, .inr (.inl fw))), (az, .inl (gI G, 120, .inl (kz_z zs))), (an, .inl (gI G, 120, .inl fv))]; rw [e1]; exact hD) hS
    · have heq : zs ii = kf_fk fw zs ii := (nI_eq (by omega) (by omega)).mp c_4
      refine lv_iconst (v := 1) hx hb dX0_countOfSize_48 (by decide) ?_
      refine lv_goto (tgt := 53) hx hb dX0_countOfSize_49 (by decide) ?_
      have hPc := hP.sub (ws' := [(hc, .inr (0, [.ref ab])), (ab, .inl (gI G, 8, .inl (kz_z (kf_zr ((kf_cs fw zs sq ii).2) ((kf_fk fw zs ii) + 1) (max ((kf_fk fw zs ii) + 1) 8)))))]) [0, 1] rfl
      have hDc := hD.sub (ws' := [(hc, .inr (0, [.ref ab])), (ab, .inl (gI G, 8, .inl (kz_z (kf_zr ((kf_cs fw zs sq ii).2) ((kf_fk fw zs ii) + 1) (max ((kf_fk fw zs ii) + 1) 8)))))]) [0, 1] (by decide) rfl
      have hFc := va_free (wc := [(hc, .inr (0, [.ref ab])), (ab, .inl (gI G, 8, .inl (kz_z (kf_zr ((kf_cs fw zs sq ii).2) ((kf_fk fw zs ii) + 1) (max ((kf_fk fw zs ii) + 1) 8)))))]) hD hS hA [0, 1] rfl
      refine va_callv (va_runV (As := [.int (nI (kf_fk fw zs ii)), .int 1]) (rest := []) ⟨hx, hb, hml, hown, hts⟩ (c_X0_addBranch l G hc ab (kf_zr ((kf_cs fw zs sq ii).2) ((kf_fk fw zs ii) + 1) (max ((kf_fk fw zs ii) + 1) 8)) (kf_fk fw zs ii) 1 _ (by omega) (fun j => by have := kf_cs_le fw zs sq ii j; have := kf_zr_le (kf_cs fw zs sq ii).2 (kf_fk fw zs ii + 1) (max (kf_fk fw zs ii + 1) 8) j; omega)) (cwV 2 hts gX0_countOfSize_X0_addBranch rfl rfl rfl (by decide +kernel) ⟨Nat.le_of_ble_eq_true rfl, Nat.le_of_ble_eq_true rfl⟩) (kz_pvm hK hPc hDc (va_recv hK.1 hPc (ci := 0) (q0 := 0) rfl rfl)) rfl rfl hl.1 rfl (lv_room (Nat.le_of_ble_eq_true rfl)) dX0_countOfSize_53 ⟨Nat.zero_le _, Nat.zero_le _⟩) hS (fun q _ h => hFc q h) hFc (fun u t H locs ht hvm hw hB hqz9 hqk9 hS => ?_)
      have hw : u = [(hc, .inr (0, [.ref ab])), (ab, .inl (gI G, 8, .inl (kz_z (kf_ab (kf_zr ((kf_cs fw zs sq ii).2) ((kf_fk fw zs ii) + 1) (max ((kf_fk fw zs ii) + 1) 8)) (kf_fk fw zs ii) 1))))] := hw
      have hB : va_P G.1 vwCl u H := by rw [← ht]; exact hB
      rw [hw] at hB
      obtain ⟨hP, hD⟩ := kz_join (wc := [(hc, .inr (0, [.ref ab])), (ab, .inl (gI G, 8, .inl (kz_z (kf_zr ((kf_cs fw zs sq ii).2) ((kf_fk fw zs ii) + 1) (max ((kf_fk fw zs ii) + 1) 8)))))]) (w1 := [(hc, .inr (0, [.ref ab])), (ab, .inl (gI G, 8, .inl (kz_z (kf_ab (kf_zr ((kf_cs fw zs sq ii).2) ((kf_fk fw zs ii) + 1) (max ((kf_fk fw zs ii) + 1) 8)) (kf_fk fw zs ii) 1))))]) hP hD [0, 1] rfl (by decide) rfl hqk9 hB
      have hP : va_P G.1 vwCl [(hc, .inr (0, [.ref ab])), (ab, .inl (gI G, 8, .inl (kz_z (kf_ab (kf_zr ((kf_cs fw zs sq ii).2) ((kf_fk fw zs ii) + 1) (max ((kf_fk fw zs ii) + 1) 8)) (kf_fk fw zs ii) 1)))), (hk, .inr (1, [.ref aw, .ref az, .ref an, .int (nI nn)])), (aw, .inl (gJ G, 120, .inr (.inl fw))), (az, .inl (gI G, 120, .inl (kz_z zs))), (an, .inl (gI G, 120, .inl fv))] H := hP
      have hD : va_D A [(hc, .inr (0, [.ref ab])), (ab, .inl (gI G, 8, .inl (kz_z (kf_ab (kf_zr ((kf_cs fw zs sq ii).2) ((kf_fk fw zs ii) + 1) (max ((kf_fk fw zs ii) + 1) 8)) (kf_fk fw zs ii) 1)))), (hk, .inr (1, [.ref aw, .ref az, .ref an, .int (nI nn)])), (aw, .inl (gJ G, 120, .inr (.inl fw))), (az, .inl (gI G, 120, .inl (kz_z zs))), (an, .inl (gI G, 120, .inl fv))] := hD
      refine lv_iinc (v := nI (ii + 1)) (lv' := [(4, .int (nI (ii + 1))), (3, .int (nI ((kf_cs fw zs sq (ii + 1)).1))), (5, .int (nI (kf_fk fw zs ii))), (0, .ref hc), (1, .ref hk), (2, .int (nI sq))]) hx hb dX0_countOfSize_56 hl (k := 2) rfl (nI_1 ii) (by decide) rfl (fun ls hl => ?_)
      refine lv_goto (tgt := 5) hx hb dX0_countOfSize_59 (by decide) ?_
      have e1 : (kf_cs fw zs sq (ii + 1)).2 = kf_ab (kf_zr (kf_cs fw zs sq ii).2 (kf_fk fw zs ii + 1) (max (kf_fk fw zs ii + 1) 8)) (kf_fk fw zs ii) 1 := by
        show kf_ab _ _ (if zs ii = kf_fk fw zs ii then 1 else 0) = _
        rw [if_pos heq]
      exact ih H locs ls (by omega) (lv_sub hl [1, 0, 3, 4, 5] rfl) (by show va_P G.1 vwCl [(hc, .inr (0, [.ref ab])), (ab, .inl (gI G, 8, .inl (kz_z ((kf_cs fw zs sq (ii + 1)).2)))), (hk, .inr (1, [.ref aw, .ref az, .ref an, .int (nI nn)])), (aw, .inl (gJ G, 120, .inr (.inl fw))), (az, .inl (gI G, 120, .inl (kz_z zs))), (an, .inl (gI G, 120, .inl fv))] H; rw [e1]; exact hP) (by show va_D A [(hc, .inr (0, [.ref ab])), (ab, .inl (gI G, 8, .inl (kz_z ((kf_cs fw zs sq (ii + 1)).2)))), (hk, .inr (1, [.ref aw, .ref az, .ref an, .int (nI nn)])), (aw, .inl (gJ G, 120, .inr (.inl fw))), (az, .inl (gI G, 120, .inl (kz_z zs))), (an, .inl (gI G, 120, .inl fv))]; rw [e1]; exact hD) hS
