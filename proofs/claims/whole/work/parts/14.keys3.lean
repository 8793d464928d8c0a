/-- rows moved up by one, above i, up to n -/
def kf_up {α : Type} (f : Nat → α) (i n : Nat) : Nat → α := fun j => if i < j ∧ j ≤ n then f (j - 1) else f j
theorem kf_up_id {α : Type} (f : Nat → α) (n : Nat) : kf_up f n n = f := by
  funext j
  unfold kf_up
  rw [if_neg (by omega)]
theorem kf_up_L (f : Nat → Int64) {i n : Nat} (h0 : 0 < i) (hi : i ≤ n) : kf_up f (i - 1) n = vp_updL (kf_up f i n) i (kf_up f i n (i - 1)) := by
  funext j
  unfold vp_updL kf_up
  by_cases h : j = i
  · subst h
    rw [if_pos (by omega), if_pos rfl, if_neg (by omega)]
  · rw [if_neg h]
    by_cases h2 : i < j ∧ j ≤ n
    · rw [if_pos (by omega), if_pos h2]
    · rw [if_neg (by omega), if_neg h2]
theorem kf_up_I (f : Nat → Int32) {i n : Nat} (h0 : 0 < i) (hi : i ≤ n) : kf_up f (i - 1) n = upd (kf_up f i n) i (kf_up f i n (i - 1)) := by
  funext j
  unfold upd kf_up
  by_cases h : j = i
  · subst h
    rw [if_pos (by omega), if_pos rfl, if_neg (by omega)]
  · rw [if_neg h]
    by_cases h2 : i < j ∧ j ≤ n
    · rw [if_pos (by omega), if_pos h2]
    · rw [if_neg (by omega), if_neg h2]
/-- rows moved down by one, from k on, below i -/
def kf_dn {α : Type} (f : Nat → α) (k i : Nat) : Nat → α := fun j => if k ≤ j ∧ j < i then f (j + 1) else f j
theorem kf_dn_id {α : Type} (f : Nat → α) (k : Nat) : kf_dn f k k = f := by
  funext j
  unfold kf_dn
  rw [if_neg (by omega)]
theorem kf_dn_L (f : Nat → Int64) {k i : Nat} (h : k ≤ i) : kf_dn f k (i + 1) = vp_updL (kf_dn f k i) i (kf_dn f k i (i + 1)) := by
  funext j
  unfold vp_updL kf_dn
  by_cases hj : j = i
  · subst hj
    rw [if_pos (by omega), if_pos rfl, if_neg (by omega)]
  · rw [if_neg hj]
    by_cases h2 : k ≤ j ∧ j < i
    · rw [if_pos (by omega), if_pos h2]
    · rw [if_neg (by omega), if_neg h2]
theorem kf_dn_I (f : Nat → Int32) {k i : Nat} (h : k ≤ i) : kf_dn f k (i + 1) = upd (kf_dn f k i) i (kf_dn f k i (i + 1)) := by
  funext j
  unfold upd kf_dn
  by_cases hj : j = i
  · subst hj
    rw [if_pos (by omega), if_pos rfl, if_neg (by omega)]
  · rw [if_neg hj]
    by_cases h2 : k ≤ j ∧ j < i
    · rw [if_pos (by omega), if_pos h2]
    · rw [if_neg (by omega), if_neg h2]
/-- the first i places from g, the others from f -/
def kf_cp {α : Type} (g f : Nat → α) (i : Nat) : Nat → α := fun j => if j < i then g j else f j
theorem kf_cp_0 {α : Type} (g f : Nat → α) : kf_cp g f 0 = f := by
  funext j
  unfold kf_cp
  rw [if_neg (by omega)]
theorem kf_cp_L (g f : Nat → Int64) (i : Nat) : kf_cp g f (i + 1) = vp_updL (kf_cp g f i) i (g i) := by
  funext j
  unfold vp_updL kf_cp
  by_cases hj : j = i
  · subst hj
    rw [if_pos (by omega), if_pos rfl]
  · rw [if_neg hj]
    by_cases h2 : j < i
    · rw [if_pos (by omega), if_pos h2]
    · rw [if_neg (by omega), if_neg h2]
theorem kf_cp_I (g f : Nat → Int32) (i : Nat) : kf_cp g f (i + 1) = upd (kf_cp g f i) i (g i) := by
  funext j
  unfold upd kf_cp
  by_cases hj : j = i
  · subst hj
    rw [if_pos (by omega), if_pos rfl]
  · rw [if_neg hj]
    by_cases h2 : j < i
    · rw [if_pos (by omega), if_pos h2]
    · rw [if_neg (by omega), if_neg h2]

set_option maxHeartbeats 4000000 in
set_option maxRecDepth 100000 in
theorem c_X1_setNumber (l : Launch) (G : kz_G) (hk aw az an nn : Nat) (fw : Nat → Int64) (fz fv : Nat → Int32) (kk : Nat) (vv : Int32) (sz : Nat) (hn : nn ≤ 120) (hkk : kk < nn) : Met l yX1_setNumber wsX1_setNumber { frames := 1, cells := 0, slots := 0, locals := 21 } (kz_Pm G [.ref hk, .int (nI kk), .int vv] [(hk, .inr (1, [.ref aw, .ref az, .ref an, .int (nI nn)])), (aw, .inl (gJ G, 120, .inr (.inl fw))), (az, .inl (gI G, 120, .inl fz)), (an, .inl (gI G, 120, .inl fv))] sz) (kz_Qv G (fun w => w = [(hk, .inr (1, [.ref aw, .ref az, .ref an, .int (nI nn)])), (aw, .inl (gJ G, 120, .inr (.inl fw))), (az, .inl (gI G, 120, .inl fz)), (an, .inl (gI G, 120, .inl (upd fv kk vv)))]) (va_A [(hk, .inr (1, [.ref aw, .ref az, .ref an, .int (nI nn)])), (aw, .inl (gJ G, 120, .inr (.inl fw))), (az, .inl (gI G, 120, .inl fz)), (an, .inl (gI G, 120, .inl fv))] sz)) 0 0 (va_A [(hk, .inr (1, [.ref aw, .ref az, .ref an, .int (nI nn)])), (aw, .inl (gJ G, 120, .inr (.inl fw))), (az, .inl (gI G, 120, .inl fz)), (an, .inl (gI G, 120, .inl fv))] sz) := by
  refine Met.ofW (cc := cX1_setNumber) (maxL := 3) (ret := none) (by decide) rfl ?_
  intro p e s m args below meth c s₁ B hml hv
  obtain ⟨rfl, hsz, hP, hK, hD0⟩ := hv
  have hx := B.exec
  have hb := B.bytes
  have hr := B.returns
  have hts := atoms_spec (ws := wsX1_setNumber) B.pre
  have hown : s.vm.findClass RX1 = some m.cls := findClass_of_methodNamed B.named
  have hlocks := B.notSynchronized
  have hinX1 : ∀ w ∈ wsX10, w ∈ wsX1_setNumber := by decide +kernel
  subst hsz
  have hD := hD0.self (sz := s.heap.size)
  generalize hAe : va_A [(hk, .inr (1, [.ref aw, .ref az, .ref an, .int (nI nn)])), (aw, .inl (gJ G, 120, .inr (.inl fw))), (az, .inl (gI G, 120, .inl fz)), (an, .inl (gI G, 120, .inl fv))] s.heap.size = A at hD ⊢
  have hA : ∀ q : Nat, s.heap.size ≤ q → A q := fun q h => by rw [← hAe]; exact Or.inr h
  have hS : va_S A s.heap s.heap [] := va_S.rf
  have hP : va_P G.1 vwCl [(hk, .inr (1, [.ref aw, .ref az, .ref an, .int (nI nn)])), (aw, .inl (gJ G, 120, .inr (.inl fw))), (az, .inl (gI G, 120, .inl fz)), (an, .inl (gI G, 120, .inl fv))] s.heap := hP
  have hl := lv_entry ([.ref hk, .int (nI kk), .int vv]) (n := 3) (Nat.le_of_ble_eq_true rfl)
  rw [lg_entry_eq]
  generalize (lg_sl ([.ref hk, .int (nI kk), .int vv]) ++ List.replicate (3 - (lg_sl ([.ref hk, .int (nI kk), .int vv])).length) Slot.unset).toArray = ls at hl ⊢
  have hl : lv_has ls 3 [(0, .ref hk), (1, .int (nI kk)), (2, .int vv)] := hl
  refine lv_aload_n hx hb dX1_setNumber_0 rfl (lv_at hl 0 rfl) ?_
  refine lv_iload_n hx hb dX1_setNumber_1 rfl (lv_at hl 1 rfl) ?_
  have hPc := hP.sub (ws' := [(hk, .inr (1, [.ref aw, .ref az, .ref an, .int (nI nn)])), (aw, .inl (gJ G, 120, .inr (.inl fw))), (az, .inl (gI G, 120, .inl fz)), (an, .inl (gI G, 120, .inl fv))]) [0, 1, 2, 3] rfl
  refine kz_ci (v := if 0 ≤ nI kk ∧ nI kk < nI nn then 1 else 0) (va_runV (As := [.int (nI kk)]) (rest := []) ⟨hx, hb, hml, hown, hts⟩ (c_X1_isPlace l G hk aw az an nn fw fz fv (nI kk) ) (cwV 1 hts gX1_setNumber_X1_isPlace rfl rfl rfl (by decide +kernel) ⟨Nat.le_of_ble_eq_true rfl, Nat.le_of_ble_eq_true rfl⟩) (kz_pv hK hPc (va_recv hK.1 hPc (ci := 1) (q0 := 0) rfl rfl)) rfl rfl hl.1 rfl (lv_room (Nat.le_of_ble_eq_true rfl)) dX1_setNumber_2 ⟨Nat.zero_le _, Nat.zero_le _⟩).run ?_
  refine lv_if_eq (tgt := 15) hx hb dX1_setNumber_5 (by decide) (fun c_1 => ?_) (fun c_1 => ?_)
  · exact absurd ((kf_plN (by omega) (by omega)).mpr hkk) (kf_if0 c_1)
  · refine lv_aload_n hx hb dX1_setNumber_8 rfl (lv_at hl 0 rfl) ?_
    refine va_get (D := G.1) (ci := 1) (v := .ref an) (C := RX1) (T := TX1) (N := 4) hx hb hts hinX1 hown hK.1 hP 0 rfl rfl 2 (by decide) (hts (.fieldLink RX1 19 "ForkStore$Keys" "numbers" "[I") (by decide +kernel)) (fun _ h9 => h9) rfl dX1_setNumber_9 ?_
    refine lv_iload_n hx hb dX1_setNumber_12 rfl (lv_at hl 1 rfl) ?_
    refine lv_iload_n hx hb dX1_setNumber_13 rfl (lv_at hl 2 rfl) ?_
    refine kz_iast hx hb hK.1 hP hD hS 3 0 rfl rfl (k := kk) (by omega) (by decide) dX1_setNumber_14 (fun H locs hP hD hS => ?_)
    have hP : va_P G.1 vwCl [(hk, .inr (1, [.ref aw, .ref az, .ref an, .int (nI nn)])), (aw, .inl (gJ G, 120, .inr (.inl fw))), (az, .inl (gI G, 120, .inl fz)), (an, .inl (gI G, 120, .inl (upd fv kk vv)))] H := hP
    have hD : va_D A [(hk, .inr (1, [.ref aw, .ref az, .ref an, .int (nI nn)])), (aw, .inl (gJ G, 120, .inr (.inl fw))), (az, .inl (gI G, 120, .inl fz)), (an, .inl (gI G, 120, .inl (upd fv kk vv)))] := hD
    exact W.vret hx hb hr (fun t ht hW => ⟨⟨([(hk, .inr (1, [.ref aw, .ref az, .ref an, .int (nI nn)])), (aw, .inl (gJ G, 120, .inr (.inl fw))), (az, .inl (gI G, 120, .inl fz)), (an, .inl (gI G, 120, .inl (upd fv kk vv)))] : va_W), rfl, rfl, by rw [← ht] at hP; exact hP⟩, hS.F ht⟩) hS.2.2 dX1_setNumber_15

set_option maxHeartbeats 4000000 in
set_option maxRecDepth 100000 in
theorem c_X1_insert (l : Launch) (G : kz_G) (hk aw az an nn : Nat) (fw : Nat → Int64) (fz fv : Nat → Int32) (kk : Nat) (ww : Int64) (zv vv : Int32) (sz : Nat) (hn : nn < 120) (hkk : kk ≤ nn) : Met l yX1_insert wsX1_insert { frames := 1, cells := 0, slots := 0, locals := 20 } (kz_Pm G [.ref hk, .int (nI kk), .long ww, .int zv, .int vv] [(hk, .inr (1, [.ref aw, .ref az, .ref an, .int (nI nn)])), (aw, .inl (gJ G, 120, .inr (.inl fw))), (az, .inl (gI G, 120, .inl fz)), (an, .inl (gI G, 120, .inl fv))] sz) (kz_Qv G (fun w => w = [(hk, .inr (1, [.ref aw, .ref az, .ref an, .int (nI (nn + 1))])), (aw, .inl (gJ G, 120, .inr (.inl (vp_updL (kf_up fw kk nn) kk ww)))), (az, .inl (gI G, 120, .inl (upd (kf_up fz kk nn) kk zv))), (an, .inl (gI G, 120, .inl (upd (kf_up fv kk nn) kk vv)))]) (va_A [(hk, .inr (1, [.ref aw, .ref az, .ref an, .int (nI nn)])), (aw, .inl (gJ G, 120, .inr (.inl fw))), (az, .inl (gI G, 120, .inl fz)), (an, .inl (gI G, 120, .inl fv))] sz)) 0 0 (va_A [(hk, .inr (1, [.ref aw, .ref az, .ref an, .int (nI nn)])), (aw, .inl (gJ G, 120, .inr (.inl fw))), (az, .inl (gI G, 120, .inl fz)), (an, .inl (gI G, 120, .inl fv))] sz) := by
  refine Met.ofW (cc := cX1_insert) (maxL := 7) (ret := none) (by decide) rfl ?_
  intro p e s m args below meth c s₁ B hml hv
  obtain ⟨rfl, hsz, hP, hK, hD0⟩ := hv
  have hx := B.exec
  have hb := B.bytes
  have hr := B.returns
  have hts := atoms_spec (ws := wsX1_insert) B.pre
  have hown : s.vm.findClass RX1 = some m.cls := findClass_of_methodNamed B.named
  have hlocks := B.notSynchronized
  have hinX1 : ∀ w ∈ wsX10, w ∈ wsX1_insert := by decide +kernel
  subst hsz
  have hD := hD0.self (sz := s.heap.size)
  generalize hAe : va_A [(hk, .inr (1, [.ref aw, .ref az, .ref an, .int (nI nn)])), (aw, .inl (gJ G, 120, .inr (.inl fw))), (az, .inl (gI G, 120, .inl fz)), (an, .inl (gI G, 120, .inl fv))] s.heap.size = A at hD ⊢
  have hA : ∀ q : Nat, s.heap.size ≤ q → A q := fun q h => by rw [← hAe]; exact Or.inr h
  have hS : va_S A s.heap s.heap [] := va_S.rf
  have hP : va_P G.1 vwCl [(hk, .inr (1, [.ref aw, .ref az, .ref an, .int (nI nn)])), (aw, .inl (gJ G, 120, .inr (.inl fw))), (az, .inl (gI G, 120, .inl fz)), (an, .inl (gI G, 120, .inl fv))] s.heap := hP
  have hl := lv_entry ([.ref hk, .int (nI kk), .long ww, .int zv, .int vv]) (n := 7) (Nat.le_of_ble_eq_true rfl)
  rw [lg_entry_eq]
  generalize (lg_sl ([.ref hk, .int (nI kk), .long ww, .int zv, .int vv]) ++ List.replicate (7 - (lg_sl ([.ref hk, .int (nI kk), .long ww, .int zv, .int vv])).length) Slot.unset).toArray = ls at hl ⊢
  have hl : lv_has ls 7 [(0, .ref hk), (1, .int (nI kk)), (2, .long ww), (4, .int zv), (5, .int vv)] := hl
  refine lv_aload_n hx hb dX1_insert_0 rfl (lv_at hl 0 rfl) ?_
  have hPc := hP.sub (ws' := [(hk, .inr (1, [.ref aw, .ref az, .ref an, .int (nI nn)])), (aw, .inl (gJ G, 120, .inr (.inl fw))), (az, .inl (gI G, 120, .inl fz)), (an, .inl (gI G, 120, .inl fv))]) [0, 1, 2, 3] rfl
  refine kz_ci (v := if 120 ≤ nn then 1 else 0) (va_runV (As := []) (rest := []) ⟨hx, hb, hml, hown, hts⟩ (c_X1_isFull l G hk aw az an nn fw fz fv  (by omega)) (cwV 0 hts gX1_insert_X1_isFull rfl rfl rfl (by decide +kernel) ⟨Nat.le_of_ble_eq_true rfl, Nat.le_of_ble_eq_true rfl⟩) (kz_pv hK hPc (va_recv hK.1 hPc (ci := 1) (q0 := 0) rfl rfl)) rfl rfl hl.1 rfl (lv_room (Nat.le_of_ble_eq_true rfl)) dX1_insert_1 ⟨Nat.zero_le _, Nat.zero_le _⟩).run ?_
  refine lv_if_ne (tgt := 19) hx hb dX1_insert_4 (by decide) (fun c_1 => ?_) (fun c_1 => ?_)
  · exact absurd (kf_if1 c_1) (by omega)
  · refine lv_iload_n hx hb dX1_insert_7 rfl (lv_at hl 1 rfl) ?_
    refine lv_if_lt (tgt := 19) hx hb dX1_insert_8 (by decide) (fun c_2 => ?_) (fun c_2 => ?_)
    · exact absurd c_2 (nI_pos (by omega))
    · refine lv_iload_n hx hb dX1_insert_11 rfl (lv_at hl 1 rfl) ?_
      refine lv_aload_n hx hb dX1_insert_12 rfl (lv_at hl 0 rfl) ?_
      refine va_get (D := G.1) (ci := 1) (v := .int (nI nn)) (C := RX1) (T := TX1) (N := 4) hx hb hts hinX1 hown hK.1 hP 0 rfl rfl 3 (by decide) (hts (.fieldLink RX1 22 "ForkStore$Keys" "count" "I") (by decide +kernel)) (fun _ h9 => h9) rfl dX1_insert_13 ?_
      refine lv_icmp_le (tgt := 20) hx hb dX1_insert_16 (by decide) (fun c_3 => ?_) (fun c_3 => ?_)
      · refine lv_aload_n hx hb dX1_insert_20 rfl (lv_at hl 0 rfl) ?_
        refine va_get (D := G.1) (ci := 1) (v := .int (nI nn)) (C := RX1) (T := TX1) (N := 4) hx hb hts hinX1 hown hK.1 hP 0 rfl rfl 3 (by decide) (hts (.fieldLink RX1 22 "ForkStore$Keys" "count" "I") (by decide +kernel)) (fun _ h9 => h9) rfl dX1_insert_21 ?_
        refine lv_istore (lv' := [(6, .int (nI nn)), (0, .ref hk), (1, .int (nI kk)), (2, .long ww), (4, .int zv), (5, .int vv)]) hx hb dX1_insert_24 hl (by decide) rfl (fun ls hl => ?_)
        refine kz_loopm (D := G.1) (cl := vwCl) (A := A) (H0 := s.heap) (nL := 7) (hd := 26) (e9 := nn - kk) (i0 := 0) (LV := fun ii => [(6, .int (nI (nn - ii))), (0, .ref hk), (1, .int (nI kk)), (2, .long ww), (4, .int zv), (5, .int vv)]) (WV := fun ii => [(hk, .inr (1, [.ref aw, .ref az, .ref an, .int (nI nn)])), (aw, .inl (gJ G, 120, .inr (.inl (kf_up fw (nn - ii) nn)))), (az, .inl (gI G, 120, .inl (kf_up fz (nn - ii) nn))), (an, .inl (gI G, 120, .inl (kf_up fv (nn - ii) nn)))]) (fun ii H locs ls hii hl hP hD hS ih => ?_) (Nat.zero_le _) (lv_sub hl [0, 1, 2, 3, 4, 5] rfl) (by simp only [Nat.sub_zero, kf_up_id]; exact hP) (by simp only [Nat.sub_zero, kf_up_id]; exact hD) hS
        have hl : lv_has ls 7 [(6, .int (nI (nn - ii))), (0, .ref hk), (1, .int (nI kk)), (2, .long ww), (4, .int zv), (5, .int vv)] := hl
        have hP : va_P G.1 vwCl [(hk, .inr (1, [.ref aw, .ref az, .ref an, .int (nI nn)])), (aw, .inl (gJ G, 120, .inr (.inl (kf_up fw (nn - ii) nn)))), (az, .inl (gI G, 120, .inl (kf_up fz (nn - ii) nn))), (an, .inl (gI G, 120, .inl (kf_up fv (nn - ii) nn)))] H := hP
        have hD : va_D A [(hk, .inr (1, [.ref aw, .ref az, .ref an, .int (nI nn)])), (aw, .inl (gJ G, 120, .inr (.inl (kf_up fw (nn - ii) nn)))), (az, .inl (gI G, 120, .inl (kf_up fz (nn - ii) nn))), (an, .inl (gI G, 120, .inl (kf_up fv (nn - ii) nn)))] := hD
        refine lv_iload hx hb dX1_insert_26 (lv_at hl 0 rfl) ?_
        refine lv_iload_n hx hb dX1_insert_28 rfl (lv_at hl 2 rfl) ?_
        refine lv_icmp_le (tgt := 86) hx hb dX1_insert_29 (by decide) (fun c_4 => ?_) (fun c_4 => ?_)
        · have kc_4 : nn - ii ≤ kk := (nI_leI (by omega) (by omega)).mp c_4
          rw [show nn - ii = kk from by omega] at hP hD
          have hP : va_P G.1 vwCl [(hk, .inr (1, [.ref aw, .ref az, .ref an, .int (nI nn)])), (aw, .inl (gJ G, 120, .inr (.inl (kf_up fw kk nn)))), (az, .inl (gI G, 120, .inl (kf_up fz kk nn))), (an, .inl (gI G, 120, .inl (kf_up fv kk nn)))] _ := hP
          have hD : va_D A [(hk, .inr (1, [.ref aw, .ref az, .ref an, .int (nI nn)])), (aw, .inl (gJ G, 120, .inr (.inl (kf_up fw kk nn)))), (az, .inl (gI G, 120, .inl (kf_up fz kk nn))), (an, .inl (gI G, 120, .inl (kf_up fv kk nn)))] := hD
          refine lv_aload_n hx hb dX1_insert_86 rfl (lv_at hl 1 rfl) ?_
          refine va_get (D := G.1) (ci := 1) (v := .ref aw) (C := RX1) (T := TX1) (N := 4) hx hb hts hinX1 hown hK.1 hP 0 rfl rfl 0 (by decide) (hts (.fieldLink RX1 9 "ForkStore$Keys" "words" "[J") (by decide +kernel)) (fun _ h9 => h9) rfl dX1_insert_87 ?_
          refine lv_iload_n hx hb dX1_insert_90 rfl (lv_at hl 2 rfl) ?_
          refine lv_lload_n hx hb dX1_insert_91 rfl (lv_at hl 3 rfl) ?_
          refine kz_last hx hb hK.1 hP hD hS 1 1 rfl rfl (k := kk) (by omega) (by decide) dX1_insert_92 (fun H locs hP hD hS => ?_)
          have hP : va_P G.1 vwCl [(hk, .inr (1, [.ref aw, .ref az, .ref an, .int (nI nn)])), (aw, .inl (gJ G, 120, .inr (.inl (vp_updL (kf_up fw kk nn) kk ww)))), (az, .inl (gI G, 120, .inl (kf_up fz kk nn))), (an, .inl (gI G, 120, .inl (kf_up fv kk nn)))] H := hP
          have hD : va_D A [(hk, .inr (1, [.ref aw, .ref az, .ref an, .int (nI nn)])), (aw, .inl (gJ G, 120, .inr (.inl (vp_updL (kf_up fw kk nn) kk ww)))), (az, .inl (gI G, 120, .inl (kf_up fz kk nn))), (an, .inl (gI G, 120, .inl (kf_up fv kk nn)))] := hD
          refine lv_aload_n hx hb dX1_insert_93 rfl (lv_at hl 1 rfl) ?_
          refine va_get (D := G.1) (ci := 1) (v := .ref az) (C := RX1) (T := TX1) (N := 4) hx hb hts hinX1 hown hK.1 hP 0 rfl rfl 1 (by decide) (hts (.fieldLink RX1 15 "ForkStore$Keys" "sizes" "[I") (by decide +kernel)) (fun _ h9 => h9) rfl dX1_insert_94 ?_
          refine lv_iload_n hx hb dX1_insert_97 rfl (lv_at hl 2 rfl) ?_
          refine lv_iload hx hb dX1_insert_98 (lv_at hl 4 rfl) ?_
          refine kz_iast hx hb hK.1 hP hD hS 2 0 rfl rfl (k := kk) (by omega) (by decide) dX1_insert_100 (fun H locs hP hD hS => ?_)
          have hP : va_P G.1 vwCl [(hk, .inr (1, [.ref aw, .ref az, .ref an, .int (nI nn)])), (aw, .inl (gJ G, 120, .inr (.inl (vp_updL (kf_up fw kk nn) kk ww)))), (az, .inl (gI G, 120, .inl (upd (kf_up fz kk nn) kk zv))), (an, .inl (gI G, 120, .inl (kf_up fv kk nn)))] H := hP
          have hD : va_D A [(hk, .inr (1, [.ref aw, .ref az, .ref an, .int (nI nn)])), (aw, .inl (gJ G, 120, .inr (.inl (vp_updL (kf_up fw kk nn) kk ww)))), (az, .inl (gI G, 120, .inl (upd (kf_up fz kk nn) kk zv))), (an, .inl (gI G, 120, .inl (kf_up fv kk nn)))] := hD
          refine lv_aload_n hx hb dX1_insert_101 rfl (lv_at hl 1 rfl) ?_
          refine va_get (D := G.1) (ci := 1) (v := .ref an) (C := RX1) (T := TX1) (N := 4) hx hb hts hinX1 hown hK.1 hP 0 rfl rfl 2 (by decide) (hts (.fieldLink RX1 19 "ForkStore$Keys" "numbers" "[I") (by decide +kernel)) (fun _ h9 => h9) rfl dX1_insert_102 ?_
          refine lv_iload_n hx hb dX1_insert_105 rfl (lv_at hl 2 rfl) ?_
          refine lv_iload hx hb dX1_insert_106 (lv_at hl 5 rfl) ?_
          refine kz_iast hx hb hK.1 hP hD hS 3 0 rfl rfl (k := kk) (by omega) (by decide) dX1_insert_108 (fun H locs hP hD hS => ?_)
          have hP : va_P G.1 vwCl [(hk, .inr (1, [.ref aw, .ref az, .ref an, .int (nI nn)])), (aw, .inl (gJ G, 120, .inr (.inl (vp_updL (kf_up fw kk nn) kk ww)))), (az, .inl (gI G, 120, .inl (upd (kf_up fz kk nn) kk zv))), (an, .inl (gI G, 120, .inl (upd (kf_up fv kk nn) kk vv)))] H := hP
          have hD : va_D A [(hk, .inr (1, [.ref aw, .ref az, .ref an, .int (nI nn)])), (aw, .inl (gJ G, 120, .inr (.inl (vp_updL (kf_up fw kk nn) kk ww)))), (az, .inl (gI G, 120, .inl (upd (kf_up fz kk nn) kk zv))), (an, .inl (gI G, 120, .inl (upd (kf_up fv kk nn) kk vv)))] := hD
          refine lv_aload_n hx hb dX1_insert_109 rfl (lv_at hl 1 rfl) ?_
          refine lv_dup hx hb dX1_insert_110 rfl ?_
          refine va_get (D := G.1) (ci := 1) (v := .int (nI nn)) (C := RX1) (T := TX1) (N := 4) hx hb hts hinX1 hown hK.1 hP 0 rfl rfl 3 (by decide) (hts (.fieldLink RX1 22 "ForkStore$Keys" "count" "I") (by decide +kernel)) (fun _ h9 => h9) rfl dX1_insert_111 ?_
          refine lv_iconst (v := 1) hx hb dX1_insert_114 (by decide) ?_
          refine lv_iadd hx hb dX1_insert_115 ?_
          refine kz_asi (y := nI (nn + 1)) (nI_1 nn) ?_
          refine va_put (D := G.1) (ci := 1) (v := .int (nI (nn + 1))) (ty := .int) (C := RX1) (T := TX1) (N := 4) hx hb hts hinX1 tyX1 tyX1_ok nmX1 hown hK.1 hP hD hS 0 rfl rfl 3 (by decide) (hts (.fieldLink RX1 22 "ForkStore$Keys" "count" "I") (by decide +kernel)) (fun _ h9 => h9) rfl (by decide +kernel) rfl rfl (Nat.le_of_ble_eq_true rfl) dX1_insert_116 (fun H locs hP hD hS => ?_)
          have hP : va_P G.1 vwCl [(hk, .inr (1, [.ref aw, .ref az, .ref an, .int (nI (nn + 1))])), (aw, .inl (gJ G, 120, .inr (.inl (vp_updL (kf_up fw kk nn) kk ww)))), (az, .inl (gI G, 120, .inl (upd (kf_up fz kk nn) kk zv))), (an, .inl (gI G, 120, .inl (upd (kf_up fv kk nn) kk vv)))] H := hP
          have hD : va_D A [(hk, .inr (1, [.ref aw, .ref az, .ref an, .int (nI (nn + 1))])), (aw, .inl (gJ G, 120, .inr (.inl (vp_updL (kf_up fw kk nn) kk ww)))), (az, .inl (gI G, 120, .inl (upd (kf_up fz kk nn) kk zv))), (an, .inl (gI G, 120, .inl (upd (kf_up fv kk nn) kk vv)))] := hD
          exact W.vret hx hb hr (fun t ht hW => ⟨⟨([(hk, .inr (1, [.ref aw, .ref az, .ref an, .int (nI (nn + 1))])), (aw, .inl (gJ G, 120, .inr (.inl (vp_updL (kf_up fw kk nn) kk ww)))), (az, .inl (gI G, 120, .inl (upd (kf_up fz kk nn) kk zv))), (an, .inl (gI G, 120, .inl (upd (kf_up fv kk nn) kk vv)))] : va_W), rfl, rfl, by rw [← ht] at hP; exact hP⟩, hS.F ht⟩) hS.2.2 dX1_insert_119
        · have kc_4 : kk < nn - ii := Nat.lt_of_not_le (fun h => c_4 (nI_le h (by omega)))
          refine lv_aload_n hx hb dX1_insert_32 rfl (lv_at hl 1 rfl) ?_
          refine va_get (D := G.1) (ci := 1) (v := .ref aw) (C := RX1) (T := TX1) (N := 4) hx hb hts hinX1 hown hK.1 hP 0 rfl rfl 0 (by decide) (hts (.fieldLink RX1 9 "ForkStore$Keys" "words" "[J") (by decide +kernel)) (fun _ h9 => h9) rfl dX1_insert_33 ?_
          refine lv_iload hx hb dX1_insert_36 (lv_at hl 0 rfl) ?_
          refine lv_aload_n hx hb dX1_insert_38 rfl (lv_at hl 1 rfl) ?_
          refine va_get (D := G.1) (ci := 1) (v := .ref aw) (C := RX1) (T := TX1) (N := 4) hx hb hts hinX1 hown hK.1 hP 0 rfl rfl 0 (by decide) (hts (.fieldLink RX1 9 "ForkStore$Keys" "words" "[J") (by decide +kernel)) (fun _ h9 => h9) rfl dX1_insert_39 ?_
          refine lv_iload hx hb dX1_insert_42 (lv_at hl 0 rfl) ?_
          refine lv_iconst (v := 1) hx hb dX1_insert_44 (by decide) ?_
          refine lv_isub hx hb dX1_insert_45 ?_
          refine kz_asi (y := nI (nn - ii - 1)) (pk_sub (a := nn - ii) (b := 1) (by omega)) ?_
          refine kz_lald hx hb hK.1 hP 1 1 rfl rfl (k := (nn - ii - 1)) (by omega) (by decide) dX1_insert_46 ?_
          refine kz_last hx hb hK.1 hP hD hS 1 1 rfl rfl (k := (nn - ii)) (by omega) (by decide) dX1_insert_47 (fun H locs hP hD hS => ?_)
          have hP : va_P G.1 vwCl [(hk, .inr (1, [.ref aw, .ref az, .ref an, .int (nI nn)])), (aw, .inl (gJ G, 120, .inr (.inl (vp_updL (kf_up fw (nn - ii) nn) (nn - ii) ((kf_up fw (nn - ii) nn) (nn - ii - 1)))))), (az, .inl (gI G, 120, .inl (kf_up fz (nn - ii) nn))), (an, .inl (gI G, 120, .inl (kf_up fv (nn - ii) nn)))] H := hP
          have hD : va_D A [(hk, .inr (1, [.ref aw, .ref az, .ref an, .int (nI nn)])), (aw, .inl (gJ G, 120, .inr (.inl (vp_updL (kf_up fw (nn - ii) nn) (nn - ii) ((kf_up fw (nn - ii) nn) (nn - ii - 1)))))), (az, .inl (gI G, 120, .inl (kf_up fz (nn - ii) nn))), (an, .inl (gI G, 120, .inl (kf_up fv (nn - ii) nn)))] := hD
          refine lv_aload_n hx hb dX1_insert_48 rfl (lv_at hl 1 rfl) ?_
          refine va_get (D := G.1) (ci := 1) (v := .ref az) (C := RX1) (T := TX1) (N := 4) hx hb hts hinX1 hown hK.1 hP 0 rfl rfl 1 (by decide) (hts (.fieldLink RX1 15 "ForkStore$Keys" "sizes" "[I") (by decide +kernel)) (fun _ h9 => h9) rfl dX1_insert_49 ?_
          refine lv_iload hx hb dX1_insert_52 (lv_at hl 0 rfl) ?_
          refine lv_aload_n hx hb dX1_insert_54 rfl (lv_at hl 1 rfl) ?_
          refine va_get (D := G.1) (ci := 1) (v := .ref az) (C := RX1) (T := TX1) (N := 4) hx hb hts hinX1 hown hK.1 hP 0 rfl rfl 1 (by decide) (hts (.fieldLink RX1 15 "ForkStore$Keys" "sizes" "[I") (by decide +kernel)) (fun _ h9 => h9) rfl dX1_insert_55 ?_
          refine lv_iload hx hb dX1_insert_58 (lv_at hl 0 rfl) ?_
          refine lv_iconst (v := 1) hx hb dX1_insert_60 (by decide) ?_
          refine lv_isub hx hb dX1_insert_61 ?_
          refine kz_asi (y := nI (nn - ii - 1)) (pk_sub (a := nn - ii) (b := 1) (by omega)) ?_
          refine kz_iald hx hb hK.1 hP 2 0 rfl rfl (k := (nn - ii - 1)) (by omega) (by decide) dX1_insert_62 ?_
          refine kz_iast hx hb hK.1 hP hD hS 2 0 rfl rfl (k := (nn - ii)) (by omega) (by decide) dX1_insert_63 (fun H locs hP hD hS => ?_)
          have hP : va_P G.1 vwCl [(hk, .inr (1, [.ref aw, .ref az, .ref an, .int (nI nn)])), (aw, .inl (gJ G, 120, .inr (.inl (vp_updL (kf_up fw (nn - ii) nn) (nn - ii) ((kf_up fw (nn - ii) nn) (nn - ii - 1)))))), (az, .inl (gI G, 120, .inl (upd (kf_up fz (nn - ii) nn) (nn - ii) ((kf_up fz (nn - ii) nn) (nn - ii - 1))))), (an, .inl (gI G, 120, .inl (kf_up fv (nn - ii) nn)))] H := hP
          have hD : va_D A [(hk, .inr (1, [.ref aw, .ref az, .ref an, .int (nI nn)])), (aw, .inl (gJ G, 120, .inr (.inl (vp_updL (kf_up fw (nn - ii) nn) (nn - ii) ((kf_up fw (nn - ii) nn) (nn - ii - 1)))))), (az, .inl (gI G, 120, .inl (upd (kf_up fz (nn - ii) nn) (nn - ii) ((kf_up fz (nn - ii) nn) (nn - ii - 1))))), (an, .inl (gI G, 120, .inl (kf_up fv (nn - ii) nn)))] := hD
          refine lv_aload_n hx hb dX1_insert_64 rfl (lv_at hl 1 rfl) ?_
          refine va_get (D := G.1) (ci := 1) (v := .ref an) (C := RX1) (T := TX1) (N := 4) hx hb hts hinX1 hown hK.1 hP 0 rfl rfl 2 (by decide) (hts (.fieldLink RX1 19 "ForkStore$Keys" "numbers" "[I") (by decide +kernel)) (fun _ h9 => h9) rfl dX1_insert_65 ?_
          refine lv_iload hx hb dX1_insert_68 (lv_at hl 0 rfl) ?_
          refine lv_aload_n hx hb dX1_insert_70 rfl (lv_at hl 1 rfl) ?_
          refine va_get (D := G.1) (ci := 1) (v := .ref an) (C := RX1) (T := TX1) (N := 4) hx hb hts hinX1 hown hK.1 hP 0 rfl rfl 2 (by decide) (hts (.fieldLink RX1 19 "ForkStore$Keys" "numbers" "[I") (by decide +kernel)) (fun _ h9 => h9) rfl dX1_insert_71 ?_
          refine lv_iload hx hb dX1_insert_74 (lv_at hl 0 rfl) ?_
          refine lv_iconst (v := 1) hx hb dX1_insert_76 (by decide) ?_
          refine lv_isub hx hb dX1_insert_77 ?_
          refine kz_asi (y := nI (nn - ii - 1)) (pk_sub (a := nn - ii) (b := 1) (by omega)) ?_
          refine kz_iald hx hb hK.1 hP 3 0 rfl rfl (k := (nn - ii - 1)) (by omega) (by decide) dX1_insert_78 ?_
          refine kz_iast hx hb hK.1 hP hD hS 3 0 rfl rfl (k := (nn - ii)) (by omega) (by decide) dX1_insert_79 (fun H locs hP hD hS => ?_)
          have hP : va_P G.1 vwCl [(hk, .inr (1, [.ref aw, .ref az, .ref an, .int (nI nn)])), (aw, .inl (gJ G, 120, .inr (.inl (vp_updL (kf_up fw (nn - ii) nn) (nn - ii) ((kf_up fw (nn - ii) nn) (nn - ii - 1)))))), (az, .inl (gI G, 120, .inl (upd (kf_up fz (nn - ii) nn) (nn - ii) ((kf_up fz (nn - ii) nn) (nn - ii - 1))))), (an, .inl (gI G, 120, .inl (upd (kf_up fv (nn - ii) nn) (nn - ii) ((kf_up fv (nn - ii) nn) (nn - ii - 1)))))] H := hP
          have hD : va_D A [(hk, .inr (1, [.ref aw, .ref az, .ref an, .int (nI nn)])), (aw, .inl (gJ G, 120, .inr (.inl (vp_updL (kf_up fw (nn - ii) nn) (nn - ii) ((kf_up fw (nn - ii) nn) (nn - ii - 1)))))), (az, .inl (gI G, 120, .inl (upd (kf_up fz (nn - ii) nn) (nn - ii) ((kf_up fz (nn - ii) nn) (nn - ii - 1))))), (an, .inl (gI G, 120, .inl (upd (kf_up fv (nn - ii) nn) (nn - ii) ((kf_up fv (nn - ii) nn) (nn - ii - 1)))))] := hD
          refine lv_iinc (v := nI (nn - (ii + 1))) (lv' := [(6, .int (nI (nn - (ii + 1)))), (0, .ref hk), (1, .int (nI kk)), (2, .long ww), (4, .int zv), (5, .int vv)]) hx hb dX1_insert_80 hl (k := 0) rfl (by rw [show nn - ii = (nn - (ii + 1)) + 1 from by omega]; exact pk_m1 _) (by decide) rfl (fun ls hl => ?_)
          refine lv_goto (tgt := 26) hx hb dX1_insert_83 (by decide) ?_
          have e1 := kf_up_L fw (i := nn - ii) (n := nn) (by omega) (by omega)
          have e2 := kf_up_I fz (i := nn - ii) (n := nn) (by omega) (by omega)
          have e3 := kf_up_I fv (i := nn - ii) (n := nn) (by omega) (by omega)
          exact ih H locs ls (by omega) (lv_sub hl [0, 1, 2, 3, 4, 5] rfl) (by show va_P G.1 vwCl [(hk, .inr (1, [.ref aw, .ref az, .ref an, .int (nI nn)])), (aw, .inl (gJ G, 120, .inr (.inl (kf_up fw (nn - ii - 1) nn)))), (az, .inl (gI G, 120, .inl (kf_up fz (nn - ii - 1) nn))), (an, .inl (gI G, 120, .inl (kf_up fv (nn - ii - 1) nn)))] H; rw [e1, e2, e3]; exact hP) (by show va_D A [(hk, .inr (1, [.ref aw, .ref az, .ref an, .int (nI nn)])), (aw, .inl (gJ G, 120, .inr (.inl (kf_up fw (nn - ii - 1) nn)))), (az, .inl (gI G, 120, .inl (kf_up fz (nn - ii - 1) nn))), (an, .inl (gI G, 120, .inl (kf_up fv (nn - ii - 1) nn)))]; rw [e1, e2, e3]; exact hD) hS
      · exact absurd (nI_le hkk (by omega)) c_3

set_option maxHeartbeats 4000000 in
set_option maxRecDepth 100000 in
theorem c_X1_takeOut (l : Launch) (G : kz_G) (hk aw az an nn : Nat) (fw : Nat → Int64) (fz fv : Nat → Int32) (kk : Nat) (sz : Nat) (hn : nn ≤ 120) (hkk : kk < nn) : Met l yX1_takeOut wsX1_takeOut { frames := 1, cells := 0, slots := 0, locals := 21 } (kz_Pm G [.ref hk, .int (nI kk)] [(hk, .inr (1, [.ref aw, .ref az, .ref an, .int (nI nn)])), (aw, .inl (gJ G, 120, .inr (.inl fw))), (az, .inl (gI G, 120, .inl fz)), (an, .inl (gI G, 120, .inl fv))] sz) (kz_Qv G (fun w => w = [(hk, .inr (1, [.ref aw, .ref az, .ref an, .int (nI (nn - 1))])), (aw, .inl (gJ G, 120, .inr (.inl (kf_dn fw kk (nn - 1))))), (az, .inl (gI G, 120, .inl (kf_dn fz kk (nn - 1)))), (an, .inl (gI G, 120, .inl (kf_dn fv kk (nn - 1))))]) (va_A [(hk, .inr (1, [.ref aw, .ref az, .ref an, .int (nI nn)])), (aw, .inl (gJ G, 120, .inr (.inl fw))), (az, .inl (gI G, 120, .inl fz)), (an, .inl (gI G, 120, .inl fv))] sz)) 0 0 (va_A [(hk, .inr (1, [.ref aw, .ref az, .ref an, .int (nI nn)])), (aw, .inl (gJ G, 120, .inr (.inl fw))), (az, .inl (gI G, 120, .inl fz)), (an, .inl (gI G, 120, .inl fv))] sz) := by
  refine Met.ofW (cc := cX1_takeOut) (maxL := 3) (ret := none) (by decide) rfl ?_
  intro p e s m args below meth c s₁ B hml hv
  obtain ⟨rfl, hsz, hP, hK, hD0⟩ := hv
  have hx := B.exec
  have hb := B.bytes
  have hr := B.returns
  have hts := atoms_spec (ws := wsX1_takeOut) B.pre
  have hown : s.vm.findClass RX1 = some m.cls := findClass_of_methodNamed B.named
  have hlocks := B.notSynchronized
  have hinX1 : ∀ w ∈ wsX10, w ∈ wsX1_takeOut := by decide +kernel
  subst hsz
  have hD := hD0.self (sz := s.heap.size)
  generalize hAe : va_A [(hk, .inr (1, [.ref aw, .ref az, .ref an, .int (nI nn)])), (aw, .inl (gJ G, 120, .inr (.inl fw))), (az, .inl (gI G, 120, .inl fz)), (an, .inl (gI G, 120, .inl fv))] s.heap.size = A at hD ⊢
  have hA : ∀ q : Nat, s.heap.size ≤ q → A q := fun q h => by rw [← hAe]; exact Or.inr h
  have hS : va_S A s.heap s.heap [] := va_S.rf
  have hP : va_P G.1 vwCl [(hk, .inr (1, [.ref aw, .ref az, .ref an, .int (nI nn)])), (aw, .inl (gJ G, 120, .inr (.inl fw))), (az, .inl (gI G, 120, .inl fz)), (an, .inl (gI G, 120, .inl fv))] s.heap := hP
  have hl := lv_entry ([.ref hk, .int (nI kk)]) (n := 3) (Nat.le_of_ble_eq_true rfl)
  rw [lg_entry_eq]
  generalize (lg_sl ([.ref hk, .int (nI kk)]) ++ List.replicate (3 - (lg_sl ([.ref hk, .int (nI kk)])).length) Slot.unset).toArray = ls at hl ⊢
  have hl : lv_has ls 3 [(0, .ref hk), (1, .int (nI kk))] := hl
  refine lv_aload_n hx hb dX1_takeOut_0 rfl (lv_at hl 0 rfl) ?_
  refine lv_iload_n hx hb dX1_takeOut_1 rfl (lv_at hl 1 rfl) ?_
  have hPc := hP.sub (ws' := [(hk, .inr (1, [.ref aw, .ref az, .ref an, .int (nI nn)])), (aw, .inl (gJ G, 120, .inr (.inl fw))), (az, .inl (gI G, 120, .inl fz)), (an, .inl (gI G, 120, .inl fv))]) [0, 1, 2, 3] rfl
  refine kz_ci (v := if 0 ≤ nI kk ∧ nI kk < nI nn then 1 else 0) (va_runV (As := [.int (nI kk)]) (rest := []) ⟨hx, hb, hml, hown, hts⟩ (c_X1_isPlace l G hk aw az an nn fw fz fv (nI kk) ) (cwV 1 hts gX1_takeOut_X1_isPlace rfl rfl rfl (by decide +kernel) ⟨Nat.le_of_ble_eq_true rfl, Nat.le_of_ble_eq_true rfl⟩) (kz_pv hK hPc (va_recv hK.1 hPc (ci := 1) (q0 := 0) rfl rfl)) rfl rfl hl.1 rfl (lv_room (Nat.le_of_ble_eq_true rfl)) dX1_takeOut_2 ⟨Nat.zero_le _, Nat.zero_le _⟩).run ?_
  refine lv_if_ne (tgt := 9) hx hb dX1_takeOut_5 (by decide) (fun c_1 => ?_) (fun c_1 => ?_)
  · refine lv_iload_n hx hb dX1_takeOut_9 rfl (lv_at hl 1 rfl) ?_
    refine lv_istore_n (lv' := [(2, .int (nI kk)), (0, .ref hk), (1, .int (nI kk))]) hx hb dX1_takeOut_10 rfl hl (by decide) rfl (fun ls hl => ?_)
    refine kz_loopm (D := G.1) (cl := vwCl) (A := A) (H0 := s.heap) (nL := 3) (hd := 11) (e9 := nn - 1 - kk) (i0 := 0) (LV := fun ii => [(2, .int (nI (kk + ii))), (0, .ref hk), (1, .int (nI kk))]) (WV := fun ii => [(hk, .inr (1, [.ref aw, .ref az, .ref an, .int (nI nn)])), (aw, .inl (gJ G, 120, .inr (.inl (kf_dn fw kk (kk + ii))))), (az, .inl (gI G, 120, .inl (kf_dn fz kk (kk + ii)))), (an, .inl (gI G, 120, .inl (kf_dn fv kk (kk + ii))))]) (fun ii H locs ls hii hl hP hD hS ih => ?_) (Nat.zero_le _) (lv_sub hl [0, 1, 2] rfl) (by simp only [Nat.add_zero, kf_dn_id]; exact hP) (by simp only [Nat.add_zero, kf_dn_id]; exact hD) hS
    have hl : lv_has ls 3 [(2, .int (nI (kk + ii))), (0, .ref hk), (1, .int (nI kk))] := hl
    have hP : va_P G.1 vwCl [(hk, .inr (1, [.ref aw, .ref az, .ref an, .int (nI nn)])), (aw, .inl (gJ G, 120, .inr (.inl (kf_dn fw kk (kk + ii))))), (az, .inl (gI G, 120, .inl (kf_dn fz kk (kk + ii)))), (an, .inl (gI G, 120, .inl (kf_dn fv kk (kk + ii))))] H := hP
    have hD : va_D A [(hk, .inr (1, [.ref aw, .ref az, .ref an, .int (nI nn)])), (aw, .inl (gJ G, 120, .inr (.inl (kf_dn fw kk (kk + ii))))), (az, .inl (gI G, 120, .inl (kf_dn fz kk (kk + ii)))), (an, .inl (gI G, 120, .inl (kf_dn fv kk (kk + ii))))] := hD
    refine lv_iload_n hx hb dX1_takeOut_11 rfl (lv_at hl 0 rfl) ?_
    refine lv_iconst (v := 1) hx hb dX1_takeOut_12 (by decide) ?_
    refine lv_iadd hx hb dX1_takeOut_13 ?_
    refine kz_asi (y := nI (kk + ii + 1)) (nI_1 (kk + ii)) ?_
    refine lv_aload_n hx hb dX1_takeOut_14 rfl (lv_at hl 1 rfl) ?_
    refine va_get (D := G.1) (ci := 1) (v := .int (nI nn)) (C := RX1) (T := TX1) (N := 4) hx hb hts hinX1 hown hK.1 hP 0 rfl rfl 3 (by decide) (hts (.fieldLink RX1 22 "ForkStore$Keys" "count" "I") (by decide +kernel)) (fun _ h9 => h9) rfl dX1_takeOut_15 ?_
    refine lv_icmp_ge (tgt := 69) hx hb dX1_takeOut_18 (by decide) (fun c_2 => ?_) (fun c_2 => ?_)
    · have kc_2 : nn ≤ kk + ii + 1 := (nI_leI (by omega) (by omega)).mp c_2
      rw [show kk + ii = nn - 1 from by omega] at hP hD
      have hP : va_P G.1 vwCl [(hk, .inr (1, [.ref aw, .ref az, .ref an, .int (nI nn)])), (aw, .inl (gJ G, 120, .inr (.inl (kf_dn fw kk (nn - 1))))), (az, .inl (gI G, 120, .inl (kf_dn fz kk (nn - 1)))), (an, .inl (gI G, 120, .inl (kf_dn fv kk (nn - 1))))] _ := hP
      have hD : va_D A [(hk, .inr (1, [.ref aw, .ref az, .ref an, .int (nI nn)])), (aw, .inl (gJ G, 120, .inr (.inl (kf_dn fw kk (nn - 1))))), (az, .inl (gI G, 120, .inl (kf_dn fz kk (nn - 1)))), (an, .inl (gI G, 120, .inl (kf_dn fv kk (nn - 1))))] := hD
      refine lv_aload_n hx hb dX1_takeOut_69 rfl (lv_at hl 1 rfl) ?_
      refine lv_dup hx hb dX1_takeOut_70 rfl ?_
      refine va_get (D := G.1) (ci := 1) (v := .int (nI nn)) (C := RX1) (T := TX1) (N := 4) hx hb hts hinX1 hown hK.1 hP 0 rfl rfl 3 (by decide) (hts (.fieldLink RX1 22 "ForkStore$Keys" "count" "I") (by decide +kernel)) (fun _ h9 => h9) rfl dX1_takeOut_71 ?_
      refine lv_iconst (v := 1) hx hb dX1_takeOut_74 (by decide) ?_
      refine lv_isub hx hb dX1_takeOut_75 ?_
      refine kz_asi (y := nI (nn - 1)) (pk_sub (a := nn) (b := 1) (by omega)) ?_
      refine va_put (D := G.1) (ci := 1) (v := .int (nI (nn - 1))) (ty := .int) (C := RX1) (T := TX1) (N := 4) hx hb hts hinX1 tyX1 tyX1_ok nmX1 hown hK.1 hP hD hS 0 rfl rfl 3 (by decide) (hts (.fieldLink RX1 22 "ForkStore$Keys" "count" "I") (by decide +kernel)) (fun _ h9 => h9) rfl (by decide +kernel) rfl rfl (Nat.le_of_ble_eq_true rfl) dX1_takeOut_76 (fun H locs hP hD hS => ?_)
      have hP : va_P G.1 vwCl [(hk, .inr (1, [.ref aw, .ref az, .ref an, .int (nI (nn - 1))])), (aw, .inl (gJ G, 120, .inr (.inl (kf_dn fw kk (nn - 1))))), (az, .inl (gI G, 120, .inl (kf_dn fz kk (nn - 1)))), (an, .inl (gI G, 120, .inl (kf_dn fv kk (nn - 1))))] H := hP
      have hD : va_D A [(hk, .inr (1, [.ref aw, .ref az, .ref an, .int (nI (nn - 1))])), (aw, .inl (gJ G, 120, .inr (.inl (kf_dn fw kk (nn - 1))))), (az, .inl (gI G, 120, .inl (kf_dn fz kk (nn - 1)))), (an, .inl (gI G, 120, .inl (kf_dn fv kk (nn - 1))))] := hD
      exact W.vret hx hb hr (fun t ht hW => ⟨⟨([(hk, .inr (1, [.ref aw, .ref az, .ref an, .int (nI (nn - 1))])), (aw, .inl (gJ G, 120, .inr (.inl (kf_dn fw kk (nn - 1))))), (az, .inl (gI G, 120, .inl (kf_dn fz kk (nn - 1)))), (an, .inl (gI G, 120, .inl (kf_dn fv kk (nn - 1))))] : va_W), rfl, rfl, by rw [← ht] at hP; exact hP⟩, hS.F ht⟩) hS.2.2 dX1_takeOut_79
    · have kc_2 : kk + ii + 1 < nn := Nat.lt_of_not_le (fun h => c_2 (nI_le h (by omega)))
      refine lv_aload_n hx hb dX1_takeOut_21 rfl (lv_at hl 1 rfl) ?_
      refine va_get (D := G.1) (ci := 1) (v := .ref aw) (C := RX1) (T := TX1) (N := 4) hx hb hts hinX1 hown hK.1 hP 0 rfl rfl 0 (by decide) (hts (.fieldLink RX1 9 "ForkStore$Keys" "words" "[J") (by decide +kernel)) (fun _ h9 => h9) rfl dX1_takeOut_22 ?_
      refine lv_iload_n hx hb dX1_takeOut_25 rfl (lv_at hl 0 rfl) ?_
      refine lv_aload_n hx hb dX1_takeOut_26 rfl (lv_at hl 1 rfl) ?_
      refine va_get (D := G.1) (ci := 1) (v := .ref aw) (C := RX1) (T := TX1) (N := 4) hx hb hts hinX1 hown hK.1 hP 0 rfl rfl 0 (by decide) (hts (.fieldLink RX1 9 "ForkStore$Keys" "words" "[J") (by decide +kernel)) (fun _ h9 => h9) rfl dX1_takeOut_27 ?_
      refine lv_iload_n hx hb dX1_takeOut_30 rfl (lv_at hl 0 rfl) ?_
      refine lv_iconst (v := 1) hx hb dX1_takeOut_31 (by decide) ?_
      refine lv_iadd hx hb dX1_takeOut_32 ?_
      refine kz_asi (y := nI (kk + ii + 1)) (nI_1 (kk + ii)) ?_
      refine kz_lald hx hb hK.1 hP 1 1 rfl rfl (k := (kk + ii + 1)) (by omega) (by decide) dX1_takeOut_33 ?_
      refine kz_last hx hb hK.1 hP hD hS 1 1 rfl rfl (k := (kk + ii)) (by omega) (by decide) dX1_takeOut_34 (fun H locs hP hD hS => ?_)
      have hP : va_P G.1 vwCl [(hk, .inr (1, [.ref aw, .ref az, .ref an, .int (nI nn)])), (aw, .inl (gJ G, 120, .inr (.inl (vp_updL (kf_dn fw kk (kk + ii)) (kk + ii) ((kf_dn fw kk (kk + ii)) (kk + ii + 1)))))), (az, .inl (gI G, 120, .inl (kf_dn fz kk (kk + ii)))), (an, .inl (gI G, 120, .inl (kf_dn fv kk (kk + ii))))] H := hP
      have hD : va_D A [(hk, .inr (1, [.ref aw, .ref az, .ref an, .int (nI nn)])), (aw, .inl (gJ G, 120, .inr (.inl (vp_updL (kf_dn fw kk (kk + ii)) (kk + ii) ((kf_dn fw kk (kk + ii)) (kk + ii + 1)))))), (az, .inl (gI G, 120, .inl (kf_dn fz kk (kk + ii)))), (an, .inl (gI G, 120, .inl (kf_dn fv kk (kk + ii))))] := hD
      refine lv_aload_n hx hb dX1_takeOut_35 rfl (lv_at hl 1 rfl) ?_
      refine va_get (D := G.1) (ci := 1) (v := .ref az) (C := RX1) (T := TX1) (N := 4) hx hb hts hinX1 hown hK.1 hP 0 rfl rfl 1 (by decide) (hts (.fieldLink RX1 15 "ForkStore$Keys" "sizes" "[I") (by decide +kernel)) (fun _ h9 => h9) rfl dX1_takeOut_36 ?_
      refine lv_iload_n hx hb dX1_takeOut_39 rfl (lv_at hl 0 rfl) ?_
      refine lv_aload_n hx hb dX1_takeOut_40 rfl (lv_at hl 1 rfl) ?_
      refine va_get (D := G.1) (ci := 1) (v := .ref az) (C := RX1) (T := TX1) (N := 4) hx hb hts hinX1 hown hK.1 hP 0 rfl rfl 1 (by decide) (hts (.fieldLink RX1 15 "ForkStore$Keys" "sizes" "[I") (by decide +kernel)) (fun _ h9 => h9) rfl dX1_takeOut_41 ?_
      refine lv_iload_n hx hb dX1_takeOut_44 rfl (lv_at hl 0 rfl) ?_
      refine lv_iconst (v := 1) hx hb dX1_takeOut_45 (by decide) ?_
      refine lv_iadd hx hb dX1_takeOut_46 ?_
      refine kz_asi (y := nI (kk + ii + 1)) (nI_1 (kk + ii)) ?_
      refine kz_iald hx hb hK.1 hP 2 0 rfl rfl (k := (kk + ii + 1)) (by omega) (by decide) dX1_takeOut_47 ?_
      refine kz_iast hx hb hK.1 hP hD hS 2 0 rfl rfl (k := (kk + ii)) (by omega) (by decide) dX1_takeOut_48 (fun H locs hP hD hS => ?_)
      have hP : va_P G.1 vwCl [(hk, .inr (1, [.ref aw, .ref az, .ref an, .int (nI nn)])), (aw, .inl (gJ G, 120, .inr (.inl (vp_updL (kf_dn fw kk (kk + ii)) (kk + ii) ((kf_dn fw kk (kk + ii)) (kk + ii + 1)))))), (az, .inl (gI G, 120, .inl (upd (kf_dn fz kk (kk + ii)) (kk + ii) ((kf_dn fz kk (kk + ii)) (kk + ii + 1))))), (an, .inl (gI G, 120, .inl (kf_dn fv kk (kk + ii))))] H := hP
      have hD : va_D A [(hk, .inr (1, [.ref aw, .ref az, .ref an, .int (nI nn)])), (aw, .inl (gJ G, 120, .inr (.inl (vp_updL (kf_dn fw kk (kk + ii)) (kk + ii) ((kf_dn fw kk (kk + ii)) (kk + ii + 1)))))), (az, .inl (gI G, 120, .inl (upd (kf_dn fz kk (kk + ii)) (kk + ii) ((kf_dn fz kk (kk + ii)) (kk + ii + 1))))), (an, .inl (gI G, 120, .inl (kf_dn fv kk (kk + ii))))] := hD
      refine lv_aload_n hx hb dX1_takeOut_49 rfl (lv_at hl 1 rfl) ?_
      refine va_get (D := G.1) (ci := 1) (v := .ref an) (C := RX1) (T := TX1) (N := 4) hx hb hts hinX1 hown hK.1 hP 0 rfl rfl 2 (by decide) (hts (.fieldLink RX1 19 "ForkStore$Keys" "numbers" "[I") (by decide +kernel)) (fun _ h9 => h9) rfl dX1_takeOut_50 ?_
      refine lv_iload_n hx hb dX1_takeOut_53 rfl (lv_at hl 0 rfl) ?_
      refine lv_aload_n hx hb dX1_takeOut_54 rfl (lv_at hl 1 rfl) ?_
      refine va_get (D := G.1) (ci := 1) (v := .ref an) (C := RX1) (T := TX1) (N := 4) hx hb hts hinX1 hown hK.1 hP 0 rfl rfl 2 (by decide) (hts (.fieldLink RX1 19 "ForkStore$Keys" "numbers" "[I") (by decide +kernel)) (fun _ h9 => h9) rfl dX1_takeOut_55 ?_
      refine lv_iload_n hx hb dX1_takeOut_58 rfl (lv_at hl 0 rfl) ?_
      refine lv_iconst (v := 1) hx hb dX1_takeOut_59 (by decide) ?_
      refine lv_iadd hx hb dX1_takeOut_60 ?_
      refine kz_asi (y := nI (kk + ii + 1)) (nI_1 (kk + ii)) ?_
      refine kz_iald hx hb hK.1 hP 3 0 rfl rfl (k := (kk + ii + 1)) (by omega) (by decide) dX1_takeOut_61 ?_
      refine kz_iast hx hb hK.1 hP hD hS 3 0 rfl rfl (k := (kk + ii)) (by omega) (by decide) dX1_takeOut_62 (fun H locs hP hD hS => ?_)
      have hP : va_P G.1 vwCl [(hk, .inr (1, [.ref aw, .ref az, .ref an, .int (nI nn)])), (aw, .inl (gJ G, 120, .inr (.inl (vp_updL (kf_dn fw kk (kk + ii)) (kk + ii) ((kf_dn fw kk (kk + ii)) (kk + ii + 1)))))), (az, .inl (gI G, 120, .inl (upd (kf_dn fz kk (kk + ii)) (kk + ii) ((kf_dn fz kk (kk + ii)) (kk + ii + 1))))), (an, .inl (gI G, 120, .inl (upd (kf_dn fv kk (kk + ii)) (kk + ii) ((kf_dn fv kk (kk + ii)) (kk + ii + 1)))))] H := hP
      have hD : va_D A [(hk, .inr (1, [.ref aw, .ref az, .ref an, .int (nI nn)])), (aw, .inl (gJ G, 120, .inr (.inl (vp_updL (kf_dn fw kk (kk + ii)) (kk + ii) ((kf_dn fw kk (kk + ii)) (kk + ii + 1)))))), (az, .inl (gI G, 120, .inl (upd (kf_dn fz kk (kk + ii)) (kk + ii) ((kf_dn fz kk (kk + ii)) (kk + ii + 1))))), (an, .inl (gI G, 120, .inl (upd (kf_dn fv kk (kk + ii)) (kk + ii) ((kf_dn fv kk (kk + ii)) (kk + ii + 1)))))] := hD
      refine lv_iinc (v := nI (kk + (ii + 1))) (lv' := [(2, .int (nI (kk + (ii + 1)))), (0, .ref hk), (1, .int (nI kk))]) hx hb dX1_takeOut_63 hl (k := 0) rfl (nI_1 (kk + ii)) (by decide) rfl (fun ls hl => ?_)
      refine lv_goto (tgt := 11) hx hb dX1_takeOut_66 (by decide) ?_
      have e1 := kf_dn_L fw (k := kk) (i := kk + ii) (by omega)
      have e2 := kf_dn_I fz (k := kk) (i := kk + ii) (by omega)
      have e3 := kf_dn_I fv (k := kk) (i := kk + ii) (by omega)
      exact ih H locs ls (by omega) (lv_sub hl [0, 1, 2] rfl) (by show va_P G.1 vwCl [(hk, .inr (1, [.ref aw, .ref az, .ref an, .int (nI nn)])), (aw, .inl (gJ G, 120, .inr (.inl (kf_dn fw kk (kk + ii + 1))))), (az, .inl (gI G, 120, .inl (kf_dn fz kk (kk + ii + 1)))), (an, .inl (gI G, 120, .inl (kf_dn fv kk (kk + ii + 1))))] H; rw [e1, e2, e3]; exact hP) (by show va_D A [(hk, .inr (1, [.ref aw, .ref az, .ref an, .int (nI nn)])), (aw, .inl (gJ G, 120, .inr (.inl (kf_dn fw kk (kk + ii + 1))))), (az, .inl (gI G, 120, .inl (kf_dn fz kk (kk + ii + 1)))), (an, .inl (gI G, 120, .inl (kf_dn fv kk (kk + ii + 1))))]; rw [e1, e2, e3]; exact hD) hS
  · exact absurd ((kf_plN (by omega) (by omega)).mpr hkk) (kf_if0 c_1)

set_option maxHeartbeats 4000000 in
set_option maxRecDepth 100000 in
theorem c_X1_copyFrom (l : Launch) (G : kz_G) (hk aw az an nn : Nat) (fw : Nat → Int64) (fz fv : Nat → Int32) (ohk oaw oaz oan onn : Nat) (ofw : Nat → Int64) (ofz ofv : Nat → Int32) (sz : Nat) (hn : onn ≤ 120) : Met l yX1_copyFrom wsX1_copyFrom { frames := 0, cells := 0, slots := 0, locals := 0 } (kz_Pm G [.ref hk, .ref ohk] [(hk, .inr (1, [.ref aw, .ref az, .ref an, .int (nI nn)])), (aw, .inl (gJ G, 120, .inr (.inl fw))), (az, .inl (gI G, 120, .inl fz)), (an, .inl (gI G, 120, .inl fv)), (ohk, .inr (1, [.ref oaw, .ref oaz, .ref oan, .int (nI onn)])), (oaw, .inl (gJ G, 120, .inr (.inl ofw))), (oaz, .inl (gI G, 120, .inl ofz)), (oan, .inl (gI G, 120, .inl ofv))] sz) (kz_Qv G (fun w => w = [(hk, .inr (1, [.ref aw, .ref az, .ref an, .int (nI onn)])), (aw, .inl (gJ G, 120, .inr (.inl (kf_cp ofw fw onn)))), (az, .inl (gI G, 120, .inl (kf_cp ofz fz onn))), (an, .inl (gI G, 120, .inl (kf_cp ofv fv onn))), (ohk, .inr (1, [.ref oaw, .ref oaz, .ref oan, .int (nI onn)])), (oaw, .inl (gJ G, 120, .inr (.inl ofw))), (oaz, .inl (gI G, 120, .inl ofz)), (oan, .inl (gI G, 120, .inl ofv))]) (va_A [(hk, .inr (1, [.ref aw, .ref az, .ref an, .int (nI nn)])), (aw, .inl (gJ G, 120, .inr (.inl fw))), (az, .inl (gI G, 120, .inl fz)), (an, .inl (gI G, 120, .inl fv)), (ohk, .inr (1, [.ref oaw, .ref oaz, .ref oan, .int (nI onn)])), (oaw, .inl (gJ G, 120, .inr (.inl ofw))), (oaz, .inl (gI G, 120, .inl ofz)), (oan, .inl (gI G, 120, .inl ofv))] sz)) 0 0 (va_A [(hk, .inr (1, [.ref aw, .ref az, .ref an, .int (nI nn)])), (aw, .inl (gJ G, 120, .inr (.inl fw))), (az, .inl (gI G, 120, .inl fz)), (an, .inl (gI G, 120, .inl fv)), (ohk, .inr (1, [.ref oaw, .ref oaz, .ref oan, .int (nI onn)])), (oaw, .inl (gJ G, 120, .inr (.inl ofw))), (oaz, .inl (gI G, 120, .inl ofz)), (oan, .inl (gI G, 120, .inl ofv))] sz) := by
  refine Met.ofW (cc := cX1_copyFrom) (maxL := 3) (ret := none) (by decide) rfl ?_
  intro p e s m args below meth c s₁ B hml hv
  obtain ⟨rfl, hsz, hP, hK, hD0⟩ := hv
  have hx := B.exec
  have hb := B.bytes
  have hr := B.returns
  have hts := atoms_spec (ws := wsX1_copyFrom) B.pre
  have hown : s.vm.findClass RX1 = some m.cls := findClass_of_methodNamed B.named
  have hlocks := B.notSynchronized
  have hinX1 : ∀ w ∈ wsX10, w ∈ wsX1_copyFrom := by decide +kernel
  subst hsz
  have hD := hD0.self (sz := s.heap.size)
  generalize hAe : va_A [(hk, .inr (1, [.ref aw, .ref az, .ref an, .int (nI nn)])), (aw, .inl (gJ G, 120, .inr (.inl fw))), (az, .inl (gI G, 120, .inl fz)), (an, .inl (gI G, 120, .inl fv)), (ohk, .inr (1, [.ref oaw, .ref oaz, .ref oan, .int (nI onn)])), (oaw, .inl (gJ G, 120, .inr (.inl ofw))), (oaz, .inl (gI G, 120, .inl ofz)), (oan, .inl (gI G, 120, .inl ofv))] s.heap.size = A at hD ⊢
  have hA : ∀ q : Nat, s.heap.size ≤ q → A q := fun q h => by rw [← hAe]; exact Or.inr h
  have hS : va_S A s.heap s.heap [] := va_S.rf
  have hP : va_P G.1 vwCl [(hk, .inr (1, [.ref aw, .ref az, .ref an, .int (nI nn)])), (aw, .inl (gJ G, 120, .inr (.inl fw))), (az, .inl (gI G, 120, .inl fz)), (an, .inl (gI G, 120, .inl fv)), (ohk, .inr (1, [.ref oaw, .ref oaz, .ref oan, .int (nI onn)])), (oaw, .inl (gJ G, 120, .inr (.inl ofw))), (oaz, .inl (gI G, 120, .inl ofz)), (oan, .inl (gI G, 120, .inl ofv))] s.heap := hP
  have hl := lv_entry ([.ref hk, .ref ohk]) (n := 3) (Nat.le_of_ble_eq_true rfl)
  rw [lg_entry_eq]
  generalize (lg_sl ([.ref hk, .ref ohk]) ++ List.replicate (3 - (lg_sl ([.ref hk, .ref ohk])).length) Slot.unset).toArray = ls at hl ⊢
  have hl : lv_has ls 3 [(0, .ref hk), (1, .ref ohk)] := hl
  refine lv_iconst (v := 0) hx hb dX1_copyFrom_0 (by decide) ?_
  refine lv_istore_n (lv' := [(2, .int 0), (0, .ref hk), (1, .ref ohk)]) hx hb dX1_copyFrom_1 rfl hl (by decide) rfl (fun ls hl => ?_)
  refine kz_loopm (D := G.1) (cl := vwCl) (A := A) (H0 := s.heap) (nL := 3) (hd := 2) (e9 := onn) (i0 := 0) (LV := fun ii => [(2, .int (nI ii)), (0, .ref hk), (1, .ref ohk)]) (WV := fun ii => [(hk, .inr (1, [.ref aw, .ref az, .ref an, .int (nI nn)])), (aw, .inl (gJ G, 120, .inr (.inl (kf_cp ofw fw ii)))), (az, .inl (gI G, 120, .inl (kf_cp ofz fz ii))), (an, .inl (gI G, 120, .inl (kf_cp ofv fv ii))), (ohk, .inr (1, [.ref oaw, .ref oaz, .ref oan, .int (nI onn)])), (oaw, .inl (gJ G, 120, .inr (.inl ofw))), (oaz, .inl (gI G, 120, .inl ofz)), (oan, .inl (gI G, 120, .inl ofv))]) (fun ii H locs ls hii hl hP hD hS ih => ?_) (Nat.zero_le _) (lv_sub hl [0, 1, 2] rfl) (by simp only [kf_cp_0]; exact hP) (by simp only [kf_cp_0]; exact hD) hS
  have hl : lv_has ls 3 [(2, .int (nI ii)), (0, .ref hk), (1, .ref ohk)] := hl
  have hP : va_P G.1 vwCl [(hk, .inr (1, [.ref aw, .ref az, .ref an, .int (nI nn)])), (aw, .inl (gJ G, 120, .inr (.inl (kf_cp ofw fw ii)))), (az, .inl (gI G, 120, .inl (kf_cp ofz fz ii))), (an, .inl (gI G, 120, .inl (kf_cp ofv fv ii))), (ohk, .inr (1, [.ref oaw, .ref oaz, .ref oan, .int (nI onn)])), (oaw, .inl (gJ G, 120, .inr (.inl ofw))), (oaz, .inl (gI G, 120, .inl ofz)), (oan, .inl (gI G, 120, .inl ofv))] H := hP
  have hD : va_D A [(hk, .inr (1, [.ref aw, .ref az, .ref an, .int (nI nn)])), (aw, .inl (gJ G, 120, .inr (.inl (kf_cp ofw fw ii)))), (az, .inl (gI G, 120, .inl (kf_cp ofz fz ii))), (an, .inl (gI G, 120, .inl (kf_cp ofv fv ii))), (ohk, .inr (1, [.ref oaw, .ref oaz, .ref oan, .int (nI onn)])), (oaw, .inl (gJ G, 120, .inr (.inl ofw))), (oaz, .inl (gI G, 120, .inl ofz)), (oan, .inl (gI G, 120, .inl ofv))] := hD
  refine lv_iload_n hx hb dX1_copyFrom_2 rfl (lv_at hl 0 rfl) ?_
  refine lv_aload_n hx hb dX1_copyFrom_3 rfl (lv_at hl 2 rfl) ?_
  refine va_get (D := G.1) (ci := 1) (v := .int (nI onn)) (C := RX1) (T := TX1) (N := 4) hx hb hts hinX1 hown hK.1 hP 4 rfl rfl 3 (by decide) (hts (.fieldLink RX1 22 "ForkStore$Keys" "count" "I") (by decide +kernel)) (fun _ h9 => h9) rfl dX1_copyFrom_4 ?_
  refine lv_icmp_ge (tgt := 52) hx hb dX1_copyFrom_7 (by decide) (fun c_1 => ?_) (fun c_1 => ?_)
  · have kc_1 : onn ≤ ii := (nI_leI (by omega) (by omega)).mp c_1
    rw [show ii = onn from by omega] at hP hD
    have hP : va_P G.1 vwCl [(hk, .inr (1, [.ref aw, .ref az, .ref an, .int (nI nn)])), (aw, .inl (gJ G, 120, .inr (.inl (kf_cp ofw fw onn)))), (az, .inl (gI G, 120, .inl (kf_cp ofz fz onn))), (an, .inl (gI G, 120, .inl (kf_cp ofv fv onn))), (ohk, .inr (1, [.ref oaw, .ref oaz, .ref oan, .int (nI onn)])), (oaw, .inl (gJ G, 120, .inr (.inl ofw))), (oaz, .inl (gI G, 120, .inl ofz)), (oan, .inl (gI G, 120, .inl ofv))] _ := hP
    have hD : va_D A [(hk, .inr (1, [.ref aw, .ref az, .ref an, .int (nI nn)])), (aw, .inl (gJ G, 120, .inr (.inl (kf_cp ofw fw onn)))), (az, .inl (gI G, 120, .inl (kf_cp ofz fz onn))), (an, .inl (gI G, 120, .inl (kf_cp ofv fv onn))), (ohk, .inr (1, [.ref oaw, .ref oaz, .ref oan, .int (nI onn)])), (oaw, .inl (gJ G, 120, .inr (.inl ofw))), (oaz, .inl (gI G, 120, .inl ofz)), (oan, .inl (gI G, 120, .inl ofv))] := hD
    refine lv_aload_n hx hb dX1_copyFrom_52 rfl (lv_at hl 1 rfl) ?_
    refine lv_aload_n hx hb dX1_copyFrom_53 rfl (lv_at hl 2 rfl) ?_
    refine va_get (D := G.1) (ci := 1) (v := .int (nI onn)) (C := RX1) (T := TX1) (N := 4) hx hb hts hinX1 hown hK.1 hP 4 rfl rfl 3 (by decide) (hts (.fieldLink RX1 22 "ForkStore$Keys" "count" "I") (by decide +kernel)) (fun _ h9 => h9) rfl dX1_copyFrom_54 ?_
    refine va_put (D := G.1) (ci := 1) (v := .int (nI onn)) (ty := .int) (C := RX1) (T := TX1) (N := 4) hx hb hts hinX1 tyX1 tyX1_ok nmX1 hown hK.1 hP hD hS 0 rfl rfl 3 (by decide) (hts (.fieldLink RX1 22 "ForkStore$Keys" "count" "I") (by decide +kernel)) (fun _ h9 => h9) rfl (by decide +kernel) rfl rfl (Nat.le_of_ble_eq_true rfl) dX1_copyFrom_57 (fun H locs hP hD hS => ?_)
    have hP : va_P G.1 vwCl [(hk, .inr (1, [.ref aw, .ref az, .ref an, .int (nI onn)])), (aw, .inl (gJ G, 120, .inr (.inl (kf_cp ofw fw onn)))), (az, .inl (gI G, 120, .inl (kf_cp ofz fz onn))), (an, .inl (gI G, 120, .inl (kf_cp ofv fv onn))), (ohk, .inr (1, [.ref oaw, .ref oaz, .ref oan, .int (nI onn)])), (oaw, .inl (gJ G, 120, .inr (.inl ofw))), (oaz, .inl (gI G, 120, .inl ofz)), (oan, .inl (gI G, 120, .inl ofv))] H := hP
    have hD : va_D A [(hk, .inr (1, [.ref aw, .ref az, .ref an, .int (nI onn)])), (aw, .inl (gJ G, 120, .inr (.inl (kf_cp ofw fw onn)))), (az, .inl (gI G, 120, .inl (kf_cp ofz fz onn))), (an, .inl (gI G, 120, .inl (kf_cp ofv fv onn))), (ohk, .inr (1, [.ref oaw, .ref oaz, .ref oan, .int (nI onn)])), (oaw, .inl (gJ G, 120, .inr (.inl ofw))), (oaz, .inl (gI G, 120, .inl ofz)), (oan, .inl (gI G, 120, .inl ofv))] := hD
    exact W.vret hx hb hr (fun t ht hW => ⟨⟨([(hk, .inr (1, [.ref aw, .ref az, .ref an, .int (nI onn)])), (aw, .inl (gJ G, 120, .inr (.inl (kf_cp ofw fw onn)))), (az, .inl (gI G, 120, .inl (kf_cp ofz fz onn))), (an, .inl (gI G, 120, .inl (kf_cp ofv fv onn))), (ohk, .inr (1, [.ref oaw, .ref oaz, .ref oan, .int (nI onn)])), (oaw, .inl (gJ G, 120, .inr (.inl ofw))), (oaz, .inl (gI G, 120, .inl ofz)), (oan, .inl (gI G, 120, .inl ofv))] : va_W), rfl, rfl, by rw [← ht] at hP; exact hP⟩, hS.F ht⟩) hS.2.2 dX1_copyFrom_60
  · have kc_1 : ii < onn := Nat.lt_of_not_le (fun h => c_1 (nI_le h (by omega)))
    refine lv_aload_n hx hb dX1_copyFrom_10 rfl (lv_at hl 1 rfl) ?_
    refine va_get (D := G.1) (ci := 1) (v := .ref aw) (C := RX1) (T := TX1) (N := 4) hx hb hts hinX1 hown hK.1 hP 0 rfl rfl 0 (by decide) (hts (.fieldLink RX1 9 "ForkStore$Keys" "words" "[J") (by decide +kernel)) (fun _ h9 => h9) rfl dX1_copyFrom_11 ?_
    refine lv_iload_n hx hb dX1_copyFrom_14 rfl (lv_at hl 0 rfl) ?_
    refine lv_aload_n hx hb dX1_copyFrom_15 rfl (lv_at hl 2 rfl) ?_
    refine va_get (D := G.1) (ci := 1) (v := .ref oaw) (C := RX1) (T := TX1) (N := 4) hx hb hts hinX1 hown hK.1 hP 4 rfl rfl 0 (by decide) (hts (.fieldLink RX1 9 "ForkStore$Keys" "words" "[J") (by decide +kernel)) (fun _ h9 => h9) rfl dX1_copyFrom_16 ?_
    refine lv_iload_n hx hb dX1_copyFrom_19 rfl (lv_at hl 0 rfl) ?_
    refine kz_lald hx hb hK.1 hP 5 1 rfl rfl (k := ii) (by omega) (by decide) dX1_copyFrom_20 ?_
    refine kz_last hx hb hK.1 hP hD hS 1 1 rfl rfl (k := ii) (by omega) (by decide) dX1_copyFrom_21 (fun H locs hP hD hS => ?_)
    have hP : va_P G.1 vwCl [(hk, .inr (1, [.ref aw, .ref az, .ref an, .int (nI nn)])), (aw, .inl (gJ G, 120, .inr (.inl (vp_updL (kf_cp ofw fw ii) ii (ofw ii))))), (az, .inl (gI G, 120, .inl (kf_cp ofz fz ii))), (an, .inl (gI G, 120, .inl (kf_cp ofv fv ii))), (ohk, .inr (1, [.ref oaw, .ref oaz, .ref oan, .int (nI onn)])), (oaw, .inl (gJ G, 120, .inr (.inl ofw))), (oaz, .inl (gI G, 120, .inl ofz)), (oan, .inl (gI G, 120, .inl ofv))] H := hP
    have hD : va_D A [(hk, .inr (1, [.ref aw, .ref az, .ref an, .int (nI nn)])), (aw, .inl (gJ G, 120, .inr (.inl (vp_updL (kf_cp ofw fw ii) ii (ofw ii))))), (az, .inl (gI G, 120, .inl (kf_cp ofz fz ii))), (an, .inl (gI G, 120, .inl (kf_cp ofv fv ii))), (ohk, .inr (1, [.ref oaw, .ref oaz, .ref oan, .int (nI onn)])), (oaw, .inl (gJ G, 120, .inr (.inl ofw))), (oaz, .inl (gI G, 120, .inl ofz)), (oan, .inl (gI G, 120, .inl ofv))] := hD
    refine lv_aload_n hx hb dX1_copyFrom_22 rfl (lv_at hl 1 rfl) ?_
    refine va_get (D := G.1) (ci := 1) (v := .ref az) (C := RX1) (T := TX1) (N := 4) hx hb hts hinX1 hown hK.1 hP 0 rfl rfl 1 (by decide) (hts (.fieldLink RX1 15 "ForkStore$Keys" "sizes" "[I") (by decide +kernel)) (fun _ h9 => h9) rfl dX1_copyFrom_23 ?_
    refine lv_iload_n hx hb dX1_copyFrom_26 rfl (lv_at hl 0 rfl) ?_
    refine lv_aload_n hx hb dX1_copyFrom_27 rfl (lv_at hl 2 rfl) ?_
    refine va_get (D := G.1) (ci := 1) (v := .ref oaz) (C := RX1) (T := TX1) (N := 4) hx hb hts hinX1 hown hK.1 hP 4 rfl rfl 1 (by decide) (hts (.fieldLink RX1 15 "ForkStore$Keys" "sizes" "[I") (by decide +kernel)) (fun _ h9 => h9) rfl dX1_copyFrom_28 ?_
    refine lv_iload_n hx hb dX1_copyFrom_31 rfl (lv_at hl 0 rfl) ?_
    refine kz_iald hx hb hK.1 hP 6 0 rfl rfl (k := ii) (by omega) (by decide) dX1_copyFrom_32 ?_
    refine kz_iast hx hb hK.1 hP hD hS 2 0 rfl rfl (k := ii) (by omega) (by decide) dX1_copyFrom_33 (fun H locs hP hD hS => ?_)
    have hP : va_P G.1 vwCl [(hk, .inr (1, [.ref aw, .ref az, .ref an, .int (nI nn)])), (aw, .inl (gJ G, 120, .inr (.inl (vp_updL (kf_cp ofw fw ii) ii (ofw ii))))), (az, .inl (gI G, 120, .inl (upd (kf_cp ofz fz ii) ii (ofz ii)))), (an, .inl (gI G, 120, .inl (kf_cp ofv fv ii))), (ohk, .inr (1, [.ref oaw, .ref oaz, .ref oan, .int (nI onn)])), (oaw, .inl (gJ G, 120, .inr (.inl ofw))), (oaz, .inl (gI G, 120, .inl ofz)), (oan, .inl (gI G, 120, .inl ofv))] H := hP
    have hD : va_D A [(hk, .inr (1, [.ref aw, .ref az, .ref an, .int (nI nn)])), (aw, .inl (gJ G, 120, .inr (.inl (vp_updL (kf_cp ofw fw ii) ii (ofw ii))))), (az, .inl (gI G, 120, .inl (upd (kf_cp ofz fz ii) ii (ofz ii)))), (an, .inl (gI G, 120, .inl (kf_cp ofv fv ii))), (ohk, .inr (1, [.ref oaw, .ref oaz, .ref oan, .int (nI onn)])), (oaw, .inl (gJ G, 120, .inr (.inl ofw))), (oaz, .inl (gI G, 120, .inl ofz)), (oan, .inl (gI G, 120, .inl ofv))] := hD
    refine lv_aload_n hx hb dX1_copyFrom_34 rfl (lv_at hl 1 rfl) ?_
    refine va_get (D := G.1) (ci := 1) (v := .ref an) (C := RX1) (T := TX1) (N := 4) hx hb hts hinX1 hown hK.1 hP 0 rfl rfl 2 (by decide) (hts (.fieldLink RX1 19 "ForkStore$Keys" "numbers" "[I") (by decide +kernel)) (fun _ h9 => h9) rfl dX1_copyFrom_35 ?_
    refine lv_iload_n hx hb dX1_copyFrom_38 rfl (lv_at hl 0 rfl) ?_
    refine lv_aload_n hx hb dX1_copyFrom_39 rfl (lv_at hl 2 rfl) ?_
    refine va_get (D := G.1) (ci := 1) (v := .ref oan) (C := RX1) (T := TX1) (N := 4) hx hb hts hinX1 hown hK.1 hP 4 rfl rfl 2 (by decide) (hts (.fieldLink RX1 19 "ForkStore$Keys" "numbers" "[I") (by decide +kernel)) (fun _ h9 => h9) rfl dX1_copyFrom_40 ?_
    refine lv_iload_n hx hb dX1_copyFrom_43 rfl (lv_at hl 0 rfl) ?_
    refine kz_iald hx hb hK.1 hP 7 0 rfl rfl (k := ii) (by omega) (by decide) dX1_copyFrom_44 ?_
    refine kz_iast hx hb hK.1 hP hD hS 3 0 rfl rfl (k := ii) (by omega) (by decide) dX1_copyFrom_45 (fun H locs hP hD hS => ?_)
    have hP : va_P G.1 vwCl [(hk, .inr (1, [.ref aw, .ref az, .ref an, .int (nI nn)])), (aw, .inl (gJ G, 120, .inr (.inl (vp_updL (kf_cp ofw fw ii) ii (ofw ii))))), (az, .inl (gI G, 120, .inl (upd (kf_cp ofz fz ii) ii (ofz ii)))), (an, .inl (gI G, 120, .inl (upd (kf_cp ofv fv ii) ii (ofv ii)))), (ohk, .inr (1, [.ref oaw, .ref oaz, .ref oan, .int (nI onn)])), (oaw, .inl (gJ G, 120, .inr (.inl ofw))), (oaz, .inl (gI G, 120, .inl ofz)), (oan, .inl (gI G, 120, .inl ofv))] H := hP
    have hD : va_D A [(hk, .inr (1, [.ref aw, .ref az, .ref an, .int (nI nn)])), (aw, .inl (gJ G, 120, .inr (.inl (vp_updL (kf_cp ofw fw ii) ii (ofw ii))))), (az, .inl (gI G, 120, .inl (upd (kf_cp ofz fz ii) ii (ofz ii)))), (an, .inl (gI G, 120, .inl (upd (kf_cp ofv fv ii) ii (ofv ii)))), (ohk, .inr (1, [.ref oaw, .ref oaz, .ref oan, .int (nI onn)])), (oaw, .inl (gJ G, 120, .inr (.inl ofw))), (oaz, .inl (gI G, 120, .inl ofz)), (oan, .inl (gI G, 120, .inl ofv))] := hD
    refine lv_iinc (v := nI (ii + 1)) (lv' := [(2, .int (nI (ii + 1))), (0, .ref hk), (1, .ref ohk)]) hx hb dX1_copyFrom_46 hl (k := 0) rfl (nI_1 ii) (by decide) rfl (fun ls hl => ?_)
    refine lv_goto (tgt := 2) hx hb dX1_copyFrom_49 (by decide) ?_
    have e1 := kf_cp_L ofw fw ii
    have e2 := kf_cp_I ofz fz ii
    have e3 := kf_cp_I ofv fv ii
    exact ih H locs ls (by omega) (lv_sub hl [0, 1, 2] rfl) (by show va_P G.1 vwCl [(hk, .inr (1, [.ref aw, .ref az, .ref an, .int (nI nn)])), (aw, .inl (gJ G, 120, .inr (.inl (kf_cp ofw fw (ii + 1))))), (az, .inl (gI G, 120, .inl (kf_cp ofz fz (ii + 1)))), (an, .inl (gI G, 120, .inl (kf_cp ofv fv (ii + 1)))), (ohk, .inr (1, [.ref oaw, .ref oaz, .ref oan, .int (nI onn)])), (oaw, .inl (gJ G, 120, .inr (.inl ofw))), (oaz, .inl (gI G, 120, .inl ofz)), (oan, .inl (gI G, 120, .inl ofv))] H; rw [e1, e2, e3]; exact hP) (by show va_D A [(hk, .inr (1, [.ref aw, .ref az, .ref an, .int (nI nn)])), (aw, .inl (gJ G, 120, .inr (.inl (kf_cp ofw fw (ii + 1))))), (az, .inl (gI G, 120, .inl (kf_cp ofz fz (ii + 1)))), (an, .inl (gI G, 120, .inl (kf_cp ofv fv (ii + 1)))), (ohk, .inr (1, [.ref oaw, .ref oaz, .ref oan, .int (nI onn)])), (oaw, .inl (gJ G, 120, .inr (.inl ofw))), (oaz, .inl (gI G, 120, .inl ofz)), (oan, .inl (gI G, 120, .inl ofv))]; rw [e1, e2, e3]; exact hD) hS
