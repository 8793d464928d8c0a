/-- the row of readers -/
def kf_ra (a b c : Nat) : Nat → Option Nat := va_up (va_up (va_up (fun _ => none) 0 (some a)) 1 (some b)) 2 (some c)
/-- readerOrNull -/
def kf_rd (a b c : Nat) (rr : Int32) : Option Nat := if rr = 0 then some a else if rr = 1 then some b else if rr = 2 then some c else none
abbrev kf_isr (rr : Int32) : Prop := rr = 0 ∨ rr = 1 ∨ rr = 2
theorem kf_rd_c (a b c : Nat) (rr : Int32) : (rr = 0 ∧ kf_rd a b c rr = some a) ∨ (rr = 1 ∧ kf_rd a b c rr = some b) ∨ (rr = 2 ∧ kf_rd a b c rr = some c) ∨ (¬ kf_isr rr ∧ kf_rd a b c rr = none) := by
  unfold kf_rd
  by_cases h0 : rr = 0
  · exact Or.inl ⟨h0, if_pos h0⟩
  · by_cases h1 : rr = 1
    · exact Or.inr (Or.inl ⟨h1, by rw [if_neg h0, if_pos h1]⟩)
    · by_cases h2 : rr = 2
      · exact Or.inr (Or.inr (Or.inl ⟨h2, by rw [if_neg h0, if_neg h1, if_pos h2]⟩))
      · exact Or.inr (Or.inr (Or.inr ⟨fun h => by rcases h with h | h | h; exact h0 h; exact h1 h; exact h2 h, by rw [if_neg h0, if_neg h1, if_neg h2]⟩))
theorem kf_rd_n {a b c : Nat} {rr : Int32} (h : ¬ kf_isr rr) : kf_rd a b c rr = none := by
  rcases kf_rd_c a b c rr with ⟨h1, -⟩ | ⟨h1, -⟩ | ⟨h1, -⟩ | ⟨-, h1⟩
  · exact absurd (Or.inl h1) h
  · exact absurd (Or.inr (Or.inl h1)) h
  · exact absurd (Or.inr (Or.inr h1)) h
  · exact h1
/-- which reader is open -/
abbrev kf_no (ob0 ob1 ob2 : Bool) (rr : Int32) : Prop := ¬ (rr = 0 ∧ ob0 = true) ∧ ¬ (rr = 1 ∧ ob1 = true) ∧ ¬ (rr = 2 ∧ ob2 = true)
def kf_ord (a b c : Nat) (ob0 ob1 ob2 : Bool) (rr : Int32) : Option Nat := if rr = 0 ∧ ob0 = true then some a else if rr = 1 ∧ ob1 = true then some b else if rr = 2 ∧ ob2 = true then some c else none
theorem kf_ord_c (a b c : Nat) (ob0 ob1 ob2 : Bool) (rr : Int32) : ((rr = 0 ∧ ob0 = true) ∧ kf_ord a b c ob0 ob1 ob2 rr = some a) ∨ ((rr = 1 ∧ ob1 = true) ∧ kf_ord a b c ob0 ob1 ob2 rr = some b) ∨ ((rr = 2 ∧ ob2 = true) ∧ kf_ord a b c ob0 ob1 ob2 rr = some c) ∨ (kf_no ob0 ob1 ob2 rr ∧ kf_ord a b c ob0 ob1 ob2 rr = none) := by
  unfold kf_ord
  by_cases h0 : rr = 0 ∧ ob0 = true
  · exact Or.inl ⟨h0, if_pos h0⟩
  · by_cases h1 : rr = 1 ∧ ob1 = true
    · exact Or.inr (Or.inl ⟨h1, by rw [if_neg h0, if_pos h1]⟩)
    · by_cases h2 : rr = 2 ∧ ob2 = true
      · exact Or.inr (Or.inr (Or.inl ⟨h2, by rw [if_neg h0, if_neg h1, if_pos h2]⟩))
      · exact Or.inr (Or.inr (Or.inr ⟨⟨h0, h1, h2⟩, by rw [if_neg h0, if_neg h1, if_neg h2]⟩))
/-- by the reader -/
def kf_by {α : Type} (ob0 ob1 ob2 : Bool) (rr : Int32) (a b c d : α) : α := if rr = 0 ∧ ob0 = true then a else if rr = 1 ∧ ob1 = true then b else if rr = 2 ∧ ob2 = true then c else d
theorem kf_by_0 {α : Type} {ob0 ob1 ob2 : Bool} {rr : Int32} {a b c d : α} (h : rr = 0 ∧ ob0 = true) : kf_by ob0 ob1 ob2 rr a b c d = a := if_pos h
theorem kf_by_1 {α : Type} {ob0 ob1 ob2 : Bool} {rr : Int32} {a b c d : α} (h : rr = 1 ∧ ob1 = true) : kf_by ob0 ob1 ob2 rr a b c d = b := by
  unfold kf_by
  rw [if_neg (fun z => by rw [h.1] at z; exact absurd z.1 (by decide)), if_pos h]
theorem kf_by_2 {α : Type} {ob0 ob1 ob2 : Bool} {rr : Int32} {a b c d : α} (h : rr = 2 ∧ ob2 = true) : kf_by ob0 ob1 ob2 rr a b c d = c := by
  unfold kf_by
  rw [if_neg (fun z => by rw [h.1] at z; exact absurd z.1 (by decide)), if_neg (fun z => by rw [h.1] at z; exact absurd z.1 (by decide)), if_pos h]
theorem kf_by_n {α : Type} {ob0 ob1 ob2 : Bool} {rr : Int32} {a b c d : α} (h : kf_no ob0 ob1 ob2 rr) : kf_by ob0 ob1 ob2 rr a b c d = d := by
  unfold kf_by
  rw [if_neg h.1, if_neg h.2.1, if_neg h.2.2]

set_option maxHeartbeats 4000000 in
set_option maxRecDepth 100000 in
theorem c_X3_readerOrNull (l : Launch) (G : kz_G) (xo hk hc ra : Nat) (rd0 rd1 rd2 : Nat) (rr : Int32) : Met l yX3_readerOrNull wsX3_readerOrNull { frames := 0, cells := 0, slots := 0, locals := 0 } (kz_Pp G [.ref xo, .int rr] [(xo, .inr (3, [.ref hk, .ref hc, .ref ra])), (ra, .inl (gO G, 3, .inr (.inr (.inr (.inr (kf_ra rd0 rd1 rd2))))))]) (va_Sq (fun r => r = kf_rd rd0 rd1 rd2 rr)) 0 0 (fun _ => False) := by
  refine Met.ofW (cc := cX3_readerOrNull) (maxL := 2) (ret := (some (.object "ForkStore$Reader"))) (by decide) rfl ?_
  intro p e s m args below meth c s₁ B hml hv
  obtain ⟨rfl, hP, hK⟩ := hv
  have hx := B.exec
  have hb := B.bytes
  have hr := B.returns
  have hts := atoms_spec (ws := wsX3_readerOrNull) B.pre
  have hown : s.vm.findClass RX3 = some m.cls := findClass_of_methodNamed B.named
  have hlocks := B.notSynchronized
  have hinX3 : ∀ w ∈ wsX30, w ∈ wsX3_readerOrNull := by decide +kernel
  have hP : va_P G.1 vwCl [(xo, .inr (3, [.ref hk, .ref hc, .ref ra])), (ra, .inl (gO G, 3, .inr (.inr (.inr (.inr (kf_ra rd0 rd1 rd2))))))] s.heap := hP
  have hl := lv_entry ([.ref xo, .int rr]) (n := 2) (Nat.le_of_ble_eq_true rfl)
  rw [lg_entry_eq]
  generalize (lg_sl ([.ref xo, .int rr]) ++ List.replicate (2 - (lg_sl ([.ref xo, .int rr])).length) Slot.unset).toArray = ls at hl ⊢
  have hl : lv_has ls 2 [(0, .ref xo), (1, .int rr)] := hl
  refine lv_iload_n hx hb dX3_readerOrNull_0 rfl (lv_at hl 1 rfl) ?_
  refine lv_if_lt (tgt := 22) hx hb dX3_readerOrNull_1 (by decide) (fun c_1 => ?_) (fun c_1 => ?_)
  · refine lv_null hx hb dX3_readerOrNull_22 ?_
    exact W.aret (v := .null) hx hb hr (Or.inl ⟨_, rfl⟩) (Or.inl rfl) (fun t ht hW => ⟨none, rfl, (kf_rd_n (fun h => by rcases h with h | h | h <;> (rw [h] at c_1; exact absurd c_1 (by decide)))).symm, ht⟩) (fun _ h => nomatch h) dX3_readerOrNull_23
  · refine lv_iload_n hx hb dX3_readerOrNull_4 rfl (lv_at hl 1 rfl) ?_
    refine lv_aload_n hx hb dX3_readerOrNull_5 rfl (lv_at hl 0 rfl) ?_
    refine va_get (D := G.1) (ci := 3) (v := .ref ra) (C := RX3) (T := TX3) (N := 3) hx hb hts hinX3 hown hK.1 hP 0 rfl rfl 2 (by decide) (hts (.fieldLink RX3 25 "ForkStore" "readers" "[LForkStore$Reader;") (by decide +kernel)) (fun _ h9 => h9) rfl dX3_readerOrNull_6 ?_
    refine va_alen (v := 3) hx hb hK.1 hP 1 3 rfl rfl rfl dX3_readerOrNull_9 ?_
    refine lv_icmp_ge (tgt := 22) hx hb dX3_readerOrNull_10 (by decide) (fun c_2 => ?_) (fun c_2 => ?_)
    · refine lv_null hx hb dX3_readerOrNull_22 ?_
      exact W.aret (v := .null) hx hb hr (Or.inl ⟨_, rfl⟩) (Or.inl rfl) (fun t ht hW => ⟨none, rfl, (kf_rd_n (fun h => by rcases h with h | h | h <;> (rw [h] at c_2; exact absurd c_2 (by decide)))).symm, ht⟩) (fun _ h => nomatch h) dX3_readerOrNull_23
    · obtain ⟨jj, hjj, rfl⟩ := kf_pl (nn := 3) (by decide) ⟨Int32.not_lt.mp c_1, Int32.not_le.mp c_2⟩
      refine lv_aload_n hx hb dX3_readerOrNull_13 rfl (lv_at hl 0 rfl) ?_
      refine va_get (D := G.1) (ci := 3) (v := .ref ra) (C := RX3) (T := TX3) (N := 3) hx hb hts hinX3 hown hK.1 hP 0 rfl rfl 2 (by decide) (hts (.fieldLink RX3 25 "ForkStore" "readers" "[LForkStore$Reader;") (by decide +kernel)) (fun _ h9 => h9) rfl dX3_readerOrNull_14 ?_
      refine lv_iload_n hx hb dX3_readerOrNull_17 rfl (lv_at hl 1 rfl) ?_
      refine kz_aldq hx hb hK.1 hP 1 3 rfl rfl (k := jj) (by omega) (by decide) dX3_readerOrNull_18 ?_
      refine lv_goto (tgt := 23) hx hb dX3_readerOrNull_19 (by decide) ?_
      exact W.aret (v := va_rf ((kf_ra rd0 rd1 rd2) jj)) hx hb hr (Or.inl ⟨_, rfl⟩) (va_rf_or _) (fun t ht hW => ⟨(kf_ra rd0 rd1 rd2) jj, rfl, (by rcases (show jj = 0 ∨ jj = 1 ∨ jj = 2 by omega) with rfl | rfl | rfl <;> rfl), ht⟩) (fun _ h => nomatch h) dX3_readerOrNull_23

set_option maxHeartbeats 4000000 in
set_option maxRecDepth 100000 in
theorem c_X3_openReaderOrNull (l : Launch) (G : kz_G) (xo hk hc ra : Nat) (rd0 : Nat) (ob0 : Bool) (pt0 hk0 aw0 az0 an0 nn0 : Nat) (fw0 : Nat → Int64) (zs0 : Nat → Nat) (fv0 : Nat → Int32) (rd1 : Nat) (ob1 : Bool) (pt1 hk1 aw1 az1 an1 nn1 : Nat) (fw1 : Nat → Int64) (zs1 : Nat → Nat) (fv1 : Nat → Int32) (rd2 : Nat) (ob2 : Bool) (pt2 hk2 aw2 az2 an2 nn2 : Nat) (fw2 : Nat → Int64) (zs2 : Nat → Nat) (fv2 : Nat → Int32) (rr : Int32) : Met l yX3_openReaderOrNull wsX3_openReaderOrNull { frames := 1, cells := 0, slots := 0, locals := 21 } (kz_Pp G [.ref xo, .int rr] [(xo, .inr (3, [.ref hk, .ref hc, .ref ra])), (ra, .inl (gO G, 3, .inr (.inr (.inr (.inr (kf_ra rd0 rd1 rd2)))))), (rd0, .inr (2, [.ref hk0, .int (kf_b ob0), .int (kf_p pt0)])), (hk0, .inr (1, [.ref aw0, .ref az0, .ref an0, .int (nI nn0)])), (aw0, .inl (gJ G, 120, .inr (.inl fw0))), (az0, .inl (gI G, 120, .inl (kz_z zs0))), (an0, .inl (gI G, 120, .inl fv0)), (rd1, .inr (2, [.ref hk1, .int (kf_b ob1), .int (kf_p pt1)])), (hk1, .inr (1, [.ref aw1, .ref az1, .ref an1, .int (nI nn1)])), (aw1, .inl (gJ G, 120, .inr (.inl fw1))), (az1, .inl (gI G, 120, .inl (kz_z zs1))), (an1, .inl (gI G, 120, .inl fv1)), (rd2, .inr (2, [.ref hk2, .int (kf_b ob2), .int (kf_p pt2)])), (hk2, .inr (1, [.ref aw2, .ref az2, .ref an2, .int (nI nn2)])), (aw2, .inl (gJ G, 120, .inr (.inl fw2))), (az2, .inl (gI G, 120, .inl (kz_z zs2))), (an2, .inl (gI G, 120, .inl fv2))]) (va_Sq (fun r => r = kf_ord rd0 rd1 rd2 ob0 ob1 ob2 rr)) 0 0 (fun _ => False) := by
  refine Met.ofW (cc := cX3_openReaderOrNull) (maxL := 3) (ret := (some (.object "ForkStore$Reader"))) (by decide) rfl ?_
  intro p e s m args below meth c s₁ B hml hv
  obtain ⟨rfl, hP, hK⟩ := hv
  have hx := B.exec
  have hb := B.bytes
  have hr := B.returns
  have hts := atoms_spec (ws := wsX3_openReaderOrNull) B.pre
  have hown : s.vm.findClass RX3 = some m.cls := findClass_of_methodNamed B.named
  have hlocks := B.notSynchronized
  have hP : va_P G.1 vwCl [(xo, .inr (3, [.ref hk, .ref hc, .ref ra])), (ra, .inl (gO G, 3, .inr (.inr (.inr (.inr (kf_ra rd0 rd1 rd2)))))), (rd0, .inr (2, [.ref hk0, .int (kf_b ob0), .int (kf_p pt0)])), (hk0, .inr (1, [.ref aw0, .ref az0, .ref an0, .int (nI nn0)])), (aw0, .inl (gJ G, 120, .inr (.inl fw0))), (az0, .inl (gI G, 120, .inl (kz_z zs0))), (an0, .inl (gI G, 120, .inl fv0)), (rd1, .inr (2, [.ref hk1, .int (kf_b ob1), .int (kf_p pt1)])), (hk1, .inr (1, [.ref aw1, .ref az1, .ref an1, .int (nI nn1)])), (aw1, .inl (gJ G, 120, .inr (.inl fw1))), (az1, .inl (gI G, 120, .inl (kz_z zs1))), (an1, .inl (gI G, 120, .inl fv1)), (rd2, .inr (2, [.ref hk2, .int (kf_b ob2), .int (kf_p pt2)])), (hk2, .inr (1, [.ref aw2, .ref az2, .ref an2, .int (nI nn2)])), (aw2, .inl (gJ G, 120, .inr (.inl fw2))), (az2, .inl (gI G, 120, .inl (kz_z zs2))), (an2, .inl (gI G, 120, .inl fv2))] s.heap := hP
  have hl := lv_entry ([.ref xo, .int rr]) (n := 3) (Nat.le_of_ble_eq_true rfl)
  rw [lg_entry_eq]
  generalize (lg_sl ([.ref xo, .int rr]) ++ List.replicate (3 - (lg_sl ([.ref xo, .int rr])).length) Slot.unset).toArray = ls at hl ⊢
  have hl : lv_has ls 3 [(0, .ref xo), (1, .int rr)] := hl
  refine lv_aload_n hx hb dX3_openReaderOrNull_0 rfl (lv_at hl 0 rfl) ?_
  refine lv_iload_n hx hb dX3_openReaderOrNull_1 rfl (lv_at hl 1 rfl) ?_
  have hPc := hP.sub (ws' := [(xo, .inr (3, [.ref hk, .ref hc, .ref ra])), (ra, .inl (gO G, 3, .inr (.inr (.inr (.inr (kf_ra rd0 rd1 rd2))))))]) [0, 1] rfl
  refine kz_cq (v := kf_rd rd0 rd1 rd2 rr) (va_runV (As := [.int rr]) (rest := []) ⟨hx, hb, hml, hown, hts⟩ (c_X3_readerOrNull l G xo hk hc ra rd0 rd1 rd2 rr) (cwV 1 hts gX3_openReaderOrNull_X3_readerOrNull rfl rfl rfl (by decide +kernel) ⟨Nat.le_of_ble_eq_true rfl, Nat.le_of_ble_eq_true rfl⟩) (kz_pv hK hPc (va_recv hK.1 hPc (ci := 3) (q0 := 0) rfl rfl)) rfl rfl hl.1 rfl (lv_room (Nat.le_of_ble_eq_true rfl)) dX3_openReaderOrNull_2 ⟨Nat.zero_le _, Nat.zero_le _⟩).run ?_
  rcases kf_rd_c rd0 rd1 rd2 rr with ⟨e1, e2⟩ | ⟨e1, e2⟩ | ⟨e1, e2⟩ | ⟨e1, e2⟩
  · refine kz_asq (y := .ref rd0) (by rw [e2]; rfl) ?_
    refine lv_astore_n (lv' := [(2, .ref rd0), (0, .ref xo), (1, .int rr)]) hx hb dX3_openReaderOrNull_5 rfl hl (by decide) rfl (fun ls hl => ?_)
    refine lv_aload_n hx hb dX3_openReaderOrNull_6 rfl (lv_at hl 0 rfl) ?_
    refine lv_ifnull hx hb dX3_openReaderOrNull_7 ?_
    refine lv_aload_n hx hb dX3_openReaderOrNull_10 rfl (lv_at hl 0 rfl) ?_
    have hPc := hP.sub (ws' := [(rd0, .inr (2, [.ref hk0, .int (kf_b ob0), .int (kf_p pt0)])), (hk0, .inr (1, [.ref aw0, .ref az0, .ref an0, .int (nI nn0)])), (aw0, .inl (gJ G, 120, .inr (.inl fw0))), (az0, .inl (gI G, 120, .inl (kz_z zs0))), (an0, .inl (gI G, 120, .inl fv0))]) [2, 3, 4, 5, 6] rfl
    refine kz_ci (v := kf_b ob0) (va_runV (As := []) (rest := []) ⟨hx, hb, hml, hown, hts⟩ (c_X2_isOpen l G rd0 ob0 pt0 hk0 aw0 az0 an0 nn0 fw0 (kz_z zs0) fv0  ) (cwV 0 hts gX3_openReaderOrNull_X2_isOpen rfl rfl rfl (by decide +kernel) ⟨Nat.le_of_ble_eq_true rfl, Nat.le_of_ble_eq_true rfl⟩) (kz_pv hK hPc (va_recv hK.1 hPc (ci := 2) (q0 := 0) rfl rfl)) rfl rfl hl.1 rfl (lv_room (Nat.le_of_ble_eq_true rfl)) dX3_openReaderOrNull_11 ⟨Nat.zero_le _, Nat.zero_le _⟩).run ?_
    refine lv_if_eq (tgt := 21) hx hb dX3_openReaderOrNull_14 (by decide) (fun c_1 => ?_) (fun c_1 => ?_)
    · have kc_1 : ob0 = false := kf_b_0.mp c_1
      refine lv_null hx hb dX3_openReaderOrNull_21 ?_
      exact W.aret (v := .null) hx hb hr (Or.inl ⟨_, rfl⟩) (Or.inl rfl) (fun t ht hW => ⟨none, rfl, (by unfold kf_ord; rw [if_neg (fun h => by rw [kc_1] at h; exact absurd h.2 (by decide)), if_neg (fun h => by rw [e1] at h; exact absurd h.1 (by decide)), if_neg (fun h => by rw [e1] at h; exact absurd h.1 (by decide))]), ht⟩) (fun _ h => nomatch h) dX3_openReaderOrNull_22
    · have kc_1 : ob0 = true := by
        cases h9 : ob0
        · exact absurd (by rw [h9]; rfl) c_1
        · rfl
      refine lv_aload_n hx hb dX3_openReaderOrNull_17 rfl (lv_at hl 0 rfl) ?_
      refine lv_goto (tgt := 22) hx hb dX3_openReaderOrNull_18 (by decide) ?_
      exact W.aret (v := .ref rd0) hx hb hr (Or.inl ⟨_, rfl⟩) (Or.inr ⟨_, rfl⟩) (fun t ht hW => ⟨some rd0, rfl, (by unfold kf_ord; rw [if_pos ⟨e1, kc_1⟩]), ht⟩) (fun _ h => nomatch h) dX3_openReaderOrNull_22
  · refine kz_asq (y := .ref rd1) (by rw [e2]; rfl) ?_
    refine lv_astore_n (lv' := [(2, .ref rd1), (0, .ref xo), (1, .int rr)]) hx hb dX3_openReaderOrNull_5 rfl hl (by decide) rfl (fun ls hl => ?_)
    refine lv_aload_n hx hb dX3_openReaderOrNull_6 rfl (lv_at hl 0 rfl) ?_
    refine lv_ifnull hx hb dX3_openReaderOrNull_7 ?_
    refine lv_aload_n hx hb dX3_openReaderOrNull_10 rfl (lv_at hl 0 rfl) ?_
    have hPc := hP.sub (ws' := [(rd1, .inr (2, [.ref hk1, .int (kf_b ob1), .int (kf_p pt1)])), (hk1, .inr (1, [.ref aw1, .ref az1, .ref an1, .int (nI nn1)])), (aw1, .inl (gJ G, 120, .inr (.inl fw1))), (az1, .inl (gI G, 120, .inl (kz_z zs1))), (an1, .inl (gI G, 120, .inl fv1))]) [7, 8, 9, 10, 11] rfl
    refine kz_ci (v := kf_b ob1) (va_runV (As := []) (rest := []) ⟨hx, hb, hml, hown, hts⟩ (c_X2_isOpen l G rd1 ob1 pt1 hk1 aw1 az1 an1 nn1 fw1 (kz_z zs1) fv1  ) (cwV 0 hts gX3_openReaderOrNull_X2_isOpen rfl rfl rfl (by decide +kernel) ⟨Nat.le_of_ble_eq_true rfl, Nat.le_of_ble_eq_true rfl⟩) (kz_pv hK hPc (va_recv hK.1 hPc (ci := 2) (q0 := 0) rfl rfl)) rfl rfl hl.1 rfl (lv_room (Nat.le_of_ble_eq_true rfl)) dX3_openReaderOrNull_11 ⟨Nat.zero_le _, Nat.zero_le _⟩).run ?_
    refine lv_if_eq (tgt := 21) hx hb dX3_openReaderOrNull_14 (by decide) (fun c_2 => ?_) (fun c_2 => ?_)
    · have kc_2 : ob1 = false := kf_b_0.mp c_2
      refine lv_null hx hb dX3_openReaderOrNull_21 ?_
      exact W.aret (v := .null) hx hb hr (Or.inl ⟨_, rfl⟩) (Or.inl rfl) (fun t ht hW => ⟨none, rfl, (by unfold kf_ord; rw [if_neg (fun h => by rw [e1] at h; exact absurd h.1 (by decide)), if_neg (fun h => by rw [kc_2] at h; exact absurd h.2 (by decide)), if_neg (fun h => by rw [e1] at h; exact absurd h.1 (by decide))]), ht⟩) (fun _ h => nomatch h) dX3_openReaderOrNull_22
    · have kc_2 : ob1 = true := by
        cases h9 : ob1
        · exact absurd (by rw [h9]; rfl) c_2
        · rfl
      refine lv_aload_n hx hb dX3_openReaderOrNull_17 rfl (lv_at hl 0 rfl) ?_
      refine lv_goto (tgt := 22) hx hb dX3_openReaderOrNull_18 (by decide) ?_
      exact W.aret (v := .ref rd1) hx hb hr (Or.inl ⟨_, rfl⟩) (Or.inr ⟨_, rfl⟩) (fun t ht hW => ⟨some rd1, rfl, (by unfold kf_ord; rw [if_neg (fun h => by rw [e1] at h; exact absurd h.1 (by decide)), if_pos ⟨e1, kc_2⟩]), ht⟩) (fun _ h => nomatch h) dX3_openReaderOrNull_22
  · refine kz_asq (y := .ref rd2) (by rw [e2]; rfl) ?_
    refine lv_astore_n (lv' := [(2, .ref rd2), (0, .ref xo), (1, .int rr)]) hx hb dX3_openReaderOrNull_5 rfl hl (by decide) rfl (fun ls hl => ?_)
    refine lv_aload_n hx hb dX3_openReaderOrNull_6 rfl (lv_at hl 0 rfl) ?_
    refine lv_ifnull hx hb dX3_openReaderOrNull_7 ?_
    refine lv_aload_n hx hb dX3_openReaderOrNull_10 rfl (lv_at hl 0 rfl) ?_
    have hPc := hP.sub (ws' := [(rd2, .inr (2, [.ref hk2, .int (kf_b ob2), .int (kf_p pt2)])), (hk2, .inr (1, [.ref aw2, .ref az2, .ref an2, .int (nI nn2)])), (aw2, .inl (gJ G, 120, .inr (.inl fw2))), (az2, .inl (gI G, 120, .inl (kz_z zs2))), (an2, .inl (gI G, 120, .inl fv2))]) [12, 13, 14, 15, 16] rfl
    refine kz_ci (v := kf_b ob2) (va_runV (As := []) (rest := []) ⟨hx, hb, hml, hown, hts⟩ (c_X2_isOpen l G rd2 ob2 pt2 hk2 aw2 az2 an2 nn2 fw2 (kz_z zs2) fv2  ) (cwV 0 hts gX3_openReaderOrNull_X2_isOpen rfl rfl rfl (by decide +kernel) ⟨Nat.le_of_ble_eq_true rfl, Nat.le_of_ble_eq_true rfl⟩) (kz_pv hK hPc (va_recv hK.1 hPc (ci := 2) (q0 := 0) rfl rfl)) rfl rfl hl.1 rfl (lv_room (Nat.le_of_ble_eq_true rfl)) dX3_openReaderOrNull_11 ⟨Nat.zero_le _, Nat.zero_le _⟩).run ?_
    refine lv_if_eq (tgt := 21) hx hb dX3_openReaderOrNull_14 (by decide) (fun c_3 => ?_) (fun c_3 => ?_)
    · have kc_3 : ob2 = false := kf_b_0.mp c_3
      refine lv_null hx hb dX3_openReaderOrNull_21 ?_
      exact W.aret (v := .null) hx hb hr (Or.inl ⟨_, rfl⟩) (Or.inl rfl) (fun t ht hW => ⟨none, rfl, (by unfold kf_ord; rw [if_neg (fun h => by rw [e1] at h; exact absurd h.1 (by decide)), if_neg (fun h => by rw [e1] at h; exact absurd h.1 (by decide)), if_neg (fun h => by rw [kc_3] at h; exact absurd h.2 (by decide))]), ht⟩) (fun _ h => nomatch h) dX3_openReaderOrNull_22
    · have kc_3 : ob2 = true := by
        cases h9 : ob2
        · exact absurd (by rw [h9]; rfl) c_3
        · rfl
      refine lv_aload_n hx hb dX3_openReaderOrNull_17 rfl (lv_at hl 0 rfl) ?_
      refine lv_goto (tgt := 22) hx hb dX3_openReaderOrNull_18 (by decide) ?_
      exact W.aret (v := .ref rd2) hx hb hr (Or.inl ⟨_, rfl⟩) (Or.inr ⟨_, rfl⟩) (fun t ht hW => ⟨some rd2, rfl, (by unfold kf_ord; rw [if_neg (fun h => by rw [e1] at h; exact absurd h.1 (by decide)), if_neg (fun h => by rw [e1] at h; exact absurd h.1 (by decide)), if_pos ⟨e1, kc_3⟩]), ht⟩) (fun _ h => nomatch h) dX3_openReaderOrNull_22
  · refine kz_asq (y := .null) (by rw [e2]; rfl) ?_
    refine lv_astore_nN (lv' := [(2, .null), (0, .ref xo), (1, .int rr)]) hx hb dX3_openReaderOrNull_5 rfl hl (by decide) rfl (fun ls hl => ?_)
    refine lv_aload_nN hx hb dX3_openReaderOrNull_6 rfl (lv_at hl 0 rfl) ?_
    refine lv_ifnullN (tgt := 21) hx hb dX3_openReaderOrNull_7 (by decide) ?_
    refine lv_null hx hb dX3_openReaderOrNull_21 ?_
    exact W.aret (v := .null) hx hb hr (Or.inl ⟨_, rfl⟩) (Or.inl rfl) (fun t ht hW => ⟨none, rfl, (by unfold kf_ord; rw [if_neg (fun h => e1 (Or.inl h.1)), if_neg (fun h => e1 (Or.inr (Or.inl h.1))), if_neg (fun h => e1 (Or.inr (Or.inr h.1)))]), ht⟩) (fun _ h => nomatch h) dX3_openReaderOrNull_22

set_option maxHeartbeats 4000000 in
set_option maxRecDepth 100000 in
theorem c_X3_key (l : Launch) (G : kz_G) (xo hk hc ra : Nat) (rd0 : Nat) (ob0 : Bool) (pt0 hk0 aw0 az0 an0 nn0 : Nat) (fw0 : Nat → Int64) (zs0 : Nat → Nat) (fv0 : Nat → Int32) (rd1 : Nat) (ob1 : Bool) (pt1 hk1 aw1 az1 an1 nn1 : Nat) (fw1 : Nat → Int64) (zs1 : Nat → Nat) (fv1 : Nat → Int32) (rd2 : Nat) (ob2 : Bool) (pt2 hk2 aw2 az2 an2 nn2 : Nat) (fw2 : Nat → Int64) (zs2 : Nat → Nat) (fv2 : Nat → Int32) (rr : Int32) (hn0 : nn0 ≤ 120) (hpt0 : pt0 ≤ 100000) (hz0 : ∀ j, zs0 j ≤ 8) (hn1 : nn1 ≤ 120) (hpt1 : pt1 ≤ 100000) (hz1 : ∀ j, zs1 j ≤ 8) (hn2 : nn2 ≤ 120) (hpt2 : pt2 ≤ 100000) (hz2 : ∀ j, zs2 j ≤ 8) : Met l yX3_key wsX3_key { frames := 3, cells := 0, slots := 0, locals := 62 } (kz_Pp G [.ref xo, .int rr] [(xo, .inr (3, [.ref hk, .ref hc, .ref ra])), (ra, .inl (gO G, 3, .inr (.inr (.inr (.inr (kf_ra rd0 rd1 rd2)))))), (rd0, .inr (2, [.ref hk0, .int (kf_b ob0), .int (kf_p pt0)])), (hk0, .inr (1, [.ref aw0, .ref az0, .ref an0, .int (nI nn0)])), (aw0, .inl (gJ G, 120, .inr (.inl fw0))), (az0, .inl (gI G, 120, .inl (kz_z zs0))), (an0, .inl (gI G, 120, .inl fv0)), (rd1, .inr (2, [.ref hk1, .int (kf_b ob1), .int (kf_p pt1)])), (hk1, .inr (1, [.ref aw1, .ref az1, .ref an1, .int (nI nn1)])), (aw1, .inl (gJ G, 120, .inr (.inl fw1))), (az1, .inl (gI G, 120, .inl (kz_z zs1))), (an1, .inl (gI G, 120, .inl fv1)), (rd2, .inr (2, [.ref hk2, .int (kf_b ob2), .int (kf_p pt2)])), (hk2, .inr (1, [.ref aw2, .ref az2, .ref an2, .int (nI nn2)])), (aw2, .inl (gJ G, 120, .inr (.inl fw2))), (az2, .inl (gI G, 120, .inl (kz_z zs2))), (an2, .inl (gI G, 120, .inl fv2))]) (vp_Sl (fun r => r = kf_by ob0 ob1 ob2 rr (if 0 < pt0 ∧ pt0 ≤ nn0 then fw0 (pt0 - 1) else 0) (if 0 < pt1 ∧ pt1 ≤ nn1 then fw1 (pt1 - 1) else 0) (if 0 < pt2 ∧ pt2 ≤ nn2 then fw2 (pt2 - 1) else 0) (0))) 0 0 (fun _ => False) := by
  refine Met.ofW (cc := cX3_key) (maxL := 3) (ret := (some .long)) (by decide) rfl ?_
  intro p e s m args below meth c s₁ B hml hv
  obtain ⟨rfl, hP, hK⟩ := hv
  have hx := B.exec
  have hb := B.bytes
  have hr := B.returns
  have hts := atoms_spec (ws := wsX3_key) B.pre
  have hown : s.vm.findClass RX3 = some m.cls := findClass_of_methodNamed B.named
  have hlocks := B.notSynchronized
  have hP : va_P G.1 vwCl [(xo, .inr (3, [.ref hk, .ref hc, .ref ra])), (ra, .inl (gO G, 3, .inr (.inr (.inr (.inr (kf_ra rd0 rd1 rd2)))))), (rd0, .inr (2, [.ref hk0, .int (kf_b ob0), .int (kf_p pt0)])), (hk0, .inr (1, [.ref aw0, .ref az0, .ref an0, .int (nI nn0)])), (aw0, .inl (gJ G, 120, .inr (.inl fw0))), (az0, .inl (gI G, 120, .inl (kz_z zs0))), (an0, .inl (gI G, 120, .inl fv0)), (rd1, .inr (2, [.ref hk1, .int (kf_b ob1), .int (kf_p pt1)])), (hk1, .inr (1, [.ref aw1, .ref az1, .ref an1, .int (nI nn1)])), (aw1, .inl (gJ G, 120, .inr (.inl fw1))), (az1, .inl (gI G, 120, .inl (kz_z zs1))), (an1, .inl (gI G, 120, .inl fv1)), (rd2, .inr (2, [.ref hk2, .int (kf_b ob2), .int (kf_p pt2)])), (hk2, .inr (1, [.ref aw2, .ref az2, .ref an2, .int (nI nn2)])), (aw2, .inl (gJ G, 120, .inr (.inl fw2))), (az2, .inl (gI G, 120, .inl (kz_z zs2))), (an2, .inl (gI G, 120, .inl fv2))] s.heap := hP
  have hl := lv_entry ([.ref xo, .int rr]) (n := 3) (Nat.le_of_ble_eq_true rfl)
  rw [lg_entry_eq]
  generalize (lg_sl ([.ref xo, .int rr]) ++ List.replicate (3 - (lg_sl ([.ref xo, .int rr])).length) Slot.unset).toArray = ls at hl ⊢
  have hl : lv_has ls 3 [(0, .ref xo), (1, .int rr)] := hl
  refine lv_aload_n hx hb dX3_key_0 rfl (lv_at hl 0 rfl) ?_
  refine lv_iload_n hx hb dX3_key_1 rfl (lv_at hl 1 rfl) ?_
  have hPc := hP.sub (ws' := [(xo, .inr (3, [.ref hk, .ref hc, .ref ra])), (ra, .inl (gO G, 3, .inr (.inr (.inr (.inr (kf_ra rd0 rd1 rd2)))))), (rd0, .inr (2, [.ref hk0, .int (kf_b ob0), .int (kf_p pt0)])), (hk0, .inr (1, [.ref aw0, .ref az0, .ref an0, .int (nI nn0)])), (aw0, .inl (gJ G, 120, .inr (.inl fw0))), (az0, .inl (gI G, 120, .inl (kz_z zs0))), (an0, .inl (gI G, 120, .inl fv0)), (rd1, .inr (2, [.ref hk1, .int (kf_b ob1), .int (kf_p pt1)])), (hk1, .inr (1, [.ref aw1, .ref az1, .ref an1, .int (nI nn1)])), (aw1, .inl (gJ G, 120, .inr (.inl fw1))), (az1, .inl (gI G, 120, .inl (kz_z zs1))), (an1, .inl (gI G, 120, .inl fv1)), (rd2, .inr (2, [.ref hk2, .int (kf_b ob2), .int (kf_p pt2)])), (hk2, .inr (1, [.ref aw2, .ref az2, .ref an2, .int (nI nn2)])), (aw2, .inl (gJ G, 120, .inr (.inl fw2))), (az2, .inl (gI G, 120, .inl (kz_z zs2))), (an2, .inl (gI G, 120, .inl fv2))]) [0, 1, 2, 3, 4, 5, 6, 7, 8, 9, 10, 11, 12, 13, 14, 15, 16] rfl
  refine kz_cq (v := kf_ord rd0 rd1 rd2 ob0 ob1 ob2 rr) (va_runV (As := [.int rr]) (rest := []) ⟨hx, hb, hml, hown, hts⟩ (c_X3_openReaderOrNull l G xo hk hc ra rd0 ob0 pt0 hk0 aw0 az0 an0 nn0 fw0 zs0 fv0 rd1 ob1 pt1 hk1 aw1 az1 an1 nn1 fw1 zs1 fv1 rd2 ob2 pt2 hk2 aw2 az2 an2 nn2 fw2 zs2 fv2 rr) (cwV 1 hts gX3_key_X3_openReaderOrNull rfl rfl rfl (by decide +kernel) ⟨Nat.le_of_ble_eq_true rfl, Nat.le_of_ble_eq_true rfl⟩) (kz_pv hK hPc (va_recv hK.1 hPc (ci := 3) (q0 := 0) rfl rfl)) rfl rfl hl.1 rfl (lv_room (Nat.le_of_ble_eq_true rfl)) dX3_key_2 ⟨Nat.zero_le _, Nat.zero_le _⟩).run ?_
  rcases kf_ord_c rd0 rd1 rd2 ob0 ob1 ob2 rr with ⟨e1, e2⟩ | ⟨e1, e2⟩ | ⟨e1, e2⟩ | ⟨e1, e2⟩
  · refine kz_asq (y := .ref rd0) (by rw [e2]; rfl) ?_
    refine lv_astore_n (lv' := [(2, .ref rd0), (0, .ref xo), (1, .int rr)]) hx hb dX3_key_5 rfl hl (by decide) rfl (fun ls hl => ?_)
    refine lv_aload_n hx hb dX3_key_6 rfl (lv_at hl 0 rfl) ?_
    refine lv_ifnonnull (tgt := 14) hx hb dX3_key_7 (by decide) ?_
    refine lv_aload_n hx hb dX3_key_14 rfl (lv_at hl 0 rfl) ?_
    have hPc := hP.sub (ws' := [(rd0, .inr (2, [.ref hk0, .int (kf_b ob0), .int (kf_p pt0)])), (hk0, .inr (1, [.ref aw0, .ref az0, .ref an0, .int (nI nn0)])), (aw0, .inl (gJ G, 120, .inr (.inl fw0))), (az0, .inl (gI G, 120, .inl (kz_z zs0))), (an0, .inl (gI G, 120, .inl fv0))]) [2, 3, 4, 5, 6] rfl
    refine kz_cl (v := if 0 < pt0 ∧ pt0 ≤ nn0 then fw0 (pt0 - 1) else 0) (va_runV (As := []) (rest := []) ⟨hx, hb, hml, hown, hts⟩ (c_X2_bytesHere l G rd0 ob0 pt0 hk0 aw0 az0 an0 nn0 fw0 (kz_z zs0) fv0  (by omega) (by omega)) (cwV 0 hts gX3_key_X2_bytesHere rfl rfl rfl (by decide +kernel) ⟨Nat.le_of_ble_eq_true rfl, Nat.le_of_ble_eq_true rfl⟩) (kz_pv hK hPc (va_recv hK.1 hPc (ci := 2) (q0 := 0) rfl rfl)) rfl rfl hl.1 rfl (lv_room (Nat.le_of_ble_eq_true rfl)) dX3_key_15 ⟨Nat.zero_le _, Nat.zero_le _⟩).run ?_
    exact W.lret (v := if 0 < pt0 ∧ pt0 ≤ nn0 then fw0 (pt0 - 1) else 0) hx hb hr (fun t ht hW => ⟨_, rfl, (kf_by_0 e1).symm, ht⟩) (fun _ h => nomatch h) dX3_key_18
  · refine kz_asq (y := .ref rd1) (by rw [e2]; rfl) ?_
    refine lv_astore_n (lv' := [(2, .ref rd1), (0, .ref xo), (1, .int rr)]) hx hb dX3_key_5 rfl hl (by decide) rfl (fun ls hl => ?_)
    refine lv_aload_n hx hb dX3_key_6 rfl (lv_at hl 0 rfl) ?_
    refine lv_ifnonnull (tgt := 14) hx hb dX3_key_7 (by decide) ?_
    refine lv_aload_n hx hb dX3_key_14 rfl (lv_at hl 0 rfl) ?_
    have hPc := hP.sub (ws' := [(rd1, .inr (2, [.ref hk1, .int (kf_b ob1), .int (kf_p pt1)])), (hk1, .inr (1, [.ref aw1, .ref az1, .ref an1, .int (nI nn1)])), (aw1, .inl (gJ G, 120, .inr (.inl fw1))), (az1, .inl (gI G, 120, .inl (kz_z zs1))), (an1, .inl (gI G, 120, .inl fv1))]) [7, 8, 9, 10, 11] rfl
    refine kz_cl (v := if 0 < pt1 ∧ pt1 ≤ nn1 then fw1 (pt1 - 1) else 0) (va_runV (As := []) (rest := []) ⟨hx, hb, hml, hown, hts⟩ (c_X2_bytesHere l G rd1 ob1 pt1 hk1 aw1 az1 an1 nn1 fw1 (kz_z zs1) fv1  (by omega) (by omega)) (cwV 0 hts gX3_key_X2_bytesHere rfl rfl rfl (by decide +kernel) ⟨Nat.le_of_ble_eq_true rfl, Nat.le_of_ble_eq_true rfl⟩) (kz_pv hK hPc (va_recv hK.1 hPc (ci := 2) (q0 := 0) rfl rfl)) rfl rfl hl.1 rfl (lv_room (Nat.le_of_ble_eq_true rfl)) dX3_key_15 ⟨Nat.zero_le _, Nat.zero_le _⟩).run ?_
    exact W.lret (v := if 0 < pt1 ∧ pt1 ≤ nn1 then fw1 (pt1 - 1) else 0) hx hb hr (fun t ht hW => ⟨_, rfl, (kf_by_1 e1).symm, ht⟩) (fun _ h => nomatch h) dX3_key_18
  · refine kz_asq (y := .ref rd2) (by rw [e2]; rfl) ?_
    refine lv_astore_n (lv' := [(2, .ref rd2), (0, .ref xo), (1, .int rr)]) hx hb dX3_key_5 rfl hl (by decide) rfl (fun ls hl => ?_)
    refine lv_aload_n hx hb dX3_key_6 rfl (lv_at hl 0 rfl) ?_
    refine lv_ifnonnull (tgt := 14) hx hb dX3_key_7 (by decide) ?_
    refine lv_aload_n hx hb dX3_key_14 rfl (lv_at hl 0 rfl) ?_
    have hPc := hP.sub (ws' := [(rd2, .inr (2, [.ref hk2, .int (kf_b ob2), .int (kf_p pt2)])), (hk2, .inr (1, [.ref aw2, .ref az2, .ref an2, .int (nI nn2)])), (aw2, .inl (gJ G, 120, .inr (.inl fw2))), (az2, .inl (gI G, 120, .inl (kz_z zs2))), (an2, .inl (gI G, 120, .inl fv2))]) [12, 13, 14, 15, 16] rfl
    refine kz_cl (v := if 0 < pt2 ∧ pt2 ≤ nn2 then fw2 (pt2 - 1) else 0) (va_runV (As := []) (rest := []) ⟨hx, hb, hml, hown, hts⟩ (c_X2_bytesHere l G rd2 ob2 pt2 hk2 aw2 az2 an2 nn2 fw2 (kz_z zs2) fv2  (by omega) (by omega)) (cwV 0 hts gX3_key_X2_bytesHere rfl rfl rfl (by decide +kernel) ⟨Nat.le_of_ble_eq_true rfl, Nat.le_of_ble_eq_true rfl⟩) (kz_pv hK hPc (va_recv hK.1 hPc (ci := 2) (q0 := 0) rfl rfl)) rfl rfl hl.1 rfl (lv_room (Nat.le_of_ble_eq_true rfl)) dX3_key_15 ⟨Nat.zero_le _, Nat.zero_le _⟩).run ?_
    exact W.lret (v := if 0 < pt2 ∧ pt2 ≤ nn2 then fw2 (pt2 - 1) else 0) hx hb hr (fun t ht hW => ⟨_, rfl, (kf_by_2 e1).symm, ht⟩) (fun _ h => nomatch h) dX3_key_18
  · refine kz_asq (y := .null) (by rw [e2]; rfl) ?_
    refine lv_astore_nN (lv' := [(2, .null), (0, .ref xo), (1, .int rr)]) hx hb dX3_key_5 rfl hl (by decide) rfl (fun ls hl => ?_)
    refine lv_aload_nN hx hb dX3_key_6 rfl (lv_at hl 0 rfl) ?_
    refine lv_ifnonnullN hx hb dX3_key_7 ?_
    refine lv_lconst (v := 0) hx hb dX3_key_10 (by decide) ?_
    refine lv_goto (tgt := 18) hx hb dX3_key_11 (by decide) ?_
    exact W.lret (v := 0) hx hb hr (fun t ht hW => ⟨_, rfl, (kf_by_n e1).symm, ht⟩) (fun _ h => nomatch h) dX3_key_18

set_option maxHeartbeats 4000000 in
set_option maxRecDepth 100000 in
theorem c_X3_length (l : Launch) (G : kz_G) (xo hk hc ra : Nat) (rd0 : Nat) (ob0 : Bool) (pt0 hk0 aw0 az0 an0 nn0 : Nat) (fw0 : Nat → Int64) (zs0 : Nat → Nat) (fv0 : Nat → Int32) (rd1 : Nat) (ob1 : Bool) (pt1 hk1 aw1 az1 an1 nn1 : Nat) (fw1 : Nat → Int64) (zs1 : Nat → Nat) (fv1 : Nat → Int32) (rd2 : Nat) (ob2 : Bool) (pt2 hk2 aw2 az2 an2 nn2 : Nat) (fw2 : Nat → Int64) (zs2 : Nat → Nat) (fv2 : Nat → Int32) (rr : Int32) (hn0 : nn0 ≤ 120) (hpt0 : pt0 ≤ 100000) (hz0 : ∀ j, zs0 j ≤ 8) (hn1 : nn1 ≤ 120) (hpt1 : pt1 ≤ 100000) (hz1 : ∀ j, zs1 j ≤ 8) (hn2 : nn2 ≤ 120) (hpt2 : pt2 ≤ 100000) (hz2 : ∀ j, zs2 j ≤ 8) : Met l yX3_length wsX3_length { frames := 3, cells := 0, slots := 0, locals := 62 } (kz_Pp G [.ref xo, .int rr] [(xo, .inr (3, [.ref hk, .ref hc, .ref ra])), (ra, .inl (gO G, 3, .inr (.inr (.inr (.inr (kf_ra rd0 rd1 rd2)))))), (rd0, .inr (2, [.ref hk0, .int (kf_b ob0), .int (kf_p pt0)])), (hk0, .inr (1, [.ref aw0, .ref az0, .ref an0, .int (nI nn0)])), (aw0, .inl (gJ G, 120, .inr (.inl fw0))), (az0, .inl (gI G, 120, .inl (kz_z zs0))), (an0, .inl (gI G, 120, .inl fv0)), (rd1, .inr (2, [.ref hk1, .int (kf_b ob1), .int (kf_p pt1)])), (hk1, .inr (1, [.ref aw1, .ref az1, .ref an1, .int (nI nn1)])), (aw1, .inl (gJ G, 120, .inr (.inl fw1))), (az1, .inl (gI G, 120, .inl (kz_z zs1))), (an1, .inl (gI G, 120, .inl fv1)), (rd2, .inr (2, [.ref hk2, .int (kf_b ob2), .int (kf_p pt2)])), (hk2, .inr (1, [.ref aw2, .ref az2, .ref an2, .int (nI nn2)])), (aw2, .inl (gJ G, 120, .inr (.inl fw2))), (az2, .inl (gI G, 120, .inl (kz_z zs2))), (an2, .inl (gI G, 120, .inl fv2))]) (vp_Si (fun r => r = kf_by ob0 ob1 ob2 rr (if 0 < pt0 ∧ pt0 ≤ nn0 then nI (zs0 (pt0 - 1)) else -1) (if 0 < pt1 ∧ pt1 ≤ nn1 then nI (zs1 (pt1 - 1)) else -1) (if 0 < pt2 ∧ pt2 ≤ nn2 then nI (zs2 (pt2 - 1)) else -1) (-1))) 0 0 (fun _ => False) := by
  refine Met.ofW (cc := cX3_length) (maxL := 3) (ret := (some .int)) (by decide) rfl ?_
  intro p e s m args below meth c s₁ B hml hv
  obtain ⟨rfl, hP, hK⟩ := hv
  have hx := B.exec
  have hb := B.bytes
  have hr := B.returns
  have hts := atoms_spec (ws := wsX3_length) B.pre
  have hown : s.vm.findClass RX3 = some m.cls := findClass_of_methodNamed B.named
  have hlocks := B.notSynchronized
  have hP : va_P G.1 vwCl [(xo, .inr (3, [.ref hk, .ref hc, .ref ra])), (ra, .inl (gO G, 3, .inr (.inr (.inr (.inr (kf_ra rd0 rd1 rd2)))))), (rd0, .inr (2, [.ref hk0, .int (kf_b ob0), .int (kf_p pt0)])), (hk0, .inr (1, [.ref aw0, .ref az0, .ref an0, .int (nI nn0)])), (aw0, .inl (gJ G, 120, .inr (.inl fw0))), (az0, .inl (gI G, 120, .inl (kz_z zs0))), (an0, .inl (gI G, 120, .inl fv0)), (rd1, .inr (2, [.ref hk1, .int (kf_b ob1), .int (kf_p pt1)])), (hk1, .inr (1, [.ref aw1, .ref az1, .ref an1, .int (nI nn1)])), (aw1, .inl (gJ G, 120, .inr (.inl fw1))), (az1, .inl (gI G, 120, .inl (kz_z zs1))), (an1, .inl (gI G, 120, .inl fv1)), (rd2, .inr (2, [.ref hk2, .int (kf_b ob2), .int (kf_p pt2)])), (hk2, .inr (1, [.ref aw2, .ref az2, .ref an2, .int (nI nn2)])), (aw2, .inl (gJ G, 120, .inr (.inl fw2))), (az2, .inl (gI G, 120, .inl (kz_z zs2))), (an2, .inl (gI G, 120, .inl fv2))] s.heap := hP
  have hl := lv_entry ([.ref xo, .int rr]) (n := 3) (Nat.le_of_ble_eq_true rfl)
  rw [lg_entry_eq]
  generalize (lg_sl ([.ref xo, .int rr]) ++ List.replicate (3 - (lg_sl ([.ref xo, .int rr])).length) Slot.unset).toArray = ls at hl ⊢
  have hl : lv_has ls 3 [(0, .ref xo), (1, .int rr)] := hl
  refine lv_aload_n hx hb dX3_length_0 rfl (lv_at hl 0 rfl) ?_
  refine lv_iload_n hx hb dX3_length_1 rfl (lv_at hl 1 rfl) ?_
  have hPc := hP.sub (ws' := [(xo, .inr (3, [.ref hk, .ref hc, .ref ra])), (ra, .inl (gO G, 3, .inr (.inr (.inr (.inr (kf_ra rd0 rd1 rd2)))))), (rd0, .inr (2, [.ref hk0, .int (kf_b ob0), .int (kf_p pt0)])), (hk0, .inr (1, [.ref aw0, .ref az0, .ref an0, .int (nI nn0)])), (aw0, .inl (gJ G, 120, .inr (.inl fw0))), (az0, .inl (gI G, 120, .inl (kz_z zs0))), (an0, .inl (gI G, 120, .inl fv0)), (rd1, .inr (2, [.ref hk1, .int (kf_b ob1), .int (kf_p pt1)])), (hk1, .inr (1, [.ref aw1, .ref az1, .ref an1, .int (nI nn1)])), (aw1, .inl (gJ G, 120, .inr (.inl fw1))), (az1, .inl (gI G, 120, .inl (kz_z zs1))), (an1, .inl (gI G, 120, .inl fv1)), (rd2, .inr (2, [.ref hk2, .int (kf_b ob2), .int (kf_p pt2)])), (hk2, .inr (1, [.ref aw2, .ref az2, .ref an2, .int (nI nn2)])), (aw2, .inl (gJ G, 120, .inr (.inl fw2))), (az2, .inl (gI G, 120, .inl (kz_z zs2))), (an2, .inl (gI G, 120, .inl fv2))]) [0, 1, 2, 3, 4, 5, 6, 7, 8, 9, 10, 11, 12, 13, 14, 15, 16] rfl
  refine kz_cq (v := kf_ord rd0 rd1 rd2 ob0 ob1 ob2 rr) (va_runV (As := [.int rr]) (rest := []) ⟨hx, hb, hml, hown, hts⟩ (c_X3_openReaderOrNull l G xo hk hc ra rd0 ob0 pt0 hk0 aw0 az0 an0 nn0 fw0 zs0 fv0 rd1 ob1 pt1 hk1 aw1 az1 an1 nn1 fw1 zs1 fv1 rd2 ob2 pt2 hk2 aw2 az2 an2 nn2 fw2 zs2 fv2 rr) (cwV 1 hts gX3_length_X3_openReaderOrNull rfl rfl rfl (by decide +kernel) ⟨Nat.le_of_ble_eq_true rfl, Nat.le_of_ble_eq_true rfl⟩) (kz_pv hK hPc (va_recv hK.1 hPc (ci := 3) (q0 := 0) rfl rfl)) rfl rfl hl.1 rfl (lv_room (Nat.le_of_ble_eq_true rfl)) dX3_length_2 ⟨Nat.zero_le _, Nat.zero_le _⟩).run ?_
  rcases kf_ord_c rd0 rd1 rd2 ob0 ob1 ob2 rr with ⟨e1, e2⟩ | ⟨e1, e2⟩ | ⟨e1, e2⟩ | ⟨e1, e2⟩
  · refine kz_asq (y := .ref rd0) (by rw [e2]; rfl) ?_
    refine lv_astore_n (lv' := [(2, .ref rd0), (0, .ref xo), (1, .int rr)]) hx hb dX3_length_5 rfl hl (by decide) rfl (fun ls hl => ?_)
    refine lv_aload_n hx hb dX3_length_6 rfl (lv_at hl 0 rfl) ?_
    refine lv_ifnonnull (tgt := 14) hx hb dX3_length_7 (by decide) ?_
    refine lv_aload_n hx hb dX3_length_14 rfl (lv_at hl 0 rfl) ?_
    have hPc := hP.sub (ws' := [(rd0, .inr (2, [.ref hk0, .int (kf_b ob0), .int (kf_p pt0)])), (hk0, .inr (1, [.ref aw0, .ref az0, .ref an0, .int (nI nn0)])), (aw0, .inl (gJ G, 120, .inr (.inl fw0))), (az0, .inl (gI G, 120, .inl (kz_z zs0))), (an0, .inl (gI G, 120, .inl fv0))]) [2, 3, 4, 5, 6] rfl
    refine kz_ci (v := if 0 < pt0 ∧ pt0 ≤ nn0 then (kz_z zs0) (pt0 - 1) else -1) (va_runV (As := []) (rest := []) ⟨hx, hb, hml, hown, hts⟩ (c_X2_sizeHere l G rd0 ob0 pt0 hk0 aw0 az0 an0 nn0 fw0 (kz_z zs0) fv0  (by omega) (by omega)) (cwV 0 hts gX3_length_X2_sizeHere rfl rfl rfl (by decide +kernel) ⟨Nat.le_of_ble_eq_true rfl, Nat.le_of_ble_eq_true rfl⟩) (kz_pv hK hPc (va_recv hK.1 hPc (ci := 2) (q0 := 0) rfl rfl)) rfl rfl hl.1 rfl (lv_room (Nat.le_of_ble_eq_true rfl)) dX3_length_15 ⟨Nat.zero_le _, Nat.zero_le _⟩).run ?_
    exact W.iret (v := if 0 < pt0 ∧ pt0 ≤ nn0 then (kz_z zs0) (pt0 - 1) else -1) hx hb hr (fun t ht hW => ⟨_, rfl, (kf_by_0 e1).symm, ht⟩) (fun _ h => nomatch h) dX3_length_18
  · refine kz_asq (y := .ref rd1) (by rw [e2]; rfl) ?_
    refine lv_astore_n (lv' := [(2, .ref rd1), (0, .ref xo), (1, .int rr)]) hx hb dX3_length_5 rfl hl (by decide) rfl (fun ls hl => ?_)
    refine lv_aload_n hx hb dX3_length_6 rfl (lv_at hl 0 rfl) ?_
    refine lv_ifnonnull (tgt := 14) hx hb dX3_length_7 (by decide) ?_
    refine lv_aload_n hx hb dX3_length_14 rfl (lv_at hl 0 rfl) ?_
    have hPc := hP.sub (ws' := [(rd1, .inr (2, [.ref hk1, .int (kf_b ob1), .int (kf_p pt1)])), (hk1, .inr (1, [.ref aw1, .ref az1, .ref an1, .int (nI nn1)])), (aw1, .inl (gJ G, 120, .inr (.inl fw1))), (az1, .inl (gI G, 120, .inl (kz_z zs1))), (an1, .inl (gI G, 120, .inl fv1))]) [7, 8, 9, 10, 11] rfl
    refine kz_ci (v := if 0 < pt1 ∧ pt1 ≤ nn1 then (kz_z zs1) (pt1 - 1) else -1) (va_runV (As := []) (rest := []) ⟨hx, hb, hml, hown, hts⟩ (c_X2_sizeHere l G rd1 ob1 pt1 hk1 aw1 az1 an1 nn1 fw1 (kz_z zs1) fv1  (by omega) (by omega)) (cwV 0 hts gX3_length_X2_sizeHere rfl rfl rfl (by decide +kernel) ⟨Nat.le_of_ble_eq_true rfl, Nat.le_of_ble_eq_true rfl⟩) (kz_pv hK hPc (va_recv hK.1 hPc (ci := 2) (q0 := 0) rfl rfl)) rfl rfl hl.1 rfl (lv_room (Nat.le_of_ble_eq_true rfl)) dX3_length_15 ⟨Nat.zero_le _, Nat.zero_le _⟩).run ?_
    exact W.iret (v := if 0 < pt1 ∧ pt1 ≤ nn1 then (kz_z zs1) (pt1 - 1) else -1) hx hb hr (fun t ht hW => ⟨_, rfl, (kf_by_1 e1).symm, ht⟩) (fun _ h => nomatch h) dX3_length_18
  · refine kz_asq (y := .ref rd2) (by rw [e2]; rfl) ?_
    refine lv_astore_n (lv' := [(2, .ref rd2), (0, .ref xo), (1, .int rr)]) hx hb dX3_length_5 rfl hl (by decide) rfl (fun ls hl => ?_)
    refine lv_aload_n hx hb dX3_length_6 rfl (lv_at hl 0 rfl) ?_
    refine lv_ifnonnull (tgt := 14) hx hb dX3_length_7 (by decide) ?_
    refine lv_aload_n hx hb dX3_length_14 rfl (lv_at hl 0 rfl) ?_
    have hPc := hP.sub (ws' := [(rd2, .inr (2, [.ref hk2, .int (kf_b ob2), .int (kf_p pt2)])), (hk2, .inr (1, [.ref aw2, .ref az2, .ref an2, .int (nI nn2)])), (aw2, .inl (gJ G, 120, .inr (.inl fw2))), (az2, .inl (gI G, 120, .inl (kz_z zs2))), (an2, .inl (gI G, 120, .inl fv2))]) [12, 13, 14, 15, 16] rfl
    refine kz_ci (v := if 0 < pt2 ∧ pt2 ≤ nn2 then (kz_z zs2) (pt2 - 1) else -1) (va_runV (As := []) (rest := []) ⟨hx, hb, hml, hown, hts⟩ (c_X2_sizeHere l G rd2 ob2 pt2 hk2 aw2 az2 an2 nn2 fw2 (kz_z zs2) fv2  (by omega) (by omega)) (cwV 0 hts gX3_length_X2_sizeHere rfl rfl rfl (by decide +kernel) ⟨Nat.le_of_ble_eq_true rfl, Nat.le_of_ble_eq_true rfl⟩) (kz_pv hK hPc (va_recv hK.1 hPc (ci := 2) (q0 := 0) rfl rfl)) rfl rfl hl.1 rfl (lv_room (Nat.le_of_ble_eq_true rfl)) dX3_length_15 ⟨Nat.zero_le _, Nat.zero_le _⟩).run ?_
    exact W.iret (v := if 0 < pt2 ∧ pt2 ≤ nn2 then (kz_z zs2) (pt2 - 1) else -1) hx hb hr (fun t ht hW => ⟨_, rfl, (kf_by_2 e1).symm, ht⟩) (fun _ h => nomatch h) dX3_length_18
  · refine kz_asq (y := .null) (by rw [e2]; rfl) ?_
    refine lv_astore_nN (lv' := [(2, .null), (0, .ref xo), (1, .int rr)]) hx hb dX3_length_5 rfl hl (by decide) rfl (fun ls hl => ?_)
    refine lv_aload_nN hx hb dX3_length_6 rfl (lv_at hl 0 rfl) ?_
    refine lv_ifnonnullN hx hb dX3_length_7 ?_
    refine lv_iconst (v := (-1)) hx hb dX3_length_10 (by decide) ?_
    refine lv_goto (tgt := 18) hx hb dX3_length_11 (by decide) ?_
    exact W.iret (v := (-1)) hx hb hr (fun t ht hW => ⟨_, rfl, (kf_by_n e1).symm, ht⟩) (fun _ h => nomatch h) dX3_length_18

set_option maxHeartbeats 4000000 in
set_option maxRecDepth 100000 in
theorem c_X3_value (l : Launch) (G : kz_G) (xo hk hc ra : Nat) (rd0 : Nat) (ob0 : Bool) (pt0 hk0 aw0 az0 an0 nn0 : Nat) (fw0 : Nat → Int64) (zs0 : Nat → Nat) (fv0 : Nat → Int32) (rd1 : Nat) (ob1 : Bool) (pt1 hk1 aw1 az1 an1 nn1 : Nat) (fw1 : Nat → Int64) (zs1 : Nat → Nat) (fv1 : Nat → Int32) (rd2 : Nat) (ob2 : Bool) (pt2 hk2 aw2 az2 an2 nn2 : Nat) (fw2 : Nat → Int64) (zs2 : Nat → Nat) (fv2 : Nat → Int32) (rr : Int32) (hn0 : nn0 ≤ 120) (hpt0 : pt0 ≤ 100000) (hz0 : ∀ j, zs0 j ≤ 8) (hn1 : nn1 ≤ 120) (hpt1 : pt1 ≤ 100000) (hz1 : ∀ j, zs1 j ≤ 8) (hn2 : nn2 ≤ 120) (hpt2 : pt2 ≤ 100000) (hz2 : ∀ j, zs2 j ≤ 8) : Met l yX3_value wsX3_value { frames := 3, cells := 0, slots := 0, locals := 62 } (kz_Pp G [.ref xo, .int rr] [(xo, .inr (3, [.ref hk, .ref hc, .ref ra])), (ra, .inl (gO G, 3, .inr (.inr (.inr (.inr (kf_ra rd0 rd1 rd2)))))), (rd0, .inr (2, [.ref hk0, .int (kf_b ob0), .int (kf_p pt0)])), (hk0, .inr (1, [.ref aw0, .ref az0, .ref an0, .int (nI nn0)])), (aw0, .inl (gJ G, 120, .inr (.inl fw0))), (az0, .inl (gI G, 120, .inl (kz_z zs0))), (an0, .inl (gI G, 120, .inl fv0)), (rd1, .inr (2, [.ref hk1, .int (kf_b ob1), .int (kf_p pt1)])), (hk1, .inr (1, [.ref aw1, .ref az1, .ref an1, .int (nI nn1)])), (aw1, .inl (gJ G, 120, .inr (.inl fw1))), (az1, .inl (gI G, 120, .inl (kz_z zs1))), (an1, .inl (gI G, 120, .inl fv1)), (rd2, .inr (2, [.ref hk2, .int (kf_b ob2), .int (kf_p pt2)])), (hk2, .inr (1, [.ref aw2, .ref az2, .ref an2, .int (nI nn2)])), (aw2, .inl (gJ G, 120, .inr (.inl fw2))), (az2, .inl (gI G, 120, .inl (kz_z zs2))), (an2, .inl (gI G, 120, .inl fv2))]) (vp_Si (fun r => r = kf_by ob0 ob1 ob2 rr (if 0 < pt0 ∧ pt0 ≤ nn0 then fv0 (pt0 - 1) else 0) (if 0 < pt1 ∧ pt1 ≤ nn1 then fv1 (pt1 - 1) else 0) (if 0 < pt2 ∧ pt2 ≤ nn2 then fv2 (pt2 - 1) else 0) (0))) 0 0 (fun _ => False) := by
  refine Met.ofW (cc := cX3_value) (maxL := 3) (ret := (some .int)) (by decide) rfl ?_
  intro p e s m args below meth c s₁ B hml hv
  obtain ⟨rfl, hP, hK⟩ := hv
  have hx := B.exec
  have hb := B.bytes
  have hr := B.returns
  have hts := atoms_spec (ws := wsX3_value) B.pre
  have hown : s.vm.findClass RX3 = some m.cls := findClass_of_methodNamed B.named
  have hlocks := B.notSynchronized
  have hP : va_P G.1 vwCl [(xo, .inr (3, [.ref hk, .ref hc, .ref ra])), (ra, .inl (gO G, 3, .inr (.inr (.inr (.inr (kf_ra rd0 rd1 rd2)))))), (rd0, .inr (2, [.ref hk0, .int (kf_b ob0), .int (kf_p pt0)])), (hk0, .inr (1, [.ref aw0, .ref az0, .ref an0, .int (nI nn0)])), (aw0, .inl (gJ G, 120, .inr (.inl fw0))), (az0, .inl (gI G, 120, .inl (kz_z zs0))), (an0, .inl (gI G, 120, .inl fv0)), (rd1, .inr (2, [.ref hk1, .int (kf_b ob1), .int (kf_p pt1)])), (hk1, .inr (1, [.ref aw1, .ref az1, .ref an1, .int (nI nn1)])), (aw1, .inl (gJ G, 120, .inr (.inl fw1))), (az1, .inl (gI G, 120, .inl (kz_z zs1))), (an1, .inl (gI G, 120, .inl fv1)), (rd2, .inr (2, [.ref hk2, .int (kf_b ob2), .int (kf_p pt2)])), (hk2, .inr (1, [.ref aw2, .ref az2, .ref an2, .int (nI nn2)])), (aw2, .inl (gJ G, 120, .inr (.inl fw2))), (az2, .inl (gI G, 120, .inl (kz_z zs2))), (an2, .inl (gI G, 120, .inl fv2))] s.heap := hP
  have hl := lv_entry ([.ref xo, .int rr]) (n := 3) (Nat.le_of_ble_eq_true rfl)
  rw [lg_entry_eq]
  generalize (lg_sl ([.ref xo, .int rr]) ++ List.replicate (3 - (lg_sl ([.ref xo, .int rr])).length) Slot.unset).toArray = ls at hl ⊢
  have hl : lv_has ls 3 [(0, .ref xo), (1, .int rr)] := hl
  refine lv_aload_n hx hb dX3_value_0 rfl (lv_at hl 0 rfl) ?_
  refine lv_iload_n hx hb dX3_value_1 rfl (lv_at hl 1 rfl) ?_
  have hPc := hP.sub (ws' := [(xo, .inr (3, [.ref hk, .ref hc, .ref ra])), (ra, .inl (gO G, 3, .inr (.inr (.inr (.inr (kf_ra rd0 rd1 rd2)))))), (rd0, .inr (2, [.ref hk0, .int (kf_b ob0), .int (kf_p pt0)])), (hk0, .inr (1, [.ref aw0, .ref az0, .ref an0, .int (nI nn0)])), (aw0, .inl (gJ G, 120, .inr (.inl fw0))), (az0, .inl (gI G, 120, .inl (kz_z zs0))), (an0, .inl (gI G, 120, .inl fv0)), (rd1, .inr (2, [.ref hk1, .int (kf_b ob1), .int (kf_p pt1)])), (hk1, .inr (1, [.ref aw1, .ref az1, .ref an1, .int (nI nn1)])), (aw1, .inl (gJ G, 120, .inr (.inl fw1))), (az1, .inl (gI G, 120, .inl (kz_z zs1))), (an1, .inl (gI G, 120, .inl fv1)), (rd2, .inr (2, [.ref hk2, .int (kf_b ob2), .int (kf_p pt2)])), (hk2, .inr (1, [.ref aw2, .ref az2, .ref an2, .int (nI nn2)])), (aw2, .inl (gJ G, 120, .inr (.inl fw2))), (az2, .inl (gI G, 120, .inl (kz_z zs2))), (an2, .inl (gI G, 120, .inl fv2))]) [0, 1, 2, 3, 4, 5, 6, 7, 8, 9, 10, 11, 12, 13, 14, 15, 16] rfl
  refine kz_cq (v := kf_ord rd0 rd1 rd2 ob0 ob1 ob2 rr) (va_runV (As := [.int rr]) (rest := []) ⟨hx, hb, hml, hown, hts⟩ (c_X3_openReaderOrNull l G xo hk hc ra rd0 ob0 pt0 hk0 aw0 az0 an0 nn0 fw0 zs0 fv0 rd1 ob1 pt1 hk1 aw1 az1 an1 nn1 fw1 zs1 fv1 rd2 ob2 pt2 hk2 aw2 az2 an2 nn2 fw2 zs2 fv2 rr) (cwV 1 hts gX3_value_X3_openReaderOrNull rfl rfl rfl (by decide +kernel) ⟨Nat.le_of_ble_eq_true rfl, Nat.le_of_ble_eq_true rfl⟩) (kz_pv hK hPc (va_recv hK.1 hPc (ci := 3) (q0 := 0) rfl rfl)) rfl rfl hl.1 rfl (lv_room (Nat.le_of_ble_eq_true rfl)) dX3_value_2 ⟨Nat.zero_le _, Nat.zero_le _⟩).run ?_
  rcases kf_ord_c rd0 rd1 rd2 ob0 ob1 ob2 rr with ⟨e1, e2⟩ | ⟨e1, e2⟩ | ⟨e1, e2⟩ | ⟨e1, e2⟩
  · refine kz_asq (y := .ref rd0) (by rw [e2]; rfl) ?_
    refine lv_astore_n (lv' := [(2, .ref rd0), (0, .ref xo), (1, .int rr)]) hx hb dX3_value_5 rfl hl (by decide) rfl (fun ls hl => ?_)
    refine lv_aload_n hx hb dX3_value_6 rfl (lv_at hl 0 rfl) ?_
    refine lv_ifnonnull (tgt := 14) hx hb dX3_value_7 (by decide) ?_
    refine lv_aload_n hx hb dX3_value_14 rfl (lv_at hl 0 rfl) ?_
    have hPc := hP.sub (ws' := [(rd0, .inr (2, [.ref hk0, .int (kf_b ob0), .int (kf_p pt0)])), (hk0, .inr (1, [.ref aw0, .ref az0, .ref an0, .int (nI nn0)])), (aw0, .inl (gJ G, 120, .inr (.inl fw0))), (az0, .inl (gI G, 120, .inl (kz_z zs0))), (an0, .inl (gI G, 120, .inl fv0))]) [2, 3, 4, 5, 6] rfl
    refine kz_ci (v := if 0 < pt0 ∧ pt0 ≤ nn0 then fv0 (pt0 - 1) else 0) (va_runV (As := []) (rest := []) ⟨hx, hb, hml, hown, hts⟩ (c_X2_numberHere l G rd0 ob0 pt0 hk0 aw0 az0 an0 nn0 fw0 (kz_z zs0) fv0  (by omega) (by omega)) (cwV 0 hts gX3_value_X2_numberHere rfl rfl rfl (by decide +kernel) ⟨Nat.le_of_ble_eq_true rfl, Nat.le_of_ble_eq_true rfl⟩) (kz_pv hK hPc (va_recv hK.1 hPc (ci := 2) (q0 := 0) rfl rfl)) rfl rfl hl.1 rfl (lv_room (Nat.le_of_ble_eq_true rfl)) dX3_value_15 ⟨Nat.zero_le _, Nat.zero_le _⟩).run ?_
    exact W.iret (v := if 0 < pt0 ∧ pt0 ≤ nn0 then fv0 (pt0 - 1) else 0) hx hb hr (fun t ht hW => ⟨_, rfl, (kf_by_0 e1).symm, ht⟩) (fun _ h => nomatch h) dX3_value_18
  · refine kz_asq (y := .ref rd1) (by rw [e2]; rfl) ?_
    refine lv_astore_n (lv' := [(2, .ref rd1), (0, .ref xo), (1, .int rr)]) hx hb dX3_value_5 rfl hl (by decide) rfl (fun ls hl => ?_)
    refine lv_aload_n hx hb dX3_value_6 rfl (lv_at hl 0 rfl) ?_
    refine lv_ifnonnull (tgt := 14) hx hb dX3_value_7 (by decide) ?_
    refine lv_aload_n hx hb dX3_value_14 rfl (lv_at hl 0 rfl) ?_
    have hPc := hP.sub (ws' := [(rd1, .inr (2, [.ref hk1, .int (kf_b ob1), .int (kf_p pt1)])), (hk1, .inr (1, [.ref aw1, .ref az1, .ref an1, .int (nI nn1)])), (aw1, .inl (gJ G, 120, .inr (.inl fw1))), (az1, .inl (gI G, 120, .inl (kz_z zs1))), (an1, .inl (gI G, 120, .inl fv1))]) [7, 8, 9, 10, 11] rfl
    refine kz_ci (v := if 0 < pt1 ∧ pt1 ≤ nn1 then fv1 (pt1 - 1) else 0) (va_runV (As := []) (rest := []) ⟨hx, hb, hml, hown, hts⟩ (c_X2_numberHere l G rd1 ob1 pt1 hk1 aw1 az1 an1 nn1 fw1 (kz_z zs1) fv1  (by omega) (by omega)) (cwV 0 hts gX3_value_X2_numberHere rfl rfl rfl (by decide +kernel) ⟨Nat.le_of_ble_eq_true rfl, Nat.le_of_ble_eq_true rfl⟩) (kz_pv hK hPc (va_recv hK.1 hPc (ci := 2) (q0 := 0) rfl rfl)) rfl rfl hl.1 rfl (lv_room (Nat.le_of_ble_eq_true rfl)) dX3_value_15 ⟨Nat.zero_le _, Nat.zero_le _⟩).run ?_
    exact W.iret (v := if 0 < pt1 ∧ pt1 ≤ nn1 then fv1 (pt1 - 1) else 0) hx hb hr (fun t ht hW => ⟨_, rfl, (kf_by_1 e1).symm, ht⟩) (fun _ h => nomatch h) dX3_value_18
  · refine kz_asq (y := .ref rd2) (by rw [e2]; rfl) ?_
    refine lv_astore_n (lv' := [(2, .ref rd2), (0, .ref xo), (1, .int rr)]) hx hb dX3_value_5 rfl hl (by decide) rfl (fun ls hl => ?_)
    refine lv_aload_n hx hb dX3_value_6 rfl (lv_at hl 0 rfl) ?_
    refine lv_ifnonnull (tgt := 14) hx hb dX3_value_7 (by decide) ?_
    refine lv_aload_n hx hb dX3_value_14 rfl (lv_at hl 0 rfl) ?_
    have hPc := hP.sub (ws' := [(rd2, .inr (2, [.ref hk2, .int (kf_b ob2), .int (kf_p pt2)])), (hk2, .inr (1, [.ref aw2, .ref az2, .ref an2, .int (nI nn2)])), (aw2, .inl (gJ G, 120, .inr (.inl fw2))), (az2, .inl (gI G, 120, .inl (kz_z zs2))), (an2, .inl (gI G, 120, .inl fv2))]) [12, 13, 14, 15, 16] rfl
    refine kz_ci (v := if 0 < pt2 ∧ pt2 ≤ nn2 then fv2 (pt2 - 1) else 0) (va_runV (As := []) (rest := []) ⟨hx, hb, hml, hown, hts⟩ (c_X2_numberHere l G rd2 ob2 pt2 hk2 aw2 az2 an2 nn2 fw2 (kz_z zs2) fv2  (by omega) (by omega)) (cwV 0 hts gX3_value_X2_numberHere rfl rfl rfl (by decide +kernel) ⟨Nat.le_of_ble_eq_true rfl, Nat.le_of_ble_eq_true rfl⟩) (kz_pv hK hPc (va_recv hK.1 hPc (ci := 2) (q0 := 0) rfl rfl)) rfl rfl hl.1 rfl (lv_room (Nat.le_of_ble_eq_true rfl)) dX3_value_15 ⟨Nat.zero_le _, Nat.zero_le _⟩).run ?_
    exact W.iret (v := if 0 < pt2 ∧ pt2 ≤ nn2 then fv2 (pt2 - 1) else 0) hx hb hr (fun t ht hW => ⟨_, rfl, (kf_by_2 e1).symm, ht⟩) (fun _ h => nomatch h) dX3_value_18
  · refine kz_asq (y := .null) (by rw [e2]; rfl) ?_
    refine lv_astore_nN (lv' := [(2, .null), (0, .ref xo), (1, .int rr)]) hx hb dX3_value_5 rfl hl (by decide) rfl (fun ls hl => ?_)
    refine lv_aload_nN hx hb dX3_value_6 rfl (lv_at hl 0 rfl) ?_
    refine lv_ifnonnullN hx hb dX3_value_7 ?_
    refine lv_iconst (v := 0) hx hb dX3_value_10 (by decide) ?_
    refine lv_goto (tgt := 18) hx hb dX3_value_11 (by decide) ?_
    exact W.iret (v := 0) hx hb hr (fun t ht hW => ⟨_, rfl, (kf_by_n e1).symm, ht⟩) (fun _ h => nomatch h) dX3_value_18
