theorem kl_gt {i L : Nat} (hi : i ≤ 10000) (hL : L ≤ 10000) : (nI L - 5 < nI i) ↔ L < i + 5 := by
  rw [Int32.lt_iff_toInt_lt, show (nI L - 5).toInt = (L : Int) - 5 from pk_sub_toInt (b := 5) (by omega) (by decide), nI_toInt (by omega)]
  omega
set_option maxHeartbeats 4000000 in
set_option maxRecDepth 100000 in
theorem kl_loop {p : Program} {l : Launch} {e : Env} {s : State} {m : MethodId} {below : List Frame} {meth : Method} {c : Code} {b L : Nat} {xs : Nat → Int32} (htr : l.stackTraces = false) (hL : L ≤ 2560) (C0 : lw_At p s m meth c b L xs) {A : Nat → Prop} (hA : ∀ q : Nat, s.heap.size ≤ q → A q) (hAf : ∀ q, A q → s.heap.size ≤ q) (G : kz_G) (xo hk aw az an hc ab ra rd0 hk0 aw0 az0 an0 rd1 hk1 aw1 az1 an1 rd2 hk2 aw2 az2 an2 mo mc mw mz mv mp mh ao : Nat) (hK : kz_K G s) (hE : kx_E A s s.heap) : ∀ (n i : Nat), i ≤ L → L + 1 ≤ i + n → ∀ (cells slots : Nat), cells + n ≤ room_1.cells → slots + 6 * n ≤ room_1.slots → ∀ (tv : Int32) (cs : Nat → Nat) (mW : Nat → Int64) (mZ : Nat → Nat) (mV : Nat → Int32) (po : Nat → Bool) (pw : Nat → Nat) (pt0 pt1 pt2 : Nat) (fo : Nat → Int64) (H : Heap) (locs : List Loc) (ls : Array Slot), kl_M cs mW mZ po pw pt0 pt1 pt2 → va_P G.1 vwCl (kl_W G xo hk aw az an hc ab ra rd0 hk0 aw0 az0 an0 rd1 hk1 aw1 az1 an1 rd2 hk2 aw2 az2 an2 mo mc mw mz mv mp mh ao tv cs mW mZ mV po pw pt0 pt1 pt2 fo) H → va_D A (kl_W G xo hk aw az an hc ab ra rd0 hk0 aw0 az0 an0 rd1 hk1 aw1 az1 an1 rd2 hk2 aw2 az2 an2 mo mc mw mz mv mp mh ao tv cs mW mZ mV po pw pt0 pt1 pt2 fo) → va_S A s.heap H locs → lv_has ls 7 [(0, .ref b), (1, .ref xo), (2, .ref mo), (3, .ref ao), (4, .int (nI i))] → W p l e room_1 s m #[Value.ref b] below meth c H locs cells slots (lw_Z below #[Value.ref b] s) (F0 m 23 ls []) := by
  obtain ⟨hx, hb, hr, hml, hown0, hts, hX, hbl, hlocks, hgv⟩ := id C0
  have hbA : ¬ A b := fun h => absurd (hAf b h) (Nat.not_le.mpr hbl)
  intro n
  induction n with
  | zero =>
    intro i h1 h2
    exact absurd h2 (by omega)
  | succ n ih =>
    intro i hi hin cells slots hcn hsn tv cs mW mZ mV po pw pt0 pt1 pt2 fo H locs ls hM hP hD hS hl
    refine lv_iload hx hb dL_law_23 (lv_at hl 4 rfl) ?_
    refine lv_aload_n hx hb dL_law_25 rfl (lv_at hl 0 rfl) ?_
    refine va_slen hx hb hX hbl hbA hS dL_law_26 ?_
    refine lv_iconst (v := 5) hx hb dL_law_27 (by decide) ?_
    refine lv_isub hx hb dL_law_28 ?_
    refine lv_icmp_gt (tgt := 959) hx hb dL_law_29 (by decide) (fun c_1 => ?_) (fun c_1 => ?_)
    · refine lv_iconst (v := 1) hx hb dL_law_959 (by decide) ?_
      refine va_forget (fun q hq => hAf _ (hS.2.2 q hq)) ?_
      refine W.widen (k := room_1.cells) (n := room_1.slots) (Nat.le_trans (Nat.le_add_right _ _) hcn) (Nat.le_trans (Nat.le_add_right _ _) hsn) ?_
      exact lw_ret hx hb hr hlocks dL_law_960
    · have h5 : i + 5 ≤ L := by
        rcases Nat.lt_or_ge L (i + 5) with h | h
        · exact absurd ((kl_gt (by omega) (by omega)).mpr h) c_1
        · exact h
      have hN : kl_K p l e s m below meth c b A G xo hk aw az an hc ab ra rd0 hk0 aw0 az0 an0 rd1 hk1 aw1 az1 an1 rd2 hk2 aw2 az2 an2 mo mc mw mz mv mp mh ao i (cells + 1) (slots + 6) := by
        intro tv cs mW mZ mV po pw pt0 pt1 pt2 fo H locs ls hM hP hD hS hl
        refine lv_iinc (v := nI (i + 5)) (lv' := [(4, .int (nI (i + 5))), (0, .ref b), (1, .ref xo), (2, .ref mo), (3, .ref ao)]) hx hb dL_law_953 hl (k := 4) rfl (by rw [show Int32.ofInt 5 = nI 5 from by decide]; exact nI_add i 5) (by decide) rfl (fun ls hl => ?_)
        refine lv_goto (tgt := 23) hx hb dL_law_956 (by decide) ?_
        exact ih (i + 5) h5 (by omega) (cells + 1) (slots + 6) (by omega) (by omega) tv cs mW mZ mV po pw pt0 pt1 pt2 fo H locs ls hM hP hD hS (lv_sub hl [1, 2, 3, 4, 0] rfl)
      have hc9 : cells + 1 ≤ room_1.cells := by omega
      have hs9 : slots + 6 ≤ room_1.slots := by omega
      refine lv_aload_n hx hb dL_law_32 rfl (lv_at hl 0 rfl) ?_
      refine lv_iload hx hb dL_law_33 (lv_at hl 4 rfl) ?_
      refine kz_sld hx hb hX hbl hbA hS (k := i) ⟨by omega, by omega⟩ dL_law_35 ?_
      refine lv_bipush (v := 15) hx hb dL_law_36 (by decide) ?_
      refine lv_iand hx hb dL_law_38 ?_
      obtain ⟨k, hk9, hke⟩ := pk_andE (xs i) (m := 15) 4 (by decide)
      refine kz_asi (y := nI k) hke ?_
      rcases (show k = 0 ∨ k = 1 ∨ k = 2 ∨ k = 3 ∨ k = 4 ∨ k = 5 ∨ k = 6 ∨ k = 7 ∨ k = 8 ∨ k = 9 ∨ k = 10 ∨ k = 11 ∨ k = 12 ∨ k = 13 ∨ k = 14 ∨ k = 15 by omega) with rfl | rfl | rfl | rfl | rfl | rfl | rfl | rfl | rfl | rfl | rfl | rfl | rfl | rfl | rfl | rfl
      · refine lv_tableIn (x := nI 0) (off := 73) (tgt := 112) hx hb dL_law_39 (by decide +kernel) (by decide +kernel) (by decide +kernel) (by decide +kernel) ?_
        exact kl_op0 htr hL C0 hA hAf G xo hk aw az an hc ab ra rd0 hk0 aw0 az0 an0 rd1 hk1 aw1 az1 an1 rd2 hk2 aw2 az2 an2 mo mc mw mz mv mp mh ao hK hE i h5 hc9 hs9 hN tv cs mW mZ mV po pw pt0 pt1 pt2 fo hM hP hD hS hl
      · refine lv_tableIn (x := nI 1) (off := 192) (tgt := 231) hx hb dL_law_39 (by decide +kernel) (by decide +kernel) (by decide +kernel) (by decide +kernel) ?_
        exact kl_op1 htr hL C0 hA hAf G xo hk aw az an hc ab ra rd0 hk0 aw0 az0 an0 rd1 hk1 aw1 az1 an1 rd2 hk2 aw2 az2 an2 mo mc mw mz mv mp mh ao hK hE i h5 hc9 hs9 hN tv cs mW mZ mV po pw pt0 pt1 pt2 fo hM hP hD hS hl
      · refine lv_tableIn (x := nI 2) (off := 292) (tgt := 331) hx hb dL_law_39 (by decide +kernel) (by decide +kernel) (by decide +kernel) (by decide +kernel) ?_
        exact kl_op2 htr hL C0 hA hAf G xo hk aw az an hc ab ra rd0 hk0 aw0 az0 an0 rd1 hk1 aw1 az1 an1 rd2 hk2 aw2 az2 an2 mo mc mw mz mv mp mh ao hK hE i h5 hc9 hs9 hN tv cs mW mZ mV po pw pt0 pt1 pt2 fo hM hP hD hS hl
      · refine lv_tableIn (x := nI 3) (off := 361) (tgt := 400) hx hb dL_law_39 (by decide +kernel) (by decide +kernel) (by decide +kernel) (by decide +kernel) ?_
        exact kl_op3 htr hL C0 hA hAf G xo hk aw az an hc ab ra rd0 hk0 aw0 az0 an0 rd1 hk1 aw1 az1 an1 rd2 hk2 aw2 az2 an2 mo mc mw mz mv mp mh ao hK hE i h5 hc9 hs9 hN tv cs mW mZ mV po pw pt0 pt1 pt2 fo hM hP hD hS hl
      · refine lv_tableIn (x := nI 4) (off := 374) (tgt := 413) hx hb dL_law_39 (by decide +kernel) (by decide +kernel) (by decide +kernel) (by decide +kernel) ?_
        exact kl_op4 htr hL C0 hA hAf G xo hk aw az an hc ab ra rd0 hk0 aw0 az0 an0 rd1 hk1 aw1 az1 an1 rd2 hk2 aw2 az2 an2 mo mc mw mz mv mp mh ao hK hE i h5 hc9 hs9 hN tv cs mW mZ mV po pw pt0 pt1 pt2 fo hM hP hD hS hl
      · refine lv_tableIn (x := nI 5) (off := 443) (tgt := 482) hx hb dL_law_39 (by decide +kernel) (by decide +kernel) (by decide +kernel) (by decide +kernel) ?_
        exact kl_op5 htr hL C0 hA hAf G xo hk aw az an hc ab ra rd0 hk0 aw0 az0 an0 rd1 hk1 aw1 az1 an1 rd2 hk2 aw2 az2 an2 mo mc mw mz mv mp mh ao hK hE i h5 hc9 hs9 hN tv cs mW mZ mV po pw pt0 pt1 pt2 fo hM hP hD hS hl
      · refine lv_tableIn (x := nI 6) (off := 512) (tgt := 551) hx hb dL_law_39 (by decide +kernel) (by decide +kernel) (by decide +kernel) (by decide +kernel) ?_
        exact kl_op6 htr hL C0 hA hAf G xo hk aw az an hc ab ra rd0 hk0 aw0 az0 an0 rd1 hk1 aw1 az1 an1 rd2 hk2 aw2 az2 an2 mo mc mw mz mv mp mh ao hK hE i h5 hc9 hs9 hN tv cs mW mZ mV po pw pt0 pt1 pt2 fo hM hP hD hS hl
      · refine lv_tableIn (x := nI 7) (off := 537) (tgt := 576) hx hb dL_law_39 (by decide +kernel) (by decide +kernel) (by decide +kernel) (by decide +kernel) ?_
        exact kl_op7 htr hL C0 hA hAf G xo hk aw az an hc ab ra rd0 hk0 aw0 az0 an0 rd1 hk1 aw1 az1 an1 rd2 hk2 aw2 az2 an2 mo mc mw mz mv mp mh ao hK hE i h5 hc9 hs9 hN tv cs mW mZ mV po pw pt0 pt1 pt2 fo hM hP hD hS hl
      · refine lv_tableIn (x := nI 8) (off := 606) (tgt := 645) hx hb dL_law_39 (by decide +kernel) (by decide +kernel) (by decide +kernel) (by decide +kernel) ?_
        exact kl_op8 htr hL C0 hA hAf G xo hk aw az an hc ab ra rd0 hk0 aw0 az0 an0 rd1 hk1 aw1 az1 an1 rd2 hk2 aw2 az2 an2 mo mc mw mz mv mp mh ao hK hE i h5 hc9 hs9 hN tv cs mW mZ mV po pw pt0 pt1 pt2 fo hM hP hD hS hl
      · refine lv_tableIn (x := nI 9) (off := 631) (tgt := 670) hx hb dL_law_39 (by decide +kernel) (by decide +kernel) (by decide +kernel) (by decide +kernel) ?_
        exact kl_op9 htr hL C0 hA hAf G xo hk aw az an hc ab ra rd0 hk0 aw0 az0 an0 rd1 hk1 aw1 az1 an1 rd2 hk2 aw2 az2 an2 mo mc mw mz mv mp mh ao hK hE i h5 hc9 hs9 hN tv cs mW mZ mV po pw pt0 pt1 pt2 fo hM hP hD hS hl
      · refine lv_tableIn (x := nI 10) (off := 656) (tgt := 695) hx hb dL_law_39 (by decide +kernel) (by decide +kernel) (by decide +kernel) (by decide +kernel) ?_
        exact kl_op10 htr hL C0 hA hAf G xo hk aw az an hc ab ra rd0 hk0 aw0 az0 an0 rd1 hk1 aw1 az1 an1 rd2 hk2 aw2 az2 an2 mo mc mw mz mv mp mh ao hK hE i h5 hc9 hs9 hN tv cs mW mZ mV po pw pt0 pt1 pt2 fo hM hP hD hS hl
      · refine lv_tableIn (x := nI 11) (off := 775) (tgt := 814) hx hb dL_law_39 (by decide +kernel) (by decide +kernel) (by decide +kernel) (by decide +kernel) ?_
        exact kl_op11 htr hL C0 hA hAf G xo hk aw az an hc ab ra rd0 hk0 aw0 az0 an0 rd1 hk1 aw1 az1 an1 rd2 hk2 aw2 az2 an2 mo mc mw mz mv mp mh ao hK hE i h5 hc9 hs9 hN tv cs mW mZ mV po pw pt0 pt1 pt2 fo hM hP hD hS hl
      · refine lv_tableIn (x := nI 12) (off := 838) (tgt := 877) hx hb dL_law_39 (by decide +kernel) (by decide +kernel) (by decide +kernel) (by decide +kernel) ?_
        exact kl_op12 htr hL C0 hA hAf G xo hk aw az an hc ab ra rd0 hk0 aw0 az0 an0 rd1 hk1 aw1 az1 an1 rd2 hk2 aw2 az2 an2 mo mc mw mz mv mp mh ao hK hE i h5 hc9 hs9 hN tv cs mW mZ mV po pw pt0 pt1 pt2 fo hM hP hD hS hl
      · refine lv_tableIn (x := nI 13) (off := 864) (tgt := 903) hx hb dL_law_39 (by decide +kernel) (by decide +kernel) (by decide +kernel) (by decide +kernel) ?_
        exact kl_op13 htr hL C0 hA hAf G xo hk aw az an hc ab ra rd0 hk0 aw0 az0 an0 rd1 hk1 aw1 az1 an1 rd2 hk2 aw2 az2 an2 mo mc mw mz mv mp mh ao hK hE i h5 hc9 hs9 hN tv cs mW mZ mV po pw pt0 pt1 pt2 fo hM hP hD hS hl
      · refine lv_tableIn (x := nI 14) (off := 889) (tgt := 928) hx hb dL_law_39 (by decide +kernel) (by decide +kernel) (by decide +kernel) (by decide +kernel) ?_
        exact kl_op14 htr hL C0 hA hAf G xo hk aw az an hc ab ra rd0 hk0 aw0 az0 an0 rd1 hk1 aw1 az1 an1 rd2 hk2 aw2 az2 an2 mo mc mw mz mv mp mh ao hK hE i h5 hc9 hs9 hN tv cs mW mZ mV po pw pt0 pt1 pt2 fo hM hP hD hS hl
      · refine lv_tableOut (x := nI 15) (tgt := 953) hx hb dL_law_39 (by decide +kernel) (by decide +kernel) ?_
        refine W.widen (k := cells + 1) (n := slots + 6) (by omega) (by omega) ?_
        exact hN tv cs mW mZ mV po pw pt0 pt1 pt2 fo H locs ls hM hP hD hS hl
