theorem kf_nz {k n : Nat} {r : Int32} (h : n ≤ 32) (hr : r = nI n) (h1 : 8 ≤ n ↔ k < 16777216) (h2 : 16 ≤ n ↔ k < 65536) (h3 : 24 ≤ n ↔ k < 256) (h4 : 32 ≤ n ↔ k = 0) : ∃ n : Nat, n ≤ 32 ∧ r = nI n ∧ (8 ≤ n ↔ k < 16777216) ∧ (16 ≤ n ↔ k < 65536) ∧ (24 ≤ n ↔ k < 256) ∧ (32 ≤ n ↔ k = 0) := ⟨n, h, hr, h1, h2, h3, h4⟩
theorem kf_neg {i : Int32} (h : i < 0) : 2147483648 ≤ i.toBitVec.toNat := by
  have h1 : i.toInt < 0 := by
    have := Int32.lt_iff_toInt_lt.mp h
    simpa using this
  have h2 : i.toInt = i.toBitVec.toInt := rfl
  have h3 := i.toBitVec.isLt
  rw [h2, BitVec.toInt_eq_toNat_bmod] at h1
  simp only [Int.bmod_def] at h1
  omega

set_option maxHeartbeats 4000000 in
set_option maxRecDepth 100000 in
theorem c_J6_numberOfLeadingZeros_0f7a4 (l : Launch) (i : Int32) : Met l yJ6_numberOfLeadingZeros_0f7a4 wsJ6_numberOfLeadingZeros_0f7a4 { frames := 0, cells := 0, slots := 0, locals := 0 } (kz_P0 [.int i]) (vp_Si (fun r => ∃ n : Nat, n ≤ 32 ∧ r = nI n ∧ (8 ≤ n ↔ i.toBitVec.toNat < 16777216) ∧ (16 ≤ n ↔ i.toBitVec.toNat < 65536) ∧ (24 ≤ n ↔ i.toBitVec.toNat < 256) ∧ (32 ≤ n ↔ i.toBitVec.toNat = 0))) 0 0 (fun _ => False) := by
  refine Met.ofW (cc := cJ6_numberOfLeadingZeros_0f7a4) (maxL := 2) (ret := (some .int)) (by decide) rfl ?_
  intro p e s m args below meth c s₁ B hml hv
  obtain ⟨rfl, -⟩ := hv
  have hx := B.exec
  have hb := B.bytes
  have hr := B.returns
  have hts := atoms_spec (ws := wsJ6_numberOfLeadingZeros_0f7a4) B.pre
  have hown : s.vm.findClass RJ6 = some m.cls := findClass_of_methodNamed B.named
  have hlocks := B.notSynchronized
  have hl := lv_entry ([.int i]) (n := 2) (Nat.le_of_ble_eq_true rfl)
  rw [lg_entry_eq]
  generalize (lg_sl ([.int i]) ++ List.replicate (2 - (lg_sl ([.int i])).length) Slot.unset).toArray = ls at hl ⊢
  have hl : lv_has ls 2 [(0, .int i)] := hl
  refine lv_iload_n hx hb dJ6_numberOfLeadingZeros_0f7a4_0 rfl (lv_at hl 0 rfl) ?_
  refine lv_if_gt (tgt := 15) hx hb dJ6_numberOfLeadingZeros_0f7a4_1 (by decide) (fun c_1 => ?_) (fun c_1 => ?_)
  · obtain ⟨k, hk, rfl⟩ := nI_of (x := i) (fun h => absurd c_1 (Int32.lt_asymm h))
    have hk0 : 0 < k := by
      rcases Nat.eq_zero_or_pos k with h | h
      · subst h; exact absurd c_1 (by decide)
      · exact h
    refine lv_bipush (v := 31) hx hb dJ6_numberOfLeadingZeros_0f7a4_15 (by decide) ?_
    refine lv_istore_n (lv' := [(1, .int 31), (0, .int (nI k))]) hx hb dJ6_numberOfLeadingZeros_0f7a4_17 rfl hl (by decide) rfl (fun ls hl => ?_)
    refine lv_iload_n hx hb dJ6_numberOfLeadingZeros_0f7a4_18 rfl (lv_at hl 1 rfl) ?_
    refine lv_ldcw (v := 65536) hx hb hown (hts (.constant RJ6 264 65536) (by decide +kernel)) dJ6_numberOfLeadingZeros_0f7a4_19 ?_
    refine lv_icmp_lt (tgt := 33) hx hb dJ6_numberOfLeadingZeros_0f7a4_22 (by decide) (fun c_2 => ?_) (fun c_2 => ?_)
    · have kc_2 : k < 65536 := (nI_ltI (b := 65536) (by omega) (by decide)).mp c_2
      refine lv_iload_n hx hb dJ6_numberOfLeadingZeros_0f7a4_33 rfl (lv_at hl 1 rfl) ?_
      refine lv_sipush (v := 256) hx hb dJ6_numberOfLeadingZeros_0f7a4_34 (by decide) ?_
      refine lv_icmp_lt (tgt := 48) hx hb dJ6_numberOfLeadingZeros_0f7a4_37 (by decide) (fun c_3 => ?_) (fun c_3 => ?_)
      · have kc_3 : k < 256 := (nI_ltI (b := 256) (by omega) (by decide)).mp c_3
        refine lv_iload_n hx hb dJ6_numberOfLeadingZeros_0f7a4_48 rfl (lv_at hl 1 rfl) ?_
        refine lv_bipush (v := 16) hx hb dJ6_numberOfLeadingZeros_0f7a4_49 (by decide) ?_
        refine lv_icmp_lt (tgt := 61) hx hb dJ6_numberOfLeadingZeros_0f7a4_51 (by decide) (fun c_4 => ?_) (fun c_4 => ?_)
        · have kc_4 : k < 16 := (nI_ltI (b := 16) (by omega) (by decide)).mp c_4
          refine lv_iload_n hx hb dJ6_numberOfLeadingZeros_0f7a4_61 rfl (lv_at hl 1 rfl) ?_
          refine lv_iconst (v := 4) hx hb dJ6_numberOfLeadingZeros_0f7a4_62 (by decide) ?_
          refine lv_icmp_lt (tgt := 73) hx hb dJ6_numberOfLeadingZeros_0f7a4_63 (by decide) (fun c_5 => ?_) (fun c_5 => ?_)
          · have kc_5 : k < 4 := (nI_ltI (b := 4) (by omega) (by decide)).mp c_5
            refine lv_iload_n hx hb dJ6_numberOfLeadingZeros_0f7a4_73 rfl (lv_at hl 0 rfl) ?_
            refine lv_iload_n hx hb dJ6_numberOfLeadingZeros_0f7a4_74 rfl (lv_at hl 1 rfl) ?_
            refine lv_iconst (v := 1) hx hb dJ6_numberOfLeadingZeros_0f7a4_75 (by decide) ?_
            refine lv_iushr hx hb dJ6_numberOfLeadingZeros_0f7a4_76 rfl ?_
            refine kz_asi (y := nI (k / 2 ^ 1)) (pk_ushrN (n := k) (by omega) 1 1 (by decide)) ?_
            refine lv_isub hx hb dJ6_numberOfLeadingZeros_0f7a4_77 ?_
            exact W.iret (v := 31 - (nI (k / 2 ^ 1))) hx hb hr (fun t ht hW => ⟨_, rfl, by rw [pk_tn (by omega)]; exact kf_nz (n := 31 - (k / 2 ^ 1)) (by omega) (pk_sub (a := 31) (b := (k / 2 ^ 1)) (by omega)) (by omega) (by omega) (by omega) (by omega), ht⟩) (fun _ h => nomatch h) dJ6_numberOfLeadingZeros_0f7a4_78
          · have kc_5 : ¬ k < 4 := fun h => c_5 ((nI_ltI (b := 4) (by omega) (by decide)).mpr h)
            refine lv_iinc (v := nI 29) (lv' := [(1, .int (nI 29)), (0, .int (nI k))]) hx hb dJ6_numberOfLeadingZeros_0f7a4_66 hl (k := 0) rfl (by decide) (by decide) rfl (fun ls hl => ?_)
            refine lv_iload_n hx hb dJ6_numberOfLeadingZeros_0f7a4_69 rfl (lv_at hl 1 rfl) ?_
            refine lv_iconst (v := 2) hx hb dJ6_numberOfLeadingZeros_0f7a4_70 (by decide) ?_
            refine lv_iushr hx hb dJ6_numberOfLeadingZeros_0f7a4_71 rfl ?_
            refine kz_asi (y := nI (k / 2 ^ 2)) (pk_ushrN (n := k) (by omega) 2 2 (by decide)) ?_
            refine lv_istore_n (lv' := [(0, .int (nI (k / 2 ^ 2))), (1, .int (nI 29))]) hx hb dJ6_numberOfLeadingZeros_0f7a4_72 rfl hl (by decide) rfl (fun ls hl => ?_)
            refine lv_iload_n hx hb dJ6_numberOfLeadingZeros_0f7a4_73 rfl (lv_at hl 1 rfl) ?_
            refine lv_iload_n hx hb dJ6_numberOfLeadingZeros_0f7a4_74 rfl (lv_at hl 0 rfl) ?_
            refine lv_iconst (v := 1) hx hb dJ6_numberOfLeadingZeros_0f7a4_75 (by decide) ?_
            refine lv_iushr hx hb dJ6_numberOfLeadingZeros_0f7a4_76 rfl ?_
            refine kz_asi (y := nI ((k / 2 ^ 2) / 2 ^ 1)) (pk_ushrN (n := (k / 2 ^ 2)) (by omega) 1 1 (by decide)) ?_
            refine lv_isub hx hb dJ6_numberOfLeadingZeros_0f7a4_77 ?_
            exact W.iret (v := (nI 29) - (nI ((k / 2 ^ 2) / 2 ^ 1))) hx hb hr (fun t ht hW => ⟨_, rfl, by rw [pk_tn (by omega)]; exact kf_nz (n := 29 - ((k / 2 ^ 2) / 2 ^ 1)) (by omega) (pk_sub (a := 29) (b := ((k / 2 ^ 2) / 2 ^ 1)) (by omega)) (by omega) (by omega) (by omega) (by omega), ht⟩) (fun _ h => nomatch h) dJ6_numberOfLeadingZeros_0f7a4_78
        · have kc_4 : ¬ k < 16 := fun h => c_4 ((nI_ltI (b := 16) (by omega) (by decide)).mpr h)
          refine lv_iinc (v := nI 27) (lv' := [(1, .int (nI 27)), (0, .int (nI k))]) hx hb dJ6_numberOfLeadingZeros_0f7a4_54 hl (k := 0) rfl (by decide) (by decide) rfl (fun ls hl => ?_)
          refine lv_iload_n hx hb dJ6_numberOfLeadingZeros_0f7a4_57 rfl (lv_at hl 1 rfl) ?_
          refine lv_iconst (v := 4) hx hb dJ6_numberOfLeadingZeros_0f7a4_58 (by decide) ?_
          refine lv_iushr hx hb dJ6_numberOfLeadingZeros_0f7a4_59 rfl ?_
          refine kz_asi (y := nI (k / 2 ^ 4)) (pk_ushrN (n := k) (by omega) 4 4 (by decide)) ?_
          refine lv_istore_n (lv' := [(0, .int (nI (k / 2 ^ 4))), (1, .int (nI 27))]) hx hb dJ6_numberOfLeadingZeros_0f7a4_60 rfl hl (by decide) rfl (fun ls hl => ?_)
          refine lv_iload_n hx hb dJ6_numberOfLeadingZeros_0f7a4_61 rfl (lv_at hl 0 rfl) ?_
          refine lv_iconst (v := 4) hx hb dJ6_numberOfLeadingZeros_0f7a4_62 (by decide) ?_
          refine lv_icmp_lt (tgt := 73) hx hb dJ6_numberOfLeadingZeros_0f7a4_63 (by decide) (fun c_6 => ?_) (fun c_6 => ?_)
          · have kc_6 : (k / 2 ^ 4) < 4 := (nI_ltI (b := 4) (by omega) (by decide)).mp c_6
            refine lv_iload_n hx hb dJ6_numberOfLeadingZeros_0f7a4_73 rfl (lv_at hl 1 rfl) ?_
            refine lv_iload_n hx hb dJ6_numberOfLeadingZeros_0f7a4_74 rfl (lv_at hl 0 rfl) ?_
            refine lv_iconst (v := 1) hx hb dJ6_numberOfLeadingZeros_0f7a4_75 (by decide) ?_
            refine lv_iushr hx hb dJ6_numberOfLeadingZeros_0f7a4_76 rfl ?_
            refine kz_asi (y := nI ((k / 2 ^ 4) / 2 ^ 1)) (pk_ushrN (n := (k / 2 ^ 4)) (by omega) 1 1 (by decide)) ?_
            refine lv_isub hx hb dJ6_numberOfLeadingZeros_0f7a4_77 ?_
            exact W.iret (v := (nI 27) - (nI ((k / 2 ^ 4) / 2 ^ 1))) hx hb hr (fun t ht hW => ⟨_, rfl, by rw [pk_tn (by omega)]; exact kf_nz (n := 27 - ((k / 2 ^ 4) / 2 ^ 1)) (by omega) (pk_sub (a := 27) (b := ((k / 2 ^ 4) / 2 ^ 1)) (by omega)) (by omega) (by omega) (by omega) (by omega), ht⟩) (fun _ h => nomatch h) dJ6_numberOfLeadingZeros_0f7a4_78
          · have kc_6 : ¬ (k / 2 ^ 4) < 4 := fun h => c_6 ((nI_ltI (b := 4) (by omega) (by decide)).mpr h)
            refine lv_iinc (v := nI 25) (lv' := [(1, .int (nI 25)), (0, .int (nI (k / 2 ^ 4)))]) hx hb dJ6_numberOfLeadingZeros_0f7a4_66 hl (k := 1) rfl (by decide) (by decide) rfl (fun ls hl => ?_)
            refine lv_iload_n hx hb dJ6_numberOfLeadingZeros_0f7a4_69 rfl (lv_at hl 1 rfl) ?_
            refine lv_iconst (v := 2) hx hb dJ6_numberOfLeadingZeros_0f7a4_70 (by decide) ?_
            refine lv_iushr hx hb dJ6_numberOfLeadingZeros_0f7a4_71 rfl ?_
            refine kz_asi (y := nI ((k / 2 ^ 4) / 2 ^ 2)) (pk_ushrN (n := (k / 2 ^ 4)) (by omega) 2 2 (by decide)) ?_
            refine lv_istore_n (lv' := [(0, .int (nI ((k / 2 ^ 4) / 2 ^ 2))), (1, .int (nI 25))]) hx hb dJ6_numberOfLeadingZeros_0f7a4_72 rfl hl (by decide) rfl (fun ls hl => ?_)
            refine lv_iload_n hx hb dJ6_numberOfLeadingZeros_0f7a4_73 rfl (lv_at hl 1 rfl) ?_
            refine lv_iload_n hx hb dJ6_numberOfLeadingZeros_0f7a4_74 rfl (lv_at hl 0 rfl) ?_
            refine lv_iconst (v := 1) hx hb dJ6_numberOfLeadingZeros_0f7a4_75 (by decide) ?_
            refine lv_iushr hx hb dJ6_numberOfLeadingZeros_0f7a4_76 rfl ?_
            refine kz_asi (y := nI (((k / 2 ^ 4) / 2 ^ 2) / 2 ^ 1)) (pk_ushrN (n := ((k / 2 ^ 4) / 2 ^ 2)) (by omega) 1 1 (by decide)) ?_
            refine lv_isub hx hb dJ6_numberOfLeadingZeros_0f7a4_77 ?_
            exact W.iret (v := (nI 25) - (nI (((k / 2 ^ 4) / 2 ^ 2) / 2 ^ 1))) hx hb hr (fun t ht hW => ⟨_, rfl, by rw [pk_tn (by omega)]; exact kf_nz (n := 25 - (((k / 2 ^ 4) / 2 ^ 2) / 2 ^ 1)) (by omega) (pk_sub (a := 25) (b := (((k / 2 ^ 4) / 2 ^ 2) / 2 ^ 1)) (by omega)) (by omega) (by omega) (by omega) (by omega), ht⟩) (fun _ h => nomatch h) dJ6_numberOfLeadingZeros_0f7a4_78
      · have kc_3 : ¬ k < 256 := fun h => c_3 ((nI_ltI (b := 256) (by omega) (by decide)).mpr h)
        refine lv_iinc (v := nI 23) (lv' := [(1, .int (nI 23)), (0, .int (nI k))]) hx hb dJ6_numberOfLeadingZeros_0f7a4_40 hl (k := 0) rfl (by decide) (by decide) rfl (fun ls hl => ?_)
        refine lv_iload_n hx hb dJ6_numberOfLeadingZeros_0f7a4_43 rfl (lv_at hl 1 rfl) ?_
        refine lv_bipush (v := 8) hx hb dJ6_numberOfLeadingZeros_0f7a4_44 (by decide) ?_
        refine lv_iushr hx hb dJ6_numberOfLeadingZeros_0f7a4_46 rfl ?_
        refine kz_asi (y := nI (k / 2 ^ 8)) (pk_ushrN (n := k) (by omega) 8 8 (by decide)) ?_
        refine lv_istore_n (lv' := [(0, .int (nI (k / 2 ^ 8))), (1, .int (nI 23))]) hx hb dJ6_numberOfLeadingZeros_0f7a4_47 rfl hl (by decide) rfl (fun ls hl => ?_)
        refine lv_iload_n hx hb dJ6_numberOfLeadingZeros_0f7a4_48 rfl (lv_at hl 0 rfl) ?_
        refine lv_bipush (v := 16) hx hb dJ6_numberOfLeadingZeros_0f7a4_49 (by decide) ?_
        refine lv_icmp_lt (tgt := 61) hx hb dJ6_numberOfLeadingZeros_0f7a4_51 (by decide) (fun c_7 => ?_) (fun c_7 => ?_)
        · have kc_7 : (k / 2 ^ 8) < 16 := (nI_ltI (b := 16) (by omega) (by decide)).mp c_7
          refine lv_iload_n hx hb dJ6_numberOfLeadingZeros_0f7a4_61 rfl (lv_at hl 0 rfl) ?_
          refine lv_iconst (v := 4) hx hb dJ6_numberOfLeadingZeros_0f7a4_62 (by decide) ?_
          refine lv_icmp_lt (tgt := 73) hx hb dJ6_numberOfLeadingZeros_0f7a4_63 (by decide) (fun c_8 => ?_) (fun c_8 => ?_)
          · have kc_8 : (k / 2 ^ 8) < 4 := (nI_ltI (b := 4) (by omega) (by decide)).mp c_8
            refine lv_iload_n hx hb dJ6_numberOfLeadingZeros_0f7a4_73 rfl (lv_at hl 1 rfl) ?_
            refine lv_iload_n hx hb dJ6_numberOfLeadingZeros_0f7a4_74 rfl (lv_at hl 0 rfl) ?_
            refine lv_iconst (v := 1) hx hb dJ6_numberOfLeadingZeros_0f7a4_75 (by decide) ?_
            refine lv_iushr hx hb dJ6_numberOfLeadingZeros_0f7a4_76 rfl ?_
            refine kz_asi (y := nI ((k / 2 ^ 8) / 2 ^ 1)) (pk_ushrN (n := (k / 2 ^ 8)) (by omega) 1 1 (by decide)) ?_
            refine lv_isub hx hb dJ6_numberOfLeadingZeros_0f7a4_77 ?_
            exact W.iret (v := (nI 23) - (nI ((k / 2 ^ 8) / 2 ^ 1))) hx hb hr (fun t ht hW => ⟨_, rfl, by rw [pk_tn (by omega)]; exact kf_nz (n := 23 - ((k / 2 ^ 8) / 2 ^ 1)) (by omega) (pk_sub (a := 23) (b := ((k / 2 ^ 8) / 2 ^ 1)) (by omega)) (by omega) (by omega) (by omega) (by omega), ht⟩) (fun _ h => nomatch h) dJ6_numberOfLeadingZeros_0f7a4_78
          · have kc_8 : ¬ (k / 2 ^ 8) < 4 := fun h => c_8 ((nI_ltI (b := 4) (by omega) (by decide)).mpr h)
            refine lv_iinc (v := nI 21) (lv' := [(1, .int (nI 21)), (0, .int (nI (k / 2 ^ 8)))]) hx hb dJ6_numberOfLeadingZeros_0f7a4_66 hl (k := 1) rfl (by decide) (by decide) rfl (fun ls hl => ?_)
            refine lv_iload_n hx hb dJ6_numberOfLeadingZeros_0f7a4_69 rfl (lv_at hl 1 rfl) ?_
            refine lv_iconst (v := 2) hx hb dJ6_numberOfLeadingZeros_0f7a4_70 (by decide) ?_
            refine lv_iushr hx hb dJ6_numberOfLeadingZeros_0f7a4_71 rfl ?_
            refine kz_asi (y := nI ((k / 2 ^ 8) / 2 ^ 2)) (pk_ushrN (n := (k / 2 ^ 8)) (by omega) 2 2 (by decide)) ?_
            refine lv_istore_n (lv' := [(0, .int (nI ((k / 2 ^ 8) / 2 ^ 2))), (1, .int (nI 21))]) hx hb dJ6_numberOfLeadingZeros_0f7a4_72 rfl hl (by decide) rfl (fun ls hl => ?_)
            refine lv_iload_n hx hb dJ6_numberOfLeadingZeros_0f7a4_73 rfl (lv_at hl 1 rfl) ?_
            refine lv_iload_n hx hb dJ6_numberOfLeadingZeros_0f7a4_74 rfl (lv_at hl 0 rfl) ?_
            refine lv_iconst (v := 1) hx hb dJ6_numberOfLeadingZeros_0f7a4_75 (by decide) ?_
            refine lv_iushr hx hb dJ6_numberOfLeadingZeros_0f7a4_76 rfl ?_
            refine kz_asi (y := nI (((k / 2 ^ 8) / 2 ^ 2) / 2 ^ 1)) (pk_ushrN (n := ((k / 2 ^ 8) / 2 ^ 2)) (by omega) 1 1 (by decide)) ?_
            refine lv_isub hx hb dJ6_numberOfLeadingZeros_0f7a4_77 ?_
            exact W.iret (v := (nI 21) - (nI (((k / 2 ^ 8) / 2 ^ 2) / 2 ^ 1))) hx hb hr (fun t ht hW => ⟨_, rfl, by rw [pk_tn (by omega)]; exact kf_nz (n := 21 - (((k / 2 ^ 8) / 2 ^ 2) / 2 ^ 1)) (by omega) (pk_sub (a := 21) (b := (((k / 2 ^ 8) / 2 ^ 2) / 2 ^ 1)) (by omega)) (by omega) (by omega) (by omega) (by omega), ht⟩) (fun _ h => nomatch h) dJ6_numberOfLeadingZeros_0f7a4_78
        · have kc_7 : ¬ (k / 2 ^ 8) < 16 := fun h => c_7 ((nI_ltI (b := 16) (by omega) (by decide)).mpr h)
          refine lv_iinc (v := nI 19) (lv' := [(1, .int (nI 19)), (0, .int (nI (k / 2 ^ 8)))]) hx hb dJ6_numberOfLeadingZeros_0f7a4_54 hl (k := 1) rfl (by decide) (by decide) rfl (fun ls hl => ?_)
          refine lv_iload_n hx hb dJ6_numberOfLeadingZeros_0f7a4_57 rfl (lv_at hl 1 rfl) ?_
          refine lv_iconst (v := 4) hx hb dJ6_numberOfLeadingZeros_0f7a4_58 (by decide) ?_
          refine lv_iushr hx hb dJ6_numberOfLeadingZeros_0f7a4_59 rfl ?_
          refine kz_asi (y := nI ((k / 2 ^ 8) / 2 ^ 4)) (pk_ushrN (n := (k / 2 ^ 8)) (by omega) 4 4 (by decide)) ?_
          refine lv_istore_n (lv' := [(0, .int (nI ((k / 2 ^ 8) / 2 ^ 4))), (1, .int (nI 19))]) hx hb dJ6_numberOfLeadingZeros_0f7a4_60 rfl hl (by decide) rfl (fun ls hl => ?_)
          refine lv_iload_n hx hb dJ6_numberOfLeadingZeros_0f7a4_61 rfl (lv_at hl 0 rfl) ?_
          refine lv_iconst (v := 4) hx hb dJ6_numberOfLeadingZeros_0f7a4_62 (by decide) ?_
          refine lv_icmp_lt (tgt := 73) hx hb dJ6_numberOfLeadingZeros_0f7a4_63 (by decide) (fun c_9 => ?_) (fun c_9 => ?_)
          · have kc_9 : ((k / 2 ^ 8) / 2 ^ 4) < 4 := (nI_ltI (b := 4) (by omega) (by decide)).mp c_9
            refine lv_iload_n hx hb dJ6_numberOfLeadingZeros_0f7a4_73 rfl (lv_at hl 1 rfl) ?_
            refine lv_iload_n hx hb dJ6_numberOfLeadingZeros_0f7a4_74 rfl (lv_at hl 0 rfl) ?_
            refine lv_iconst (v := 1) hx hb dJ6_numberOfLeadingZeros_0f7a4_75 (by decide) ?_
            refine lv_iushr hx hb dJ6_numberOfLeadingZeros_0f7a4_76 rfl ?_
            refine kz_asi (y := nI (((k / 2 ^ 8) / 2 ^ 4) / 2 ^ 1)) (pk_ushrN (n := ((k / 2 ^ 8) / 2 ^ 4)) (by omega) 1 1 (by decide)) ?_
            refine lv_isub hx hb dJ6_numberOfLeadingZeros_0f7a4_77 ?_
            exact W.iret (v := (nI 19) - (nI (((k / 2 ^ 8) / 2 ^ 4) / 2 ^ 1))) hx hb hr (fun t ht hW => ⟨_, rfl, by rw [pk_tn (by omega)]; exact kf_nz (n := 19 - (((k / 2 ^ 8) / 2 ^ 4) / 2 ^ 1)) (by omega) (pk_sub (a := 19) (b := (((k / 2 ^ 8) / 2 ^ 4) / 2 ^ 1)) (by omega)) (by omega) (by omega) (by omega) (by omega), ht⟩) (fun _ h => nomatch h) dJ6_numberOfLeadingZeros_0f7a4_78
          · have kc_9 : ¬ ((k / 2 ^ 8) / 2 ^ 4) < 4 := fun h => c_9 ((nI_ltI (b := 4) (by omega) (by decide)).mpr h)
            refine lv_iinc (v := nI 17) (lv' := [(1, .int (nI 17)), (0, .int (nI ((k / 2 ^ 8) / 2 ^ 4)))]) hx hb dJ6_numberOfLeadingZeros_0f7a4_66 hl (k := 1) rfl (by decide) (by decide) rfl (fun ls hl => ?_)
            refine lv_iload_n hx hb dJ6_numberOfLeadingZeros_0f7a4_69 rfl (lv_at hl 1 rfl) ?_
            refine lv_iconst (v := 2) hx hb dJ6_numberOfLeadingZeros_0f7a4_70 (by decide) ?_
            refine lv_iushr hx hb dJ6_numberOfLeadingZeros_0f7a4_71 rfl ?_
            refine kz_asi (y := nI (((k / 2 ^ 8) / 2 ^ 4) / 2 ^ 2)) (pk_ushrN (n := ((k / 2 ^ 8) / 2 ^ 4)) (by omega) 2 2 (by decide)) ?_
            refine lv_istore_n (lv' := [(0, .int (nI (((k / 2 ^ 8) / 2 ^ 4) / 2 ^ 2))), (1, .int (nI 17))]) hx hb dJ6_numberOfLeadingZeros_0f7a4_72 rfl hl (by decide) rfl (fun ls hl => ?_)
            refine lv_iload_n hx hb dJ6_numberOfLeadingZeros_0f7a4_73 rfl (lv_at hl 1 rfl) ?_
            refine lv_iload_n hx hb dJ6_numberOfLeadingZeros_0f7a4_74 rfl (lv_at hl 0 rfl) ?_
            refine lv_iconst (v := 1) hx hb dJ6_numberOfLeadingZeros_0f7a4_75 (by decide) ?_
            refine lv_iushr hx hb dJ6_numberOfLeadingZeros_0f7a4_76 rfl ?_
            refine kz_asi (y := nI ((((k / 2 ^ 8) / 2 ^ 4) / 2 ^ 2) / 2 ^ 1)) (pk_ushrN (n := (((k / 2 ^ 8) / 2 ^ 4) / 2 ^ 2)) (by omega) 1 1 (by decide)) ?_
            refine lv_isub hx hb dJ6_numberOfLeadingZeros_0f7a4_77 ?_
            exact W.iret (v := (nI 17) - (nI ((((k / 2 ^ 8) / 2 ^ 4) / 2 ^ 2) / 2 ^ 1))) hx hb hr (fun t ht hW => ⟨_, rfl, by rw [pk_tn (by omega)]; exact kf_nz (n := 17 - ((((k / 2 ^ 8) / 2 ^ 4) / 2 ^ 2) / 2 ^ 1)) (by omega) (pk_sub (a := 17) (b := ((((k / 2 ^ 8) / 2 ^ 4) / 2 ^ 2) / 2 ^ 1)) (by omega)) (by omega) (by omega) (by omega) (by omega), ht⟩) (fun _ h => nomatch h) dJ6_numberOfLeadingZeros_0f7a4_78
    · have kc_2 : ¬ k < 65536 := fun h => c_2 ((nI_ltI (b := 65536) (by omega) (by decide)).mpr h)
      refine lv_iinc (v := nI 15) (lv' := [(1, .int (nI 15)), (0, .int (nI k))]) hx hb dJ6_numberOfLeadingZeros_0f7a4_25 hl (k := 0) rfl (by decide) (by decide) rfl (fun ls hl => ?_)
      refine lv_iload_n hx hb dJ6_numberOfLeadingZeros_0f7a4_28 rfl (lv_at hl 1 rfl) ?_
      refine lv_bipush (v := 16) hx hb dJ6_numberOfLeadingZeros_0f7a4_29 (by decide) ?_
      refine lv_iushr hx hb dJ6_numberOfLeadingZeros_0f7a4_31 rfl ?_
      refine kz_asi (y := nI (k / 2 ^ 16)) (pk_ushrN (n := k) (by omega) 16 16 (by decide)) ?_
      refine lv_istore_n (lv' := [(0, .int (nI (k / 2 ^ 16))), (1, .int (nI 15))]) hx hb dJ6_numberOfLeadingZeros_0f7a4_32 rfl hl (by decide) rfl (fun ls hl => ?_)
      refine lv_iload_n hx hb dJ6_numberOfLeadingZeros_0f7a4_33 rfl (lv_at hl 0 rfl) ?_
      refine lv_sipush (v := 256) hx hb dJ6_numberOfLeadingZeros_0f7a4_34 (by decide) ?_
      refine lv_icmp_lt (tgt := 48) hx hb dJ6_numberOfLeadingZeros_0f7a4_37 (by decide) (fun c_10 => ?_) (fun c_10 => ?_)
      · have kc_10 : (k / 2 ^ 16) < 256 := (nI_ltI (b := 256) (by omega) (by decide)).mp c_10
        refine lv_iload_n hx hb dJ6_numberOfLeadingZeros_0f7a4_48 rfl (lv_at hl 0 rfl) ?_
        refine lv_bipush (v := 16) hx hb dJ6_numberOfLeadingZeros_0f7a4_49 (by decide) ?_
        refine lv_icmp_lt (tgt := 61) hx hb dJ6_numberOfLeadingZeros_0f7a4_51 (by decide) (fun c_11 => ?_) (fun c_11 => ?_)
        · have kc_11 : (k / 2 ^ 16) < 16 := (nI_ltI (b := 16) (by omega) (by decide)).mp c_11
          refine lv_iload_n hx hb dJ6_numberOfLeadingZeros_0f7a4_61 rfl (lv_at hl 0 rfl) ?_
          refine lv_iconst (v := 4) hx hb dJ6_numberOfLeadingZeros_0f7a4_62 (by decide) ?_
          refine lv_icmp_lt (tgt := 73) hx hb dJ6_numberOfLeadingZeros_0f7a4_63 (by decide) (fun c_12 => ?_) (fun c_12 => ?_)
          · have kc_12 : (k / 2 ^ 16) < 4 := (nI_ltI (b := 4) (by omega) (by decide)).mp c_12
            refine lv_iload_n hx hb dJ6_numberOfLeadingZeros_0f7a4_73 rfl (lv_at hl 1 rfl) ?_
            refine lv_iload_n hx hb dJ6_numberOfLeadingZeros_0f7a4_74 rfl (lv_at hl 0 rfl) ?_
            refine lv_iconst (v := 1) hx hb dJ6_numberOfLeadingZeros_0f7a4_75 (by decide) ?_
            refine lv_iushr hx hb dJ6_numberOfLeadingZeros_0f7a4_76 rfl ?_
            refine kz_asi (y := nI ((k / 2 ^ 16) / 2 ^ 1)) (pk_ushrN (n := (k / 2 ^ 16)) (by omega) 1 1 (by decide)) ?_
            refine lv_isub hx hb dJ6_numberOfLeadingZeros_0f7a4_77 ?_
            exact W.iret (v := (nI 15) - (nI ((k / 2 ^ 16) / 2 ^ 1))) hx hb hr (fun t ht hW => ⟨_, rfl, by rw [pk_tn (by omega)]; exact kf_nz (n := 15 - ((k / 2 ^ 16) / 2 ^ 1)) (by omega) (pk_sub (a := 15) (b := ((k / 2 ^ 16) / 2 ^ 1)) (by omega)) (by omega) (by omega) (by omega) (by omega), ht⟩) (fun _ h => nomatch h) dJ6_numberOfLeadingZeros_0f7a4_78
          · have kc_12 : ¬ (k / 2 ^ 16) < 4 := fun h => c_12 ((nI_ltI (b := 4) (by omega) (by decide)).mpr h)
            refine lv_iinc (v := nI 13) (lv' := [(1, .int (nI 13)), (0, .int (nI (k / 2 ^ 16)))]) hx hb dJ6_numberOfLeadingZeros_0f7a4_66 hl (k := 1) rfl (by decide) (by decide) rfl (fun ls hl => ?_)
            refine lv_iload_n hx hb dJ6_numberOfLeadingZeros_0f7a4_69 rfl (lv_at hl 1 rfl) ?_
            refine lv_iconst (v := 2) hx hb dJ6_numberOfLeadingZeros_0f7a4_70 (by decide) ?_
            refine lv_iushr hx hb dJ6_numberOfLeadingZeros_0f7a4_71 rfl ?_
            refine kz_asi (y := nI ((k / 2 ^ 16) / 2 ^ 2)) (pk_ushrN (n := (k / 2 ^ 16)) (by omega) 2 2 (by decide)) ?_
            refine lv_istore_n (lv' := [(0, .int (nI ((k / 2 ^ 16) / 2 ^ 2))), (1, .int (nI 13))]) hx hb dJ6_numberOfLeadingZeros_0f7a4_72 rfl hl (by decide) rfl (fun ls hl => ?_)
            refine lv_iload_n hx hb dJ6_numberOfLeadingZeros_0f7a4_73 rfl (lv_at hl 1 rfl) ?_
            refine lv_iload_n hx hb dJ6_numberOfLeadingZeros_0f7a4_74 rfl (lv_at hl 0 rfl) ?_
            refine lv_iconst (v := 1) hx hb dJ6_numberOfLeadingZeros_0f7a4_75 (by decide) ?_
            refine lv_iushr hx hb dJ6_numberOfLeadingZeros_0f7a4_76 rfl ?_
            refine kz_asi (y := nI (((k / 2 ^ 16) / 2 ^ 2) / 2 ^ 1)) (pk_ushrN (n := ((k / 2 ^ 16) / 2 ^ 2)) (by omega) 1 1 (by decide)) ?_
            refine lv_isub hx hb dJ6_numberOfLeadingZeros_0f7a4_77 ?_
            exact W.iret (v := (nI 13) - (nI (((k / 2 ^ 16) / 2 ^ 2) / 2 ^ 1))) hx hb hr (fun t ht hW => ⟨_, rfl, by rw [pk_tn (by omega)]; exact kf_nz (n := 13 - (((k / 2 ^ 16) / 2 ^ 2) / 2 ^ 1)) (by omega) (pk_sub (a := 13) (b := (((k / 2 ^ 16) / 2 ^ 2) / 2 ^ 1)) (by omega)) (by omega) (by omega) (by omega) (by omega), ht⟩) (fun _ h => nomatch h) dJ6_numberOfLeadingZeros_0f7a4_78
        · have kc_11 : ¬ (k / 2 ^ 16) < 16 := fun h => c_11 ((nI_ltI (b := 16) (by omega) (by decide)).mpr h)
          refine lv_iinc (v := nI 11) (lv' := [(1, .int (nI 11)), (0, .int (nI (k / 2 ^ 16)))]) hx hb dJ6_numberOfLeadingZeros_0f7a4_54 hl (k := 1) rfl (by decide) (by decide) rfl (fun ls hl => ?_)
          refine lv_iload_n hx hb dJ6_numberOfLeadingZeros_0f7a4_57 rfl (lv_at hl 1 rfl) ?_
          refine lv_iconst (v := 4) hx hb dJ6_numberOfLeadingZeros_0f7a4_58 (by decide) ?_
          refine lv_iushr hx hb dJ6_numberOfLeadingZeros_0f7a4_59 rfl ?_
          refine kz_asi (y := nI ((k / 2 ^ 16) / 2 ^ 4)) (pk_ushrN (n := (k / 2 ^ 16)) (by omega) 4 4 (by decide)) ?_
          refine lv_istore_n (lv' := [(0, .int (nI ((k / 2 ^ 16) / 2 ^ 4))), (1, .int (nI 11))]) hx hb dJ6_numberOfLeadingZeros_0f7a4_60 rfl hl (by decide) rfl (fun ls hl => ?_)
          refine lv_iload_n hx hb dJ6_numberOfLeadingZeros_0f7a4_61 rfl (lv_at hl 0 rfl) ?_
          refine lv_iconst (v := 4) hx hb dJ6_numberOfLeadingZeros_0f7a4_62 (by decide) ?_
          refine lv_icmp_lt (tgt := 73) hx hb dJ6_numberOfLeadingZeros_0f7a4_63 (by decide) (fun c_13 => ?_) (fun c_13 => ?_)
          · have kc_13 : ((k / 2 ^ 16) / 2 ^ 4) < 4 := (nI_ltI (b := 4) (by omega) (by decide)).mp c_13
            refine lv_iload_n hx hb dJ6_numberOfLeadingZeros_0f7a4_73 rfl (lv_at hl 1 rfl) ?_
            refine lv_iload_n hx hb dJ6_numberOfLeadingZeros_0f7a4_74 rfl (lv_at hl 0 rfl) ?_
            refine lv_iconst (v := 1) hx hb dJ6_numberOfLeadingZeros_0f7a4_75 (by decide) ?_
            refine lv_iushr hx hb dJ6_numberOfLeadingZeros_0f7a4_76 rfl ?_
            refine kz_asi (y := nI (((k / 2 ^ 16) / 2 ^ 4) / 2 ^ 1)) (pk_ushrN (n := ((k / 2 ^ 16) / 2 ^ 4)) (by omega) 1 1 (by decide)) ?_
            refine lv_isub hx hb dJ6_numberOfLeadingZeros_0f7a4_77 ?_
            exact W.iret (v := (nI 11) - (nI (((k / 2 ^ 16) / 2 ^ 4) / 2 ^ 1))) hx hb hr (fun t ht hW => ⟨_, rfl, by rw [pk_tn (by omega)]; exact kf_nz (n := 11 - (((k / 2 ^ 16) / 2 ^ 4) / 2 ^ 1)) (by omega) (pk_sub (a := 11) (b := (((k / 2 ^ 16) / 2 ^ 4) / 2 ^ 1)) (by omega)) (by omega) (by omega) (by omega) (by omega), ht⟩) (fun _ h => nomatch h) dJ6_numberOfLeadingZeros_0f7a4_78
          · have kc_13 : ¬ ((k / 2 ^ 16) / 2 ^ 4) < 4 := fun h => c_13 ((nI_ltI (b := 4) (by omega) (by decide)).mpr h)
            refine lv_iinc (v := nI 9) (lv' := [(1, .int (nI 9)), (0, .int (nI ((k / 2 ^ 16) / 2 ^ 4)))]) hx hb dJ6_numberOfLeadingZeros_0f7a4_66 hl (k := 1) rfl (by decide) (by decide) rfl (fun ls hl => ?_)
            refine lv_iload_n hx hb dJ6_numberOfLeadingZeros_0f7a4_69 rfl (lv_at hl 1 rfl) ?_
            refine lv_iconst (v := 2) hx hb dJ6_numberOfLeadingZeros_0f7a4_70 (by decide) ?_
            refine lv_iushr hx hb dJ6_numberOfLeadingZeros_0f7a4_71 rfl ?_
            refine kz_asi (y := nI (((k / 2 ^ 16) / 2 ^ 4) / 2 ^ 2)) (pk_ushrN (n := ((k / 2 ^ 16) / 2 ^ 4)) (by omega) 2 2 (by decide)) ?_
            refine lv_istore_n (lv' := [(0, .int (nI (((k / 2 ^ 16) / 2 ^ 4) / 2 ^ 2))), (1, .int (nI 9))]) hx hb dJ6_numberOfLeadingZeros_0f7a4_72 rfl hl (by decide) rfl (fun ls hl => ?_)
            refine lv_iload_n hx hb dJ6_numberOfLeadingZeros_0f7a4_73 rfl (lv_at hl 1 rfl) ?_
            refine lv_iload_n hx hb dJ6_numberOfLeadingZeros_0f7a4_74 rfl (lv_at hl 0 rfl) ?_
            refine lv_iconst (v := 1) hx hb dJ6_numberOfLeadingZeros_0f7a4_75 (by decide) ?_
            refine lv_iushr hx hb dJ6_numberOfLeadingZeros_0f7a4_76 rfl ?_
            refine kz_asi (y := nI ((((k / 2 ^ 16) / 2 ^ 4) / 2 ^ 2) / 2 ^ 1)) (pk_ushrN (n := (((k / 2 ^ 16) / 2 ^ 4) / 2 ^ 2)) (by omega) 1 1 (by decide)) ?_
            refine lv_isub hx hb dJ6_numberOfLeadingZeros_0f7a4_77 ?_
            exact W.iret (v := (nI 9) - (nI ((((k / 2 ^ 16) / 2 ^ 4) / 2 ^ 2) / 2 ^ 1))) hx hb hr (fun t ht hW => ⟨_, rfl, by rw [pk_tn (by omega)]; exact kf_nz (n := 9 - ((((k / 2 ^ 16) / 2 ^ 4) / 2 ^ 2) / 2 ^ 1)) (by omega) (pk_sub (a := 9) (b := ((((k / 2 ^ 16) / 2 ^ 4) / 2 ^ 2) / 2 ^ 1)) (by omega)) (by omega) (by omega) (by omega) (by omega), ht⟩) (fun _ h => nomatch h) dJ6_numberOfLeadingZeros_0f7a4_78
      · have kc_10 : ¬ (k / 2 ^ 16) < 256 := fun h => c_10 ((nI_ltI (b := 256) (by omega) (by decide)).mpr h)
        refine lv_iinc (v := nI 7) (lv' := [(1, .int (nI 7)), (0, .int (nI (k / 2 ^ 16)))]) hx hb dJ6_numberOfLeadingZeros_0f7a4_40 hl (k := 1) rfl (by decide) (by decide) rfl (fun ls hl => ?_)
        refine lv_iload_n hx hb dJ6_numberOfLeadingZeros_0f7a4_43 rfl (lv_at hl 1 rfl) ?_
        refine lv_bipush (v := 8) hx hb dJ6_numberOfLeadingZeros_0f7a4_44 (by decide) ?_
        refine lv_iushr hx hb dJ6_numberOfLeadingZeros_0f7a4_46 rfl ?_
        refine kz_asi (y := nI ((k / 2 ^ 16) / 2 ^ 8)) (pk_ushrN (n := (k / 2 ^ 16)) (by omega) 8 8 (by decide)) ?_
        refine lv_istore_n (lv' := [(0, .int (nI ((k / 2 ^ 16) / 2 ^ 8))), (1, .int (nI 7))]) hx hb dJ6_numberOfLeadingZeros_0f7a4_47 rfl hl (by decide) rfl (fun ls hl => ?_)
        refine lv_iload_n hx hb dJ6_numberOfLeadingZeros_0f7a4_48 rfl (lv_at hl 0 rfl) ?_
        refine lv_bipush (v := 16) hx hb dJ6_numberOfLeadingZeros_0f7a4_49 (by decide) ?_
        refine lv_icmp_lt (tgt := 61) hx hb dJ6_numberOfLeadingZeros_0f7a4_51 (by decide) (fun c_14 => ?_) (fun c_14 => ?_)
        · have kc_14 : ((k / 2 ^ 16) / 2 ^ 8) < 16 := (nI_ltI (b := 16) (by omega) (by decide)).mp c_14
          refine lv_iload_n hx hb dJ6_numberOfLeadingZeros_0f7a4_61 rfl (lv_at hl 0 rfl) ?_
          refine lv_iconst (v := 4) hx hb dJ6_numberOfLeadingZeros_0f7a4_62 (by decide) ?_
          refine lv_icmp_lt (tgt := 73) hx hb dJ6_numberOfLeadingZeros_0f7a4_63 (by decide) (fun c_15 => ?_) (fun c_15 => ?_)
          · have kc_15 : ((k / 2 ^ 16) / 2 ^ 8) < 4 := (nI_ltI (b := 4) (by omega) (by decide)).mp c_15
            refine lv_iload_n hx hb dJ6_numberOfLeadingZeros_0f7a4_73 rfl (lv_at hl 1 rfl) ?_
            refine lv_iload_n hx hb dJ6_numberOfLeadingZeros_0f7a4_74 rfl (lv_at hl 0 rfl) ?_
            refine lv_iconst (v := 1) hx hb dJ6_numberOfLeadingZeros_0f7a4_75 (by decide) ?_
            refine lv_iushr hx hb dJ6_numberOfLeadingZeros_0f7a4_76 rfl ?_
            refine kz_asi (y := nI (((k / 2 ^ 16) / 2 ^ 8) / 2 ^ 1)) (pk_ushrN (n := ((k / 2 ^ 16) / 2 ^ 8)) (by omega) 1 1 (by decide)) ?_
            refine lv_isub hx hb dJ6_numberOfLeadingZeros_0f7a4_77 ?_
            exact W.iret (v := (nI 7) - (nI (((k / 2 ^ 16) / 2 ^ 8) / 2 ^ 1))) hx hb hr (fun t ht hW => ⟨_, rfl, by rw [pk_tn (by omega)]; exact kf_nz (n := 7 - (((k / 2 ^ 16) / 2 ^ 8) / 2 ^ 1)) (by omega) (pk_sub (a := 7) (b := (((k / 2 ^ 16) / 2 ^ 8) / 2 ^ 1)) (by omega)) (by omega) (by omega) (by omega) (by omega), ht⟩) (fun _ h => nomatch h) dJ6_numberOfLeadingZeros_0f7a4_78
          · have kc_15 : ¬ ((k / 2 ^ 16) / 2 ^ 8) < 4 := fun h => c_15 ((nI_ltI (b := 4) (by omega) (by decide)).mpr h)
            refine lv_iinc (v := nI 5) (lv' := [(1, .int (nI 5)), (0, .int (nI ((k / 2 ^ 16) / 2 ^ 8)))]) hx hb dJ6_numberOfLeadingZeros_0f7a4_66 hl (k := 1) rfl (by decide) (by decide) rfl (fun ls hl => ?_)
            refine lv_iload_n hx hb dJ6_numberOfLeadingZeros_0f7a4_69 rfl (lv_at hl 1 rfl) ?_
            refine lv_iconst (v := 2) hx hb dJ6_numberOfLeadingZeros_0f7a4_70 (by decide) ?_
            refine lv_iushr hx hb dJ6_numberOfLeadingZeros_0f7a4_71 rfl ?_
            refine kz_asi (y := nI (((k / 2 ^ 16) / 2 ^ 8) / 2 ^ 2)) (pk_ushrN (n := ((k / 2 ^ 16) / 2 ^ 8)) (by omega) 2 2 (by decide)) ?_
            refine lv_istore_n (lv' := [(0, .int (nI (((k / 2 ^ 16) / 2 ^ 8) / 2 ^ 2))), (1, .int (nI 5))]) hx hb dJ6_numberOfLeadingZeros_0f7a4_72 rfl hl (by decide) rfl (fun ls hl => ?_)
            refine lv_iload_n hx hb dJ6_numberOfLeadingZeros_0f7a4_73 rfl (lv_at hl 1 rfl) ?_
            refine lv_iload_n hx hb dJ6_numberOfLeadingZeros_0f7a4_74 rfl (lv_at hl 0 rfl) ?_
            refine lv_iconst (v := 1) hx hb dJ6_numberOfLeadingZeros_0f7a4_75 (by decide) ?_
            refine lv_iushr hx hb dJ6_numberOfLeadingZeros_0f7a4_76 rfl ?_
            refine kz_asi (y := nI ((((k / 2 ^ 16) / 2 ^ 8) / 2 ^ 2) / 2 ^ 1)) (pk_ushrN (n := (((k / 2 ^ 16) / 2 ^ 8) / 2 ^ 2)) (by omega) 1 1 (by decide)) ?_
            refine lv_isub hx hb dJ6_numberOfLeadingZeros_0f7a4_77 ?_
            exact W.iret (v := (nI 5) - (nI ((((k / 2 ^ 16) / 2 ^ 8) / 2 ^ 2) / 2 ^ 1))) hx hb hr (fun t ht hW => ⟨_, rfl, by rw [pk_tn (by omega)]; exact kf_nz (n := 5 - ((((k / 2 ^ 16) / 2 ^ 8) / 2 ^ 2) / 2 ^ 1)) (by omega) (pk_sub (a := 5) (b := ((((k / 2 ^ 16) / 2 ^ 8) / 2 ^ 2) / 2 ^ 1)) (by omega)) (by omega) (by omega) (by omega) (by omega), ht⟩) (fun _ h => nomatch h) dJ6_numberOfLeadingZeros_0f7a4_78
        · have kc_14 : ¬ ((k / 2 ^ 16) / 2 ^ 8) < 16 := fun h => c_14 ((nI_ltI (b := 16) (by omega) (by decide)).mpr h)
          refine lv_iinc (v := nI 3) (lv' := [(1, .int (nI 3)), (0, .int (nI ((k / 2 ^ 16) / 2 ^ 8)))]) hx hb dJ6_numberOfLeadingZeros_0f7a4_54 hl (k := 1) rfl (by decide) (by decide) rfl (fun ls hl => ?_)
          refine lv_iload_n hx hb dJ6_numberOfLeadingZeros_0f7a4_57 rfl (lv_at hl 1 rfl) ?_
          refine lv_iconst (v := 4) hx hb dJ6_numberOfLeadingZeros_0f7a4_58 (by decide) ?_
          refine lv_iushr hx hb dJ6_numberOfLeadingZeros_0f7a4_59 rfl ?_
          refine kz_asi (y := nI (((k / 2 ^ 16) / 2 ^ 8) / 2 ^ 4)) (pk_ushrN (n := ((k / 2 ^ 16) / 2 ^ 8)) (by omega) 4 4 (by decide)) ?_
          refine lv_istore_n (lv' := [(0, .int (nI (((k / 2 ^ 16) / 2 ^ 8) / 2 ^ 4))), (1, .int (nI 3))]) hx hb dJ6_numberOfLeadingZeros_0f7a4_60 rfl hl (by decide) rfl (fun ls hl => ?_)
          refine lv_iload_n hx hb dJ6_numberOfLeadingZeros_0f7a4_61 rfl (lv_at hl 0 rfl) ?_
          refine lv_iconst (v := 4) hx hb dJ6_numberOfLeadingZeros_0f7a4_62 (by decide) ?_
          refine lv_icmp_lt (tgt := 73) hx hb dJ6_numberOfLeadingZeros_0f7a4_63 (by decide) (fun c_16 => ?_) (fun c_16 => ?_)
          · have kc_16 : (((k / 2 ^ 16) / 2 ^ 8) / 2 ^ 4) < 4 := (nI_ltI (b := 4) (by omega) (by decide)).mp c_16
            refine lv_iload_n hx hb dJ6_numberOfLeadingZeros_0f7a4_73 rfl (lv_at hl 1 rfl) ?_
            refine lv_iload_n hx hb dJ6_numberOfLeadingZeros_0f7a4_74 rfl (lv_at hl 0 rfl) ?_
            refine lv_iconst (v := 1) hx hb dJ6_numberOfLeadingZeros_0f7a4_75 (by decide) ?_
            refine lv_iushr hx hb dJ6_numberOfLeadingZeros_0f7a4_76 rfl ?_
            refine kz_asi (y := nI ((((k / 2 ^ 16) / 2 ^ 8) / 2 ^ 4) / 2 ^ 1)) (pk_ushrN (n := (((k / 2 ^ 16) / 2 ^ 8) / 2 ^ 4)) (by omega) 1 1 (by decide)) ?_
            refine lv_isub hx hb dJ6_numberOfLeadingZeros_0f7a4_77 ?_
            exact W.iret (v := (nI 3) - (nI ((((k / 2 ^ 16) / 2 ^ 8) / 2 ^ 4) / 2 ^ 1))) hx hb hr (fun t ht hW => ⟨_, rfl, by rw [pk_tn (by omega)]; exact kf_nz (n := 3 - ((((k / 2 ^ 16) / 2 ^ 8) / 2 ^ 4) / 2 ^ 1)) (by omega) (pk_sub (a := 3) (b := ((((k / 2 ^ 16) / 2 ^ 8) / 2 ^ 4) / 2 ^ 1)) (by omega)) (by omega) (by omega) (by omega) (by omega), ht⟩) (fun _ h => nomatch h) dJ6_numberOfLeadingZeros_0f7a4_78
          · have kc_16 : ¬ (((k / 2 ^ 16) / 2 ^ 8) / 2 ^ 4) < 4 := fun h => c_16 ((nI_ltI (b := 4) (by omega) (by decide)).mpr h)
            refine lv_iinc (v := nI 1) (lv' := [(1, .int (nI 1)), (0, .int (nI (((k / 2 ^ 16) / 2 ^ 8) / 2 ^ 4)))]) hx hb dJ6_numberOfLeadingZeros_0f7a4_66 hl (k := 1) rfl (by decide) (by decide) rfl (fun ls hl => ?_)
            refine lv_iload_n hx hb dJ6_numberOfLeadingZeros_0f7a4_69 rfl (lv_at hl 1 rfl) ?_
            refine lv_iconst (v := 2) hx hb dJ6_numberOfLeadingZeros_0f7a4_70 (by decide) ?_
            refine lv_iushr hx hb dJ6_numberOfLeadingZeros_0f7a4_71 rfl ?_
            refine kz_asi (y := nI ((((k / 2 ^ 16) / 2 ^ 8) / 2 ^ 4) / 2 ^ 2)) (pk_ushrN (n := (((k / 2 ^ 16) / 2 ^ 8) / 2 ^ 4)) (by omega) 2 2 (by decide)) ?_
            refine lv_istore_n (lv' := [(0, .int (nI ((((k / 2 ^ 16) / 2 ^ 8) / 2 ^ 4) / 2 ^ 2))), (1, .int (nI 1))]) hx hb dJ6_numberOfLeadingZeros_0f7a4_72 rfl hl (by decide) rfl (fun ls hl => ?_)
            refine lv_iload_n hx hb dJ6_numberOfLeadingZeros_0f7a4_73 rfl (lv_at hl 1 rfl) ?_
            refine lv_iload_n hx hb dJ6_numberOfLeadingZeros_0f7a4_74 rfl (lv_at hl 0 rfl) ?_
            refine lv_iconst (v := 1) hx hb dJ6_numberOfLeadingZeros_0f7a4_75 (by decide) ?_
            refine lv_iushr hx hb dJ6_numberOfLeadingZeros_0f7a4_76 rfl ?_
            refine kz_asi (y := nI (((((k / 2 ^ 16) / 2 ^ 8) / 2 ^ 4) / 2 ^ 2) / 2 ^ 1)) (pk_ushrN (n := ((((k / 2 ^ 16) / 2 ^ 8) / 2 ^ 4) / 2 ^ 2)) (by omega) 1 1 (by decide)) ?_
            refine lv_isub hx hb dJ6_numberOfLeadingZeros_0f7a4_77 ?_
            exact W.iret (v := (nI 1) - (nI (((((k / 2 ^ 16) / 2 ^ 8) / 2 ^ 4) / 2 ^ 2) / 2 ^ 1))) hx hb hr (fun t ht hW => ⟨_, rfl, by rw [pk_tn (by omega)]; exact kf_nz (n := 1 - (((((k / 2 ^ 16) / 2 ^ 8) / 2 ^ 4) / 2 ^ 2) / 2 ^ 1)) (by omega) (pk_sub (a := 1) (b := (((((k / 2 ^ 16) / 2 ^ 8) / 2 ^ 4) / 2 ^ 2) / 2 ^ 1)) (by omega)) (by omega) (by omega) (by omega) (by omega), ht⟩) (fun _ h => nomatch h) dJ6_numberOfLeadingZeros_0f7a4_78
  · refine lv_iload_n hx hb dJ6_numberOfLeadingZeros_0f7a4_4 rfl (lv_at hl 0 rfl) ?_
    refine lv_if_ne (tgt := 13) hx hb dJ6_numberOfLeadingZeros_0f7a4_5 (by decide) (fun c_17 => ?_) (fun c_17 => ?_)
    · refine lv_iconst (v := 0) hx hb dJ6_numberOfLeadingZeros_0f7a4_13 (by decide) ?_
      exact W.iret (v := 0) hx hb hr (fun t ht hW => ⟨_, rfl, by have h9 := kf_neg (i := i) (by rcases Decidable.em (i < 0) with h | h; exact h; exact absurd (Int32.le_antisymm (Int32.not_lt.mp c_1) (Int32.not_lt.mp h)) (by assumption)); exact kf_nz (n := 0) (by omega) rfl (by omega) (by omega) (by omega) (by omega), ht⟩) (fun _ h => nomatch h) dJ6_numberOfLeadingZeros_0f7a4_14
    · refine lv_bipush (v := 32) hx hb dJ6_numberOfLeadingZeros_0f7a4_8 (by decide) ?_
      refine lv_goto (tgt := 14) hx hb dJ6_numberOfLeadingZeros_0f7a4_10 (by decide) ?_
      exact W.iret (v := 32) hx hb hr (fun t ht hW => ⟨_, rfl, by rw [show i = 0 from by assumption]; exact kf_nz (n := 32) (by omega) rfl (by decide) (by decide) (by decide) (by decide), ht⟩) (fun _ h => nomatch h) dJ6_numberOfLeadingZeros_0f7a4_14
