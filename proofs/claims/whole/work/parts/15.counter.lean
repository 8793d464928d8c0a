/-- all zeros -/
def kf_z0 : Nat → Nat := fun _ => 0
/-- places st .. i - 1 set to 0 -/
def kf_zr (bs : Nat → Nat) (st i : Nat) : Nat → Nat := fun j => if st ≤ j ∧ j < i then 0 else bs j
theorem kf_zr_id (bs : Nat → Nat) (st : Nat) : kf_zr bs st st = bs := by
  funext j
  unfold kf_zr
  rw [if_neg (by omega)]
theorem kf_zr_s (bs : Nat → Nat) {st i : Nat} (h : st ≤ i) : kf_zr bs st (i + 1) = kz_un (kf_zr bs st i) i 0 := by
  funext j
  unfold kz_un kf_zr
  by_cases hj : j = i
  · subst hj
    rw [if_pos (by omega), if_pos rfl]
  · rw [if_neg hj]
    by_cases h2 : st ≤ j ∧ j < i
    · rw [if_pos (by omega), if_pos h2]
    · rw [if_neg (by omega), if_neg h2]
theorem kf_zr_at (bs : Nat → Nat) {st i : Nat} : kf_zr bs st i i = bs i := by
  unfold kf_zr
  rw [if_neg (by omega)]
/-- a fork under way, longer than st - 1, of size sq -/
def kf_ep (bs : Nat → Nat) (sq st : Nat) : Nat → Bool := fun j => decide (st ≤ j) && (decide (0 < bs j) && decide (kf_sz (bs j) = sq))
theorem kf_ep_iff {bs : Nat → Nat} {sq st j : Nat} : kf_ep bs sq st j = true ↔ (st ≤ j ∧ 0 < bs j ∧ kf_sz (bs j) = sq) := by
  unfold kf_ep
  simp
theorem kf_ep_0 (bs : Nat → Nat) (sq st : Nat) : ∀ i, i ≤ st → kf_cnt (kf_ep bs sq st) i = 0
  | 0, _ => rfl
  | i + 1, h => by
    rw [kf_cnt_n (fun z => by have := (kf_ep_iff.mp z).1; omega)]
    exact kf_ep_0 bs sq st i (by omega)
/-- one branch more -/
def kf_ab (bs : Nat → Nat) (ff : Nat) (kv : Int32) : Nat → Nat := if ff < 8 then kz_un bs ff (bs ff + (if bs ff = 0 ∧ kv = 0 then 2 else 1)) else bs

set_option maxHeartbeats 4000000 in
set_option maxRecDepth 100000 in
theorem c_X0_addBranch (l : Launch) (G : kz_G) (hc ab : Nat) (bs : Nat → Nat) (ff : Nat) (kv : Int32) (sz : Nat) (hff : ff ≤ 8) (hbs : ∀ j, bs j ≤ 100000) : Met l yX0_addBranch wsX0_addBranch { frames := 0, cells := 0, slots := 0, locals := 0 } (kz_Pm G [.ref hc, .int (nI ff), .int kv] [(hc, .inr (0, [.ref ab])), (ab, .inl (gI G, 8, .inl (kz_z bs)))] sz) (kz_Qv G (fun w => w = [(hc, .inr (0, [.ref ab])), (ab, .inl (gI G, 8, .inl (kz_z (kf_ab bs ff kv))))]) (va_A [(hc, .inr (0, [.ref ab])), (ab, .inl (gI G, 8, .inl (kz_z bs)))] sz)) 0 0 (va_A [(hc, .inr (0, [.ref ab])), (ab, .inl (gI G, 8, .inl (kz_z bs)))] sz) := by
  refine Met.ofW (cc := cX0_addBranch) (maxL := 4) (ret := none) (by decide) rfl ?_
  intro p e s m args below meth c s₁ B hml hv
  obtain ⟨rfl, hsz, hP, hK, hD0⟩ := hv
  have hx := B.exec
  have hb := B.bytes
  have hr := B.returns
  have hts := atoms_spec (ws := wsX0_addBranch) B.pre
  have hown : s.vm.findClass RX0 = some m.cls := findClass_of_methodNamed B.named
  have hlocks := B.notSynchronized
  have hinX0 : ∀ w ∈ wsX00, w ∈ wsX0_addBranch := by decide +kernel
  subst hsz
  have hD := hD0.self (sz := s.heap.size)
  generalize hAe : va_A [(hc, .inr (0, [.ref ab])), (ab, .inl (gI G, 8, .inl (kz_z bs)))] s.heap.size = A at hD ⊢
  have hA : ∀ q : Nat, s.heap.size ≤ q → A q := fun q h => by rw [← hAe]; exact Or.inr h
  have hS : va_S A s.heap s.heap [] := va_S.rf
  have hP : va_P G.1 vwCl [(hc, .inr (0, [.ref ab])), (ab, .inl (gI G, 8, .inl (kz_z bs)))] s.heap := hP
  have hl := lv_entry ([.ref hc, .int (nI ff), .int kv]) (n := 4) (Nat.le_of_ble_eq_true rfl)
  rw [lg_entry_eq]
  generalize (lg_sl ([.ref hc, .int (nI ff), .int kv]) ++ List.replicate (4 - (lg_sl ([.ref hc, .int (nI ff), .int kv])).length) Slot.unset).toArray = ls at hl ⊢
  have hl : lv_has ls 4 [(0, .ref hc), (1, .int (nI ff)), (2, .int kv)] := hl
  refine lv_iload_n hx hb dX0_addBranch_0 rfl (lv_at hl 1 rfl) ?_
  refine lv_if_lt (tgt := 13) hx hb dX0_addBranch_1 (by decide) (fun c_1 => ?_) (fun c_1 => ?_)
  · exact absurd c_1 (nI_pos (by omega))
  · refine lv_iload_n hx hb dX0_addBranch_4 rfl (lv_at hl 1 rfl) ?_
    refine lv_aload_n hx hb dX0_addBranch_5 rfl (lv_at hl 0 rfl) ?_
    refine va_get (D := G.1) (ci := 0) (v := .ref ab) (C := RX0) (T := TX0) (N := 1) hx hb hts hinX0 hown hK.1 hP 0 rfl rfl 0 (by decide) (hts (.fieldLink RX0 9 "ForkStore$ForkCounter" "branches" "[I") (by decide +kernel)) (fun _ h9 => h9) rfl dX0_addBranch_6 ?_
    refine va_alen (v := 8) hx hb hK.1 hP 1 0 rfl rfl rfl dX0_addBranch_9 ?_
    refine lv_icmp_lt (tgt := 14) hx hb dX0_addBranch_10 (by decide) (fun c_2 => ?_) (fun c_2 => ?_)
    · have kc_2 : ff < 8 := (nI_ltI (b := 8) (by omega) (by decide)).mp c_2
      have hbf := hbs ff
      refine lv_aload_n hx hb dX0_addBranch_14 rfl (lv_at hl 0 rfl) ?_
      refine va_get (D := G.1) (ci := 0) (v := .ref ab) (C := RX0) (T := TX0) (N := 1) hx hb hts hinX0 hown hK.1 hP 0 rfl rfl 0 (by decide) (hts (.fieldLink RX0 9 "ForkStore$ForkCounter" "branches" "[I") (by decide +kernel)) (fun _ h9 => h9) rfl dX0_addBranch_15 ?_
      refine lv_iload_n hx hb dX0_addBranch_18 rfl (lv_at hl 1 rfl) ?_
      refine kz_iald hx hb hK.1 hP 1 0 rfl rfl (k := ff) (by omega) (by decide) dX0_addBranch_19 ?_
      refine kz_asi (y := nI (bs ff)) rfl ?_
      refine lv_if_ne (tgt := 31) hx hb dX0_addBranch_20 (by decide) (fun c_3 => ?_) (fun c_3 => ?_)
      · have kc_3 : ¬ bs ff = 0 := fun h => c_3 (by rw [h]; rfl)
        refine lv_iconst (v := 0) hx hb dX0_addBranch_31 (by decide) ?_
        refine lv_istore_n (lv' := [(3, .int 0), (0, .ref hc), (1, .int (nI ff)), (2, .int kv)]) hx hb dX0_addBranch_32 rfl hl (by decide) rfl (fun ls hl => ?_)
        refine lv_aload_n hx hb dX0_addBranch_33 rfl (lv_at hl 1 rfl) ?_
        refine va_get (D := G.1) (ci := 0) (v := .ref ab) (C := RX0) (T := TX0) (N := 1) hx hb hts hinX0 hown hK.1 hP 0 rfl rfl 0 (by decide) (hts (.fieldLink RX0 9 "ForkStore$ForkCounter" "branches" "[I") (by decide +kernel)) (fun _ h9 => h9) rfl dX0_addBranch_34 ?_
        refine lv_iload_n hx hb dX0_addBranch_37 rfl (lv_at hl 2 rfl) ?_
        refine lv_dup2_11 hx hb dX0_addBranch_38 rfl rfl ?_
        refine kz_iald hx hb hK.1 hP 1 0 rfl rfl (k := ff) (by omega) (by decide) dX0_addBranch_39 ?_
        refine kz_asi (y := nI (bs ff)) rfl ?_
        refine lv_iload_n hx hb dX0_addBranch_40 rfl (lv_at hl 0 rfl) ?_
        refine lv_if_eq (tgt := 48) hx hb dX0_addBranch_41 (by decide) (fun c_4 => ?_) (fun c_4 => ?_)
        · refine lv_iconst (v := 1) hx hb dX0_addBranch_48 (by decide) ?_
          refine lv_iadd hx hb dX0_addBranch_49 ?_
          refine kz_asi (y := nI (bs ff + 1)) (nI_add (bs ff) 1) ?_
          refine kz_iast hx hb hK.1 hP hD hS 1 0 rfl rfl (k := ff) (by omega) (by decide) dX0_addBranch_50 (fun H locs hP hD hS => ?_)
          have hP : va_P G.1 vwCl [(hc, .inr (0, [.ref ab])), (ab, .inl (gI G, 8, .inl (upd (kz_z bs) ff (nI (bs ff + 1)))))] H := hP
          have hD : va_D A [(hc, .inr (0, [.ref ab])), (ab, .inl (gI G, 8, .inl (upd (kz_z bs) ff (nI (bs ff + 1)))))] := hD
          rw [show upd (kz_z bs) ff (nI (bs ff + 1)) = kz_z (kz_un bs ff (bs ff + 1)) from (kz_zu _ _ _).symm] at hP hD
          have hP : va_P G.1 vwCl [(hc, .inr (0, [.ref ab])), (ab, .inl (gI G, 8, .inl (kz_z (kz_un bs ff (bs ff + 1)))))] H := hP
          have hD : va_D A [(hc, .inr (0, [.ref ab])), (ab, .inl (gI G, 8, .inl (kz_z (kz_un bs ff (bs ff + 1)))))] := hD
          have hq : ([(hc, .inr (0, [.ref ab])), (ab, .inl (gI G, 8, .inl (kz_z (kz_un bs ff (bs ff + 1)))))] : va_W) = [(hc, .inr (0, [.ref ab])), (ab, .inl (gI G, 8, .inl (kz_z (kf_ab bs ff kv))))] := by
            unfold kf_ab
            rw [if_pos kc_2, if_neg (fun h => kc_3 h.1)]
          exact W.vret hx hb hr (fun t ht hW => ⟨⟨([(hc, .inr (0, [.ref ab])), (ab, .inl (gI G, 8, .inl (kz_z (kz_un bs ff (bs ff + 1)))))] : va_W), rfl, hq, by rw [← ht] at hP; exact hP⟩, hS.F ht⟩) hS.2.2 dX0_addBranch_51
        · exact absurd rfl c_4
      · have kc_3 : bs ff = 0 := (nI_eq (b := 0) (by omega) (by decide)).mp c_3
        refine lv_iload_n hx hb dX0_addBranch_23 rfl (lv_at hl 2 rfl) ?_
        refine lv_if_ne (tgt := 31) hx hb dX0_addBranch_24 (by decide) (fun c_5 => ?_) (fun c_5 => ?_)
        · refine lv_iconst (v := 0) hx hb dX0_addBranch_31 (by decide) ?_
          refine lv_istore_n (lv' := [(3, .int 0), (0, .ref hc), (1, .int (nI ff)), (2, .int kv)]) hx hb dX0_addBranch_32 rfl hl (by decide) rfl (fun ls hl => ?_)
          refine lv_aload_n hx hb dX0_addBranch_33 rfl (lv_at hl 1 rfl) ?_
          refine va_get (D := G.1) (ci := 0) (v := .ref ab) (C := RX0) (T := TX0) (N := 1) hx hb hts hinX0 hown hK.1 hP 0 rfl rfl 0 (by decide) (hts (.fieldLink RX0 9 "ForkStore$ForkCounter" "branches" "[I") (by decide +kernel)) (fun _ h9 => h9) rfl dX0_addBranch_34 ?_
          refine lv_iload_n hx hb dX0_addBranch_37 rfl (lv_at hl 2 rfl) ?_
          refine lv_dup2_11 hx hb dX0_addBranch_38 rfl rfl ?_
          refine kz_iald hx hb hK.1 hP 1 0 rfl rfl (k := ff) (by omega) (by decide) dX0_addBranch_39 ?_
          refine kz_asi (y := nI (bs ff)) rfl ?_
          refine lv_iload_n hx hb dX0_addBranch_40 rfl (lv_at hl 0 rfl) ?_
          refine lv_if_eq (tgt := 48) hx hb dX0_addBranch_41 (by decide) (fun c_6 => ?_) (fun c_6 => ?_)
          · refine lv_iconst (v := 1) hx hb dX0_addBranch_48 (by decide) ?_
            refine lv_iadd hx hb dX0_addBranch_49 ?_
            refine kz_asi (y := nI (bs ff + 1)) (nI_add (bs ff) 1) ?_
            refine kz_iast hx hb hK.1 hP hD hS 1 0 rfl rfl (k := ff) (by omega) (by decide) dX0_addBranch_50 (fun H locs hP hD hS => ?_)
            have hP : va_P G.1 vwCl [(hc, .inr (0, [.ref ab])), (ab, .inl (gI G, 8, .inl (upd (kz_z bs) ff (nI (bs ff + 1)))))] H := hP
            have hD : va_D A [(hc, .inr (0, [.ref ab])), (ab, .inl (gI G, 8, .inl (upd (kz_z bs) ff (nI (bs ff + 1)))))] := hD
            rw [show upd (kz_z bs) ff (nI (bs ff + 1)) = kz_z (kz_un bs ff (bs ff + 1)) from (kz_zu _ _ _).symm] at hP hD
            have hP : va_P G.1 vwCl [(hc, .inr (0, [.ref ab])), (ab, .inl (gI G, 8, .inl (kz_z (kz_un bs ff (bs ff + 1)))))] H := hP
            have hD : va_D A [(hc, .inr (0, [.ref ab])), (ab, .inl (gI G, 8, .inl (kz_z (kz_un bs ff (bs ff + 1)))))] := hD
            have hq : ([(hc, .inr (0, [.ref ab])), (ab, .inl (gI G, 8, .inl (kz_z (kz_un bs ff (bs ff + 1)))))] : va_W) = [(hc, .inr (0, [.ref ab])), (ab, .inl (gI G, 8, .inl (kz_z (kf_ab bs ff kv))))] := by
              unfold kf_ab
              rw [if_pos kc_2, if_neg (fun h => c_5 h.2)]
            exact W.vret hx hb hr (fun t ht hW => ⟨⟨([(hc, .inr (0, [.ref ab])), (ab, .inl (gI G, 8, .inl (kz_z (kz_un bs ff (bs ff + 1)))))] : va_W), rfl, hq, by rw [← ht] at hP; exact hP⟩, hS.F ht⟩) hS.2.2 dX0_addBranch_51
          · exact absurd rfl c_6
        · refine lv_iconst (v := 1) hx hb dX0_addBranch_27 (by decide) ?_
          refine lv_goto (tgt := 32) hx hb dX0_addBranch_28 (by decide) ?_
          refine lv_istore_n (lv' := [(3, .int 1), (0, .ref hc), (1, .int (nI ff)), (2, .int kv)]) hx hb dX0_addBranch_32 rfl hl (by decide) rfl (fun ls hl => ?_)
          refine lv_aload_n hx hb dX0_addBranch_33 rfl (lv_at hl 1 rfl) ?_
          refine va_get (D := G.1) (ci := 0) (v := .ref ab) (C := RX0) (T := TX0) (N := 1) hx hb hts hinX0 hown hK.1 hP 0 rfl rfl 0 (by decide) (hts (.fieldLink RX0 9 "ForkStore$ForkCounter" "branches" "[I") (by decide +kernel)) (fun _ h9 => h9) rfl dX0_addBranch_34 ?_
          refine lv_iload_n hx hb dX0_addBranch_37 rfl (lv_at hl 2 rfl) ?_
          refine lv_dup2_11 hx hb dX0_addBranch_38 rfl rfl ?_
          refine kz_iald hx hb hK.1 hP 1 0 rfl rfl (k := ff) (by omega) (by decide) dX0_addBranch_39 ?_
          refine kz_asi (y := nI (bs ff)) rfl ?_
          refine lv_iload_n hx hb dX0_addBranch_40 rfl (lv_at hl 0 rfl) ?_
          refine lv_if_eq (tgt := 48) hx hb dX0_addBranch_41 (by decide) (fun c_7 => ?_) (fun c_7 => ?_)
          · exact absurd c_7 (by decide)
          · refine lv_iconst (v := 2) hx hb dX0_addBranch_44 (by decide) ?_
            refine lv_goto (tgt := 49) hx hb dX0_addBranch_45 (by decide) ?_
            refine lv_iadd hx hb dX0_addBranch_49 ?_
            refine kz_asi (y := nI (bs ff + 2)) (nI_add (bs ff) 2) ?_
            refine kz_iast hx hb hK.1 hP hD hS 1 0 rfl rfl (k := ff) (by omega) (by decide) dX0_addBranch_50 (fun H locs hP hD hS => ?_)
            have hP : va_P G.1 vwCl [(hc, .inr (0, [.ref ab])), (ab, .inl (gI G, 8, .inl (upd (kz_z bs) ff (nI (bs ff + 2)))))] H := hP
            have hD : va_D A [(hc, .inr (0, [.ref ab])), (ab, .inl (gI G, 8, .inl (upd (kz_z bs) ff (nI (bs ff + 2)))))] := hD
            rw [show upd (kz_z bs) ff (nI (bs ff + 2)) = kz_z (kz_un bs ff (bs ff + 2)) from (kz_zu _ _ _).symm] at hP hD
            have hP : va_P G.1 vwCl [(hc, .inr (0, [.ref ab])), (ab, .inl (gI G, 8, .inl (kz_z (kz_un bs ff (bs ff + 2)))))] H := hP
            have hD : va_D A [(hc, .inr (0, [.ref ab])), (ab, .inl (gI G, 8, .inl (kz_z (kz_un bs ff (bs ff + 2)))))] := hD
            have hq : ([(hc, .inr (0, [.ref ab])), (ab, .inl (gI G, 8, .inl (kz_z (kz_un bs ff (bs ff + 2)))))] : va_W) = [(hc, .inr (0, [.ref ab])), (ab, .inl (gI G, 8, .inl (kz_z (kf_ab bs ff kv))))] := by
              unfold kf_ab
              rw [if_pos kc_2, if_pos ⟨kc_3, c_5⟩]
            exact W.vret hx hb hr (fun t ht hW => ⟨⟨([(hc, .inr (0, [.ref ab])), (ab, .inl (gI G, 8, .inl (kz_z (kz_un bs ff (bs ff + 2)))))] : va_W), rfl, hq, by rw [← ht] at hP; exact hP⟩, hS.F ht⟩) hS.2.2 dX0_addBranch_51
    · have kc_2 : ¬ ff < 8 := fun h => c_2 (nI_lt (b := 8) h (by decide))
      have hq : ([(hc, .inr (0, [.ref ab])), (ab, .inl (gI G, 8, .inl (kz_z bs)))] : va_W) = [(hc, .inr (0, [.ref ab])), (ab, .inl (gI G, 8, .inl (kz_z (kf_ab bs ff kv))))] := by
        unfold kf_ab
        rw [if_neg kc_2]
      exact W.vret hx hb hr (fun t ht hW => ⟨⟨([(hc, .inr (0, [.ref ab])), (ab, .inl (gI G, 8, .inl (kz_z bs)))] : va_W), rfl, hq, by rw [← ht] at hP; exact hP⟩, hS.F ht⟩) hS.2.2 dX0_addBranch_13

theorem kf_sz_le (b : Nat) : kf_sz b ≤ 3 := by
  unfold kf_sz
  split
  · omega
  · split
    · omega
    · split <;> omega

set_option maxHeartbeats 4000000 in
set_option maxRecDepth 100000 in
theorem c_X0_endLongerThan (l : Launch) (G : kz_G) (hc ab : Nat) (bs : Nat → Nat) (fk : Int32) (st sq : Nat) (sz : Nat) (hst : fk + 1 = nI st) (hst9 : st ≤ 9) (hsq : sq ≤ 3) (hbs : ∀ j, bs j ≤ 100000) : Met l yX0_endLongerThan wsX0_endLongerThan { frames := 1, cells := 0, slots := 0, locals := 21 } (kz_Pm G [.ref hc, .int fk, .int (nI sq)] [(hc, .inr (0, [.ref ab])), (ab, .inl (gI G, 8, .inl (kz_z bs)))] sz) (kz_Qi G (fun r w => r = nI (kf_cnt (kf_ep bs sq st) (max st 8)) ∧ w = [(hc, .inr (0, [.ref ab])), (ab, .inl (gI G, 8, .inl (kz_z (kf_zr bs st (max st 8)))))]) (va_A [(hc, .inr (0, [.ref ab])), (ab, .inl (gI G, 8, .inl (kz_z bs)))] sz)) 0 0 (va_A [(hc, .inr (0, [.ref ab])), (ab, .inl (gI G, 8, .inl (kz_z bs)))] sz) := by
  refine Met.ofW (cc := cX0_endLongerThan) (maxL := 5) (ret := (some .int)) (by decide) rfl ?_
  intro p e s m args below meth c s₁ B hml hv
  obtain ⟨rfl, hsz, hP, hK, hD0⟩ := hv
  have hx := B.exec
  have hb := B.bytes
  have hr := B.returns
  have hts := atoms_spec (ws := wsX0_endLongerThan) B.pre
  have hown : s.vm.findClass RX0 = some m.cls := findClass_of_methodNamed B.named
  have hlocks := B.notSynchronized
  have hinX0 : ∀ w ∈ wsX00, w ∈ wsX0_endLongerThan := by decide +kernel
  subst hsz
  have hD := hD0.self (sz := s.heap.size)
  generalize hAe : va_A [(hc, .inr (0, [.ref ab])), (ab, .inl (gI G, 8, .inl (kz_z bs)))] s.heap.size = A at hD ⊢
  have hA : ∀ q : Nat, s.heap.size ≤ q → A q := fun q h => by rw [← hAe]; exact Or.inr h
  have hS : va_S A s.heap s.heap [] := va_S.rf
  have hP : va_P G.1 vwCl [(hc, .inr (0, [.ref ab])), (ab, .inl (gI G, 8, .inl (kz_z bs)))] s.heap := hP
  have hl := lv_entry ([.ref hc, .int fk, .int (nI sq)]) (n := 5) (Nat.le_of_ble_eq_true rfl)
  rw [lg_entry_eq]
  generalize (lg_sl ([.ref hc, .int fk, .int (nI sq)]) ++ List.replicate (5 - (lg_sl ([.ref hc, .int fk, .int (nI sq)])).length) Slot.unset).toArray = ls at hl ⊢
  have hl : lv_has ls 5 [(0, .ref hc), (1, .int fk), (2, .int (nI sq))] := hl
  refine lv_iconst (v := 0) hx hb dX0_endLongerThan_0 (by decide) ?_
  refine lv_istore_n (lv' := [(3, .int 0), (0, .ref hc), (1, .int fk), (2, .int (nI sq))]) hx hb dX0_endLongerThan_1 rfl hl (by decide) rfl (fun ls hl => ?_)
  refine lv_iload_n hx hb dX0_endLongerThan_2 rfl (lv_at hl 2 rfl) ?_
  refine lv_iconst (v := 1) hx hb dX0_endLongerThan_3 (by decide) ?_
  refine lv_iadd hx hb dX0_endLongerThan_4 ?_
  refine kz_asi (y := nI st) hst ?_
  refine lv_iconst (v := 0) hx hb dX0_endLongerThan_5 (by decide) ?_
  refine va_mmax hx hb (by rw [hml]; exact hl.1.symm) hown (hts (.methodLink RX0 36 Lib.Math.max.name) (by decide +kernel)) (hts (.static Lib.Math.max.name) (by decide +kernel)) (hts (.initialized "java/lang/Math") (by decide +kernel)) (hts (.code Lib.Math.max.name Lib.Math.max.code 2 (some .int)) (by decide +kernel)) (Nat.le_of_ble_eq_true rfl) (Nat.le_of_ble_eq_true rfl) (Nat.zero_le _) (Nat.zero_le _) dX0_endLongerThan_6 ?_
  refine kz_asi (y := nI st) (if_neg (nI_pos (by omega))) ?_
  refine lv_istore (lv' := [(4, .int (nI st)), (3, .int 0), (0, .ref hc), (1, .int fk), (2, .int (nI sq))]) hx hb dX0_endLongerThan_9 hl (by decide) rfl (fun ls hl => ?_)
  refine kz_loopm (D := G.1) (cl := vwCl) (A := A) (H0 := s.heap) (nL := 5) (hd := 11) (e9 := 8 - st) (i0 := 0) (LV := fun ii => [(3, .int (nI (kf_cnt (kf_ep bs sq st) (st + ii)))), (4, .int (nI (st + ii))), (0, .ref hc), (2, .int (nI sq))]) (WV := fun ii => [(hc, .inr (0, [.ref ab])), (ab, .inl (gI G, 8, .inl (kz_z (kf_zr bs st (st + ii)))))]) (fun ii H locs ls hii hl hP hD hS ih => ?_) (Nat.zero_le _) (by simp only [Nat.add_zero, kf_ep_0 bs sq st st (Nat.le_refl _)]; exact lv_sub hl [1, 0, 2, 4] rfl) (by simp only [Nat.add_zero, kf_zr_id]; exact hP) (by simp only [Nat.add_zero, kf_zr_id]; exact hD) hS
  have hl : lv_has ls 5 [(3, .int (nI (kf_cnt (kf_ep bs sq st) (st + ii)))), (4, .int (nI (st + ii))), (0, .ref hc), (2, .int (nI sq))] := hl
  have hP : va_P G.1 vwCl [(hc, .inr (0, [.ref ab])), (ab, .inl (gI G, 8, .inl (kz_z (kf_zr bs st (st + ii)))))] H := hP
  have hD : va_D A [(hc, .inr (0, [.ref ab])), (ab, .inl (gI G, 8, .inl (kz_z (kf_zr bs st (st + ii)))))] := hD
  refine lv_iload hx hb dX0_endLongerThan_11 (lv_at hl 1 rfl) ?_
  refine lv_aload_n hx hb dX0_endLongerThan_13 rfl (lv_at hl 2 rfl) ?_
  refine va_get (D := G.1) (ci := 0) (v := .ref ab) (C := RX0) (T := TX0) (N := 1) hx hb hts hinX0 hown hK.1 hP 0 rfl rfl 0 (by decide) (hts (.fieldLink RX0 9 "ForkStore$ForkCounter" "branches" "[I") (by decide +kernel)) (fun _ h9 => h9) rfl dX0_endLongerThan_14 ?_
  refine va_alen (v := 8) hx hb hK.1 hP 1 0 rfl rfl rfl dX0_endLongerThan_17 ?_
  refine lv_icmp_ge (tgt := 62) hx hb dX0_endLongerThan_18 (by decide) (fun c_1 => ?_) (fun c_1 => ?_)
  · have kc_1 : 8 ≤ st + ii := (nI_leI (a := 8) (by decide) (by omega)).mp c_1
    refine lv_iload_n hx hb dX0_endLongerThan_62 rfl (lv_at hl 0 rfl) ?_
    exact W.iret (v := nI (kf_cnt (kf_ep bs sq st) (st + ii))) hx hb hr (fun t ht hW => ⟨⟨_, ([(hc, .inr (0, [.ref ab])), (ab, .inl (gI G, 8, .inl (kz_z (kf_zr bs st (st + ii)))))] : va_W), rfl, ⟨by rw [show st + ii = max st 8 from by omega], by rw [show st + ii = max st 8 from by omega]⟩, by rw [← ht] at hP; exact hP⟩, hS.F ht⟩) hS.2.2 dX0_endLongerThan_63
  · have kc_1 : st + ii < 8 := Nat.lt_of_not_le (fun h => c_1 (nI_le (a := 8) h (by omega)))
    have hbi := hbs (st + ii)
    refine lv_aload_n hx hb dX0_endLongerThan_21 rfl (lv_at hl 2 rfl) ?_
    refine va_get (D := G.1) (ci := 0) (v := .ref ab) (C := RX0) (T := TX0) (N := 1) hx hb hts hinX0 hown hK.1 hP 0 rfl rfl 0 (by decide) (hts (.fieldLink RX0 9 "ForkStore$ForkCounter" "branches" "[I") (by decide +kernel)) (fun _ h9 => h9) rfl dX0_endLongerThan_22 ?_
    refine lv_iload hx hb dX0_endLongerThan_25 (lv_at hl 1 rfl) ?_
    refine kz_iald hx hb hK.1 hP 1 0 rfl rfl (k := (st + ii)) (by omega) (by decide) dX0_endLongerThan_27 ?_
    refine kz_asi (y := nI ((kf_zr bs st (st + ii)) (st + ii))) rfl ?_
    refine kz_asi (y := nI (bs (st + ii))) (by rw [kf_zr_at]) ?_
    refine lv_if_le (tgt := 48) hx hb dX0_endLongerThan_28 (by decide) (fun c_2 => ?_) (fun c_2 => ?_)
    · have hno : ¬ kf_ep bs sq st (st + ii) = true := fun h => absurd (nI_lt (a := 0) (kf_ep_iff.mp h).2.1 (by omega)) (Int32.not_lt.mpr c_2)
      refine lv_aload_n hx hb dX0_endLongerThan_48 rfl (lv_at hl 2 rfl) ?_
      refine va_get (D := G.1) (ci := 0) (v := .ref ab) (C := RX0) (T := TX0) (N := 1) hx hb hts hinX0 hown hK.1 hP 0 rfl rfl 0 (by decide) (hts (.fieldLink RX0 9 "ForkStore$ForkCounter" "branches" "[I") (by decide +kernel)) (fun _ h9 => h9) rfl dX0_endLongerThan_49 ?_
      refine lv_iload hx hb dX0_endLongerThan_52 (lv_at hl 1 rfl) ?_
      refine lv_iconst (v := 0) hx hb dX0_endLongerThan_54 (by decide) ?_
      refine kz_iast hx hb hK.1 hP hD hS 1 0 rfl rfl (k := (st + ii)) (by omega) (by decide) dX0_endLongerThan_55 (fun H locs hP hD hS => ?_)
      have hP : va_P G.1 vwCl [(hc, .inr (0, [.ref ab])), (ab, .inl (gI G, 8, .inl (upd (kz_z (kf_zr bs st (st + ii))) (st + ii) 0)))] H := hP
      have hD : va_D A [(hc, .inr (0, [.ref ab])), (ab, .inl (gI G, 8, .inl (upd (kz_z (kf_zr bs st (st + ii))) (st + ii) 0)))] := hD
      rw [show upd (kz_z (kf_zr bs st (st + ii))) (st + ii) 0 = kz_z (kz_un (kf_zr bs st (st + ii)) (st + ii) 0) from (kz_zu _ _ _).symm] at hP hD
      have hP : va_P G.1 vwCl [(hc, .inr (0, [.ref ab])), (ab, .inl (gI G, 8, .inl (kz_z (kz_un (kf_zr bs st (st + ii)) (st + ii) 0))))] H := hP
      have hD : va_D A [(hc, .inr (0, [.ref ab])), (ab, .inl (gI G, 8, .inl (kz_z (kz_un (kf_zr bs st (st + ii)) (st + ii) 0))))] := hD
      refine lv_iinc (v := nI (st + (ii + 1))) (lv' := [(4, .int (nI (st + (ii + 1)))), (3, .int (nI (kf_cnt (kf_ep bs sq st) (st + ii)))), (0, .ref hc), (2, .int (nI sq))]) hx hb dX0_endLongerThan_56 hl (k := 1) rfl (nI_1 (st + ii)) (by decide) rfl (fun ls hl => ?_)
      refine lv_goto (tgt := 11) hx hb dX0_endLongerThan_59 (by decide) ?_
      have e1 := kf_zr_s bs (st := st) (i := st + ii) (Nat.le_add_right _ _)
      exact ih H locs ls (by omega) (by have e9 := kf_cnt_n hno; simp only [← Nat.add_assoc, e9]; exact lv_sub hl [1, 0, 2, 3] rfl) (by show va_P G.1 vwCl [(hc, .inr (0, [.ref ab])), (ab, .inl (gI G, 8, .inl (kz_z (kf_zr bs st (st + ii + 1)))))] H; rw [e1]; exact hP) (by show va_D A [(hc, .inr (0, [.ref ab])), (ab, .inl (gI G, 8, .inl (kz_z (kf_zr bs st (st + ii + 1)))))]; rw [e1]; exact hD) hS
    · have kc_2 : 0 < bs (st + ii) := (nI_ltI (a := 0) (by decide) (by omega)).mp (Int32.not_le.mp c_2)
      refine lv_aload_n hx hb dX0_endLongerThan_31 rfl (lv_at hl 2 rfl) ?_
      refine va_get (D := G.1) (ci := 0) (v := .ref ab) (C := RX0) (T := TX0) (N := 1) hx hb hts hinX0 hown hK.1 hP 0 rfl rfl 0 (by decide) (hts (.fieldLink RX0 9 "ForkStore$ForkCounter" "branches" "[I") (by decide +kernel)) (fun _ h9 => h9) rfl dX0_endLongerThan_32 ?_
      refine lv_iload hx hb dX0_endLongerThan_35 (lv_at hl 1 rfl) ?_
      refine kz_iald hx hb hK.1 hP 1 0 rfl rfl (k := (st + ii)) (by omega) (by decide) dX0_endLongerThan_37 ?_
      refine kz_asi (y := nI ((kf_zr bs st (st + ii)) (st + ii))) rfl ?_
      refine kz_asi (y := nI (bs (st + ii))) (by rw [kf_zr_at]) ?_
      refine kz_ci (v := nI (kf_sz (bs (st + ii)))) (va_runS (As := [.int (nI (bs (st + ii)))]) (rest := []) ⟨hx, hb, hml, hown, hts⟩ (c_X0_sizeOf l (bs (st + ii)) (by omega)) (va_cwS 1 hts gX0_endLongerThan_X0_sizeOf rfl rfl rfl (by decide +kernel) ⟨Nat.le_of_ble_eq_true rfl, Nat.le_of_ble_eq_true rfl⟩) kz_ps0 rfl rfl hl.1 rfl (lv_room (Nat.le_of_ble_eq_true rfl)) dX0_endLongerThan_38 ⟨Nat.zero_le _, Nat.zero_le _⟩).run ?_
      refine lv_iload_n hx hb dX0_endLongerThan_41 rfl (lv_at hl 3 rfl) ?_
      refine lv_icmp_ne (tgt := 48) hx hb dX0_endLongerThan_42 (by decide) (fun c_3 => ?_) (fun c_3 => ?_)
      · have hno : ¬ kf_ep bs sq st (st + ii) = true := fun h => c_3 (by rw [(kf_ep_iff.mp h).2.2])
        refine lv_aload_n hx hb dX0_endLongerThan_48 rfl (lv_at hl 2 rfl) ?_
        refine va_get (D := G.1) (ci := 0) (v := .ref ab) (C := RX0) (T := TX0) (N := 1) hx hb hts hinX0 hown hK.1 hP 0 rfl rfl 0 (by decide) (hts (.fieldLink RX0 9 "ForkStore$ForkCounter" "branches" "[I") (by decide +kernel)) (fun _ h9 => h9) rfl dX0_endLongerThan_49 ?_
        refine lv_iload hx hb dX0_endLongerThan_52 (lv_at hl 1 rfl) ?_
        refine lv_iconst (v := 0) hx hb dX0_endLongerThan_54 (by decide) ?_
        refine kz_iast hx hb hK.1 hP hD hS 1 0 rfl rfl (k := (st + ii)) (by omega) (by decide) dX0_endLongerThan_55 (fun H locs hP hD hS => ?_)
        have hP : va_P G.1 vwCl [(hc, .inr (0, [.ref ab])), (ab, .inl (gI G, 8, .inl (upd (kz_z (kf_zr bs st (st + ii))) (st + ii) 0)))] H := hP
        have hD : va_D A [(hc, .inr (0, [.ref ab])), (ab, .inl (gI G, 8, .inl (upd (kz_z (kf_zr bs st (st + ii))) (st + ii) 0)))] := hD
        rw [show upd (kz_z (kf_zr bs st (st + ii))) (st + ii) 0 = kz_z (kz_un (kf_zr bs st (st + ii)) (st + ii) 0) from (kz_zu _ _ _).symm] at hP hD
        have hP : va_P G.1 vwCl [(hc, .inr (0, [.ref ab])), (ab, .inl (gI G, 8, .inl (kz_z (kz_un (kf_zr bs st (st + ii)) (st + ii) 0))))] H := hP
        have hD : va_D A [(hc, .inr (0, [.ref ab])), (ab, .inl (gI G, 8, .inl (kz_z (kz_un (kf_zr bs st (st + ii)) (st + ii) 0))))] := hD
        refine lv_iinc (v := nI (st + (ii + 1))) (lv' := [(4, .int (nI (st + (ii + 1)))), (3, .int (nI (kf_cnt (kf_ep bs sq st) (st + ii)))), (0, .ref hc), (2, .int (nI sq))]) hx hb dX0_endLongerThan_56 hl (k := 1) rfl (nI_1 (st + ii)) (by decide) rfl (fun ls hl => ?_)
        refine lv_goto (tgt := 11) hx hb dX0_endLongerThan_59 (by decide) ?_
        have e1 := kf_zr_s bs (st := st) (i := st + ii) (Nat.le_add_right _ _)
        exact ih H locs ls (by omega) (by have e9 := kf_cnt_n hno; simp only [← Nat.add_assoc, e9]; exact lv_sub hl [1, 0, 2, 3] rfl) (by show va_P G.1 vwCl [(hc, .inr (0, [.ref ab])), (ab, .inl (gI G, 8, .inl (kz_z (kf_zr bs st (st + ii + 1)))))] H; rw [e1]; exact hP) (by show va_D A [(hc, .inr (0, [.ref ab])), (ab, .inl (gI G, 8, .inl (kz_z (kf_zr bs st (st + ii + 1)))))]; rw [e1]; exact hD) hS
      · have hyes : kf_ep bs sq st (st + ii) = true := kf_ep_iff.mpr ⟨Nat.le_add_right _ _, kc_2, (nI_eq (by have := kf_sz_le (bs (st + ii)); omega) (by omega)).mp c_3⟩
        refine lv_iinc (v := nI (kf_cnt (kf_ep bs sq st) (st + ii + 1))) (lv' := [(3, .int (nI (kf_cnt (kf_ep bs sq st) (st + ii + 1)))), (4, .int (nI (st + ii))), (0, .ref hc), (2, .int (nI sq))]) hx hb dX0_endLongerThan_45 hl (k := 0) rfl (by rw [kf_cnt_y hyes]; exact nI_1 _) (by decide) rfl (fun ls hl => ?_)
        refine lv_aload_n hx hb dX0_endLongerThan_48 rfl (lv_at hl 2 rfl) ?_
        refine va_get (D := G.1) (ci := 0) (v := .ref ab) (C := RX0) (T := TX0) (N := 1) hx hb hts hinX0 hown hK.1 hP 0 rfl rfl 0 (by decide) (hts (.fieldLink RX0 9 "ForkStore$ForkCounter" "branches" "[I") (by decide +kernel)) (fun _ h9 => h9) rfl dX0_endLongerThan_49 ?_
        refine lv_iload hx hb dX0_endLongerThan_52 (lv_at hl 1 rfl) ?_
        refine lv_iconst (v := 0) hx hb dX0_endLongerThan_54 (by decide) ?_
        refine kz_iast hx hb hK.1 hP hD hS 1 0 rfl rfl (k := (st + ii)) (by omega) (by decide) dX0_endLongerThan_55 (fun H locs hP hD hS => ?_)
        have hP : va_P G.1 vwCl [(hc, .inr (0, [.ref ab])), (ab, .inl (gI G, 8, .inl (upd (kz_z (kf_zr bs st (st + ii))) (st + ii) 0)))] H := hP
        have hD : va_D A [(hc, .inr (0, [.ref ab])), (ab, .inl (gI G, 8, .inl (upd (kz_z (kf_zr bs st (st + ii))) (st + ii) 0)))] := hD
        rw [show upd (kz_z (kf_zr bs st (st + ii))) (st + ii) 0 = kz_z (kz_un (kf_zr bs st (st + ii)) (st + ii) 0) from (kz_zu _ _ _).symm] at hP hD
        have hP : va_P G.1 vwCl [(hc, .inr (0, [.ref ab])), (ab, .inl (gI G, 8, .inl (kz_z (kz_un (kf_zr bs st (st + ii)) (st + ii) 0))))] H := hP
        have hD : va_D A [(hc, .inr (0, [.ref ab])), (ab, .inl (gI G, 8, .inl (kz_z (kz_un (kf_zr bs st (st + ii)) (st + ii) 0))))] := hD
        refine lv_iinc (v := nI (st + (ii + 1))) (lv' := [(4, .int (nI (st + (ii + 1)))), (3, .int (nI (kf_cnt (kf_ep bs sq st) (st + ii + 1)))), (0, .ref hc), (2, .int (nI sq))]) hx hb dX0_endLongerThan_56 hl (k := 1) rfl (nI_1 (st + ii)) (by decide) rfl (fun ls hl => ?_)
        refine lv_goto (tgt := 11) hx hb dX0_endLongerThan_59 (by decide) ?_
        have e1 := kf_zr_s bs (st := st) (i := st + ii) (Nat.le_add_right _ _)
        exact ih H locs ls (by omega) (lv_sub hl [1, 0, 2, 3] rfl) (by show va_P G.1 vwCl [(hc, .inr (0, [.ref ab])), (ab, .inl (gI G, 8, .inl (kz_z (kf_zr bs st (st + ii + 1)))))] H; rw [e1]; exact hP) (by show va_D A [(hc, .inr (0, [.ref ab])), (ab, .inl (gI G, 8, .inl (kz_z (kf_zr bs st (st + ii + 1)))))]; rw [e1]; exact hD) hS
