/-- the k highest bytes of a word -/
def kf_cut (w : Int64) (k : Nat) : Int64 := if k = 0 then 0 else ⟨⟨(w.toBitVec >>> (64 - 8 * k)) <<< (64 - 8 * k)⟩⟩
theorem kf_un_cut (w : Int64) (k : Nat) : un (kf_cut w k) = un w / 2 ^ (64 - 8 * k) * 2 ^ (64 - 8 * k) := by
  have hw : un w < 2 ^ 64 := w.toBitVec.isLt
  unfold kf_cut
  split
  · subst k
    have : un w / 2 ^ (64 - 8 * 0) = 0 := Nat.div_eq_of_lt (by simpa using hw)
    rw [this]; rfl
  · show ((w.toBitVec >>> (64 - 8 * k)) <<< (64 - 8 * k)).toNat = _
    rw [BitVec.toNat_shiftLeft, BitVec.toNat_ushiftRight, Nat.shiftRight_eq_div_pow, Nat.shiftLeft_eq]
    have h1 : un w / 2 ^ (64 - 8 * k) * 2 ^ (64 - 8 * k) ≤ un w := Nat.div_mul_le_self _ _
    exact Nat.mod_eq_of_lt (Nat.lt_of_le_of_lt h1 hw)
theorem kf_bv1 (x : BitVec 64) (s : Nat) : x &&& (BitVec.allOnes 64 <<< s) = (x >>> s) <<< s := by
  apply BitVec.eq_of_getLsbD_eq
  intro i hi
  simp only [BitVec.getLsbD_and, BitVec.getLsbD_shiftLeft, BitVec.getLsbD_allOnes, BitVec.getLsbD_ushiftRight, hi, decide_true, Bool.true_and]
  by_cases h : i < s
  · simp [h]
  · have h2 : s + (i - s) = i := by omega
    have h3 : i - s < 64 := by omega
    simp [h, h2, h3]
theorem kf_bv2 (x : BitVec 64) (s : Nat) : (x.sshiftRight s) <<< s = (x >>> s) <<< s := by
  apply BitVec.eq_of_getLsbD_eq
  intro i hi
  simp only [BitVec.getLsbD_shiftLeft, BitVec.getLsbD_ushiftRight, BitVec.getLsbD_sshiftRight, hi, decide_true, Bool.true_and]
  by_cases h : i < s
  · simp [h]
  · have h2 : s + (i - s) = i := by omega
    have h3 : ¬ 64 ≤ i - s := by omega
    simp [h, h2, h3, hi]
theorem kf_sh1 : ∀ k : Fin 9, k.val ≠ 0 → ((8 * (8 - nI k.val)).toInt64 &&& 63).toBitVec.smod 64 = BitVec.ofNat 64 (64 - 8 * k.val) := by decide +kernel
theorem kf_sh2 : ∀ k : Fin 9, k.val ≠ 0 → ((64 - 8 * nI k.val).toInt64 &&& 63).toBitVec.smod 64 = BitVec.ofNat 64 (64 - 8 * k.val) := by decide +kernel
theorem kf_ofn (k : Nat) : (BitVec.ofNat 64 (64 - 8 * k)).toNat = 64 - 8 * k := by
  rw [BitVec.toNat_ofNat]
  exact Nat.mod_eq_of_lt (by omega)
theorem kf_hb (w : Int64) (k : Nat) (h : k ≤ 8) (h0 : k ≠ 0) : w &&& ((-1) <<< ((8 * (8 - nI k)).toInt64 &&& 63)) = kf_cut w k := by
  apply Int64.toBitVec_inj.mp
  rw [Int64.toBitVec_and, Int64.toBitVec_shiftLeft, kf_sh1 ⟨k, by omega⟩ h0, BitVec.shiftLeft_eq', kf_ofn]
  unfold kf_cut
  rw [if_neg h0]
  exact kf_bv1 w.toBitVec (64 - 8 * k)
theorem kf_ct (w : Int64) (k : Nat) (h : k ≤ 8) (h0 : k ≠ 0) : (w >>> ((64 - 8 * nI k).toInt64 &&& 63)) <<< ((64 - 8 * nI k).toInt64 &&& 63) = kf_cut w k := by
  apply Int64.toBitVec_inj.mp
  rw [Int64.toBitVec_shiftLeft, Int64.toBitVec_shiftRight, kf_sh2 ⟨k, by omega⟩ h0, BitVec.shiftLeft_eq', BitVec.sshiftRight_eq', kf_ofn]
  unfold kf_cut
  rw [if_neg h0]
  exact kf_bv2 w.toBitVec (64 - 8 * k)
theorem kf_n0 {k : Nat} (h : k ≤ 8) : nI k = 0 ↔ k = 0 := by
  rw [show (0 : Int32) = nI 0 from rfl]
  exact nI_eq (by omega) (by omega)
/-- how many highest bytes two words have in common, up to j -/
def kf_alN (a b : Nat) : Nat → Nat
  | 0 => 0
  | j + 1 => if a / 2 ^ (64 - 8 * (j + 1)) = b / 2 ^ (64 - 8 * (j + 1)) then j + 1 else kf_alN a b j
def kf_al (a b : Int64) : Nat := kf_alN (un a) (un b) 8
theorem kf_alN_le (a b : Nat) : ∀ j, kf_alN a b j ≤ j
  | 0 => Nat.le_refl _
  | j + 1 => by
    unfold kf_alN
    split
    · exact Nat.le_refl _
    · exact Nat.le_succ_of_le (kf_alN_le a b j)
theorem kf_down {a b s t : Nat} (hst : s ≤ t) (h : a / 2 ^ s = b / 2 ^ s) : a / 2 ^ t = b / 2 ^ t := by
  have e : 2 ^ t = 2 ^ s * 2 ^ (t - s) := by rw [← Nat.pow_add]; congr 1; omega
  rw [e, ← Nat.div_div_eq_div_mul, ← Nat.div_div_eq_div_mul, h]
theorem kf_alN_iff {a b : Nat} (ha : a < 2 ^ 64) (hb : b < 2 ^ 64) : ∀ (m : Nat), m ≤ 8 → ∀ j, j ≤ m → (j ≤ kf_alN a b m ↔ a / 2 ^ (64 - 8 * j) = b / 2 ^ (64 - 8 * j))
  | 0, _, j, hj => by
    obtain rfl : j = 0 := by omega
    have h1 : a / 2 ^ (64 - 8 * 0) = 0 := Nat.div_eq_of_lt (by simpa using ha)
    have h2 : b / 2 ^ (64 - 8 * 0) = 0 := Nat.div_eq_of_lt (by simpa using hb)
    rw [h1, h2]
    exact ⟨fun _ => rfl, fun _ => Nat.zero_le _⟩
  | m + 1, hm, j, hj => by
    unfold kf_alN
    split
    · rename_i h
      exact ⟨fun _ => kf_down (by omega) h, fun _ => hj⟩
    · rename_i h
      by_cases hjm : j = m + 1
      · subst hjm
        have := kf_alN_le a b m
        exact ⟨fun h9 => by omega, fun h9 => absurd h9 h⟩
      · exact kf_alN_iff ha hb m (by omega) j (by omega)
theorem kf_al_le (a b : Int64) : kf_al a b ≤ 8 := kf_alN_le _ _ 8
theorem kf_al_iff (a b : Int64) {j : Nat} (hj : j ≤ 8) : j ≤ kf_al a b ↔ un a / 2 ^ (64 - 8 * j) = un b / 2 ^ (64 - 8 * j) := kf_alN_iff a.toBitVec.isLt b.toBitVec.isLt 8 (Nat.le_refl _) j hj
theorem kf_cut_eq (a b : Int64) (j : Nat) : kf_cut a j = kf_cut b j ↔ un a / 2 ^ (64 - 8 * j) = un b / 2 ^ (64 - 8 * j) := by
  constructor
  · intro h
    have h1 := congrArg un h
    rw [kf_un_cut, kf_un_cut] at h1
    exact Nat.eq_of_mul_eq_mul_right (Nat.two_pow_pos _) h1
  · intro h
    apply un_inj
    rw [kf_un_cut, kf_un_cut, h]
theorem kf_xor (a b : Int64) (s : Nat) : un (a ^^^ b) < 2 ^ s ↔ un a / 2 ^ s = un b / 2 ^ s := by
  have h1 : un (a ^^^ b) = un a ^^^ un b := by
    unfold un
    rw [Int64.toBitVec_xor, BitVec.toNat_xor]
  rw [h1, ← Nat.div_eq_zero_iff_lt (Nat.two_pow_pos s), Nat.xor_div_two_pow]
  constructor
  · intro h
    have h2 := congrArg (fun z => z ^^^ (un b / 2 ^ s)) h
    simpa [Nat.xor_assoc] using h2
  · intro h
    rw [h, Nat.xor_self]
theorem kf_alike {a b : Int64} {n : Nat} (hn : n ≤ 64) (h : ∀ j : Nat, j ≤ 8 → (8 * j ≤ n ↔ un (a ^^^ b) < 2 ^ (64 - 8 * j))) : n / 8 = kf_al a b := by
  have h1 := kf_al_le a b
  have h2 : kf_al a b ≤ n / 8 := by
    have := (h _ h1).mpr ((kf_xor a b _).mpr ((kf_al_iff a b h1).mp (Nat.le_refl _)))
    omega
  have h3 : n / 8 ≤ 8 := by omega
  have h4 := (kf_al_iff a b h3).mpr ((kf_xor a b _).mp ((h _ h3).mp (by omega)))
  omega
/-- ForkStore.bytesInCommon -/
def kf_cm (a : Int64) (p : Nat) (b : Int64) (q : Nat) : Nat := min (kf_al a b) (min p q)
theorem kf_min {a b : Nat} (ha : a < 2 ^ 31) (hb : b < 2 ^ 31) : (if nI b < nI a then nI b else nI a) = nI (min a b) := by
  by_cases h : b < a
  · rw [if_pos ((nI_ltI hb ha).mpr h), Nat.min_eq_right (by omega)]
  · rw [if_neg (fun z => h ((nI_ltI hb ha).mp z)), Nat.min_eq_left (by omega)]
/-- the size of a fork -/
def kf_sz (b : Nat) : Nat := if b ≤ 4 then 0 else if b ≤ 16 then 1 else if b ≤ 48 then 2 else 3
theorem kf_div8 {n : Nat} (h : n ≤ 64) : nI n / 8 = nI (n / 8) := pk_div (a := n) (d := 8) (by omega) (by decide) (by decide)
def kf_okk (n : Int32) : Prop := 0 ≤ n ∧ n ≤ 8
theorem kf_ok_nat {n : Int32} (h : 0 ≤ n ∧ n ≤ 8) : ∃ k : Nat, k ≤ 8 ∧ n = nI k := nI_of2 (M := 8) (n := 8) rfl (Int32.not_lt.mpr h.1) h.2

set_option maxHeartbeats 4000000 in
set_option maxRecDepth 100000 in
theorem c_X3_isKeySize (l : Launch) (n : Int32) : Met l yX3_isKeySize wsX3_isKeySize { frames := 0, cells := 0, slots := 0, locals := 0 } (kz_P0 [.int n]) (vp_Si (fun r => r = if 0 ≤ n ∧ n ≤ 8 then 1 else 0)) 0 0 (fun _ => False) := by
  refine Met.ofW (cc := cX3_isKeySize) (maxL := 1) (ret := (some .boolean)) (by decide) rfl ?_
  intro p e s m args below meth c s₁ B hml hv
  obtain ⟨rfl, -⟩ := hv
  have hx := B.exec
  have hb := B.bytes
  have hr := B.returns
  have hts := atoms_spec (ws := wsX3_isKeySize) B.pre
  have hown : s.vm.findClass RX3 = some m.cls := findClass_of_methodNamed B.named
  have hlocks := B.notSynchronized
  have hl := lv_entry ([.int n]) (n := 1) (Nat.le_of_ble_eq_true rfl)
  rw [lg_entry_eq]
  generalize (lg_sl ([.int n]) ++ List.replicate (1 - (lg_sl ([.int n])).length) Slot.unset).toArray = ls at hl ⊢
  have hl : lv_has ls 1 [(0, .int n)] := hl
  refine lv_iload_n hx hb dX3_isKeySize_0 rfl (lv_at hl 0 rfl) ?_
  refine lv_if_lt (tgt := 14) hx hb dX3_isKeySize_1 (by decide) (fun c_1 => ?_) (fun c_1 => ?_)
  · refine lv_iconst (v := 0) hx hb dX3_isKeySize_14 (by decide) ?_
    exact W.zret (v := 0) hx hb hr rfl (fun t ht hW => ⟨_, rfl, (if_neg (fun h => absurd c_1 (Int32.not_lt.mpr h.1))).symm, ht⟩) (fun _ h => nomatch h) dX3_isKeySize_15
  · refine lv_iload_n hx hb dX3_isKeySize_4 rfl (lv_at hl 0 rfl) ?_
    refine lv_bipush (v := 8) hx hb dX3_isKeySize_5 (by decide) ?_
    refine lv_icmp_gt (tgt := 14) hx hb dX3_isKeySize_7 (by decide) (fun c_2 => ?_) (fun c_2 => ?_)
    · refine lv_iconst (v := 0) hx hb dX3_isKeySize_14 (by decide) ?_
      exact W.zret (v := 0) hx hb hr rfl (fun t ht hW => ⟨_, rfl, (if_neg (fun h => absurd c_2 (Int32.not_lt.mpr h.2))).symm, ht⟩) (fun _ h => nomatch h) dX3_isKeySize_15
    · refine lv_iconst (v := 1) hx hb dX3_isKeySize_10 (by decide) ?_
      refine lv_goto (tgt := 15) hx hb dX3_isKeySize_11 (by decide) ?_
      exact W.zret (v := 1) hx hb hr rfl (fun t ht hW => ⟨_, rfl, (if_pos ⟨Int32.not_lt.mp c_1, Int32.not_lt.mp c_2⟩).symm, ht⟩) (fun _ h => nomatch h) dX3_isKeySize_15

set_option maxHeartbeats 4000000 in
set_option maxRecDepth 100000 in
theorem c_X3_highestBytes (l : Launch) (w : Int64) (k : Nat) (hk : k ≤ 8) : Met l yX3_highestBytes wsX3_highestBytes { frames := 0, cells := 0, slots := 0, locals := 0 } (kz_P0 [.long w, .int (nI k)]) (vp_Sl (fun r => r = kf_cut w k)) 0 0 (fun _ => False) := by
  refine Met.ofW (cc := cX3_highestBytes) (maxL := 3) (ret := (some .long)) (by decide) rfl ?_
  intro p e s m args below meth c s₁ B hml hv
  obtain ⟨rfl, -⟩ := hv
  have hx := B.exec
  have hb := B.bytes
  have hr := B.returns
  have hts := atoms_spec (ws := wsX3_highestBytes) B.pre
  have hown : s.vm.findClass RX3 = some m.cls := findClass_of_methodNamed B.named
  have hlocks := B.notSynchronized
  have hl := lv_entry ([.long w, .int (nI k)]) (n := 3) (Nat.le_of_ble_eq_true rfl)
  rw [lg_entry_eq]
  generalize (lg_sl ([.long w, .int (nI k)]) ++ List.replicate (3 - (lg_sl ([.long w, .int (nI k)])).length) Slot.unset).toArray = ls at hl ⊢
  have hl : lv_has ls 3 [(0, .long w), (2, .int (nI k))] := hl
  refine lv_iload_n hx hb dX3_highestBytes_0 rfl (lv_at hl 1 rfl) ?_
  refine lv_if_ne (tgt := 8) hx hb dX3_highestBytes_1 (by decide) (fun c_1 => ?_) (fun c_1 => ?_)
  · refine lv_lload_n hx hb dX3_highestBytes_8 rfl (lv_at hl 0 rfl) ?_
    refine lv_ldc2 (v := (-1)) hx hb hown (hts (.constantLong RX3 133 (-1)) (by decide +kernel)) dX3_highestBytes_9 ?_
    refine lv_bipush (v := 8) hx hb dX3_highestBytes_12 (by decide) ?_
    refine lv_bipush (v := 8) hx hb dX3_highestBytes_14 (by decide) ?_
    refine lv_iload_n hx hb dX3_highestBytes_16 rfl (lv_at hl 1 rfl) ?_
    refine lv_isub hx hb dX3_highestBytes_17 ?_
    refine lv_imul hx hb dX3_highestBytes_18 ?_
    refine lv_lshl hx hb dX3_highestBytes_19 rfl ?_
    refine lv_land hx hb dX3_highestBytes_20 ?_
    exact W.lret (v := w &&& ((-1) <<< ((8 * (8 - (nI k))).toInt64 &&& 63))) hx hb hr (fun t ht hW => ⟨_, rfl, kf_hb w k hk (fun h => c_1 ((kf_n0 hk).mpr h)), ht⟩) (fun _ h => nomatch h) dX3_highestBytes_21
  · refine lv_lconst (v := 0) hx hb dX3_highestBytes_4 (by decide) ?_
    refine lv_goto (tgt := 21) hx hb dX3_highestBytes_5 (by decide) ?_
    exact W.lret (v := 0) hx hb hr (fun t ht hW => ⟨_, rfl, by rw [(kf_n0 hk).mp c_1]; rfl, ht⟩) (fun _ h => nomatch h) dX3_highestBytes_21

set_option maxHeartbeats 4000000 in
set_option maxRecDepth 100000 in
theorem c_X4_cut (l : Launch) (w : Int64) (k : Nat) (hk : k ≤ 8) : Met l yX4_cut wsX4_cut { frames := 0, cells := 0, slots := 0, locals := 0 } (kz_P0 [.long w, .int (nI k)]) (vp_Sl (fun r => r = kf_cut w k)) 0 0 (fun _ => False) := by
  refine Met.ofW (cc := cX4_cut) (maxL := 3) (ret := (some .long)) (by decide) rfl ?_
  intro p e s m args below meth c s₁ B hml hv
  obtain ⟨rfl, -⟩ := hv
  have hx := B.exec
  have hb := B.bytes
  have hr := B.returns
  have hts := atoms_spec (ws := wsX4_cut) B.pre
  have hown : s.vm.findClass RX4 = some m.cls := findClass_of_methodNamed B.named
  have hlocks := B.notSynchronized
  have hl := lv_entry ([.long w, .int (nI k)]) (n := 3) (Nat.le_of_ble_eq_true rfl)
  rw [lg_entry_eq]
  generalize (lg_sl ([.long w, .int (nI k)]) ++ List.replicate (3 - (lg_sl ([.long w, .int (nI k)])).length) Slot.unset).toArray = ls at hl ⊢
  have hl : lv_has ls 3 [(0, .long w), (2, .int (nI k))] := hl
  refine lv_iload_n hx hb dX4_cut_0 rfl (lv_at hl 1 rfl) ?_
  refine lv_if_ne (tgt := 8) hx hb dX4_cut_1 (by decide) (fun c_1 => ?_) (fun c_1 => ?_)
  · refine lv_lload_n hx hb dX4_cut_8 rfl (lv_at hl 0 rfl) ?_
    refine lv_bipush (v := 64) hx hb dX4_cut_9 (by decide) ?_
    refine lv_bipush (v := 8) hx hb dX4_cut_11 (by decide) ?_
    refine lv_iload_n hx hb dX4_cut_13 rfl (lv_at hl 1 rfl) ?_
    refine lv_imul hx hb dX4_cut_14 ?_
    refine lv_isub hx hb dX4_cut_15 ?_
    refine lv_lshr hx hb dX4_cut_16 rfl ?_
    refine lv_bipush (v := 64) hx hb dX4_cut_17 (by decide) ?_
    refine lv_bipush (v := 8) hx hb dX4_cut_19 (by decide) ?_
    refine lv_iload_n hx hb dX4_cut_21 rfl (lv_at hl 1 rfl) ?_
    refine lv_imul hx hb dX4_cut_22 ?_
    refine lv_isub hx hb dX4_cut_23 ?_
    refine lv_lshl hx hb dX4_cut_24 rfl ?_
    exact W.lret (v := (w >>> ((64 - (8 * (nI k))).toInt64 &&& 63)) <<< ((64 - (8 * (nI k))).toInt64 &&& 63)) hx hb hr (fun t ht hW => ⟨_, rfl, kf_ct w k hk (fun h => c_1 ((kf_n0 hk).mpr h)), ht⟩) (fun _ h => nomatch h) dX4_cut_25
  · refine lv_lconst (v := 0) hx hb dX4_cut_4 (by decide) ?_
    refine lv_goto (tgt := 25) hx hb dX4_cut_5 (by decide) ?_
    exact W.lret (v := 0) hx hb hr (fun t ht hW => ⟨_, rfl, by rw [(kf_n0 hk).mp c_1]; rfl, ht⟩) (fun _ h => nomatch h) dX4_cut_25

theorem kf_sh3 : ∀ k : Fin 8, ((56 - 8 * nI k.val).toInt64.toUInt64 &&& Int64.toUInt64 63).toNat % 64 = 56 - 8 * k.val := by decide +kernel
theorem kf_part (w : Int64) (k : Nat) (h : k < 8) : (w.toUInt64 >>> ((56 - 8 * nI k).toInt64.toUInt64 &&& Int64.toUInt64 63)).toInt64.toInt32 &&& 255 = nI (un w / 2 ^ (56 - 8 * k) % 256) := by
  rw [pk_and _ 8 (by decide), kf_lo]
  have h1 : un (w.toUInt64 >>> ((56 - 8 * nI k).toInt64.toUInt64 &&& Int64.toUInt64 63)).toInt64 = (w.toUInt64 >>> ((56 - 8 * nI k).toInt64.toUInt64 &&& Int64.toUInt64 63)).toNat := rfl
  rw [h1, UInt64.toNat_shiftRight, kf_sh3 ⟨k, h⟩, Nat.shiftRight_eq_div_pow]
  have h3 : w.toUInt64.toNat = un w := rfl
  rw [h3]
  congr 1
  show un w / 2 ^ (56 - 8 * k) % 4294967296 % 256 = _
  omega

set_option maxHeartbeats 4000000 in
set_option maxRecDepth 100000 in
theorem c_X4_part (l : Launch) (w : Int64) (k : Nat) (hk : k < 8) : Met l yX4_part wsX4_part { frames := 0, cells := 0, slots := 0, locals := 0 } (kz_P0 [.long w, .int (nI k)]) (vp_Si (fun r => r = nI (un w / 2 ^ (56 - 8 * k) % 256))) 0 0 (fun _ => False) := by
  refine Met.ofW (cc := cX4_part) (maxL := 3) (ret := (some .int)) (by decide) rfl ?_
  intro p e s m args below meth c s₁ B hml hv
  obtain ⟨rfl, -⟩ := hv
  have hx := B.exec
  have hb := B.bytes
  have hr := B.returns
  have hts := atoms_spec (ws := wsX4_part) B.pre
  have hown : s.vm.findClass RX4 = some m.cls := findClass_of_methodNamed B.named
  have hlocks := B.notSynchronized
  have hl := lv_entry ([.long w, .int (nI k)]) (n := 3) (Nat.le_of_ble_eq_true rfl)
  rw [lg_entry_eq]
  generalize (lg_sl ([.long w, .int (nI k)]) ++ List.replicate (3 - (lg_sl ([.long w, .int (nI k)])).length) Slot.unset).toArray = ls at hl ⊢
  have hl : lv_has ls 3 [(0, .long w), (2, .int (nI k))] := hl
  refine lv_lload_n hx hb dX4_part_0 rfl (lv_at hl 0 rfl) ?_
  refine lv_bipush (v := 56) hx hb dX4_part_1 (by decide) ?_
  refine lv_bipush (v := 8) hx hb dX4_part_3 (by decide) ?_
  refine lv_iload_n hx hb dX4_part_5 rfl (lv_at hl 1 rfl) ?_
  refine lv_imul hx hb dX4_part_6 ?_
  refine lv_isub hx hb dX4_part_7 ?_
  refine lv_lushr hx hb dX4_part_8 rfl ?_
  refine lv_l2i hx hb dX4_part_9 rfl ?_
  refine lv_sipush (v := 255) hx hb dX4_part_10 (by decide) ?_
  refine lv_iand hx hb dX4_part_13 ?_
  exact W.iret (v := (((w.toUInt64 >>> ((56 - (8 * (nI k))).toInt64.toUInt64 &&& Int64.toUInt64 63)).toInt64).toInt32) &&& 255) hx hb hr (fun t ht hW => ⟨_, rfl, kf_part w k hk, ht⟩) (fun _ h => nomatch h) dX4_part_14

set_option maxHeartbeats 4000000 in
set_option maxRecDepth 100000 in
theorem c_X0_sizeOf (l : Launch) (b : Nat) (hbb : b < 2 ^ 31) : Met l yX0_sizeOf wsX0_sizeOf { frames := 0, cells := 0, slots := 0, locals := 0 } (kz_P0 [.int (nI b)]) (vp_Si (fun r => r = nI (kf_sz b))) 0 0 (fun _ => False) := by
  refine Met.ofW (cc := cX0_sizeOf) (maxL := 1) (ret := (some .int)) (by decide) rfl ?_
  intro p e s m args below meth c s₁ B hml hv
  obtain ⟨rfl, -⟩ := hv
  have hx := B.exec
  have hb := B.bytes
  have hr := B.returns
  have hts := atoms_spec (ws := wsX0_sizeOf) B.pre
  have hown : s.vm.findClass RX0 = some m.cls := findClass_of_methodNamed B.named
  have hlocks := B.notSynchronized
  have hl := lv_entry ([.int (nI b)]) (n := 1) (Nat.le_of_ble_eq_true rfl)
  rw [lg_entry_eq]
  generalize (lg_sl ([.int (nI b)]) ++ List.replicate (1 - (lg_sl ([.int (nI b)])).length) Slot.unset).toArray = ls at hl ⊢
  have hl : lv_has ls 1 [(0, .int (nI b))] := hl
  refine lv_iload_n hx hb dX0_sizeOf_0 rfl (lv_at hl 0 rfl) ?_
  refine lv_iconst (v := 4) hx hb dX0_sizeOf_1 (by decide) ?_
  refine lv_icmp_gt (tgt := 7) hx hb dX0_sizeOf_2 (by decide) (fun c_1 => ?_) (fun c_1 => ?_)
  · have kc_1 : ¬ b ≤ 4 := fun h => absurd c_1 (Int32.not_lt.mpr (nI_le h (by decide)))
    refine lv_iload_n hx hb dX0_sizeOf_7 rfl (lv_at hl 0 rfl) ?_
    refine lv_bipush (v := 16) hx hb dX0_sizeOf_8 (by decide) ?_
    refine lv_icmp_gt (tgt := 15) hx hb dX0_sizeOf_10 (by decide) (fun c_2 => ?_) (fun c_2 => ?_)
    · have kc_2 : ¬ b ≤ 16 := fun h => absurd c_2 (Int32.not_lt.mpr (nI_le h (by decide)))
      refine lv_iload_n hx hb dX0_sizeOf_15 rfl (lv_at hl 0 rfl) ?_
      refine lv_bipush (v := 48) hx hb dX0_sizeOf_16 (by decide) ?_
      refine lv_icmp_gt (tgt := 25) hx hb dX0_sizeOf_18 (by decide) (fun c_3 => ?_) (fun c_3 => ?_)
      · have kc_3 : ¬ b ≤ 48 := fun h => absurd c_3 (Int32.not_lt.mpr (nI_le h (by decide)))
        refine lv_iconst (v := 3) hx hb dX0_sizeOf_25 (by decide) ?_
        exact W.iret (v := 3) hx hb hr (fun t ht hW => ⟨_, rfl, by show _ = nI (kf_sz b); unfold kf_sz; rw [if_neg kc_1, if_neg kc_2, if_neg kc_3]; rfl, ht⟩) (fun _ h => nomatch h) dX0_sizeOf_26
      · have kc_3 : b ≤ 48 := (nI_leI hbb (by decide)).mp (Int32.not_lt.mp c_3)
        refine lv_iconst (v := 2) hx hb dX0_sizeOf_21 (by decide) ?_
        refine lv_goto (tgt := 26) hx hb dX0_sizeOf_22 (by decide) ?_
        exact W.iret (v := 2) hx hb hr (fun t ht hW => ⟨_, rfl, by show _ = nI (kf_sz b); unfold kf_sz; rw [if_neg kc_1, if_neg kc_2, if_pos kc_3]; rfl, ht⟩) (fun _ h => nomatch h) dX0_sizeOf_26
    · have kc_2 : b ≤ 16 := (nI_leI hbb (by decide)).mp (Int32.not_lt.mp c_2)
      refine lv_iconst (v := 1) hx hb dX0_sizeOf_13 (by decide) ?_
      exact W.iret (v := 1) hx hb hr (fun t ht hW => ⟨_, rfl, by show _ = nI (kf_sz b); unfold kf_sz; rw [if_neg kc_1, if_pos kc_2]; rfl, ht⟩) (fun _ h => nomatch h) dX0_sizeOf_14
  · have kc_1 : b ≤ 4 := (nI_leI hbb (by decide)).mp (Int32.not_lt.mp c_1)
    refine lv_iconst (v := 0) hx hb dX0_sizeOf_5 (by decide) ?_
    exact W.iret (v := 0) hx hb hr (fun t ht hW => ⟨_, rfl, by show _ = nI (kf_sz b); unfold kf_sz; rw [if_pos kc_1]; rfl, ht⟩) (fun _ h => nomatch h) dX0_sizeOf_6

set_option maxHeartbeats 4000000 in
set_option maxRecDepth 100000 in
theorem c_X4_sizeOf (l : Launch) (b : Nat) (hbb : b < 2 ^ 31) : Met l yX4_sizeOf wsX4_sizeOf { frames := 0, cells := 0, slots := 0, locals := 0 } (kz_P0 [.int (nI b)]) (vp_Si (fun r => r = nI (kf_sz b))) 0 0 (fun _ => False) := by
  refine Met.ofW (cc := cX4_sizeOf) (maxL := 1) (ret := (some .int)) (by decide) rfl ?_
  intro p e s m args below meth c s₁ B hml hv
  obtain ⟨rfl, -⟩ := hv
  have hx := B.exec
  have hb := B.bytes
  have hr := B.returns
  have hts := atoms_spec (ws := wsX4_sizeOf) B.pre
  have hown : s.vm.findClass RX4 = some m.cls := findClass_of_methodNamed B.named
  have hlocks := B.notSynchronized
  have hl := lv_entry ([.int (nI b)]) (n := 1) (Nat.le_of_ble_eq_true rfl)
  rw [lg_entry_eq]
  generalize (lg_sl ([.int (nI b)]) ++ List.replicate (1 - (lg_sl ([.int (nI b)])).length) Slot.unset).toArray = ls at hl ⊢
  have hl : lv_has ls 1 [(0, .int (nI b))] := hl
  refine lv_iload_n hx hb dX4_sizeOf_0 rfl (lv_at hl 0 rfl) ?_
  refine lv_iconst (v := 5) hx hb dX4_sizeOf_1 (by decide) ?_
  refine lv_icmp_ge (tgt := 9) hx hb dX4_sizeOf_2 (by decide) (fun c_1 => ?_) (fun c_1 => ?_)
  · have kc_1 : ¬ b ≤ 4 := fun h => absurd ((nI_leI (a := 5) (by decide) hbb).mp c_1) (by omega)
    refine lv_iload_n hx hb dX4_sizeOf_9 rfl (lv_at hl 0 rfl) ?_
    refine lv_bipush (v := 17) hx hb dX4_sizeOf_10 (by decide) ?_
    refine lv_icmp_ge (tgt := 19) hx hb dX4_sizeOf_12 (by decide) (fun c_2 => ?_) (fun c_2 => ?_)
    · have kc_2 : ¬ b ≤ 16 := fun h => absurd ((nI_leI (a := 17) (by decide) hbb).mp c_2) (by omega)
      refine lv_iload_n hx hb dX4_sizeOf_19 rfl (lv_at hl 0 rfl) ?_
      refine lv_bipush (v := 49) hx hb dX4_sizeOf_20 (by decide) ?_
      refine lv_icmp_ge (tgt := 29) hx hb dX4_sizeOf_22 (by decide) (fun c_3 => ?_) (fun c_3 => ?_)
      · have kc_3 : ¬ b ≤ 48 := fun h => absurd ((nI_leI (a := 49) (by decide) hbb).mp c_3) (by omega)
        refine lv_iconst (v := 3) hx hb dX4_sizeOf_29 (by decide) ?_
        exact W.iret (v := 3) hx hb hr (fun t ht hW => ⟨_, rfl, by show _ = nI (kf_sz b); unfold kf_sz; rw [if_neg kc_1, if_neg kc_2, if_neg kc_3]; rfl, ht⟩) (fun _ h => nomatch h) dX4_sizeOf_30
      · have kc_3 : b ≤ 48 := by
          have h9 : ¬ 49 ≤ b := fun h => c_3 ((nI_leI (a := 49) (by decide) hbb).mpr h)
          omega
        refine lv_iconst (v := 2) hx hb dX4_sizeOf_25 (by decide) ?_
        refine lv_goto (tgt := 30) hx hb dX4_sizeOf_26 (by decide) ?_
        exact W.iret (v := 2) hx hb hr (fun t ht hW => ⟨_, rfl, by show _ = nI (kf_sz b); unfold kf_sz; rw [if_neg kc_1, if_neg kc_2, if_pos kc_3]; rfl, ht⟩) (fun _ h => nomatch h) dX4_sizeOf_30
    · have kc_2 : b ≤ 16 := by
        have h9 : ¬ 17 ≤ b := fun h => c_2 ((nI_leI (a := 17) (by decide) hbb).mpr h)
        omega
      refine lv_iconst (v := 1) hx hb dX4_sizeOf_15 (by decide) ?_
      refine lv_goto (tgt := 30) hx hb dX4_sizeOf_16 (by decide) ?_
      exact W.iret (v := 1) hx hb hr (fun t ht hW => ⟨_, rfl, by show _ = nI (kf_sz b); unfold kf_sz; rw [if_neg kc_1, if_pos kc_2]; rfl, ht⟩) (fun _ h => nomatch h) dX4_sizeOf_30
  · have kc_1 : b ≤ 4 := by
      have h9 : ¬ 5 ≤ b := fun h => c_1 ((nI_leI (a := 5) (by decide) hbb).mpr h)
      omega
    refine lv_iconst (v := 0) hx hb dX4_sizeOf_5 (by decide) ?_
    refine lv_goto (tgt := 30) hx hb dX4_sizeOf_6 (by decide) ?_
    exact W.iret (v := 0) hx hb hr (fun t ht hW => ⟨_, rfl, by show _ = nI (kf_sz b); unfold kf_sz; rw [if_pos kc_1]; rfl, ht⟩) (fun _ h => nomatch h) dX4_sizeOf_30

set_option maxHeartbeats 4000000 in
set_option maxRecDepth 100000 in
theorem c_X3_bytesInCommon (l : Launch) (aa : Int64) (za : Nat) (bb : Int64) (zb : Nat) (hza : za ≤ 8) (hzb : zb ≤ 8) : Met l yX3_bytesInCommon wsX3_bytesInCommon { frames := 2, cells := 0, slots := 0, locals := 43 } (kz_P0 [.long aa, .int (nI za), .long bb, .int (nI zb)]) (vp_Si (fun r => r = nI (kf_cm aa za bb zb))) 0 0 (fun _ => False) := by
  refine Met.ofW (cc := cX3_bytesInCommon) (maxL := 7) (ret := (some .int)) (by decide) rfl ?_
  intro p e s m args below meth c s₁ B hml hv
  obtain ⟨rfl, -⟩ := hv
  have hx := B.exec
  have hb := B.bytes
  have hr := B.returns
  have hts := atoms_spec (ws := wsX3_bytesInCommon) B.pre
  have hown : s.vm.findClass RX3 = some m.cls := findClass_of_methodNamed B.named
  have hlocks := B.notSynchronized
  have hl := lv_entry ([.long aa, .int (nI za), .long bb, .int (nI zb)]) (n := 7) (Nat.le_of_ble_eq_true rfl)
  rw [lg_entry_eq]
  generalize (lg_sl ([.long aa, .int (nI za), .long bb, .int (nI zb)]) ++ List.replicate (7 - (lg_sl ([.long aa, .int (nI za), .long bb, .int (nI zb)])).length) Slot.unset).toArray = ls at hl ⊢
  have hl : lv_has ls 7 [(0, .long aa), (2, .int (nI za)), (3, .long bb), (5, .int (nI zb))] := hl
  refine lv_lload_n hx hb dX3_bytesInCommon_0 rfl (lv_at hl 0 rfl) ?_
  refine lv_lload_n hx hb dX3_bytesInCommon_1 rfl (lv_at hl 2 rfl) ?_
  refine lv_lxor hx hb dX3_bytesInCommon_2 ?_
  refine vp_callSi (va_runS (As := [.long (aa ^^^ bb)]) (rest := []) ⟨hx, hb, hml, hown, hts⟩ (c_J13_numberOfLeadingZeros_95d88 l (aa ^^^ bb)) (va_cwS 1 hts gX3_bytesInCommon_J13_numberOfLeadingZeros_95d88 rfl rfl rfl (by decide +kernel) ⟨Nat.le_of_ble_eq_true rfl, Nat.le_of_ble_eq_true rfl⟩) kz_ps0 rfl rfl hl.1 rfl (lv_room (Nat.le_of_ble_eq_true rfl)) dX3_bytesInCommon_3 ⟨Nat.zero_le _, Nat.zero_le _⟩).run (fun r_1 h_2 => ?_)
  obtain ⟨n9, hn9, rfl, hz⟩ := h_2
  refine lv_bipush (v := 8) hx hb dX3_bytesInCommon_6 (by decide) ?_
  refine lv_idiv hx hb dX3_bytesInCommon_8 (by decide) ?_
  refine kz_asi (y := nI (kf_al aa bb)) (by rw [kf_div8 hn9, kf_alike hn9 hz]) ?_
  refine lv_istore (lv' := [(6, .int (nI (kf_al aa bb))), (0, .long aa), (2, .int (nI za)), (3, .long bb), (5, .int (nI zb))]) hx hb dX3_bytesInCommon_9 hl (by decide) rfl (fun ls hl => ?_)
  refine lv_iload hx hb dX3_bytesInCommon_11 (lv_at hl 0 rfl) ?_
  refine lv_iload_n hx hb dX3_bytesInCommon_13 rfl (lv_at hl 2 rfl) ?_
  refine lv_iload hx hb dX3_bytesInCommon_14 (lv_at hl 4 rfl) ?_
  refine va_mmin hx hb (by rw [hml]; exact hl.1.symm) hown (hts (.methodLink RX3 141 Lib.Math.min.name) (by decide +kernel)) (hts (.static Lib.Math.min.name) (by decide +kernel)) (hts (.initialized "java/lang/Math") (by decide +kernel)) (hts (.code Lib.Math.min.name Lib.Math.min.code 2 (some .int)) (by decide +kernel)) (Nat.le_of_ble_eq_true rfl) (Nat.le_of_ble_eq_true rfl) (Nat.zero_le _) (Nat.zero_le _) dX3_bytesInCommon_16 ?_
  refine kz_asi (y := nI (min za zb)) (kf_min (by omega) (by omega)) ?_
  refine va_mmin hx hb (by rw [hml]; exact hl.1.symm) hown (hts (.methodLink RX3 141 Lib.Math.min.name) (by decide +kernel)) (hts (.static Lib.Math.min.name) (by decide +kernel)) (hts (.initialized "java/lang/Math") (by decide +kernel)) (hts (.code Lib.Math.min.name Lib.Math.min.code 2 (some .int)) (by decide +kernel)) (Nat.le_of_ble_eq_true rfl) (Nat.le_of_ble_eq_true rfl) (Nat.zero_le _) (Nat.zero_le _) dX3_bytesInCommon_19 ?_
  refine kz_asi (y := nI (min (kf_al aa bb) (min za zb))) (kf_min (by have := kf_al_le aa bb; omega) (by omega)) ?_
  exact W.iret (v := nI (min (kf_al aa bb) (min za zb))) hx hb hr (fun t ht hW => ⟨_, rfl, rfl, ht⟩) (fun _ h => nomatch h) dX3_bytesInCommon_22
