/-! forks -/
theorem kf_bg_self {fw : Nat → Int64} {zs : Nat → Nat} {i j : Nat} (h : j ≤ zs i) : kf_bg (fw i) (zs i) (kf_cut (fw i) j) j := ⟨h, rfl⟩
/-- the branches under way, behind i turns of ForkCounter's walk -/
theorem kf_cs_bs {fw : Nat → Int64} {zs : Nat → Nat} {nn : Nat} (h : kf_srt fw zs nn) (sq : Nat) : ∀ i, i < nn → ∀ j, j < 8 → (kf_cs fw zs sq i).2 j = if j ≤ zs i then kf_br fw zs (kf_cut (fw i) j) j (i + 1) else 0
  | 0, _, j, hj => by
    show 0 = _
    split
    · rename_i h1
      rw [kf_br_one (kf_bg_self h1) (fun t ht => absurd ht (by omega))]
    · rfl
  | i + 1, hi, j, hj => by
    have ih := kf_cs_bs h sq i (by omega)
    have h8 := kf_fk_le fw zs i
    have hfz := (kf_fk_iff fw zs i (kf_fk fw zs i) h8).mp (Nat.le_refl _)
    show kf_ab (kf_zr (kf_cs fw zs sq i).2 (kf_fk fw zs i + 1) (max (kf_fk fw zs i + 1) 8)) (kf_fk fw zs i) (if zs i = kf_fk fw zs i then 1 else 0) j = _
    rcases Nat.lt_trichotomy j (kf_fk fw zs i) with hl | he | hg
    · -- shorter than the fork
      have e1 : kf_ab (kf_zr (kf_cs fw zs sq i).2 (kf_fk fw zs i + 1) (max (kf_fk fw zs i + 1) 8)) (kf_fk fw zs i) (if zs i = kf_fk fw zs i then 1 else 0) j = (kf_cs fw zs sq i).2 j := by
        unfold kf_ab
        split
        · unfold kz_un
          rw [if_neg (by omega)]
          unfold kf_zr
          rw [if_neg (by omega)]
        · unfold kf_zr
          rw [if_neg (by omega)]
      rw [e1, ih j hj, if_pos (by omega), if_pos (by omega)]
      have hc : kf_cut (fw (i + 1)) j = kf_cut (fw i) j := ((kf_cut_eq _ _ j).mpr ((kf_fk_iff fw zs i j (by omega)).mp (by omega)).1).symm
      rw [hc]
      exact (kf_br_in h.2.2 (kf_bg_self (by omega)) hl).symm
    · -- the fork itself
      subst he
      have hc : kf_cut (fw (i + 1)) (kf_fk fw zs i) = kf_cut (fw i) (kf_fk fw zs i) := ((kf_cut_eq _ _ _).mpr hfz.1).symm
      have e2 : kf_zr (kf_cs fw zs sq i).2 (kf_fk fw zs i + 1) (max (kf_fk fw zs i + 1) 8) (kf_fk fw zs i) = kf_br fw zs (kf_cut (fw i) (kf_fk fw zs i)) (kf_fk fw zs i) (i + 1) := by
        unfold kf_zr
        rw [if_neg (by omega), ih _ hj, if_pos hfz.2.1]
      unfold kf_ab
      rw [if_pos hj]
      unfold kz_un
      rw [if_pos rfl, e2, if_pos hfz.2.2, hc, kf_br_at h hi (kf_bg_self hfz.2.1) rfl]
      congr 1
      by_cases hz : zs i = kf_fk fw zs i
      · rw [if_pos hz, if_neg (fun z => absurd z.2 (by decide)), if_neg (fun z => z.2 hz)]
      · rw [if_neg hz]
        by_cases hb : kf_br fw zs (kf_cut (fw i) (kf_fk fw zs i)) (kf_fk fw zs i) (i + 1) = 0
        · rw [if_pos ⟨hb, rfl⟩, if_pos ⟨hb, hz⟩]
        · rw [if_neg (fun z => hb z.1), if_neg (fun z => hb z.1)]
    · -- longer: ended
      have e1 : kf_ab (kf_zr (kf_cs fw zs sq i).2 (kf_fk fw zs i + 1) (max (kf_fk fw zs i + 1) 8)) (kf_fk fw zs i) (if zs i = kf_fk fw zs i then 1 else 0) j = 0 := by
        have e3 : kf_zr (kf_cs fw zs sq i).2 (kf_fk fw zs i + 1) (max (kf_fk fw zs i + 1) 8) j = 0 := by
          unfold kf_zr
          rw [if_pos (by omega)]
        unfold kf_ab
        split
        · unfold kz_un
          rw [if_neg (by omega), e3]
        · exact e3
      rw [e1]
      split
      · rename_i hjz
        refine (kf_br_one (kf_bg_self hjz) (fun t ht hb => ?_)).symm
        have h1 := kf_mid h (i := t) (j := i) (k := i + 1) (by omega) (by omega) hi hb (kf_bg_self hjz)
        have h2 := kf_bg_fk (by omega) h1 (kf_bg_self hjz)
        omega
      · rfl
theorem kf_br_8 {fw : Nat → Int64} {zs : Nat → Nat} {nn : Nat} (h : kf_srt fw zs nn) (v : Int64) : kf_br fw zs v 8 nn = 0 := by
  rcases Nat.eq_zero_or_pos (kf_br fw zs v 8 nn) with h1 | h1
  · exact h1
  · obtain ⟨t, h2, h3, h4⟩ := (kf_br_iff h (Nat.le_refl 8) nn (Nat.le_refl _)).mp h1
    have h5 := (kf_fk_iff fw zs t 8 (Nat.le_refl _)).mp (by omega)
    have h6 := kf_srt_l h (i := t) (j := t + 1) (by omega) (by omega)
    have h7 := h.2.2 t
    have h8 := h.2.2 (t + 1)
    have h9 := h5.1
    rw [show 64 - 8 * 8 = 0 from rfl, Nat.pow_zero, Nat.div_one, Nat.div_one] at h9
    omega
/-- the k-th key's first n bytes are a fork of the size -/
def kf_g (fw : Nat → Int64) (zs : Nat → Nat) (nn sq k : Nat) : Nat → Bool := fun n => decide (n ≤ zs k ∧ 0 < kf_br fw zs (kf_cut (fw k) n) n nn ∧ kf_sz (kf_br fw zs (kf_cut (fw k) n) n nn) = sq)
/-- .. and no later key begins with them -/
def kf_gl (fw : Nat → Int64) (zs : Nat → Nat) (nn sq k : Nat) : Nat → Bool := fun n => decide (kf_fk fw zs k < n) && kf_g fw zs nn sq k n
theorem kf_br_fin {fw : Nat → Int64} {zs : Nat → Nat} {nn : Nat} (h : kf_srt fw zs nn) {k j : Nat} (hk : k + 1 < nn) (hj : kf_fk fw zs k < j) (hz : j ≤ zs k) : kf_br fw zs (kf_cut (fw k) j) j (k + 1) = kf_br fw zs (kf_cut (fw k) j) j nn := by
  have h8 := h.2.2 k
  have e := kf_br_stay (fw := fw) (zs := zs) (v := kf_cut (fw k) j) (n := j) (i := k) (nn - (k + 1)) (fun t h1 h2 hb => by
    have h3 := kf_mid h (i := k) (j := k + 1) (k := t) (by omega) (by omega) (by omega) (kf_bg_self hz) hb
    have h4 := kf_bg_fk (by omega) (kf_bg_self hz) h3
    omega)
  rw [show k + 1 + (nn - (k + 1)) = nn from by omega] at e
  exact e.symm
theorem kf_cnt_9 {P : Nat → Bool} (h : P 8 = false) : kf_cnt P 9 = kf_cnt P 8 := kf_cnt_n (by rw [h]; decide)
theorem kf_g_8 {fw : Nat → Int64} {zs : Nat → Nat} {nn : Nat} (h : kf_srt fw zs nn) (sq k : Nat) : kf_g fw zs nn sq k 8 = false := by
  unfold kf_g
  rw [kf_br_8 h]
  simp
/-- what ends behind the k-th key -/
theorem kf_cs_end1 {fw : Nat → Int64} {zs : Nat → Nat} {nn : Nat} (h : kf_srt fw zs nn) (sq : Nat) {k : Nat} (hk : k + 1 < nn) : kf_cnt (kf_ep (kf_cs fw zs sq k).2 sq (kf_fk fw zs k + 1)) (max (kf_fk fw zs k + 1) 8) = kf_cnt (kf_gl fw zs nn sq k) 9 := by
  have h8 := kf_fk_le fw zs k
  have e0 : kf_cnt (kf_ep (kf_cs fw zs sq k).2 sq (kf_fk fw zs k + 1)) (max (kf_fk fw zs k + 1) 8) = kf_cnt (kf_ep (kf_cs fw zs sq k).2 sq (kf_fk fw zs k + 1)) 8 := by
    rw [show max (kf_fk fw zs k + 1) 8 = 8 + (max (kf_fk fw zs k + 1) 8 - 8) from by omega, kf_cnt_cut]
    intro j h1 h2
    cases h3 : kf_ep (kf_cs fw zs sq k).2 sq (kf_fk fw zs k + 1) j
    · rfl
    · have := kf_ep_iff.mp h3; omega
  rw [e0, kf_cnt_9 (by unfold kf_gl; rw [kf_g_8 h]; simp)]
  apply kf_cnt_ext
  intro j hj
  have e1 := kf_cs_bs h sq k (by omega) j hj
  rw [Bool.eq_iff_iff, kf_ep_iff]
  unfold kf_gl kf_g
  rw [Bool.and_eq_true, decide_eq_true_eq, decide_eq_true_eq, e1]
  by_cases hz : j ≤ zs k
  · rw [if_pos hz]
    constructor
    · rintro ⟨h1, h2, h3⟩
      rw [kf_br_fin h hk (by omega) hz] at h2 h3
      exact ⟨by omega, hz, h2, h3⟩
    · rintro ⟨h1, -, h2, h3⟩
      rw [kf_br_fin h hk h1 hz]
      exact ⟨by omega, h2, h3⟩
  · rw [if_neg hz]
    constructor
    · rintro ⟨h1, h2, h3⟩; omega
    · rintro ⟨h1, h2, h3⟩; omega
theorem kf_cs_end2 {fw : Nat → Int64} {zs : Nat → Nat} {nn : Nat} (h : kf_srt fw zs nn) (sq : Nat) {k : Nat} (hk : k + 1 = nn) : kf_cnt (kf_ep (kf_cs fw zs sq k).2 sq 0) (max 0 8) = kf_cnt (kf_g fw zs nn sq k) 9 := by
  rw [kf_cnt_9 (kf_g_8 h sq k)]
  apply kf_cnt_ext
  intro j hj
  have hj : j < 8 := hj
  have e1 := kf_cs_bs h sq k (by omega) j hj
  rw [Bool.eq_iff_iff, kf_ep_iff]
  unfold kf_g
  rw [decide_eq_true_eq, e1, ← hk]
  by_cases hz : j ≤ zs k
  · rw [if_pos hz]
    exact ⟨fun z => ⟨hz, z.2.1, z.2.2⟩, fun z => ⟨Nat.zero_le _, z.2.1, z.2.2⟩⟩
  · rw [if_neg hz]
    exact ⟨fun z => absurd z.2.1 (by decide), fun z => absurd z.1 hz⟩
theorem kf_cs_found {fw : Nat → Int64} {zs : Nat → Nat} {nn : Nat} (h : kf_srt fw zs nn) (sq : Nat) : ∀ i, i < nn → (kf_cs fw zs sq i).1 = kf_sum (fun k => kf_cnt (kf_gl fw zs nn sq k) 9) i
  | 0, _ => rfl
  | i + 1, hi => by
    show (kf_cs fw zs sq i).1 + _ = kf_sum _ i + _
    rw [kf_cs_found h sq i (by omega), kf_cs_end1 h sq hi]
/-! each fork once: at its first key, or at its last -/
/-- the k-th key is the first that begins with its n bytes -/
def kf_gf (fw : Nat → Int64) (zs : Nat → Nat) (nn sq k : Nat) : Nat → Bool := fun n => decide (k = 0 ∨ ¬ kf_bg (fw (k - 1)) (zs (k - 1)) (kf_cut (fw k) n) n) && kf_g fw zs nn sq k n
theorem kf_run {fw : Nat → Int64} {zs : Nat → Nat} {nn sq : Nat} (hz : ∀ j, zs j ≤ 8) (k n : Nat) (hn : n < 9) : (if kf_gf fw zs nn sq (k + 1) n then 1 else 0) + (if kf_g fw zs nn sq k n then 1 else 0) = (if kf_gl fw zs nn sq k n then 1 else 0) + (if kf_g fw zs nn sq (k + 1) n then 1 else 0) := by
  unfold kf_gf kf_gl
  rw [show k + 1 - 1 = k from rfl]
  by_cases h1 : n ≤ zs (k + 1)
  · by_cases h2 : kf_bg (fw k) (zs k) (kf_cut (fw (k + 1)) n) n
    · -- both begin alike
      have hf := kf_bg_fk (by omega) h2 (kf_bg_self h1)
      have hg : kf_g fw zs nn sq k n = kf_g fw zs nn sq (k + 1) n := by
        unfold kf_g
        rw [h2.2, Bool.eq_iff_iff, decide_eq_true_eq, decide_eq_true_eq]
        exact ⟨fun z => ⟨h1, z.2⟩, fun z => ⟨h2.1, z.2⟩⟩
      have e1 : decide (k + 1 = 0 ∨ ¬ kf_bg (fw k) (zs k) (kf_cut (fw (k + 1)) n) n) = false := decide_eq_false (fun z => z.elim (by omega) (fun z => z h2))
      have e2 : decide (kf_fk fw zs k < n) = false := decide_eq_false (by omega)
      rw [e1, e2, hg]
    · have e1 : decide (k + 1 = 0 ∨ ¬ kf_bg (fw k) (zs k) (kf_cut (fw (k + 1)) n) n) = true := decide_eq_true (Or.inr h2)
      rw [e1, Bool.true_and]
      by_cases h3 : n ≤ zs k
      · have hf : kf_fk fw zs k < n := by
          rcases Nat.lt_or_ge (kf_fk fw zs k) n with h4 | h4
          · exact h4
          · have h5 := (kf_fk_iff fw zs k n (by omega)).mp h4
            exact absurd ⟨h3, (kf_cut_eq _ _ n).mpr h5.1⟩ h2
        have e2 : decide (kf_fk fw zs k < n) = true := decide_eq_true hf
        rw [e2, Bool.true_and]
        omega
      · have e3 : kf_g fw zs nn sq k n = false := by
          unfold kf_g
          exact decide_eq_false (fun z => h3 z.1)
        rw [e3, Bool.and_false]
        simp
  · have e3 : kf_g fw zs nn sq (k + 1) n = false := by
      unfold kf_g
      exact decide_eq_false (fun z => h1 z.1)
    rw [e3, Bool.and_false]
    have hf : kf_fk fw zs k < n := by
      have : kf_fk fw zs k ≤ zs (k + 1) := by unfold kf_fk kf_cm; omega
      omega
    have e2 : decide (kf_fk fw zs k < n) = true := decide_eq_true hf
    rw [e2, Bool.true_and]
    simp
theorem kf_cnt_add {P Q R S : Nat → Bool} : ∀ n, (∀ j, j < n → (if P j then 1 else 0) + (if Q j then 1 else 0) = (if R j then 1 else 0) + (if S j then 1 else 0)) → kf_cnt P n + kf_cnt Q n = kf_cnt R n + kf_cnt S n
  | 0, _ => rfl
  | n + 1, h => by
    have h1 := kf_cnt_add n (fun j hj => h j (by omega))
    have h2 := h n (by omega)
    simp only [kf_cnt]
    omega
theorem kf_two {fw : Nat → Int64} {zs : Nat → Nat} {nn sq : Nat} (hz : ∀ j, zs j ≤ 8) : ∀ k, kf_sum (fun k => kf_cnt (kf_gf fw zs nn sq k) 9) (k + 1) = kf_sum (fun k => kf_cnt (kf_gl fw zs nn sq k) 9) k + kf_cnt (kf_g fw zs nn sq k) 9
  | 0 => by
    show 0 + kf_cnt (kf_gf fw zs nn sq 0) 9 = 0 + _
    congr 1
  | k + 1 => by
    have ih := kf_two hz (fw := fw) (nn := nn) (sq := sq) k
    have h1 := kf_cnt_add (P := kf_gf fw zs nn sq (k + 1)) (Q := kf_g fw zs nn sq k) (R := kf_gl fw zs nn sq k) (S := kf_g fw zs nn sq (k + 1)) 9 (fun j hj => kf_run hz k j hj)
    show kf_sum _ (k + 1) + kf_cnt (kf_gf fw zs nn sq (k + 1)) 9 = kf_sum _ k + kf_cnt (kf_gl fw zs nn sq k) 9 + _
    rw [ih]
    omega
theorem kf_sum_ext {f g : Nat → Nat} : ∀ n, (∀ j, j < n → f j = g j) → kf_sum f n = kf_sum g n
  | 0, _ => rfl
  | n + 1, h => by rw [kf_sum, kf_sum, kf_sum_ext n (fun j hj => h j (by omega)), h n (by omega)]
theorem kf_ft_gf {fw : Nat → Int64} {zs : Nat → Nat} (hz : ∀ j, zs j ≤ 8) (nn sq k : Nat) : kf_fF fw zs nn sq k = kf_cnt (kf_gf fw zs nn sq k) 9 := by
  have h8 := hz k
  unfold kf_fF
  have e := kf_cnt_cut (P := kf_gf fw zs nn sq k) (8 - zs k) (zs k + 1) (fun j h1 h2 => by
    unfold kf_gf kf_g
    rw [decide_eq_false (p := j ≤ zs k ∧ _) (fun z => by omega), Bool.and_false])
  rw [show (9 : Nat) = (zs k + 1) + (8 - zs k) from by omega, e]
  apply kf_cnt_ext
  intro j hj
  unfold kf_ft kf_gf kf_g kf_fb
  rw [Bool.eq_iff_iff, Bool.and_eq_true, decide_eq_true_eq, decide_eq_true_eq, decide_eq_true_eq]
  by_cases hc : k = 0 ∨ ¬ kf_bg (fw (k - 1)) (zs (k - 1)) (kf_cut (fw k) j) j
  · rw [if_pos hc]
    exact ⟨fun z => ⟨hc, by omega, z⟩, fun z => z.2.2⟩
  · rw [if_neg hc]
    exact ⟨fun z => absurd z.1 (by decide), fun z => absurd z.1 hc⟩
/-- ForkStore.forks and ForkStoreModel.forks are one number -/
theorem kf_forks_eq {fw : Nat → Int64} {zs : Nat → Nat} {nn : Nat} (h : kf_srt fw zs nn) (sq : Nat) : kf_forks fw zs sq nn = kf_sum (kf_fF fw zs nn sq) nn := by
  rw [kf_sum_ext nn (fun j _ => kf_ft_gf h.2.2 nn sq j)]
  unfold kf_forks
  cases nn with
  | zero =>
    show 0 + kf_cnt (kf_ep kf_z0 sq 0) (max 0 8) = 0
    have e : kf_cnt (kf_ep kf_z0 sq 0) (0 + 8) = kf_cnt (kf_ep kf_z0 sq 0) 0 := kf_cnt_cut 8 0 (fun j _ _ => by
      cases h3 : kf_ep kf_z0 sq 0 j
      · rfl
      · exact absurd (kf_ep_iff.mp h3).2.1 (by show ¬ 0 < 0; decide))
    exact e
  | succ m =>
    rw [show m + 1 - 1 = m from rfl, kf_two h.2.2 m, kf_cs_found h sq m (by omega), kf_cs_end2 h sq rfl]
