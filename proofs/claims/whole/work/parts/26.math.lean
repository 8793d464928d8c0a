/-! rows of keys in their order: what forks and branches are -/
/-- the keys are in their order, and a word's bytes behind the key's end are 0 -/
def kf_srt (fw : Nat → Int64) (zs : Nat → Nat) (nn : Nat) : Prop := (∀ i, i + 1 < nn → kf_lt (fw i) (zs i) (fw (i + 1)) (zs (i + 1)) = true) ∧ (∀ i, i < nn → kf_cut (fw i) (zs i) = fw i) ∧ ∀ j, zs j ≤ 8
theorem kf_srt_lt {fw : Nat → Int64} {zs : Nat → Nat} {nn : Nat} (h : kf_srt fw zs nn) : ∀ (d i : Nat), i + 1 + d < nn → un (fw i) < un (fw (i + 1 + d)) ∨ (un (fw i) = un (fw (i + 1 + d)) ∧ zs i < zs (i + 1 + d))
  | 0, i, hi => by
    rcases kf_lt_iff.mp (h.1 i hi) with h1 | h1
    · exact Or.inl h1
    · exact Or.inr ⟨congrArg un h1.1, h1.2⟩
  | d + 1, i, hi => by
    have h1 := kf_srt_lt h d i (by omega)
    have h2 : un (fw (i + 1 + d)) < un (fw (i + 1 + (d + 1))) ∨ (un (fw (i + 1 + d)) = un (fw (i + 1 + (d + 1))) ∧ zs (i + 1 + d) < zs (i + 1 + (d + 1))) := by
      rcases kf_lt_iff.mp (h.1 (i + 1 + d) (by omega)) with h1 | h1
      · exact Or.inl h1
      · exact Or.inr ⟨congrArg un h1.1, h1.2⟩
    omega
theorem kf_srt_l {fw : Nat → Int64} {zs : Nat → Nat} {nn : Nat} (h : kf_srt fw zs nn) {i j : Nat} (hij : i < j) (hj : j < nn) : un (fw i) < un (fw j) ∨ (un (fw i) = un (fw j) ∧ zs i < zs j) := by
  have h1 := kf_srt_lt h (j - i - 1) i (by omega)
  rw [show i + 1 + (j - i - 1) = j from by omega] at h1
  exact h1
theorem kf_dvd {x a b : Nat} (h : x / 2 ^ a * 2 ^ a = x) (hb : b ≤ a) : x / 2 ^ b * 2 ^ b = x := by
  apply Nat.div_mul_cancel
  have h1 : 2 ^ b ∣ 2 ^ a := Nat.pow_dvd_pow 2 hb
  have h2 : 2 ^ a ∣ x := ⟨x / 2 ^ a, by rw [Nat.mul_comm]; exact h.symm⟩
  exact Nat.dvd_trans h1 h2
theorem kf_srt_d {fw : Nat → Int64} {zs : Nat → Nat} {nn : Nat} (h : kf_srt fw zs nn) {i n : Nat} (hi : i < nn) (hn : zs i ≤ n) : un (fw i) / 2 ^ (64 - 8 * n) * 2 ^ (64 - 8 * n) = un (fw i) := by
  have h1 := congrArg un (h.2.1 i hi)
  rw [kf_un_cut] at h1
  exact kf_dvd h1 (by omega)
/-- a key between two that begin with (v, n) does so too -/
theorem kf_mid {fw : Nat → Int64} {zs : Nat → Nat} {nn : Nat} (h : kf_srt fw zs nn) {v : Int64} {n i j k : Nat} (hij : i ≤ j) (hjk : j ≤ k) (hk : k < nn) (hi : kf_bg (fw i) (zs i) v n) (hk2 : kf_bg (fw k) (zs k) v n) : kf_bg (fw j) (zs j) v n := by
  by_cases e1 : i = j
  · rw [← e1]; exact hi
  by_cases e2 : j = k
  · rw [e2]; exact hk2
  have h1 := kf_srt_l h (i := i) (j := j) (by omega) (by omega)
  have h2 := kf_srt_l h (i := j) (j := k) (by omega) hk
  have t1 : un (fw i) / 2 ^ (64 - 8 * n) = un (fw k) / 2 ^ (64 - 8 * n) := (kf_cut_eq _ _ n).mp (hi.2.trans hk2.2.symm)
  have m1 : un (fw i) / 2 ^ (64 - 8 * n) ≤ un (fw j) / 2 ^ (64 - 8 * n) := Nat.div_le_div_right (by omega)
  have m2 : un (fw j) / 2 ^ (64 - 8 * n) ≤ un (fw k) / 2 ^ (64 - 8 * n) := Nat.div_le_div_right (by omega)
  have t2 : un (fw j) / 2 ^ (64 - 8 * n) = un (fw i) / 2 ^ (64 - 8 * n) := by omega
  refine ⟨?_, ((kf_cut_eq _ _ n).mpr t2).trans hi.2⟩
  rcases Nat.lt_or_ge (zs j) n with h3 | h3
  · have h4 := kf_srt_d h (i := j) (n := n) (by omega) (by omega)
    rw [t2] at h4
    have h5 : un (fw i) / 2 ^ (64 - 8 * n) * 2 ^ (64 - 8 * n) ≤ un (fw i) := Nat.div_mul_le_self _ _
    have h6 := hi.1
    omega
  · exact h3
/-- (v, n) itself comes before the others that begin with it -/
theorem kf_fst {fw : Nat → Int64} {zs : Nat → Nat} {nn : Nat} (h : kf_srt fw zs nn) {v : Int64} {n k i : Nat} (hki : k < i) (hi : i < nn) (hz : zs i = n) (hb : kf_bg (fw i) (zs i) v n) (hk : kf_bg (fw k) (zs k) v n) : False := by
  have h1 := kf_srt_l h hki hi
  have h4 := kf_srt_d h (i := i) (n := n) hi (by omega)
  have t1 : un (fw i) / 2 ^ (64 - 8 * n) = un (fw k) / 2 ^ (64 - 8 * n) := (kf_cut_eq _ _ n).mp (hb.2.trans hk.2.symm)
  rw [t1] at h4
  have h5 : un (fw k) / 2 ^ (64 - 8 * n) * 2 ^ (64 - 8 * n) ≤ un (fw k) := Nat.div_mul_le_self _ _
  have h6 := hk.1
  omega
theorem kf_fk_iff (fw : Nat → Int64) (zs : Nat → Nat) (i n : Nat) (hn : n ≤ 8) : n ≤ kf_fk fw zs i ↔ (un (fw i) / 2 ^ (64 - 8 * n) = un (fw (i + 1)) / 2 ^ (64 - 8 * n) ∧ n ≤ zs i ∧ n ≤ zs (i + 1)) := by
  rw [← kf_al_iff (fw i) (fw (i + 1)) hn]
  unfold kf_fk kf_cm
  omega
/-- the byte behind the n-th -/
def kf_by8 (fw : Nat → Int64) (n i : Nat) : Nat := un (fw i) / 2 ^ (56 - 8 * n) % 256
theorem kf_nxt {fw : Nat → Int64} {n i j : Nat} (hn : n < 8) (h : un (fw i) / 2 ^ (64 - 8 * n) = un (fw j) / 2 ^ (64 - 8 * n)) : kf_by8 fw n i = kf_by8 fw n j ↔ un (fw i) / 2 ^ (64 - 8 * (n + 1)) = un (fw j) / 2 ^ (64 - 8 * (n + 1)) := by
  unfold kf_by8
  have e1 : 64 - 8 * (n + 1) = 56 - 8 * n := by omega
  have e2 : 2 ^ (64 - 8 * n) = 2 ^ (56 - 8 * n) * 256 := by
    rw [show 64 - 8 * n = (56 - 8 * n) + 8 from by omega, Nat.pow_add]
  rw [e1]
  rw [e2, ← Nat.div_div_eq_div_mul, ← Nat.div_div_eq_div_mul] at h
  constructor
  · intro h1; omega
  · intro h1; rw [h1]
theorem kf_by8_lt (fw : Nat → Int64) (n i : Nat) : kf_by8 fw n i < 256 := Nat.mod_lt _ (by decide)
theorem kf_nb {x : Nat} (h : x < 256) : ¬ nI x = -1 := fun z => by
  have h1 := nI_pos' (n := x) (by omega)
  rw [z] at h1
  exact absurd h1 (by decide)
/-- one key more, in the walk of branches -/
theorem kf_brs_no {mW : Nat → Int64} {mZ : Nat → Nat} {w : Int64} {y k : Nat} (h : ¬ kf_bg (mW k) (mZ k) w y) : kf_brs mW mZ w y (k + 1) = kf_brs mW mZ w y k := by rw [kf_brs, if_neg h]
theorem kf_brs_end {mW : Nat → Int64} {mZ : Nat → Nat} {w : Int64} {y k : Nat} (h : kf_bg (mW k) (mZ k) w y) (he : mZ k = y) : kf_brs mW mZ w y (k + 1) = ((kf_brs mW mZ w y k).1 + 1, (kf_brs mW mZ w y k).2.1, true, (kf_brs mW mZ w y k).2.2.2) := by rw [kf_brs, if_pos h, if_pos he]
theorem kf_brs_on {mW : Nat → Int64} {mZ : Nat → Nat} {w : Int64} {y k : Nat} (h : kf_bg (mW k) (mZ k) w y) (he : ¬ mZ k = y) : kf_brs mW mZ w y (k + 1) = ((kf_brs mW mZ w y k).1 + 1, (if nI (kf_by8 mW y k) = (kf_brs mW mZ w y k).2.2.2 then (kf_brs mW mZ w y k).2.1 else (kf_brs mW mZ w y k).2.1 + 1), (kf_brs mW mZ w y k).2.2.1, nI (kf_by8 mW y k)) := by
  rw [kf_brs, if_pos h, if_neg he]; rfl
theorem kf_brs_none {mW : Nat → Int64} {mZ : Nat → Nat} {w : Int64} {y : Nat} : ∀ k, (∀ t, t < k → ¬ kf_bg (mW t) (mZ t) w y) → kf_brs mW mZ w y k = (0, 0, false, -1)
  | 0, _ => rfl
  | k + 1, h => by
    rw [kf_brs_no (h k (by omega))]
    exact kf_brs_none k (fun t ht => h t (by omega))
theorem kf_brs_inv (mW : Nat → Int64) (mZ : Nat → Nat) (w : Int64) (y : Nat) : ∀ k, ((kf_brs mW mZ w y k).2.2.2 = -1 → (kf_brs mW mZ w y k).2.1 = 0) ∧ (¬ (kf_brs mW mZ w y k).2.2.2 = -1 → 1 ≤ (kf_brs mW mZ w y k).2.1 ∧ 1 ≤ (kf_brs mW mZ w y k).1) ∧ ((kf_brs mW mZ w y k).2.2.1 = true → 1 ≤ (kf_brs mW mZ w y k).1) ∧ ((kf_brs mW mZ w y k).2.2.1 = true → ¬ (kf_brs mW mZ w y k).2.2.2 = -1 → 2 ≤ (kf_brs mW mZ w y k).1)
  | 0 => by
    refine ⟨fun _ => rfl, fun h => absurd rfl h, fun h => ?_, fun h => ?_⟩ <;> exact absurd h (by show ¬ (false = true); decide)
  | k + 1 => by
    have ih := kf_brs_inv mW mZ w y k
    by_cases h : kf_bg (mW k) (mZ k) w y
    · by_cases he : mZ k = y
      · rw [kf_brs_end h he]
        refine ⟨ih.1, fun z => ?_, fun _ => ?_, fun _ z => ?_⟩
        · have := ih.2.1 z
          exact ⟨this.1, by show 1 ≤ _ + 1; omega⟩
        · show 1 ≤ _ + 1; omega
        · have := ih.2.1 z
          show 2 ≤ (kf_brs mW mZ w y k).1 + 1; omega
      · rw [kf_brs_on h he]
        have hn := kf_nb (kf_by8_lt mW y k)
        refine ⟨fun z => absurd z hn, fun _ => ⟨?_, ?_⟩, fun _ => ?_, fun z _ => ?_⟩
        · show 1 ≤ (if nI (kf_by8 mW y k) = (kf_brs mW mZ w y k).2.2.2 then (kf_brs mW mZ w y k).2.1 else (kf_brs mW mZ w y k).2.1 + 1)
          by_cases hq : nI (kf_by8 mW y k) = (kf_brs mW mZ w y k).2.2.2
          · rw [if_pos hq]
            exact (ih.2.1 (fun z => hn (hq.trans z))).1
          · rw [if_neg hq]; omega
        · show 1 ≤ _ + 1; omega
        · show 1 ≤ _ + 1; omega
        · have h3 := ih.2.2.1 z
          show 2 ≤ (kf_brs mW mZ w y k).1 + 1; omega
    · rw [kf_brs_no h]; exact ih
/-! how branches grow with one key more -/
theorem kf_br_no {mW : Nat → Int64} {mZ : Nat → Nat} {w : Int64} {y k : Nat} (h : ¬ kf_bg (mW k) (mZ k) w y) : kf_br mW mZ w y (k + 1) = kf_br mW mZ w y k := by
  unfold kf_br
  rw [kf_brs_no h]
theorem kf_br_one {mW : Nat → Int64} {mZ : Nat → Nat} {w : Int64} {y k : Nat} (h : kf_bg (mW k) (mZ k) w y) (hn : ∀ t, t < k → ¬ kf_bg (mW t) (mZ t) w y) : kf_br mW mZ w y (k + 1) = 0 := by
  unfold kf_br
  by_cases he : mZ k = y
  · rw [kf_brs_end h he, kf_brs_none k hn]
    exact if_neg (by decide)
  · rw [kf_brs_on h he, kf_brs_none k hn]
    rw [if_neg (kf_nb (kf_by8_lt mW y k))]
    dsimp only
    exact if_neg (by decide)
theorem kf_bg_nx {fw : Nat → Int64} {zs : Nat → Nat} {v : Int64} {n i : Nat} (hn : n ≤ 8) (hi : kf_bg (fw i) (zs i) v n) (hf : n ≤ kf_fk fw zs i) : kf_bg (fw (i + 1)) (zs (i + 1)) v n := by
  have h1 := (kf_fk_iff fw zs i n hn).mp hf
  exact ⟨h1.2.2, ((kf_cut_eq _ _ n).mpr h1.1).symm.trans hi.2⟩
theorem kf_bg_fk {fw : Nat → Int64} {zs : Nat → Nat} {v : Int64} {n i : Nat} (hn : n ≤ 8) (hi : kf_bg (fw i) (zs i) v n) (hj : kf_bg (fw (i + 1)) (zs (i + 1)) v n) : n ≤ kf_fk fw zs i :=
  (kf_fk_iff fw zs i n hn).mpr ⟨(kf_cut_eq _ _ n).mp (hi.2.trans hj.2.symm), hi.1, hj.1⟩
/-- the two neighbours go on alike: no branch more -/
theorem kf_br_in {fw : Nat → Int64} {zs : Nat → Nat} (hz : ∀ j, zs j ≤ 8) {v : Int64} {n i : Nat} (hi : kf_bg (fw i) (zs i) v n) (hf : n < kf_fk fw zs i) : kf_br fw zs v n (i + 2) = kf_br fw zs v n (i + 1) := by
  have h8 := kf_fk_le fw zs i
  have h1 := (kf_fk_iff fw zs i (n + 1) (by omega)).mp hf
  have h0 := (kf_fk_iff fw zs i n (by omega)).mp (by omega)
  have hj := kf_bg_nx (by omega) hi (Nat.le_of_lt hf)
  have hb : kf_by8 fw n i = kf_by8 fw n (i + 1) := (kf_nxt (by omega) h0.1).mpr h1.1
  have e1 := kf_brs_on hi (by omega : ¬ zs i = n)
  have e2 := kf_brs_on hj (by omega : ¬ zs (i + 1) = n)
  have iv := kf_brs_inv fw zs v n (i + 1)
  have hl : (kf_brs fw zs v n (i + 1)).2.2.2 = nI (kf_by8 fw n i) := by rw [e1]
  rw [hl] at iv e2
  rw [if_pos (by rw [hb])] at e2
  have hn := kf_nb (kf_by8_lt fw n i)
  unfold kf_br
  rw [show i + 2 = i + 1 + 1 from rfl, e2]
  generalize kf_brs fw zs v n (i + 1) = Q at iv
  obtain ⟨a, b, c, d⟩ := Q
  dsimp only at iv ⊢
  by_cases hc : 1 < b ∨ (c = true ∧ 1 < a)
  · rw [if_pos hc, if_pos]
    rcases hc with hc | hc
    · exact Or.inl hc
    · exact Or.inr ⟨hc.1, by omega⟩
  · rw [if_neg hc, if_neg]
    intro z
    rcases z with z | z
    · exact hc (Or.inl z)
    · exact hc (Or.inr ⟨z.1, by have := iv.2.2.2 z.1 hn; omega⟩)
/-- the two neighbours part here -/
theorem kf_br_at {fw : Nat → Int64} {zs : Nat → Nat} {nn : Nat} (h : kf_srt fw zs nn) {v : Int64} {n i : Nat} (hin : i + 1 < nn) (hi : kf_bg (fw i) (zs i) v n) (hf : n = kf_fk fw zs i) : kf_br fw zs v n (i + 2) = kf_br fw zs v n (i + 1) + (if kf_br fw zs v n (i + 1) = 0 ∧ ¬ zs i = n then 2 else 1) := by
  have h8 := kf_fk_le fw zs i
  have h0 := (kf_fk_iff fw zs i n (by omega)).mp (by omega)
  have hj := kf_bg_nx (by omega) hi (by omega)
  have hzj := h.2.2 (i + 1)
  have hzi := h.2.2 i
  have hje : ¬ zs (i + 1) = n := fun z => kf_fst h (by omega) hin z hj hi
  have e2 := kf_brs_on hj hje
  have iv := kf_brs_inv fw zs v n (i + 1)
  by_cases he : zs i = n
  · have hno : ∀ t, t < i → ¬ kf_bg (fw t) (zs t) v n := fun t ht hb => kf_fst h ht (by omega) he hi hb
    have e1 := kf_brs_end hi he
    rw [kf_brs_none i hno] at e1
    have b1 : kf_br fw zs v n (i + 1) = 0 := kf_br_one hi hno
    rw [b1, if_neg (fun z => z.2 he)]
    unfold kf_br
    rw [show i + 2 = i + 1 + 1 from rfl, e2, e1]
    rw [if_neg (kf_nb (kf_by8_lt fw n (i + 1)))]
    dsimp only
    exact if_pos (by decide)
  · have e1 := kf_brs_on hi he
    have hl : (kf_brs fw zs v n (i + 1)).2.2.2 = nI (kf_by8 fw n i) := by rw [e1]
    have hb : ¬ kf_by8 fw n (i + 1) = kf_by8 fw n i := fun z => by
      have z2 := (kf_nxt (by omega) h0.1).mp z.symm
      have z3 := (kf_fk_iff fw zs i (n + 1) (by omega)).mpr ⟨z2, by omega, by omega⟩
      omega
    have hn := kf_nb (kf_by8_lt fw n i)
    rw [hl] at iv e2
    rw [if_neg (fun z => hb ((nI_eq (by have := kf_by8_lt fw n (i + 1); omega) (by have := kf_by8_lt fw n i; omega)).mp z))] at e2
    unfold kf_br
    rw [show i + 2 = i + 1 + 1 from rfl, e2]
    generalize kf_brs fw zs v n (i + 1) = Q at iv
    obtain ⟨a, b, c, d⟩ := Q
    dsimp only at iv ⊢
    have hb1 := (iv.2.1 hn).1
    rw [if_pos (Or.inl (by omega))]
    by_cases hc : 1 < b ∨ (c = true ∧ 1 < a)
    · rw [if_pos hc, if_neg (by omega)]
    · rw [if_neg hc, if_pos ⟨rfl, he⟩]
      have : ¬ 1 < b := fun z => hc (Or.inl z)
      omega
/-- no key behind begins with it: the branches stay -/
theorem kf_br_stay {fw : Nat → Int64} {zs : Nat → Nat} {v : Int64} {n i : Nat} : ∀ d, (∀ t, i < t → t < i + 1 + d → ¬ kf_bg (fw t) (zs t) v n) → kf_br fw zs v n (i + 1 + d) = kf_br fw zs v n (i + 1)
  | 0, _ => rfl
  | d + 1, h => by
    rw [show i + 1 + (d + 1) = i + 1 + d + 1 from rfl, kf_br_no (h (i + 1 + d) (by omega) (by omega))]
    exact kf_br_stay d (fun t h1 h2 => h t h1 (by omega))
/-! depth -/
theorem kf_br_iff {fw : Nat → Int64} {zs : Nat → Nat} {nn : Nat} (h : kf_srt fw zs nn) {v : Int64} {n : Nat} (hn : n ≤ 8) : ∀ m, m ≤ nn → (0 < kf_br fw zs v n m ↔ ∃ t, t + 1 < m ∧ kf_bg (fw t) (zs t) v n ∧ kf_fk fw zs t = n)
  | 0, _ => by
    constructor
    · intro z; have := kf_br_le fw zs v n 0; omega
    · rintro ⟨t, ht, -⟩; omega
  | m + 1, hm => by
    have ih := kf_br_iff h hn m (by omega) (v := v)
    by_cases hb : kf_bg (fw m) (zs m) v n
    · by_cases hp : ∃ i, m = i + 1 ∧ kf_bg (fw i) (zs i) v n
      · obtain ⟨i, rfl, hi⟩ := hp
        have hf := kf_bg_fk hn hi hb
        by_cases he : n = kf_fk fw zs i
        · have e := kf_br_at h (by omega) hi he
          constructor
          · intro _; exact ⟨i, by omega, hi, he.symm⟩
          · intro _
            rw [show i + 1 + 1 = i + 2 from rfl, e]
            split <;> omega
        · rw [show i + 1 + 1 = i + 2 from rfl, kf_br_in h.2.2 hi (by omega), ih]
          constructor
          · rintro ⟨t, h1, h2, h3⟩; exact ⟨t, by omega, h2, h3⟩
          · rintro ⟨t, h1, h2, h3⟩
            refine ⟨t, ?_, h2, h3⟩
            rcases Nat.lt_or_ge (t + 1) (i + 1) with h4 | h4
            · exact h4
            · have : t = i := by omega
              subst this
              exact absurd h3.symm he
      · have hno : ∀ t, t < m → ¬ kf_bg (fw t) (zs t) v n := fun t ht hbt => by
          obtain ⟨i, rfl⟩ : ∃ i, m = i + 1 := ⟨m - 1, by omega⟩
          exact hp ⟨i, rfl, kf_mid h (i := t) (j := i) (k := i + 1) (by omega) (by omega) (by omega) hbt hb⟩
        rw [kf_br_one hb hno]
        constructor
        · intro z; omega
        · rintro ⟨t, h1, h2, h3⟩; exact absurd h2 (hno t (by omega))
    · rw [kf_br_no hb, ih]
      constructor
      · rintro ⟨t, h1, h2, h3⟩; exact ⟨t, by omega, h2, h3⟩
      · rintro ⟨t, h1, h2, h3⟩
        refine ⟨t, ?_, h2, h3⟩
        rcases Nat.lt_or_ge (t + 1) m with h4 | h4
        · exact h4
        · have : m = t + 1 := by omega
          subst this
          exact absurd (kf_bg_nx hn h2 (by omega)) hb
theorem kf_cut_cut (w : Int64) {n z : Nat} (hn : n ≤ z) (hz : z ≤ 8) : kf_cut (kf_cut w z) n = kf_cut w n := by
  rw [kf_cut_eq, kf_un_cut]
  have e : 2 ^ (64 - 8 * n) = 2 ^ (64 - 8 * z) * 2 ^ (8 * z - 8 * n) := by rw [← Nat.pow_add]; congr 1; omega
  rw [e, ← Nat.div_div_eq_div_mul, ← Nat.div_div_eq_div_mul, Nat.mul_div_cancel _ (Nat.two_pow_pos _)]
theorem kf_cm_bg {a w : Int64} {p z n : Nat} (hz : z ≤ 8) (hn : n ≤ 8) : n ≤ kf_cm a p (kf_cut w z) z ↔ (n ≤ z ∧ kf_bg a p (kf_cut w n) n) := by
  have h1 := kf_al_iff a (kf_cut w z) hn
  rw [← kf_cut_eq] at h1
  constructor
  · intro h
    have hnz : n ≤ z := by unfold kf_cm at h; omega
    refine ⟨hnz, by unfold kf_cm at h; omega, ?_⟩
    rw [← kf_cut_cut w hnz hz]
    exact h1.mp (by unfold kf_cm at h; omega)
  · rintro ⟨hnz, h2, h3⟩
    rw [← kf_cut_cut w hnz hz] at h3
    have h4 := h1.mpr h3
    unfold kf_cm
    omega
theorem kf_mk_bit (fw : Nat → Int64) (zs : Nat → Nat) (b : Int64) (y n : Nat) : ∀ m, (kf_mk fw zs b y m).testBit n = true ↔ ∃ t, t < m ∧ kf_fk fw zs t = n ∧ n ≤ kf_cm (fw t) (zs t) b y
  | 0 => by
    constructor
    · intro z; exact absurd z (by show ¬ (0 : Nat).testBit n = true; simp)
    · rintro ⟨t, ht, -⟩; omega
  | m + 1 => by
    have ih := kf_mk_bit fw zs b y n m
    unfold kf_mk
    split
    · rename_i h
      rw [Nat.testBit_or, Bool.or_eq_true, ih, Nat.testBit_two_pow, decide_eq_true_eq]
      constructor
      · rintro (⟨t, h1, h2, h3⟩ | h1)
        · exact ⟨t, by omega, h2, h3⟩
        · exact ⟨m, by omega, h1, by omega⟩
      · rintro ⟨t, h1, h2, h3⟩
        rcases Nat.lt_or_ge t m with h4 | h4
        · exact Or.inl ⟨t, h4, h2, h3⟩
        · have : t = m := by omega
          subst this
          exact Or.inr h2
    · rename_i h
      rw [ih]
      constructor
      · rintro ⟨t, h1, h2, h3⟩; exact ⟨t, by omega, h2, h3⟩
      · rintro ⟨t, h1, h2, h3⟩
        refine ⟨t, ?_, h2, h3⟩
        rcases Nat.lt_or_ge t m with h4 | h4
        · exact h4
        · have : t = m := by omega
          subst this
          exact absurd (by omega) h
theorem kf_cnt_ext {P Q : Nat → Bool} : ∀ n, (∀ j, j < n → P j = Q j) → kf_cnt P n = kf_cnt Q n
  | 0, _ => rfl
  | n + 1, h => by rw [kf_cnt, kf_cnt, kf_cnt_ext n (fun j hj => h j (by omega)), h n (by omega)]
theorem kf_cnt_cut {P : Nat → Bool} : ∀ (d n : Nat), (∀ j, n ≤ j → j < n + d → P j = false) → kf_cnt P (n + d) = kf_cnt P n
  | 0, _, _ => rfl
  | d + 1, n, h => by
    rw [show n + (d + 1) = n + d + 1 from rfl, kf_cnt_n (by rw [h (n + d) (by omega) (by omega)]; decide)]
    exact kf_cnt_cut d n (fun j h1 h2 => h j h1 (by omega))
theorem kf_pop_cnt (k : Nat) : kf_pop k = kf_cnt (fun j => k.testBit j) 9 := by
  unfold kf_pop
  have key : ∀ n, ((List.range n).filter (fun j => k.testBit j)).length = kf_cnt (fun j => k.testBit j) n := by
    intro n
    induction n with
    | zero => rfl
    | succ n ih =>
      rw [List.range_succ, List.filter_append, List.length_append, ih, kf_cnt]
      congr 1
      by_cases h : k.testBit n = true
      · simp [h]
      · simp [h]
  exact key 9
/-- ForkStore.depth and ForkStoreModel.depth are one number -/
theorem kf_depth {fw : Nat → Int64} {zs : Nat → Nat} {nn : Nat} (h : kf_srt fw zs nn) (w : Int64) {z : Nat} (hz : z ≤ 8) : kf_pop (kf_mk fw zs (kf_cut w z) z (nn - 1)) = kf_cnt (kf_dp fw zs w nn) (z + 1) := by
  rw [kf_pop_cnt]
  have key : ∀ j, j < 9 → ((kf_mk fw zs (kf_cut w z) z (nn - 1)).testBit j = true ↔ (j ≤ z ∧ kf_dp fw zs w nn j = true)) := by
    intro j hj
    rw [kf_mk_bit]
    unfold kf_dp
    rw [decide_eq_true_eq, kf_br_iff h (by omega) nn (Nat.le_refl _)]
    constructor
    · rintro ⟨t, h1, h2, h3⟩
      have h4 := (kf_cm_bg hz (by omega)).mp h3
      exact ⟨h4.1, t, by omega, h4.2, h2⟩
    · rintro ⟨h0, t, h1, h2, h3⟩
      exact ⟨t, by omega, h3, (kf_cm_bg hz (by omega)).mpr ⟨h0, h2⟩⟩
  rw [show (9 : Nat) = (z + 1) + (8 - z) from by omega, kf_cnt_cut]
  · apply kf_cnt_ext
    intro j hj
    have := key j (by omega)
    rw [Bool.eq_iff_iff]
    constructor
    · intro h1; exact (this.mp h1).2
    · intro h1; exact this.mpr ⟨by omega, h1⟩
  · intro j h1 h2
    have := key j (by omega)
    cases h3 : (kf_mk fw zs (kf_cut w z) z (nn - 1)).testBit j
    · rfl
    · exact absurd (this.mp h3).1 (by omega)
/-! within -/
theorem kf_within {fw : Nat → Int64} {zs : Nat → Nat} (w : Int64) {z : Nat} (hz : z ≤ 8) (nn : Nat) : kf_cnt (kf_bw fw zs (kf_cut w z) z) nn = kf_cnt (kf_mb fw zs (kf_cut w z) z) nn := by
  apply kf_cnt_ext
  intro j _
  unfold kf_bw kf_mb
  rw [Bool.eq_iff_iff, decide_eq_true_eq, decide_eq_true_eq]
  have h := kf_cm_bg (a := fw j) (w := w) (p := zs j) (z := z) (n := z) hz hz
  constructor
  · intro h1; exact (h.mp (by omega)).2
  · intro h1
    have h2 := h.mpr ⟨Nat.le_refl _, h1⟩
    have h3 : kf_cm (fw j) (zs j) (kf_cut w z) z ≤ z := by unfold kf_cm; omega
    omega
