/-! the order of the keys is kept -/
theorem kf_cbn_lt (fw : Nat → Int64) (zs : Nat → Nat) (b : Int64) (y : Nat) : ∀ f i j, i ≤ j → j < kf_cbn fw zs b y f i → kf_lt (fw j) (zs j) b y = true
  | 0, i, j, h1, h2 => by
    unfold kf_cbn at h2
    omega
  | f + 1, i, j, h1, h2 => by
    unfold kf_cbn at h2
    by_cases h : kf_lt (fw i) (zs i) b y = true
    · rw [if_pos h] at h2
      by_cases e : i = j
      · rw [← e]; exact h
      · exact kf_cbn_lt fw zs b y f (i + 1) j (by omega) h2
    · rw [if_neg h] at h2
      omega
theorem kf_cbn_at (fw : Nat → Int64) (zs : Nat → Nat) (b : Int64) (y : Nat) : ∀ f i, kf_cbn fw zs b y f i < i + f → kf_lt (fw (kf_cbn fw zs b y f i)) (zs (kf_cbn fw zs b y f i)) b y = false
  | 0, i, h => by
    unfold kf_cbn at h
    omega
  | f + 1, i, h => by
    by_cases h1 : kf_lt (fw i) (zs i) b y = true
    · have e : kf_cbn fw zs b y (f + 1) i = kf_cbn fw zs b y f (i + 1) := by
        rw [kf_cbn, if_pos h1]
      rw [e] at h ⊢
      exact kf_cbn_at fw zs b y f (i + 1) (by omega)
    · have e : kf_cbn fw zs b y (f + 1) i = i := by
        rw [kf_cbn, if_neg h1]
      rw [e]
      cases h2 : kf_lt (fw i) (zs i) b y
      · rfl
      · exact absurd h2 h1
theorem kf_lt_of {a b : Int64} {z y : Nat} (h : un a < un b ∨ (un a = un b ∧ z < y)) : kf_lt a z b y = true :=
  kf_lt_iff.mpr (h.elim Or.inl (fun h => Or.inr ⟨un_inj h.1, h.2⟩))
theorem kf_lt_from {a b : Int64} {z y : Nat} (h : kf_lt a z b y = true) : un a < un b ∨ (un a = un b ∧ z < y) :=
  (kf_lt_iff.mp h).elim Or.inl (fun h => Or.inr ⟨congrArg un h.1, h.2⟩)
theorem kf_cut_idem (w : Int64) {z : Nat} (hz : z ≤ 8) : kf_cut (kf_cut w z) z = kf_cut w z := kf_cut_cut w (Nat.le_refl _) hz
theorem kf_srt_ins {fw : Nat → Int64} {zs : Nat → Nat} {nn : Nat} (h : kf_srt fw zs nn) (w : Int64) {z : Nat} (hz : z ≤ 8) (hs : ¬ kf_st fw zs (kf_cut w z) z nn) :
    kf_srt (vp_updL (kf_up fw (kf_cb fw zs (kf_cut w z) z nn) nn) (kf_cb fw zs (kf_cut w z) z nn) (kf_cut w z)) (kz_un (kf_up zs (kf_cb fw zs (kf_cut w z) z nn) nn) (kf_cb fw zs (kf_cut w z) z nn) z) (nn + 1) := by
  have hk := kf_cb_le fw zs (kf_cut w z) z nn
  have hlt : ∀ j, j < kf_cb fw zs (kf_cut w z) z nn → kf_lt (fw j) (zs j) (kf_cut w z) z = true := fun j hj => kf_cbn_lt fw zs (kf_cut w z) z nn 0 j (Nat.zero_le _) hj
  have hat : kf_cb fw zs (kf_cut w z) z nn < nn → kf_lt (kf_cut w z) z (fw (kf_cb fw zs (kf_cut w z) z nn)) (zs (kf_cb fw zs (kf_cut w z) z nn)) = true := fun hj => by
    have h1 : kf_lt (fw (kf_cb fw zs (kf_cut w z) z nn)) (zs (kf_cb fw zs (kf_cut w z) z nn)) (kf_cut w z) z = false := kf_cbn_at fw zs (kf_cut w z) z nn 0 (by rw [Nat.zero_add]; exact hj)
    have h2 : ¬ (un (fw (kf_cb fw zs (kf_cut w z) z nn)) < un (kf_cut w z) ∨ (un (fw (kf_cb fw zs (kf_cut w z) z nn)) = un (kf_cut w z) ∧ zs (kf_cb fw zs (kf_cut w z) z nn) < z)) := fun q => by
      rw [kf_lt_of q] at h1
      cases h1
    have h3 : ¬ (un (fw (kf_cb fw zs (kf_cut w z) z nn)) = un (kf_cut w z) ∧ zs (kf_cb fw zs (kf_cut w z) z nn) = z) := fun q => hs ⟨hj, un_inj q.1, q.2⟩
    exact kf_lt_of (by omega)
  have hcc := kf_cut_idem w hz
  generalize kf_cut w z = v at hk hlt hat hcc ⊢
  generalize kf_cb fw zs v z nn = kk at hk hlt hat ⊢
  have eW : ∀ j, vp_updL (kf_up fw kk nn) kk v j = if j = kk then v else if kk < j ∧ j ≤ nn then fw (j - 1) else fw j := fun j => rfl
  have eZ : ∀ j, kz_un (kf_up zs kk nn) kk z j = if j = kk then z else if kk < j ∧ j ≤ nn then zs (j - 1) else zs j := fun j => rfl
  refine ⟨fun i hi => ?_, fun i hi => ?_, fun j => ?_⟩
  · rw [eW, eZ, eW, eZ]
    rcases Nat.lt_trichotomy i kk with h1 | h1 | h1
    · rw [if_neg (show ¬ i = kk by omega), if_neg (show ¬ (kk < i ∧ i ≤ nn) by omega), if_neg (show ¬ i = kk by omega), if_neg (show ¬ (kk < i ∧ i ≤ nn) by omega)]
      rcases Nat.lt_or_eq_of_le (show i + 1 ≤ kk from h1) with h2 | h2
      · rw [if_neg (show ¬ i + 1 = kk by omega), if_neg (show ¬ (kk < i + 1 ∧ i + 1 ≤ nn) by omega), if_neg (show ¬ i + 1 = kk by omega), if_neg (show ¬ (kk < i + 1 ∧ i + 1 ≤ nn) by omega)]
        exact h.1 i (by omega)
      · rw [if_pos h2, if_pos h2]
        exact hlt i h1
    · subst h1
      rw [if_pos rfl, if_pos rfl, if_neg (show ¬ i + 1 = i by omega), if_pos (show i < i + 1 ∧ i + 1 ≤ nn by omega), if_neg (show ¬ i + 1 = i by omega), if_pos (show i < i + 1 ∧ i + 1 ≤ nn by omega)]
      exact hat (by omega)
    · rw [if_neg (show ¬ i = kk by omega), if_pos (show kk < i ∧ i ≤ nn by omega), if_neg (show ¬ i = kk by omega), if_pos (show kk < i ∧ i ≤ nn by omega), if_neg (show ¬ i + 1 = kk by omega), if_pos (show kk < i + 1 ∧ i + 1 ≤ nn by omega), if_neg (show ¬ i + 1 = kk by omega), if_pos (show kk < i + 1 ∧ i + 1 ≤ nn by omega)]
      have h2 := h.1 (i - 1) (by omega)
      rw [show i - 1 + 1 = i from by omega] at h2
      exact h2
  · rw [eW, eZ]
    by_cases h1 : i = kk
    · rw [if_pos h1, if_pos h1]
      exact hcc
    · rw [if_neg h1, if_neg h1]
      by_cases h2 : kk < i ∧ i ≤ nn
      · rw [if_pos h2, if_pos h2]
        exact h.2.1 (i - 1) (by omega)
      · rw [if_neg h2, if_neg h2]
        exact h.2.1 i (by omega)
  · rw [eZ]
    split
    · exact hz
    · split
      · exact h.2.2 _
      · exact h.2.2 _
theorem kf_srt_out {fw : Nat → Int64} {zs : Nat → Nat} {nn : Nat} (h : kf_srt fw zs nn) (kk : Nat) : kf_srt (kf_dn fw kk (nn - 1)) (kf_dn zs kk (nn - 1)) (nn - 1) := by
  have eW : ∀ j, kf_dn fw kk (nn - 1) j = if kk ≤ j ∧ j < nn - 1 then fw (j + 1) else fw j := fun j => rfl
  have eZ : ∀ j, kf_dn zs kk (nn - 1) j = if kk ≤ j ∧ j < nn - 1 then zs (j + 1) else zs j := fun j => rfl
  refine ⟨fun i hi => ?_, fun i hi => ?_, fun j => ?_⟩
  · rw [eW, eZ, eW, eZ]
    rcases Nat.lt_or_ge i kk with h1 | h1
    · rw [if_neg (show ¬ (kk ≤ i ∧ i < nn - 1) by omega), if_neg (show ¬ (kk ≤ i ∧ i < nn - 1) by omega)]
      rcases Nat.lt_or_ge (i + 1) kk with h2 | h2
      · rw [if_neg (show ¬ (kk ≤ i + 1 ∧ i + 1 < nn - 1) by omega), if_neg (show ¬ (kk ≤ i + 1 ∧ i + 1 < nn - 1) by omega)]
        exact h.1 i (by omega)
      · rw [if_pos (show kk ≤ i + 1 ∧ i + 1 < nn - 1 by omega), if_pos (show kk ≤ i + 1 ∧ i + 1 < nn - 1 by omega)]
        exact kf_lt_of (kf_srt_l h (by omega) (by omega))
    · rw [if_pos (show kk ≤ i ∧ i < nn - 1 by omega), if_pos (show kk ≤ i ∧ i < nn - 1 by omega), if_pos (show kk ≤ i + 1 ∧ i + 1 < nn - 1 by omega), if_pos (show kk ≤ i + 1 ∧ i + 1 < nn - 1 by omega)]
      exact h.1 (i + 1) (by omega)
  · rw [eW, eZ]
    by_cases h1 : kk ≤ i ∧ i < nn - 1
    · rw [if_pos h1, if_pos h1]
      exact h.2.1 (i + 1) (by omega)
    · rw [if_neg h1, if_neg h1]
      exact h.2.1 i (by omega)
  · rw [eZ]
    split <;> exact h.2.2 _
/-! the rows of the model: what is written for one row stays out of the others -/
theorem kl_up_row {α : Type} (f : Nat → α) {kk nn ro : Nat} (hn : nn < 120) (h : 0 < ro) : kf_row (kf_up f kk nn) ro = kf_row f ro := by
  funext j
  unfold kf_row kf_up
  rw [if_neg (by omega)]
theorem kl_dn_row {α : Type} (f : Nat → α) {kk nn ro : Nat} (hn : nn ≤ 120) (h : 0 < ro) : kf_row (kf_dn f kk (nn - 1)) ro = kf_row f ro := by
  funext j
  unfold kf_row kf_dn
  rw [if_neg (by omega)]
theorem kl_uL_row (f : Nat → Int64) {kk ro : Nat} {x : Int64} (hk : kk < 120) (h : 0 < ro) : kf_row (vp_updL f kk x) ro = kf_row f ro := by
  funext j
  unfold kf_row vp_updL
  rw [if_neg (by omega)]
theorem kl_u_row (f : Nat → Int32) {kk ro : Nat} {x : Int32} (hk : kk < 120) (h : 0 < ro) : kf_row (upd f kk x) ro = kf_row f ro := by
  funext j
  unfold kf_row
  exact pk_un (by omega)
theorem kl_un_row (f : Nat → Nat) {kk ro : Nat} {x : Nat} (hk : kk < 120) (h : 0 < ro) : kf_row (kz_un f kk x) ro = kf_row f ro := by
  funext j
  unfold kf_row kz_un
  rw [if_neg (by omega)]
/-- the row copied -/
theorem kl_cq_same {α : Type} (f : Nat → α) (ro n : Nat) : kf_row (kf_cq f (120 * ro) n) ro = kf_cp f (kf_row f ro) n := by
  funext j
  unfold kf_row kf_cq kf_cp
  by_cases h : j < n
  · rw [if_pos (by omega), if_pos h, show 120 * ro + j - 120 * ro = j from by omega]
  · rw [if_neg (by omega), if_neg h]
theorem kl_cq_other {α : Type} (f : Nat → α) {ro r2 n j : Nat} (hn : n ≤ 120) (hr : ro ≠ r2) (hj : j < 120) : kf_row (kf_cq f (120 * ro) n) r2 j = kf_row f r2 j := by
  unfold kf_row kf_cq
  rw [if_neg (by omega)]
theorem kl_cq_main {α : Type} (f : Nat → α) {ro n j : Nat} (hr : 0 < ro) (hj : j < 120) : kf_cq f (120 * ro) n j = f j := by
  unfold kf_cq
  rw [if_neg (by omega)]
/-! cells that hold the same -/
theorem kl_arr {cA : ClassId} {n : Nat} {f g : Nat → Value} (e : ∀ j, j < n → f j = g j) : arrV cA n f = arrV cA n g := by
  unfold arrV
  rw [show (fun j : Fin n => f j.val) = fun j : Fin n => g j.val from funext fun j => e j.val j.isLt]
def kl_al (q q' : Nat × va_E) : Prop := q.1 = q'.1 ∧ ∀ (D : va_G) (cl : List vw_C) (H : Heap), va_at D cl q H → va_at D cl q' H
theorem kl_r {q : Nat × va_E} : kl_al q q := ⟨rfl, fun _ _ _ h => h⟩
theorem kl_J {a : Nat} {cA : ClassId} {n : Nat} {f g : Nat → Int64} (e : ∀ j, j < n → f j = g j) : kl_al (a, .inl (cA, n, .inr (.inl f))) (a, .inl (cA, n, .inr (.inl g))) :=
  ⟨rfl, fun D cl H h => by
    have h' : H[a]? = some (arrV cA n (fun j => .long (f j))) := h
    show H[a]? = some (arrV cA n (fun j => .long (g j)))
    exact h'.trans (congrArg some (kl_arr (fun j hj => congrArg Value.long (e j hj))))⟩
theorem kl_I {a : Nat} {cA : ClassId} {n : Nat} {f g : Nat → Int32} (e : ∀ j, j < n → f j = g j) : kl_al (a, .inl (cA, n, .inl f)) (a, .inl (cA, n, .inl g)) :=
  ⟨rfl, fun D cl H h => by
    have h' : H[a]? = some (arrV cA n (fun j => .int (f j))) := h
    show H[a]? = some (arrV cA n (fun j => .int (g j)))
    exact h'.trans (congrArg some (kl_arr (fun j hj => congrArg Value.int (e j hj))))⟩
theorem kl_Z {a : Nat} {cA : ClassId} {n : Nat} {f g : Nat → Nat} (e : ∀ j, j < n → f j = g j) : kl_al (a, .inl (cA, n, .inl (kz_z f))) (a, .inl (cA, n, .inl (kz_z g))) :=
  kl_I (fun j hj => by unfold kz_z; rw [e j hj])
def kl_all : va_W → va_W → Prop
  | [], [] => True
  | q :: ws, q' :: ws' => kl_al q q' ∧ kl_all ws ws'
  | _, _ => False
theorem kl_all_at : ∀ {ws ws' : va_W}, kl_all ws ws' → ∀ (k : Nat) (q' : Nat × va_E), ws'[k]? = some q' → ∃ q, ws[k]? = some q ∧ kl_al q q'
  | [], [], _, k, q', h => by simp at h
  | q :: ws, q2 :: ws', h, 0, q', h' => by
    cases h'
    exact ⟨q, rfl, h.1⟩
  | q :: ws, q2 :: ws', h, k + 1, q', h' => by
    obtain ⟨x, h1, h2⟩ := kl_all_at h.2 k q' (by simpa using h')
    exact ⟨x, by simpa using h1, h2⟩
  | [], _ :: _, h, _, _, _ => h.elim
  | _ :: _, [], h, _, _, _ => h.elim
theorem kl_P {D : va_G} {cl : List vw_C} {H : Heap} {ws ws' : va_W} (h : kl_all ws ws') (hP : va_P D cl ws H) : va_P D cl ws' H := fun k q' hk => by
  obtain ⟨q, h1, h2⟩ := kl_all_at h k q' hk
  exact h2.2 D cl H (hP k q h1)
theorem kl_D {A : Nat → Prop} {ws ws' : va_W} (h : kl_all ws ws') (hD : va_D A ws) : va_D A ws' := by
  refine ⟨fun i j x y hi hj hxy => ?_, fun k q hk => ?_⟩
  · obtain ⟨a, h1, h2⟩ := kl_all_at h i x hi
    obtain ⟨b, h3, h4⟩ := kl_all_at h j y hj
    exact hD.1 i j a b h1 h3 (by rw [h2.1, h4.1]; exact hxy)
  · obtain ⟨a, h1, h2⟩ := kl_all_at h k q hk
    rw [← h2.1]
    exact hD.2 k a h1
theorem kl_Je {a : Nat} {cA : ClassId} {n : Nat} {f g : Nat → Int64} (e : g = f) : kl_al (a, .inl (cA, n, .inr (.inl f))) (a, .inl (cA, n, .inr (.inl g))) := by subst e; exact kl_r
theorem kl_Ie {a : Nat} {cA : ClassId} {n : Nat} {f g : Nat → Int32} (e : g = f) : kl_al (a, .inl (cA, n, .inl f)) (a, .inl (cA, n, .inl g)) := by subst e; exact kl_r
theorem kl_Ze {a : Nat} {cA : ClassId} {n : Nat} {f g : Nat → Nat} (e : g = f) : kl_al (a, .inl (cA, n, .inl (kz_z f))) (a, .inl (cA, n, .inl (kz_z g))) := by subst e; exact kl_r
theorem kl_c {q q' : Nat × va_E} {ws ws' : va_W} (h : kl_al q q') (t : kl_all ws ws') : kl_all (q :: ws) (q' :: ws') := ⟨h, t⟩
theorem kl_n : kl_all [] [] := trivial
/-! numbers -/
theorem kl_ok {zz : Nat} (h : zz ≤ 8) : (0 : Int32) ≤ nI zz ∧ nI zz ≤ 8 := ⟨nI_pos' (by omega), nI_le (b := 8) h (by decide)⟩
theorem kl_zn {zz : Nat} (h : zz ≤ 8) : kf_zn (nI zz) = zz := nI_clamp (by omega)
theorem kl_inj {a b : Nat} (ha : a ≤ 8) (hb : b ≤ 8) {x : Int32} (h1 : x = nI a) (h2 : x = nI b) : a = b := (nI_eq (by omega) (by omega)).mp (h1.symm.trans h2)
theorem kl_jj {j jj : Nat} (hj : j < 3) (h : jj < 3) {rr : Int32} (e : rr = nI jj) (e2 : rr = nI j) : jj = j := (nI_eq (by omega) (by omega)).mp (e.symm.trans e2)
theorem kl_ite {P A B : Prop} {inst : Decidable P} (h : if P then A else B) : (P ∧ A) ∨ (¬ P ∧ B) := by
  by_cases hp : P
  · rw [if_pos hp] at h; exact Or.inl ⟨hp, h⟩
  · rw [if_neg hp] at h; exact Or.inr ⟨hp, h⟩
theorem kl_no {po : Nat → Bool} {rr : Int32} (h : kf_no (po 0) (po 1) (po 2) rr) : kf_mop po rr = false := by
  cases hm : kf_mop po rr
  · rfl
  · obtain ⟨jj, h1, h2, h3⟩ := kf_mop_t hm
    rcases (show jj = 0 ∨ jj = 1 ∨ jj = 2 by omega) with rfl | rfl | rfl
    · exact (h.1 ⟨h2, h3⟩).elim
    · exact (h.2.1 ⟨h2, h3⟩).elim
    · exact (h.2.2 ⟨h2, h3⟩).elim
theorem kl_op {po : Nat → Bool} {rr : Int32} {j : Nat} (hj : j < 3) (e : rr = nI j) (h : po j = true) : kf_mop po rr = true := by
  rw [e, kf_mop_n hj]; exact h
theorem kl_nc {po : Nat → Bool} {rr : Int32} (h : kf_nc (po 0) (po 1) (po 2) rr) {jj : Nat} (h1 : jj < 3) (h2 : rr = nI jj) : po jj = true := by
  cases h3 : po jj
  · rcases (show jj = 0 ∨ jj = 1 ∨ jj = 2 by omega) with rfl | rfl | rfl
    · exact (h.1 ⟨h2, h3⟩).elim
    · exact (h.2.1 ⟨h2, h3⟩).elim
    · exact (h.2.2 ⟨h2, h3⟩).elim
  · rfl
theorem kl_on {α : Type} (f : Nat → α) (d : α) {cs : Nat → Nat} {po : Nat → Bool} {pw : Nat → Nat} {pt0 pt1 pt2 : Nat} (rr : Int32) (h0 : po 0 = true → pt0 = pw 0) (h1 : po 1 = true → pt1 = pw 1) (h2 : po 2 = true → pt2 = pw 2) :
    kf_by (po 0) (po 1) (po 2) rr (if 0 < pt0 ∧ pt0 ≤ cs 1 then f (120 * 1 + (pt0 - 1)) else d) (if 0 < pt1 ∧ pt1 ≤ cs 2 then f (120 * 2 + (pt1 - 1)) else d) (if 0 < pt2 ∧ pt2 ≤ cs 3 then f (120 * 3 + (pt2 - 1)) else d) d = (kf_onc cs po pw rr).elim d f := by
  have key : ∀ (j : Nat), j < 3 → rr = nI j → po j = true → ∀ pt, pt = pw j → (if 0 < pt ∧ pt ≤ cs (j + 1) then f (120 * (j + 1) + (pt - 1)) else d) = (kf_onc cs po pw rr).elim d f := by
    intro j hj e hp pt ept
    have hm : kf_mop po rr = true := kl_op hj e hp
    have hz : kf_zn rr = j := by rw [e]; exact nI_clamp (by omega)
    unfold kf_onc
    rw [hz, ept]
    by_cases hc : 0 < pw j ∧ pw j ≤ cs (j + 1)
    · rw [if_pos hc, if_pos (show kf_mop po rr = true ∧ 0 < pw j ∧ pw j ≤ cs (j + 1) from ⟨hm, hc⟩)]
      rfl
    · rw [if_neg hc, if_neg (show ¬ (kf_mop po rr = true ∧ 0 < pw j ∧ pw j ≤ cs (j + 1)) from fun z => hc z.2)]
      rfl
  unfold kf_by
  by_cases c0 : rr = 0 ∧ po 0 = true
  · rw [if_pos c0]
    exact key 0 (by decide) c0.1 c0.2 pt0 (h0 c0.2)
  rw [if_neg c0]
  by_cases c1 : rr = 1 ∧ po 1 = true
  · rw [if_pos c1]
    exact key 1 (by decide) c1.1 c1.2 pt1 (h1 c1.2)
  rw [if_neg c1]
  by_cases c2 : rr = 2 ∧ po 2 = true
  · rw [if_pos c2]
    exact key 2 (by decide) c2.1 c2.2 pt2 (h2 c2.2)
  rw [if_neg c2]
  have hm := kl_no ⟨c0, c1, c2⟩
  unfold kf_onc
  rw [if_neg (show ¬ (kf_mop po rr = true ∧ 0 < pw (kf_zn rr) ∧ pw (kf_zn rr) ≤ cs (kf_zn rr + 1)) from fun z => by rw [hm] at z; exact absurd z.1 (by decide))]
  rfl
theorem kl_srt_cq {fw : Nat → Int64} {zs : Nat → Nat} {n : Nat} (h : kf_srt fw zs n) (hn : n ≤ 120) {ro k : Nat} (hr : 0 < ro) : kf_srt (kf_cq fw (120 * ro) k) (kf_cq zs (120 * ro) k) n := by
  have eW : ∀ j, j < 120 → kf_cq fw (120 * ro) k j = fw j := fun j hj => kl_cq_main fw hr hj
  have eZ : ∀ j, j < 120 → kf_cq zs (120 * ro) k j = zs j := fun j hj => kl_cq_main zs hr hj
  refine ⟨fun i hi => ?_, fun i hi => ?_, fun j => ?_⟩
  · rw [eW i (by omega), eZ i (by omega), eW (i + 1) (by omega), eZ (i + 1) (by omega)]
    exact h.1 i hi
  · rw [eW i (by omega), eZ i (by omega)]
    exact h.2.1 i hi
  · unfold kf_cq
    split <;> exact h.2.2 _
/-! what the model's numbers keep to -/
def kl_rd (po : Nat → Bool) (pw cs : Nat → Nat) (j pt : Nat) : Prop := pt ≤ 1000 ∧ (po j = true → pt = pw j ∧ pw j ≤ cs (j + 1) + 1)
def kl_M (cs : Nat → Nat) (mW : Nat → Int64) (mZ : Nat → Nat) (po : Nat → Bool) (pw : Nat → Nat) (pt0 pt1 pt2 : Nat) : Prop :=
  kf_srt mW mZ (cs 0) ∧ (∀ j, cs j ≤ 120) ∧ (∀ j, pw j ≤ 1000) ∧ kl_rd po pw cs 0 pt0 ∧ kl_rd po pw cs 1 pt1 ∧ kl_rd po pw cs 2 pt2
theorem kl_un_le {cs : Nat → Nat} {k n M : Nat} (h : ∀ j, cs j ≤ M) (hn : n ≤ M) : ∀ j, kz_un cs k n j ≤ M := fun j => by
  unfold kz_un
  split
  · exact hn
  · exact h j
theorem kl_M_ins {cs : Nat → Nat} {mW : Nat → Int64} {mZ : Nat → Nat} {po : Nat → Bool} {pw : Nat → Nat} {pt0 pt1 pt2 : Nat} (h : kl_M cs mW mZ po pw pt0 pt1 pt2) (w : Int64) {z : Nat} (hz : z ≤ 8) (hs : ¬ kf_st mW mZ (kf_cut w z) z (cs 0)) (hn : cs 0 < 120) :
    kl_M (kz_un cs 0 (cs 0 + 1)) (vp_updL (kf_up mW (kf_cb mW mZ (kf_cut w z) z (cs 0)) (cs 0)) (kf_cb mW mZ (kf_cut w z) z (cs 0)) (kf_cut w z)) (kz_un (kf_up mZ (kf_cb mW mZ (kf_cut w z) z (cs 0)) (cs 0)) (kf_cb mW mZ (kf_cut w z) z (cs 0)) z) po pw pt0 pt1 pt2 :=
  ⟨kf_srt_ins h.1 w hz hs, kl_un_le h.2.1 hn, h.2.2.1, h.2.2.2.1, h.2.2.2.2.1, h.2.2.2.2.2⟩
theorem kl_M_out {cs : Nat → Nat} {mW : Nat → Int64} {mZ : Nat → Nat} {po : Nat → Bool} {pw : Nat → Nat} {pt0 pt1 pt2 : Nat} (h : kl_M cs mW mZ po pw pt0 pt1 pt2) (kk : Nat) :
    kl_M (kz_un cs 0 (cs 0 - 1)) (kf_dn mW kk (cs 0 - 1)) (kf_dn mZ kk (cs 0 - 1)) po pw pt0 pt1 pt2 :=
  ⟨kf_srt_out h.1 kk, kl_un_le h.2.1 (Nat.le_trans (Nat.sub_le _ _) (h.2.1 0)), h.2.2.1, h.2.2.2.1, h.2.2.2.2.1, h.2.2.2.2.2⟩
theorem kl_rd_un {po : Nat → Bool} {pw cs : Nat → Nat} {j pt k n : Nat} (h : kl_rd po pw cs j pt) (hk : k ≠ j + 1) : kl_rd po pw (kz_un cs k n) j pt := by
  unfold kl_rd kz_un
  rw [if_neg (fun z => hk z.symm)]
  exact h
theorem kl_rd_pw {po : Nat → Bool} {pw cs : Nat → Nat} {j pt k n : Nat} (h : kl_rd po pw cs j pt) (hk : k ≠ j) : kl_rd po (kz_un pw k n) cs j pt := by
  unfold kl_rd kz_un
  rw [if_neg (fun z => hk z.symm)]
  exact h
theorem kl_rd_po {po : Nat → Bool} {pw cs : Nat → Nat} {j pt k : Nat} {b : Bool} (h : kl_rd po pw cs j pt) (hk : k ≠ j) : kl_rd (kz_ub po k b) pw cs j pt := by
  unfold kl_rd kz_ub
  rw [if_neg (fun z => hk z.symm)]
  exact h
theorem kl_rd_off {po : Nat → Bool} {pw cs : Nat → Nat} {j pt : Nat} (h : kl_rd po pw cs j pt) : kl_rd (kz_ub po j false) pw cs j pt := by
  refine ⟨h.1, fun z => ?_⟩
  unfold kz_ub at z
  rw [if_pos rfl] at z
  cases z
theorem kl_rd_at {po : Nat → Bool} {pw cs : Nat → Nat} {j n : Nat} (hn : n ≤ cs (j + 1) + 1) (hc : cs (j + 1) ≤ 120) : kl_rd po (kz_un pw j n) cs j n := by
  have e : kz_un pw j n j = n := if_pos rfl
  exact ⟨by omega, fun _ => ⟨e.symm, by rw [e]; exact hn⟩⟩
theorem kl_min {pt pw nn : Nat} (e : pt = pw) (h : pw ≤ nn + 1) : min pt nn + 1 = if pw ≤ nn then pw + 1 else pw := by
  subst e
  by_cases h1 : pt ≤ nn
  · rw [if_pos h1, Nat.min_eq_left h1]
  · rw [if_neg h1, Nat.min_eq_right (by omega)]
    omega
theorem kl_nx {pt pw nn : Nat} (e : pt = pw) (h : pw ≤ nn + 1) : (if (if pw ≤ nn then pw + 1 else pw) ≤ nn then (1 : Int32) else 0) = if min pt nn < nn then 1 else 0 := by
  rw [← kl_min e h]
  by_cases h1 : min pt nn < nn
  · rw [if_pos h1, if_pos (by omega)]
  · rw [if_neg h1, if_neg (by omega)]
