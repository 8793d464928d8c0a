/-! cells of a world replaced, the new world given -/
theorem kz_mapAt {α β γ : Type} {is : List γ} {f : γ → β} {w : List α} {g : α → β} (h : is.map f = w.map g) {j : Nat} {k : γ} (hj : is[j]? = some k) : ∃ x, w[j]? = some x ∧ f k = g x := by
  have h1 : (is.map f)[j]? = some (f k) := by rw [List.getElem?_map, hj]; rfl
  rw [h, List.getElem?_map] at h1
  cases hw : w[j]? with
  | none => rw [hw] at h1; cases h1
  | some x => rw [hw] at h1; exact ⟨x, rfl, (Option.some.inj h1).symm⟩
theorem kz_join2 {A0 : Nat → Prop} {D : va_G} {cl : List vw_C} {ws wc w1 : va_W} (ws' : va_W) {H H1 : Heap} (hP : va_P D cl ws H) (hD : va_D A0 ws) (is os : List Nat) (hC : is.map (fun i => ws[i]?) = wc.map some) (hN : is.map (fun i => ws'[i]?) = w1.map some)
    (hO : os.map (fun i => ws'[i]?) = os.map (fun i => ws[i]?)) (n : Nat) (hlen : ws'.length = n) (hcov : (List.range n).all (fun k => is.contains k || os.contains k) = true) (hdis : os.all (fun k => !is.contains k) = true) (had : wc.map (fun q => q.1) = w1.map (fun q => q.1))
    (hk : ∀ q : Nat, q < H.size → ¬ va_A wc H.size q → H1[q]? = H[q]?) (hP1 : va_P D cl w1 H1) : va_P D cl ws' H1 ∧ va_D A0 ws' := by
  have key : ∀ (k : Nat) (q : Nat × va_E), ws'[k]? = some q → (∃ (j : Nat) (q0 : Nat × va_E), is[j]? = some k ∧ w1[j]? = some q ∧ ws[k]? = some q0 ∧ q0.1 = q.1) ∨ (k ∉ is ∧ ws[k]? = some q) := by
    intro k q h
    have hlt : k < ws'.length := (List.getElem?_eq_some_iff.mp h).1
    have h1 := List.all_eq_true.mp hcov k (List.mem_range.mpr (by rw [← hlen]; exact hlt))
    rw [Bool.or_eq_true] at h1
    rcases h1 with h1 | h1
    · obtain ⟨j, hj⟩ := List.mem_iff_getElem?.mp (List.contains_iff_mem.mp h1)
      obtain ⟨x, hx1, hx2⟩ := kz_mapAt hN hj
      rw [h] at hx2
      cases Option.some.inj hx2
      obtain ⟨y, hy1, hy2⟩ := kz_mapAt hC hj
      have hxy : (w1.map (fun q => q.1))[j]? = some q.1 := by rw [List.getElem?_map, hx1]; rfl
      rw [← had, List.getElem?_map, hy1] at hxy
      exact Or.inl ⟨j, y, hj, hx1, hy2, Option.some.inj hxy⟩
    · have hm := List.contains_iff_mem.mp h1
      obtain ⟨j, hj⟩ := List.mem_iff_getElem?.mp hm
      obtain ⟨x, hx1, hx2⟩ := kz_mapAt hO hj
      rw [hj] at hx1
      cases hx1
      refine Or.inr ⟨fun hi => ?_, by rw [← hx2]; exact h⟩
      have h2 := List.all_eq_true.mp hdis k hm
      rw [List.contains_iff_mem.mpr hi] at h2
      cases h2
  have at' : ∀ (j : Nat) (q : Nat × va_E), wc[j]? = some q → ∃ i, is[j]? = some i ∧ ws[i]? = some q := by
    intro j q hq
    obtain ⟨i, hi1, hi2⟩ := kz_mapAt (g := fun i => ws[i]?) hC.symm hq
    exact ⟨i, hi1, hi2.symm⟩
  have same : ∀ (k : Nat) (q : Nat × va_E), ws'[k]? = some q → ∃ q0, ws[k]? = some q0 ∧ q0.1 = q.1 := by
    intro k q h
    rcases key k q h with ⟨j, q0, -, -, h3, h4⟩ | ⟨-, h2⟩
    · exact ⟨q0, h3, h4⟩
    · exact ⟨q, h2, rfl⟩
  refine ⟨fun k q h => ?_, ⟨fun i j x y hi hj hxy => ?_, fun k q h => ?_⟩⟩
  · rcases key k q h with ⟨j, q0, -, h2, -, -⟩ | ⟨h1, h2⟩
    · exact hP1 j q h2
    · have hl := (hP k q h2).lt
      refine (hP k q h2).kept (hk q.1 hl (fun z => ?_))
      rcases z with ⟨k2, e, z⟩ | z
      · obtain ⟨i, h5, h6⟩ := at' k2 (q.1, e) z
        have := hD.1 k i q (q.1, e) h2 h6 rfl
        subst this
        exact h1 (List.mem_of_getElem? h5)
      · omega
  · obtain ⟨a, h1, h2⟩ := same i x hi
    obtain ⟨b, h3, h4⟩ := same j y hj
    exact hD.1 i j a b h1 h3 (by rw [h2, h4]; exact hxy)
  · obtain ⟨a, h1, h2⟩ := same k q h
    rw [← h2]
    exact hD.2 k a h1
/-- the world as it was -/
theorem kz_back {A0 : Nat → Prop} {D : va_G} {cl : List vw_C} {ws wc : va_W} {H H1 : Heap} (hP : va_P D cl ws H) (hD : va_D A0 ws) (is : List Nat) (hC : is.map (fun i => ws[i]?) = wc.map some)
    (hk : ∀ q : Nat, q < H.size → ¬ va_A wc H.size q → H1[q]? = H[q]?) (hP1 : va_P D cl wc H1) : va_P D cl ws H1 := by
  intro k q h
  by_cases hx : ∃ (j : Nat) (e : va_E), wc[j]? = some (q.1, e)
  · obtain ⟨j, e, hj⟩ := hx
    obtain ⟨i, hi1, hi2⟩ := kz_mapAt (g := fun i => ws[i]?) hC.symm hj
    have := hD.1 k i q (q.1, e) h hi2.symm rfl
    subst this
    rw [h] at hi2
    have hq : (q.1, e) = q := Option.some.inj hi2
    exact hP1 j _ (by rw [hj, hq])
  · have hl := (hP k q h).lt
    refine (hP k q h).kept (hk q.1 hl (fun z => ?_))
    rcases z with ⟨k2, e, z⟩ | z
    · exact hx ⟨k2, e, z⟩
    · omega
/-- other cells at the same addresses -/
theorem kl_Dm {A : Nat → Prop} {wc w1 : va_W} (had : wc.map (fun q => q.1) = w1.map (fun q => q.1)) (hD : va_D A wc) : va_D A w1 := by
  have addr : ∀ (j : Nat) (q : Nat × va_E), w1[j]? = some q → ∃ q0, wc[j]? = some q0 ∧ q0.1 = q.1 := by
    intro j q hq
    have h1 : (w1.map (fun q => q.1))[j]? = some q.1 := by rw [List.getElem?_map, hq]; rfl
    rw [← had, List.getElem?_map] at h1
    cases hi : wc[j]? with
    | none => rw [hi] at h1; cases h1
    | some q0 => rw [hi] at h1; exact ⟨q0, rfl, Option.some.inj h1⟩
  refine ⟨fun i j x y hi hj hxy => ?_, fun k q h => ?_⟩
  · obtain ⟨a, h1, h2⟩ := addr i x hi
    obtain ⟨b, h3, h4⟩ := addr j y hj
    exact hD.1 i j a b h1 h3 (by rw [h2, h4]; exact hxy)
  · obtain ⟨a, h1, h2⟩ := addr k q h
    rw [← h2]
    exact hD.2 k a h1
