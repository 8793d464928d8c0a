/-! loops: the locals (and the world) as a function of the number of turns -/
section KL
variable {p : Program} {l : Launch} {e : Env} {R : Room} {s : State} {m : MethodId} {args : Array Value} {below : List Frame} {meth : Method} {c : Code} {cells slots : Nat} {Q : State → Prop} {D : va_G} {cl : List vw_C} {A : Nat → Prop} {H0 : Heap}
theorem kz_loop {H : Heap} {locs : List Loc} (nL hd e9 : Nat) (LV : Nat → List (Nat × Value))
    (step : ∀ (i : Nat) (ls : Array Slot), i ≤ e9 → lv_has ls nL (LV i) → (∀ ls' : Array Slot, i + 1 ≤ e9 → lv_has ls' nL (LV (i + 1)) → W p l e R s m args below meth c H locs cells slots Q (F0 m hd ls' [])) → W p l e R s m args below meth c H locs cells slots Q (F0 m hd ls []))
    {i0 : Nat} {ls : Array Slot} (hi : i0 ≤ e9) (h : lv_has ls nL (LV i0)) : W p l e R s m args below meth c H locs cells slots Q (F0 m hd ls []) := by
  have key : ∀ (n i : Nat) (ls : Array Slot), i ≤ e9 → e9 ≤ i + n → lv_has ls nL (LV i) → W p l e R s m args below meth c H locs cells slots Q (F0 m hd ls []) := by
    intro n
    induction n with
    | zero => exact fun i ls h1 h2 h3 => step i ls h1 h3 (fun ls' h4 _ => absurd h4 (by omega))
    | succ n ih => exact fun i ls h1 h2 h3 => step i ls h1 h3 (fun ls' h4 h5 => ih (i + 1) ls' h4 (by omega) h5)
  exact key e9 i0 ls hi (by omega) h
theorem kz_loopf {H : Heap} {locs : List Loc} (nL hd e9 : Nat) (LV : Nat → List (Nat × Value)) (F : Nat → Prop)
    (step : ∀ (i : Nat) (ls : Array Slot), i ≤ e9 → lv_has ls nL (LV i) → F i → (∀ ls' : Array Slot, i + 1 ≤ e9 → lv_has ls' nL (LV (i + 1)) → F (i + 1) → W p l e R s m args below meth c H locs cells slots Q (F0 m hd ls' [])) → W p l e R s m args below meth c H locs cells slots Q (F0 m hd ls []))
    {i0 : Nat} {ls : Array Slot} (hi : i0 ≤ e9) (h : lv_has ls nL (LV i0)) (hF : F i0) : W p l e R s m args below meth c H locs cells slots Q (F0 m hd ls []) := by
  have key : ∀ (n i : Nat) (ls : Array Slot), i ≤ e9 → e9 ≤ i + n → lv_has ls nL (LV i) → F i → W p l e R s m args below meth c H locs cells slots Q (F0 m hd ls []) := by
    intro n
    induction n with
    | zero => exact fun i ls h1 h2 h3 hF => step i ls h1 h3 hF (fun ls' h4 _ _ => absurd h4 (by omega))
    | succ n ih => exact fun i ls h1 h2 h3 hF => step i ls h1 h3 hF (fun ls' h4 h5 hF => ih (i + 1) ls' h4 (by omega) h5 hF)
  exact key e9 i0 ls hi (by omega) h hF
theorem kz_loopm {H : Heap} {locs : List Loc} (nL hd e9 : Nat) (LV : Nat → List (Nat × Value)) (WV : Nat → va_W)
    (step : ∀ (i : Nat) (H : Heap) (locs : List Loc) (ls : Array Slot), i ≤ e9 → lv_has ls nL (LV i) → va_P D cl (WV i) H → va_D A (WV i) → va_S A H0 H locs → (∀ (H' : Heap) (locs' : List Loc) (ls' : Array Slot), i + 1 ≤ e9 → lv_has ls' nL (LV (i + 1)) → va_P D cl (WV (i + 1)) H' → va_D A (WV (i + 1)) → va_S A H0 H' locs' → W p l e R s m args below meth c H' locs' cells slots Q (F0 m hd ls' [])) → W p l e R s m args below meth c H locs cells slots Q (F0 m hd ls []))
    {i0 : Nat} {ls : Array Slot} (hi : i0 ≤ e9) (h : lv_has ls nL (LV i0)) (hP : va_P D cl (WV i0) H) (hD : va_D A (WV i0)) (hS : va_S A H0 H locs) : W p l e R s m args below meth c H locs cells slots Q (F0 m hd ls []) := by
  have key : ∀ (n i : Nat) (H : Heap) (locs : List Loc) (ls : Array Slot), i ≤ e9 → e9 ≤ i + n → lv_has ls nL (LV i) → va_P D cl (WV i) H → va_D A (WV i) → va_S A H0 H locs → W p l e R s m args below meth c H locs cells slots Q (F0 m hd ls []) := by
    intro n
    induction n with
    | zero => exact fun i H locs ls h1 h2 h3 h4 h5 h6 => step i H locs ls h1 h3 h4 h5 h6 (fun _ _ _ h9 _ _ _ _ => absurd h9 (by omega))
    | succ n ih => exact fun i H locs ls h1 h2 h3 h4 h5 h6 => step i H locs ls h1 h3 h4 h5 h6 (fun H' locs' ls' h7 h8 h9 h10 h11 => ih (i + 1) H' locs' ls' h7 (by omega) h8 h9 h10 h11)
  exact key e9 i0 H locs ls hi (by omega) h hP hD hS
end KL
/-! sizes as naturals -/
def kz_z (zs : Nat → Nat) : Nat → Int32 := fun j => nI (zs j)
def kz_un (zs : Nat → Nat) (k n : Nat) : Nat → Nat := fun j => if j = k then n else zs j
theorem kz_zu (zs : Nat → Nat) (k n : Nat) : kz_z (kz_un zs k n) = upd (kz_z zs) k (nI n) := by
  funext j
  unfold kz_z kz_un upd
  split <;> rfl
/-! what the rows of keys answer -/
/-- the key (a, z) comes before (b, y) -/
def kf_lt (a : Int64) (z : Nat) (b : Int64) (y : Nat) : Bool := decide (un a < un b) || (decide (a = b) && decide (z < y))
/-- from the i-th key on: the first place, in f steps at most, whose key doesn't come before (b, y) -/
def kf_cbn (fw : Nat → Int64) (zs : Nat → Nat) (b : Int64) (y : Nat) : Nat → Nat → Nat
  | 0, i => i
  | f + 1, i => if kf_lt (fw i) (zs i) b y then kf_cbn fw zs b y f (i + 1) else i
def kf_cb (fw : Nat → Int64) (zs : Nat → Nat) (b : Int64) (y nn : Nat) : Nat := kf_cbn fw zs b y nn 0
theorem kf_cbn_le (fw : Nat → Int64) (zs : Nat → Nat) (b : Int64) (y : Nat) : ∀ f i, kf_cbn fw zs b y f i ≤ i + f
  | 0, i => Nat.le_refl _
  | f + 1, i => by
    unfold kf_cbn
    split
    · have := kf_cbn_le fw zs b y f (i + 1)
      omega
    · omega
theorem kf_cb_le (fw : Nat → Int64) (zs : Nat → Nat) (b : Int64) (y nn : Nat) : kf_cb fw zs b y nn ≤ nn := by
  have := kf_cbn_le fw zs b y nn 0
  unfold kf_cb
  omega
/-- how many places below n have the property -/
def kf_cnt (P : Nat → Bool) : Nat → Nat
  | 0 => 0
  | n + 1 => kf_cnt P n + (if P n then 1 else 0)
theorem kf_cnt_le (P : Nat → Bool) : ∀ n, kf_cnt P n ≤ n
  | 0 => Nat.le_refl _
  | n + 1 => by
    have := kf_cnt_le P n
    unfold kf_cnt
    split <;> omega
theorem kf_cnt_y {P : Nat → Bool} {n : Nat} (h : P n = true) : kf_cnt P (n + 1) = kf_cnt P n + 1 := by rw [kf_cnt, if_pos h]
theorem kf_cnt_n {P : Nat → Bool} {n : Nat} (h : ¬ P n = true) : kf_cnt P (n + 1) = kf_cnt P n := by rw [kf_cnt, if_neg h]; rfl
/-! compareUnsigned, and the order -/
theorem kf_cu_pos {a b : Int64} : 0 < kf_cu a b ↔ un b < un a := by
  unfold kf_cu
  split
  · rename_i h
    exact ⟨fun z => absurd z (by decide), fun z => by omega⟩
  · split
    · rename_i h
      subst h
      exact ⟨fun z => absurd z (by decide), fun z => by omega⟩
    · rename_i h1 h2
      exact ⟨fun _ => by
        rcases Nat.lt_or_ge (un b) (un a) with h | h
        · exact h
        · exact absurd (un_inj (by omega)) h2, fun _ => by decide⟩
theorem kf_cu_zero {a b : Int64} : kf_cu a b = 0 ↔ a = b := by
  unfold kf_cu
  split
  · rename_i h
    exact ⟨fun z => absurd z (by decide), fun z => by subst z; omega⟩
  · split
    · rename_i h
      exact ⟨fun _ => h, fun _ => rfl⟩
    · rename_i h1 h2
      exact ⟨fun z => absurd z (by decide), fun z => absurd z h2⟩
