theorem kz_same {D : va_G} {cl : List vw_C} {tys : List (ClassId × FieldType)} {U : State} (hK : va_K D cl tys U) {i j : Nat} {c1 c2 : ClassId} {ty : FieldType} (h1 : tys[i]? = some (c1, ty)) (h2 : tys[j]? = some (c2, ty)) : c2 = c1 := by
  have a := (hK.2 i _ h1).2
  have b := (hK.2 j _ h2).2
  cases ty with
  | object C =>
    obtain ⟨kA, comp, -, -, -, a4⟩ := a
    obtain ⟨kB, comp2, -, -, -, b4⟩ := b
    exact Option.some.inj (b4.symm.trans a4)
  | _ =>
    have a' : U.vm.findClass _ = some c1 := a
    have b' : U.vm.findClass _ = some c2 := b
    exact Option.some.inj (b'.symm.trans a')
/-- what the constructors need beside: the links across the nest, the row of readers -/
def kz_N (U : State) : Prop := va_Nw (.methodLinkNest RX3 9 yX1_init RX3) U ∧ va_Nw (.methodLinkNest RX3 18 yX0_init RX3) U ∧ va_Nw (.methodLinkNest RX3 29 yX2_init RX3) U ∧ va_Nw (.methodLinkNest RX2 11 yX1_init RX3) U ∧ va_AO "ForkStore$Reader" U
theorem kz_N.warm {s U : State} (hW : s.WarmedH U.vm) (h : kz_N s) : kz_N U := ⟨va_Nw.warmM hW h.1, va_Nw.warmM hW h.2.1, va_Nw.warmM hW h.2.2.1, va_Nw.warmM hW h.2.2.2.1, va_AO.moved hW.alike h.2.2.2.2⟩
theorem kz_N.call {U : State} {g : JFrame} {mk : MethodId} {a : Array Value} (h : kz_N U) : kz_N (U.calling g mk a) :=
  ⟨va_Nw.same rfl (u := U) (U := U.calling g mk a) rfl h.1, va_Nw.same rfl (u := U) (U := U.calling g mk a) rfl h.2.1, va_Nw.same rfl (u := U) (U := U.calling g mk a) rfl h.2.2.1, va_Nw.same rfl (u := U) (U := U.calling g mk a) rfl h.2.2.2.1, va_AO.moved (u := U) (U := U.calling g mk a) (Vm.Alike.refl U.vm) h.2.2.2.2⟩
/-- a constructor's start and end -/
def kz_Pk (G : kz_G) (av : List Value) (ws : va_W) (sz : Nat) : Array Value → State → Prop := va_Pc av (fun U => U.heap.size = sz ∧ va_P G.1 vwCl ws U.heap ∧ kz_K G U ∧ va_D (fun _ => True) ws ∧ kz_N U)
theorem kz_blK {G : kz_G} {av : List Value} {ws : va_W} {sz : Nat} : FrameBlind (kz_Pk G av ws sz) := fun _ _ _ _ h => ⟨h.1, h.2.1, h.2.2.1, h.2.2.2.1.call, h.2.2.2.2.1, h.2.2.2.2.2.call⟩
theorem kz_pk {G : kz_G} {s : State} {H : Heap} {As : List Value} {A : Nat → Prop} {ws : va_W} (hK : kz_K G s) (hN : kz_N s) (hP : va_P G.1 vwCl ws H) (hD : va_D A ws) : PreS s H (kz_Pk G As ws H.size) As :=
  ⟨kz_blK, fun U hU hW => ⟨rfl, by rw [hU], by rw [hU]; exact hP, hK.warm hW, hD.weaken (fun _ _ _ _ => trivial), hN.warm hW⟩⟩
def kz_Qk (G : kz_G) (post : va_W → Prop) (A : Nat → Prop) : Array Value → State → Outcome → State → Prop := va_Qv (S := va_W) post (fun w t => va_P G.1 vwCl w t.heap ∧ va_D A w) A

set_option maxHeartbeats 4000000 in
set_option maxRecDepth 100000 in
theorem c_X1_init (l : Launch) (G : kz_G) (hk sz : Nat) : Met l yX1_init wsX1_init { frames := 1, cells := 3, slots := 360, locals := 12 } (kz_Pk G [.ref hk] [(hk, .inr (1, [.null, .null, .null, .int 0]))] sz) (kz_Qk G (fun w => ∃ (aw az an : Nat), w = [(hk, .inr (1, [.ref aw, .ref az, .ref an, .int (nI 0)])), (aw, .inl (gJ G, 120, .inr (.inl (fun _ => 0)))), (az, .inl (gI G, 120, .inl (kz_z kf_z0))), (an, .inl (gI G, 120, .inl (fun _ => 0)))]) (va_A [(hk, .inr (1, [.null, .null, .null, .int 0]))] sz)) 3 360 (va_A [(hk, .inr (1, [.null, .null, .null, .int 0]))] sz) := by
  refine Met.ofW (cc := cX1_init) (maxL := 1) (ret := none) (by decide) rfl ?_
  intro p e s m args below meth c s₁ B hml hv
  obtain ⟨rfl, hsz, hP, hK, hD0, hN⟩ := hv
  have hx := B.exec
  have hb := B.bytes
  have hr := B.returns
  have hts := atoms_spec (ws := wsX1_init) B.pre
  have hown : s.vm.findClass RX1 = some m.cls := findClass_of_methodNamed B.named
  have hlocks := B.notSynchronized
  have hin : meth.name = "<init>" := (name_of_methodNamed B.named B.method).1
  have hinX1 : ∀ w ∈ wsX10, w ∈ wsX1_init := by decide +kernel
  subst hsz
  have hD := hD0.self (sz := s.heap.size)
  generalize hAe : va_A [(hk, .inr (1, [.null, .null, .null, .int 0]))] s.heap.size = A at hD ⊢
  have hA : ∀ q : Nat, s.heap.size ≤ q → A q := fun q h => by rw [← hAe]; exact Or.inr h
  have hS : va_S A s.heap s.heap [] := va_S.rf
  have hl := lv_entry ([.ref hk]) (n := 1) (Nat.le_of_ble_eq_true rfl)
  rw [lg_entry_eq]
  generalize (lg_sl ([.ref hk]) ++ List.replicate (1 - (lg_sl ([.ref hk])).length) Slot.unset).toArray = ls at hl ⊢
  have hl : lv_has ls 1 [(0, .ref hk)] := hl
  refine lv_aload_n hx hb dX1_init_0 rfl (lv_at hl 0 rfl) ?_
  refine W.objInit hx hb hown (hts (.methodLink RX1 3 objectInit) (by decide +kernel)) (hts (.instanceMethod objectInit) (by decide +kernel)) (hts (.code objectInit ⟨#[0xb1]⟩ 1 none) (by decide +kernel)) rfl (by rw [hml]; exact hl.1) rfl dX1_init_1 (Nat.le_of_ble_eq_true rfl) (Nat.le_of_ble_eq_true rfl) ?_
  refine W.eq (g2 := F0 m 4 ls []) rfl ?_
  refine lv_aload_n hx hb dX1_init_4 rfl (lv_at hl 0 rfl) ?_
  refine lv_bipush (v := 120) hx hb dX1_init_5 (by decide) ?_
  refine va_newa (atype := .long) (ty := .long) (N' := 120) (a0 := (120, .inr (.inl (fun _ => 0)))) hx hb (hts (.arrayClass .long) (by decide +kernel)) rfl hK.1 hP hD hS hA (fun _ => rfl) (by decide +kernel) (by decide +kernel) (by decide +kernel) (Nat.le_of_ble_eq_true rfl) (Nat.le_of_ble_eq_true rfl) dX1_init_7 (fun q7 cA9 H hK9 hP hD hS => ?_)
  obtain rfl : cA9 = gJ G := kz_same hK9 (i := 1) (j := 4) rfl rfl
  have hP : va_P G.1 vwCl [(hk, .inr (1, [.null, .null, .null, .int 0])), (q7, .inl (gJ G, 120, .inr (.inl (fun _ => 0))))] H := hP
  have hD : va_D A [(hk, .inr (1, [.null, .null, .null, .int 0])), (q7, .inl (gJ G, 120, .inr (.inl (fun _ => 0))))] := hD
  refine W.widen (k := 1) (n := 120) (by decide) (by decide) ?_
  refine va_putF (D := G.1) (ci := 1) (v := .ref q7) (ty := .array .long) (C := RX1) (T := TX1) (N := 4) hx hb hts hinX1 tyX1 tyX1_ok nmX1 hown hK.1 hP hD hS 0 rfl rfl 0 (by decide) (hts (.fieldLink RX1 9 "ForkStore$Keys" "words" "[J") (by decide +kernel)) (fun _ h9 => h9) rfl hin rfl (by decide +kernel) rfl rfl (Nat.le_of_ble_eq_true rfl) dX1_init_9 (fun H locs hP hD hS => ?_)
  have hP : va_P G.1 vwCl [(hk, .inr (1, [.ref q7, .null, .null, .int 0])), (q7, .inl (gJ G, 120, .inr (.inl (fun _ => 0))))] H := hP
  have hD : va_D A [(hk, .inr (1, [.ref q7, .null, .null, .int 0])), (q7, .inl (gJ G, 120, .inr (.inl (fun _ => 0))))] := hD
  refine lv_aload_n hx hb dX1_init_12 rfl (lv_at hl 0 rfl) ?_
  refine lv_bipush (v := 120) hx hb dX1_init_13 (by decide) ?_
  refine va_newa (atype := .int) (ty := .int) (N' := 120) (a0 := (120, .inl (fun _ => 0))) hx hb (hts (.arrayClass .int) (by decide +kernel)) rfl hK.1 hP hD hS hA (fun _ => rfl) (by decide +kernel) (by decide +kernel) (by decide +kernel) (Nat.le_of_ble_eq_true rfl) (Nat.le_of_ble_eq_true rfl) dX1_init_15 (fun q15 cA9 H hK9 hP hD hS => ?_)
  obtain rfl : cA9 = gI G := kz_same hK9 (i := 0) (j := 4) rfl rfl
  have hP : va_P G.1 vwCl [(hk, .inr (1, [.ref q7, .null, .null, .int 0])), (q7, .inl (gJ G, 120, .inr (.inl (fun _ => 0)))), (q15, .inl (gI G, 120, .inl (fun _ => 0)))] H := hP
  have hD : va_D A [(hk, .inr (1, [.ref q7, .null, .null, .int 0])), (q7, .inl (gJ G, 120, .inr (.inl (fun _ => 0)))), (q15, .inl (gI G, 120, .inl (fun _ => 0)))] := hD
  refine W.widen (k := 2) (n := 240) (by decide) (by decide) ?_
  refine va_putF (D := G.1) (ci := 1) (v := .ref q15) (ty := .array .int) (C := RX1) (T := TX1) (N := 4) hx hb hts hinX1 tyX1 tyX1_ok nmX1 hown hK.1 hP hD hS 0 rfl rfl 1 (by decide) (hts (.fieldLink RX1 15 "ForkStore$Keys" "sizes" "[I") (by decide +kernel)) (fun _ h9 => h9) rfl hin rfl (by decide +kernel) rfl rfl (Nat.le_of_ble_eq_true rfl) dX1_init_17 (fun H locs hP hD hS => ?_)
  have hP : va_P G.1 vwCl [(hk, .inr (1, [.ref q7, .ref q15, .null, .int 0])), (q7, .inl (gJ G, 120, .inr (.inl (fun _ => 0)))), (q15, .inl (gI G, 120, .inl (fun _ => 0)))] H := hP
  have hD : va_D A [(hk, .inr (1, [.ref q7, .ref q15, .null, .int 0])), (q7, .inl (gJ G, 120, .inr (.inl (fun _ => 0)))), (q15, .inl (gI G, 120, .inl (fun _ => 0)))] := hD
  refine lv_aload_n hx hb dX1_init_20 rfl (lv_at hl 0 rfl) ?_
  refine lv_bipush (v := 120) hx hb dX1_init_21 (by decide) ?_
  refine va_newa (atype := .int) (ty := .int) (N' := 120) (a0 := (120, .inl (fun _ => 0))) hx hb (hts (.arrayClass .int) (by decide +kernel)) rfl hK.1 hP hD hS hA (fun _ => rfl) (by decide +kernel) (by decide +kernel) (by decide +kernel) (Nat.le_of_ble_eq_true rfl) (Nat.le_of_ble_eq_true rfl) dX1_init_23 (fun q23 cA9 H hK9 hP hD hS => ?_)
  obtain rfl : cA9 = gI G := kz_same hK9 (i := 0) (j := 4) rfl rfl
  have hP : va_P G.1 vwCl [(hk, .inr (1, [.ref q7, .ref q15, .null, .int 0])), (q7, .inl (gJ G, 120, .inr (.inl (fun _ => 0)))), (q15, .inl (gI G, 120, .inl (fun _ => 0))), (q23, .inl (gI G, 120, .inl (fun _ => 0)))] H := hP
  have hD : va_D A [(hk, .inr (1, [.ref q7, .ref q15, .null, .int 0])), (q7, .inl (gJ G, 120, .inr (.inl (fun _ => 0)))), (q15, .inl (gI G, 120, .inl (fun _ => 0))), (q23, .inl (gI G, 120, .inl (fun _ => 0)))] := hD
  refine W.widen (k := 3) (n := 360) (by decide) (by decide) ?_
  refine va_putF (D := G.1) (ci := 1) (v := .ref q23) (ty := .array .int) (C := RX1) (T := TX1) (N := 4) hx hb hts hinX1 tyX1 tyX1_ok nmX1 hown hK.1 hP hD hS 0 rfl rfl 2 (by decide) (hts (.fieldLink RX1 19 "ForkStore$Keys" "numbers" "[I") (by decide +kernel)) (fun _ h9 => h9) rfl hin rfl (by decide +kernel) rfl rfl (Nat.le_of_ble_eq_true rfl) dX1_init_25 (fun H locs hP hD hS => ?_)
  have hP : va_P G.1 vwCl [(hk, .inr (1, [.ref q7, .ref q15, .ref q23, .int 0])), (q7, .inl (gJ G, 120, .inr (.inl (fun _ => 0)))), (q15, .inl (gI G, 120, .inl (fun _ => 0))), (q23, .inl (gI G, 120, .inl (fun _ => 0)))] H := hP
  have hD : va_D A [(hk, .inr (1, [.ref q7, .ref q15, .ref q23, .int 0])), (q7, .inl (gJ G, 120, .inr (.inl (fun _ => 0)))), (q15, .inl (gI G, 120, .inl (fun _ => 0))), (q23, .inl (gI G, 120, .inl (fun _ => 0)))] := hD
  refine lv_aload_n hx hb dX1_init_28 rfl (lv_at hl 0 rfl) ?_
  refine lv_iconst (v := 0) hx hb dX1_init_29 (by decide) ?_
  refine va_put (D := G.1) (ci := 1) (v := .int 0) (ty := .int) (C := RX1) (T := TX1) (N := 4) hx hb hts hinX1 tyX1 tyX1_ok nmX1 hown hK.1 hP hD hS 0 rfl rfl 3 (by decide) (hts (.fieldLink RX1 22 "ForkStore$Keys" "count" "I") (by decide +kernel)) (fun _ h9 => h9) rfl (by decide +kernel) rfl rfl (Nat.le_of_ble_eq_true rfl) dX1_init_30 (fun H locs hP hD hS => ?_)
  have hP : va_P G.1 vwCl [(hk, .inr (1, [.ref q7, .ref q15, .ref q23, .int 0])), (q7, .inl (gJ G, 120, .inr (.inl (fun _ => 0)))), (q15, .inl (gI G, 120, .inl (fun _ => 0))), (q23, .inl (gI G, 120, .inl (fun _ => 0)))] H := hP
  have hD : va_D A [(hk, .inr (1, [.ref q7, .ref q15, .ref q23, .int 0])), (q7, .inl (gJ G, 120, .inr (.inl (fun _ => 0)))), (q15, .inl (gI G, 120, .inl (fun _ => 0))), (q23, .inl (gI G, 120, .inl (fun _ => 0)))] := hD
  have hP9 := hP.sub (ws' := [(hk, .inr (1, [.ref q7, .ref q15, .ref q23, .int 0])), (q7, .inl (gJ G, 120, .inr (.inl (fun _ => 0)))), (q15, .inl (gI G, 120, .inl (fun _ => 0))), (q23, .inl (gI G, 120, .inl (fun _ => 0)))]) [0, 1, 2, 3] rfl
  have hD9 := hD.sub (ws' := [(hk, .inr (1, [.ref q7, .ref q15, .ref q23, .int 0])), (q7, .inl (gJ G, 120, .inr (.inl (fun _ => 0)))), (q15, .inl (gI G, 120, .inl (fun _ => 0))), (q23, .inl (gI G, 120, .inl (fun _ => 0)))]) [0, 1, 2, 3] (by decide) rfl
  exact W.vret hx hb hr (fun t ht hW => ⟨⟨_, rfl, ⟨q7, q15, q23, rfl⟩, by rw [← ht] at hP9; exact ⟨hP9, hD9⟩⟩, hS.F ht⟩) hS.2.2 dX1_init_33

set_option maxHeartbeats 4000000 in
set_option maxRecDepth 100000 in
theorem c_X0_init (l : Launch) (G : kz_G) (hc sz : Nat) : Met l yX0_init wsX0_init { frames := 1, cells := 1, slots := 8, locals := 12 } (kz_Pk G [.ref hc] [(hc, .inr (0, [.null]))] sz) (kz_Qk G (fun w => ∃ (ab : Nat), w = [(hc, .inr (0, [.ref ab])), (ab, .inl (gI G, 8, .inl (kz_z kf_z0)))]) (va_A [(hc, .inr (0, [.null]))] sz)) 1 8 (va_A [(hc, .inr (0, [.null]))] sz) := by
  refine Met.ofW (cc := cX0_init) (maxL := 1) (ret := none) (by decide) rfl ?_
  intro p e s m args below meth c s₁ B hml hv
  obtain ⟨rfl, hsz, hP, hK, hD0, hN⟩ := hv
  have hx := B.exec
  have hb := B.bytes
  have hr := B.returns
  have hts := atoms_spec (ws := wsX0_init) B.pre
  have hown : s.vm.findClass RX0 = some m.cls := findClass_of_methodNamed B.named
  have hlocks := B.notSynchronized
  have hin : meth.name = "<init>" := (name_of_methodNamed B.named B.method).1
  have hinX0 : ∀ w ∈ wsX00, w ∈ wsX0_init := by decide +kernel
  subst hsz
  have hD := hD0.self (sz := s.heap.size)
  generalize hAe : va_A [(hc, .inr (0, [.null]))] s.heap.size = A at hD ⊢
  have hA : ∀ q : Nat, s.heap.size ≤ q → A q := fun q h => by rw [← hAe]; exact Or.inr h
  have hS : va_S A s.heap s.heap [] := va_S.rf
  have hl := lv_entry ([.ref hc]) (n := 1) (Nat.le_of_ble_eq_true rfl)
  rw [lg_entry_eq]
  generalize (lg_sl ([.ref hc]) ++ List.replicate (1 - (lg_sl ([.ref hc])).length) Slot.unset).toArray = ls at hl ⊢
  have hl : lv_has ls 1 [(0, .ref hc)] := hl
  refine lv_aload_n hx hb dX0_init_0 rfl (lv_at hl 0 rfl) ?_
  refine W.objInit hx hb hown (hts (.methodLink RX0 3 objectInit) (by decide +kernel)) (hts (.instanceMethod objectInit) (by decide +kernel)) (hts (.code objectInit ⟨#[0xb1]⟩ 1 none) (by decide +kernel)) rfl (by rw [hml]; exact hl.1) rfl dX0_init_1 (Nat.le_of_ble_eq_true rfl) (Nat.le_of_ble_eq_true rfl) ?_
  refine W.eq (g2 := F0 m 4 ls []) rfl ?_
  refine lv_aload_n hx hb dX0_init_4 rfl (lv_at hl 0 rfl) ?_
  refine lv_bipush (v := 8) hx hb dX0_init_5 (by decide) ?_
  refine va_newa (atype := .int) (ty := .int) (N' := 8) (a0 := (8, .inl (fun _ => 0))) hx hb (hts (.arrayClass .int) (by decide +kernel)) rfl hK.1 hP hD hS hA (fun _ => rfl) (by decide +kernel) (by decide +kernel) (by decide +kernel) (Nat.le_of_ble_eq_true rfl) (Nat.le_of_ble_eq_true rfl) dX0_init_7 (fun q7 cA9 H hK9 hP hD hS => ?_)
  obtain rfl : cA9 = gI G := kz_same hK9 (i := 0) (j := 4) rfl rfl
  have hP : va_P G.1 vwCl [(hc, .inr (0, [.null])), (q7, .inl (gI G, 8, .inl (fun _ => 0)))] H := hP
  have hD : va_D A [(hc, .inr (0, [.null])), (q7, .inl (gI G, 8, .inl (fun _ => 0)))] := hD
  refine W.widen (k := 1) (n := 8) (by decide) (by decide) ?_
  refine va_putF (D := G.1) (ci := 0) (v := .ref q7) (ty := .array .int) (C := RX0) (T := TX0) (N := 1) hx hb hts hinX0 tyX0 tyX0_ok nmX0 hown hK.1 hP hD hS 0 rfl rfl 0 (by decide) (hts (.fieldLink RX0 9 "ForkStore$ForkCounter" "branches" "[I") (by decide +kernel)) (fun _ h9 => h9) rfl hin rfl (by decide +kernel) rfl rfl (Nat.le_of_ble_eq_true rfl) dX0_init_9 (fun H locs hP hD hS => ?_)
  have hP : va_P G.1 vwCl [(hc, .inr (0, [.ref q7])), (q7, .inl (gI G, 8, .inl (fun _ => 0)))] H := hP
  have hD : va_D A [(hc, .inr (0, [.ref q7])), (q7, .inl (gI G, 8, .inl (fun _ => 0)))] := hD
  have hP9 := hP.sub (ws' := [(hc, .inr (0, [.ref q7])), (q7, .inl (gI G, 8, .inl (fun _ => 0)))]) [0, 1] rfl
  have hD9 := hD.sub (ws' := [(hc, .inr (0, [.ref q7])), (q7, .inl (gI G, 8, .inl (fun _ => 0)))]) [0, 1] (by decide) rfl
  exact W.vret hx hb hr (fun t ht hW => ⟨⟨_, rfl, ⟨q7, rfl⟩, by rw [← ht] at hP9; exact ⟨hP9, hD9⟩⟩, hS.F ht⟩) hS.2.2 dX0_init_12

set_option maxHeartbeats 4000000 in
set_option maxRecDepth 100000 in
theorem c_X2_init (l : Launch) (G : kz_G) (rd sz : Nat) : Met l yX2_init wsX2_init { frames := 2, cells := 4, slots := 364, locals := 32 } (kz_Pk G [.ref rd] [(rd, .inr (2, [.null, .int 0, .int 0]))] sz) (kz_Qk G (fun w => ∃ (hk aw az an : Nat), w = [(rd, .inr (2, [.ref hk, .int (kf_b false), .int (kf_p 0)])), (hk, .inr (1, [.ref aw, .ref az, .ref an, .int (nI 0)])), (aw, .inl (gJ G, 120, .inr (.inl (fun _ => 0)))), (az, .inl (gI G, 120, .inl (kz_z kf_z0))), (an, .inl (gI G, 120, .inl (fun _ => 0)))]) (va_A [(rd, .inr (2, [.null, .int 0, .int 0]))] sz)) 4 364 (va_A [(rd, .inr (2, [.null, .int 0, .int 0]))] sz) := by
  refine Met.ofW (cc := cX2_init) (maxL := 1) (ret := none) (by decide) rfl ?_
  intro p e s m args below meth c s₁ B hml hv
  obtain ⟨rfl, hsz, hP, hK, hD0, hN⟩ := hv
  have hx := B.exec
  have hb := B.bytes
  have hr := B.returns
  have hts := atoms_spec (ws := wsX2_init) B.pre
  have hown : s.vm.findClass RX2 = some m.cls := findClass_of_methodNamed B.named
  have hlocks := B.notSynchronized
  have hin : meth.name = "<init>" := (name_of_methodNamed B.named B.method).1
  have hinX1 : ∀ w ∈ wsX10, w ∈ wsX2_init := by decide +kernel
  have hinX2 : ∀ w ∈ wsX20, w ∈ wsX2_init := by decide +kernel
  subst hsz
  have hD := hD0.self (sz := s.heap.size)
  generalize hAe : va_A [(rd, .inr (2, [.null, .int 0, .int 0]))] s.heap.size = A at hD ⊢
  have hA : ∀ q : Nat, s.heap.size ≤ q → A q := fun q h => by rw [← hAe]; exact Or.inr h
  have hS : va_S A s.heap s.heap [] := va_S.rf
  have hl := lv_entry ([.ref rd]) (n := 1) (Nat.le_of_ble_eq_true rfl)
  rw [lg_entry_eq]
  generalize (lg_sl ([.ref rd]) ++ List.replicate (1 - (lg_sl ([.ref rd])).length) Slot.unset).toArray = ls at hl ⊢
  have hl : lv_has ls 1 [(0, .ref rd)] := hl
  refine lv_aload_n hx hb dX2_init_0 rfl (lv_at hl 0 rfl) ?_
  refine W.objInit hx hb hown (hts (.methodLink RX2 3 objectInit) (by decide +kernel)) (hts (.instanceMethod objectInit) (by decide +kernel)) (hts (.code objectInit ⟨#[0xb1]⟩ 1 none) (by decide +kernel)) rfl (by rw [hml]; exact hl.1) rfl dX2_init_1 (Nat.le_of_ble_eq_true rfl) (Nat.le_of_ble_eq_true rfl) ?_
  refine W.eq (g2 := F0 m 4 ls []) rfl ?_
  refine lv_aload_n hx hb dX2_init_4 rfl (lv_at hl 0 rfl) ?_
  refine va_new (ci := 1) (fs := [.null, .null, .null, .int 0]) (C := RX1) (T := TX1) (N := 4) hx hb hts hinX1 tyX1 tyX1_ok hown (hts (.classLink RX2 9 RX1) (by decide +kernel)) (hts (.instantiable RX1 4) (by decide +kernel)) (hts (.initialized RX1) (by decide +kernel)) hK.1 hP hD hS hA rfl (fun j hj => by rcases (show j = 0 ∨ j = 1 ∨ j = 2 ∨ j = 3 by omega) with rfl | rfl | rfl | rfl <;> rfl) (Nat.le_of_ble_eq_true rfl) (Nat.le_of_ble_eq_true rfl) dX2_init_5 (fun q5_1 H hP hD hS => ?_)
  have hP : va_P G.1 vwCl [(rd, .inr (2, [.null, .int 0, .int 0])), (q5_1, .inr (1, [.null, .null, .null, .int 0]))] H := hP
  have hD : va_D A [(rd, .inr (2, [.null, .int 0, .int 0])), (q5_1, .inr (1, [.null, .null, .null, .int 0]))] := hD
  refine W.widen (k := 1) (n := 4) (by decide) (by decide) ?_
  refine lv_dup hx hb dX2_init_8 rfl ?_
  have hPc := hP.sub (ws' := [(q5_1, .inr (1, [.null, .null, .null, .int 0]))]) [1] rfl
  have hDc := hD.sub (ws' := [(q5_1, .inr (1, [.null, .null, .null, .int 0]))]) [1] (by decide) rfl
  have hFc := va_free (wc := [(q5_1, .inr (1, [.null, .null, .null, .int 0]))]) hD hS hA [1] rfl
  refine va_callv (va_runIN (As := []) (rest := [.ref q5_1, .ref rd]) ⟨hx, hb, hml, hown, hts⟩ (c_X1_init l G q5_1 _) ⟨va_cnB 0 hts gX2_init_X1_init_n11 rfl rfl rfl hN.2.2.2.1 (hts (.initialized RX1) (by decide +kernel)) (by decide +kernel) ⟨Nat.le_of_ble_eq_true rfl, Nat.le_of_ble_eq_true rfl⟩, rfl, hts (.instanceMethod yX1_init) (by decide +kernel)⟩ (kz_pk hK hN hPc hDc) rfl rfl hl.1 rfl (lv_room (Nat.le_of_ble_eq_true rfl)) dX2_init_9 ⟨Nat.le_of_ble_eq_true rfl, Nat.le_of_ble_eq_true rfl⟩) hS (fun q _ h => hFc q h) hFc (fun u t H locs ht hvm hw hB hqz9 hqk9 hS => ?_)
  obtain ⟨aw_1, az_1, an_1, hw⟩ := hw
  subst hw
  obtain ⟨hB1, hB2⟩ := hB
  rw [ht] at hB1
  obtain ⟨hP, hD⟩ := va_join (wr := [(rd, .inr (2, [.null, .int 0, .int 0]))]) (w1 := [(q5_1, .inr (1, [.ref aw_1, .ref az_1, .ref an_1, .int (nI 0)])), (aw_1, .inl (gJ G, 120, .inr (.inl (fun _ => 0)))), (az_1, .inl (gI G, 120, .inl (kz_z kf_z0))), (an_1, .inl (gI G, 120, .inl (fun _ => 0)))]) hP hD [1] [0] rfl rfl (by decide) (by decide) hqk9 hFc hB1 hB2
  have hP : va_P G.1 vwCl [(rd, .inr (2, [.null, .int 0, .int 0])), (q5_1, .inr (1, [.ref aw_1, .ref az_1, .ref an_1, .int (nI 0)])), (aw_1, .inl (gJ G, 120, .inr (.inl (fun _ => 0)))), (az_1, .inl (gI G, 120, .inl (kz_z kf_z0))), (an_1, .inl (gI G, 120, .inl (fun _ => 0)))] H := hP
  have hD : va_D A [(rd, .inr (2, [.null, .int 0, .int 0])), (q5_1, .inr (1, [.ref aw_1, .ref az_1, .ref an_1, .int (nI 0)])), (aw_1, .inl (gJ G, 120, .inr (.inl (fun _ => 0)))), (az_1, .inl (gI G, 120, .inl (kz_z kf_z0))), (an_1, .inl (gI G, 120, .inl (fun _ => 0)))] := hD
  refine W.widen (k := 4) (n := 364) (by decide) (by decide) ?_
  refine va_putF (D := G.1) (ci := 2) (v := .ref q5_1) (ty := .object "ForkStore$Keys") (C := RX2) (T := TX2) (N := 3) hx hb hts hinX2 tyX2 tyX2_ok nmX2 hown hK.1 hP hD hS 0 rfl rfl 0 (by decide) (hts (.fieldLink RX2 12 "ForkStore$Reader" "seen" "LForkStore$Keys;") (by decide +kernel)) (fun _ h9 => h9) rfl hin rfl (by decide +kernel) rfl rfl (Nat.le_of_ble_eq_true rfl) dX2_init_12 (fun H locs hP hD hS => ?_)
  have hP : va_P G.1 vwCl [(rd, .inr (2, [.ref q5_1, .int 0, .int 0])), (q5_1, .inr (1, [.ref aw_1, .ref az_1, .ref an_1, .int (nI 0)])), (aw_1, .inl (gJ G, 120, .inr (.inl (fun _ => 0)))), (az_1, .inl (gI G, 120, .inl (kz_z kf_z0))), (an_1, .inl (gI G, 120, .inl (fun _ => 0)))] H := hP
  have hD : va_D A [(rd, .inr (2, [.ref q5_1, .int 0, .int 0])), (q5_1, .inr (1, [.ref aw_1, .ref az_1, .ref an_1, .int (nI 0)])), (aw_1, .inl (gJ G, 120, .inr (.inl (fun _ => 0)))), (az_1, .inl (gI G, 120, .inl (kz_z kf_z0))), (an_1, .inl (gI G, 120, .inl (fun _ => 0)))] := hD
  refine lv_aload_n hx hb dX2_init_15 rfl (lv_at hl 0 rfl) ?_
  refine lv_iconst (v := 0) hx hb dX2_init_16 (by decide) ?_
  refine va_put (D := G.1) (ci := 2) (v := .int 0) (ty := .boolean) (C := RX2) (T := TX2) (N := 3) hx hb hts hinX2 tyX2 tyX2_ok nmX2 hown hK.1 hP hD hS 0 rfl rfl 1 (by decide) (hts (.fieldLink RX2 18 "ForkStore$Reader" "isOpen" "Z") (by decide +kernel)) (fun _ h9 => h9) rfl (by decide +kernel) rfl rfl (Nat.le_of_ble_eq_true rfl) dX2_init_17 (fun H locs hP hD hS => ?_)
  have hP : va_P G.1 vwCl [(rd, .inr (2, [.ref q5_1, .int 0, .int 0])), (q5_1, .inr (1, [.ref aw_1, .ref az_1, .ref an_1, .int (nI 0)])), (aw_1, .inl (gJ G, 120, .inr (.inl (fun _ => 0)))), (az_1, .inl (gI G, 120, .inl (kz_z kf_z0))), (an_1, .inl (gI G, 120, .inl (fun _ => 0)))] H := hP
  have hD : va_D A [(rd, .inr (2, [.ref q5_1, .int 0, .int 0])), (q5_1, .inr (1, [.ref aw_1, .ref az_1, .ref an_1, .int (nI 0)])), (aw_1, .inl (gJ G, 120, .inr (.inl (fun _ => 0)))), (az_1, .inl (gI G, 120, .inl (kz_z kf_z0))), (an_1, .inl (gI G, 120, .inl (fun _ => 0)))] := hD
  refine lv_aload_n hx hb dX2_init_20 rfl (lv_at hl 0 rfl) ?_
  refine lv_iconst (v := (-1)) hx hb dX2_init_21 (by decide) ?_
  refine va_put (D := G.1) (ci := 2) (v := .int (-1)) (ty := .int) (C := RX2) (T := TX2) (N := 3) hx hb hts hinX2 tyX2 tyX2_ok nmX2 hown hK.1 hP hD hS 0 rfl rfl 2 (by decide) (hts (.fieldLink RX2 22 "ForkStore$Reader" "place" "I") (by decide +kernel)) (fun _ h9 => h9) rfl (by decide +kernel) rfl rfl (Nat.le_of_ble_eq_true rfl) dX2_init_22 (fun H locs hP hD hS => ?_)
  have hP : va_P G.1 vwCl [(rd, .inr (2, [.ref q5_1, .int 0, .int (-1)])), (q5_1, .inr (1, [.ref aw_1, .ref az_1, .ref an_1, .int (nI 0)])), (aw_1, .inl (gJ G, 120, .inr (.inl (fun _ => 0)))), (az_1, .inl (gI G, 120, .inl (kz_z kf_z0))), (an_1, .inl (gI G, 120, .inl (fun _ => 0)))] H := hP
  have hD : va_D A [(rd, .inr (2, [.ref q5_1, .int 0, .int (-1)])), (q5_1, .inr (1, [.ref aw_1, .ref az_1, .ref an_1, .int (nI 0)])), (aw_1, .inl (gJ G, 120, .inr (.inl (fun _ => 0)))), (az_1, .inl (gI G, 120, .inl (kz_z kf_z0))), (an_1, .inl (gI G, 120, .inl (fun _ => 0)))] := hD
  have hP9 := hP.sub (ws' := [(rd, .inr (2, [.ref q5_1, .int 0, .int (-1)])), (q5_1, .inr (1, [.ref aw_1, .ref az_1, .ref an_1, .int (nI 0)])), (aw_1, .inl (gJ G, 120, .inr (.inl (fun _ => 0)))), (az_1, .inl (gI G, 120, .inl (kz_z kf_z0))), (an_1, .inl (gI G, 120, .inl (fun _ => 0)))]) [0, 1, 2, 3, 4] rfl
  have hD9 := hD.sub (ws' := [(rd, .inr (2, [.ref q5_1, .int 0, .int (-1)])), (q5_1, .inr (1, [.ref aw_1, .ref az_1, .ref an_1, .int (nI 0)])), (aw_1, .inl (gJ G, 120, .inr (.inl (fun _ => 0)))), (az_1, .inl (gI G, 120, .inl (kz_z kf_z0))), (an_1, .inl (gI G, 120, .inl (fun _ => 0)))]) [0, 1, 2, 3, 4] (by decide) rfl
  exact W.vret hx hb hr (fun t ht hW => ⟨⟨_, rfl, ⟨q5_1, aw_1, az_1, an_1, rfl⟩, by rw [← ht] at hP9; exact ⟨hP9, hD9⟩⟩, hS.F ht⟩) hS.2.2 dX2_init_25

set_option maxHeartbeats 4000000 in
set_option maxRecDepth 100000 in
theorem c_X3_init (l : Launch) (G : kz_G) (xo sz : Nat) : Met l yX3_init wsX3_init { frames := 3, cells := 22, slots := 1477, locals := 52 } (kz_Pk G [.ref xo] [(xo, .inr (3, [.null, .null, .null]))] sz) (kz_Qk G (fun w => ∃ (hk aw az an hc ab ra rd0 hk0 aw0 az0 an0 rd1 hk1 aw1 az1 an1 rd2 hk2 aw2 az2 an2 : Nat), w = [(xo, .inr (3, [.ref hk, .ref hc, .ref ra])), (hk, .inr (1, [.ref aw, .ref az, .ref an, .int (nI 0)])), (aw, .inl (gJ G, 120, .inr (.inl (fun _ => 0)))), (az, .inl (gI G, 120, .inl (kz_z kf_z0))), (an, .inl (gI G, 120, .inl (fun _ => 0))), (hc, .inr (0, [.ref ab])), (ab, .inl (gI G, 8, .inl (kz_z kf_z0))), (ra, .inl (gO G, 3, .inr (.inr (.inr (.inr (kf_ra rd0 rd1 rd2)))))), (rd0, .inr (2, [.ref hk0, .int (kf_b false), .int (kf_p 0)])), (hk0, .inr (1, [.ref aw0, .ref az0, .ref an0, .int (nI 0)])), (aw0, .inl (gJ G, 120, .inr (.inl (fun _ => 0)))), (az0, .inl (gI G, 120, .inl (kz_z kf_z0))), (an0, .inl (gI G, 120, .inl (fun _ => 0))), (rd1, .inr (2, [.ref hk1, .int (kf_b false), .int (kf_p 0)])), (hk1, .inr (1, [.ref aw1, .ref az1, .ref an1, .int (nI 0)])), (aw1, .inl (gJ G, 120, .inr (.inl (fun _ => 0)))), (az1, .inl (gI G, 120, .inl (kz_z kf_z0))), (an1, .inl (gI G, 120, .inl (fun _ => 0))), (rd2, .inr (2, [.ref hk2, .int (kf_b false), .int (kf_p 0)])), (hk2, .inr (1, [.ref aw2, .ref az2, .ref an2, .int (nI 0)])), (aw2, .inl (gJ G, 120, .inr (.inl (fun _ => 0)))), (az2, .inl (gI G, 120, .inl (kz_z kf_z0))), (an2, .inl (gI G, 120, .inl (fun _ => 0)))]) (va_A [(xo, .inr (3, [.null, .null, .null]))] sz)) 22 1477 (va_A [(xo, .inr (3, [.null, .null, .null]))] sz) := by
  refine Met.ofW (cc := cX3_init) (maxL := 2) (ret := none) (by decide) rfl ?_
  intro p e s m args below meth c s₁ B hml hv
  obtain ⟨rfl, hsz, hP, hK, hD0, hN⟩ := hv
  have hx := B.exec
  have hb := B.bytes
  have hr := B.returns
  have hts := atoms_spec (ws := wsX3_init) B.pre
  have hown : s.vm.findClass RX3 = some m.cls := findClass_of_methodNamed B.named
  have hlocks := B.notSynchronized
  have hin : meth.name = "<init>" := (name_of_methodNamed B.named B.method).1
  have hinX0 : ∀ w ∈ wsX00, w ∈ wsX3_init := by decide +kernel
  have hinX1 : ∀ w ∈ wsX10, w ∈ wsX3_init := by decide +kernel
  have hinX2 : ∀ w ∈ wsX20, w ∈ wsX3_init := by decide +kernel
  have hinX3 : ∀ w ∈ wsX30, w ∈ wsX3_init := by decide +kernel
  subst hsz
  have hD := hD0.self (sz := s.heap.size)
  generalize hAe : va_A [(xo, .inr (3, [.null, .null, .null]))] s.heap.size = A at hD ⊢
  have hA : ∀ q : Nat, s.heap.size ≤ q → A q := fun q h => by rw [← hAe]; exact Or.inr h
  have hS : va_S A s.heap s.heap [] := va_S.rf
  have hl := lv_entry ([.ref xo]) (n := 2) (Nat.le_of_ble_eq_true rfl)
  rw [lg_entry_eq]
  generalize (lg_sl ([.ref xo]) ++ List.replicate (2 - (lg_sl ([.ref xo])).length) Slot.unset).toArray = ls at hl ⊢
  have hl : lv_has ls 2 [(0, .ref xo)] := hl
  refine lv_aload_n hx hb dX3_init_0 rfl (lv_at hl 0 rfl) ?_
  refine W.objInit hx hb hown (hts (.methodLink RX3 1 objectInit) (by decide +kernel)) (hts (.instanceMethod objectInit) (by decide +kernel)) (hts (.code objectInit ⟨#[0xb1]⟩ 1 none) (by decide +kernel)) rfl (by rw [hml]; exact hl.1) rfl dX3_init_1 (Nat.le_of_ble_eq_true rfl) (Nat.le_of_ble_eq_true rfl) ?_
  refine W.eq (g2 := F0 m 4 ls []) rfl ?_
  refine lv_aload_n hx hb dX3_init_4 rfl (lv_at hl 0 rfl) ?_
  refine va_new (ci := 1) (fs := [.null, .null, .null, .int 0]) (C := RX1) (T := TX1) (N := 4) hx hb hts hinX1 tyX1 tyX1_ok hown (hts (.classLink RX3 7 RX1) (by decide +kernel)) (hts (.instantiable RX1 4) (by decide +kernel)) (hts (.initialized RX1) (by decide +kernel)) hK.1 hP hD hS hA rfl (fun j hj => by rcases (show j = 0 ∨ j = 1 ∨ j = 2 ∨ j = 3 by omega) with rfl | rfl | rfl | rfl <;> rfl) (Nat.le_of_ble_eq_true rfl) (Nat.le_of_ble_eq_true rfl) dX3_init_5 (fun q5_1 H hP hD hS => ?_)
  have hP : va_P G.1 vwCl [(xo, .inr (3, [.null, .null, .null])), (q5_1, .inr (1, [.null, .null, .null, .int 0]))] H := hP
  have hD : va_D A [(xo, .inr (3, [.null, .null, .null])), (q5_1, .inr (1, [.null, .null, .null, .int 0]))] := hD
  refine W.widen (k := 1) (n := 4) (by decide) (by decide) ?_
  refine lv_dup hx hb dX3_init_8 rfl ?_
  have hPc := hP.sub (ws' := [(q5_1, .inr (1, [.null, .null, .null, .int 0]))]) [1] rfl
  have hDc := hD.sub (ws' := [(q5_1, .inr (1, [.null, .null, .null, .int 0]))]) [1] (by decide) rfl
  have hFc := va_free (wc := [(q5_1, .inr (1, [.null, .null, .null, .int 0]))]) hD hS hA [1] rfl
  refine va_callv (va_runIN (As := []) (rest := [.ref q5_1, .ref xo]) ⟨hx, hb, hml, hown, hts⟩ (c_X1_init l G q5_1 _) ⟨va_cnB 0 hts gX3_init_X1_init_n9 rfl rfl rfl hN.1 (hts (.initialized RX1) (by decide +kernel)) (by decide +kernel) ⟨Nat.le_of_ble_eq_true rfl, Nat.le_of_ble_eq_true rfl⟩, rfl, hts (.instanceMethod yX1_init) (by decide +kernel)⟩ (kz_pk hK hN hPc hDc) rfl rfl hl.1 rfl (lv_room (Nat.le_of_ble_eq_true rfl)) dX3_init_9 ⟨Nat.le_of_ble_eq_true rfl, Nat.le_of_ble_eq_true rfl⟩) hS (fun q _ h => hFc q h) hFc (fun u t H locs ht hvm hw hB hqz9 hqk9 hS => ?_)
  obtain ⟨aw_1, az_1, an_1, hw⟩ := hw
  subst hw
  obtain ⟨hB1, hB2⟩ := hB
  rw [ht] at hB1
  obtain ⟨hP, hD⟩ := va_join (wr := [(xo, .inr (3, [.null, .null, .null]))]) (w1 := [(q5_1, .inr (1, [.ref aw_1, .ref az_1, .ref an_1, .int (nI 0)])), (aw_1, .inl (gJ G, 120, .inr (.inl (fun _ => 0)))), (az_1, .inl (gI G, 120, .inl (kz_z kf_z0))), (an_1, .inl (gI G, 120, .inl (fun _ => 0)))]) hP hD [1] [0] rfl rfl (by decide) (by decide) hqk9 hFc hB1 hB2
  have hP : va_P G.1 vwCl [(xo, .inr (3, [.null, .null, .null])), (q5_1, .inr (1, [.ref aw_1, .ref az_1, .ref an_1, .int (nI 0)])), (aw_1, .inl (gJ G, 120, .inr (.inl (fun _ => 0)))), (az_1, .inl (gI G, 120, .inl (kz_z kf_z0))), (an_1, .inl (gI G, 120, .inl (fun _ => 0)))] H := hP
  have hD : va_D A [(xo, .inr (3, [.null, .null, .null])), (q5_1, .inr (1, [.ref aw_1, .ref az_1, .ref an_1, .int (nI 0)])), (aw_1, .inl (gJ G, 120, .inr (.inl (fun _ => 0)))), (az_1, .inl (gI G, 120, .inl (kz_z kf_z0))), (an_1, .inl (gI G, 120, .inl (fun _ => 0)))] := hD
  refine W.widen (k := 4) (n := 364) (by decide) (by decide) ?_
  refine va_putF (D := G.1) (ci := 3) (v := .ref q5_1) (ty := .object "ForkStore$Keys") (C := RX3) (T := TX3) (N := 3) hx hb hts hinX3 tyX3 tyX3_ok nmX3 hown hK.1 hP hD hS 0 rfl rfl 0 (by decide) (hts (.fieldLink RX3 10 "ForkStore" "keys" "LForkStore$Keys;") (by decide +kernel)) (fun _ h9 => h9) rfl hin rfl (by decide +kernel) rfl rfl (Nat.le_of_ble_eq_true rfl) dX3_init_12 (fun H locs hP hD hS => ?_)
  have hP : va_P G.1 vwCl [(xo, .inr (3, [.ref q5_1, .null, .null])), (q5_1, .inr (1, [.ref aw_1, .ref az_1, .ref an_1, .int (nI 0)])), (aw_1, .inl (gJ G, 120, .inr (.inl (fun _ => 0)))), (az_1, .inl (gI G, 120, .inl (kz_z kf_z0))), (an_1, .inl (gI G, 120, .inl (fun _ => 0)))] H := hP
  have hD : va_D A [(xo, .inr (3, [.ref q5_1, .null, .null])), (q5_1, .inr (1, [.ref aw_1, .ref az_1, .ref an_1, .int (nI 0)])), (aw_1, .inl (gJ G, 120, .inr (.inl (fun _ => 0)))), (az_1, .inl (gI G, 120, .inl (kz_z kf_z0))), (an_1, .inl (gI G, 120, .inl (fun _ => 0)))] := hD
  refine lv_aload_n hx hb dX3_init_15 rfl (lv_at hl 0 rfl) ?_
  refine va_new (ci := 0) (fs := [.null]) (C := RX0) (T := TX0) (N := 1) hx hb hts hinX0 tyX0 tyX0_ok hown (hts (.classLink RX3 16 RX0) (by decide +kernel)) (hts (.instantiable RX0 1) (by decide +kernel)) (hts (.initialized RX0) (by decide +kernel)) hK.1 hP hD hS hA rfl (fun j hj => by rcases (show j = 0 by omega) with rfl <;> rfl) (Nat.le_of_ble_eq_true rfl) (Nat.le_of_ble_eq_true rfl) dX3_init_16 (fun q16_2 H hP hD hS => ?_)
  have hP : va_P G.1 vwCl [(xo, .inr (3, [.ref q5_1, .null, .null])), (q5_1, .inr (1, [.ref aw_1, .ref az_1, .ref an_1, .int (nI 0)])), (aw_1, .inl (gJ G, 120, .inr (.inl (fun _ => 0)))), (az_1, .inl (gI G, 120, .inl (kz_z kf_z0))), (an_1, .inl (gI G, 120, .inl (fun _ => 0))), (q16_2, .inr (0, [.null]))] H := hP
  have hD : va_D A [(xo, .inr (3, [.ref q5_1, .null, .null])), (q5_1, .inr (1, [.ref aw_1, .ref az_1, .ref an_1, .int (nI 0)])), (aw_1, .inl (gJ G, 120, .inr (.inl (fun _ => 0)))), (az_1, .inl (gI G, 120, .inl (kz_z kf_z0))), (an_1, .inl (gI G, 120, .inl (fun _ => 0))), (q16_2, .inr (0, [.null]))] := hD
  refine W.widen (k := 5) (n := 365) (by decide) (by decide) ?_
  refine lv_dup hx hb dX3_init_19 rfl ?_
  have hPc := hP.sub (ws' := [(q16_2, .inr (0, [.null]))]) [5] rfl
  have hDc := hD.sub (ws' := [(q16_2, .inr (0, [.null]))]) [5] (by decide) rfl
  have hFc := va_free (wc := [(q16_2, .inr (0, [.null]))]) hD hS hA [5] rfl
  refine va_callv (va_runIN (As := []) (rest := [.ref q16_2, .ref xo]) ⟨hx, hb, hml, hown, hts⟩ (c_X0_init l G q16_2 _) ⟨va_cnB 0 hts gX3_init_X0_init_n18 rfl rfl rfl hN.2.1 (hts (.initialized RX0) (by decide +kernel)) (by decide +kernel) ⟨Nat.le_of_ble_eq_true rfl, Nat.le_of_ble_eq_true rfl⟩, rfl, hts (.instanceMethod yX0_init) (by decide +kernel)⟩ (kz_pk hK hN hPc hDc) rfl rfl hl.1 rfl (lv_room (Nat.le_of_ble_eq_true rfl)) dX3_init_20 ⟨Nat.le_of_ble_eq_true rfl, Nat.le_of_ble_eq_true rfl⟩) hS (fun q _ h => hFc q h) hFc (fun u t H locs ht hvm hw hB hqz9 hqk9 hS => ?_)
  obtain ⟨ab_2, hw⟩ := hw
  subst hw
  obtain ⟨hB1, hB2⟩ := hB
  rw [ht] at hB1
  obtain ⟨hP, hD⟩ := va_join (wr := [(xo, .inr (3, [.ref q5_1, .null, .null])), (q5_1, .inr (1, [.ref aw_1, .ref az_1, .ref an_1, .int (nI 0)])), (aw_1, .inl (gJ G, 120, .inr (.inl (fun _ => 0)))), (az_1, .inl (gI G, 120, .inl (kz_z kf_z0))), (an_1, .inl (gI G, 120, .inl (fun _ => 0)))]) (w1 := [(q16_2, .inr (0, [.ref ab_2])), (ab_2, .inl (gI G, 8, .inl (kz_z kf_z0)))]) hP hD [5] [0, 1, 2, 3, 4] rfl rfl (by decide) (by decide) hqk9 hFc hB1 hB2
  have hP : va_P G.1 vwCl [(xo, .inr (3, [.ref q5_1, .null, .null])), (q5_1, .inr (1, [.ref aw_1, .ref az_1, .ref an_1, .int (nI 0)])), (aw_1, .inl (gJ G, 120, .inr (.inl (fun _ => 0)))), (az_1, .inl (gI G, 120, .inl (kz_z kf_z0))), (an_1, .inl (gI G, 120, .inl (fun _ => 0))), (q16_2, .inr (0, [.ref ab_2])), (ab_2, .inl (gI G, 8, .inl (kz_z kf_z0)))] H := hP
  have hD : va_D A [(xo, .inr (3, [.ref q5_1, .null, .null])), (q5_1, .inr (1, [.ref aw_1, .ref az_1, .ref an_1, .int (nI 0)])), (aw_1, .inl (gJ G, 120, .inr (.inl (fun _ => 0)))), (az_1, .inl (gI G, 120, .inl (kz_z kf_z0))), (an_1, .inl (gI G, 120, .inl (fun _ => 0))), (q16_2, .inr (0, [.ref ab_2])), (ab_2, .inl (gI G, 8, .inl (kz_z kf_z0)))] := hD
  refine W.widen (k := 6) (n := 373) (by decide) (by decide) ?_
  refine va_putF (D := G.1) (ci := 3) (v := .ref q16_2) (ty := .object "ForkStore$ForkCounter") (C := RX3) (T := TX3) (N := 3) hx hb hts hinX3 tyX3 tyX3_ok nmX3 hown hK.1 hP hD hS 0 rfl rfl 1 (by decide) (hts (.fieldLink RX3 19 "ForkStore" "counter" "LForkStore$ForkCounter;") (by decide +kernel)) (fun _ h9 => h9) rfl hin rfl (by decide +kernel) rfl rfl (Nat.le_of_ble_eq_true rfl) dX3_init_23 (fun H locs hP hD hS => ?_)
  have hP : va_P G.1 vwCl [(xo, .inr (3, [.ref q5_1, .ref q16_2, .null])), (q5_1, .inr (1, [.ref aw_1, .ref az_1, .ref an_1, .int (nI 0)])), (aw_1, .inl (gJ G, 120, .inr (.inl (fun _ => 0)))), (az_1, .inl (gI G, 120, .inl (kz_z kf_z0))), (an_1, .inl (gI G, 120, .inl (fun _ => 0))), (q16_2, .inr (0, [.ref ab_2])), (ab_2, .inl (gI G, 8, .inl (kz_z kf_z0)))] H := hP
  have hD : va_D A [(xo, .inr (3, [.ref q5_1, .ref q16_2, .null])), (q5_1, .inr (1, [.ref aw_1, .ref az_1, .ref an_1, .int (nI 0)])), (aw_1, .inl (gJ G, 120, .inr (.inl (fun _ => 0)))), (az_1, .inl (gI G, 120, .inl (kz_z kf_z0))), (an_1, .inl (gI G, 120, .inl (fun _ => 0))), (q16_2, .inr (0, [.ref ab_2])), (ab_2, .inl (gI G, 8, .inl (kz_z kf_z0)))] := hD
  refine lv_aload_n hx hb dX3_init_26 rfl (lv_at hl 0 rfl) ?_
  refine lv_iconst (v := 3) hx hb dX3_init_27 (by decide) ?_
  refine va_newq (C := "ForkStore$Reader") (N' := 3) hx hb hown (hts (.classLink RX3 23 "ForkStore$Reader") (by decide +kernel)) hN.2.2.2.2 hK.1 hP hD hS hA (by decide +kernel) (by decide +kernel) (by decide +kernel) (Nat.le_of_ble_eq_true rfl) (Nat.le_of_ble_eq_true rfl) dX3_init_28 (fun q28 cA9 H hK9 hP hD hS => ?_)
  obtain rfl : cA9 = gO G := kz_same hK9 (i := 3) (j := 4) rfl rfl
  have hP : va_P G.1 vwCl [(xo, .inr (3, [.ref q5_1, .ref q16_2, .null])), (q5_1, .inr (1, [.ref aw_1, .ref az_1, .ref an_1, .int (nI 0)])), (aw_1, .inl (gJ G, 120, .inr (.inl (fun _ => 0)))), (az_1, .inl (gI G, 120, .inl (kz_z kf_z0))), (an_1, .inl (gI G, 120, .inl (fun _ => 0))), (q16_2, .inr (0, [.ref ab_2])), (ab_2, .inl (gI G, 8, .inl (kz_z kf_z0))), (q28, .inl (gO G, 3, .inr (.inr (.inr (.inr (fun _ => none))))))] H := hP
  have hD : va_D A [(xo, .inr (3, [.ref q5_1, .ref q16_2, .null])), (q5_1, .inr (1, [.ref aw_1, .ref az_1, .ref an_1, .int (nI 0)])), (aw_1, .inl (gJ G, 120, .inr (.inl (fun _ => 0)))), (az_1, .inl (gI G, 120, .inl (kz_z kf_z0))), (an_1, .inl (gI G, 120, .inl (fun _ => 0))), (q16_2, .inr (0, [.ref ab_2])), (ab_2, .inl (gI G, 8, .inl (kz_z kf_z0))), (q28, .inl (gO G, 3, .inr (.inr (.inr (.inr (fun _ => none))))))] := hD
  refine W.widen (k := 7) (n := 376) (by decide) (by decide) ?_
  refine va_putF (D := G.1) (ci := 3) (v := .ref q28) (ty := .array (.object "ForkStore$Reader")) (C := RX3) (T := TX3) (N := 3) hx hb hts hinX3 tyX3 tyX3_ok nmX3 hown hK.1 hP hD hS 0 rfl rfl 2 (by decide) (hts (.fieldLink RX3 25 "ForkStore" "readers" "[LForkStore$Reader;") (by decide +kernel)) (fun _ h9 => h9) rfl hin rfl (by decide +kernel) rfl rfl (Nat.le_of_ble_eq_true rfl) dX3_init_31 (fun H locs hP hD hS => ?_)
  have hP : va_P G.1 vwCl [(xo, .inr (3, [.ref q5_1, .ref q16_2, .ref q28])), (q5_1, .inr (1, [.ref aw_1, .ref az_1, .ref an_1, .int (nI 0)])), (aw_1, .inl (gJ G, 120, .inr (.inl (fun _ => 0)))), (az_1, .inl (gI G, 120, .inl (kz_z kf_z0))), (an_1, .inl (gI G, 120, .inl (fun _ => 0))), (q16_2, .inr (0, [.ref ab_2])), (ab_2, .inl (gI G, 8, .inl (kz_z kf_z0))), (q28, .inl (gO G, 3, .inr (.inr (.inr (.inr (fun _ => none))))))] H := hP
  have hD : va_D A [(xo, .inr (3, [.ref q5_1, .ref q16_2, .ref q28])), (q5_1, .inr (1, [.ref aw_1, .ref az_1, .ref an_1, .int (nI 0)])), (aw_1, .inl (gJ G, 120, .inr (.inl (fun _ => 0)))), (az_1, .inl (gI G, 120, .inl (kz_z kf_z0))), (an_1, .inl (gI G, 120, .inl (fun _ => 0))), (q16_2, .inr (0, [.ref ab_2])), (ab_2, .inl (gI G, 8, .inl (kz_z kf_z0))), (q28, .inl (gO G, 3, .inr (.inr (.inr (.inr (fun _ => none))))))] := hD
  refine lv_iconst (v := 0) hx hb dX3_init_34 (by decide) ?_
  refine lv_istore_n (lv' := [(1, .int 0), (0, .ref xo)]) hx hb dX3_init_35 rfl hl (by decide) rfl (fun ls hl => ?_)
  refine lv_iload_n hx hb dX3_init_36 rfl (lv_at hl 0 rfl) ?_
  refine lv_iconst (v := 3) hx hb dX3_init_37 (by decide) ?_
  refine lv_icmp_ge (tgt := 60) hx hb dX3_init_38 (by decide) (fun c_1 => ?_) (fun c_1 => ?_)
  · exact absurd c_1 (by decide)
  · refine lv_aload_n hx hb dX3_init_41 rfl (lv_at hl 1 rfl) ?_
    refine va_get (D := G.1) (ci := 3) (v := .ref q28) (C := RX3) (T := TX3) (N := 3) hx hb hts hinX3 hown hK.1 hP 0 rfl rfl 2 (by decide) (hts (.fieldLink RX3 25 "ForkStore" "readers" "[LForkStore$Reader;") (by decide +kernel)) (fun _ h9 => h9) rfl dX3_init_42 ?_
    refine lv_iload_n hx hb dX3_init_45 rfl (lv_at hl 0 rfl) ?_
    refine va_new (ci := 2) (fs := [.null, .int 0, .int 0]) (C := RX2) (T := TX2) (N := 3) hx hb hts hinX2 tyX2 tyX2_ok hown (hts (.classLink RX3 23 RX2) (by decide +kernel)) (hts (.instantiable RX2 3) (by decide +kernel)) (hts (.initialized RX2) (by decide +kernel)) hK.1 hP hD hS hA rfl (fun j hj => by rcases (show j = 0 ∨ j = 1 ∨ j = 2 by omega) with rfl | rfl | rfl <;> rfl) (Nat.le_of_ble_eq_true rfl) (Nat.le_of_ble_eq_true rfl) dX3_init_46 (fun q46_3 H hP hD hS => ?_)
    have hP : va_P G.1 vwCl [(xo, .inr (3, [.ref q5_1, .ref q16_2, .ref q28])), (q5_1, .inr (1, [.ref aw_1, .ref az_1, .ref an_1, .int (nI 0)])), (aw_1, .inl (gJ G, 120, .inr (.inl (fun _ => 0)))), (az_1, .inl (gI G, 120, .inl (kz_z kf_z0))), (an_1, .inl (gI G, 120, .inl (fun _ => 0))), (q16_2, .inr (0, [.ref ab_2])), (ab_2, .inl (gI G, 8, .inl (kz_z kf_z0))), (q28, .inl (gO G, 3, .inr (.inr (.inr (.inr (fun _ => none)))))), (q46_3, .inr (2, [.null, .int 0, .int 0]))] H := hP
    have hD : va_D A [(xo, .inr (3, [.ref q5_1, .ref q16_2, .ref q28])), (q5_1, .inr (1, [.ref aw_1, .ref az_1, .ref an_1, .int (nI 0)])), (aw_1, .inl (gJ G, 120, .inr (.inl (fun _ => 0)))), (az_1, .inl (gI G, 120, .inl (kz_z kf_z0))), (an_1, .inl (gI G, 120, .inl (fun _ => 0))), (q16_2, .inr (0, [.ref ab_2])), (ab_2, .inl (gI G, 8, .inl (kz_z kf_z0))), (q28, .inl (gO G, 3, .inr (.inr (.inr (.inr (fun _ => none)))))), (q46_3, .inr (2, [.null, .int 0, .int 0]))] := hD
    refine W.widen (k := 8) (n := 379) (by decide) (by decide) ?_
    refine lv_dup hx hb dX3_init_49 rfl ?_
    have hPc := hP.sub (ws' := [(q46_3, .inr (2, [.null, .int 0, .int 0]))]) [8] rfl
    have hDc := hD.sub (ws' := [(q46_3, .inr (2, [.null, .int 0, .int 0]))]) [8] (by decide) rfl
    have hFc := va_free (wc := [(q46_3, .inr (2, [.null, .int 0, .int 0]))]) hD hS hA [8] rfl
    refine va_callv (va_runIN (As := []) (rest := [.ref q46_3, .int 0, .ref q28]) ⟨hx, hb, hml, hown, hts⟩ (c_X2_init l G q46_3 _) ⟨va_cnB 0 hts gX3_init_X2_init_n29 rfl rfl rfl hN.2.2.1 (hts (.initialized RX2) (by decide +kernel)) (by decide +kernel) ⟨Nat.le_of_ble_eq_true rfl, Nat.le_of_ble_eq_true rfl⟩, rfl, hts (.instanceMethod yX2_init) (by decide +kernel)⟩ (kz_pk hK hN hPc hDc) rfl rfl hl.1 rfl (lv_room (Nat.le_of_ble_eq_true rfl)) dX3_init_50 ⟨Nat.le_of_ble_eq_true rfl, Nat.le_of_ble_eq_true rfl⟩) hS (fun q _ h => hFc q h) hFc (fun u t H locs ht hvm hw hB hqz9 hqk9 hS => ?_)
    obtain ⟨hk_3, aw_3, az_3, an_3, hw⟩ := hw
    subst hw
    obtain ⟨hB1, hB2⟩ := hB
    rw [ht] at hB1
    obtain ⟨hP, hD⟩ := va_join (wr := [(xo, .inr (3, [.ref q5_1, .ref q16_2, .ref q28])), (q5_1, .inr (1, [.ref aw_1, .ref az_1, .ref an_1, .int (nI 0)])), (aw_1, .inl (gJ G, 120, .inr (.inl (fun _ => 0)))), (az_1, .inl (gI G, 120, .inl (kz_z kf_z0))), (an_1, .inl (gI G, 120, .inl (fun _ => 0))), (q16_2, .inr (0, [.ref ab_2])), (ab_2, .inl (gI G, 8, .inl (kz_z kf_z0))), (q28, .inl (gO G, 3, .inr (.inr (.inr (.inr (fun _ => none))))))]) (w1 := [(q46_3, .inr (2, [.ref hk_3, .int (kf_b false), .int (kf_p 0)])), (hk_3, .inr (1, [.ref aw_3, .ref az_3, .ref an_3, .int (nI 0)])), (aw_3, .inl (gJ G, 120, .inr (.inl (fun _ => 0)))), (az_3, .inl (gI G, 120, .inl (kz_z kf_z0))), (an_3, .inl (gI G, 120, .inl (fun _ => 0)))]) hP hD [8] [0, 1, 2, 3, 4, 5, 6, 7] rfl rfl (by decide) (by decide) hqk9 hFc hB1 hB2
    have hP : va_P G.1 vwCl [(xo, .inr (3, [.ref q5_1, .ref q16_2, .ref q28])), (q5_1, .inr (1, [.ref aw_1, .ref az_1, .ref an_1, .int (nI 0)])), (aw_1, .inl (gJ G, 120, .inr (.inl (fun _ => 0)))), (az_1, .inl (gI G, 120, .inl (kz_z kf_z0))), (an_1, .inl (gI G, 120, .inl (fun _ => 0))), (q16_2, .inr (0, [.ref ab_2])), (ab_2, .inl (gI G, 8, .inl (kz_z kf_z0))), (q28, .inl (gO G, 3, .inr (.inr (.inr (.inr (fun _ => none)))))), (q46_3, .inr (2, [.ref hk_3, .int (kf_b false), .int (kf_p 0)])), (hk_3, .inr (1, [.ref aw_3, .ref az_3, .ref an_3, .int (nI 0)])), (aw_3, .inl (gJ G, 120, .inr (.inl (fun _ => 0)))), (az_3, .inl (gI G, 120, .inl (kz_z kf_z0))), (an_3, .inl (gI G, 120, .inl (fun _ => 0)))] H := hP
    have hD : va_D A [(xo, .inr (3, [.ref q5_1, .ref q16_2, .ref q28])), (q5_1, .inr (1, [.ref aw_1, .ref az_1, .ref an_1, .int (nI 0)])), (aw_1, .inl (gJ G, 120, .inr (.inl (fun _ => 0)))), (az_1, .inl (gI G, 120, .inl (kz_z kf_z0))), (an_1, .inl (gI G, 120, .inl (fun _ => 0))), (q16_2, .inr (0, [.ref ab_2])), (ab_2, .inl (gI G, 8, .inl (kz_z kf_z0))), (q28, .inl (gO G, 3, .inr (.inr (.inr (.inr (fun _ => none)))))), (q46_3, .inr (2, [.ref hk_3, .int (kf_b false), .int (kf_p 0)])), (hk_3, .inr (1, [.ref aw_3, .ref az_3, .ref an_3, .int (nI 0)])), (aw_3, .inl (gJ G, 120, .inr (.inl (fun _ => 0)))), (az_3, .inl (gI G, 120, .inl (kz_z kf_z0))), (an_3, .inl (gI G, 120, .inl (fun _ => 0)))] := hD
    refine W.widen (k := 12) (n := 743) (by decide) (by decide) ?_
    refine va_astq hx hb hK.1 hP hD hS 7 3 8 2 (r := (RX2, TX2, 3)) rfl rfl rfl rfl (show vp_in (nI 0) 3 from vp_in_nI (by decide) (by decide)) dX3_init_53 (fun H locs hP hD hS => ?_)
    have hP : va_P G.1 vwCl [(xo, .inr (3, [.ref q5_1, .ref q16_2, .ref q28])), (q5_1, .inr (1, [.ref aw_1, .ref az_1, .ref an_1, .int (nI 0)])), (aw_1, .inl (gJ G, 120, .inr (.inl (fun _ => 0)))), (az_1, .inl (gI G, 120, .inl (kz_z kf_z0))), (an_1, .inl (gI G, 120, .inl (fun _ => 0))), (q16_2, .inr (0, [.ref ab_2])), (ab_2, .inl (gI G, 8, .inl (kz_z kf_z0))), (q28, .inl (gO G, 3, .inr (.inr (.inr (.inr (va_up (fun _ => none) 0 (some q46_3))))))), (q46_3, .inr (2, [.ref hk_3, .int (kf_b false), .int (kf_p 0)])), (hk_3, .inr (1, [.ref aw_3, .ref az_3, .ref an_3, .int (nI 0)])), (aw_3, .inl (gJ G, 120, .inr (.inl (fun _ => 0)))), (az_3, .inl (gI G, 120, .inl (kz_z kf_z0))), (an_3, .inl (gI G, 120, .inl (fun _ => 0)))] H := hP
    have hD : va_D A [(xo, .inr (3, [.ref q5_1, .ref q16_2, .ref q28])), (q5_1, .inr (1, [.ref aw_1, .ref az_1, .ref an_1, .int (nI 0)])), (aw_1, .inl (gJ G, 120, .inr (.inl (fun _ => 0)))), (az_1, .inl (gI G, 120, .inl (kz_z kf_z0))), (an_1, .inl (gI G, 120, .inl (fun _ => 0))), (q16_2, .inr (0, [.ref ab_2])), (ab_2, .inl (gI G, 8, .inl (kz_z kf_z0))), (q28, .inl (gO G, 3, .inr (.inr (.inr (.inr (va_up (fun _ => none) 0 (some q46_3))))))), (q46_3, .inr (2, [.ref hk_3, .int (kf_b false), .int (kf_p 0)])), (hk_3, .inr (1, [.ref aw_3, .ref az_3, .ref an_3, .int (nI 0)])), (aw_3, .inl (gJ G, 120, .inr (.inl (fun _ => 0)))), (az_3, .inl (gI G, 120, .inl (kz_z kf_z0))), (an_3, .inl (gI G, 120, .inl (fun _ => 0)))] := hD
    refine lv_iinc (v := 1) (lv' := [(1, .int 1), (0, .ref xo)]) hx hb dX3_init_54 hl (k := 0) rfl (by decide) (by decide) rfl (fun ls hl => ?_)
    refine lv_goto (tgt := 36) hx hb dX3_init_57 (by decide) ?_
    refine lv_iload_n hx hb dX3_init_36 rfl (lv_at hl 0 rfl) ?_
    refine lv_iconst (v := 3) hx hb dX3_init_37 (by decide) ?_
    refine lv_icmp_ge (tgt := 60) hx hb dX3_init_38 (by decide) (fun c_2 => ?_) (fun c_2 => ?_)
    · exact absurd c_2 (by decide)
    · refine lv_aload_n hx hb dX3_init_41 rfl (lv_at hl 1 rfl) ?_
      refine va_get (D := G.1) (ci := 3) (v := .ref q28) (C := RX3) (T := TX3) (N := 3) hx hb hts hinX3 hown hK.1 hP 0 rfl rfl 2 (by decide) (hts (.fieldLink RX3 25 "ForkStore" "readers" "[LForkStore$Reader;") (by decide +kernel)) (fun _ h9 => h9) rfl dX3_init_42 ?_
      refine lv_iload_n hx hb dX3_init_45 rfl (lv_at hl 0 rfl) ?_
      refine va_new (ci := 2) (fs := [.null, .int 0, .int 0]) (C := RX2) (T := TX2) (N := 3) hx hb hts hinX2 tyX2 tyX2_ok hown (hts (.classLink RX3 23 RX2) (by decide +kernel)) (hts (.instantiable RX2 3) (by decide +kernel)) (hts (.initialized RX2) (by decide +kernel)) hK.1 hP hD hS hA rfl (fun j hj => by rcases (show j = 0 ∨ j = 1 ∨ j = 2 by omega) with rfl | rfl | rfl <;> rfl) (Nat.le_of_ble_eq_true rfl) (Nat.le_of_ble_eq_true rfl) dX3_init_46 (fun q46_4 H hP hD hS => ?_)
      have hP : va_P G.1 vwCl [(xo, .inr (3, [.ref q5_1, .ref q16_2, .ref q28])), (q5_1, .inr (1, [.ref aw_1, .ref az_1, .ref an_1, .int (nI 0)])), (aw_1, .inl (gJ G, 120, .inr (.inl (fun _ => 0)))), (az_1, .inl (gI G, 120, .inl (kz_z kf_z0))), (an_1, .inl (gI G, 120, .inl (fun _ => 0))), (q16_2, .inr (0, [.ref ab_2])), (ab_2, .inl (gI G, 8, .inl (kz_z kf_z0))), (q28, .inl (gO G, 3, .inr (.inr (.inr (.inr (va_up (fun _ => none) 0 (some q46_3))))))), (q46_3, .inr (2, [.ref hk_3, .int (kf_b false), .int (kf_p 0)])), (hk_3, .inr (1, [.ref aw_3, .ref az_3, .ref an_3, .int (nI 0)])), (aw_3, .inl (gJ G, 120, .inr (.inl (fun _ => 0)))), (az_3, .inl (gI G, 120, .inl (kz_z kf_z0))), (an_3, .inl (gI G, 120, .inl (fun _ => 0))), (q46_4, .inr (2, [.null, .int 0, .int 0]))] H := hP
      have hD : va_D A [(xo, .inr (3, [.ref q5_1, .ref q16_2, .ref q28])), (q5_1, .inr (1, [.ref aw_1, .ref az_1, .ref an_1, .int (nI 0)])), (aw_1, .inl (gJ G, 120, .inr (.inl (fun _ => 0)))), (az_1, .inl (gI G, 120, .inl (kz_z kf_z0))), (an_1, .inl (gI G, 120, .inl (fun _ => 0))), (q16_2, .inr (0, [.ref ab_2])), (ab_2, .inl (gI G, 8, .inl (kz_z kf_z0))), (q28, .inl (gO G, 3, .inr (.inr (.inr (.inr (va_up (fun _ => none) 0 (some q46_3))))))), (q46_3, .inr (2, [.ref hk_3, .int (kf_b false), .int (kf_p 0)])), (hk_3, .inr (1, [.ref aw_3, .ref az_3, .ref an_3, .int (nI 0)])), (aw_3, .inl (gJ G, 120, .inr (.inl (fun _ => 0)))), (az_3, .inl (gI G, 120, .inl (kz_z kf_z0))), (an_3, .inl (gI G, 120, .inl (fun _ => 0))), (q46_4, .inr (2, [.null, .int 0, .int 0]))] := hD
      refine W.widen (k := 13) (n := 746) (by decide) (by decide) ?_
      refine lv_dup hx hb dX3_init_49 rfl ?_
      have hPc := hP.sub (ws' := [(q46_4, .inr (2, [.null, .int 0, .int 0]))]) [13] rfl
      have hDc := hD.sub (ws' := [(q46_4, .inr (2, [.null, .int 0, .int 0]))]) [13] (by decide) rfl
      have hFc := va_free (wc := [(q46_4, .inr (2, [.null, .int 0, .int 0]))]) hD hS hA [13] rfl
      refine va_callv (va_runIN (As := []) (rest := [.ref q46_4, .int 1, .ref q28]) ⟨hx, hb, hml, hown, hts⟩ (c_X2_init l G q46_4 _) ⟨va_cnB 0 hts gX3_init_X2_init_n29 rfl rfl rfl hN.2.2.1 (hts (.initialized RX2) (by decide +kernel)) (by decide +kernel) ⟨Nat.le_of_ble_eq_true rfl, Nat.le_of_ble_eq_true rfl⟩, rfl, hts (.instanceMethod yX2_init) (by decide +kernel)⟩ (kz_pk hK hN hPc hDc) rfl rfl hl.1 rfl (lv_room (Nat.le_of_ble_eq_true rfl)) dX3_init_50 ⟨Nat.le_of_ble_eq_true rfl, Nat.le_of_ble_eq_true rfl⟩) hS (fun q _ h => hFc q h) hFc (fun u t H locs ht hvm hw hB hqz9 hqk9 hS => ?_)
      obtain ⟨hk_4, aw_4, az_4, an_4, hw⟩ := hw
      subst hw
      obtain ⟨hB1, hB2⟩ := hB
      rw [ht] at hB1
      obtain ⟨hP, hD⟩ := va_join (wr := [(xo, .inr (3, [.ref q5_1, .ref q16_2, .ref q28])), (q5_1, .inr (1, [.ref aw_1, .ref az_1, .ref an_1, .int (nI 0)])), (aw_1, .inl (gJ G, 120, .inr (.inl (fun _ => 0)))), (az_1, .inl (gI G, 120, .inl (kz_z kf_z0))), (an_1, .inl (gI G, 120, .inl (fun _ => 0))), (q16_2, .inr (0, [.ref ab_2])), (ab_2, .inl (gI G, 8, .inl (kz_z kf_z0))), (q28, .inl (gO G, 3, .inr (.inr (.inr (.inr (va_up (fun _ => none) 0 (some q46_3))))))), (q46_3, .inr (2, [.ref hk_3, .int (kf_b false), .int (kf_p 0)])), (hk_3, .inr (1, [.ref aw_3, .ref az_3, .ref an_3, .int (nI 0)])), (aw_3, .inl (gJ G, 120, .inr (.inl (fun _ => 0)))), (az_3, .inl (gI G, 120, .inl (kz_z kf_z0))), (an_3, .inl (gI G, 120, .inl (fun _ => 0)))]) (w1 := [(q46_4, .inr (2, [.ref hk_4, .int (kf_b false), .int (kf_p 0)])), (hk_4, .inr (1, [.ref aw_4, .ref az_4, .ref an_4, .int (nI 0)])), (aw_4, .inl (gJ G, 120, .inr (.inl (fun _ => 0)))), (az_4, .inl (gI G, 120, .inl (kz_z kf_z0))), (an_4, .inl (gI G, 120, .inl (fun _ => 0)))]) hP hD [13] [0, 1, 2, 3, 4, 5, 6, 7, 8, 9, 10, 11, 12] rfl rfl (by decide) (by decide) hqk9 hFc hB1 hB2
      have hP : va_P G.1 vwCl [(xo, .inr (3, [.ref q5_1, .ref q16_2, .ref q28])), (q5_1, .inr (1, [.ref aw_1, .ref az_1, .ref an_1, .int (nI 0)])), (aw_1, .inl (gJ G, 120, .inr (.inl (fun _ => 0)))), (az_1, .inl (gI G, 120, .inl (kz_z kf_z0))), (an_1, .inl (gI G, 120, .inl (fun _ => 0))), (q16_2, .inr (0, [.ref ab_2])), (ab_2, .inl (gI G, 8, .inl (kz_z kf_z0))), (q28, .inl (gO G, 3, .inr (.inr (.inr (.inr (va_up (fun _ => none) 0 (some q46_3))))))), (q46_3, .inr (2, [.ref hk_3, .int (kf_b false), .int (kf_p 0)])), (hk_3, .inr (1, [.ref aw_3, .ref az_3, .ref an_3, .int (nI 0)])), (aw_3, .inl (gJ G, 120, .inr (.inl (fun _ => 0)))), (az_3, .inl (gI G, 120, .inl (kz_z kf_z0))), (an_3, .inl (gI G, 120, .inl (fun _ => 0))), (q46_4, .inr (2, [.ref hk_4, .int (kf_b false), .int (kf_p 0)])), (hk_4, .inr (1, [.ref aw_4, .ref az_4, .ref an_4, .int (nI 0)])), (aw_4, .inl (gJ G, 120, .inr (.inl (fun _ => 0)))), (az_4, .inl (gI G, 120, .inl (kz_z kf_z0))), (an_4, .inl (gI G, 120, .inl (fun _ => 0)))] H := hP
      have hD : va_D A [(xo, .inr (3, [.ref q5_1, .ref q16_2, .ref q28])), (q5_1, .inr (1, [.ref aw_1, .ref az_1, .ref an_1, .int (nI 0)])), (aw_1, .inl (gJ G, 120, .inr (.inl (fun _ => 0)))), (az_1, .inl (gI G, 120, .inl (kz_z kf_z0))), (an_1, .inl (gI G, 120, .inl (fun _ => 0))), (q16_2, .inr (0, [.ref ab_2])), (ab_2, .inl (gI G, 8, .inl (kz_z kf_z0))), (q28, .inl (gO G, 3, .inr (.inr (.inr (.inr (va_up (fun _ => none) 0 (some q46_3))))))), (q46_3, .inr (2, [.ref hk_3, .int (kf_b false), .int (kf_p 0)])), (hk_3, .inr (1, [.ref aw_3, .ref az_3, .ref an_3, .int (nI 0)])), (aw_3, .inl (gJ G, 120, .inr (.inl (fun _ => 0)))), (az_3, .inl (gI G, 120, .inl (kz_z kf_z0))), (an_3, .inl (gI G, 120, .inl (fun _ => 0))), (q46_4, .inr (2, [.ref hk_4, .int (kf_b false), .int (kf_p 0)])), (hk_4, .inr (1, [.ref aw_4, .ref az_4, .ref an_4, .int (nI 0)])), (aw_4, .inl (gJ G, 120, .inr (.inl (fun _ => 0)))), (az_4, .inl (gI G, 120, .inl (kz_z kf_z0))), (an_4, .inl (gI G, 120, .inl (fun _ => 0)))] := hD
      refine W.widen (k := 17) (n := 1110) (by decide) (by decide) ?_
      refine va_astq hx hb hK.1 hP hD hS 7 3 13 2 (r := (RX2, TX2, 3)) rfl rfl rfl rfl (show vp_in (nI 1) 3 from vp_in_nI (by decide) (by decide)) dX3_init_53 (fun H locs hP hD hS => ?_)
      have hP : va_P G.1 vwCl [(xo, .inr (3, [.ref q5_1, .ref q16_2, .ref q28])), (q5_1, .inr (1, [.ref aw_1, .ref az_1, .ref an_1, .int (nI 0)])), (aw_1, .inl (gJ G, 120, .inr (.inl (fun _ => 0)))), (az_1, .inl (gI G, 120, .inl (kz_z kf_z0))), (an_1, .inl (gI G, 120, .inl (fun _ => 0))), (q16_2, .inr (0, [.ref ab_2])), (ab_2, .inl (gI G, 8, .inl (kz_z kf_z0))), (q28, .inl (gO G, 3, .inr (.inr (.inr (.inr (va_up (va_up (fun _ => none) 0 (some q46_3)) 1 (some q46_4))))))), (q46_3, .inr (2, [.ref hk_3, .int (kf_b false), .int (kf_p 0)])), (hk_3, .inr (1, [.ref aw_3, .ref az_3, .ref an_3, .int (nI 0)])), (aw_3, .inl (gJ G, 120, .inr (.inl (fun _ => 0)))), (az_3, .inl (gI G, 120, .inl (kz_z kf_z0))), (an_3, .inl (gI G, 120, .inl (fun _ => 0))), (q46_4, .inr (2, [.ref hk_4, .int (kf_b false), .int (kf_p 0)])), (hk_4, .inr (1, [.ref aw_4, .ref az_4, .ref an_4, .int (nI 0)])), (aw_4, .inl (gJ G, 120, .inr (.inl (fun _ => 0)))), (az_4, .inl (gI G, 120, .inl (kz_z kf_z0))), (an_4, .inl (gI G, 120, .inl (fun _ => 0)))] H := hP
      have hD : va_D A [(xo, .inr (3, [.ref q5_1, .ref q16_2, .ref q28])), (q5_1, .inr (1, [.ref aw_1, .ref az_1, .ref an_1, .int (nI 0)])), (aw_1, .inl (gJ G, 120, .inr (.inl (fun _ => 0)))), (az_1, .inl (gI G, 120, .inl (kz_z kf_z0))), (an_1, .inl (gI G, 120, .inl (fun _ => 0))), (q16_2, .inr (0, [.ref ab_2])), (ab_2, .inl (gI G, 8, .inl (kz_z kf_z0))), (q28, .inl (gO G, 3, .inr (.inr (.inr (.inr (va_up (va_up (fun _ => none) 0 (some q46_3)) 1 (some q46_4))))))), (q46_3, .inr (2, [.ref hk_3, .int (kf_b false), .int (kf_p 0)])), (hk_3, .inr (1, [.ref aw_3, .ref az_3, .ref an_3, .int (nI 0)])), (aw_3, .inl (gJ G, 120, .inr (.inl (fun _ => 0)))), (az_3, .inl (gI G, 120, .inl (kz_z kf_z0))), (an_3, .inl (gI G, 120, .inl (fun _ => 0))), (q46_4, .inr (2, [.ref hk_4, .int (kf_b false), .int (kf_p 0)])), (hk_4, .inr (1, [.ref aw_4, .ref az_4, .ref an_4, .int (nI 0)])), (aw_4, .inl (gJ G, 120, .inr (.inl (fun _ => 0)))), (az_4, .inl (gI G, 120, .inl (kz_z kf_z0))), (an_4, .inl (gI G, 120, .inl (fun _ => 0)))] := hD
      refine lv_iinc (v := 2) (lv' := [(1, .int 2), (0, .ref xo)]) hx hb dX3_init_54 hl (k := 0) rfl (by decide) (by decide) rfl (fun ls hl => ?_)
      refine lv_goto (tgt := 36) hx hb dX3_init_57 (by decide) ?_
      refine lv_iload_n hx hb dX3_init_36 rfl (lv_at hl 0 rfl) ?_
      refine lv_iconst (v := 3) hx hb dX3_init_37 (by decide) ?_
      refine lv_icmp_ge (tgt := 60) hx hb dX3_init_38 (by decide) (fun c_3 => ?_) (fun c_3 => ?_)
      · exact absurd c_3 (by decide)
      · refine lv_aload_n hx hb dX3_init_41 rfl (lv_at hl 1 rfl) ?_
        refine va_get (D := G.1) (ci := 3) (v := .ref q28) (C := RX3) (T := TX3) (N := 3) hx hb hts hinX3 hown hK.1 hP 0 rfl rfl 2 (by decide) (hts (.fieldLink RX3 25 "ForkStore" "readers" "[LForkStore$Reader;") (by decide +kernel)) (fun _ h9 => h9) rfl dX3_init_42 ?_
        refine lv_iload_n hx hb dX3_init_45 rfl (lv_at hl 0 rfl) ?_
        refine va_new (ci := 2) (fs := [.null, .int 0, .int 0]) (C := RX2) (T := TX2) (N := 3) hx hb hts hinX2 tyX2 tyX2_ok hown (hts (.classLink RX3 23 RX2) (by decide +kernel)) (hts (.instantiable RX2 3) (by decide +kernel)) (hts (.initialized RX2) (by decide +kernel)) hK.1 hP hD hS hA rfl (fun j hj => by rcases (show j = 0 ∨ j = 1 ∨ j = 2 by omega) with rfl | rfl | rfl <;> rfl) (Nat.le_of_ble_eq_true rfl) (Nat.le_of_ble_eq_true rfl) dX3_init_46 (fun q46_5 H hP hD hS => ?_)
        have hP : va_P G.1 vwCl [(xo, .inr (3, [.ref q5_1, .ref q16_2, .ref q28])), (q5_1, .inr (1, [.ref aw_1, .ref az_1, .ref an_1, .int (nI 0)])), (aw_1, .inl (gJ G, 120, .inr (.inl (fun _ => 0)))), (az_1, .inl (gI G, 120, .inl (kz_z kf_z0))), (an_1, .inl (gI G, 120, .inl (fun _ => 0))), (q16_2, .inr (0, [.ref ab_2])), (ab_2, .inl (gI G, 8, .inl (kz_z kf_z0))), (q28, .inl (gO G, 3, .inr (.inr (.inr (.inr (va_up (va_up (fun _ => none) 0 (some q46_3)) 1 (some q46_4))))))), (q46_3, .inr (2, [.ref hk_3, .int (kf_b false), .int (kf_p 0)])), (hk_3, .inr (1, [.ref aw_3, .ref az_3, .ref an_3, .int (nI 0)])), (aw_3, .inl (gJ G, 120, .inr (.inl (fun _ => 0)))), (az_3, .inl (gI G, 120, .inl (kz_z kf_z0))), (an_3, .inl (gI G, 120, .inl (fun _ => 0))), (q46_4, .inr (2, [.ref hk_4, .int (kf_b false), .int (kf_p 0)])), (hk_4, .inr (1, [.ref aw_4, .ref az_4, .ref an_4, .int (nI 0)])), (aw_4, .inl (gJ G, 120, .inr (.inl (fun _ => 0)))), (az_4, .inl (gI G, 120, .inl (kz_z kf_z0))), (an_4, .inl (gI G, 120, .inl (fun _ => 0))), (q46_5, .inr (2, [.null, .int 0, .int 0]))] H := hP
        have hD : va_D A [(xo, .inr (3, [.ref q5_1, .ref q16_2, .ref q28])), (q5_1, .inr (1, [.ref aw_1, .ref az_1, .ref an_1, .int (nI 0)])), (aw_1, .inl (gJ G, 120, .inr (.inl (fun _ => 0)))), (az_1, .inl (gI G, 120, .inl (kz_z kf_z0))), (an_1, .inl (gI G, 120, .inl (fun _ => 0))), (q16_2, .inr (0, [.ref ab_2])), (ab_2, .inl (gI G, 8, .inl (kz_z kf_z0))), (q28, .inl (gO G, 3, .inr (.inr (.inr (.inr (va_up (va_up (fun _ => none) 0 (some q46_3)) 1 (some q46_4))))))), (q46_3, .inr (2, [.ref hk_3, .int (kf_b false), .int (kf_p 0)])), (hk_3, .inr (1, [.ref aw_3, .ref az_3, .ref an_3, .int (nI 0)])), (aw_3, .inl (gJ G, 120, .inr (.inl (fun _ => 0)))), (az_3, .inl (gI G, 120, .inl (kz_z kf_z0))), (an_3, .inl (gI G, 120, .inl (fun _ => 0))), (q46_4, .inr (2, [.ref hk_4, .int (kf_b false), .int (kf_p 0)])), (hk_4, .inr (1, [.ref aw_4, .ref az_4, .ref an_4, .int (nI 0)])), (aw_4, .inl (gJ G, 120, .inr (.inl (fun _ => 0)))), (az_4, .inl (gI G, 120, .inl (kz_z kf_z0))), (an_4, .inl (gI G, 120, .inl (fun _ => 0))), (q46_5, .inr (2, [.null, .int 0, .int 0]))] := hD
        refine W.widen (k := 18) (n := 1113) (by decide) (by decide) ?_
        refine lv_dup hx hb dX3_init_49 rfl ?_
        have hPc := hP.sub (ws' := [(q46_5, .inr (2, [.null, .int 0, .int 0]))]) [18] rfl
        have hDc := hD.sub (ws' := [(q46_5, .inr (2, [.null, .int 0, .int 0]))]) [18] (by decide) rfl
        have hFc := va_free (wc := [(q46_5, .inr (2, [.null, .int 0, .int 0]))]) hD hS hA [18] rfl
        refine va_callv (va_runIN (As := []) (rest := [.ref q46_5, .int 2, .ref q28]) ⟨hx, hb, hml, hown, hts⟩ (c_X2_init l G q46_5 _) ⟨va_cnB 0 hts gX3_init_X2_init_n29 rfl rfl rfl hN.2.2.1 (hts (.initialized RX2) (by decide +kernel)) (by decide +kernel) ⟨Nat.le_of_ble_eq_true rfl, Nat.le_of_ble_eq_true rfl⟩, rfl, hts (.instanceMethod yX2_init) (by decide +kernel)⟩ (kz_pk hK hN hPc hDc) rfl rfl hl.1 rfl (lv_room (Nat.le_of_ble_eq_true rfl)) dX3_init_50 ⟨Nat.le_of_ble_eq_true rfl, Nat.le_of_ble_eq_true rfl⟩) hS (fun q _ h => hFc q h) hFc (fun u t H locs ht hvm hw hB hqz9 hqk9 hS => ?_)
        obtain ⟨hk_5, aw_5, az_5, an_5, hw⟩ := hw
        subst hw
        obtain ⟨hB1, hB2⟩ := hB
        rw [ht] at hB1
        obtain ⟨hP, hD⟩ := va_join (wr := [(xo, .inr (3, [.ref q5_1, .ref q16_2, .ref q28])), (q5_1, .inr (1, [.ref aw_1, .ref az_1, .ref an_1, .int (nI 0)])), (aw_1, .inl (gJ G, 120, .inr (.inl (fun _ => 0)))), (az_1, .inl (gI G, 120, .inl (kz_z kf_z0))), (an_1, .inl (gI G, 120, .inl (fun _ => 0))), (q16_2, .inr (0, [.ref ab_2])), (ab_2, .inl (gI G, 8, .inl (kz_z kf_z0))), (q28, .inl (gO G, 3, .inr (.inr (.inr (.inr (va_up (va_up (fun _ => none) 0 (some q46_3)) 1 (some q46_4))))))), (q46_3, .inr (2, [.ref hk_3, .int (kf_b false), .int (kf_p 0)])), (hk_3, .inr (1, [.ref aw_3, .ref az_3, .ref an_3, .int (nI 0)])), (aw_3, .inl (gJ G, 120, .inr (.inl (fun _ => 0)))), (az_3, .inl (gI G, 120, .inl (kz_z kf_z0))), (an_3, .inl (gI G, 120, .inl (fun _ => 0))), (q46_4, .inr (2, [.ref hk_4, .int (kf_b false), .int (kf_p 0)])), (hk_4, .inr (1, [.ref aw_4, .ref az_4, .ref an_4, .int (nI 0)])), (aw_4, .inl (gJ G, 120, .inr (.inl (fun _ => 0)))), (az_4, .inl (gI G, 120, .inl (kz_z kf_z0))), (an_4, .inl (gI G, 120, .inl (fun _ => 0)))]) (w1 := [(q46_5, .inr (2, [.ref hk_5, .int (kf_b false), .int (kf_p 0)])), (hk_5, .inr (1, [.ref aw_5, .ref az_5, .ref an_5, .int (nI 0)])), (aw_5, .inl (gJ G, 120, .inr (.inl (fun _ => 0)))), (az_5, .inl (gI G, 120, .inl (kz_z kf_z0))), (an_5, .inl (gI G, 120, .inl (fun _ => 0)))]) hP hD [18] [0, 1, 2, 3, 4, 5, 6, 7, 8, 9, 10, 11, 12, 13, 14, 15, 16, 17] rfl rfl (by decide) (by decide) hqk9 hFc hB1 hB2
        have hP : va_P G.1 vwCl [(xo, .inr (3, [.ref q5_1, .ref q16_2, .ref q28])), (q5_1, .inr (1, [.ref aw_1, .ref az_1, .ref an_1, .int (nI 0)])), (aw_1, .inl (gJ G, 120, .inr (.inl (fun _ => 0)))), (az_1, .inl (gI G, 120, .inl (kz_z kf_z0))), (an_1, .inl (gI G, 120, .inl (fun _ => 0))), (q16_2, .inr (0, [.ref ab_2])), (ab_2, .inl (gI G, 8, .inl (kz_z kf_z0))), (q28, .inl (gO G, 3, .inr (.inr (.inr (.inr (va_up (va_up (fun _ => none) 0 (some q46_3)) 1 (some q46_4))))))), (q46_3, .inr (2, [.ref hk_3, .int (kf_b false), .int (kf_p 0)])), (hk_3, .inr (1, [.ref aw_3, .ref az_3, .ref an_3, .int (nI 0)])), (aw_3, .inl (gJ G, 120, .inr (.inl (fun _ => 0)))), (az_3, .inl (gI G, 120, .inl (kz_z kf_z0))), (an_3, .inl (gI G, 120, .inl (fun _ => 0))), (q46_4, .inr (2, [.ref hk_4, .int (kf_b false), .int (kf_p 0)])), (hk_4, .inr (1, [.ref aw_4, .ref az_4, .ref an_4, .int (nI 0)])), (aw_4, .inl (gJ G, 120, .inr (.inl (fun _ => 0)))), (az_4, .inl (gI G, 120, .inl (kz_z kf_z0))), (an_4, .inl (gI G, 120, .inl (fun _ => 0))), (q46_5, .inr (2, [.ref hk_5, .int (kf_b false), .int (kf_p 0)])), (hk_5, .inr (1, [.ref aw_5, .ref az_5, .ref an_5, .int (nI 0)])), (aw_5, .inl (gJ G, 120, .inr (.inl (fun _ => 0)))), (az_5, .inl (gI G, 120, .inl (kz_z kf_z0))), (an_5, .inl (gI G, 120, .inl (fun _ => 0)))] H := hP
        have hD : va_D A [(xo, .inr (3, [.ref q5_1, .ref q16_2, .ref q28])), (q5_1, .inr (1, [.ref aw_1, .ref az_1, .ref an_1, .int (nI 0)])), (aw_1, .inl (gJ G, 120, .inr (.inl (fun _ => 0)))), (az_1, .inl (gI G, 120, .inl (kz_z kf_z0))), (an_1, .inl (gI G, 120, .inl (fun _ => 0))), (q16_2, .inr (0, [.ref ab_2])), (ab_2, .inl (gI G, 8, .inl (kz_z kf_z0))), (q28, .inl (gO G, 3, .inr (.inr (.inr (.inr (va_up (va_up (fun _ => none) 0 (some q46_3)) 1 (some q46_4))))))), (q46_3, .inr (2, [.ref hk_3, .int (kf_b false), .int (kf_p 0)])), (hk_3, .inr (1, [.ref aw_3, .ref az_3, .ref an_3, .int (nI 0)])), (aw_3, .inl (gJ G, 120, .inr (.inl (fun _ => 0)))), (az_3, .inl (gI G, 120, .inl (kz_z kf_z0))), (an_3, .inl (gI G, 120, .inl (fun _ => 0))), (q46_4, .inr (2, [.ref hk_4, .int (kf_b false), .int (kf_p 0)])), (hk_4, .inr (1, [.ref aw_4, .ref az_4, .ref an_4, .int (nI 0)])), (aw_4, .inl (gJ G, 120, .inr (.inl (fun _ => 0)))), (az_4, .inl (gI G, 120, .inl (kz_z kf_z0))), (an_4, .inl (gI G, 120, .inl (fun _ => 0))), (q46_5, .inr (2, [.ref hk_5, .int (kf_b false), .int (kf_p 0)])), (hk_5, .inr (1, [.ref aw_5, .ref az_5, .ref an_5, .int (nI 0)])), (aw_5, .inl (gJ G, 120, .inr (.inl (fun _ => 0)))), (az_5, .inl (gI G, 120, .inl (kz_z kf_z0))), (an_5, .inl (gI G, 120, .inl (fun _ => 0)))] := hD
        refine W.widen (k := 22) (n := 1477) (by decide) (by decide) ?_
        refine va_astq hx hb hK.1 hP hD hS 7 3 18 2 (r := (RX2, TX2, 3)) rfl rfl rfl rfl (show vp_in (nI 2) 3 from vp_in_nI (by decide) (by decide)) dX3_init_53 (fun H locs hP hD hS => ?_)
        have hP : va_P G.1 vwCl [(xo, .inr (3, [.ref q5_1, .ref q16_2, .ref q28])), (q5_1, .inr (1, [.ref aw_1, .ref az_1, .ref an_1, .int (nI 0)])), (aw_1, .inl (gJ G, 120, .inr (.inl (fun _ => 0)))), (az_1, .inl (gI G, 120, .inl (kz_z kf_z0))), (an_1, .inl (gI G, 120, .inl (fun _ => 0))), (q16_2, .inr (0, [.ref ab_2])), (ab_2, .inl (gI G, 8, .inl (kz_z kf_z0))), (q28, .inl (gO G, 3, .inr (.inr (.inr (.inr (va_up (va_up (va_up (fun _ => none) 0 (some q46_3)) 1 (some q46_4)) 2 (some q46_5))))))), (q46_3, .inr (2, [.ref hk_3, .int (kf_b false), .int (kf_p 0)])), (hk_3, .inr (1, [.ref aw_3, .ref az_3, .ref an_3, .int (nI 0)])), (aw_3, .inl (gJ G, 120, .inr (.inl (fun _ => 0)))), (az_3, .inl (gI G, 120, .inl (kz_z kf_z0))), (an_3, .inl (gI G, 120, .inl (fun _ => 0))), (q46_4, .inr (2, [.ref hk_4, .int (kf_b false), .int (kf_p 0)])), (hk_4, .inr (1, [.ref aw_4, .ref az_4, .ref an_4, .int (nI 0)])), (aw_4, .inl (gJ G, 120, .inr (.inl (fun _ => 0)))), (az_4, .inl (gI G, 120, .inl (kz_z kf_z0))), (an_4, .inl (gI G, 120, .inl (fun _ => 0))), (q46_5, .inr (2, [.ref hk_5, .int (kf_b false), .int (kf_p 0)])), (hk_5, .inr (1, [.ref aw_5, .ref az_5, .ref an_5, .int (nI 0)])), (aw_5, .inl (gJ G, 120, .inr (.inl (fun _ => 0)))), (az_5, .inl (gI G, 120, .inl (kz_z kf_z0))), (an_5, .inl (gI G, 120, .inl (fun _ => 0)))] H := hP
        have hD : va_D A [(xo, .inr (3, [.ref q5_1, .ref q16_2, .ref q28])), (q5_1, .inr (1, [.ref aw_1, .ref az_1, .ref an_1, .int (nI 0)])), (aw_1, .inl (gJ G, 120, .inr (.inl (fun _ => 0)))), (az_1, .inl (gI G, 120, .inl (kz_z kf_z0))), (an_1, .inl (gI G, 120, .inl (fun _ => 0))), (q16_2, .inr (0, [.ref ab_2])), (ab_2, .inl (gI G, 8, .inl (kz_z kf_z0))), (q28, .inl (gO G, 3, .inr (.inr (.inr (.inr (va_up (va_up (va_up (fun _ => none) 0 (some q46_3)) 1 (some q46_4)) 2 (some q46_5))))))), (q46_3, .inr (2, [.ref hk_3, .int (kf_b false), .int (kf_p 0)])), (hk_3, .inr (1, [.ref aw_3, .ref az_3, .ref an_3, .int (nI 0)])), (aw_3, .inl (gJ G, 120, .inr (.inl (fun _ => 0)))), (az_3, .inl (gI G, 120, .inl (kz_z kf_z0))), (an_3, .inl (gI G, 120, .inl (fun _ => 0))), (q46_4, .inr (2, [.ref hk_4, .int (kf_b false), .int (kf_p 0)])), (hk_4, .inr (1, [.ref aw_4, .ref az_4, .ref an_4, .int (nI 0)])), (aw_4, .inl (gJ G, 120, .inr (.inl (fun _ => 0)))), (az_4, .inl (gI G, 120, .inl (kz_z kf_z0))), (an_4, .inl (gI G, 120, .inl (fun _ => 0))), (q46_5, .inr (2, [.ref hk_5, .int (kf_b false), .int (kf_p 0)])), (hk_5, .inr (1, [.ref aw_5, .ref az_5, .ref an_5, .int (nI 0)])), (aw_5, .inl (gJ G, 120, .inr (.inl (fun _ => 0)))), (az_5, .inl (gI G, 120, .inl (kz_z kf_z0))), (an_5, .inl (gI G, 120, .inl (fun _ => 0)))] := hD
        refine lv_iinc (v := 3) (lv' := [(1, .int 3), (0, .ref xo)]) hx hb dX3_init_54 hl (k := 0) rfl (by decide) (by decide) rfl (fun ls hl => ?_)
        refine lv_goto (tgt := 36) hx hb dX3_init_57 (by decide) ?_
        refine lv_iload_n hx hb dX3_init_36 rfl (lv_at hl 0 rfl) ?_
        refine lv_iconst (v := 3) hx hb dX3_init_37 (by decide) ?_
        refine lv_icmp_ge (tgt := 60) hx hb dX3_init_38 (by decide) (fun c_4 => ?_) (fun c_4 => ?_)
        · have hP9 := hP.sub (ws' := [(xo, .inr (3, [.ref q5_1, .ref q16_2, .ref q28])), (q5_1, .inr (1, [.ref aw_1, .ref az_1, .ref an_1, .int (nI 0)])), (aw_1, .inl (gJ G, 120, .inr (.inl (fun _ => 0)))), (az_1, .inl (gI G, 120, .inl (kz_z kf_z0))), (an_1, .inl (gI G, 120, .inl (fun _ => 0))), (q16_2, .inr (0, [.ref ab_2])), (ab_2, .inl (gI G, 8, .inl (kz_z kf_z0))), (q28, .inl (gO G, 3, .inr (.inr (.inr (.inr (va_up (va_up (va_up (fun _ => none) 0 (some q46_3)) 1 (some q46_4)) 2 (some q46_5))))))), (q46_3, .inr (2, [.ref hk_3, .int (kf_b false), .int (kf_p 0)])), (hk_3, .inr (1, [.ref aw_3, .ref az_3, .ref an_3, .int (nI 0)])), (aw_3, .inl (gJ G, 120, .inr (.inl (fun _ => 0)))), (az_3, .inl (gI G, 120, .inl (kz_z kf_z0))), (an_3, .inl (gI G, 120, .inl (fun _ => 0))), (q46_4, .inr (2, [.ref hk_4, .int (kf_b false), .int (kf_p 0)])), (hk_4, .inr (1, [.ref aw_4, .ref az_4, .ref an_4, .int (nI 0)])), (aw_4, .inl (gJ G, 120, .inr (.inl (fun _ => 0)))), (az_4, .inl (gI G, 120, .inl (kz_z kf_z0))), (an_4, .inl (gI G, 120, .inl (fun _ => 0))), (q46_5, .inr (2, [.ref hk_5, .int (kf_b false), .int (kf_p 0)])), (hk_5, .inr (1, [.ref aw_5, .ref az_5, .ref an_5, .int (nI 0)])), (aw_5, .inl (gJ G, 120, .inr (.inl (fun _ => 0)))), (az_5, .inl (gI G, 120, .inl (kz_z kf_z0))), (an_5, .inl (gI G, 120, .inl (fun _ => 0)))]) [0, 1, 2, 3, 4, 5, 6, 7, 8, 9, 10, 11, 12, 13, 14, 15, 16, 17, 18, 19, 20, 21, 22] rfl
          have hD9 := hD.sub (ws' := [(xo, .inr (3, [.ref q5_1, .ref q16_2, .ref q28])), (q5_1, .inr (1, [.ref aw_1, .ref az_1, .ref an_1, .int (nI 0)])), (aw_1, .inl (gJ G, 120, .inr (.inl (fun _ => 0)))), (az_1, .inl (gI G, 120, .inl (kz_z kf_z0))), (an_1, .inl (gI G, 120, .inl (fun _ => 0))), (q16_2, .inr (0, [.ref ab_2])), (ab_2, .inl (gI G, 8, .inl (kz_z kf_z0))), (q28, .inl (gO G, 3, .inr (.inr (.inr (.inr (va_up (va_up (va_up (fun _ => none) 0 (some q46_3)) 1 (some q46_4)) 2 (some q46_5))))))), (q46_3, .inr (2, [.ref hk_3, .int (kf_b false), .int (kf_p 0)])), (hk_3, .inr (1, [.ref aw_3, .ref az_3, .ref an_3, .int (nI 0)])), (aw_3, .inl (gJ G, 120, .inr (.inl (fun _ => 0)))), (az_3, .inl (gI G, 120, .inl (kz_z kf_z0))), (an_3, .inl (gI G, 120, .inl (fun _ => 0))), (q46_4, .inr (2, [.ref hk_4, .int (kf_b false), .int (kf_p 0)])), (hk_4, .inr (1, [.ref aw_4, .ref az_4, .ref an_4, .int (nI 0)])), (aw_4, .inl (gJ G, 120, .inr (.inl (fun _ => 0)))), (az_4, .inl (gI G, 120, .inl (kz_z kf_z0))), (an_4, .inl (gI G, 120, .inl (fun _ => 0))), (q46_5, .inr (2, [.ref hk_5, .int (kf_b false), .int (kf_p 0)])), (hk_5, .inr (1, [.ref aw_5, .ref az_5, .ref an_5, .int (nI 0)])), (aw_5, .inl (gJ G, 120, .inr (.inl (fun _ => 0)))), (az_5, .inl (gI G, 120, .inl (kz_z kf_z0))), (an_5, .inl (gI G, 120, .inl (fun _ => 0)))]) [0, 1, 2, 3, 4, 5, 6, 7, 8, 9, 10, 11, 12, 13, 14, 15, 16, 17, 18, 19, 20, 21, 22] (by decide) rfl
          exact W.vret hx hb hr (fun t ht hW => ⟨⟨_, rfl, ⟨q5_1, aw_1, az_1, an_1, q16_2, ab_2, q28, q46_3, hk_3, aw_3, az_3, an_3, q46_4, hk_4, aw_4, az_4, an_4, q46_5, hk_5, aw_5, az_5, an_5, rfl⟩, by rw [← ht] at hP9; exact ⟨hP9, hD9⟩⟩, hS.F ht⟩) hS.2.2 dX3_init_60
        · exact absurd c_4 (by decide)

set_option maxHeartbeats 4000000 in
set_option maxRecDepth 100000 in
theorem c_X4_init (l : Launch) (G : kz_G) (mo sz : Nat) : Met l yX4_init wsX4_init { frames := 1, cells := 6, slots := 1450, locals := 12 } (kz_Pk G [.ref mo] [(mo, .inr (4, [.int 0, .null, .null, .null, .null, .null, .null]))] sz) (kz_Qk G (fun w => ∃ (mc mw mz mv mp mh : Nat), w = [(mo, .inr (4, [.int 0, .ref mc, .ref mw, .ref mz, .ref mv, .ref mp, .ref mh])), (mc, .inl (gI G, 4, .inl (kz_z kf_z0))), (mw, .inl (gJ G, 480, .inr (.inl (fun _ => 0)))), (mz, .inl (gI G, 480, .inl (kz_z kf_z0))), (mv, .inl (gI G, 480, .inl (fun _ => 0))), (mp, .inl (gZ G, 3, .inl (kz_bo (fun _ => false)))), (mh, .inl (gI G, 3, .inl (kz_pw (fun _ => 1))))]) (va_A [(mo, .inr (4, [.int 0, .null, .null, .null, .null, .null, .null]))] sz)) 6 1450 (va_A [(mo, .inr (4, [.int 0, .null, .null, .null, .null, .null, .null]))] sz) := by
  refine Met.ofW (cc := cX4_init) (maxL := 1) (ret := none) (by decide) rfl ?_
  intro p e s m args below meth c s₁ B hml hv
  obtain ⟨rfl, hsz, hP, hK, hD0, hN⟩ := hv
  have hx := B.exec
  have hb := B.bytes
  have hr := B.returns
  have hts := atoms_spec (ws := wsX4_init) B.pre
  have hown : s.vm.findClass RX4 = some m.cls := findClass_of_methodNamed B.named
  have hlocks := B.notSynchronized
  have hin : meth.name = "<init>" := (name_of_methodNamed B.named B.method).1
  have hinX4 : ∀ w ∈ wsX40, w ∈ wsX4_init := by decide +kernel
  subst hsz
  have hD := hD0.self (sz := s.heap.size)
  generalize hAe : va_A [(mo, .inr (4, [.int 0, .null, .null, .null, .null, .null, .null]))] s.heap.size = A at hD ⊢
  have hA : ∀ q : Nat, s.heap.size ≤ q → A q := fun q h => by rw [← hAe]; exact Or.inr h
  have hS : va_S A s.heap s.heap [] := va_S.rf
  have hl := lv_entry ([.ref mo]) (n := 1) (Nat.le_of_ble_eq_true rfl)
  rw [lg_entry_eq]
  generalize (lg_sl ([.ref mo]) ++ List.replicate (1 - (lg_sl ([.ref mo])).length) Slot.unset).toArray = ls at hl ⊢
  have hl : lv_has ls 1 [(0, .ref mo)] := hl
  refine lv_aload_n hx hb dX4_init_0 rfl (lv_at hl 0 rfl) ?_
  refine W.objInit hx hb hown (hts (.methodLink RX4 1 objectInit) (by decide +kernel)) (hts (.instanceMethod objectInit) (by decide +kernel)) (hts (.code objectInit ⟨#[0xb1]⟩ 1 none) (by decide +kernel)) rfl (by rw [hml]; exact hl.1) rfl dX4_init_1 (Nat.le_of_ble_eq_true rfl) (Nat.le_of_ble_eq_true rfl) ?_
  refine W.eq (g2 := F0 m 4 ls []) rfl ?_
  refine lv_aload_n hx hb dX4_init_4 rfl (lv_at hl 0 rfl) ?_
  refine lv_iconst (v := 4) hx hb dX4_init_5 (by decide) ?_
  refine va_newa (atype := .int) (ty := .int) (N' := 4) (a0 := (4, .inl (fun _ => 0))) hx hb (hts (.arrayClass .int) (by decide +kernel)) rfl hK.1 hP hD hS hA (fun _ => rfl) (by decide +kernel) (by decide +kernel) (by decide +kernel) (Nat.le_of_ble_eq_true rfl) (Nat.le_of_ble_eq_true rfl) dX4_init_6 (fun q6 cA9 H hK9 hP hD hS => ?_)
  obtain rfl : cA9 = gI G := kz_same hK9 (i := 0) (j := 4) rfl rfl
  have hP : va_P G.1 vwCl [(mo, .inr (4, [.int 0, .null, .null, .null, .null, .null, .null])), (q6, .inl (gI G, 4, .inl (fun _ => 0)))] H := hP
  have hD : va_D A [(mo, .inr (4, [.int 0, .null, .null, .null, .null, .null, .null])), (q6, .inl (gI G, 4, .inl (fun _ => 0)))] := hD
  refine W.widen (k := 1) (n := 4) (by decide) (by decide) ?_
  refine va_putF (D := G.1) (ci := 4) (v := .ref q6) (ty := .array .int) (C := RX4) (T := TX4) (N := 7) hx hb hts hinX4 tyX4 tyX4_ok nmX4 hown hK.1 hP hD hS 0 rfl rfl 1 (by decide) (hts (.fieldLink RX4 7 "ForkStoreModel" "counts" "[I") (by decide +kernel)) (fun _ h9 => h9) rfl hin rfl (by decide +kernel) rfl rfl (Nat.le_of_ble_eq_true rfl) dX4_init_8 (fun H locs hP hD hS => ?_)
  have hP : va_P G.1 vwCl [(mo, .inr (4, [.int 0, .ref q6, .null, .null, .null, .null, .null])), (q6, .inl (gI G, 4, .inl (fun _ => 0)))] H := hP
  have hD : va_D A [(mo, .inr (4, [.int 0, .ref q6, .null, .null, .null, .null, .null])), (q6, .inl (gI G, 4, .inl (fun _ => 0)))] := hD
  refine lv_aload_n hx hb dX4_init_11 rfl (lv_at hl 0 rfl) ?_
  refine lv_sipush (v := 480) hx hb dX4_init_12 (by decide) ?_
  refine va_newa (atype := .long) (ty := .long) (N' := 480) (a0 := (480, .inr (.inl (fun _ => 0)))) hx hb (hts (.arrayClass .long) (by decide +kernel)) rfl hK.1 hP hD hS hA (fun _ => rfl) (by decide +kernel) (by decide +kernel) (by decide +kernel) (Nat.le_of_ble_eq_true rfl) (Nat.le_of_ble_eq_true rfl) dX4_init_15 (fun q15 cA9 H hK9 hP hD hS => ?_)
  obtain rfl : cA9 = gJ G := kz_same hK9 (i := 1) (j := 4) rfl rfl
  have hP : va_P G.1 vwCl [(mo, .inr (4, [.int 0, .ref q6, .null, .null, .null, .null, .null])), (q6, .inl (gI G, 4, .inl (fun _ => 0))), (q15, .inl (gJ G, 480, .inr (.inl (fun _ => 0))))] H := hP
  have hD : va_D A [(mo, .inr (4, [.int 0, .ref q6, .null, .null, .null, .null, .null])), (q6, .inl (gI G, 4, .inl (fun _ => 0))), (q15, .inl (gJ G, 480, .inr (.inl (fun _ => 0))))] := hD
  refine W.widen (k := 2) (n := 484) (by decide) (by decide) ?_
  refine va_putF (D := G.1) (ci := 4) (v := .ref q15) (ty := .array .long) (C := RX4) (T := TX4) (N := 7) hx hb hts hinX4 tyX4 tyX4_ok nmX4 hown hK.1 hP hD hS 0 rfl rfl 2 (by decide) (hts (.fieldLink RX4 13 "ForkStoreModel" "words" "[J") (by decide +kernel)) (fun _ h9 => h9) rfl hin rfl (by decide +kernel) rfl rfl (Nat.le_of_ble_eq_true rfl) dX4_init_17 (fun H locs hP hD hS => ?_)
  have hP : va_P G.1 vwCl [(mo, .inr (4, [.int 0, .ref q6, .ref q15, .null, .null, .null, .null])), (q6, .inl (gI G, 4, .inl (fun _ => 0))), (q15, .inl (gJ G, 480, .inr (.inl (fun _ => 0))))] H := hP
  have hD : va_D A [(mo, .inr (4, [.int 0, .ref q6, .ref q15, .null, .null, .null, .null])), (q6, .inl (gI G, 4, .inl (fun _ => 0))), (q15, .inl (gJ G, 480, .inr (.inl (fun _ => 0))))] := hD
  refine lv_aload_n hx hb dX4_init_20 rfl (lv_at hl 0 rfl) ?_
  refine lv_sipush (v := 480) hx hb dX4_init_21 (by decide) ?_
  refine va_newa (atype := .int) (ty := .int) (N' := 480) (a0 := (480, .inl (fun _ => 0))) hx hb (hts (.arrayClass .int) (by decide +kernel)) rfl hK.1 hP hD hS hA (fun _ => rfl) (by decide +kernel) (by decide +kernel) (by decide +kernel) (Nat.le_of_ble_eq_true rfl) (Nat.le_of_ble_eq_true rfl) dX4_init_24 (fun q24 cA9 H hK9 hP hD hS => ?_)
  obtain rfl : cA9 = gI G := kz_same hK9 (i := 0) (j := 4) rfl rfl
  have hP : va_P G.1 vwCl [(mo, .inr (4, [.int 0, .ref q6, .ref q15, .null, .null, .null, .null])), (q6, .inl (gI G, 4, .inl (fun _ => 0))), (q15, .inl (gJ G, 480, .inr (.inl (fun _ => 0)))), (q24, .inl (gI G, 480, .inl (fun _ => 0)))] H := hP
  have hD : va_D A [(mo, .inr (4, [.int 0, .ref q6, .ref q15, .null, .null, .null, .null])), (q6, .inl (gI G, 4, .inl (fun _ => 0))), (q15, .inl (gJ G, 480, .inr (.inl (fun _ => 0)))), (q24, .inl (gI G, 480, .inl (fun _ => 0)))] := hD
  refine W.widen (k := 3) (n := 964) (by decide) (by decide) ?_
  refine va_putF (D := G.1) (ci := 4) (v := .ref q24) (ty := .array .int) (C := RX4) (T := TX4) (N := 7) hx hb hts hinX4 tyX4 tyX4_ok nmX4 hown hK.1 hP hD hS 0 rfl rfl 3 (by decide) (hts (.fieldLink RX4 17 "ForkStoreModel" "sizes" "[I") (by decide +kernel)) (fun _ h9 => h9) rfl hin rfl (by decide +kernel) rfl rfl (Nat.le_of_ble_eq_true rfl) dX4_init_26 (fun H locs hP hD hS => ?_)
  have hP : va_P G.1 vwCl [(mo, .inr (4, [.int 0, .ref q6, .ref q15, .ref q24, .null, .null, .null])), (q6, .inl (gI G, 4, .inl (fun _ => 0))), (q15, .inl (gJ G, 480, .inr (.inl (fun _ => 0)))), (q24, .inl (gI G, 480, .inl (fun _ => 0)))] H := hP
  have hD : va_D A [(mo, .inr (4, [.int 0, .ref q6, .ref q15, .ref q24, .null, .null, .null])), (q6, .inl (gI G, 4, .inl (fun _ => 0))), (q15, .inl (gJ G, 480, .inr (.inl (fun _ => 0)))), (q24, .inl (gI G, 480, .inl (fun _ => 0)))] := hD
  refine lv_aload_n hx hb dX4_init_29 rfl (lv_at hl 0 rfl) ?_
  refine lv_sipush (v := 480) hx hb dX4_init_30 (by decide) ?_
  refine va_newa (atype := .int) (ty := .int) (N' := 480) (a0 := (480, .inl (fun _ => 0))) hx hb (hts (.arrayClass .int) (by decide +kernel)) rfl hK.1 hP hD hS hA (fun _ => rfl) (by decide +kernel) (by decide +kernel) (by decide +kernel) (Nat.le_of_ble_eq_true rfl) (Nat.le_of_ble_eq_true rfl) dX4_init_33 (fun q33 cA9 H hK9 hP hD hS => ?_)
  obtain rfl : cA9 = gI G := kz_same hK9 (i := 0) (j := 4) rfl rfl
  have hP : va_P G.1 vwCl [(mo, .inr (4, [.int 0, .ref q6, .ref q15, .ref q24, .null, .null, .null])), (q6, .inl (gI G, 4, .inl (fun _ => 0))), (q15, .inl (gJ G, 480, .inr (.inl (fun _ => 0)))), (q24, .inl (gI G, 480, .inl (fun _ => 0))), (q33, .inl (gI G, 480, .inl (fun _ => 0)))] H := hP
  have hD : va_D A [(mo, .inr (4, [.int 0, .ref q6, .ref q15, .ref q24, .null, .null, .null])), (q6, .inl (gI G, 4, .inl (fun _ => 0))), (q15, .inl (gJ G, 480, .inr (.inl (fun _ => 0)))), (q24, .inl (gI G, 480, .inl (fun _ => 0))), (q33, .inl (gI G, 480, .inl (fun _ => 0)))] := hD
  refine W.widen (k := 4) (n := 1444) (by decide) (by decide) ?_
  refine va_putF (D := G.1) (ci := 4) (v := .ref q33) (ty := .array .int) (C := RX4) (T := TX4) (N := 7) hx hb hts hinX4 tyX4 tyX4_ok nmX4 hown hK.1 hP hD hS 0 rfl rfl 4 (by decide) (hts (.fieldLink RX4 20 "ForkStoreModel" "values" "[I") (by decide +kernel)) (fun _ h9 => h9) rfl hin rfl (by decide +kernel) rfl rfl (Nat.le_of_ble_eq_true rfl) dX4_init_35 (fun H locs hP hD hS => ?_)
  have hP : va_P G.1 vwCl [(mo, .inr (4, [.int 0, .ref q6, .ref q15, .ref q24, .ref q33, .null, .null])), (q6, .inl (gI G, 4, .inl (fun _ => 0))), (q15, .inl (gJ G, 480, .inr (.inl (fun _ => 0)))), (q24, .inl (gI G, 480, .inl (fun _ => 0))), (q33, .inl (gI G, 480, .inl (fun _ => 0)))] H := hP
  have hD : va_D A [(mo, .inr (4, [.int 0, .ref q6, .ref q15, .ref q24, .ref q33, .null, .null])), (q6, .inl (gI G, 4, .inl (fun _ => 0))), (q15, .inl (gJ G, 480, .inr (.inl (fun _ => 0)))), (q24, .inl (gI G, 480, .inl (fun _ => 0))), (q33, .inl (gI G, 480, .inl (fun _ => 0)))] := hD
  refine lv_aload_n hx hb dX4_init_38 rfl (lv_at hl 0 rfl) ?_
  refine lv_iconst (v := 3) hx hb dX4_init_39 (by decide) ?_
  refine va_newa (atype := .boolean) (ty := .boolean) (N' := 3) (a0 := (3, .inl (kz_bo (fun _ => false)))) hx hb (hts (.arrayClass .boolean) (by decide +kernel)) rfl hK.1 hP hD hS hA (fun cA8 => congrArg (arrV cA8 3) (funext fun _ => congrArg Value.int (by show kf_b false = 0; decide +kernel))) (by decide +kernel) (by decide +kernel) (by decide +kernel) (Nat.le_of_ble_eq_true rfl) (Nat.le_of_ble_eq_true rfl) dX4_init_40 (fun q40 cA9 H hK9 hP hD hS => ?_)
  obtain rfl : cA9 = gZ G := kz_same hK9 (i := 2) (j := 4) rfl rfl
  have hP : va_P G.1 vwCl [(mo, .inr (4, [.int 0, .ref q6, .ref q15, .ref q24, .ref q33, .null, .null])), (q6, .inl (gI G, 4, .inl (fun _ => 0))), (q15, .inl (gJ G, 480, .inr (.inl (fun _ => 0)))), (q24, .inl (gI G, 480, .inl (fun _ => 0))), (q33, .inl (gI G, 480, .inl (fun _ => 0))), (q40, .inl (gZ G, 3, .inl (kz_bo (fun _ => false))))] H := hP
  have hD : va_D A [(mo, .inr (4, [.int 0, .ref q6, .ref q15, .ref q24, .ref q33, .null, .null])), (q6, .inl (gI G, 4, .inl (fun _ => 0))), (q15, .inl (gJ G, 480, .inr (.inl (fun _ => 0)))), (q24, .inl (gI G, 480, .inl (fun _ => 0))), (q33, .inl (gI G, 480, .inl (fun _ => 0))), (q40, .inl (gZ G, 3, .inl (kz_bo (fun _ => false))))] := hD
  refine W.widen (k := 5) (n := 1447) (by decide) (by decide) ?_
  refine va_putF (D := G.1) (ci := 4) (v := .ref q40) (ty := .array .boolean) (C := RX4) (T := TX4) (N := 7) hx hb hts hinX4 tyX4 tyX4_ok nmX4 hown hK.1 hP hD hS 0 rfl rfl 5 (by decide) (hts (.fieldLink RX4 23 "ForkStoreModel" "open" "[Z") (by decide +kernel)) (fun _ h9 => h9) rfl hin rfl (by decide +kernel) rfl rfl (Nat.le_of_ble_eq_true rfl) dX4_init_42 (fun H locs hP hD hS => ?_)
  have hP : va_P G.1 vwCl [(mo, .inr (4, [.int 0, .ref q6, .ref q15, .ref q24, .ref q33, .ref q40, .null])), (q6, .inl (gI G, 4, .inl (fun _ => 0))), (q15, .inl (gJ G, 480, .inr (.inl (fun _ => 0)))), (q24, .inl (gI G, 480, .inl (fun _ => 0))), (q33, .inl (gI G, 480, .inl (fun _ => 0))), (q40, .inl (gZ G, 3, .inl (kz_bo (fun _ => false))))] H := hP
  have hD : va_D A [(mo, .inr (4, [.int 0, .ref q6, .ref q15, .ref q24, .ref q33, .ref q40, .null])), (q6, .inl (gI G, 4, .inl (fun _ => 0))), (q15, .inl (gJ G, 480, .inr (.inl (fun _ => 0)))), (q24, .inl (gI G, 480, .inl (fun _ => 0))), (q33, .inl (gI G, 480, .inl (fun _ => 0))), (q40, .inl (gZ G, 3, .inl (kz_bo (fun _ => false))))] := hD
  refine lv_aload_n hx hb dX4_init_45 rfl (lv_at hl 0 rfl) ?_
  refine lv_iconst (v := 3) hx hb dX4_init_46 (by decide) ?_
  refine va_newa (atype := .int) (ty := .int) (N' := 3) (a0 := (3, .inl (kz_pw (fun _ => 1)))) hx hb (hts (.arrayClass .int) (by decide +kernel)) rfl hK.1 hP hD hS hA (fun cA8 => congrArg (arrV cA8 3) (funext fun _ => congrArg Value.int (by show kf_p 1 = 0; decide +kernel))) (by decide +kernel) (by decide +kernel) (by decide +kernel) (Nat.le_of_ble_eq_true rfl) (Nat.le_of_ble_eq_true rfl) dX4_init_47 (fun q47 cA9 H hK9 hP hD hS => ?_)
  obtain rfl : cA9 = gI G := kz_same hK9 (i := 0) (j := 4) rfl rfl
  have hP : va_P G.1 vwCl [(mo, .inr (4, [.int 0, .ref q6, .ref q15, .ref q24, .ref q33, .ref q40, .null])), (q6, .inl (gI G, 4, .inl (fun _ => 0))), (q15, .inl (gJ G, 480, .inr (.inl (fun _ => 0)))), (q24, .inl (gI G, 480, .inl (fun _ => 0))), (q33, .inl (gI G, 480, .inl (fun _ => 0))), (q40, .inl (gZ G, 3, .inl (kz_bo (fun _ => false)))), (q47, .inl (gI G, 3, .inl (kz_pw (fun _ => 1))))] H := hP
  have hD : va_D A [(mo, .inr (4, [.int 0, .ref q6, .ref q15, .ref q24, .ref q33, .ref q40, .null])), (q6, .inl (gI G, 4, .inl (fun _ => 0))), (q15, .inl (gJ G, 480, .inr (.inl (fun _ => 0)))), (q24, .inl (gI G, 480, .inl (fun _ => 0))), (q33, .inl (gI G, 480, .inl (fun _ => 0))), (q40, .inl (gZ G, 3, .inl (kz_bo (fun _ => false)))), (q47, .inl (gI G, 3, .inl (kz_pw (fun _ => 1))))] := hD
  refine W.widen (k := 6) (n := 1450) (by decide) (by decide) ?_
  refine va_putF (D := G.1) (ci := 4) (v := .ref q47) (ty := .array .int) (C := RX4) (T := TX4) (N := 7) hx hb hts hinX4 tyX4 tyX4_ok nmX4 hown hK.1 hP hD hS 0 rfl rfl 6 (by decide) (hts (.fieldLink RX4 27 "ForkStoreModel" "where" "[I") (by decide +kernel)) (fun _ h9 => h9) rfl hin rfl (by decide +kernel) rfl rfl (Nat.le_of_ble_eq_true rfl) dX4_init_49 (fun H locs hP hD hS => ?_)
  have hP : va_P G.1 vwCl [(mo, .inr (4, [.int 0, .ref q6, .ref q15, .ref q24, .ref q33, .ref q40, .ref q47])), (q6, .inl (gI G, 4, .inl (fun _ => 0))), (q15, .inl (gJ G, 480, .inr (.inl (fun _ => 0)))), (q24, .inl (gI G, 480, .inl (fun _ => 0))), (q33, .inl (gI G, 480, .inl (fun _ => 0))), (q40, .inl (gZ G, 3, .inl (kz_bo (fun _ => false)))), (q47, .inl (gI G, 3, .inl (kz_pw (fun _ => 1))))] H := hP
  have hD : va_D A [(mo, .inr (4, [.int 0, .ref q6, .ref q15, .ref q24, .ref q33, .ref q40, .ref q47])), (q6, .inl (gI G, 4, .inl (fun _ => 0))), (q15, .inl (gJ G, 480, .inr (.inl (fun _ => 0)))), (q24, .inl (gI G, 480, .inl (fun _ => 0))), (q33, .inl (gI G, 480, .inl (fun _ => 0))), (q40, .inl (gZ G, 3, .inl (kz_bo (fun _ => false)))), (q47, .inl (gI G, 3, .inl (kz_pw (fun _ => 1))))] := hD
  have hP9 := hP.sub (ws' := [(mo, .inr (4, [.int 0, .ref q6, .ref q15, .ref q24, .ref q33, .ref q40, .ref q47])), (q6, .inl (gI G, 4, .inl (fun _ => 0))), (q15, .inl (gJ G, 480, .inr (.inl (fun _ => 0)))), (q24, .inl (gI G, 480, .inl (fun _ => 0))), (q33, .inl (gI G, 480, .inl (fun _ => 0))), (q40, .inl (gZ G, 3, .inl (kz_bo (fun _ => false)))), (q47, .inl (gI G, 3, .inl (kz_pw (fun _ => 1))))]) [0, 1, 2, 3, 4, 5, 6] rfl
  have hD9 := hD.sub (ws' := [(mo, .inr (4, [.int 0, .ref q6, .ref q15, .ref q24, .ref q33, .ref q40, .ref q47])), (q6, .inl (gI G, 4, .inl (fun _ => 0))), (q15, .inl (gJ G, 480, .inr (.inl (fun _ => 0)))), (q24, .inl (gI G, 480, .inl (fun _ => 0))), (q33, .inl (gI G, 480, .inl (fun _ => 0))), (q40, .inl (gZ G, 3, .inl (kz_bo (fun _ => false)))), (q47, .inl (gI G, 3, .inl (kz_pw (fun _ => 1))))]) [0, 1, 2, 3, 4, 5, 6] (by decide) rfl
  exact W.vret hx hb hr (fun t ht hW => ⟨⟨_, rfl, ⟨q6, q15, q24, q33, q40, q47, rfl⟩, by rw [← ht] at hP9; exact ⟨hP9, hD9⟩⟩, hS.F ht⟩) hS.2.2 dX4_init_52
