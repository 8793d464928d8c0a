set_option maxHeartbeats 4000000 in
set_option maxRecDepth 100000 in
theorem kl_facts {s : State} {b : Nat} {A : Nat → Prop} (hts : ∀ w ∈ lw_tbl, w.before #[Value.ref b] s = true) (hgv : (Jvm.Cond.and given_1 narrow_1).before #[Value.ref b] s = true) (hAn : ∀ a : Nat, a < s.heap.size → ¬ A a) : ∃ G : kz_G, kz_K G s ∧ kz_N s ∧ kx_E A s s.heap := by
  have hs := flat_of_before _ hgv
  obtain ⟨c0, i0, k0⟩ := u_known (C := RX0) (T := TX0) (N := 1) (n := 1) hts kl_iX0 (hts _ kl_t58)
  obtain ⟨c1, i1, k1⟩ := u_known (C := RX1) (T := TX1) (N := 4) (n := 4) hts kl_iX1 (hts _ kl_t37)
  obtain ⟨c2, i2, k2⟩ := u_known (C := RX2) (T := TX2) (N := 3) (n := 3) hts kl_iX2 (hts _ kl_t69)
  obtain ⟨c3, i3, k3⟩ := u_known (C := RX3) (T := TX3) (N := 3) (n := 3) hts kl_iX3 (hts _ kl_t29)
  obtain ⟨c4, i4, k4⟩ := u_known (C := RX4) (T := TX4) (N := 7) (n := 7) hts kl_iX4 (hts _ kl_t433)
  obtain ⟨cI, kI, oI, fI1, fI2, fI3⟩ := Cond.arrayClass_spec (hts _ kl_t56)
  obtain ⟨cJ, kJ, oJ, fJ1, fJ2, fJ3⟩ := Cond.arrayClass_spec (hts _ kl_t55)
  obtain ⟨cZ, kZ, oZ, fZ1, fZ2, fZ3⟩ := Cond.arrayClass_spec (hts _ kl_t460)
  obtain ⟨oO, cO, kO, fO4, -, fO2, fO3, fO1⟩ := Cond.arrayOver_spec (hts _ kl_t68)
  obtain ⟨a36, -, -, -, e36, -⟩ := Cond.exactly_spec (hs (.exactly (.string "ForkStore" 36) "java/lang/String") (by decide +kernel))
  obtain ⟨a63, -, -, -, e63, -⟩ := Cond.exactly_spec (hs (.exactly (.string "ForkStore" 63) "java/lang/String") (by decide +kernel))
  obtain ⟨a72, -, -, -, e72, -⟩ := Cond.exactly_spec (hs (.exactly (.string "ForkStore" 72) "java/lang/String") (by decide +kernel))
  obtain ⟨a114, -, -, -, e114, -⟩ := Cond.exactly_spec (hs (.exactly (.string "ForkStore" 114) "java/lang/String") (by decide +kernel))
  refine ⟨((fun k => if k = 0 then c0 else if k = 1 then c1 else if k = 2 then c2 else if k = 3 then c3 else c4, fun k => if k = 0 then i0 else if k = 1 then i1 else if k = 2 then i2 else if k = 3 then i3 else i4), cI, cJ, cZ, cO), ⟨⟨?_, ?_⟩, va_Nw.of rfl (hts _ kl_t146)⟩, ⟨va_Nw.of rfl (hts _ kl_t38), va_Nw.of rfl (hts _ kl_t59), va_Nw.of rfl (hts _ kl_t70), va_Nw.of rfl (hts _ kl_t75), va_AO.of (hts _ kl_t68)⟩, ?_⟩
  · intro k q hq
    match k, hq with
    | 0, hq => cases hq; exact k0
    | 1, hq => cases hq; exact k1
    | 2, hq => cases hq; exact k2
    | 3, hq => cases hq; exact k3
    | 4, hq => cases hq; exact k4
    | k + 5, hq => simp [vwCl] at hq
  · intro k q hq
    match k, hq with
    | 0, hq => cases hq; exact ⟨fun n z => ⟨fun k h => (by cases h), kI, fI2, oI, fI3⟩, fI1⟩
    | 1, hq => cases hq; exact ⟨fun n z => ⟨fun k h => (by cases h), kJ, fJ2, oJ, fJ3⟩, fJ1⟩
    | 2, hq => cases hq; exact ⟨fun n z => ⟨fun k h => (by cases h), kZ, fZ2, oZ, fZ3⟩, fZ1⟩
    | 3, hq => cases hq; exact ⟨fun n z => ⟨fun k h => (by cases h), kO, fO2, oO, fO3⟩, kO, oO, fO2, fO3, fO4, fO1⟩
    | k + 4, hq => simp [kz_tys] at hq
  · exact ⟨⟨⟨a36, vk_R.of (hts _ kl_t324) e36⟩, ⟨a63, vk_R.of (hts _ kl_t368) e63⟩, ⟨a72, vk_R.of (hts _ kl_t397) e72⟩, ⟨a114, vk_R.of (hts _ kl_t412) e114⟩⟩, ⟨va_Nw.of rfl (hts _ kl_t285), va_Nw.of rfl (hts _ kl_t361), va_Nw.of rfl (hts _ kl_t390)⟩, ⟨va_Nc.of (hs (.not (.castable "java/lang/IllegalStateException" "java/lang/IllegalArgumentException")) (by decide +kernel)), va_Nc.of (hs (.not (.castable "java/util/NoSuchElementException" "java/lang/IllegalArgumentException")) (by decide +kernel)), va_Nw.of rfl (hts _ kl_t287), va_Nw.of rfl (hts _ kl_t289), va_Nw.of rfl (hts _ kl_t291)⟩, vx_Zqof (hts _ kl_t310) (hts _ kl_t19) (hs (.isRef (.static "java/lang/Throwable" "UNASSIGNED_STACK" "[Ljava/lang/StackTraceElement;")) (by decide +kernel)) hAn, vx_Zqof (hts _ kl_t312) (hts _ kl_t19) (hs (.isRef (.static "java/lang/Throwable" "SUPPRESSED_SENTINEL" "Ljava/util/List;")) (by decide +kernel)) hAn⟩
