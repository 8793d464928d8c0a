theorem kz_un_s (f : Nat → Nat) (k n : Nat) : kz_un f k n k = n := if_pos rfl
theorem kf_p_lt {pt c : Nat} (hp : pt ≤ 100000) (hc : c ≤ 120) : kf_p pt < nI c ↔ pt ≤ c := by
  cases pt with
  | zero =>
    constructor
    · intro _; omega
    · intro _
      exact Int32.lt_of_lt_of_le (show kf_p 0 < 0 from by decide) (nI_pos' (by omega))
  | succ k =>
    rw [kf_p_s, nI_ltI (by omega) (by omega)]
    omega
theorem kf_p_nn {pt : Nat} (hp : pt ≤ 100000) : kf_p pt < 0 ↔ pt = 0 := by
  cases pt with
  | zero => exact ⟨fun _ => rfl, fun _ => by decide⟩
  | succ k =>
    rw [kf_p_s]
    exact ⟨fun h => absurd h (nI_pos (by omega)), fun h => by omega⟩
/-- the first i places copied to B on -/
def kf_cq {α : Type} (f : Nat → α) (B i : Nat) : Nat → α := fun j => if B ≤ j ∧ j < B + i then f (j - B) else f j
theorem kf_cq_0 {α : Type} (f : Nat → α) (B : Nat) : kf_cq f B 0 = f := by
  funext j
  unfold kf_cq
  rw [if_neg (by omega)]
theorem kf_cq_at {α : Type} (f : Nat → α) {B i j : Nat} (h : j < B) : kf_cq f B i j = f j := by
  unfold kf_cq
  rw [if_neg (by omega)]
theorem kf_cq_L (f : Nat → Int64) {B i : Nat} (h : i < B) : kf_cq f B (i + 1) = vp_updL (kf_cq f B i) (B + i) (kf_cq f B i i) := by
  rw [kf_cq_at f h]
  funext j
  unfold vp_updL kf_cq
  by_cases hj : j = B + i
  · subst hj
    rw [if_pos (by omega), if_pos rfl, Nat.add_sub_cancel_left]
  · rw [if_neg hj]
    by_cases h2 : B ≤ j ∧ j < B + i
    · rw [if_pos (by omega), if_pos h2]
    · rw [if_neg (by omega), if_neg h2]
theorem kf_cq_I (f : Nat → Int32) {B i : Nat} (h : i < B) : kf_cq f B (i + 1) = upd (kf_cq f B i) (B + i) (kf_cq f B i i) := by
  rw [kf_cq_at f h]
  funext j
  unfold upd kf_cq
  by_cases hj : j = B + i
  · subst hj
    rw [if_pos (by omega), if_pos rfl, Nat.add_sub_cancel_left]
  · rw [if_neg hj]
    by_cases h2 : B ≤ j ∧ j < B + i
    · rw [if_pos (by omega), if_pos h2]
    · rw [if_neg (by omega), if_neg h2]
theorem kf_cq_N (f : Nat → Nat) {B i : Nat} (h : i < B) : kf_cq f B (i + 1) = kz_un (kf_cq f B i) (B + i) (kf_cq f B i i) := by
  rw [kf_cq_at f h]
  funext j
  unfold kz_un kf_cq
  by_cases hj : j = B + i
  · subst hj
    rw [if_pos (by omega), if_pos rfl, Nat.add_sub_cancel_left]
  · rw [if_neg hj]
    by_cases h2 : B ≤ j ∧ j < B + i
    · rw [if_pos (by omega), if_pos h2]
    · rw [if_neg (by omega), if_neg h2]
def kz_Ql (G : kz_G) (post : Int64 → va_W → Prop) (A : Nat → Prop) : Array Value → State → Outcome → State → Prop := va_Ql (S := va_W) post (fun w t => va_P G.1 vwCl w t.heap) A
/-- ForkStoreModel.on -/
def kf_onc (cs : Nat → Nat) (po : Nat → Bool) (pw : Nat → Nat) (rr : Int32) : Option Nat := if kf_mop po rr = true ∧ 0 < pw (kf_zn rr) ∧ pw (kf_zn rr) ≤ cs (kf_zn rr + 1) then some (120 * (kf_zn rr + 1) + (pw (kf_zn rr) - 1)) else none

set_option maxHeartbeats 4000000 in
set_option maxRecDepth 100000 in
theorem c_X4_open (l : Launch) (G : kz_G) (mo mc mw mz mv mp mh : Nat) (tv : Int32) (cs : Nat → Nat) (mW : Nat → Int64) (mZ : Nat → Nat) (mV : Nat → Int32) (po : Nat → Bool) (pw : Nat → Nat) (rr : Int32) (sz : Nat) (hcs : ∀ j, cs j ≤ 120) (hmz : ∀ j, mZ j ≤ 8) : Met l yX4_open wsX4_open { frames := 1, cells := 0, slots := 0, locals := 22 } (kz_Pm G [.ref mo, .int rr] [(mo, .inr (4, [.int tv, .ref mc, .ref mw, .ref mz, .ref mv, .ref mp, .ref mh])), (mc, .inl (gI G, 4, .inl (kz_z cs))), (mw, .inl (gJ G, 480, .inr (.inl mW))), (mz, .inl (gI G, 480, .inl (kz_z mZ))), (mv, .inl (gI G, 480, .inl mV)), (mp, .inl (gZ G, 3, .inl (kz_bo po))), (mh, .inl (gI G, 3, .inl (kz_pw pw)))] sz) (kz_Qi G (fun r w => (∃ jj : Nat, jj < 3 ∧ rr = nI jj ∧ po jj = false ∧ r = 1 ∧ w = [(mo, .inr (4, [.int 0, .ref mc, .ref mw, .ref mz, .ref mv, .ref mp, .ref mh])), (mc, .inl (gI G, 4, .inl (kz_z (kz_un cs (jj + 1) (cs 0))))), (mw, .inl (gJ G, 480, .inr (.inl (kf_cq mW (120 * (jj + 1)) (cs 0))))), (mz, .inl (gI G, 480, .inl (kz_z (kf_cq mZ (120 * (jj + 1)) (cs 0))))), (mv, .inl (gI G, 480, .inl (kf_cq mV (120 * (jj + 1)) (cs 0)))), (mp, .inl (gZ G, 3, .inl (kz_bo (kz_ub po jj true)))), (mh, .inl (gI G, 3, .inl (kz_pw (kz_un pw jj 0))))]) ∨ ((∀ jj : Nat, jj < 3 → rr = nI jj → po jj = true) ∧ r = 0 ∧ w = [(mo, .inr (4, [.int 0, .ref mc, .ref mw, .ref mz, .ref mv, .ref mp, .ref mh])), (mc, .inl (gI G, 4, .inl (kz_z cs))), (mw, .inl (gJ G, 480, .inr (.inl mW))), (mz, .inl (gI G, 480, .inl (kz_z mZ))), (mv, .inl (gI G, 480, .inl mV)), (mp, .inl (gZ G, 3, .inl (kz_bo po))), (mh, .inl (gI G, 3, .inl (kz_pw pw)))])) (va_A [(mo, .inr (4, [.int tv, .ref mc, .ref mw, .ref mz, .ref mv, .ref mp, .ref mh])), (mc, .inl (gI G, 4, .inl (kz_z cs))), (mw, .inl (gJ G, 480, .inr (.inl mW))), (mz, .inl (gI G, 480, .inl (kz_z mZ))), (mv, .inl (gI G, 480, .inl mV)), (mp, .inl (gZ G, 3, .inl (kz_bo po))), (mh, .inl (gI G, 3, .inl (kz_pw pw)))] sz)) 0 0 (va_A [(mo, .inr (4, [.int tv, .ref mc, .ref mw, .ref mz, .ref mv, .ref mp, .ref mh])), (mc, .inl (gI G, 4, .inl (kz_z cs))), (mw, .inl (gJ G, 480, .inr (.inl mW))), (mz, .inl (gI G, 480, .inl (kz_z mZ))), (mv, .inl (gI G, 480, .inl mV)), (mp, .inl (gZ G, 3, .inl (kz_bo po))), (mh, .inl (gI G, 3, .inl (kz_pw pw)))] sz) := by
  refine Met.ofW (cc := cX4_open) (maxL := 3) (ret := (some .boolean)) (by decide) rfl ?_
  intro p e s m args below meth c s₁ B hml hv
  obtain ⟨rfl, hsz, hP, hK, hD0⟩ := hv
  have hx := B.exec
  have hb := B.bytes
  have hr := B.returns
  have hts := atoms_spec (ws := wsX4_open) B.pre
  have hown : s.vm.findClass RX4 = some m.cls := findClass_of_methodNamed B.named
  have hlocks := B.notSynchronized
  have hinX4 : ∀ w ∈ wsX40, w ∈ wsX4_open := by decide +kernel
  subst hsz
  have hD := hD0.self (sz := s.heap.size)
  generalize hAe : va_A [(mo, .inr (4, [.int tv, .ref mc, .ref mw, .ref mz, .ref mv, .ref mp, .ref mh])), (mc, .inl (gI G, 4, .inl (kz_z cs))), (mw, .inl (gJ G, 480, .inr (.inl mW))), (mz, .inl (gI G, 480, .inl (kz_z mZ))), (mv, .inl (gI G, 480, .inl mV)), (mp, .inl (gZ G, 3, .inl (kz_bo po))), (mh, .inl (gI G, 3, .inl (kz_pw pw)))] s.heap.size = A at hD ⊢
  have hA : ∀ q : Nat, s.heap.size ≤ q → A q := fun q h => by rw [← hAe]; exact Or.inr h
  have hS : va_S A s.heap s.heap [] := va_S.rf
  have hP : va_P G.1 vwCl [(mo, .inr (4, [.int tv, .ref mc, .ref mw, .ref mz, .ref mv, .ref mp, .ref mh])), (mc, .inl (gI G, 4, .inl (kz_z cs))), (mw, .inl (gJ G, 480, .inr (.inl mW))), (mz, .inl (gI G, 480, .inl (kz_z mZ))), (mv, .inl (gI G, 480, .inl mV)), (mp, .inl (gZ G, 3, .inl (kz_bo po))), (mh, .inl (gI G, 3, .inl (kz_pw pw)))] s.heap := hP
  have hl := lv_entry ([.ref mo, .int rr]) (n := 3) (Nat.le_of_ble_eq_true rfl)
  rw [lg_entry_eq]
  generalize (lg_sl ([.ref mo, .int rr]) ++ List.replicate (3 - (lg_sl ([.ref mo, .int rr])).length) Slot.unset).toArray = ls at hl ⊢
  have hl : lv_has ls 3 [(0, .ref mo), (1, .int rr)] := hl
  have hc0 := hcs 0
  refine lv_aload_n hx hb dX4_open_0 rfl (lv_at hl 0 rfl) ?_
  refine lv_iconst (v := 0) hx hb dX4_open_1 (by decide) ?_
  refine va_put (D := G.1) (ci := 4) (v := .int 0) (ty := .int) (C := RX4) (T := TX4) (N := 7) hx hb hts hinX4 tyX4 tyX4_ok nmX4 hown hK.1 hP hD hS 0 rfl rfl 0 (by decide) (hts (.fieldLink RX4 30 "ForkStoreModel" "thrown" "I") (by decide +kernel)) (fun _ h9 => h9) rfl (by decide +kernel) rfl rfl (Nat.le_of_ble_eq_true rfl) dX4_open_2 (fun H locs hP hD hS => ?_)
  have hP : va_P G.1 vwCl [(mo, .inr (4, [.int 0, .ref mc, .ref mw, .ref mz, .ref mv, .ref mp, .ref mh])), (mc, .inl (gI G, 4, .inl (kz_z cs))), (mw, .inl (gJ G, 480, .inr (.inl mW))), (mz, .inl (gI G, 480, .inl (kz_z mZ))), (mv, .inl (gI G, 480, .inl mV)), (mp, .inl (gZ G, 3, .inl (kz_bo po))), (mh, .inl (gI G, 3, .inl (kz_pw pw)))] H := hP
  have hD : va_D A [(mo, .inr (4, [.int 0, .ref mc, .ref mw, .ref mz, .ref mv, .ref mp, .ref mh])), (mc, .inl (gI G, 4, .inl (kz_z cs))), (mw, .inl (gJ G, 480, .inr (.inl mW))), (mz, .inl (gI G, 480, .inl (kz_z mZ))), (mv, .inl (gI G, 480, .inl mV)), (mp, .inl (gZ G, 3, .inl (kz_bo po))), (mh, .inl (gI G, 3, .inl (kz_pw pw)))] := hD
  refine lv_iload_n hx hb dX4_open_5 rfl (lv_at hl 1 rfl) ?_
  refine lv_if_lt (tgt := 23) hx hb dX4_open_6 (by decide) (fun c_1 => ?_) (fun c_1 => ?_)
  · refine lv_iconst (v := 0) hx hb dX4_open_23 (by decide) ?_
    exact W.zret (v := 0) hx hb hr rfl (fun t ht hW => ⟨⟨_, ([(mo, .inr (4, [.int 0, .ref mc, .ref mw, .ref mz, .ref mv, .ref mp, .ref mh])), (mc, .inl (gI G, 4, .inl (kz_z cs))), (mw, .inl (gJ G, 480, .inr (.inl mW))), (mz, .inl (gI G, 480, .inl (kz_z mZ))), (mv, .inl (gI G, 480, .inl mV)), (mp, .inl (gZ G, 3, .inl (kz_bo po))), (mh, .inl (gI G, 3, .inl (kz_pw pw)))] : va_W), rfl, (Or.inr ⟨fun jj hjj h => by rw [h] at c_1; exact absurd c_1 (nI_pos (by omega)), rfl, rfl⟩), by rw [← ht] at hP; exact hP⟩, hS.F ht⟩) hS.2.2 dX4_open_24
  · refine lv_iload_n hx hb dX4_open_9 rfl (lv_at hl 1 rfl) ?_
    refine lv_iconst (v := 2) hx hb dX4_open_10 (by decide) ?_
    refine lv_icmp_gt (tgt := 23) hx hb dX4_open_11 (by decide) (fun c_2 => ?_) (fun c_2 => ?_)
    · refine lv_iconst (v := 0) hx hb dX4_open_23 (by decide) ?_
      exact W.zret (v := 0) hx hb hr rfl (fun t ht hW => ⟨⟨_, ([(mo, .inr (4, [.int 0, .ref mc, .ref mw, .ref mz, .ref mv, .ref mp, .ref mh])), (mc, .inl (gI G, 4, .inl (kz_z cs))), (mw, .inl (gJ G, 480, .inr (.inl mW))), (mz, .inl (gI G, 480, .inl (kz_z mZ))), (mv, .inl (gI G, 480, .inl mV)), (mp, .inl (gZ G, 3, .inl (kz_bo po))), (mh, .inl (gI G, 3, .inl (kz_pw pw)))] : va_W), rfl, (Or.inr ⟨fun jj hjj h => by rw [h] at c_2; exact absurd ((nI_ltI (a := 2) (by decide) (by omega)).mp c_2) (by omega), rfl, rfl⟩), by rw [← ht] at hP; exact hP⟩, hS.F ht⟩) hS.2.2 dX4_open_24
    · obtain ⟨jj, hjj, rfl⟩ := nI_of2 (x := rr) (M := 2) (n := 2) rfl c_1 (Int32.not_lt.mp c_2)
      refine lv_aload_n hx hb dX4_open_14 rfl (lv_at hl 0 rfl) ?_
      refine va_get (D := G.1) (ci := 4) (v := .ref mp) (C := RX4) (T := TX4) (N := 7) hx hb hts hinX4 hown hK.1 hP 0 rfl rfl 5 (by decide) (hts (.fieldLink RX4 23 "ForkStoreModel" "open" "[Z") (by decide +kernel)) (fun _ h9 => h9) rfl dX4_open_15 ?_
      refine lv_iload_n hx hb dX4_open_18 rfl (lv_at hl 1 rfl) ?_
      refine kz_zald hx hb hK.1 hP 5 2 rfl rfl (k := jj) (by omega) (by decide) dX4_open_19 ?_
      refine kz_asi (y := kf_b (po jj)) rfl ?_
      refine lv_if_eq (tgt := 25) hx hb dX4_open_20 (by decide) (fun c_3 => ?_) (fun c_3 => ?_)
      · have kc_3 : po jj = false := kf_b_0.mp c_3
        refine lv_aload_n hx hb dX4_open_25 rfl (lv_at hl 0 rfl) ?_
        refine va_get (D := G.1) (ci := 4) (v := .ref mp) (C := RX4) (T := TX4) (N := 7) hx hb hts hinX4 hown hK.1 hP 0 rfl rfl 5 (by decide) (hts (.fieldLink RX4 23 "ForkStoreModel" "open" "[Z") (by decide +kernel)) (fun _ h9 => h9) rfl dX4_open_26 ?_
        refine lv_iload_n hx hb dX4_open_29 rfl (lv_at hl 1 rfl) ?_
        refine lv_iconst (v := 1) hx hb dX4_open_30 (by decide) ?_
        refine kz_zast hx hb hK.1 hP hD hS 5 2 rfl rfl (k := jj) (by omega) (by decide) rfl dX4_open_31 (fun H locs hP hD hS => ?_)
        have hP : va_P G.1 vwCl [(mo, .inr (4, [.int 0, .ref mc, .ref mw, .ref mz, .ref mv, .ref mp, .ref mh])), (mc, .inl (gI G, 4, .inl (kz_z cs))), (mw, .inl (gJ G, 480, .inr (.inl mW))), (mz, .inl (gI G, 480, .inl (kz_z mZ))), (mv, .inl (gI G, 480, .inl mV)), (mp, .inl (gZ G, 3, .inl (upd (kz_bo po) jj 1))), (mh, .inl (gI G, 3, .inl (kz_pw pw)))] H := hP
        have hD : va_D A [(mo, .inr (4, [.int 0, .ref mc, .ref mw, .ref mz, .ref mv, .ref mp, .ref mh])), (mc, .inl (gI G, 4, .inl (kz_z cs))), (mw, .inl (gJ G, 480, .inr (.inl mW))), (mz, .inl (gI G, 480, .inl (kz_z mZ))), (mv, .inl (gI G, 480, .inl mV)), (mp, .inl (gZ G, 3, .inl (upd (kz_bo po) jj 1))), (mh, .inl (gI G, 3, .inl (kz_pw pw)))] := hD
        rw [show upd (kz_bo po) jj 1 = kz_bo (kz_ub po jj true) from (kz_bu _ _ true).symm] at hP hD
        have hP : va_P G.1 vwCl [(mo, .inr (4, [.int 0, .ref mc, .ref mw, .ref mz, .ref mv, .ref mp, .ref mh])), (mc, .inl (gI G, 4, .inl (kz_z cs))), (mw, .inl (gJ G, 480, .inr (.inl mW))), (mz, .inl (gI G, 480, .inl (kz_z mZ))), (mv, .inl (gI G, 480, .inl mV)), (mp, .inl (gZ G, 3, .inl (kz_bo (kz_ub po jj true)))), (mh, .inl (gI G, 3, .inl (kz_pw pw)))] H := hP
        have hD : va_D A [(mo, .inr (4, [.int 0, .ref mc, .ref mw, .ref mz, .ref mv, .ref mp, .ref mh])), (mc, .inl (gI G, 4, .inl (kz_z cs))), (mw, .inl (gJ G, 480, .inr (.inl mW))), (mz, .inl (gI G, 480, .inl (kz_z mZ))), (mv, .inl (gI G, 480, .inl mV)), (mp, .inl (gZ G, 3, .inl (kz_bo (kz_ub po jj true)))), (mh, .inl (gI G, 3, .inl (kz_pw pw)))] := hD
        refine lv_aload_n hx hb dX4_open_32 rfl (lv_at hl 0 rfl) ?_
        refine va_get (D := G.1) (ci := 4) (v := .ref mh) (C := RX4) (T := TX4) (N := 7) hx hb hts hinX4 hown hK.1 hP 0 rfl rfl 6 (by decide) (hts (.fieldLink RX4 27 "ForkStoreModel" "where" "[I") (by decide +kernel)) (fun _ h9 => h9) rfl dX4_open_33 ?_
        refine lv_iload_n hx hb dX4_open_36 rfl (lv_at hl 1 rfl) ?_
        refine lv_iconst (v := (-1)) hx hb dX4_open_37 (by decide) ?_
        refine kz_iast hx hb hK.1 hP hD hS 6 0 rfl rfl (k := jj) (by omega) (by decide) dX4_open_38 (fun H locs hP hD hS => ?_)
        have hP : va_P G.1 vwCl [(mo, .inr (4, [.int 0, .ref mc, .ref mw, .ref mz, .ref mv, .ref mp, .ref mh])), (mc, .inl (gI G, 4, .inl (kz_z cs))), (mw, .inl (gJ G, 480, .inr (.inl mW))), (mz, .inl (gI G, 480, .inl (kz_z mZ))), (mv, .inl (gI G, 480, .inl mV)), (mp, .inl (gZ G, 3, .inl (kz_bo (kz_ub po jj true)))), (mh, .inl (gI G, 3, .inl (upd (kz_pw pw) jj (-1))))] H := hP
        have hD : va_D A [(mo, .inr (4, [.int 0, .ref mc, .ref mw, .ref mz, .ref mv, .ref mp, .ref mh])), (mc, .inl (gI G, 4, .inl (kz_z cs))), (mw, .inl (gJ G, 480, .inr (.inl mW))), (mz, .inl (gI G, 480, .inl (kz_z mZ))), (mv, .inl (gI G, 480, .inl mV)), (mp, .inl (gZ G, 3, .inl (kz_bo (kz_ub po jj true)))), (mh, .inl (gI G, 3, .inl (upd (kz_pw pw) jj (-1))))] := hD
        rw [show upd (kz_pw pw) jj (-1) = kz_pw (kz_un pw jj 0) from (kz_pu _ _ 0).symm] at hP hD
        have hP : va_P G.1 vwCl [(mo, .inr (4, [.int 0, .ref mc, .ref mw, .ref mz, .ref mv, .ref mp, .ref mh])), (mc, .inl (gI G, 4, .inl (kz_z cs))), (mw, .inl (gJ G, 480, .inr (.inl mW))), (mz, .inl (gI G, 480, .inl (kz_z mZ))), (mv, .inl (gI G, 480, .inl mV)), (mp, .inl (gZ G, 3, .inl (kz_bo (kz_ub po jj true)))), (mh, .inl (gI G, 3, .inl (kz_pw (kz_un pw jj 0))))] H := hP
        have hD : va_D A [(mo, .inr (4, [.int 0, .ref mc, .ref mw, .ref mz, .ref mv, .ref mp, .ref mh])), (mc, .inl (gI G, 4, .inl (kz_z cs))), (mw, .inl (gJ G, 480, .inr (.inl mW))), (mz, .inl (gI G, 480, .inl (kz_z mZ))), (mv, .inl (gI G, 480, .inl mV)), (mp, .inl (gZ G, 3, .inl (kz_bo (kz_ub po jj true)))), (mh, .inl (gI G, 3, .inl (kz_pw (kz_un pw jj 0))))] := hD
        refine lv_aload_n hx hb dX4_open_39 rfl (lv_at hl 0 rfl) ?_
        refine va_get (D := G.1) (ci := 4) (v := .ref mc) (C := RX4) (T := TX4) (N := 7) hx hb hts hinX4 hown hK.1 hP 0 rfl rfl 1 (by decide) (hts (.fieldLink RX4 7 "ForkStoreModel" "counts" "[I") (by decide +kernel)) (fun _ h9 => h9) rfl dX4_open_40 ?_
        refine lv_iload_n hx hb dX4_open_43 rfl (lv_at hl 1 rfl) ?_
        refine lv_iconst (v := 1) hx hb dX4_open_44 (by decide) ?_
        refine lv_iadd hx hb dX4_open_45 ?_
        refine kz_asi (y := nI (jj + 1)) (nI_1 jj) ?_
        refine lv_aload_n hx hb dX4_open_46 rfl (lv_at hl 0 rfl) ?_
        refine va_get (D := G.1) (ci := 4) (v := .ref mc) (C := RX4) (T := TX4) (N := 7) hx hb hts hinX4 hown hK.1 hP 0 rfl rfl 1 (by decide) (hts (.fieldLink RX4 7 "ForkStoreModel" "counts" "[I") (by decide +kernel)) (fun _ h9 => h9) rfl dX4_open_47 ?_
        refine lv_iconst (v := 0) hx hb dX4_open_50 (by decide) ?_
        refine kz_iald hx hb hK.1 hP 1 0 rfl rfl (k := 0) (by decide) (by decide) dX4_open_51 ?_
        refine kz_asi (y := nI (cs 0)) rfl ?_
        refine kz_iast hx hb hK.1 hP hD hS 1 0 rfl rfl (k := (jj + 1)) (by omega) (by decide) dX4_open_52 (fun H locs hP hD hS => ?_)
        have hP : va_P G.1 vwCl [(mo, .inr (4, [.int 0, .ref mc, .ref mw, .ref mz, .ref mv, .ref mp, .ref mh])), (mc, .inl (gI G, 4, .inl (upd (kz_z cs) (jj + 1) (nI (cs 0))))), (mw, .inl (gJ G, 480, .inr (.inl mW))), (mz, .inl (gI G, 480, .inl (kz_z mZ))), (mv, .inl (gI G, 480, .inl mV)), (mp, .inl (gZ G, 3, .inl (kz_bo (kz_ub po jj true)))), (mh, .inl (gI G, 3, .inl (kz_pw (kz_un pw jj 0))))] H := hP
        have hD : va_D A [(mo, .inr (4, [.int 0, .ref mc, .ref mw, .ref mz, .ref mv, .ref mp, .ref mh])), (mc, .inl (gI G, 4, .inl (upd (kz_z cs) (jj + 1) (nI (cs 0))))), (mw, .inl (gJ G, 480, .inr (.inl mW))), (mz, .inl (gI G, 480, .inl (kz_z mZ))), (mv, .inl (gI G, 480, .inl mV)), (mp, .inl (gZ G, 3, .inl (kz_bo (kz_ub po jj true)))), (mh, .inl (gI G, 3, .inl (kz_pw (kz_un pw jj 0))))] := hD
        rw [show upd (kz_z cs) (jj + 1) (nI (cs 0)) = kz_z (kz_un cs (jj + 1) (cs 0)) from (kz_zu _ _ _).symm] at hP hD
        have hP : va_P G.1 vwCl [(mo, .inr (4, [.int 0, .ref mc, .ref mw, .ref mz, .ref mv, .ref mp, .ref mh])), (mc, .inl (gI G, 4, .inl (kz_z (kz_un cs (jj + 1) (cs 0))))), (mw, .inl (gJ G, 480, .inr (.inl mW))), (mz, .inl (gI G, 480, .inl (kz_z mZ))), (mv, .inl (gI G, 480, .inl mV)), (mp, .inl (gZ G, 3, .inl (kz_bo (kz_ub po jj true)))), (mh, .inl (gI G, 3, .inl (kz_pw (kz_un pw jj 0))))] H := hP
        have hD : va_D A [(mo, .inr (4, [.int 0, .ref mc, .ref mw, .ref mz, .ref mv, .ref mp, .ref mh])), (mc, .inl (gI G, 4, .inl (kz_z (kz_un cs (jj + 1) (cs 0))))), (mw, .inl (gJ G, 480, .inr (.inl mW))), (mz, .inl (gI G, 480, .inl (kz_z mZ))), (mv, .inl (gI G, 480, .inl mV)), (mp, .inl (gZ G, 3, .inl (kz_bo (kz_ub po jj true)))), (mh, .inl (gI G, 3, .inl (kz_pw (kz_un pw jj 0))))] := hD
        refine lv_iconst (v := 0) hx hb dX4_open_53 (by decide) ?_
        refine lv_istore_n (lv' := [(2, .int 0), (0, .ref mo), (1, .int (nI jj))]) hx hb dX4_open_54 rfl hl (by decide) rfl (fun ls hl => ?_)
        refine kz_loopm (D := G.1) (cl := vwCl) (A := A) (H0 := s.heap) (nL := 3) (hd := 55) (e9 := cs 0) (i0 := 0) (LV := fun ii => [(2, .int (nI ii)), (0, .ref mo), (1, .int (nI jj))]) (WV := fun ii => [(mo, .inr (4, [.int 0, .ref mc, .ref mw, .ref mz, .ref mv, .ref mp, .ref mh])), (mc, .inl (gI G, 4, .inl (kz_z (kz_un cs (jj + 1) (cs 0))))), (mw, .inl (gJ G, 480, .inr (.inl (kf_cq mW (120 * (jj + 1)) ii)))), (mz, .inl (gI G, 480, .inl (kz_z (kf_cq mZ (120 * (jj + 1)) ii)))), (mv, .inl (gI G, 480, .inl (kf_cq mV (120 * (jj + 1)) ii))), (mp, .inl (gZ G, 3, .inl (kz_bo (kz_ub po jj true)))), (mh, .inl (gI G, 3, .inl (kz_pw (kz_un pw jj 0))))]) (fun ii H locs ls hii hl hP hD hS ih => ?_) (Nat.zero_le _) (lv_sub hl [0, 1, 2] rfl) (by simp only [kf_cq_0]; exact hP) (by simp only [kf_cq_0]; exact hD) hS
        have hl : lv_has ls 3 [(2, .int (nI ii)), (0, .ref mo), (1, .int (nI jj))] := hl
        have hP : va_P G.1 vwCl [(mo, .inr (4, [.int 0, .ref mc, .ref mw, .ref mz, .ref mv, .ref mp, .ref mh])), (mc, .inl (gI G, 4, .inl (kz_z (kz_un cs (jj + 1) (cs 0))))), (mw, .inl (gJ G, 480, .inr (.inl (kf_cq mW (120 * (jj + 1)) ii)))), (mz, .inl (gI G, 480, .inl (kz_z (kf_cq mZ (120 * (jj + 1)) ii)))), (mv, .inl (gI G, 480, .inl (kf_cq mV (120 * (jj + 1)) ii))), (mp, .inl (gZ G, 3, .inl (kz_bo (kz_ub po jj true)))), (mh, .inl (gI G, 3, .inl (kz_pw (kz_un pw jj 0))))] H := hP
        have hD : va_D A [(mo, .inr (4, [.int 0, .ref mc, .ref mw, .ref mz, .ref mv, .ref mp, .ref mh])), (mc, .inl (gI G, 4, .inl (kz_z (kz_un cs (jj + 1) (cs 0))))), (mw, .inl (gJ G, 480, .inr (.inl (kf_cq mW (120 * (jj + 1)) ii)))), (mz, .inl (gI G, 480, .inl (kz_z (kf_cq mZ (120 * (jj + 1)) ii)))), (mv, .inl (gI G, 480, .inl (kf_cq mV (120 * (jj + 1)) ii))), (mp, .inl (gZ G, 3, .inl (kz_bo (kz_ub po jj true)))), (mh, .inl (gI G, 3, .inl (kz_pw (kz_un pw jj 0))))] := hD
        refine lv_iload_n hx hb dX4_open_55 rfl (lv_at hl 0 rfl) ?_
        refine lv_aload_n hx hb dX4_open_56 rfl (lv_at hl 1 rfl) ?_
        refine va_get (D := G.1) (ci := 4) (v := .ref mc) (C := RX4) (T := TX4) (N := 7) hx hb hts hinX4 hown hK.1 hP 0 rfl rfl 1 (by decide) (hts (.fieldLink RX4 7 "ForkStoreModel" "counts" "[I") (by decide +kernel)) (fun _ h9 => h9) rfl dX4_open_57 ?_
        refine lv_iconst (v := 0) hx hb dX4_open_60 (by decide) ?_
        refine kz_iald hx hb hK.1 hP 1 0 rfl rfl (k := 0) (by decide) (by decide) dX4_open_61 ?_
        refine kz_asi (y := nI ((kz_un cs (jj + 1) (cs 0)) 0)) rfl ?_
        refine kz_asi (y := nI (cs 0)) rfl ?_
        refine lv_icmp_ge (tgt := 84) hx hb dX4_open_62 (by decide) (fun c_4 => ?_) (fun c_4 => ?_)
        · have kc_4 : cs 0 ≤ ii := (nI_leI (by omega) (by omega)).mp c_4
          rw [show ii = cs 0 from by omega] at hP hD
          have hP : va_P G.1 vwCl [(mo, .inr (4, [.int 0, .ref mc, .ref mw, .ref mz, .ref mv, .ref mp, .ref mh])), (mc, .inl (gI G, 4, .inl (kz_z (kz_un cs (jj + 1) (cs 0))))), (mw, .inl (gJ G, 480, .inr (.inl (kf_cq mW (120 * (jj + 1)) (cs 0))))), (mz, .inl (gI G, 480, .inl (kz_z (kf_cq mZ (120 * (jj + 1)) (cs 0))))), (mv, .inl (gI G, 480, .inl (kf_cq mV (120 * (jj + 1)) (cs 0)))), (mp, .inl (gZ G, 3, .inl (kz_bo (kz_ub po jj true)))), (mh, .inl (gI G, 3, .inl (kz_pw (kz_un pw jj 0))))] _ := hP
          have hD : va_D A [(mo, .inr (4, [.int 0, .ref mc, .ref mw, .ref mz, .ref mv, .ref mp, .ref mh])), (mc, .inl (gI G, 4, .inl (kz_z (kz_un cs (jj + 1) (cs 0))))), (mw, .inl (gJ G, 480, .inr (.inl (kf_cq mW (120 * (jj + 1)) (cs 0))))), (mz, .inl (gI G, 480, .inl (kz_z (kf_cq mZ (120 * (jj + 1)) (cs 0))))), (mv, .inl (gI G, 480, .inl (kf_cq mV (120 * (jj + 1)) (cs 0)))), (mp, .inl (gZ G, 3, .inl (kz_bo (kz_ub po jj true)))), (mh, .inl (gI G, 3, .inl (kz_pw (kz_un pw jj 0))))] := hD
          refine lv_iconst (v := 1) hx hb dX4_open_84 (by decide) ?_
          exact W.zret (v := 1) hx hb hr rfl (fun t ht hW => ⟨⟨_, ([(mo, .inr (4, [.int 0, .ref mc, .ref mw, .ref mz, .ref mv, .ref mp, .ref mh])), (mc, .inl (gI G, 4, .inl (kz_z (kz_un cs (jj + 1) (cs 0))))), (mw, .inl (gJ G, 480, .inr (.inl (kf_cq mW (120 * (jj + 1)) (cs 0))))), (mz, .inl (gI G, 480, .inl (kz_z (kf_cq mZ (120 * (jj + 1)) (cs 0))))), (mv, .inl (gI G, 480, .inl (kf_cq mV (120 * (jj + 1)) (cs 0)))), (mp, .inl (gZ G, 3, .inl (kz_bo (kz_ub po jj true)))), (mh, .inl (gI G, 3, .inl (kz_pw (kz_un pw jj 0))))] : va_W), rfl, (Or.inl ⟨jj, by omega, rfl, kc_3, rfl, rfl⟩), by rw [← ht] at hP; exact hP⟩, hS.F ht⟩) hS.2.2 dX4_open_85
        · have kc_4 : ii < cs 0 := Nat.lt_of_not_le (fun h => c_4 (nI_le h (by omega)))
          refine lv_aload_n hx hb dX4_open_65 rfl (lv_at hl 1 rfl) ?_
          refine lv_iload_n hx hb dX4_open_66 rfl (lv_at hl 0 rfl) ?_
          refine lv_bipush (v := 120) hx hb dX4_open_67 (by decide) ?_
          refine lv_iload_n hx hb dX4_open_69 rfl (lv_at hl 2 rfl) ?_
          refine lv_iconst (v := 1) hx hb dX4_open_70 (by decide) ?_
          refine lv_iadd hx hb dX4_open_71 ?_
          refine kz_asi (y := nI (jj + 1)) (nI_1 jj) ?_
          refine lv_imul hx hb dX4_open_72 ?_
          refine kz_asi (y := nI (120 * (jj + 1))) (pk_mul 120 (jj + 1)) ?_
          refine lv_iload_n hx hb dX4_open_73 rfl (lv_at hl 0 rfl) ?_
          refine lv_iadd hx hb dX4_open_74 ?_
          refine kz_asi (y := nI (120 * (jj + 1) + ii)) (nI_add _ _) ?_
          have hPc := hP.sub (ws' := [(mo, .inr (4, [.int 0, .ref mc, .ref mw, .ref mz, .ref mv, .ref mp, .ref mh])), (mc, .inl (gI G, 4, .inl (kz_z (kz_un cs (jj + 1) (cs 0))))), (mw, .inl (gJ G, 480, .inr (.inl (kf_cq mW (120 * (jj + 1)) ii)))), (mz, .inl (gI G, 480, .inl (kz_z (kf_cq mZ (120 * (jj + 1)) ii)))), (mv, .inl (gI G, 480, .inl (kf_cq mV (120 * (jj + 1)) ii))), (mp, .inl (gZ G, 3, .inl (kz_bo (kz_ub po jj true)))), (mh, .inl (gI G, 3, .inl (kz_pw (kz_un pw jj 0))))]) [0, 1, 2, 3, 4, 5, 6] rfl
          have hDc := hD.sub (ws' := [(mo, .inr (4, [.int 0, .ref mc, .ref mw, .ref mz, .ref mv, .ref mp, .ref mh])), (mc, .inl (gI G, 4, .inl (kz_z (kz_un cs (jj + 1) (cs 0))))), (mw, .inl (gJ G, 480, .inr (.inl (kf_cq mW (120 * (jj + 1)) ii)))), (mz, .inl (gI G, 480, .inl (kz_z (kf_cq mZ (120 * (jj + 1)) ii)))), (mv, .inl (gI G, 480, .inl (kf_cq mV (120 * (jj + 1)) ii))), (mp, .inl (gZ G, 3, .inl (kz_bo (kz_ub po jj true)))), (mh, .inl (gI G, 3, .inl (kz_pw (kz_un pw jj 0))))]) [0, 1, 2, 3, 4, 5, 6] (by decide) rfl
          have hFc := va_free (wc := [(mo, .inr (4, [.int 0, .ref mc, .ref mw, .ref mz, .ref mv, .ref mp, .ref mh])), (mc, .inl (gI G, 4, .inl (kz_z (kz_un cs (jj + 1) (cs 0))))), (mw, .inl (gJ G, 480, .inr (.inl (kf_cq mW (120 * (jj + 1)) ii)))), (mz, .inl (gI G, 480, .inl (kz_z (kf_cq mZ (120 * (jj + 1)) ii)))), (mv, .inl (gI G, 480, .inl (kf_cq mV (120 * (jj + 1)) ii))), (mp, .inl (gZ G, 3, .inl (kz_bo (kz_ub po jj true)))), (mh, .inl (gI G, 3, .inl (kz_pw (kz_un pw jj 0))))]) hD hS hA [0, 1, 2, 3, 4, 5, 6] rfl
          refine va_callv (va_runV (As := [.int (nI ii), .int (nI (120 * (jj + 1) + ii))]) (rest := []) ⟨hx, hb, hml, hown, hts⟩ (c_X4_copy l G mo mc mw mz mv mp mh 0 (kz_un cs (jj + 1) (cs 0)) (kf_cq mW (120 * (jj + 1)) ii) (kf_cq mZ (120 * (jj + 1)) ii) (kf_cq mV (120 * (jj + 1)) ii) (kz_ub po jj true) (kz_un pw jj 0) ii (120 * (jj + 1) + ii) _ (by omega) (by omega)) (cwV 2 hts gX4_open_X4_copy rfl rfl rfl (by decide +kernel) ⟨Nat.le_of_ble_eq_true rfl, Nat.le_of_ble_eq_true rfl⟩) (kz_pvm hK hPc hDc (va_recv hK.1 hPc (ci := 4) (q0 := 0) rfl rfl)) rfl rfl hl.1 rfl (lv_room (Nat.le_of_ble_eq_true rfl)) dX4_open_75 ⟨Nat.zero_le _, Nat.zero_le _⟩) hS (fun q _ h => hFc q h) hFc (fun u t H locs ht hvm hw hB hqz9 hqk9 hS => ?_)
          have hw : u = [(mo, .inr (4, [.int 0, .ref mc, .ref mw, .ref mz, .ref mv, .ref mp, .ref mh])), (mc, .inl (gI G, 4, .inl (kz_z (kz_un cs (jj + 1) (cs 0))))), (mw, .inl (gJ G, 480, .inr (.inl (vp_updL (kf_cq mW (120 * (jj + 1)) ii) (120 * (jj + 1) + ii) ((kf_cq mW (120 * (jj + 1)) ii) ii))))), (mz, .inl (gI G, 480, .inl (kz_z (kz_un (kf_cq mZ (120 * (jj + 1)) ii) (120 * (jj + 1) + ii) ((kf_cq mZ (120 * (jj + 1)) ii) ii))))), (mv, .inl (gI G, 480, .inl (upd (kf_cq mV (120 * (jj + 1)) ii) (120 * (jj + 1) + ii) ((kf_cq mV (120 * (jj + 1)) ii) ii)))), (mp, .inl (gZ G, 3, .inl (kz_bo (kz_ub po jj true)))), (mh, .inl (gI G, 3, .inl (kz_pw (kz_un pw jj 0))))] := hw
          have hB : va_P G.1 vwCl u H := by rw [← ht]; exact hB
          rw [hw] at hB
          obtain ⟨hP, hD⟩ := kz_join (wc := [(mo, .inr (4, [.int 0, .ref mc, .ref mw, .ref mz, .ref mv, .ref mp, .ref mh])), (mc, .inl (gI G, 4, .inl (kz_z (kz_un cs (jj + 1) (cs 0))))), (mw, .inl (gJ G, 480, .inr (.inl (kf_cq mW (120 * (jj + 1)) ii)))), (mz, .inl (gI G, 480, .inl (kz_z (kf_cq mZ (120 * (jj + 1)) ii)))), (mv, .inl (gI G, 480, .inl (kf_cq mV (120 * (jj + 1)) ii))), (mp, .inl (gZ G, 3, .inl (kz_bo (kz_ub po jj true)))), (mh, .inl (gI G, 3, .inl (kz_pw (kz_un pw jj 0))))]) (w1 := [(mo, .inr (4, [.int 0, .ref mc, .ref mw, .ref mz, .ref mv, .ref mp, .ref mh])), (mc, .inl (gI G, 4, .inl (kz_z (kz_un cs (jj + 1) (cs 0))))), (mw, .inl (gJ G, 480, .inr (.inl (vp_updL (kf_cq mW (120 * (jj + 1)) ii) (120 * (jj + 1) + ii) ((kf_cq mW (120 * (jj + 1)) ii) ii))))), (mz, .inl (gI G, 480, .inl (kz_z (kz_un (kf_cq mZ (120 * (jj + 1)) ii) (120 * (jj + 1) + ii) ((kf_cq mZ (120 * (jj + 1)) ii) ii))))), (mv, .inl (gI G, 480, .inl (upd (kf_cq mV (120 * (jj + 1)) ii) (120 * (jj + 1) + ii) ((kf_cq mV (120 * (jj + 1)) ii) ii)))), (mp, .inl (gZ G, 3, .inl (kz_bo (kz_ub po jj true)))), (mh, .inl (gI G, 3, .inl (kz_pw (kz_un pw jj 0))))]) hP hD [0, 1, 2, 3, 4, 5, 6] rfl (by decide) rfl hqk9 hB
          have hP : va_P G.1 vwCl [(mo, .inr (4, [.int 0, .ref mc, .ref mw, .ref mz, .ref mv, .ref mp, .ref mh])), (mc, .inl (gI G, 4, .inl (kz_z (kz_un cs (jj + 1) (cs 0))))), (mw, .inl (gJ G, 480, .inr (.inl (vp_updL (kf_cq mW (120 * (jj + 1)) ii) (120 * (jj + 1) + ii) ((kf_cq mW (120 * (jj + 1)) ii) ii))))), (mz, .inl (gI G, 480, .inl (kz_z (kz_un (kf_cq mZ (120 * (jj + 1)) ii) (120 * (jj + 1) + ii) ((kf_cq mZ (120 * (jj + 1)) ii) ii))))), (mv, .inl (gI G, 480, .inl (upd (kf_cq mV (120 * (jj + 1)) ii) (120 * (jj + 1) + ii) ((kf_cq mV (120 * (jj + 1)) ii) ii)))), (mp, .inl (gZ G, 3, .inl (kz_bo (kz_ub po jj true)))), (mh, .inl (gI G, 3, .inl (kz_pw (kz_un pw jj 0))))] H := hP
          have hD : va_D A [(mo, .inr (4, [.int 0, .ref mc, .ref mw, .ref mz, .ref mv, .ref mp, .ref mh])), (mc, .inl (gI G, 4, .inl (kz_z (kz_un cs (jj + 1) (cs 0))))), (mw, .inl (gJ G, 480, .inr (.inl (vp_updL (kf_cq mW (120 * (jj + 1)) ii) (120 * (jj + 1) + ii) ((kf_cq mW (120 * (jj + 1)) ii) ii))))), (mz, .inl (gI G, 480, .inl (kz_z (kz_un (kf_cq mZ (120 * (jj + 1)) ii) (120 * (jj + 1) + ii) ((kf_cq mZ (120 * (jj + 1)) ii) ii))))), (mv, .inl (gI G, 480, .inl (upd (kf_cq mV (120 * (jj + 1)) ii) (120 * (jj + 1) + ii) ((kf_cq mV (120 * (jj + 1)) ii) ii)))), (mp, .inl (gZ G, 3, .inl (kz_bo (kz_ub po jj true)))), (mh, .inl (gI G, 3, .inl (kz_pw (kz_un pw jj 0))))] := hD
          refine lv_iinc (v := nI (ii + 1)) (lv' := [(2, .int (nI (ii + 1))), (0, .ref mo), (1, .int (nI jj))]) hx hb dX4_open_78 hl (k := 0) rfl (nI_1 ii) (by decide) rfl (fun ls hl => ?_)
          refine lv_goto (tgt := 55) hx hb dX4_open_81 (by decide) ?_
          have e1 := kf_cq_L mW (B := (120 * (jj + 1))) (i := ii) (by omega)
          have e2 := kf_cq_N mZ (B := (120 * (jj + 1))) (i := ii) (by omega)
          have e3 := kf_cq_I mV (B := (120 * (jj + 1))) (i := ii) (by omega)
          exact ih H locs ls (by omega) (lv_sub hl [0, 1, 2] rfl) (by show va_P G.1 vwCl [(mo, .inr (4, [.int 0, .ref mc, .ref mw, .ref mz, .ref mv, .ref mp, .ref mh])), (mc, .inl (gI G, 4, .inl (kz_z (kz_un cs (jj + 1) (cs 0))))), (mw, .inl (gJ G, 480, .inr (.inl (kf_cq mW (120 * (jj + 1)) (ii + 1))))), (mz, .inl (gI G, 480, .inl (kz_z (kf_cq mZ (120 * (jj + 1)) (ii + 1))))), (mv, .inl (gI G, 480, .inl (kf_cq mV (120 * (jj + 1)) (ii + 1)))), (mp, .inl (gZ G, 3, .inl (kz_bo (kz_ub po jj true)))), (mh, .inl (gI G, 3, .inl (kz_pw (kz_un pw jj 0))))] H; rw [e1, e2, e3]; exact hP) (by show va_D A [(mo, .inr (4, [.int 0, .ref mc, .ref mw, .ref mz, .ref mv, .ref mp, .ref mh])), (mc, .inl (gI G, 4, .inl (kz_z (kz_un cs (jj + 1) (cs 0))))), (mw, .inl (gJ G, 480, .inr (.inl (kf_cq mW (120 * (jj + 1)) (ii + 1))))), (mz, .inl (gI G, 480, .inl (kz_z (kf_cq mZ (120 * (jj + 1)) (ii + 1))))), (mv, .inl (gI G, 480, .inl (kf_cq mV (120 * (jj + 1)) (ii + 1)))), (mp, .inl (gZ G, 3, .inl (kz_bo (kz_ub po jj true)))), (mh, .inl (gI G, 3, .inl (kz_pw (kz_un pw jj 0))))]; rw [e1, e2, e3]; exact hD) hS
      · have kc_3 : po jj = true := by
          cases h9 : po jj
          · exact absurd (by rw [h9]; rfl) c_3
          · rfl
        refine lv_iconst (v := 0) hx hb dX4_open_23 (by decide) ?_
        exact W.zret (v := 0) hx hb hr rfl (fun t ht hW => ⟨⟨_, ([(mo, .inr (4, [.int 0, .ref mc, .ref mw, .ref mz, .ref mv, .ref mp, .ref mh])), (mc, .inl (gI G, 4, .inl (kz_z cs))), (mw, .inl (gJ G, 480, .inr (.inl mW))), (mz, .inl (gI G, 480, .inl (kz_z mZ))), (mv, .inl (gI G, 480, .inl mV)), (mp, .inl (gZ G, 3, .inl (kz_bo po))), (mh, .inl (gI G, 3, .inl (kz_pw pw)))] : va_W), rfl, (Or.inr ⟨fun j9 hj9 h => by rw [← (nI_eq (by omega) (by omega)).mp h]; exact kc_3, rfl, rfl⟩), by rw [← ht] at hP; exact hP⟩, hS.F ht⟩) hS.2.2 dX4_open_24

set_option maxHeartbeats 4000000 in
set_option maxRecDepth 100000 in
theorem c_X4_close (l : Launch) (G : kz_G) (mo mc mw mz mv mp mh : Nat) (tv : Int32) (cs : Nat → Nat) (mW : Nat → Int64) (mZ : Nat → Nat) (mV : Nat → Int32) (po : Nat → Bool) (pw : Nat → Nat) (rr : Int32) (sz : Nat) : Met l yX4_close wsX4_close { frames := 1, cells := 0, slots := 0, locals := 21 } (kz_Pm G [.ref mo, .int rr] [(mo, .inr (4, [.int tv, .ref mc, .ref mw, .ref mz, .ref mv, .ref mp, .ref mh])), (mc, .inl (gI G, 4, .inl (kz_z cs))), (mw, .inl (gJ G, 480, .inr (.inl mW))), (mz, .inl (gI G, 480, .inl (kz_z mZ))), (mv, .inl (gI G, 480, .inl mV)), (mp, .inl (gZ G, 3, .inl (kz_bo po))), (mh, .inl (gI G, 3, .inl (kz_pw pw)))] sz) (kz_Qi G (fun r w => (∃ jj : Nat, jj < 3 ∧ rr = nI jj ∧ po jj = true ∧ r = 1 ∧ w = [(mo, .inr (4, [.int 0, .ref mc, .ref mw, .ref mz, .ref mv, .ref mp, .ref mh])), (mc, .inl (gI G, 4, .inl (kz_z cs))), (mw, .inl (gJ G, 480, .inr (.inl mW))), (mz, .inl (gI G, 480, .inl (kz_z mZ))), (mv, .inl (gI G, 480, .inl mV)), (mp, .inl (gZ G, 3, .inl (kz_bo (kz_ub po jj false)))), (mh, .inl (gI G, 3, .inl (kz_pw pw)))]) ∨ (kf_mop po rr = false ∧ r = 0 ∧ w = [(mo, .inr (4, [.int 0, .ref mc, .ref mw, .ref mz, .ref mv, .ref mp, .ref mh])), (mc, .inl (gI G, 4, .inl (kz_z cs))), (mw, .inl (gJ G, 480, .inr (.inl mW))), (mz, .inl (gI G, 480, .inl (kz_z mZ))), (mv, .inl (gI G, 480, .inl mV)), (mp, .inl (gZ G, 3, .inl (kz_bo po))), (mh, .inl (gI G, 3, .inl (kz_pw pw)))])) (va_A [(mo, .inr (4, [.int tv, .ref mc, .ref mw, .ref mz, .ref mv, .ref mp, .ref mh])), (mc, .inl (gI G, 4, .inl (kz_z cs))), (mw, .inl (gJ G, 480, .inr (.inl mW))), (mz, .inl (gI G, 480, .inl (kz_z mZ))), (mv, .inl (gI G, 480, .inl mV)), (mp, .inl (gZ G, 3, .inl (kz_bo po))), (mh, .inl (gI G, 3, .inl (kz_pw pw)))] sz)) 0 0 (va_A [(mo, .inr (4, [.int tv, .ref mc, .ref mw, .ref mz, .ref mv, .ref mp, .ref mh])), (mc, .inl (gI G, 4, .inl (kz_z cs))), (mw, .inl (gJ G, 480, .inr (.inl mW))), (mz, .inl (gI G, 480, .inl (kz_z mZ))), (mv, .inl (gI G, 480, .inl mV)), (mp, .inl (gZ G, 3, .inl (kz_bo po))), (mh, .inl (gI G, 3, .inl (kz_pw pw)))] sz) := by
  refine Met.ofW (cc := cX4_close) (maxL := 3) (ret := (some .boolean)) (by decide) rfl ?_
  intro p e s m args below meth c s₁ B hml hv
  obtain ⟨rfl, hsz, hP, hK, hD0⟩ := hv
  have hx := B.exec
  have hb := B.bytes
  have hr := B.returns
  have hts := atoms_spec (ws := wsX4_close) B.pre
  have hown : s.vm.findClass RX4 = some m.cls := findClass_of_methodNamed B.named
  have hlocks := B.notSynchronized
  have hinX4 : ∀ w ∈ wsX40, w ∈ wsX4_close := by decide +kernel
  subst hsz
  have hD := hD0.self (sz := s.heap.size)
  generalize hAe : va_A [(mo, .inr (4, [.int tv, .ref mc, .ref mw, .ref mz, .ref mv, .ref mp, .ref mh])), (mc, .inl (gI G, 4, .inl (kz_z cs))), (mw, .inl (gJ G, 480, .inr (.inl mW))), (mz, .inl (gI G, 480, .inl (kz_z mZ))), (mv, .inl (gI G, 480, .inl mV)), (mp, .inl (gZ G, 3, .inl (kz_bo po))), (mh, .inl (gI G, 3, .inl (kz_pw pw)))] s.heap.size = A at hD ⊢
  have hA : ∀ q : Nat, s.heap.size ≤ q → A q := fun q h => by rw [← hAe]; exact Or.inr h
  have hS : va_S A s.heap s.heap [] := va_S.rf
  have hP : va_P G.1 vwCl [(mo, .inr (4, [.int tv, .ref mc, .ref mw, .ref mz, .ref mv, .ref mp, .ref mh])), (mc, .inl (gI G, 4, .inl (kz_z cs))), (mw, .inl (gJ G, 480, .inr (.inl mW))), (mz, .inl (gI G, 480, .inl (kz_z mZ))), (mv, .inl (gI G, 480, .inl mV)), (mp, .inl (gZ G, 3, .inl (kz_bo po))), (mh, .inl (gI G, 3, .inl (kz_pw pw)))] s.heap := hP
  have hl := lv_entry ([.ref mo, .int rr]) (n := 3) (Nat.le_of_ble_eq_true rfl)
  rw [lg_entry_eq]
  generalize (lg_sl ([.ref mo, .int rr]) ++ List.replicate (3 - (lg_sl ([.ref mo, .int rr])).length) Slot.unset).toArray = ls at hl ⊢
  have hl : lv_has ls 3 [(0, .ref mo), (1, .int rr)] := hl
  refine lv_aload_n hx hb dX4_close_0 rfl (lv_at hl 0 rfl) ?_
  refine lv_iconst (v := 0) hx hb dX4_close_1 (by decide) ?_
  refine va_put (D := G.1) (ci := 4) (v := .int 0) (ty := .int) (C := RX4) (T := TX4) (N := 7) hx hb hts hinX4 tyX4 tyX4_ok nmX4 hown hK.1 hP hD hS 0 rfl rfl 0 (by decide) (hts (.fieldLink RX4 30 "ForkStoreModel" "thrown" "I") (by decide +kernel)) (fun _ h9 => h9) rfl (by decide +kernel) rfl rfl (Nat.le_of_ble_eq_true rfl) dX4_close_2 (fun H locs hP hD hS => ?_)
  have hP : va_P G.1 vwCl [(mo, .inr (4, [.int 0, .ref mc, .ref mw, .ref mz, .ref mv, .ref mp, .ref mh])), (mc, .inl (gI G, 4, .inl (kz_z cs))), (mw, .inl (gJ G, 480, .inr (.inl mW))), (mz, .inl (gI G, 480, .inl (kz_z mZ))), (mv, .inl (gI G, 480, .inl mV)), (mp, .inl (gZ G, 3, .inl (kz_bo po))), (mh, .inl (gI G, 3, .inl (kz_pw pw)))] H := hP
  have hD : va_D A [(mo, .inr (4, [.int 0, .ref mc, .ref mw, .ref mz, .ref mv, .ref mp, .ref mh])), (mc, .inl (gI G, 4, .inl (kz_z cs))), (mw, .inl (gJ G, 480, .inr (.inl mW))), (mz, .inl (gI G, 480, .inl (kz_z mZ))), (mv, .inl (gI G, 480, .inl mV)), (mp, .inl (gZ G, 3, .inl (kz_bo po))), (mh, .inl (gI G, 3, .inl (kz_pw pw)))] := hD
  refine lv_aload_n hx hb dX4_close_5 rfl (lv_at hl 0 rfl) ?_
  refine lv_iload_n hx hb dX4_close_6 rfl (lv_at hl 1 rfl) ?_
  have hPc := hP.sub (ws' := [(mo, .inr (4, [.int 0, .ref mc, .ref mw, .ref mz, .ref mv, .ref mp, .ref mh])), (mc, .inl (gI G, 4, .inl (kz_z cs))), (mw, .inl (gJ G, 480, .inr (.inl mW))), (mz, .inl (gI G, 480, .inl (kz_z mZ))), (mv, .inl (gI G, 480, .inl mV)), (mp, .inl (gZ G, 3, .inl (kz_bo po))), (mh, .inl (gI G, 3, .inl (kz_pw pw)))]) [0, 1, 2, 3, 4, 5, 6] rfl
  refine kz_ci (v := kf_b (kf_mop po rr)) (va_runV (As := [.int rr]) (rest := []) ⟨hx, hb, hml, hown, hts⟩ (c_X4_isOpen l G mo mc mw mz mv mp mh 0 cs mW mZ mV po pw rr ) (cwV 1 hts gX4_close_X4_isOpen rfl rfl rfl (by decide +kernel) ⟨Nat.le_of_ble_eq_true rfl, Nat.le_of_ble_eq_true rfl⟩) (kz_pv hK hPc (va_recv hK.1 hPc (ci := 4) (q0 := 0) rfl rfl)) rfl rfl hl.1 rfl (lv_room (Nat.le_of_ble_eq_true rfl)) dX4_close_7 ⟨Nat.zero_le _, Nat.zero_le _⟩).run ?_
  refine lv_istore_n (lv' := [(2, .int (kf_b (kf_mop po rr))), (0, .ref mo), (1, .int rr)]) hx hb dX4_close_10 rfl hl (by decide) rfl (fun ls hl => ?_)
  refine lv_iload_n hx hb dX4_close_11 rfl (lv_at hl 0 rfl) ?_
  refine lv_if_eq (tgt := 22) hx hb dX4_close_12 (by decide) (fun c_1 => ?_) (fun c_1 => ?_)
  · have kc_1 : kf_mop po rr = false := kf_b_0.mp c_1
    refine lv_iload_n hx hb dX4_close_22 rfl (lv_at hl 0 rfl) ?_
    exact W.zret (v := kf_b (kf_mop po rr)) hx hb hr (kf_b_nar _) (fun t ht hW => ⟨⟨_, ([(mo, .inr (4, [.int 0, .ref mc, .ref mw, .ref mz, .ref mv, .ref mp, .ref mh])), (mc, .inl (gI G, 4, .inl (kz_z cs))), (mw, .inl (gJ G, 480, .inr (.inl mW))), (mz, .inl (gI G, 480, .inl (kz_z mZ))), (mv, .inl (gI G, 480, .inl mV)), (mp, .inl (gZ G, 3, .inl (kz_bo po))), (mh, .inl (gI G, 3, .inl (kz_pw pw)))] : va_W), rfl, (Or.inr ⟨kc_1, by rw [kc_1]; rfl, rfl⟩), by rw [← ht] at hP; exact hP⟩, hS.F ht⟩) hS.2.2 dX4_close_23
  · have kc_1 : kf_mop po rr = true := by
      cases h9 : kf_mop po rr
      · exact absurd (by rw [h9]; rfl) c_1
      · rfl
    obtain ⟨jj, hjj, rfl, hpo⟩ := kf_mop_t kc_1
    refine lv_aload_n hx hb dX4_close_15 rfl (lv_at hl 1 rfl) ?_
    refine va_get (D := G.1) (ci := 4) (v := .ref mp) (C := RX4) (T := TX4) (N := 7) hx hb hts hinX4 hown hK.1 hP 0 rfl rfl 5 (by decide) (hts (.fieldLink RX4 23 "ForkStoreModel" "open" "[Z") (by decide +kernel)) (fun _ h9 => h9) rfl dX4_close_16 ?_
    refine lv_iload_n hx hb dX4_close_19 rfl (lv_at hl 2 rfl) ?_
    refine lv_iconst (v := 0) hx hb dX4_close_20 (by decide) ?_
    refine kz_zast hx hb hK.1 hP hD hS 5 2 rfl rfl (k := jj) (by omega) (by decide) rfl dX4_close_21 (fun H locs hP hD hS => ?_)
    have hP : va_P G.1 vwCl [(mo, .inr (4, [.int 0, .ref mc, .ref mw, .ref mz, .ref mv, .ref mp, .ref mh])), (mc, .inl (gI G, 4, .inl (kz_z cs))), (mw, .inl (gJ G, 480, .inr (.inl mW))), (mz, .inl (gI G, 480, .inl (kz_z mZ))), (mv, .inl (gI G, 480, .inl mV)), (mp, .inl (gZ G, 3, .inl (upd (kz_bo po) jj 0))), (mh, .inl (gI G, 3, .inl (kz_pw pw)))] H := hP
    have hD : va_D A [(mo, .inr (4, [.int 0, .ref mc, .ref mw, .ref mz, .ref mv, .ref mp, .ref mh])), (mc, .inl (gI G, 4, .inl (kz_z cs))), (mw, .inl (gJ G, 480, .inr (.inl mW))), (mz, .inl (gI G, 480, .inl (kz_z mZ))), (mv, .inl (gI G, 480, .inl mV)), (mp, .inl (gZ G, 3, .inl (upd (kz_bo po) jj 0))), (mh, .inl (gI G, 3, .inl (kz_pw pw)))] := hD
    rw [show upd (kz_bo po) jj 0 = kz_bo (kz_ub po jj false) from (kz_bu _ _ false).symm] at hP hD
    have hP : va_P G.1 vwCl [(mo, .inr (4, [.int 0, .ref mc, .ref mw, .ref mz, .ref mv, .ref mp, .ref mh])), (mc, .inl (gI G, 4, .inl (kz_z cs))), (mw, .inl (gJ G, 480, .inr (.inl mW))), (mz, .inl (gI G, 480, .inl (kz_z mZ))), (mv, .inl (gI G, 480, .inl mV)), (mp, .inl (gZ G, 3, .inl (kz_bo (kz_ub po jj false)))), (mh, .inl (gI G, 3, .inl (kz_pw pw)))] H := hP
    have hD : va_D A [(mo, .inr (4, [.int 0, .ref mc, .ref mw, .ref mz, .ref mv, .ref mp, .ref mh])), (mc, .inl (gI G, 4, .inl (kz_z cs))), (mw, .inl (gJ G, 480, .inr (.inl mW))), (mz, .inl (gI G, 480, .inl (kz_z mZ))), (mv, .inl (gI G, 480, .inl mV)), (mp, .inl (gZ G, 3, .inl (kz_bo (kz_ub po jj false)))), (mh, .inl (gI G, 3, .inl (kz_pw pw)))] := hD
    refine lv_iload_n hx hb dX4_close_22 rfl (lv_at hl 0 rfl) ?_
    exact W.zret (v := kf_b (kf_mop po (nI jj))) hx hb hr (kf_b_nar _) (fun t ht hW => ⟨⟨_, ([(mo, .inr (4, [.int 0, .ref mc, .ref mw, .ref mz, .ref mv, .ref mp, .ref mh])), (mc, .inl (gI G, 4, .inl (kz_z cs))), (mw, .inl (gJ G, 480, .inr (.inl mW))), (mz, .inl (gI G, 480, .inl (kz_z mZ))), (mv, .inl (gI G, 480, .inl mV)), (mp, .inl (gZ G, 3, .inl (kz_bo (kz_ub po jj false)))), (mh, .inl (gI G, 3, .inl (kz_pw pw)))] : va_W), rfl, (Or.inl ⟨jj, hjj, rfl, hpo, by rw [kc_1]; rfl, rfl⟩), by rw [← ht] at hP; exact hP⟩, hS.F ht⟩) hS.2.2 dX4_close_23

set_option maxHeartbeats 4000000 in
set_option maxRecDepth 100000 in
theorem c_X4_seek (l : Launch) (G : kz_G) (mo mc mw mz mv mp mh : Nat) (tv : Int32) (cs : Nat → Nat) (mW : Nat → Int64) (mZ : Nat → Nat) (mV : Nat → Int32) (po : Nat → Bool) (pw : Nat → Nat) (rr : Int32) (ww : Int64) (nv : Int32) (sz : Nat) (hcs : ∀ j, cs j ≤ 120) (hmz : ∀ j, mZ j ≤ 8) : Met l yX4_seek wsX4_seek { frames := 2, cells := 0, slots := 0, locals := 51 } (kz_Pm G [.ref mo, .int rr, .long ww, .int nv] [(mo, .inr (4, [.int tv, .ref mc, .ref mw, .ref mz, .ref mv, .ref mp, .ref mh])), (mc, .inl (gI G, 4, .inl (kz_z cs))), (mw, .inl (gJ G, 480, .inr (.inl mW))), (mz, .inl (gI G, 480, .inl (kz_z mZ))), (mv, .inl (gI G, 480, .inl mV)), (mp, .inl (gZ G, 3, .inl (kz_bo po))), (mh, .inl (gI G, 3, .inl (kz_pw pw)))] sz) (kz_Qi G (fun r w => (¬ (0 ≤ nv ∧ nv ≤ 8) ∧ r = 0 ∧ w = [(mo, .inr (4, [.int 1, .ref mc, .ref mw, .ref mz, .ref mv, .ref mp, .ref mh])), (mc, .inl (gI G, 4, .inl (kz_z cs))), (mw, .inl (gJ G, 480, .inr (.inl mW))), (mz, .inl (gI G, 480, .inl (kz_z mZ))), (mv, .inl (gI G, 480, .inl mV)), (mp, .inl (gZ G, 3, .inl (kz_bo po))), (mh, .inl (gI G, 3, .inl (kz_pw pw)))]) ∨ (∃ zz : Nat, zz ≤ 8 ∧ nv = nI zz ∧ kf_mop po rr = false ∧ r = 0 ∧ w = [(mo, .inr (4, [.int 2, .ref mc, .ref mw, .ref mz, .ref mv, .ref mp, .ref mh])), (mc, .inl (gI G, 4, .inl (kz_z cs))), (mw, .inl (gJ G, 480, .inr (.inl mW))), (mz, .inl (gI G, 480, .inl (kz_z mZ))), (mv, .inl (gI G, 480, .inl mV)), (mp, .inl (gZ G, 3, .inl (kz_bo po))), (mh, .inl (gI G, 3, .inl (kz_pw pw)))]) ∨ (∃ zz : Nat, zz ≤ 8 ∧ nv = nI zz ∧ ∃ jj : Nat, jj < 3 ∧ rr = nI jj ∧ po jj = true ∧ r = (if (kf_cb (kf_row mW (jj + 1)) (kf_row mZ (jj + 1)) (kf_cut ww zz) zz (cs (jj + 1))) < cs (jj + 1) then 1 else 0) ∧ w = [(mo, .inr (4, [.int 0, .ref mc, .ref mw, .ref mz, .ref mv, .ref mp, .ref mh])), (mc, .inl (gI G, 4, .inl (kz_z cs))), (mw, .inl (gJ G, 480, .inr (.inl mW))), (mz, .inl (gI G, 480, .inl (kz_z mZ))), (mv, .inl (gI G, 480, .inl mV)), (mp, .inl (gZ G, 3, .inl (kz_bo po))), (mh, .inl (gI G, 3, .inl (kz_pw (kz_un pw jj ((kf_cb (kf_row mW (jj + 1)) (kf_row mZ (jj + 1)) (kf_cut ww zz) zz (cs (jj + 1))) + 1)))))])) (va_A [(mo, .inr (4, [.int tv, .ref mc, .ref mw, .ref mz, .ref mv, .ref mp, .ref mh])), (mc, .inl (gI G, 4, .inl (kz_z cs))), (mw, .inl (gJ G, 480, .inr (.inl mW))), (mz, .inl (gI G, 480, .inl (kz_z mZ))), (mv, .inl (gI G, 480, .inl mV)), (mp, .inl (gZ G, 3, .inl (kz_bo po))), (mh, .inl (gI G, 3, .inl (kz_pw pw)))] sz)) 0 0 (va_A [(mo, .inr (4, [.int tv, .ref mc, .ref mw, .ref mz, .ref mv, .ref mp, .ref mh])), (mc, .inl (gI G, 4, .inl (kz_z cs))), (mw, .inl (gJ G, 480, .inr (.inl mW))), (mz, .inl (gI G, 480, .inl (kz_z mZ))), (mv, .inl (gI G, 480, .inl mV)), (mp, .inl (gZ G, 3, .inl (kz_bo po))), (mh, .inl (gI G, 3, .inl (kz_pw pw)))] sz) := by
  refine Met.ofW (cc := cX4_seek) (maxL := 5) (ret := (some .boolean)) (by decide) rfl ?_
  intro p e s m args below meth c s₁ B hml hv
  obtain ⟨rfl, hsz, hP, hK, hD0⟩ := hv
  have hx := B.exec
  have hb := B.bytes
  have hr := B.returns
  have hts := atoms_spec (ws := wsX4_seek) B.pre
  have hown : s.vm.findClass RX4 = some m.cls := findClass_of_methodNamed B.named
  have hlocks := B.notSynchronized
  have hinX4 : ∀ w ∈ wsX40, w ∈ wsX4_seek := by decide +kernel
  subst hsz
  have hD := hD0.self (sz := s.heap.size)
  generalize hAe : va_A [(mo, .inr (4, [.int tv, .ref mc, .ref mw, .ref mz, .ref mv, .ref mp, .ref mh])), (mc, .inl (gI G, 4, .inl (kz_z cs))), (mw, .inl (gJ G, 480, .inr (.inl mW))), (mz, .inl (gI G, 480, .inl (kz_z mZ))), (mv, .inl (gI G, 480, .inl mV)), (mp, .inl (gZ G, 3, .inl (kz_bo po))), (mh, .inl (gI G, 3, .inl (kz_pw pw)))] s.heap.size = A at hD ⊢
  have hA : ∀ q : Nat, s.heap.size ≤ q → A q := fun q h => by rw [← hAe]; exact Or.inr h
  have hS : va_S A s.heap s.heap [] := va_S.rf
  have hP : va_P G.1 vwCl [(mo, .inr (4, [.int tv, .ref mc, .ref mw, .ref mz, .ref mv, .ref mp, .ref mh])), (mc, .inl (gI G, 4, .inl (kz_z cs))), (mw, .inl (gJ G, 480, .inr (.inl mW))), (mz, .inl (gI G, 480, .inl (kz_z mZ))), (mv, .inl (gI G, 480, .inl mV)), (mp, .inl (gZ G, 3, .inl (kz_bo po))), (mh, .inl (gI G, 3, .inl (kz_pw pw)))] s.heap := hP
  have hl := lv_entry ([.ref mo, .int rr, .long ww, .int nv]) (n := 5) (Nat.le_of_ble_eq_true rfl)
  rw [lg_entry_eq]
  generalize (lg_sl ([.ref mo, .int rr, .long ww, .int nv]) ++ List.replicate (5 - (lg_sl ([.ref mo, .int rr, .long ww, .int nv])).length) Slot.unset).toArray = ls at hl ⊢
  have hl : lv_has ls 5 [(0, .ref mo), (1, .int rr), (2, .long ww), (4, .int nv)] := hl
  rcases kf_okc nv with ⟨zz, hzz, rfl⟩ | hno
  · have hl : lv_has ls 5 [(0, .ref mo), (1, .int rr), (2, .long ww), (4, .int (nI zz))] := hl
    refine lv_aload_n hx hb dX4_seek_0 rfl (lv_at hl 0 rfl) ?_
    refine lv_iload hx hb dX4_seek_1 (lv_at hl 3 rfl) ?_
    refine lv_if_lt (tgt := 13) hx hb dX4_seek_3 (by decide) (fun c_1 => ?_) (fun c_1 => ?_)
    · exact absurd c_1 (nI_pos (by omega))
    · refine lv_iload hx hb dX4_seek_6 (lv_at hl 3 rfl) ?_
      refine lv_bipush (v := 8) hx hb dX4_seek_8 (by decide) ?_
      refine lv_icmp_le (tgt := 17) hx hb dX4_seek_10 (by decide) (fun c_2 => ?_) (fun c_2 => ?_)
      · refine lv_aload_n hx hb dX4_seek_17 rfl (lv_at hl 0 rfl) ?_
        refine lv_iload_n hx hb dX4_seek_18 rfl (lv_at hl 1 rfl) ?_
        have hPc := hP.sub (ws' := [(mo, .inr (4, [.int tv, .ref mc, .ref mw, .ref mz, .ref mv, .ref mp, .ref mh])), (mc, .inl (gI G, 4, .inl (kz_z cs))), (mw, .inl (gJ G, 480, .inr (.inl mW))), (mz, .inl (gI G, 480, .inl (kz_z mZ))), (mv, .inl (gI G, 480, .inl mV)), (mp, .inl (gZ G, 3, .inl (kz_bo po))), (mh, .inl (gI G, 3, .inl (kz_pw pw)))]) [0, 1, 2, 3, 4, 5, 6] rfl
        refine kz_ci (v := kf_b (kf_mop po rr)) (va_runV (As := [.int rr]) (rest := [.ref mo]) ⟨hx, hb, hml, hown, hts⟩ (c_X4_isOpen l G mo mc mw mz mv mp mh tv cs mW mZ mV po pw rr ) (cwV 1 hts gX4_seek_X4_isOpen rfl rfl rfl (by decide +kernel) ⟨Nat.le_of_ble_eq_true rfl, Nat.le_of_ble_eq_true rfl⟩) (kz_pv hK hPc (va_recv hK.1 hPc (ci := 4) (q0 := 0) rfl rfl)) rfl rfl hl.1 rfl (lv_room (Nat.le_of_ble_eq_true rfl)) dX4_seek_19 ⟨Nat.zero_le _, Nat.zero_le _⟩).run ?_
        refine lv_if_eq (tgt := 29) hx hb dX4_seek_22 (by decide) (fun c_3 => ?_) (fun c_3 => ?_)
        · have kc_3 : kf_mop po rr = false := kf_b_0.mp c_3
          refine lv_iconst (v := 2) hx hb dX4_seek_29 (by decide) ?_
          refine va_put (D := G.1) (ci := 4) (v := .int 2) (ty := .int) (C := RX4) (T := TX4) (N := 7) hx hb hts hinX4 tyX4 tyX4_ok nmX4 hown hK.1 hP hD hS 0 rfl rfl 0 (by decide) (hts (.fieldLink RX4 30 "ForkStoreModel" "thrown" "I") (by decide +kernel)) (fun _ h9 => h9) rfl (by decide +kernel) rfl rfl (Nat.le_of_ble_eq_true rfl) dX4_seek_30 (fun H locs hP hD hS => ?_)
          have hP : va_P G.1 vwCl [(mo, .inr (4, [.int 2, .ref mc, .ref mw, .ref mz, .ref mv, .ref mp, .ref mh])), (mc, .inl (gI G, 4, .inl (kz_z cs))), (mw, .inl (gJ G, 480, .inr (.inl mW))), (mz, .inl (gI G, 480, .inl (kz_z mZ))), (mv, .inl (gI G, 480, .inl mV)), (mp, .inl (gZ G, 3, .inl (kz_bo po))), (mh, .inl (gI G, 3, .inl (kz_pw pw)))] H := hP
          have hD : va_D A [(mo, .inr (4, [.int 2, .ref mc, .ref mw, .ref mz, .ref mv, .ref mp, .ref mh])), (mc, .inl (gI G, 4, .inl (kz_z cs))), (mw, .inl (gJ G, 480, .inr (.inl mW))), (mz, .inl (gI G, 480, .inl (kz_z mZ))), (mv, .inl (gI G, 480, .inl mV)), (mp, .inl (gZ G, 3, .inl (kz_bo po))), (mh, .inl (gI G, 3, .inl (kz_pw pw)))] := hD
          refine lv_aload_n hx hb dX4_seek_33 rfl (lv_at hl 0 rfl) ?_
          refine va_get (D := G.1) (ci := 4) (v := .int 2) (C := RX4) (T := TX4) (N := 7) hx hb hts hinX4 hown hK.1 hP 0 rfl rfl 0 (by decide) (hts (.fieldLink RX4 30 "ForkStoreModel" "thrown" "I") (by decide +kernel)) (fun _ h9 => h9) rfl dX4_seek_34 ?_
          refine lv_if_le (tgt := 42) hx hb dX4_seek_37 (by decide) (fun c_4 => ?_) (fun c_4 => ?_)
          · exact absurd c_4 (by decide)
          · refine lv_iconst (v := 0) hx hb dX4_seek_40 (by decide) ?_
            exact W.zret (v := 0) hx hb hr rfl (fun t ht hW => ⟨⟨_, ([(mo, .inr (4, [.int 2, .ref mc, .ref mw, .ref mz, .ref mv, .ref mp, .ref mh])), (mc, .inl (gI G, 4, .inl (kz_z cs))), (mw, .inl (gJ G, 480, .inr (.inl mW))), (mz, .inl (gI G, 480, .inl (kz_z mZ))), (mv, .inl (gI G, 480, .inl mV)), (mp, .inl (gZ G, 3, .inl (kz_bo po))), (mh, .inl (gI G, 3, .inl (kz_pw pw)))] : va_W), rfl, (Or.inr (Or.inl ⟨zz, hzz, rfl, kc_3, rfl, rfl⟩)), by rw [← ht] at hP; exact hP⟩, hS.F ht⟩) hS.2.2 dX4_seek_41
        · have kc_3 : kf_mop po rr = true := by
            cases h9 : kf_mop po rr
            · exact absurd (by rw [h9]; rfl) c_3
            · rfl
          obtain ⟨jj, hjj, rfl, hpo⟩ := kf_mop_t kc_3
          refine lv_iconst (v := 0) hx hb dX4_seek_25 (by decide) ?_
          refine lv_goto (tgt := 30) hx hb dX4_seek_26 (by decide) ?_
          refine va_put (D := G.1) (ci := 4) (v := .int 0) (ty := .int) (C := RX4) (T := TX4) (N := 7) hx hb hts hinX4 tyX4 tyX4_ok nmX4 hown hK.1 hP hD hS 0 rfl rfl 0 (by decide) (hts (.fieldLink RX4 30 "ForkStoreModel" "thrown" "I") (by decide +kernel)) (fun _ h9 => h9) rfl (by decide +kernel) rfl rfl (Nat.le_of_ble_eq_true rfl) dX4_seek_30 (fun H locs hP hD hS => ?_)
          have hP : va_P G.1 vwCl [(mo, .inr (4, [.int 0, .ref mc, .ref mw, .ref mz, .ref mv, .ref mp, .ref mh])), (mc, .inl (gI G, 4, .inl (kz_z cs))), (mw, .inl (gJ G, 480, .inr (.inl mW))), (mz, .inl (gI G, 480, .inl (kz_z mZ))), (mv, .inl (gI G, 480, .inl mV)), (mp, .inl (gZ G, 3, .inl (kz_bo po))), (mh, .inl (gI G, 3, .inl (kz_pw pw)))] H := hP
          have hD : va_D A [(mo, .inr (4, [.int 0, .ref mc, .ref mw, .ref mz, .ref mv, .ref mp, .ref mh])), (mc, .inl (gI G, 4, .inl (kz_z cs))), (mw, .inl (gJ G, 480, .inr (.inl mW))), (mz, .inl (gI G, 480, .inl (kz_z mZ))), (mv, .inl (gI G, 480, .inl mV)), (mp, .inl (gZ G, 3, .inl (kz_bo po))), (mh, .inl (gI G, 3, .inl (kz_pw pw)))] := hD
          refine lv_aload_n hx hb dX4_seek_33 rfl (lv_at hl 0 rfl) ?_
          refine va_get (D := G.1) (ci := 4) (v := .int 0) (C := RX4) (T := TX4) (N := 7) hx hb hts hinX4 hown hK.1 hP 0 rfl rfl 0 (by decide) (hts (.fieldLink RX4 30 "ForkStoreModel" "thrown" "I") (by decide +kernel)) (fun _ h9 => h9) rfl dX4_seek_34 ?_
          refine lv_if_le (tgt := 42) hx hb dX4_seek_37 (by decide) (fun c_5 => ?_) (fun c_5 => ?_)
          · refine lv_aload_n hx hb dX4_seek_42 rfl (lv_at hl 0 rfl) ?_
            refine va_get (D := G.1) (ci := 4) (v := .ref mh) (C := RX4) (T := TX4) (N := 7) hx hb hts hinX4 hown hK.1 hP 0 rfl rfl 6 (by decide) (hts (.fieldLink RX4 27 "ForkStoreModel" "where" "[I") (by decide +kernel)) (fun _ h9 => h9) rfl dX4_seek_43 ?_
            refine lv_iload_n hx hb dX4_seek_46 rfl (lv_at hl 1 rfl) ?_
            refine lv_aload_n hx hb dX4_seek_47 rfl (lv_at hl 0 rfl) ?_
            refine lv_iload_n hx hb dX4_seek_48 rfl (lv_at hl 1 rfl) ?_
            refine lv_iconst (v := 1) hx hb dX4_seek_49 (by decide) ?_
            refine lv_iadd hx hb dX4_seek_50 ?_
            have hcj := hcs (jj + 1)
            have hcb := kf_cb_le (kf_row mW (jj + 1)) (kf_row mZ (jj + 1)) (kf_cut ww zz) zz (cs (jj + 1))
            refine kz_asi (y := nI (jj + 1)) (nI_1 jj) ?_
            refine lv_lload_n hx hb dX4_seek_51 rfl (lv_at hl 2 rfl) ?_
            refine lv_iload hx hb dX4_seek_52 (lv_at hl 3 rfl) ?_
            refine kz_cl (v := kf_cut ww zz) (va_runS (As := [.long ww, .int (nI zz)]) (rest := [.int (nI (jj + 1)), .ref mo, .int (nI jj), .ref mh]) ⟨hx, hb, hml, hown, hts⟩ (c_X4_cut l ww zz (by omega)) (va_cwS 2 hts gX4_seek_X4_cut rfl rfl rfl (by decide +kernel) ⟨Nat.le_of_ble_eq_true rfl, Nat.le_of_ble_eq_true rfl⟩) kz_ps0 rfl rfl hl.1 rfl (lv_room (Nat.le_of_ble_eq_true rfl)) dX4_seek_54 ⟨Nat.zero_le _, Nat.zero_le _⟩).run ?_
            refine lv_iload hx hb dX4_seek_57 (lv_at hl 3 rfl) ?_
            have hPc := hP.sub (ws' := [(mo, .inr (4, [.int 0, .ref mc, .ref mw, .ref mz, .ref mv, .ref mp, .ref mh])), (mc, .inl (gI G, 4, .inl (kz_z cs))), (mw, .inl (gJ G, 480, .inr (.inl mW))), (mz, .inl (gI G, 480, .inl (kz_z mZ))), (mv, .inl (gI G, 480, .inl mV)), (mp, .inl (gZ G, 3, .inl (kz_bo po))), (mh, .inl (gI G, 3, .inl (kz_pw pw)))]) [0, 1, 2, 3, 4, 5, 6] rfl
            refine kz_ci (v := nI (120 * (jj + 1) + kf_cb (kf_row mW (jj + 1)) (kf_row mZ (jj + 1)) (kf_cut ww zz) zz (cs (jj + 1)))) (va_runV (As := [.int (nI (jj + 1)), .long (kf_cut ww zz), .int (nI zz)]) (rest := [.int (nI jj), .ref mh]) ⟨hx, hb, hml, hown, hts⟩ (c_X4_place l G mo mc mw mz mv mp mh 0 cs mW mZ mV po pw (jj + 1) (kf_cut ww zz) zz hcs hmz (by omega) (by omega)) (cwV 3 hts gX4_seek_X4_place rfl rfl rfl (by decide +kernel) ⟨Nat.le_of_ble_eq_true rfl, Nat.le_of_ble_eq_true rfl⟩) (kz_pv hK hPc (va_recv hK.1 hPc (ci := 4) (q0 := 0) rfl rfl)) rfl rfl hl.1 rfl (lv_room (Nat.le_of_ble_eq_true rfl)) dX4_seek_59 ⟨Nat.zero_le _, Nat.zero_le _⟩).run ?_
            refine lv_bipush (v := 120) hx hb dX4_seek_62 (by decide) ?_
            refine lv_iload_n hx hb dX4_seek_64 rfl (lv_at hl 1 rfl) ?_
            refine lv_iconst (v := 1) hx hb dX4_seek_65 (by decide) ?_
            refine lv_iadd hx hb dX4_seek_66 ?_
            refine kz_asi (y := nI (jj + 1)) (nI_1 jj) ?_
            refine lv_imul hx hb dX4_seek_67 ?_
            refine kz_asi (y := nI (120 * (jj + 1))) (pk_mul 120 (jj + 1)) ?_
            refine lv_isub hx hb dX4_seek_68 ?_
            refine kz_asi (y := kf_p ((kf_cb (kf_row mW (jj + 1)) (kf_row mZ (jj + 1)) (kf_cut ww zz) zz (cs (jj + 1))) + 1)) (by rw [pk_sub (by omega), Nat.add_sub_cancel_left]; exact (kf_p_s _).symm) ?_
            refine kz_iast hx hb hK.1 hP hD hS 6 0 rfl rfl (k := jj) (by omega) (by decide) dX4_seek_69 (fun H locs hP hD hS => ?_)
            have hP : va_P G.1 vwCl [(mo, .inr (4, [.int 0, .ref mc, .ref mw, .ref mz, .ref mv, .ref mp, .ref mh])), (mc, .inl (gI G, 4, .inl (kz_z cs))), (mw, .inl (gJ G, 480, .inr (.inl mW))), (mz, .inl (gI G, 480, .inl (kz_z mZ))), (mv, .inl (gI G, 480, .inl mV)), (mp, .inl (gZ G, 3, .inl (kz_bo po))), (mh, .inl (gI G, 3, .inl (upd (kz_pw pw) jj (kf_p ((kf_cb (kf_row mW (jj + 1)) (kf_row mZ (jj + 1)) (kf_cut ww zz) zz (cs (jj + 1))) + 1)))))] H := hP
            have hD : va_D A [(mo, .inr (4, [.int 0, .ref mc, .ref mw, .ref mz, .ref mv, .ref mp, .ref mh])), (mc, .inl (gI G, 4, .inl (kz_z cs))), (mw, .inl (gJ G, 480, .inr (.inl mW))), (mz, .inl (gI G, 480, .inl (kz_z mZ))), (mv, .inl (gI G, 480, .inl mV)), (mp, .inl (gZ G, 3, .inl (kz_bo po))), (mh, .inl (gI G, 3, .inl (upd (kz_pw pw) jj (kf_p ((kf_cb (kf_row mW (jj + 1)) (kf_row mZ (jj + 1)) (kf_cut ww zz) zz (cs (jj + 1))) + 1)))))] := hD
            rw [show upd (kz_pw pw) jj (kf_p ((kf_cb (kf_row mW (jj + 1)) (kf_row mZ (jj + 1)) (kf_cut ww zz) zz (cs (jj + 1))) + 1)) = kz_pw (kz_un pw jj ((kf_cb (kf_row mW (jj + 1)) (kf_row mZ (jj + 1)) (kf_cut ww zz) zz (cs (jj + 1))) + 1)) from (kz_pu _ _ _).symm] at hP hD
            have hP : va_P G.1 vwCl [(mo, .inr (4, [.int 0, .ref mc, .ref mw, .ref mz, .ref mv, .ref mp, .ref mh])), (mc, .inl (gI G, 4, .inl (kz_z cs))), (mw, .inl (gJ G, 480, .inr (.inl mW))), (mz, .inl (gI G, 480, .inl (kz_z mZ))), (mv, .inl (gI G, 480, .inl mV)), (mp, .inl (gZ G, 3, .inl (kz_bo po))), (mh, .inl (gI G, 3, .inl (kz_pw (kz_un pw jj ((kf_cb (kf_row mW (jj + 1)) (kf_row mZ (jj + 1)) (kf_cut ww zz) zz (cs (jj + 1))) + 1)))))] H := hP
            have hD : va_D A [(mo, .inr (4, [.int 0, .ref mc, .ref mw, .ref mz, .ref mv, .ref mp, .ref mh])), (mc, .inl (gI G, 4, .inl (kz_z cs))), (mw, .inl (gJ G, 480, .inr (.inl mW))), (mz, .inl (gI G, 480, .inl (kz_z mZ))), (mv, .inl (gI G, 480, .inl mV)), (mp, .inl (gZ G, 3, .inl (kz_bo po))), (mh, .inl (gI G, 3, .inl (kz_pw (kz_un pw jj ((kf_cb (kf_row mW (jj + 1)) (kf_row mZ (jj + 1)) (kf_cut ww zz) zz (cs (jj + 1))) + 1)))))] := hD
            refine lv_aload_n hx hb dX4_seek_70 rfl (lv_at hl 0 rfl) ?_
            refine va_get (D := G.1) (ci := 4) (v := .ref mh) (C := RX4) (T := TX4) (N := 7) hx hb hts hinX4 hown hK.1 hP 0 rfl rfl 6 (by decide) (hts (.fieldLink RX4 27 "ForkStoreModel" "where" "[I") (by decide +kernel)) (fun _ h9 => h9) rfl dX4_seek_71 ?_
            refine lv_iload_n hx hb dX4_seek_74 rfl (lv_at hl 1 rfl) ?_
            refine kz_iald hx hb hK.1 hP 6 0 rfl rfl (k := jj) (by omega) (by decide) dX4_seek_75 ?_
            refine kz_asi (y := kf_p ((kz_un pw jj ((kf_cb (kf_row mW (jj + 1)) (kf_row mZ (jj + 1)) (kf_cut ww zz) zz (cs (jj + 1))) + 1)) jj)) rfl ?_
            refine kz_asi (y := nI (kf_cb (kf_row mW (jj + 1)) (kf_row mZ (jj + 1)) (kf_cut ww zz) zz (cs (jj + 1)))) (by rw [kz_un_s]; exact kf_p_s _) ?_
            refine lv_aload_n hx hb dX4_seek_76 rfl (lv_at hl 0 rfl) ?_
            refine va_get (D := G.1) (ci := 4) (v := .ref mc) (C := RX4) (T := TX4) (N := 7) hx hb hts hinX4 hown hK.1 hP 0 rfl rfl 1 (by decide) (hts (.fieldLink RX4 7 "ForkStoreModel" "counts" "[I") (by decide +kernel)) (fun _ h9 => h9) rfl dX4_seek_77 ?_
            refine lv_iload_n hx hb dX4_seek_80 rfl (lv_at hl 1 rfl) ?_
            refine lv_iconst (v := 1) hx hb dX4_seek_81 (by decide) ?_
            refine lv_iadd hx hb dX4_seek_82 ?_
            refine kz_asi (y := nI (jj + 1)) (nI_1 jj) ?_
            refine kz_iald hx hb hK.1 hP 1 0 rfl rfl (k := (jj + 1)) (by omega) (by decide) dX4_seek_83 ?_
            refine kz_asi (y := nI (cs (jj + 1))) rfl ?_
            refine lv_icmp_ge (tgt := 91) hx hb dX4_seek_84 (by decide) (fun c_6 => ?_) (fun c_6 => ?_)
            · have kc_6 : ¬ (kf_cb (kf_row mW (jj + 1)) (kf_row mZ (jj + 1)) (kf_cut ww zz) zz (cs (jj + 1))) < cs (jj + 1) := fun h => absurd ((nI_leI (by omega) (by omega)).mp c_6) (by omega)
              refine lv_iconst (v := 0) hx hb dX4_seek_91 (by decide) ?_
              exact W.zret (v := 0) hx hb hr rfl (fun t ht hW => ⟨⟨_, ([(mo, .inr (4, [.int 0, .ref mc, .ref mw, .ref mz, .ref mv, .ref mp, .ref mh])), (mc, .inl (gI G, 4, .inl (kz_z cs))), (mw, .inl (gJ G, 480, .inr (.inl mW))), (mz, .inl (gI G, 480, .inl (kz_z mZ))), (mv, .inl (gI G, 480, .inl mV)), (mp, .inl (gZ G, 3, .inl (kz_bo po))), (mh, .inl (gI G, 3, .inl (kz_pw (kz_un pw jj ((kf_cb (kf_row mW (jj + 1)) (kf_row mZ (jj + 1)) (kf_cut ww zz) zz (cs (jj + 1))) + 1)))))] : va_W), rfl, (Or.inr (Or.inr ⟨zz, hzz, rfl, jj, hjj, rfl, hpo, by rw [if_neg kc_6], rfl⟩)), by rw [← ht] at hP; exact hP⟩, hS.F ht⟩) hS.2.2 dX4_seek_92
            · have kc_6 : (kf_cb (kf_row mW (jj + 1)) (kf_row mZ (jj + 1)) (kf_cut ww zz) zz (cs (jj + 1))) < cs (jj + 1) := Nat.lt_of_not_le (fun h => c_6 (nI_le h (by omega)))
              refine lv_iconst (v := 1) hx hb dX4_seek_87 (by decide) ?_
              refine lv_goto (tgt := 92) hx hb dX4_seek_88 (by decide) ?_
              exact W.zret (v := 1) hx hb hr rfl (fun t ht hW => ⟨⟨_, ([(mo, .inr (4, [.int 0, .ref mc, .ref mw, .ref mz, .ref mv, .ref mp, .ref mh])), (mc, .inl (gI G, 4, .inl (kz_z cs))), (mw, .inl (gJ G, 480, .inr (.inl mW))), (mz, .inl (gI G, 480, .inl (kz_z mZ))), (mv, .inl (gI G, 480, .inl mV)), (mp, .inl (gZ G, 3, .inl (kz_bo po))), (mh, .inl (gI G, 3, .inl (kz_pw (kz_un pw jj ((kf_cb (kf_row mW (jj + 1)) (kf_row mZ (jj + 1)) (kf_cut ww zz) zz (cs (jj + 1))) + 1)))))] : va_W), rfl, (Or.inr (Or.inr ⟨zz, hzz, rfl, jj, hjj, rfl, hpo, by rw [if_pos kc_6], rfl⟩)), by rw [← ht] at hP; exact hP⟩, hS.F ht⟩) hS.2.2 dX4_seek_92
          · exact absurd c_5 (by decide)
      · exact absurd (nI_le (b := 8) hzz (by decide)) c_2
  · have hno := hno
    refine lv_aload_n hx hb dX4_seek_0 rfl (lv_at hl 0 rfl) ?_
    refine lv_iload hx hb dX4_seek_1 (lv_at hl 3 rfl) ?_
    refine lv_if_lt (tgt := 13) hx hb dX4_seek_3 (by decide) (fun c_7 => ?_) (fun c_7 => ?_)
    · refine lv_iconst (v := 1) hx hb dX4_seek_13 (by decide) ?_
      refine lv_goto (tgt := 30) hx hb dX4_seek_14 (by decide) ?_
      refine va_put (D := G.1) (ci := 4) (v := .int 1) (ty := .int) (C := RX4) (T := TX4) (N := 7) hx hb hts hinX4 tyX4 tyX4_ok nmX4 hown hK.1 hP hD hS 0 rfl rfl 0 (by decide) (hts (.fieldLink RX4 30 "ForkStoreModel" "thrown" "I") (by decide +kernel)) (fun _ h9 => h9) rfl (by decide +kernel) rfl rfl (Nat.le_of_ble_eq_true rfl) dX4_seek_30 (fun H locs hP hD hS => ?_)
      have hP : va_P G.1 vwCl [(mo, .inr (4, [.int 1, .ref mc, .ref mw, .ref mz, .ref mv, .ref mp, .ref mh])), (mc, .inl (gI G, 4, .inl (kz_z cs))), (mw, .inl (gJ G, 480, .inr (.inl mW))), (mz, .inl (gI G, 480, .inl (kz_z mZ))), (mv, .inl (gI G, 480, .inl mV)), (mp, .inl (gZ G, 3, .inl (kz_bo po))), (mh, .inl (gI G, 3, .inl (kz_pw pw)))] H := hP
      have hD : va_D A [(mo, .inr (4, [.int 1, .ref mc, .ref mw, .ref mz, .ref mv, .ref mp, .ref mh])), (mc, .inl (gI G, 4, .inl (kz_z cs))), (mw, .inl (gJ G, 480, .inr (.inl mW))), (mz, .inl (gI G, 480, .inl (kz_z mZ))), (mv, .inl (gI G, 480, .inl mV)), (mp, .inl (gZ G, 3, .inl (kz_bo po))), (mh, .inl (gI G, 3, .inl (kz_pw pw)))] := hD
      refine lv_aload_n hx hb dX4_seek_33 rfl (lv_at hl 0 rfl) ?_
      refine va_get (D := G.1) (ci := 4) (v := .int 1) (C := RX4) (T := TX4) (N := 7) hx hb hts hinX4 hown hK.1 hP 0 rfl rfl 0 (by decide) (hts (.fieldLink RX4 30 "ForkStoreModel" "thrown" "I") (by decide +kernel)) (fun _ h9 => h9) rfl dX4_seek_34 ?_
      refine lv_if_le (tgt := 42) hx hb dX4_seek_37 (by decide) (fun c_8 => ?_) (fun c_8 => ?_)
      · exact absurd c_8 (by decide)
      · refine lv_iconst (v := 0) hx hb dX4_seek_40 (by decide) ?_
        exact W.zret (v := 0) hx hb hr rfl (fun t ht hW => ⟨⟨_, ([(mo, .inr (4, [.int 1, .ref mc, .ref mw, .ref mz, .ref mv, .ref mp, .ref mh])), (mc, .inl (gI G, 4, .inl (kz_z cs))), (mw, .inl (gJ G, 480, .inr (.inl mW))), (mz, .inl (gI G, 480, .inl (kz_z mZ))), (mv, .inl (gI G, 480, .inl mV)), (mp, .inl (gZ G, 3, .inl (kz_bo po))), (mh, .inl (gI G, 3, .inl (kz_pw pw)))] : va_W), rfl, (Or.inl ⟨hno, rfl, rfl⟩), by rw [← ht] at hP; exact hP⟩, hS.F ht⟩) hS.2.2 dX4_seek_41
    · refine lv_iload hx hb dX4_seek_6 (lv_at hl 3 rfl) ?_
      refine lv_bipush (v := 8) hx hb dX4_seek_8 (by decide) ?_
      refine lv_icmp_le (tgt := 17) hx hb dX4_seek_10 (by decide) (fun c_9 => ?_) (fun c_9 => ?_)
      · exact absurd ⟨Int32.not_lt.mp c_7, c_9⟩ hno
      · refine lv_iconst (v := 1) hx hb dX4_seek_13 (by decide) ?_
        refine lv_goto (tgt := 30) hx hb dX4_seek_14 (by decide) ?_
        refine va_put (D := G.1) (ci := 4) (v := .int 1) (ty := .int) (C := RX4) (T := TX4) (N := 7) hx hb hts hinX4 tyX4 tyX4_ok nmX4 hown hK.1 hP hD hS 0 rfl rfl 0 (by decide) (hts (.fieldLink RX4 30 "ForkStoreModel" "thrown" "I") (by decide +kernel)) (fun _ h9 => h9) rfl (by decide +kernel) rfl rfl (Nat.le_of_ble_eq_true rfl) dX4_seek_30 (fun H locs hP hD hS => ?_)
        have hP : va_P G.1 vwCl [(mo, .inr (4, [.int 1, .ref mc, .ref mw, .ref mz, .ref mv, .ref mp, .ref mh])), (mc, .inl (gI G, 4, .inl (kz_z cs))), (mw, .inl (gJ G, 480, .inr (.inl mW))), (mz, .inl (gI G, 480, .inl (kz_z mZ))), (mv, .inl (gI G, 480, .inl mV)), (mp, .inl (gZ G, 3, .inl (kz_bo po))), (mh, .inl (gI G, 3, .inl (kz_pw pw)))] H := hP
        have hD : va_D A [(mo, .inr (4, [.int 1, .ref mc, .ref mw, .ref mz, .ref mv, .ref mp, .ref mh])), (mc, .inl (gI G, 4, .inl (kz_z cs))), (mw, .inl (gJ G, 480, .inr (.inl mW))), (mz, .inl (gI G, 480, .inl (kz_z mZ))), (mv, .inl (gI G, 480, .inl mV)), (mp, .inl (gZ G, 3, .inl (kz_bo po))), (mh, .inl (gI G, 3, .inl (kz_pw pw)))] := hD
        refine lv_aload_n hx hb dX4_seek_33 rfl (lv_at hl 0 rfl) ?_
        refine va_get (D := G.1) (ci := 4) (v := .int 1) (C := RX4) (T := TX4) (N := 7) hx hb hts hinX4 hown hK.1 hP 0 rfl rfl 0 (by decide) (hts (.fieldLink RX4 30 "ForkStoreModel" "thrown" "I") (by decide +kernel)) (fun _ h9 => h9) rfl dX4_seek_34 ?_
        refine lv_if_le (tgt := 42) hx hb dX4_seek_37 (by decide) (fun c_10 => ?_) (fun c_10 => ?_)
        · exact absurd c_10 (by decide)
        · refine lv_iconst (v := 0) hx hb dX4_seek_40 (by decide) ?_
          exact W.zret (v := 0) hx hb hr rfl (fun t ht hW => ⟨⟨_, ([(mo, .inr (4, [.int 1, .ref mc, .ref mw, .ref mz, .ref mv, .ref mp, .ref mh])), (mc, .inl (gI G, 4, .inl (kz_z cs))), (mw, .inl (gJ G, 480, .inr (.inl mW))), (mz, .inl (gI G, 480, .inl (kz_z mZ))), (mv, .inl (gI G, 480, .inl mV)), (mp, .inl (gZ G, 3, .inl (kz_bo po))), (mh, .inl (gI G, 3, .inl (kz_pw pw)))] : va_W), rfl, (Or.inl ⟨hno, rfl, rfl⟩), by rw [← ht] at hP; exact hP⟩, hS.F ht⟩) hS.2.2 dX4_seek_41

set_option maxHeartbeats 4000000 in
set_option maxRecDepth 100000 in
theorem c_X4_next (l : Launch) (G : kz_G) (mo mc mw mz mv mp mh : Nat) (tv : Int32) (cs : Nat → Nat) (mW : Nat → Int64) (mZ : Nat → Nat) (mV : Nat → Int32) (po : Nat → Bool) (pw : Nat → Nat) (rr : Int32) (sz : Nat) (hcs : ∀ j, cs j ≤ 120) (hmz : ∀ j, mZ j ≤ 8) (hpw : ∀ j, pw j ≤ 90000) : Met l yX4_next wsX4_next { frames := 1, cells := 0, slots := 0, locals := 21 } (kz_Pm G [.ref mo, .int rr] [(mo, .inr (4, [.int tv, .ref mc, .ref mw, .ref mz, .ref mv, .ref mp, .ref mh])), (mc, .inl (gI G, 4, .inl (kz_z cs))), (mw, .inl (gJ G, 480, .inr (.inl mW))), (mz, .inl (gI G, 480, .inl (kz_z mZ))), (mv, .inl (gI G, 480, .inl mV)), (mp, .inl (gZ G, 3, .inl (kz_bo po))), (mh, .inl (gI G, 3, .inl (kz_pw pw)))] sz) (kz_Qi G (fun r w => (kf_mop po rr = false ∧ r = 0 ∧ w = [(mo, .inr (4, [.int 1, .ref mc, .ref mw, .ref mz, .ref mv, .ref mp, .ref mh])), (mc, .inl (gI G, 4, .inl (kz_z cs))), (mw, .inl (gJ G, 480, .inr (.inl mW))), (mz, .inl (gI G, 480, .inl (kz_z mZ))), (mv, .inl (gI G, 480, .inl mV)), (mp, .inl (gZ G, 3, .inl (kz_bo po))), (mh, .inl (gI G, 3, .inl (kz_pw pw)))]) ∨ (∃ jj : Nat, jj < 3 ∧ rr = nI jj ∧ po jj = true ∧ r = (if (if pw jj ≤ cs (jj + 1) then pw jj + 1 else pw jj) ≤ cs (jj + 1) then 1 else 0) ∧ w = [(mo, .inr (4, [.int 0, .ref mc, .ref mw, .ref mz, .ref mv, .ref mp, .ref mh])), (mc, .inl (gI G, 4, .inl (kz_z cs))), (mw, .inl (gJ G, 480, .inr (.inl mW))), (mz, .inl (gI G, 480, .inl (kz_z mZ))), (mv, .inl (gI G, 480, .inl mV)), (mp, .inl (gZ G, 3, .inl (kz_bo po))), (mh, .inl (gI G, 3, .inl (kz_pw (kz_un pw jj (if pw jj ≤ cs (jj + 1) then pw jj + 1 else pw jj)))))])) (va_A [(mo, .inr (4, [.int tv, .ref mc, .ref mw, .ref mz, .ref mv, .ref mp, .ref mh])), (mc, .inl (gI G, 4, .inl (kz_z cs))), (mw, .inl (gJ G, 480, .inr (.inl mW))), (mz, .inl (gI G, 480, .inl (kz_z mZ))), (mv, .inl (gI G, 480, .inl mV)), (mp, .inl (gZ G, 3, .inl (kz_bo po))), (mh, .inl (gI G, 3, .inl (kz_pw pw)))] sz)) 0 0 (va_A [(mo, .inr (4, [.int tv, .ref mc, .ref mw, .ref mz, .ref mv, .ref mp, .ref mh])), (mc, .inl (gI G, 4, .inl (kz_z cs))), (mw, .inl (gJ G, 480, .inr (.inl mW))), (mz, .inl (gI G, 480, .inl (kz_z mZ))), (mv, .inl (gI G, 480, .inl mV)), (mp, .inl (gZ G, 3, .inl (kz_bo po))), (mh, .inl (gI G, 3, .inl (kz_pw pw)))] sz) := by
  refine Met.ofW (cc := cX4_next) (maxL := 2) (ret := (some .boolean)) (by decide) rfl ?_
  intro p e s m args below meth c s₁ B hml hv
  obtain ⟨rfl, hsz, hP, hK, hD0⟩ := hv
  have hx := B.exec
  have hb := B.bytes
  have hr := B.returns
  have hts := atoms_spec (ws := wsX4_next) B.pre
  have hown : s.vm.findClass RX4 = some m.cls := findClass_of_methodNamed B.named
  have hlocks := B.notSynchronized
  have hinX4 : ∀ w ∈ wsX40, w ∈ wsX4_next := by decide +kernel
  subst hsz
  have hD := hD0.self (sz := s.heap.size)
  generalize hAe : va_A [(mo, .inr (4, [.int tv, .ref mc, .ref mw, .ref mz, .ref mv, .ref mp, .ref mh])), (mc, .inl (gI G, 4, .inl (kz_z cs))), (mw, .inl (gJ G, 480, .inr (.inl mW))), (mz, .inl (gI G, 480, .inl (kz_z mZ))), (mv, .inl (gI G, 480, .inl mV)), (mp, .inl (gZ G, 3, .inl (kz_bo po))), (mh, .inl (gI G, 3, .inl (kz_pw pw)))] s.heap.size = A at hD ⊢
  have hA : ∀ q : Nat, s.heap.size ≤ q → A q := fun q h => by rw [← hAe]; exact Or.inr h
  have hS : va_S A s.heap s.heap [] := va_S.rf
  have hP : va_P G.1 vwCl [(mo, .inr (4, [.int tv, .ref mc, .ref mw, .ref mz, .ref mv, .ref mp, .ref mh])), (mc, .inl (gI G, 4, .inl (kz_z cs))), (mw, .inl (gJ G, 480, .inr (.inl mW))), (mz, .inl (gI G, 480, .inl (kz_z mZ))), (mv, .inl (gI G, 480, .inl mV)), (mp, .inl (gZ G, 3, .inl (kz_bo po))), (mh, .inl (gI G, 3, .inl (kz_pw pw)))] s.heap := hP
  have hl := lv_entry ([.ref mo, .int rr]) (n := 2) (Nat.le_of_ble_eq_true rfl)
  rw [lg_entry_eq]
  generalize (lg_sl ([.ref mo, .int rr]) ++ List.replicate (2 - (lg_sl ([.ref mo, .int rr])).length) Slot.unset).toArray = ls at hl ⊢
  have hl : lv_has ls 2 [(0, .ref mo), (1, .int rr)] := hl
  refine lv_aload_n hx hb dX4_next_0 rfl (lv_at hl 0 rfl) ?_
  refine lv_aload_n hx hb dX4_next_1 rfl (lv_at hl 0 rfl) ?_
  refine lv_iload_n hx hb dX4_next_2 rfl (lv_at hl 1 rfl) ?_
  have hPc := hP.sub (ws' := [(mo, .inr (4, [.int tv, .ref mc, .ref mw, .ref mz, .ref mv, .ref mp, .ref mh])), (mc, .inl (gI G, 4, .inl (kz_z cs))), (mw, .inl (gJ G, 480, .inr (.inl mW))), (mz, .inl (gI G, 480, .inl (kz_z mZ))), (mv, .inl (gI G, 480, .inl mV)), (mp, .inl (gZ G, 3, .inl (kz_bo po))), (mh, .inl (gI G, 3, .inl (kz_pw pw)))]) [0, 1, 2, 3, 4, 5, 6] rfl
  refine kz_ci (v := kf_b (kf_mop po rr)) (va_runV (As := [.int rr]) (rest := [.ref mo]) ⟨hx, hb, hml, hown, hts⟩ (c_X4_isOpen l G mo mc mw mz mv mp mh tv cs mW mZ mV po pw rr ) (cwV 1 hts gX4_next_X4_isOpen rfl rfl rfl (by decide +kernel) ⟨Nat.le_of_ble_eq_true rfl, Nat.le_of_ble_eq_true rfl⟩) (kz_pv hK hPc (va_recv hK.1 hPc (ci := 4) (q0 := 0) rfl rfl)) rfl rfl hl.1 rfl (lv_room (Nat.le_of_ble_eq_true rfl)) dX4_next_3 ⟨Nat.zero_le _, Nat.zero_le _⟩).run ?_
  refine lv_if_eq (tgt := 13) hx hb dX4_next_6 (by decide) (fun c_1 => ?_) (fun c_1 => ?_)
  · have kc_1 : kf_mop po rr = false := kf_b_0.mp c_1
    refine lv_iconst (v := 1) hx hb dX4_next_13 (by decide) ?_
    refine va_put (D := G.1) (ci := 4) (v := .int 1) (ty := .int) (C := RX4) (T := TX4) (N := 7) hx hb hts hinX4 tyX4 tyX4_ok nmX4 hown hK.1 hP hD hS 0 rfl rfl 0 (by decide) (hts (.fieldLink RX4 30 "ForkStoreModel" "thrown" "I") (by decide +kernel)) (fun _ h9 => h9) rfl (by decide +kernel) rfl rfl (Nat.le_of_ble_eq_true rfl) dX4_next_14 (fun H locs hP hD hS => ?_)
    have hP : va_P G.1 vwCl [(mo, .inr (4, [.int 1, .ref mc, .ref mw, .ref mz, .ref mv, .ref mp, .ref mh])), (mc, .inl (gI G, 4, .inl (kz_z cs))), (mw, .inl (gJ G, 480, .inr (.inl mW))), (mz, .inl (gI G, 480, .inl (kz_z mZ))), (mv, .inl (gI G, 480, .inl mV)), (mp, .inl (gZ G, 3, .inl (kz_bo po))), (mh, .inl (gI G, 3, .inl (kz_pw pw)))] H := hP
    have hD : va_D A [(mo, .inr (4, [.int 1, .ref mc, .ref mw, .ref mz, .ref mv, .ref mp, .ref mh])), (mc, .inl (gI G, 4, .inl (kz_z cs))), (mw, .inl (gJ G, 480, .inr (.inl mW))), (mz, .inl (gI G, 480, .inl (kz_z mZ))), (mv, .inl (gI G, 480, .inl mV)), (mp, .inl (gZ G, 3, .inl (kz_bo po))), (mh, .inl (gI G, 3, .inl (kz_pw pw)))] := hD
    refine lv_aload_n hx hb dX4_next_17 rfl (lv_at hl 0 rfl) ?_
    refine va_get (D := G.1) (ci := 4) (v := .int 1) (C := RX4) (T := TX4) (N := 7) hx hb hts hinX4 hown hK.1 hP 0 rfl rfl 0 (by decide) (hts (.fieldLink RX4 30 "ForkStoreModel" "thrown" "I") (by decide +kernel)) (fun _ h9 => h9) rfl dX4_next_18 ?_
    refine lv_if_le (tgt := 26) hx hb dX4_next_21 (by decide) (fun c_2 => ?_) (fun c_2 => ?_)
    · exact absurd c_2 (by decide)
    · refine lv_iconst (v := 0) hx hb dX4_next_24 (by decide) ?_
      exact W.zret (v := 0) hx hb hr rfl (fun t ht hW => ⟨⟨_, ([(mo, .inr (4, [.int 1, .ref mc, .ref mw, .ref mz, .ref mv, .ref mp, .ref mh])), (mc, .inl (gI G, 4, .inl (kz_z cs))), (mw, .inl (gJ G, 480, .inr (.inl mW))), (mz, .inl (gI G, 480, .inl (kz_z mZ))), (mv, .inl (gI G, 480, .inl mV)), (mp, .inl (gZ G, 3, .inl (kz_bo po))), (mh, .inl (gI G, 3, .inl (kz_pw pw)))] : va_W), rfl, (Or.inl ⟨kc_1, rfl, rfl⟩), by rw [← ht] at hP; exact hP⟩, hS.F ht⟩) hS.2.2 dX4_next_25
  · have kc_1 : kf_mop po rr = true := by
      cases h9 : kf_mop po rr
      · exact absurd (by rw [h9]; rfl) c_1
      · rfl
    obtain ⟨jj, hjj, rfl, hpo⟩ := kf_mop_t kc_1
    refine lv_iconst (v := 0) hx hb dX4_next_9 (by decide) ?_
    refine lv_goto (tgt := 14) hx hb dX4_next_10 (by decide) ?_
    refine va_put (D := G.1) (ci := 4) (v := .int 0) (ty := .int) (C := RX4) (T := TX4) (N := 7) hx hb hts hinX4 tyX4 tyX4_ok nmX4 hown hK.1 hP hD hS 0 rfl rfl 0 (by decide) (hts (.fieldLink RX4 30 "ForkStoreModel" "thrown" "I") (by decide +kernel)) (fun _ h9 => h9) rfl (by decide +kernel) rfl rfl (Nat.le_of_ble_eq_true rfl) dX4_next_14 (fun H locs hP hD hS => ?_)
    have hP : va_P G.1 vwCl [(mo, .inr (4, [.int 0, .ref mc, .ref mw, .ref mz, .ref mv, .ref mp, .ref mh])), (mc, .inl (gI G, 4, .inl (kz_z cs))), (mw, .inl (gJ G, 480, .inr (.inl mW))), (mz, .inl (gI G, 480, .inl (kz_z mZ))), (mv, .inl (gI G, 480, .inl mV)), (mp, .inl (gZ G, 3, .inl (kz_bo po))), (mh, .inl (gI G, 3, .inl (kz_pw pw)))] H := hP
    have hD : va_D A [(mo, .inr (4, [.int 0, .ref mc, .ref mw, .ref mz, .ref mv, .ref mp, .ref mh])), (mc, .inl (gI G, 4, .inl (kz_z cs))), (mw, .inl (gJ G, 480, .inr (.inl mW))), (mz, .inl (gI G, 480, .inl (kz_z mZ))), (mv, .inl (gI G, 480, .inl mV)), (mp, .inl (gZ G, 3, .inl (kz_bo po))), (mh, .inl (gI G, 3, .inl (kz_pw pw)))] := hD
    refine lv_aload_n hx hb dX4_next_17 rfl (lv_at hl 0 rfl) ?_
    refine va_get (D := G.1) (ci := 4) (v := .int 0) (C := RX4) (T := TX4) (N := 7) hx hb hts hinX4 hown hK.1 hP 0 rfl rfl 0 (by decide) (hts (.fieldLink RX4 30 "ForkStoreModel" "thrown" "I") (by decide +kernel)) (fun _ h9 => h9) rfl dX4_next_18 ?_
    refine lv_if_le (tgt := 26) hx hb dX4_next_21 (by decide) (fun c_3 => ?_) (fun c_3 => ?_)
    · refine lv_aload_n hx hb dX4_next_26 rfl (lv_at hl 0 rfl) ?_
      refine va_get (D := G.1) (ci := 4) (v := .ref mh) (C := RX4) (T := TX4) (N := 7) hx hb hts hinX4 hown hK.1 hP 0 rfl rfl 6 (by decide) (hts (.fieldLink RX4 27 "ForkStoreModel" "where" "[I") (by decide +kernel)) (fun _ h9 => h9) rfl dX4_next_27 ?_
      refine lv_iload_n hx hb dX4_next_30 rfl (lv_at hl 1 rfl) ?_
      refine lv_aload_n hx hb dX4_next_31 rfl (lv_at hl 0 rfl) ?_
      refine va_get (D := G.1) (ci := 4) (v := .ref mh) (C := RX4) (T := TX4) (N := 7) hx hb hts hinX4 hown hK.1 hP 0 rfl rfl 6 (by decide) (hts (.fieldLink RX4 27 "ForkStoreModel" "where" "[I") (by decide +kernel)) (fun _ h9 => h9) rfl dX4_next_32 ?_
      refine lv_iload_n hx hb dX4_next_35 rfl (lv_at hl 1 rfl) ?_
      refine kz_iald hx hb hK.1 hP 6 0 rfl rfl (k := jj) (by omega) (by decide) dX4_next_36 ?_
      refine kz_asi (y := kf_p (pw jj)) rfl ?_
      refine lv_aload_n hx hb dX4_next_37 rfl (lv_at hl 0 rfl) ?_
      refine va_get (D := G.1) (ci := 4) (v := .ref mc) (C := RX4) (T := TX4) (N := 7) hx hb hts hinX4 hown hK.1 hP 0 rfl rfl 1 (by decide) (hts (.fieldLink RX4 7 "ForkStoreModel" "counts" "[I") (by decide +kernel)) (fun _ h9 => h9) rfl dX4_next_38 ?_
      refine lv_iload_n hx hb dX4_next_41 rfl (lv_at hl 1 rfl) ?_
      refine lv_iconst (v := 1) hx hb dX4_next_42 (by decide) ?_
      refine lv_iadd hx hb dX4_next_43 ?_
      have hcj := hcs (jj + 1)
      have hpj := hpw jj
      refine kz_asi (y := nI (jj + 1)) (nI_1 jj) ?_
      refine kz_iald hx hb hK.1 hP 1 0 rfl rfl (k := (jj + 1)) (by omega) (by decide) dX4_next_44 ?_
      refine kz_asi (y := nI (cs (jj + 1))) rfl ?_
      refine lv_icmp_ge (tgt := 59) hx hb dX4_next_45 (by decide) (fun c_4 => ?_) (fun c_4 => ?_)
      · have kc_4 : ¬ pw jj ≤ cs (jj + 1) := fun h => absurd ((kf_p_lt (by omega) hcj).mpr h) (Int32.not_lt.mpr c_4)
        refine lv_aload_n hx hb dX4_next_59 rfl (lv_at hl 0 rfl) ?_
        refine va_get (D := G.1) (ci := 4) (v := .ref mh) (C := RX4) (T := TX4) (N := 7) hx hb hts hinX4 hown hK.1 hP 0 rfl rfl 6 (by decide) (hts (.fieldLink RX4 27 "ForkStoreModel" "where" "[I") (by decide +kernel)) (fun _ h9 => h9) rfl dX4_next_60 ?_
        refine lv_iload_n hx hb dX4_next_63 rfl (lv_at hl 1 rfl) ?_
        refine kz_iald hx hb hK.1 hP 6 0 rfl rfl (k := jj) (by omega) (by decide) dX4_next_64 ?_
        refine kz_asi (y := kf_p (pw jj)) rfl ?_
        refine kz_iast hx hb hK.1 hP hD hS 6 0 rfl rfl (k := jj) (by omega) (by decide) dX4_next_65 (fun H locs hP hD hS => ?_)
        have hP : va_P G.1 vwCl [(mo, .inr (4, [.int 0, .ref mc, .ref mw, .ref mz, .ref mv, .ref mp, .ref mh])), (mc, .inl (gI G, 4, .inl (kz_z cs))), (mw, .inl (gJ G, 480, .inr (.inl mW))), (mz, .inl (gI G, 480, .inl (kz_z mZ))), (mv, .inl (gI G, 480, .inl mV)), (mp, .inl (gZ G, 3, .inl (kz_bo po))), (mh, .inl (gI G, 3, .inl (upd (kz_pw pw) jj (kf_p (pw jj)))))] H := hP
        have hD : va_D A [(mo, .inr (4, [.int 0, .ref mc, .ref mw, .ref mz, .ref mv, .ref mp, .ref mh])), (mc, .inl (gI G, 4, .inl (kz_z cs))), (mw, .inl (gJ G, 480, .inr (.inl mW))), (mz, .inl (gI G, 480, .inl (kz_z mZ))), (mv, .inl (gI G, 480, .inl mV)), (mp, .inl (gZ G, 3, .inl (kz_bo po))), (mh, .inl (gI G, 3, .inl (upd (kz_pw pw) jj (kf_p (pw jj)))))] := hD
        rw [show upd (kz_pw pw) jj (kf_p (pw jj)) = kz_pw (kz_un pw jj (pw jj)) from (kz_pu _ _ _).symm] at hP hD
        have hP : va_P G.1 vwCl [(mo, .inr (4, [.int 0, .ref mc, .ref mw, .ref mz, .ref mv, .ref mp, .ref mh])), (mc, .inl (gI G, 4, .inl (kz_z cs))), (mw, .inl (gJ G, 480, .inr (.inl mW))), (mz, .inl (gI G, 480, .inl (kz_z mZ))), (mv, .inl (gI G, 480, .inl mV)), (mp, .inl (gZ G, 3, .inl (kz_bo po))), (mh, .inl (gI G, 3, .inl (kz_pw (kz_un pw jj (pw jj)))))] H := hP
        have hD : va_D A [(mo, .inr (4, [.int 0, .ref mc, .ref mw, .ref mz, .ref mv, .ref mp, .ref mh])), (mc, .inl (gI G, 4, .inl (kz_z cs))), (mw, .inl (gJ G, 480, .inr (.inl mW))), (mz, .inl (gI G, 480, .inl (kz_z mZ))), (mv, .inl (gI G, 480, .inl mV)), (mp, .inl (gZ G, 3, .inl (kz_bo po))), (mh, .inl (gI G, 3, .inl (kz_pw (kz_un pw jj (pw jj)))))] := hD
        refine lv_aload_n hx hb dX4_next_66 rfl (lv_at hl 0 rfl) ?_
        refine va_get (D := G.1) (ci := 4) (v := .ref mh) (C := RX4) (T := TX4) (N := 7) hx hb hts hinX4 hown hK.1 hP 0 rfl rfl 6 (by decide) (hts (.fieldLink RX4 27 "ForkStoreModel" "where" "[I") (by decide +kernel)) (fun _ h9 => h9) rfl dX4_next_67 ?_
        refine lv_iload_n hx hb dX4_next_70 rfl (lv_at hl 1 rfl) ?_
        refine kz_iald hx hb hK.1 hP 6 0 rfl rfl (k := jj) (by omega) (by decide) dX4_next_71 ?_
        refine kz_asi (y := kf_p ((kz_un pw jj (pw jj)) jj)) rfl ?_
        refine kz_asi (y := kf_p (pw jj)) (by rw [kz_un_s]) ?_
        refine lv_aload_n hx hb dX4_next_72 rfl (lv_at hl 0 rfl) ?_
        refine va_get (D := G.1) (ci := 4) (v := .ref mc) (C := RX4) (T := TX4) (N := 7) hx hb hts hinX4 hown hK.1 hP 0 rfl rfl 1 (by decide) (hts (.fieldLink RX4 7 "ForkStoreModel" "counts" "[I") (by decide +kernel)) (fun _ h9 => h9) rfl dX4_next_73 ?_
        refine lv_iload_n hx hb dX4_next_76 rfl (lv_at hl 1 rfl) ?_
        refine lv_iconst (v := 1) hx hb dX4_next_77 (by decide) ?_
        refine lv_iadd hx hb dX4_next_78 ?_
        refine kz_asi (y := nI (jj + 1)) (nI_1 jj) ?_
        refine kz_iald hx hb hK.1 hP 1 0 rfl rfl (k := (jj + 1)) (by omega) (by decide) dX4_next_79 ?_
        refine kz_asi (y := nI (cs (jj + 1))) rfl ?_
        refine lv_icmp_ge (tgt := 87) hx hb dX4_next_80 (by decide) (fun c_5 => ?_) (fun c_5 => ?_)
        · have kc_5 : ¬ pw jj ≤ cs (jj + 1) := fun h => absurd ((kf_p_lt (by omega) hcj).mpr h) (Int32.not_lt.mpr c_5)
          refine lv_iconst (v := 0) hx hb dX4_next_87 (by decide) ?_
          exact W.zret (v := 0) hx hb hr rfl (fun t ht hW => ⟨⟨_, ([(mo, .inr (4, [.int 0, .ref mc, .ref mw, .ref mz, .ref mv, .ref mp, .ref mh])), (mc, .inl (gI G, 4, .inl (kz_z cs))), (mw, .inl (gJ G, 480, .inr (.inl mW))), (mz, .inl (gI G, 480, .inl (kz_z mZ))), (mv, .inl (gI G, 480, .inl mV)), (mp, .inl (gZ G, 3, .inl (kz_bo po))), (mh, .inl (gI G, 3, .inl (kz_pw (kz_un pw jj (pw jj)))))] : va_W), rfl, (Or.inr ⟨jj, hjj, rfl, hpo, by rw [if_neg kc_4, if_neg kc_5], by rw [if_neg kc_4]⟩), by rw [← ht] at hP; exact hP⟩, hS.F ht⟩) hS.2.2 dX4_next_88
        · have kc_5 : pw jj ≤ cs (jj + 1) := (kf_p_lt (by omega) hcj).mp (Int32.not_le.mp c_5)
          refine lv_iconst (v := 1) hx hb dX4_next_83 (by decide) ?_
          refine lv_goto (tgt := 88) hx hb dX4_next_84 (by decide) ?_
          exact W.zret (v := 1) hx hb hr rfl (fun t ht hW => ⟨⟨_, ([(mo, .inr (4, [.int 0, .ref mc, .ref mw, .ref mz, .ref mv, .ref mp, .ref mh])), (mc, .inl (gI G, 4, .inl (kz_z cs))), (mw, .inl (gJ G, 480, .inr (.inl mW))), (mz, .inl (gI G, 480, .inl (kz_z mZ))), (mv, .inl (gI G, 480, .inl mV)), (mp, .inl (gZ G, 3, .inl (kz_bo po))), (mh, .inl (gI G, 3, .inl (kz_pw (kz_un pw jj (pw jj)))))] : va_W), rfl, (Or.inr ⟨jj, hjj, rfl, hpo, by rw [if_neg kc_4, if_pos kc_5], by rw [if_neg kc_4]⟩), by rw [← ht] at hP; exact hP⟩, hS.F ht⟩) hS.2.2 dX4_next_88
      · have kc_4 : pw jj ≤ cs (jj + 1) := (kf_p_lt (by omega) hcj).mp (Int32.not_le.mp c_4)
        refine lv_aload_n hx hb dX4_next_48 rfl (lv_at hl 0 rfl) ?_
        refine va_get (D := G.1) (ci := 4) (v := .ref mh) (C := RX4) (T := TX4) (N := 7) hx hb hts hinX4 hown hK.1 hP 0 rfl rfl 6 (by decide) (hts (.fieldLink RX4 27 "ForkStoreModel" "where" "[I") (by decide +kernel)) (fun _ h9 => h9) rfl dX4_next_49 ?_
        refine lv_iload_n hx hb dX4_next_52 rfl (lv_at hl 1 rfl) ?_
        refine kz_iald hx hb hK.1 hP 6 0 rfl rfl (k := jj) (by omega) (by decide) dX4_next_53 ?_
        refine kz_asi (y := kf_p (pw jj)) rfl ?_
        refine lv_iconst (v := 1) hx hb dX4_next_54 (by decide) ?_
        refine lv_iadd hx hb dX4_next_55 ?_
        refine lv_goto (tgt := 65) hx hb dX4_next_56 (by decide) ?_
        refine kz_asi (y := kf_p (pw jj + 1)) ((kf_p_1 _).trans (kf_p_s _).symm) ?_
        refine kz_iast hx hb hK.1 hP hD hS 6 0 rfl rfl (k := jj) (by omega) (by decide) dX4_next_65 (fun H locs hP hD hS => ?_)
        have hP : va_P G.1 vwCl [(mo, .inr (4, [.int 0, .ref mc, .ref mw, .ref mz, .ref mv, .ref mp, .ref mh])), (mc, .inl (gI G, 4, .inl (kz_z cs))), (mw, .inl (gJ G, 480, .inr (.inl mW))), (mz, .inl (gI G, 480, .inl (kz_z mZ))), (mv, .inl (gI G, 480, .inl mV)), (mp, .inl (gZ G, 3, .inl (kz_bo po))), (mh, .inl (gI G, 3, .inl (upd (kz_pw pw) jj (kf_p (pw jj + 1)))))] H := hP
        have hD : va_D A [(mo, .inr (4, [.int 0, .ref mc, .ref mw, .ref mz, .ref mv, .ref mp, .ref mh])), (mc, .inl (gI G, 4, .inl (kz_z cs))), (mw, .inl (gJ G, 480, .inr (.inl mW))), (mz, .inl (gI G, 480, .inl (kz_z mZ))), (mv, .inl (gI G, 480, .inl mV)), (mp, .inl (gZ G, 3, .inl (kz_bo po))), (mh, .inl (gI G, 3, .inl (upd (kz_pw pw) jj (kf_p (pw jj + 1)))))] := hD
        rw [show upd (kz_pw pw) jj (kf_p (pw jj + 1)) = kz_pw (kz_un pw jj (pw jj + 1)) from (kz_pu _ _ _).symm] at hP hD
        have hP : va_P G.1 vwCl [(mo, .inr (4, [.int 0, .ref mc, .ref mw, .ref mz, .ref mv, .ref mp, .ref mh])), (mc, .inl (gI G, 4, .inl (kz_z cs))), (mw, .inl (gJ G, 480, .inr (.inl mW))), (mz, .inl (gI G, 480, .inl (kz_z mZ))), (mv, .inl (gI G, 480, .inl mV)), (mp, .inl (gZ G, 3, .inl (kz_bo po))), (mh, .inl (gI G, 3, .inl (kz_pw (kz_un pw jj (pw jj + 1)))))] H := hP
        have hD : va_D A [(mo, .inr (4, [.int 0, .ref mc, .ref mw, .ref mz, .ref mv, .ref mp, .ref mh])), (mc, .inl (gI G, 4, .inl (kz_z cs))), (mw, .inl (gJ G, 480, .inr (.inl mW))), (mz, .inl (gI G, 480, .inl (kz_z mZ))), (mv, .inl (gI G, 480, .inl mV)), (mp, .inl (gZ G, 3, .inl (kz_bo po))), (mh, .inl (gI G, 3, .inl (kz_pw (kz_un pw jj (pw jj + 1)))))] := hD
        refine lv_aload_n hx hb dX4_next_66 rfl (lv_at hl 0 rfl) ?_
        refine va_get (D := G.1) (ci := 4) (v := .ref mh) (C := RX4) (T := TX4) (N := 7) hx hb hts hinX4 hown hK.1 hP 0 rfl rfl 6 (by decide) (hts (.fieldLink RX4 27 "ForkStoreModel" "where" "[I") (by decide +kernel)) (fun _ h9 => h9) rfl dX4_next_67 ?_
        refine lv_iload_n hx hb dX4_next_70 rfl (lv_at hl 1 rfl) ?_
        refine kz_iald hx hb hK.1 hP 6 0 rfl rfl (k := jj) (by omega) (by decide) dX4_next_71 ?_
        refine kz_asi (y := kf_p ((kz_un pw jj (pw jj + 1)) jj)) rfl ?_
        refine kz_asi (y := kf_p (pw jj + 1)) (by rw [kz_un_s]) ?_
        refine lv_aload_n hx hb dX4_next_72 rfl (lv_at hl 0 rfl) ?_
        refine va_get (D := G.1) (ci := 4) (v := .ref mc) (C := RX4) (T := TX4) (N := 7) hx hb hts hinX4 hown hK.1 hP 0 rfl rfl 1 (by decide) (hts (.fieldLink RX4 7 "ForkStoreModel" "counts" "[I") (by decide +kernel)) (fun _ h9 => h9) rfl dX4_next_73 ?_
        refine lv_iload_n hx hb dX4_next_76 rfl (lv_at hl 1 rfl) ?_
        refine lv_iconst (v := 1) hx hb dX4_next_77 (by decide) ?_
        refine lv_iadd hx hb dX4_next_78 ?_
        refine kz_asi (y := nI (jj + 1)) (nI_1 jj) ?_
        refine kz_iald hx hb hK.1 hP 1 0 rfl rfl (k := (jj + 1)) (by omega) (by decide) dX4_next_79 ?_
        refine kz_asi (y := nI (cs (jj + 1))) rfl ?_
        refine lv_icmp_ge (tgt := 87) hx hb dX4_next_80 (by decide) (fun c_6 => ?_) (fun c_6 => ?_)
        · have kc_6 : ¬ pw jj + 1 ≤ cs (jj + 1) := fun h => absurd ((kf_p_lt (by omega) hcj).mpr h) (Int32.not_lt.mpr c_6)
          refine lv_iconst (v := 0) hx hb dX4_next_87 (by decide) ?_
          exact W.zret (v := 0) hx hb hr rfl (fun t ht hW => ⟨⟨_, ([(mo, .inr (4, [.int 0, .ref mc, .ref mw, .ref mz, .ref mv, .ref mp, .ref mh])), (mc, .inl (gI G, 4, .inl (kz_z cs))), (mw, .inl (gJ G, 480, .inr (.inl mW))), (mz, .inl (gI G, 480, .inl (kz_z mZ))), (mv, .inl (gI G, 480, .inl mV)), (mp, .inl (gZ G, 3, .inl (kz_bo po))), (mh, .inl (gI G, 3, .inl (kz_pw (kz_un pw jj (pw jj + 1)))))] : va_W), rfl, (Or.inr ⟨jj, hjj, rfl, hpo, by rw [if_pos kc_4, if_neg kc_6], by rw [if_pos kc_4]⟩), by rw [← ht] at hP; exact hP⟩, hS.F ht⟩) hS.2.2 dX4_next_88
        · have kc_6 : pw jj + 1 ≤ cs (jj + 1) := (kf_p_lt (by omega) hcj).mp (Int32.not_le.mp c_6)
          refine lv_iconst (v := 1) hx hb dX4_next_83 (by decide) ?_
          refine lv_goto (tgt := 88) hx hb dX4_next_84 (by decide) ?_
          exact W.zret (v := 1) hx hb hr rfl (fun t ht hW => ⟨⟨_, ([(mo, .inr (4, [.int 0, .ref mc, .ref mw, .ref mz, .ref mv, .ref mp, .ref mh])), (mc, .inl (gI G, 4, .inl (kz_z cs))), (mw, .inl (gJ G, 480, .inr (.inl mW))), (mz, .inl (gI G, 480, .inl (kz_z mZ))), (mv, .inl (gI G, 480, .inl mV)), (mp, .inl (gZ G, 3, .inl (kz_bo po))), (mh, .inl (gI G, 3, .inl (kz_pw (kz_un pw jj (pw jj + 1)))))] : va_W), rfl, (Or.inr ⟨jj, hjj, rfl, hpo, by rw [if_pos kc_4, if_pos kc_6], by rw [if_pos kc_4]⟩), by rw [← ht] at hP; exact hP⟩, hS.F ht⟩) hS.2.2 dX4_next_88
    · exact absurd c_3 (by decide)

theorem kf_onx {pt b : Nat} (h : ¬ pt = 0) : nI b + kf_p pt = nI (b + (pt - 1)) := by
  cases pt with
  | zero => exact absurd rfl h
  | succ k => rw [kf_p_s, nI_add]; rfl

set_option maxHeartbeats 4000000 in
set_option maxRecDepth 100000 in
theorem c_X4_on (l : Launch) (G : kz_G) (mo mc mw mz mv mp mh : Nat) (tv : Int32) (cs : Nat → Nat) (mW : Nat → Int64) (mZ : Nat → Nat) (mV : Nat → Int32) (po : Nat → Bool) (pw : Nat → Nat) (rr : Int32) (hcs : ∀ j, cs j ≤ 120) (hmz : ∀ j, mZ j ≤ 8) (hpw : ∀ j, pw j ≤ 100000) : Met l yX4_on wsX4_on { frames := 1, cells := 0, slots := 0, locals := 21 } (kz_Pp G [.ref mo, .int rr] [(mo, .inr (4, [.int tv, .ref mc, .ref mw, .ref mz, .ref mv, .ref mp, .ref mh])), (mc, .inl (gI G, 4, .inl (kz_z cs))), (mw, .inl (gJ G, 480, .inr (.inl mW))), (mz, .inl (gI G, 480, .inl (kz_z mZ))), (mv, .inl (gI G, 480, .inl mV)), (mp, .inl (gZ G, 3, .inl (kz_bo po))), (mh, .inl (gI G, 3, .inl (kz_pw pw)))]) (vp_Si (fun r => (r = -1 ∧ kf_onc cs po pw rr = none) ∨ (∃ kk : Nat, kk < 480 ∧ r = nI kk ∧ kf_onc cs po pw rr = some kk))) 0 0 (fun _ => False) := by
  refine Met.ofW (cc := cX4_on) (maxL := 2) (ret := (some .int)) (by decide) rfl ?_
  intro p e s m args below meth c s₁ B hml hv
  obtain ⟨rfl, hP, hK⟩ := hv
  have hx := B.exec
  have hb := B.bytes
  have hr := B.returns
  have hts := atoms_spec (ws := wsX4_on) B.pre
  have hown : s.vm.findClass RX4 = some m.cls := findClass_of_methodNamed B.named
  have hlocks := B.notSynchronized
  have hinX4 : ∀ w ∈ wsX40, w ∈ wsX4_on := by decide +kernel
  have hP : va_P G.1 vwCl [(mo, .inr (4, [.int tv, .ref mc, .ref mw, .ref mz, .ref mv, .ref mp, .ref mh])), (mc, .inl (gI G, 4, .inl (kz_z cs))), (mw, .inl (gJ G, 480, .inr (.inl mW))), (mz, .inl (gI G, 480, .inl (kz_z mZ))), (mv, .inl (gI G, 480, .inl mV)), (mp, .inl (gZ G, 3, .inl (kz_bo po))), (mh, .inl (gI G, 3, .inl (kz_pw pw)))] s.heap := hP
  have hl := lv_entry ([.ref mo, .int rr]) (n := 2) (Nat.le_of_ble_eq_true rfl)
  rw [lg_entry_eq]
  generalize (lg_sl ([.ref mo, .int rr]) ++ List.replicate (2 - (lg_sl ([.ref mo, .int rr])).length) Slot.unset).toArray = ls at hl ⊢
  have hl : lv_has ls 2 [(0, .ref mo), (1, .int rr)] := hl
  refine lv_aload_n hx hb dX4_on_0 rfl (lv_at hl 0 rfl) ?_
  refine lv_iload_n hx hb dX4_on_1 rfl (lv_at hl 1 rfl) ?_
  have hPc := hP.sub (ws' := [(mo, .inr (4, [.int tv, .ref mc, .ref mw, .ref mz, .ref mv, .ref mp, .ref mh])), (mc, .inl (gI G, 4, .inl (kz_z cs))), (mw, .inl (gJ G, 480, .inr (.inl mW))), (mz, .inl (gI G, 480, .inl (kz_z mZ))), (mv, .inl (gI G, 480, .inl mV)), (mp, .inl (gZ G, 3, .inl (kz_bo po))), (mh, .inl (gI G, 3, .inl (kz_pw pw)))]) [0, 1, 2, 3, 4, 5, 6] rfl
  refine kz_ci (v := kf_b (kf_mop po rr)) (va_runV (As := [.int rr]) (rest := []) ⟨hx, hb, hml, hown, hts⟩ (c_X4_isOpen l G mo mc mw mz mv mp mh tv cs mW mZ mV po pw rr ) (cwV 1 hts gX4_on_X4_isOpen rfl rfl rfl (by decide +kernel) ⟨Nat.le_of_ble_eq_true rfl, Nat.le_of_ble_eq_true rfl⟩) (kz_pv hK hPc (va_recv hK.1 hPc (ci := 4) (q0 := 0) rfl rfl)) rfl rfl hl.1 rfl (lv_room (Nat.le_of_ble_eq_true rfl)) dX4_on_2 ⟨Nat.zero_le _, Nat.zero_le _⟩).run ?_
  refine lv_if_eq (tgt := 34) hx hb dX4_on_5 (by decide) (fun c_1 => ?_) (fun c_1 => ?_)
  · have kc_1 : kf_mop po rr = false := kf_b_0.mp c_1
    refine lv_iconst (v := (-1)) hx hb dX4_on_34 (by decide) ?_
    exact W.iret (v := (-1)) hx hb hr (fun t ht hW => ⟨_, rfl, (Or.inl ⟨rfl, by unfold kf_onc; rw [if_neg (fun h => by rw [kc_1] at h; exact absurd h.1 (by decide))]⟩), ht⟩) (fun _ h => nomatch h) dX4_on_35
  · have kc_1 : kf_mop po rr = true := by
      cases h9 : kf_mop po rr
      · exact absurd (by rw [h9]; rfl) c_1
      · rfl
    obtain ⟨jj, hjj, rfl, hpo⟩ := kf_mop_t kc_1
    have hcj := hcs (jj + 1)
    have hpj := hpw jj
    refine lv_aload_n hx hb dX4_on_8 rfl (lv_at hl 0 rfl) ?_
    refine va_get (D := G.1) (ci := 4) (v := .ref mh) (C := RX4) (T := TX4) (N := 7) hx hb hts hinX4 hown hK.1 hP 0 rfl rfl 6 (by decide) (hts (.fieldLink RX4 27 "ForkStoreModel" "where" "[I") (by decide +kernel)) (fun _ h9 => h9) rfl dX4_on_9 ?_
    refine lv_iload_n hx hb dX4_on_12 rfl (lv_at hl 1 rfl) ?_
    refine kz_iald hx hb hK.1 hP 6 0 rfl rfl (k := jj) (by omega) (by decide) dX4_on_13 ?_
    refine kz_asi (y := kf_p (pw jj)) rfl ?_
    refine lv_if_lt (tgt := 34) hx hb dX4_on_14 (by decide) (fun c_2 => ?_) (fun c_2 => ?_)
    · have h14 := (kf_p_nn hpj).mp c_2
      refine lv_iconst (v := (-1)) hx hb dX4_on_34 (by decide) ?_
      exact W.iret (v := (-1)) hx hb hr (fun t ht hW => ⟨_, rfl, (Or.inl ⟨rfl, by unfold kf_onc; rw [show kf_zn (nI jj) = jj from nI_clamp (by omega), if_neg (fun h => by omega)]⟩), ht⟩) (fun _ h => nomatch h) dX4_on_35
    · have h14 : ¬ pw jj = 0 := fun h => c_2 ((kf_p_nn hpj).mpr h)
      refine lv_aload_n hx hb dX4_on_17 rfl (lv_at hl 0 rfl) ?_
      refine va_get (D := G.1) (ci := 4) (v := .ref mh) (C := RX4) (T := TX4) (N := 7) hx hb hts hinX4 hown hK.1 hP 0 rfl rfl 6 (by decide) (hts (.fieldLink RX4 27 "ForkStoreModel" "where" "[I") (by decide +kernel)) (fun _ h9 => h9) rfl dX4_on_18 ?_
      refine lv_iload_n hx hb dX4_on_21 rfl (lv_at hl 1 rfl) ?_
      refine kz_iald hx hb hK.1 hP 6 0 rfl rfl (k := jj) (by omega) (by decide) dX4_on_22 ?_
      refine kz_asi (y := kf_p (pw jj)) rfl ?_
      refine lv_aload_n hx hb dX4_on_23 rfl (lv_at hl 0 rfl) ?_
      refine va_get (D := G.1) (ci := 4) (v := .ref mc) (C := RX4) (T := TX4) (N := 7) hx hb hts hinX4 hown hK.1 hP 0 rfl rfl 1 (by decide) (hts (.fieldLink RX4 7 "ForkStoreModel" "counts" "[I") (by decide +kernel)) (fun _ h9 => h9) rfl dX4_on_24 ?_
      refine lv_iload_n hx hb dX4_on_27 rfl (lv_at hl 1 rfl) ?_
      refine lv_iconst (v := 1) hx hb dX4_on_28 (by decide) ?_
      refine lv_iadd hx hb dX4_on_29 ?_
      refine kz_asi (y := nI (jj + 1)) (nI_1 jj) ?_
      refine kz_iald hx hb hK.1 hP 1 0 rfl rfl (k := (jj + 1)) (by omega) (by decide) dX4_on_30 ?_
      refine kz_asi (y := nI (cs (jj + 1))) rfl ?_
      refine lv_icmp_lt (tgt := 36) hx hb dX4_on_31 (by decide) (fun c_3 => ?_) (fun c_3 => ?_)
      · have h31 := (kf_p_lt hpj hcj).mp c_3
        refine lv_bipush (v := 120) hx hb dX4_on_36 (by decide) ?_
        refine lv_iload_n hx hb dX4_on_38 rfl (lv_at hl 1 rfl) ?_
        refine lv_iconst (v := 1) hx hb dX4_on_39 (by decide) ?_
        refine lv_iadd hx hb dX4_on_40 ?_
        refine kz_asi (y := nI (jj + 1)) (nI_1 jj) ?_
        refine lv_imul hx hb dX4_on_41 ?_
        refine kz_asi (y := nI (120 * (jj + 1))) (pk_mul 120 (jj + 1)) ?_
        refine lv_aload_n hx hb dX4_on_42 rfl (lv_at hl 0 rfl) ?_
        refine va_get (D := G.1) (ci := 4) (v := .ref mh) (C := RX4) (T := TX4) (N := 7) hx hb hts hinX4 hown hK.1 hP 0 rfl rfl 6 (by decide) (hts (.fieldLink RX4 27 "ForkStoreModel" "where" "[I") (by decide +kernel)) (fun _ h9 => h9) rfl dX4_on_43 ?_
        refine lv_iload_n hx hb dX4_on_46 rfl (lv_at hl 1 rfl) ?_
        refine kz_iald hx hb hK.1 hP 6 0 rfl rfl (k := jj) (by omega) (by decide) dX4_on_47 ?_
        refine kz_asi (y := kf_p (pw jj)) rfl ?_
        refine lv_iadd hx hb dX4_on_48 ?_
        refine kz_asi (y := nI (120 * (jj + 1) + (pw jj - 1))) (kf_onx h14) ?_
        exact W.iret (v := nI (120 * (jj + 1) + (pw jj - 1))) hx hb hr (fun t ht hW => ⟨_, rfl, (Or.inr ⟨_, by omega, rfl, by unfold kf_onc; rw [show kf_zn (nI jj) = jj from nI_clamp (by omega), if_pos ⟨kc_1, by omega, h31⟩]⟩), ht⟩) (fun _ h => nomatch h) dX4_on_49
      · have h31 : ¬ pw jj ≤ cs (jj + 1) := fun h => c_3 ((kf_p_lt hpj hcj).mpr h)
        refine lv_iconst (v := (-1)) hx hb dX4_on_34 (by decide) ?_
        exact W.iret (v := (-1)) hx hb hr (fun t ht hW => ⟨_, rfl, (Or.inl ⟨rfl, by unfold kf_onc; rw [show kf_zn (nI jj) = jj from nI_clamp (by omega), if_neg (fun h => h31 h.2.2)]⟩), ht⟩) (fun _ h => nomatch h) dX4_on_35

set_option maxHeartbeats 4000000 in
set_option maxRecDepth 100000 in
theorem c_X4_key (l : Launch) (G : kz_G) (mo mc mw mz mv mp mh : Nat) (tv : Int32) (cs : Nat → Nat) (mW : Nat → Int64) (mZ : Nat → Nat) (mV : Nat → Int32) (po : Nat → Bool) (pw : Nat → Nat) (rr : Int32) (sz : Nat) (hcs : ∀ j, cs j ≤ 120) (hmz : ∀ j, mZ j ≤ 8) (hpw : ∀ j, pw j ≤ 100000) : Met l yX4_key wsX4_key { frames := 2, cells := 0, slots := 0, locals := 42 } (kz_Pm G [.ref mo, .int rr] [(mo, .inr (4, [.int tv, .ref mc, .ref mw, .ref mz, .ref mv, .ref mp, .ref mh])), (mc, .inl (gI G, 4, .inl (kz_z cs))), (mw, .inl (gJ G, 480, .inr (.inl mW))), (mz, .inl (gI G, 480, .inl (kz_z mZ))), (mv, .inl (gI G, 480, .inl mV)), (mp, .inl (gZ G, 3, .inl (kz_bo po))), (mh, .inl (gI G, 3, .inl (kz_pw pw)))] sz) (kz_Ql G (fun r w => r = ((kf_onc cs po pw rr).elim 0 (fun kk => mW kk) : Int64) ∧ w = [(mo, .inr (4, [.int 0, .ref mc, .ref mw, .ref mz, .ref mv, .ref mp, .ref mh])), (mc, .inl (gI G, 4, .inl (kz_z cs))), (mw, .inl (gJ G, 480, .inr (.inl mW))), (mz, .inl (gI G, 480, .inl (kz_z mZ))), (mv, .inl (gI G, 480, .inl mV)), (mp, .inl (gZ G, 3, .inl (kz_bo po))), (mh, .inl (gI G, 3, .inl (kz_pw pw)))]) (va_A [(mo, .inr (4, [.int tv, .ref mc, .ref mw, .ref mz, .ref mv, .ref mp, .ref mh])), (mc, .inl (gI G, 4, .inl (kz_z cs))), (mw, .inl (gJ G, 480, .inr (.inl mW))), (mz, .inl (gI G, 480, .inl (kz_z mZ))), (mv, .inl (gI G, 480, .inl mV)), (mp, .inl (gZ G, 3, .inl (kz_bo po))), (mh, .inl (gI G, 3, .inl (kz_pw pw)))] sz)) 0 0 (va_A [(mo, .inr (4, [.int tv, .ref mc, .ref mw, .ref mz, .ref mv, .ref mp, .ref mh])), (mc, .inl (gI G, 4, .inl (kz_z cs))), (mw, .inl (gJ G, 480, .inr (.inl mW))), (mz, .inl (gI G, 480, .inl (kz_z mZ))), (mv, .inl (gI G, 480, .inl mV)), (mp, .inl (gZ G, 3, .inl (kz_bo po))), (mh, .inl (gI G, 3, .inl (kz_pw pw)))] sz) := by
  refine Met.ofW (cc := cX4_key) (maxL := 3) (ret := (some .long)) (by decide) rfl ?_
  intro p e s m args below meth c s₁ B hml hv
  obtain ⟨rfl, hsz, hP, hK, hD0⟩ := hv
  have hx := B.exec
  have hb := B.bytes
  have hr := B.returns
  have hts := atoms_spec (ws := wsX4_key) B.pre
  have hown : s.vm.findClass RX4 = some m.cls := findClass_of_methodNamed B.named
  have hlocks := B.notSynchronized
  have hinX4 : ∀ w ∈ wsX40, w ∈ wsX4_key := by decide +kernel
  subst hsz
  have hD := hD0.self (sz := s.heap.size)
  generalize hAe : va_A [(mo, .inr (4, [.int tv, .ref mc, .ref mw, .ref mz, .ref mv, .ref mp, .ref mh])), (mc, .inl (gI G, 4, .inl (kz_z cs))), (mw, .inl (gJ G, 480, .inr (.inl mW))), (mz, .inl (gI G, 480, .inl (kz_z mZ))), (mv, .inl (gI G, 480, .inl mV)), (mp, .inl (gZ G, 3, .inl (kz_bo po))), (mh, .inl (gI G, 3, .inl (kz_pw pw)))] s.heap.size = A at hD ⊢
  have hA : ∀ q : Nat, s.heap.size ≤ q → A q := fun q h => by rw [← hAe]; exact Or.inr h
  have hS : va_S A s.heap s.heap [] := va_S.rf
  have hP : va_P G.1 vwCl [(mo, .inr (4, [.int tv, .ref mc, .ref mw, .ref mz, .ref mv, .ref mp, .ref mh])), (mc, .inl (gI G, 4, .inl (kz_z cs))), (mw, .inl (gJ G, 480, .inr (.inl mW))), (mz, .inl (gI G, 480, .inl (kz_z mZ))), (mv, .inl (gI G, 480, .inl mV)), (mp, .inl (gZ G, 3, .inl (kz_bo po))), (mh, .inl (gI G, 3, .inl (kz_pw pw)))] s.heap := hP
  have hl := lv_entry ([.ref mo, .int rr]) (n := 3) (Nat.le_of_ble_eq_true rfl)
  rw [lg_entry_eq]
  generalize (lg_sl ([.ref mo, .int rr]) ++ List.replicate (3 - (lg_sl ([.ref mo, .int rr])).length) Slot.unset).toArray = ls at hl ⊢
  have hl : lv_has ls 3 [(0, .ref mo), (1, .int rr)] := hl
  refine lv_aload_n hx hb dX4_key_0 rfl (lv_at hl 0 rfl) ?_
  refine lv_iconst (v := 0) hx hb dX4_key_1 (by decide) ?_
  refine va_put (D := G.1) (ci := 4) (v := .int 0) (ty := .int) (C := RX4) (T := TX4) (N := 7) hx hb hts hinX4 tyX4 tyX4_ok nmX4 hown hK.1 hP hD hS 0 rfl rfl 0 (by decide) (hts (.fieldLink RX4 30 "ForkStoreModel" "thrown" "I") (by decide +kernel)) (fun _ h9 => h9) rfl (by decide +kernel) rfl rfl (Nat.le_of_ble_eq_true rfl) dX4_key_2 (fun H locs hP hD hS => ?_)
  have hP : va_P G.1 vwCl [(mo, .inr (4, [.int 0, .ref mc, .ref mw, .ref mz, .ref mv, .ref mp, .ref mh])), (mc, .inl (gI G, 4, .inl (kz_z cs))), (mw, .inl (gJ G, 480, .inr (.inl mW))), (mz, .inl (gI G, 480, .inl (kz_z mZ))), (mv, .inl (gI G, 480, .inl mV)), (mp, .inl (gZ G, 3, .inl (kz_bo po))), (mh, .inl (gI G, 3, .inl (kz_pw pw)))] H := hP
  have hD : va_D A [(mo, .inr (4, [.int 0, .ref mc, .ref mw, .ref mz, .ref mv, .ref mp, .ref mh])), (mc, .inl (gI G, 4, .inl (kz_z cs))), (mw, .inl (gJ G, 480, .inr (.inl mW))), (mz, .inl (gI G, 480, .inl (kz_z mZ))), (mv, .inl (gI G, 480, .inl mV)), (mp, .inl (gZ G, 3, .inl (kz_bo po))), (mh, .inl (gI G, 3, .inl (kz_pw pw)))] := hD
  refine lv_aload_n hx hb dX4_key_5 rfl (lv_at hl 0 rfl) ?_
  refine lv_iload_n hx hb dX4_key_6 rfl (lv_at hl 1 rfl) ?_
  have hPc := hP.sub (ws' := [(mo, .inr (4, [.int 0, .ref mc, .ref mw, .ref mz, .ref mv, .ref mp, .ref mh])), (mc, .inl (gI G, 4, .inl (kz_z cs))), (mw, .inl (gJ G, 480, .inr (.inl mW))), (mz, .inl (gI G, 480, .inl (kz_z mZ))), (mv, .inl (gI G, 480, .inl mV)), (mp, .inl (gZ G, 3, .inl (kz_bo po))), (mh, .inl (gI G, 3, .inl (kz_pw pw)))]) [0, 1, 2, 3, 4, 5, 6] rfl
  refine vp_callSi (va_runV (As := [.int rr]) (rest := []) ⟨hx, hb, hml, hown, hts⟩ (c_X4_on l G mo mc mw mz mv mp mh 0 cs mW mZ mV po pw rr hcs hmz hpw) (cwV 1 hts gX4_key_X4_on rfl rfl rfl (by decide +kernel) ⟨Nat.le_of_ble_eq_true rfl, Nat.le_of_ble_eq_true rfl⟩) (kz_pv hK hPc (va_recv hK.1 hPc (ci := 4) (q0 := 0) rfl rfl)) rfl rfl hl.1 rfl (lv_room (Nat.le_of_ble_eq_true rfl)) dX4_key_7 ⟨Nat.zero_le _, Nat.zero_le _⟩).run (fun r_1 h_2 => ?_)
  rcases h_2 with ⟨rfl, h9⟩ | ⟨kk, hkk, rfl, h9⟩
  · have h9 := h9
    refine lv_istore_n (lv' := [(2, .int (-1)), (0, .ref mo), (1, .int rr)]) hx hb dX4_key_10 rfl hl (by decide) rfl (fun ls hl => ?_)
    refine lv_iload_n hx hb dX4_key_11 rfl (lv_at hl 0 rfl) ?_
    refine lv_if_ge (tgt := 19) hx hb dX4_key_12 (by decide) (fun c_3 => ?_) (fun c_3 => ?_)
    · exact absurd c_3 (by decide)
    · refine lv_lconst (v := 0) hx hb dX4_key_15 (by decide) ?_
      refine lv_goto (tgt := 25) hx hb dX4_key_16 (by decide) ?_
      exact W.lret (v := 0) hx hb hr (fun t ht hW => ⟨⟨_, ([(mo, .inr (4, [.int 0, .ref mc, .ref mw, .ref mz, .ref mv, .ref mp, .ref mh])), (mc, .inl (gI G, 4, .inl (kz_z cs))), (mw, .inl (gJ G, 480, .inr (.inl mW))), (mz, .inl (gI G, 480, .inl (kz_z mZ))), (mv, .inl (gI G, 480, .inl mV)), (mp, .inl (gZ G, 3, .inl (kz_bo po))), (mh, .inl (gI G, 3, .inl (kz_pw pw)))] : va_W), rfl, ⟨by rw [h9]; rfl, rfl⟩, by rw [← ht] at hP; exact hP⟩, hS.F ht⟩) hS.2.2 dX4_key_25
  · have h9 := h9
    refine lv_istore_n (lv' := [(2, .int (nI kk)), (0, .ref mo), (1, .int rr)]) hx hb dX4_key_10 rfl hl (by decide) rfl (fun ls hl => ?_)
    refine lv_iload_n hx hb dX4_key_11 rfl (lv_at hl 0 rfl) ?_
    refine lv_if_ge (tgt := 19) hx hb dX4_key_12 (by decide) (fun c_4 => ?_) (fun c_4 => ?_)
    · refine lv_aload_n hx hb dX4_key_19 rfl (lv_at hl 1 rfl) ?_
      refine va_get (D := G.1) (ci := 4) (v := .ref mw) (C := RX4) (T := TX4) (N := 7) hx hb hts hinX4 hown hK.1 hP 0 rfl rfl 2 (by decide) (hts (.fieldLink RX4 13 "ForkStoreModel" "words" "[J") (by decide +kernel)) (fun _ h9 => h9) rfl dX4_key_20 ?_
      refine lv_iload_n hx hb dX4_key_23 rfl (lv_at hl 0 rfl) ?_
      refine kz_lald hx hb hK.1 hP 2 1 rfl rfl (k := kk) (by omega) (by decide) dX4_key_24 ?_
      exact W.lret (v := mW kk) hx hb hr (fun t ht hW => ⟨⟨_, ([(mo, .inr (4, [.int 0, .ref mc, .ref mw, .ref mz, .ref mv, .ref mp, .ref mh])), (mc, .inl (gI G, 4, .inl (kz_z cs))), (mw, .inl (gJ G, 480, .inr (.inl mW))), (mz, .inl (gI G, 480, .inl (kz_z mZ))), (mv, .inl (gI G, 480, .inl mV)), (mp, .inl (gZ G, 3, .inl (kz_bo po))), (mh, .inl (gI G, 3, .inl (kz_pw pw)))] : va_W), rfl, ⟨by rw [h9]; rfl, rfl⟩, by rw [← ht] at hP; exact hP⟩, hS.F ht⟩) hS.2.2 dX4_key_25
    · exact absurd (nI_pos' (by omega)) c_4

set_option maxHeartbeats 4000000 in
set_option maxRecDepth 100000 in
theorem c_X4_length (l : Launch) (G : kz_G) (mo mc mw mz mv mp mh : Nat) (tv : Int32) (cs : Nat → Nat) (mW : Nat → Int64) (mZ : Nat → Nat) (mV : Nat → Int32) (po : Nat → Bool) (pw : Nat → Nat) (rr : Int32) (sz : Nat) (hcs : ∀ j, cs j ≤ 120) (hmz : ∀ j, mZ j ≤ 8) (hpw : ∀ j, pw j ≤ 100000) : Met l yX4_length wsX4_length { frames := 2, cells := 0, slots := 0, locals := 42 } (kz_Pm G [.ref mo, .int rr] [(mo, .inr (4, [.int tv, .ref mc, .ref mw, .ref mz, .ref mv, .ref mp, .ref mh])), (mc, .inl (gI G, 4, .inl (kz_z cs))), (mw, .inl (gJ G, 480, .inr (.inl mW))), (mz, .inl (gI G, 480, .inl (kz_z mZ))), (mv, .inl (gI G, 480, .inl mV)), (mp, .inl (gZ G, 3, .inl (kz_bo po))), (mh, .inl (gI G, 3, .inl (kz_pw pw)))] sz) (kz_Qi G (fun r w => r = ((kf_onc cs po pw rr).elim (-1) (fun kk => kz_z mZ kk) : Int32) ∧ w = [(mo, .inr (4, [.int 0, .ref mc, .ref mw, .ref mz, .ref mv, .ref mp, .ref mh])), (mc, .inl (gI G, 4, .inl (kz_z cs))), (mw, .inl (gJ G, 480, .inr (.inl mW))), (mz, .inl (gI G, 480, .inl (kz_z mZ))), (mv, .inl (gI G, 480, .inl mV)), (mp, .inl (gZ G, 3, .inl (kz_bo po))), (mh, .inl (gI G, 3, .inl (kz_pw pw)))]) (va_A [(mo, .inr (4, [.int tv, .ref mc, .ref mw, .ref mz, .ref mv, .ref mp, .ref mh])), (mc, .inl (gI G, 4, .inl (kz_z cs))), (mw, .inl (gJ G, 480, .inr (.inl mW))), (mz, .inl (gI G, 480, .inl (kz_z mZ))), (mv, .inl (gI G, 480, .inl mV)), (mp, .inl (gZ G, 3, .inl (kz_bo po))), (mh, .inl (gI G, 3, .inl (kz_pw pw)))] sz)) 0 0 (va_A [(mo, .inr (4, [.int tv, .ref mc, .ref mw, .ref mz, .ref mv, .ref mp, .ref mh])), (mc, .inl (gI G, 4, .inl (kz_z cs))), (mw, .inl (gJ G, 480, .inr (.inl mW))), (mz, .inl (gI G, 480, .inl (kz_z mZ))), (mv, .inl (gI G, 480, .inl mV)), (mp, .inl (gZ G, 3, .inl (kz_bo po))), (mh, .inl (gI G, 3, .inl (kz_pw pw)))] sz) := by
  refine Met.ofW (cc := cX4_length) (maxL := 3) (ret := (some .int)) (by decide) rfl ?_
  intro p e s m args below meth c s₁ B hml hv
  obtain ⟨rfl, hsz, hP, hK, hD0⟩ := hv
  have hx := B.exec
  have hb := B.bytes
  have hr := B.returns
  have hts := atoms_spec (ws := wsX4_length) B.pre
  have hown : s.vm.findClass RX4 = some m.cls := findClass_of_methodNamed B.named
  have hlocks := B.notSynchronized
  have hinX4 : ∀ w ∈ wsX40, w ∈ wsX4_length := by decide +kernel
  subst hsz
  have hD := hD0.self (sz := s.heap.size)
  generalize hAe : va_A [(mo, .inr (4, [.int tv, .ref mc, .ref mw, .ref mz, .ref mv, .ref mp, .ref mh])), (mc, .inl (gI G, 4, .inl (kz_z cs))), (mw, .inl (gJ G, 480, .inr (.inl mW))), (mz, .inl (gI G, 480, .inl (kz_z mZ))), (mv, .inl (gI G, 480, .inl mV)), (mp, .inl (gZ G, 3, .inl (kz_bo po))), (mh, .inl (gI G, 3, .inl (kz_pw pw)))] s.heap.size = A at hD ⊢
  have hA : ∀ q : Nat, s.heap.size ≤ q → A q := fun q h => by rw [← hAe]; exact Or.inr h
  have hS : va_S A s.heap s.heap [] := va_S.rf
  have hP : va_P G.1 vwCl [(mo, .inr (4, [.int tv, .ref mc, .ref mw, .ref mz, .ref mv, .ref mp, .ref mh])), (mc, .inl (gI G, 4, .inl (kz_z cs))), (mw, .inl (gJ G, 480, .inr (.inl mW))), (mz, .inl (gI G, 480, .inl (kz_z mZ))), (mv, .inl (gI G, 480, .inl mV)), (mp, .inl (gZ G, 3, .inl (kz_bo po))), (mh, .inl (gI G, 3, .inl (kz_pw pw)))] s.heap := hP
  have hl := lv_entry ([.ref mo, .int rr]) (n := 3) (Nat.le_of_ble_eq_true rfl)
  rw [lg_entry_eq]
  generalize (lg_sl ([.ref mo, .int rr]) ++ List.replicate (3 - (lg_sl ([.ref mo, .int rr])).length) Slot.unset).toArray = ls at hl ⊢
  have hl : lv_has ls 3 [(0, .ref mo), (1, .int rr)] := hl
  refine lv_aload_n hx hb dX4_length_0 rfl (lv_at hl 0 rfl) ?_
  refine lv_iconst (v := 0) hx hb dX4_length_1 (by decide) ?_
  refine va_put (D := G.1) (ci := 4) (v := .int 0) (ty := .int) (C := RX4) (T := TX4) (N := 7) hx hb hts hinX4 tyX4 tyX4_ok nmX4 hown hK.1 hP hD hS 0 rfl rfl 0 (by decide) (hts (.fieldLink RX4 30 "ForkStoreModel" "thrown" "I") (by decide +kernel)) (fun _ h9 => h9) rfl (by decide +kernel) rfl rfl (Nat.le_of_ble_eq_true rfl) dX4_length_2 (fun H locs hP hD hS => ?_)
  have hP : va_P G.1 vwCl [(mo, .inr (4, [.int 0, .ref mc, .ref mw, .ref mz, .ref mv, .ref mp, .ref mh])), (mc, .inl (gI G, 4, .inl (kz_z cs))), (mw, .inl (gJ G, 480, .inr (.inl mW))), (mz, .inl (gI G, 480, .inl (kz_z mZ))), (mv, .inl (gI G, 480, .inl mV)), (mp, .inl (gZ G, 3, .inl (kz_bo po))), (mh, .inl (gI G, 3, .inl (kz_pw pw)))] H := hP
  have hD : va_D A [(mo, .inr (4, [.int 0, .ref mc, .ref mw, .ref mz, .ref mv, .ref mp, .ref mh])), (mc, .inl (gI G, 4, .inl (kz_z cs))), (mw, .inl (gJ G, 480, .inr (.inl mW))), (mz, .inl (gI G, 480, .inl (kz_z mZ))), (mv, .inl (gI G, 480, .inl mV)), (mp, .inl (gZ G, 3, .inl (kz_bo po))), (mh, .inl (gI G, 3, .inl (kz_pw pw)))] := hD
  refine lv_aload_n hx hb dX4_length_5 rfl (lv_at hl 0 rfl) ?_
  refine lv_iload_n hx hb dX4_length_6 rfl (lv_at hl 1 rfl) ?_
  have hPc := hP.sub (ws' := [(mo, .inr (4, [.int 0, .ref mc, .ref mw, .ref mz, .ref mv, .ref mp, .ref mh])), (mc, .inl (gI G, 4, .inl (kz_z cs))), (mw, .inl (gJ G, 480, .inr (.inl mW))), (mz, .inl (gI G, 480, .inl (kz_z mZ))), (mv, .inl (gI G, 480, .inl mV)), (mp, .inl (gZ G, 3, .inl (kz_bo po))), (mh, .inl (gI G, 3, .inl (kz_pw pw)))]) [0, 1, 2, 3, 4, 5, 6] rfl
  refine vp_callSi (va_runV (As := [.int rr]) (rest := []) ⟨hx, hb, hml, hown, hts⟩ (c_X4_on l G mo mc mw mz mv mp mh 0 cs mW mZ mV po pw rr hcs hmz hpw) (cwV 1 hts gX4_length_X4_on rfl rfl rfl (by decide +kernel) ⟨Nat.le_of_ble_eq_true rfl, Nat.le_of_ble_eq_true rfl⟩) (kz_pv hK hPc (va_recv hK.1 hPc (ci := 4) (q0 := 0) rfl rfl)) rfl rfl hl.1 rfl (lv_room (Nat.le_of_ble_eq_true rfl)) dX4_length_7 ⟨Nat.zero_le _, Nat.zero_le _⟩).run (fun r_1 h_2 => ?_)
  rcases h_2 with ⟨rfl, h9⟩ | ⟨kk, hkk, rfl, h9⟩
  · have h9 := h9
    refine lv_istore_n (lv' := [(2, .int (-1)), (0, .ref mo), (1, .int rr)]) hx hb dX4_length_10 rfl hl (by decide) rfl (fun ls hl => ?_)
    refine lv_iload_n hx hb dX4_length_11 rfl (lv_at hl 0 rfl) ?_
    refine lv_if_ge (tgt := 19) hx hb dX4_length_12 (by decide) (fun c_3 => ?_) (fun c_3 => ?_)
    · exact absurd c_3 (by decide)
    · refine lv_iconst (v := (-1)) hx hb dX4_length_15 (by decide) ?_
      refine lv_goto (tgt := 25) hx hb dX4_length_16 (by decide) ?_
      exact W.iret (v := (-1)) hx hb hr (fun t ht hW => ⟨⟨_, ([(mo, .inr (4, [.int 0, .ref mc, .ref mw, .ref mz, .ref mv, .ref mp, .ref mh])), (mc, .inl (gI G, 4, .inl (kz_z cs))), (mw, .inl (gJ G, 480, .inr (.inl mW))), (mz, .inl (gI G, 480, .inl (kz_z mZ))), (mv, .inl (gI G, 480, .inl mV)), (mp, .inl (gZ G, 3, .inl (kz_bo po))), (mh, .inl (gI G, 3, .inl (kz_pw pw)))] : va_W), rfl, ⟨by rw [h9]; rfl, rfl⟩, by rw [← ht] at hP; exact hP⟩, hS.F ht⟩) hS.2.2 dX4_length_25
  · have h9 := h9
    refine lv_istore_n (lv' := [(2, .int (nI kk)), (0, .ref mo), (1, .int rr)]) hx hb dX4_length_10 rfl hl (by decide) rfl (fun ls hl => ?_)
    refine lv_iload_n hx hb dX4_length_11 rfl (lv_at hl 0 rfl) ?_
    refine lv_if_ge (tgt := 19) hx hb dX4_length_12 (by decide) (fun c_4 => ?_) (fun c_4 => ?_)
    · refine lv_aload_n hx hb dX4_length_19 rfl (lv_at hl 1 rfl) ?_
      refine va_get (D := G.1) (ci := 4) (v := .ref mz) (C := RX4) (T := TX4) (N := 7) hx hb hts hinX4 hown hK.1 hP 0 rfl rfl 3 (by decide) (hts (.fieldLink RX4 17 "ForkStoreModel" "sizes" "[I") (by decide +kernel)) (fun _ h9 => h9) rfl dX4_length_20 ?_
      refine lv_iload_n hx hb dX4_length_23 rfl (lv_at hl 0 rfl) ?_
      refine kz_iald hx hb hK.1 hP 3 0 rfl rfl (k := kk) (by omega) (by decide) dX4_length_24 ?_
      refine kz_asi (y := nI (mZ kk)) rfl ?_
      exact W.iret (v := nI (mZ kk)) hx hb hr (fun t ht hW => ⟨⟨_, ([(mo, .inr (4, [.int 0, .ref mc, .ref mw, .ref mz, .ref mv, .ref mp, .ref mh])), (mc, .inl (gI G, 4, .inl (kz_z cs))), (mw, .inl (gJ G, 480, .inr (.inl mW))), (mz, .inl (gI G, 480, .inl (kz_z mZ))), (mv, .inl (gI G, 480, .inl mV)), (mp, .inl (gZ G, 3, .inl (kz_bo po))), (mh, .inl (gI G, 3, .inl (kz_pw pw)))] : va_W), rfl, ⟨by rw [h9]; rfl, rfl⟩, by rw [← ht] at hP; exact hP⟩, hS.F ht⟩) hS.2.2 dX4_length_25
    · exact absurd (nI_pos' (by omega)) c_4

set_option maxHeartbeats 4000000 in
set_option maxRecDepth 100000 in
theorem c_X4_value (l : Launch) (G : kz_G) (mo mc mw mz mv mp mh : Nat) (tv : Int32) (cs : Nat → Nat) (mW : Nat → Int64) (mZ : Nat → Nat) (mV : Nat → Int32) (po : Nat → Bool) (pw : Nat → Nat) (rr : Int32) (sz : Nat) (hcs : ∀ j, cs j ≤ 120) (hmz : ∀ j, mZ j ≤ 8) (hpw : ∀ j, pw j ≤ 100000) : Met l yX4_value wsX4_value { frames := 2, cells := 0, slots := 0, locals := 42 } (kz_Pm G [.ref mo, .int rr] [(mo, .inr (4, [.int tv, .ref mc, .ref mw, .ref mz, .ref mv, .ref mp, .ref mh])), (mc, .inl (gI G, 4, .inl (kz_z cs))), (mw, .inl (gJ G, 480, .inr (.inl mW))), (mz, .inl (gI G, 480, .inl (kz_z mZ))), (mv, .inl (gI G, 480, .inl mV)), (mp, .inl (gZ G, 3, .inl (kz_bo po))), (mh, .inl (gI G, 3, .inl (kz_pw pw)))] sz) (kz_Qi G (fun r w => r = ((kf_onc cs po pw rr).elim 0 (fun kk => mV kk) : Int32) ∧ w = [(mo, .inr (4, [.int 0, .ref mc, .ref mw, .ref mz, .ref mv, .ref mp, .ref mh])), (mc, .inl (gI G, 4, .inl (kz_z cs))), (mw, .inl (gJ G, 480, .inr (.inl mW))), (mz, .inl (gI G, 480, .inl (kz_z mZ))), (mv, .inl (gI G, 480, .inl mV)), (mp, .inl (gZ G, 3, .inl (kz_bo po))), (mh, .inl (gI G, 3, .inl (kz_pw pw)))]) (va_A [(mo, .inr (4, [.int tv, .ref mc, .ref mw, .ref mz, .ref mv, .ref mp, .ref mh])), (mc, .inl (gI G, 4, .inl (kz_z cs))), (mw, .inl (gJ G, 480, .inr (.inl mW))), (mz, .inl (gI G, 480, .inl (kz_z mZ))), (mv, .inl (gI G, 480, .inl mV)), (mp, .inl (gZ G, 3, .inl (kz_bo po))), (mh, .inl (gI G, 3, .inl (kz_pw pw)))] sz)) 0 0 (va_A [(mo, .inr (4, [.int tv, .ref mc, .ref mw, .ref mz, .ref mv, .ref mp, .ref mh])), (mc, .inl (gI G, 4, .inl (kz_z cs))), (mw, .inl (gJ G, 480, .inr (.inl mW))), (mz, .inl (gI G, 480, .inl (kz_z mZ))), (mv, .inl (gI G, 480, .inl mV)), (mp, .inl (gZ G, 3, .inl (kz_bo po))), (mh, .inl (gI G, 3, .inl (kz_pw pw)))] sz) := by
  refine Met.ofW (cc := cX4_value) (maxL := 3) (ret := (some .int)) (by decide) rfl ?_
  intro p e s m args below meth c s₁ B hml hv
  obtain ⟨rfl, hsz, hP, hK, hD0⟩ := hv
  have hx := B.exec
  have hb := B.bytes
  have hr := B.returns
  have hts := atoms_spec (ws := wsX4_value) B.pre
  have hown : s.vm.findClass RX4 = some m.cls := findClass_of_methodNamed B.named
  have hlocks := B.notSynchronized
  have hinX4 : ∀ w ∈ wsX40, w ∈ wsX4_value := by decide +kernel
  subst hsz
  have hD := hD0.self (sz := s.heap.size)
  generalize hAe : va_A [(mo, .inr (4, [.int tv, .ref mc, .ref mw, .ref mz, .ref mv, .ref mp, .ref mh])), (mc, .inl (gI G, 4, .inl (kz_z cs))), (mw, .inl (gJ G, 480, .inr (.inl mW))), (mz, .inl (gI G, 480, .inl (kz_z mZ))), (mv, .inl (gI G, 480, .inl mV)), (mp, .inl (gZ G, 3, .inl (kz_bo po))), (mh, .inl (gI G, 3, .inl (kz_pw pw)))] s.heap.size = A at hD ⊢
  have hA : ∀ q : Nat, s.heap.size ≤ q → A q := fun q h => by rw [← hAe]; exact Or.inr h
  have hS : va_S A s.heap s.heap [] := va_S.rf
  have hP : va_P G.1 vwCl [(mo, .inr (4, [.int tv, .ref mc, .ref mw, .ref mz, .ref mv, .ref mp, .ref mh])), (mc, .inl (gI G, 4, .inl (kz_z cs))), (mw, .inl (gJ G, 480, .inr (.inl mW))), (mz, .inl (gI G, 480, .inl (kz_z mZ))), (mv, .inl (gI G, 480, .inl mV)), (mp, .inl (gZ G, 3, .inl (kz_bo po))), (mh, .inl (gI G, 3, .inl (kz_pw pw)))] s.heap := hP
  have hl := lv_entry ([.ref mo, .int rr]) (n := 3) (Nat.le_of_ble_eq_true rfl)
  rw [lg_entry_eq]
  generalize (lg_sl ([.ref mo, .int rr]) ++ List.replicate (3 - (lg_sl ([.ref mo, .int rr])).length) Slot.unset).toArray = ls at hl ⊢
  have hl : lv_has ls 3 [(0, .ref mo), (1, .int rr)] := hl
  refine lv_aload_n hx hb dX4_value_0 rfl (lv_at hl 0 rfl) ?_
  refine lv_iconst (v := 0) hx hb dX4_value_1 (by decide) ?_
  refine va_put (D := G.1) (ci := 4) (v := .int 0) (ty := .int) (C := RX4) (T := TX4) (N := 7) hx hb hts hinX4 tyX4 tyX4_ok nmX4 hown hK.1 hP hD hS 0 rfl rfl 0 (by decide) (hts (.fieldLink RX4 30 "ForkStoreModel" "thrown" "I") (by decide +kernel)) (fun _ h9 => h9) rfl (by decide +kernel) rfl rfl (Nat.le_of_ble_eq_true rfl) dX4_value_2 (fun H locs hP hD hS => ?_)
  have hP : va_P G.1 vwCl [(mo, .inr (4, [.int 0, .ref mc, .ref mw, .ref mz, .ref mv, .ref mp, .ref mh])), (mc, .inl (gI G, 4, .inl (kz_z cs))), (mw, .inl (gJ G, 480, .inr (.inl mW))), (mz, .inl (gI G, 480, .inl (kz_z mZ))), (mv, .inl (gI G, 480, .inl mV)), (mp, .inl (gZ G, 3, .inl (kz_bo po))), (mh, .inl (gI G, 3, .inl (kz_pw pw)))] H := hP
  have hD : va_D A [(mo, .inr (4, [.int 0, .ref mc, .ref mw, .ref mz, .ref mv, .ref mp, .ref mh])), (mc, .inl (gI G, 4, .inl (kz_z cs))), (mw, .inl (gJ G, 480, .inr (.inl mW))), (mz, .inl (gI G, 480, .inl (kz_z mZ))), (mv, .inl (gI G, 480, .inl mV)), (mp, .inl (gZ G, 3, .inl (kz_bo po))), (mh, .inl (gI G, 3, .inl (kz_pw pw)))] := hD
  refine lv_aload_n hx hb dX4_value_5 rfl (lv_at hl 0 rfl) ?_
  refine lv_iload_n hx hb dX4_value_6 rfl (lv_at hl 1 rfl) ?_
  have hPc := hP.sub (ws' := [(mo, .inr (4, [.int 0, .ref mc, .ref mw, .ref mz, .ref mv, .ref mp, .ref mh])), (mc, .inl (gI G, 4, .inl (kz_z cs))), (mw, .inl (gJ G, 480, .inr (.inl mW))), (mz, .inl (gI G, 480, .inl (kz_z mZ))), (mv, .inl (gI G, 480, .inl mV)), (mp, .inl (gZ G, 3, .inl (kz_bo po))), (mh, .inl (gI G, 3, .inl (kz_pw pw)))]) [0, 1, 2, 3, 4, 5, 6] rfl
  refine vp_callSi (va_runV (As := [.int rr]) (rest := []) ⟨hx, hb, hml, hown, hts⟩ (c_X4_on l G mo mc mw mz mv mp mh 0 cs mW mZ mV po pw rr hcs hmz hpw) (cwV 1 hts gX4_value_X4_on rfl rfl rfl (by decide +kernel) ⟨Nat.le_of_ble_eq_true rfl, Nat.le_of_ble_eq_true rfl⟩) (kz_pv hK hPc (va_recv hK.1 hPc (ci := 4) (q0 := 0) rfl rfl)) rfl rfl hl.1 rfl (lv_room (Nat.le_of_ble_eq_true rfl)) dX4_value_7 ⟨Nat.zero_le _, Nat.zero_le _⟩).run (fun r_1 h_2 => ?_)
  rcases h_2 with ⟨rfl, h9⟩ | ⟨kk, hkk, rfl, h9⟩
  · have h9 := h9
    refine lv_istore_n (lv' := [(2, .int (-1)), (0, .ref mo), (1, .int rr)]) hx hb dX4_value_10 rfl hl (by decide) rfl (fun ls hl => ?_)
    refine lv_iload_n hx hb dX4_value_11 rfl (lv_at hl 0 rfl) ?_
    refine lv_if_ge (tgt := 19) hx hb dX4_value_12 (by decide) (fun c_3 => ?_) (fun c_3 => ?_)
    · exact absurd c_3 (by decide)
    · refine lv_iconst (v := 0) hx hb dX4_value_15 (by decide) ?_
      refine lv_goto (tgt := 25) hx hb dX4_value_16 (by decide) ?_
      exact W.iret (v := 0) hx hb hr (fun t ht hW => ⟨⟨_, ([(mo, .inr (4, [.int 0, .ref mc, .ref mw, .ref mz, .ref mv, .ref mp, .ref mh])), (mc, .inl (gI G, 4, .inl (kz_z cs))), (mw, .inl (gJ G, 480, .inr (.inl mW))), (mz, .inl (gI G, 480, .inl (kz_z mZ))), (mv, .inl (gI G, 480, .inl mV)), (mp, .inl (gZ G, 3, .inl (kz_bo po))), (mh, .inl (gI G, 3, .inl (kz_pw pw)))] : va_W), rfl, ⟨by rw [h9]; rfl, rfl⟩, by rw [← ht] at hP; exact hP⟩, hS.F ht⟩) hS.2.2 dX4_value_25
  · have h9 := h9
    refine lv_istore_n (lv' := [(2, .int (nI kk)), (0, .ref mo), (1, .int rr)]) hx hb dX4_value_10 rfl hl (by decide) rfl (fun ls hl => ?_)
    refine lv_iload_n hx hb dX4_value_11 rfl (lv_at hl 0 rfl) ?_
    refine lv_if_ge (tgt := 19) hx hb dX4_value_12 (by decide) (fun c_4 => ?_) (fun c_4 => ?_)
    · refine lv_aload_n hx hb dX4_value_19 rfl (lv_at hl 1 rfl) ?_
      refine va_get (D := G.1) (ci := 4) (v := .ref mv) (C := RX4) (T := TX4) (N := 7) hx hb hts hinX4 hown hK.1 hP 0 rfl rfl 4 (by decide) (hts (.fieldLink RX4 20 "ForkStoreModel" "values" "[I") (by decide +kernel)) (fun _ h9 => h9) rfl dX4_value_20 ?_
      refine lv_iload_n hx hb dX4_value_23 rfl (lv_at hl 0 rfl) ?_
      refine kz_iald hx hb hK.1 hP 4 0 rfl rfl (k := kk) (by omega) (by decide) dX4_value_24 ?_
      exact W.iret (v := mV kk) hx hb hr (fun t ht hW => ⟨⟨_, ([(mo, .inr (4, [.int 0, .ref mc, .ref mw, .ref mz, .ref mv, .ref mp, .ref mh])), (mc, .inl (gI G, 4, .inl (kz_z cs))), (mw, .inl (gJ G, 480, .inr (.inl mW))), (mz, .inl (gI G, 480, .inl (kz_z mZ))), (mv, .inl (gI G, 480, .inl mV)), (mp, .inl (gZ G, 3, .inl (kz_bo po))), (mh, .inl (gI G, 3, .inl (kz_pw pw)))] : va_W), rfl, ⟨by rw [h9]; rfl, rfl⟩, by rw [← ht] at hP; exact hP⟩, hS.F ht⟩) hS.2.2 dX4_value_25
    · exact absurd (nI_pos' (by omega)) c_4
