set_option maxHeartbeats 4000000 in
set_option maxRecDepth 100000 in
theorem kl_case_10 {p : Program} {e : Env} {s : State} {m : MethodId} {below : List Frame} {meth : Method} {c : Code} {l : Launch} {b L : Nat} {xs : Nat → Int32} {dC : Nat → ClassId} {dI : Nat → Nat → Nat} {ax am : Nat → Nat} {cx cm : Nat → ClassId} {j : Nat} (hL : L ≤ 2050) (hj : 6 + 4 * j ≤ L) (C0 : kl_Ctx p s m c b L xs dC dI ax am cx cm) (fin : ∀ (s1 : kx_S) (u2 : km_S) (H : Heap) (locs : List Loc) (ls : Array Slot), kx_wf s1 → km_wf u2 → kr (1000 * (j + 1)) (100 * (j + 1)) 2 s1 u2 → va_P (dC, dI) vwCl (kx_w ax cx s1) H → va_P (dC, dI) vwCl (km_w am cm u2) H → va_S (fun q : Nat => s.heap.size ≤ q) s.heap H locs → lv_has ls 4 [(3, .int (nI (2 + 4 * j))), (0, .ref b), (1, .ref (ax 0)), (2, .ref (am 0))] → W p l e room_1 s m #[Value.ref b] below meth c H locs 39 317 (lw_Z below #[Value.ref b] s) (F0 m 684 ls [])) {σ : kx_S} {μ : km_S} {H : Heap} {locs : List Loc} {ls : Array Slot} (hwx : kx_wf σ) (hwm : km_wf μ) (hk : kr (1000 * j) (100 * j) 2 σ μ) (hPx : va_P (dC, dI) vwCl (kx_w ax cx σ) H) (hPm : va_P (dC, dI) vwCl (km_w am cm μ) H) (hS : va_S (fun q : Nat => s.heap.size ≤ q) s.heap H locs) (hl : lv_has ls 4 [(3, .int (nI (2 + 4 * j))), (0, .ref b), (1, .ref (ax 0)), (2, .ref (am 0))]) : W p l e room_1 s m #[Value.ref b] below meth c H locs 39 317 (lw_Z below #[Value.ref b] s) (F0 m 476 ls []) := by
  obtain ⟨hx, hb, hml, hown, hts, hX, hbl, hbA, hKx, hKm, hjx, hjm, hsep, hAx, hAm⟩ := C0
  have hN : 1000 * j < 2 ^ 30 := by omega
  refine lv_aload_n hx hb dL_law_476 rfl (lv_at hl 2 rfl) ?_
  refine lv_aload_n hx hb dL_law_477 rfl (lv_at hl 1 rfl) ?_
  refine lv_iload_n hx hb dL_law_478 rfl (lv_at hl 0 rfl) ?_
  refine lv_iconst (v := 1) hx hb dL_law_479 (by decide) ?_
  refine lv_iadd hx hb dL_law_480 ?_
  rw [show nI (2 + 4 * j) + 1 = nI (2 + 4 * j + 1) from nI_add _ 1]
  refine va_sld hx hb hX hbl hbA hS (vp_in_nI (n := (2 + 4 * j + 1)) (by omega) (by omega)) dL_law_481 ?_
  rw [nI_clamp (n := (2 + 4 * j + 1)) (by omega)]
  refine kk_ci2 (w := kx_w ax cx) (w2 := km_w am cm μ) (As := [.int (xs (2 + 4 * j + 1))]) (rest := []) ⟨hx, hb, hml, hown, hts⟩ (xc_receive l dC dI ax cx hjx σ hwx (xs (2 + 4 * j + 1)) ) (cwV 1 hts gl_66 rfl rfl rfl (by decide +kernel) ⟨Nat.le_of_ble_eq_true rfl, Nat.le_of_ble_eq_true rfl⟩) (va_recv hKx hPx (ci := 2) (q0 := 0) rfl rfl) hPx hKx hPm (kl_dm hsep) hS hAx rfl hl.1 rfl (Nat.le_of_ble_eq_true rfl) dL_law_482 ⟨Nat.le_of_ble_eq_true rfl, Nat.le_of_ble_eq_true rfl⟩ (fun r1 s1 H locs hq hPx hPm hS => ?_)
  obtain ⟨h1, hwx1⟩ := hq
  refine lv_aload_n hx hb dL_law_485 rfl (lv_at hl 3 rfl) ?_
  refine lv_aload_n hx hb dL_law_486 rfl (lv_at hl 1 rfl) ?_
  refine lv_iload_n hx hb dL_law_487 rfl (lv_at hl 0 rfl) ?_
  refine lv_iconst (v := 1) hx hb dL_law_488 (by decide) ?_
  refine lv_iadd hx hb dL_law_489 ?_
  rw [show nI (2 + 4 * j) + 1 = nI (2 + 4 * j + 1) from nI_add _ 1]
  refine va_sld hx hb hX hbl hbA hS (vp_in_nI (n := (2 + 4 * j + 1)) (by omega) (by omega)) dL_law_490 ?_
  rw [nI_clamp (n := (2 + 4 * j + 1)) (by omega)]
  refine kk_ci2 (w := km_w am cm) (w2 := kx_w ax cx s1) (As := [.int (xs (2 + 4 * j + 1))]) (rest := [.int r1]) ⟨hx, hb, hml, hown, hts⟩ (mc_receive l dC dI am cm hjm μ hwm (xs (2 + 4 * j + 1))) (cwV 1 hts gl_69 rfl rfl rfl (by decide +kernel) ⟨Nat.le_of_ble_eq_true rfl, Nat.le_of_ble_eq_true rfl⟩) (va_recv hKm hPm (ci := 3) (q0 := 0) rfl rfl) hPm hKm hPx (kl_dx hsep) hS hAm rfl hl.1 rfl (Nat.le_of_ble_eq_true rfl) dL_law_491 ⟨Nat.le_of_ble_eq_true rfl, Nat.le_of_ble_eq_true rfl⟩ (fun r2 u2 H locs hq hPm hPx hS => ?_)
  obtain ⟨h2, hwm1⟩ := hq
  have hkr := kr_receive (xs (2 + 4 * j + 1)) hN hk
  rw [h1, h2] at hkr
  obtain ⟨he, hk1⟩ := hkr
  refine lv_icmp_eq (tgt := 684) hx hb dL_law_494 (by decide) (fun _ => ?_) (fun c9 => absurd he c9)
  exact fin _ _ _ _ ls hwx1 hwm1 (kr_monoB (by omega) (kr_mono (by omega) hk1)) hPx hPm hS hl
set_option maxHeartbeats 4000000 in
set_option maxRecDepth 100000 in
theorem kl_case_11 {p : Program} {e : Env} {s : State} {m : MethodId} {below : List Frame} {meth : Method} {c : Code} {l : Launch} {b L : Nat} {xs : Nat → Int32} {dC : Nat → ClassId} {dI : Nat → Nat → Nat} {ax am : Nat → Nat} {cx cm : Nat → ClassId} {j : Nat} (hL : L ≤ 2050) (hj : 6 + 4 * j ≤ L) (C0 : kl_Ctx p s m c b L xs dC dI ax am cx cm) (fin : ∀ (s1 : kx_S) (u2 : km_S) (H : Heap) (locs : List Loc) (ls : Array Slot), kx_wf s1 → km_wf u2 → kr (1000 * (j + 1)) (100 * (j + 1)) 2 s1 u2 → va_P (dC, dI) vwCl (kx_w ax cx s1) H → va_P (dC, dI) vwCl (km_w am cm u2) H → va_S (fun q : Nat => s.heap.size ≤ q) s.heap H locs → lv_has ls 4 [(3, .int (nI (2 + 4 * j))), (0, .ref b), (1, .ref (ax 0)), (2, .ref (am 0))] → W p l e room_1 s m #[Value.ref b] below meth c H locs 39 317 (lw_Z below #[Value.ref b] s) (F0 m 684 ls [])) {σ : kx_S} {μ : km_S} {H : Heap} {locs : List Loc} {ls : Array Slot} (hwx : kx_wf σ) (hwm : km_wf μ) (hk : kr (1000 * j) (100 * j) 2 σ μ) (hPx : va_P (dC, dI) vwCl (kx_w ax cx σ) H) (hPm : va_P (dC, dI) vwCl (km_w am cm μ) H) (hS : va_S (fun q : Nat => s.heap.size ≤ q) s.heap H locs) (hl : lv_has ls 4 [(3, .int (nI (2 + 4 * j))), (0, .ref b), (1, .ref (ax 0)), (2, .ref (am 0))]) : W p l e room_1 s m #[Value.ref b] below meth c H locs 39 317 (lw_Z below #[Value.ref b] s) (F0 m 499 ls []) := by
  obtain ⟨hx, hb, hml, hown, hts, hX, hbl, hbA, hKx, hKm, hjx, hjm, hsep, hAx, hAm⟩ := C0
  have hN : 1000 * j < 2 ^ 30 := by omega
  refine lv_aload_n hx hb dL_law_499 rfl (lv_at hl 2 rfl) ?_
  refine lv_aload_n hx hb dL_law_500 rfl (lv_at hl 1 rfl) ?_
  refine lv_iload_n hx hb dL_law_501 rfl (lv_at hl 0 rfl) ?_
  refine lv_iconst (v := 1) hx hb dL_law_502 (by decide) ?_
  refine lv_iadd hx hb dL_law_503 ?_
  rw [show nI (2 + 4 * j) + 1 = nI (2 + 4 * j + 1) from nI_add _ 1]
  refine va_sld hx hb hX hbl hbA hS (vp_in_nI (n := (2 + 4 * j + 1)) (by omega) (by omega)) dL_law_504 ?_
  rw [nI_clamp (n := (2 + 4 * j + 1)) (by omega)]
  refine kk_ci2 (w := kx_w ax cx) (w2 := km_w am cm μ) (As := [.int (xs (2 + 4 * j + 1))]) (rest := []) ⟨hx, hb, hml, hown, hts⟩ (xc_sleep l dC dI ax cx hjx σ hwx (xs (2 + 4 * j + 1)) ) (cwV 1 hts gl_70 rfl rfl rfl (by decide +kernel) ⟨Nat.le_of_ble_eq_true rfl, Nat.le_of_ble_eq_true rfl⟩) (va_recv hKx hPx (ci := 2) (q0 := 0) rfl rfl) hPx hKx hPm (kl_dm hsep) hS hAx rfl hl.1 rfl (Nat.le_of_ble_eq_true rfl) dL_law_505 ⟨Nat.le_of_ble_eq_true rfl, Nat.le_of_ble_eq_true rfl⟩ (fun r1 s1 H locs hq hPx hPm hS => ?_)
  obtain ⟨h1, hwx1⟩ := hq
  refine lv_aload_n hx hb dL_law_508 rfl (lv_at hl 3 rfl) ?_
  refine lv_aload_n hx hb dL_law_509 rfl (lv_at hl 1 rfl) ?_
  refine lv_iload_n hx hb dL_law_510 rfl (lv_at hl 0 rfl) ?_
  refine lv_iconst (v := 1) hx hb dL_law_511 (by decide) ?_
  refine lv_iadd hx hb dL_law_512 ?_
  rw [show nI (2 + 4 * j) + 1 = nI (2 + 4 * j + 1) from nI_add _ 1]
  refine va_sld hx hb hX hbl hbA hS (vp_in_nI (n := (2 + 4 * j + 1)) (by omega) (by omega)) dL_law_513 ?_
  rw [nI_clamp (n := (2 + 4 * j + 1)) (by omega)]
  refine kk_ci2 (w := km_w am cm) (w2 := kx_w ax cx s1) (As := [.int (xs (2 + 4 * j + 1))]) (rest := [.int r1]) ⟨hx, hb, hml, hown, hts⟩ (mc_sleep l dC dI am cm hjm μ hwm (xs (2 + 4 * j + 1))) (cwV 1 hts gl_73 rfl rfl rfl (by decide +kernel) ⟨Nat.le_of_ble_eq_true rfl, Nat.le_of_ble_eq_true rfl⟩) (va_recv hKm hPm (ci := 3) (q0 := 0) rfl rfl) hPm hKm hPx (kl_dx hsep) hS hAm rfl hl.1 rfl (Nat.le_of_ble_eq_true rfl) dL_law_514 ⟨Nat.le_of_ble_eq_true rfl, Nat.le_of_ble_eq_true rfl⟩ (fun r2 u2 H locs hq hPm hPx hS => ?_)
  obtain ⟨h2, hwm1⟩ := hq
  have hkr := kr_sleep (xs (2 + 4 * j + 1)) hN (by omega) hk
  rw [h1, h2] at hkr
  obtain ⟨he, hk1⟩ := hkr
  refine lv_icmp_eq (tgt := 684) hx hb dL_law_517 (by decide) (fun _ => ?_) (fun c9 => absurd he c9)
  exact fin _ _ _ _ ls hwx1 hwm1 (kr_monoB (by omega) (kr_mono (by omega) hk1)) hPx hPm hS hl
set_option maxHeartbeats 4000000 in
set_option maxRecDepth 100000 in
theorem kl_case_12 {p : Program} {e : Env} {s : State} {m : MethodId} {below : List Frame} {meth : Method} {c : Code} {l : Launch} {b L : Nat} {xs : Nat → Int32} {dC : Nat → ClassId} {dI : Nat → Nat → Nat} {ax am : Nat → Nat} {cx cm : Nat → ClassId} {j : Nat} (hL : L ≤ 2050) (hj : 6 + 4 * j ≤ L) (C0 : kl_Ctx p s m c b L xs dC dI ax am cx cm) (fin : ∀ (s1 : kx_S) (u2 : km_S) (H : Heap) (locs : List Loc) (ls : Array Slot), kx_wf s1 → km_wf u2 → kr (1000 * (j + 1)) (100 * (j + 1)) 2 s1 u2 → va_P (dC, dI) vwCl (kx_w ax cx s1) H → va_P (dC, dI) vwCl (km_w am cm u2) H → va_S (fun q : Nat => s.heap.size ≤ q) s.heap H locs → lv_has ls 4 [(3, .int (nI (2 + 4 * j))), (0, .ref b), (1, .ref (ax 0)), (2, .ref (am 0))] → W p l e room_1 s m #[Value.ref b] below meth c H locs 39 317 (lw_Z below #[Value.ref b] s) (F0 m 684 ls [])) {σ : kx_S} {μ : km_S} {H : Heap} {locs : List Loc} {ls : Array Slot} (hwx : kx_wf σ) (hwm : km_wf μ) (hk : kr (1000 * j) (100 * j) 2 σ μ) (hPx : va_P (dC, dI) vwCl (kx_w ax cx σ) H) (hPm : va_P (dC, dI) vwCl (km_w am cm μ) H) (hS : va_S (fun q : Nat => s.heap.size ≤ q) s.heap H locs) (hl : lv_has ls 4 [(3, .int (nI (2 + 4 * j))), (0, .ref b), (1, .ref (ax 0)), (2, .ref (am 0))]) : W p l e room_1 s m #[Value.ref b] below meth c H locs 39 317 (lw_Z below #[Value.ref b] s) (F0 m 522 ls []) := by
  obtain ⟨hx, hb, hml, hown, hts, hX, hbl, hbA, hKx, hKm, hjx, hjm, hsep, hAx, hAm⟩ := C0
  have hN : 1000 * j < 2 ^ 30 := by omega
  refine lv_aload_n hx hb dL_law_522 rfl (lv_at hl 2 rfl) ?_
  refine lv_aload_n hx hb dL_law_523 rfl (lv_at hl 1 rfl) ?_
  refine lv_iload_n hx hb dL_law_524 rfl (lv_at hl 0 rfl) ?_
  refine lv_iconst (v := 1) hx hb dL_law_525 (by decide) ?_
  refine lv_iadd hx hb dL_law_526 ?_
  rw [show nI (2 + 4 * j) + 1 = nI (2 + 4 * j + 1) from nI_add _ 1]
  refine va_sld hx hb hX hbl hbA hS (vp_in_nI (n := (2 + 4 * j + 1)) (by omega) (by omega)) dL_law_527 ?_
  rw [nI_clamp (n := (2 + 4 * j + 1)) (by omega)]
  refine kk_ci2 (w := kx_w ax cx) (w2 := km_w am cm μ) (As := [.int (xs (2 + 4 * j + 1))]) (rest := []) ⟨hx, hb, hml, hown, hts⟩ (xc_join l dC dI ax cx hjx σ hwx (xs (2 + 4 * j + 1)) ) (cwV 1 hts gl_74 rfl rfl rfl (by decide +kernel) ⟨Nat.le_of_ble_eq_true rfl, Nat.le_of_ble_eq_true rfl⟩) (va_recv hKx hPx (ci := 2) (q0 := 0) rfl rfl) hPx hKx hPm (kl_dm hsep) hS hAx rfl hl.1 rfl (Nat.le_of_ble_eq_true rfl) dL_law_528 ⟨Nat.le_of_ble_eq_true rfl, Nat.le_of_ble_eq_true rfl⟩ (fun r1 s1 H locs hq hPx hPm hS => ?_)
  obtain ⟨h1, hwx1⟩ := hq
  refine lv_aload_n hx hb dL_law_531 rfl (lv_at hl 3 rfl) ?_
  refine lv_aload_n hx hb dL_law_532 rfl (lv_at hl 1 rfl) ?_
  refine lv_iload_n hx hb dL_law_533 rfl (lv_at hl 0 rfl) ?_
  refine lv_iconst (v := 1) hx hb dL_law_534 (by decide) ?_
  refine lv_iadd hx hb dL_law_535 ?_
  rw [show nI (2 + 4 * j) + 1 = nI (2 + 4 * j + 1) from nI_add _ 1]
  refine va_sld hx hb hX hbl hbA hS (vp_in_nI (n := (2 + 4 * j + 1)) (by omega) (by omega)) dL_law_536 ?_
  rw [nI_clamp (n := (2 + 4 * j + 1)) (by omega)]
  refine kk_ci2 (w := km_w am cm) (w2 := kx_w ax cx s1) (As := [.int (xs (2 + 4 * j + 1))]) (rest := [.int r1]) ⟨hx, hb, hml, hown, hts⟩ (mc_join l dC dI am cm hjm μ hwm (xs (2 + 4 * j + 1))) (cwV 1 hts gl_77 rfl rfl rfl (by decide +kernel) ⟨Nat.le_of_ble_eq_true rfl, Nat.le_of_ble_eq_true rfl⟩) (va_recv hKm hPm (ci := 3) (q0 := 0) rfl rfl) hPm hKm hPx (kl_dx hsep) hS hAm rfl hl.1 rfl (Nat.le_of_ble_eq_true rfl) dL_law_537 ⟨Nat.le_of_ble_eq_true rfl, Nat.le_of_ble_eq_true rfl⟩ (fun r2 u2 H locs hq hPm hPx hS => ?_)
  obtain ⟨h2, hwm1⟩ := hq
  have hkr := kr_join (xs (2 + 4 * j + 1)) hN hk
  rw [h1, h2] at hkr
  obtain ⟨he, hk1⟩ := hkr
  refine lv_icmp_eq (tgt := 684) hx hb dL_law_540 (by decide) (fun _ => ?_) (fun c9 => absurd he c9)
  exact fin _ _ _ _ ls hwx1 hwm1 (kr_monoB (by omega) (kr_mono (by omega) hk1)) hPx hPm hS hl
set_option maxHeartbeats 4000000 in
set_option maxRecDepth 100000 in
theorem kl_case_13 {p : Program} {e : Env} {s : State} {m : MethodId} {below : List Frame} {meth : Method} {c : Code} {l : Launch} {b L : Nat} {xs : Nat → Int32} {dC : Nat → ClassId} {dI : Nat → Nat → Nat} {ax am : Nat → Nat} {cx cm : Nat → ClassId} {j : Nat} (hL : L ≤ 2050) (hj : 6 + 4 * j ≤ L) (C0 : kl_Ctx p s m c b L xs dC dI ax am cx cm) (fin : ∀ (s1 : kx_S) (u2 : km_S) (H : Heap) (locs : List Loc) (ls : Array Slot), kx_wf s1 → km_wf u2 → kr (1000 * (j + 1)) (100 * (j + 1)) 2 s1 u2 → va_P (dC, dI) vwCl (kx_w ax cx s1) H → va_P (dC, dI) vwCl (km_w am cm u2) H → va_S (fun q : Nat => s.heap.size ≤ q) s.heap H locs → lv_has ls 4 [(3, .int (nI (2 + 4 * j))), (0, .ref b), (1, .ref (ax 0)), (2, .ref (am 0))] → W p l e room_1 s m #[Value.ref b] below meth c H locs 39 317 (lw_Z below #[Value.ref b] s) (F0 m 684 ls [])) {σ : kx_S} {μ : km_S} {H : Heap} {locs : List Loc} {ls : Array Slot} (hwx : kx_wf σ) (hwm : km_wf μ) (hk : kr (1000 * j) (100 * j) 2 σ μ) (hPx : va_P (dC, dI) vwCl (kx_w ax cx σ) H) (hPm : va_P (dC, dI) vwCl (km_w am cm μ) H) (hS : va_S (fun q : Nat => s.heap.size ≤ q) s.heap H locs) (hl : lv_has ls 4 [(3, .int (nI (2 + 4 * j))), (0, .ref b), (1, .ref (ax 0)), (2, .ref (am 0))]) : W p l e room_1 s m #[Value.ref b] below meth c H locs 39 317 (lw_Z below #[Value.ref b] s) (F0 m 545 ls []) := by
  obtain ⟨hx, hb, hml, hown, hts, hX, hbl, hbA, hKx, hKm, hjx, hjm, hsep, hAx, hAm⟩ := C0
  have hN : 1000 * j < 2 ^ 30 := by omega
  refine lv_aload_n hx hb dL_law_545 rfl (lv_at hl 2 rfl) ?_
  refine lv_aload_n hx hb dL_law_546 rfl (lv_at hl 1 rfl) ?_
  refine lv_iload_n hx hb dL_law_547 rfl (lv_at hl 0 rfl) ?_
  refine lv_iconst (v := 1) hx hb dL_law_548 (by decide) ?_
  refine lv_iadd hx hb dL_law_549 ?_
  rw [show nI (2 + 4 * j) + 1 = nI (2 + 4 * j + 1) from nI_add _ 1]
  refine va_sld hx hb hX hbl hbA hS (vp_in_nI (n := (2 + 4 * j + 1)) (by omega) (by omega)) dL_law_550 ?_
  rw [nI_clamp (n := (2 + 4 * j + 1)) (by omega)]
  refine kk_ci2 (w := kx_w ax cx) (w2 := km_w am cm μ) (As := [.int (xs (2 + 4 * j + 1))]) (rest := []) ⟨hx, hb, hml, hown, hts⟩ (xc_exit l dC dI ax cx hjx σ hwx (xs (2 + 4 * j + 1)) ) (cwV 1 hts gl_78 rfl rfl rfl (by decide +kernel) ⟨Nat.le_of_ble_eq_true rfl, Nat.le_of_ble_eq_true rfl⟩) (va_recv hKx hPx (ci := 2) (q0 := 0) rfl rfl) hPx hKx hPm (kl_dm hsep) hS hAx rfl hl.1 rfl (Nat.le_of_ble_eq_true rfl) dL_law_551 ⟨Nat.le_of_ble_eq_true rfl, Nat.le_of_ble_eq_true rfl⟩ (fun r1 s1 H locs hq hPx hPm hS => ?_)
  obtain ⟨h1, hwx1⟩ := hq
  refine lv_aload_n hx hb dL_law_554 rfl (lv_at hl 3 rfl) ?_
  refine lv_aload_n hx hb dL_law_555 rfl (lv_at hl 1 rfl) ?_
  refine lv_iload_n hx hb dL_law_556 rfl (lv_at hl 0 rfl) ?_
  refine lv_iconst (v := 1) hx hb dL_law_557 (by decide) ?_
  refine lv_iadd hx hb dL_law_558 ?_
  rw [show nI (2 + 4 * j) + 1 = nI (2 + 4 * j + 1) from nI_add _ 1]
  refine va_sld hx hb hX hbl hbA hS (vp_in_nI (n := (2 + 4 * j + 1)) (by omega) (by omega)) dL_law_559 ?_
  rw [nI_clamp (n := (2 + 4 * j + 1)) (by omega)]
  refine kk_ci2 (w := km_w am cm) (w2 := kx_w ax cx s1) (As := [.int (xs (2 + 4 * j + 1))]) (rest := [.int r1]) ⟨hx, hb, hml, hown, hts⟩ (mc_exit l dC dI am cm hjm μ hwm (xs (2 + 4 * j + 1))) (cwV 1 hts gl_81 rfl rfl rfl (by decide +kernel) ⟨Nat.le_of_ble_eq_true rfl, Nat.le_of_ble_eq_true rfl⟩) (va_recv hKm hPm (ci := 3) (q0 := 0) rfl rfl) hPm hKm hPx (kl_dx hsep) hS hAm rfl hl.1 rfl (Nat.le_of_ble_eq_true rfl) dL_law_560 ⟨Nat.le_of_ble_eq_true rfl, Nat.le_of_ble_eq_true rfl⟩ (fun r2 u2 H locs hq hPm hPx hS => ?_)
  obtain ⟨h2, hwm1⟩ := hq
  have hkr := kr_exit (xs (2 + 4 * j + 1)) hN hk
  rw [h1, h2] at hkr
  obtain ⟨he, hk1⟩ := hkr
  refine lv_icmp_eq (tgt := 684) hx hb dL_law_563 (by decide) (fun _ => ?_) (fun c9 => absurd he c9)
  exact fin _ _ _ _ ls hwx1 hwm1 (kr_monoB (by omega) (kr_mono (by omega) hk1)) hPx hPm hS hl
set_option maxHeartbeats 4000000 in
set_option maxRecDepth 100000 in
theorem kl_case_14 {p : Program} {e : Env} {s : State} {m : MethodId} {below : List Frame} {meth : Method} {c : Code} {l : Launch} {b L : Nat} {xs : Nat → Int32} {dC : Nat → ClassId} {dI : Nat → Nat → Nat} {ax am : Nat → Nat} {cx cm : Nat → ClassId} {j : Nat} (hL : L ≤ 2050) (hj : 6 + 4 * j ≤ L) (C0 : kl_Ctx p s m c b L xs dC dI ax am cx cm) (fin : ∀ (s1 : kx_S) (u2 : km_S) (H : Heap) (locs : List Loc) (ls : Array Slot), kx_wf s1 → km_wf u2 → kr (1000 * (j + 1)) (100 * (j + 1)) 2 s1 u2 → va_P (dC, dI) vwCl (kx_w ax cx s1) H → va_P (dC, dI) vwCl (km_w am cm u2) H → va_S (fun q : Nat => s.heap.size ≤ q) s.heap H locs → lv_has ls 4 [(3, .int (nI (2 + 4 * j))), (0, .ref b), (1, .ref (ax 0)), (2, .ref (am 0))] → W p l e room_1 s m #[Value.ref b] below meth c H locs 39 317 (lw_Z below #[Value.ref b] s) (F0 m 684 ls [])) {σ : kx_S} {μ : km_S} {H : Heap} {locs : List Loc} {ls : Array Slot} (hwx : kx_wf σ) (hwm : km_wf μ) (hk : kr (1000 * j) (100 * j) 2 σ μ) (hPx : va_P (dC, dI) vwCl (kx_w ax cx σ) H) (hPm : va_P (dC, dI) vwCl (km_w am cm μ) H) (hS : va_S (fun q : Nat => s.heap.size ≤ q) s.heap H locs) (hl : lv_has ls 4 [(3, .int (nI (2 + 4 * j))), (0, .ref b), (1, .ref (ax 0)), (2, .ref (am 0))]) : W p l e room_1 s m #[Value.ref b] below meth c H locs 39 317 (lw_Z below #[Value.ref b] s) (F0 m 568 ls []) := by
  obtain ⟨hx, hb, hml, hown, hts, hX, hbl, hbA, hKx, hKm, hjx, hjm, hsep, hAx, hAm⟩ := C0
  have hN : 1000 * j < 2 ^ 30 := by omega
  refine lv_aload_n hx hb dL_law_568 rfl (lv_at hl 2 rfl) ?_
  refine lv_aload_n hx hb dL_law_569 rfl (lv_at hl 1 rfl) ?_
  refine lv_iload_n hx hb dL_law_570 rfl (lv_at hl 0 rfl) ?_
  refine lv_iconst (v := 1) hx hb dL_law_571 (by decide) ?_
  refine lv_iadd hx hb dL_law_572 ?_
  rw [show nI (2 + 4 * j) + 1 = nI (2 + 4 * j + 1) from nI_add _ 1]
  refine va_sld hx hb hX hbl hbA hS (vp_in_nI (n := (2 + 4 * j + 1)) (by omega) (by omega)) dL_law_573 ?_
  rw [nI_clamp (n := (2 + 4 * j + 1)) (by omega)]
  refine kk_ci2 (w := kx_w ax cx) (w2 := km_w am cm μ) (As := [.int (xs (2 + 4 * j + 1))]) (rest := []) ⟨hx, hb, hml, hown, hts⟩ (xc_tick l dC dI ax cx hjx σ hwx (xs (2 + 4 * j + 1)) ) (cwV 1 hts gl_82 rfl rfl rfl (by decide +kernel) ⟨Nat.le_of_ble_eq_true rfl, Nat.le_of_ble_eq_true rfl⟩) (va_recv hKx hPx (ci := 2) (q0 := 0) rfl rfl) hPx hKx hPm (kl_dm hsep) hS hAx rfl hl.1 rfl (Nat.le_of_ble_eq_true rfl) dL_law_574 ⟨Nat.le_of_ble_eq_true rfl, Nat.le_of_ble_eq_true rfl⟩ (fun r1 s1 H locs hq hPx hPm hS => ?_)
  obtain ⟨h1, hwx1⟩ := hq
  refine lv_aload_n hx hb dL_law_577 rfl (lv_at hl 3 rfl) ?_
  refine lv_aload_n hx hb dL_law_578 rfl (lv_at hl 1 rfl) ?_
  refine lv_iload_n hx hb dL_law_579 rfl (lv_at hl 0 rfl) ?_
  refine lv_iconst (v := 1) hx hb dL_law_580 (by decide) ?_
  refine lv_iadd hx hb dL_law_581 ?_
  rw [show nI (2 + 4 * j) + 1 = nI (2 + 4 * j + 1) from nI_add _ 1]
  refine va_sld hx hb hX hbl hbA hS (vp_in_nI (n := (2 + 4 * j + 1)) (by omega) (by omega)) dL_law_582 ?_
  rw [nI_clamp (n := (2 + 4 * j + 1)) (by omega)]
  refine kk_ci2 (w := km_w am cm) (w2 := kx_w ax cx s1) (As := [.int (xs (2 + 4 * j + 1))]) (rest := [.int r1]) ⟨hx, hb, hml, hown, hts⟩ (mc_tick l dC dI am cm hjm μ hwm (xs (2 + 4 * j + 1))) (cwV 1 hts gl_85 rfl rfl rfl (by decide +kernel) ⟨Nat.le_of_ble_eq_true rfl, Nat.le_of_ble_eq_true rfl⟩) (va_recv hKm hPm (ci := 3) (q0 := 0) rfl rfl) hPm hKm hPx (kl_dx hsep) hS hAm rfl hl.1 rfl (Nat.le_of_ble_eq_true rfl) dL_law_583 ⟨Nat.le_of_ble_eq_true rfl, Nat.le_of_ble_eq_true rfl⟩ (fun r2 u2 H locs hq hPm hPx hS => ?_)
  obtain ⟨h2, hwm1⟩ := hq
  have hkr := kr_tick (xs (2 + 4 * j + 1)) (by omega) (by omega) hk
  rw [h1, h2] at hkr
  obtain ⟨he, hk1⟩ := hkr
  refine lv_icmp_eq (tgt := 684) hx hb dL_law_586 (by decide) (fun _ => ?_) (fun c9 => absurd he c9)
  exact fin _ _ _ _ ls hwx1 hwm1 (kr_monoB (by omega) (kr_mono (by omega) hk1)) hPx hPm hS hl
set_option maxHeartbeats 4000000 in
set_option maxRecDepth 100000 in
theorem kl_case_15 {p : Program} {e : Env} {s : State} {m : MethodId} {below : List Frame} {meth : Method} {c : Code} {l : Launch} {b L : Nat} {xs : Nat → Int32} {dC : Nat → ClassId} {dI : Nat → Nat → Nat} {ax am : Nat → Nat} {cx cm : Nat → ClassId} {j : Nat} (hL : L ≤ 2050) (hj : 6 + 4 * j ≤ L) (C0 : kl_Ctx p s m c b L xs dC dI ax am cx cm) (fin : ∀ (s1 : kx_S) (u2 : km_S) (H : Heap) (locs : List Loc) (ls : Array Slot), kx_wf s1 → km_wf u2 → kr (1000 * (j + 1)) (100 * (j + 1)) 2 s1 u2 → va_P (dC, dI) vwCl (kx_w ax cx s1) H → va_P (dC, dI) vwCl (km_w am cm u2) H → va_S (fun q : Nat => s.heap.size ≤ q) s.heap H locs → lv_has ls 4 [(3, .int (nI (2 + 4 * j))), (0, .ref b), (1, .ref (ax 0)), (2, .ref (am 0))] → W p l e room_1 s m #[Value.ref b] below meth c H locs 39 317 (lw_Z below #[Value.ref b] s) (F0 m 684 ls [])) {σ : kx_S} {μ : km_S} {H : Heap} {locs : List Loc} {ls : Array Slot} (hwx : kx_wf σ) (hwm : km_wf μ) (hk : kr (1000 * j) (100 * j) 2 σ μ) (hPx : va_P (dC, dI) vwCl (kx_w ax cx σ) H) (hPm : va_P (dC, dI) vwCl (km_w am cm μ) H) (hS : va_S (fun q : Nat => s.heap.size ≤ q) s.heap H locs) (hl : lv_has ls 4 [(3, .int (nI (2 + 4 * j))), (0, .ref b), (1, .ref (ax 0)), (2, .ref (am 0))]) : W p l e room_1 s m #[Value.ref b] below meth c H locs 39 317 (lw_Z below #[Value.ref b] s) (F0 m 591 ls []) := by
  obtain ⟨hx, hb, hml, hown, hts, hX, hbl, hbA, hKx, hKm, hjx, hjm, hsep, hAx, hAm⟩ := C0
  have hN : 1000 * j < 2 ^ 30 := by omega
  refine lv_aload_n hx hb dL_law_591 rfl (lv_at hl 2 rfl) ?_
  refine kk_ci2 (w := kx_w ax cx) (w2 := km_w am cm μ) (As := []) (rest := []) ⟨hx, hb, hml, hown, hts⟩ (xc_running l dC dI ax cx hjx σ hwx  ) (cwV 0 hts gl_86 rfl rfl rfl (by decide +kernel) ⟨Nat.le_of_ble_eq_true rfl, Nat.le_of_ble_eq_true rfl⟩) (va_recv hKx hPx (ci := 2) (q0 := 0) rfl rfl) hPx hKx hPm (kl_dm hsep) hS hAx rfl hl.1 rfl (Nat.le_of_ble_eq_true rfl) dL_law_592 ⟨Nat.le_of_ble_eq_true rfl, Nat.le_of_ble_eq_true rfl⟩ (fun r1 s1 H locs hq hPx hPm hS => ?_)
  obtain ⟨h1, hwx1⟩ := hq
  refine lv_aload_n hx hb dL_law_595 rfl (lv_at hl 3 rfl) ?_
  refine kk_ci2 (w := km_w am cm) (w2 := kx_w ax cx s1) (As := []) (rest := [.int r1]) ⟨hx, hb, hml, hown, hts⟩ (mc_running l dC dI am cm hjm μ hwm ) (cwV 0 hts gl_89 rfl rfl rfl (by decide +kernel) ⟨Nat.le_of_ble_eq_true rfl, Nat.le_of_ble_eq_true rfl⟩) (va_recv hKm hPm (ci := 3) (q0 := 0) rfl rfl) hPm hKm hPx (kl_dx hsep) hS hAm rfl hl.1 rfl (Nat.le_of_ble_eq_true rfl) dL_law_596 ⟨Nat.le_of_ble_eq_true rfl, Nat.le_of_ble_eq_true rfl⟩ (fun r2 u2 H locs hq hPm hPx hS => ?_)
  obtain ⟨h2, hwm1, -⟩ := hq
  have hkr := kr_running hN hk
  rw [h1, h2] at hkr
  obtain ⟨he, hk1⟩ := hkr
  refine lv_icmp_eq (tgt := 684) hx hb dL_law_599 (by decide) (fun _ => ?_) (fun c9 => absurd he c9)
  exact fin _ _ _ _ ls hwx1 hwm1 (kr_monoB (by omega) (kr_mono (by omega) hk1)) hPx hPm hS hl
set_option maxHeartbeats 4000000 in
set_option maxRecDepth 100000 in
theorem kl_case_16 {p : Program} {e : Env} {s : State} {m : MethodId} {below : List Frame} {meth : Method} {c : Code} {l : Launch} {b L : Nat} {xs : Nat → Int32} {dC : Nat → ClassId} {dI : Nat → Nat → Nat} {ax am : Nat → Nat} {cx cm : Nat → ClassId} {j : Nat} (hL : L ≤ 2050) (hj : 6 + 4 * j ≤ L) (C0 : kl_Ctx p s m c b L xs dC dI ax am cx cm) (fin : ∀ (s1 : kx_S) (u2 : km_S) (H : Heap) (locs : List Loc) (ls : Array Slot), kx_wf s1 → km_wf u2 → kr (1000 * (j + 1)) (100 * (j + 1)) 2 s1 u2 → va_P (dC, dI) vwCl (kx_w ax cx s1) H → va_P (dC, dI) vwCl (km_w am cm u2) H → va_S (fun q : Nat => s.heap.size ≤ q) s.heap H locs → lv_has ls 4 [(3, .int (nI (2 + 4 * j))), (0, .ref b), (1, .ref (ax 0)), (2, .ref (am 0))] → W p l e room_1 s m #[Value.ref b] below meth c H locs 39 317 (lw_Z below #[Value.ref b] s) (F0 m 684 ls [])) {σ : kx_S} {μ : km_S} {H : Heap} {locs : List Loc} {ls : Array Slot} (hwx : kx_wf σ) (hwm : km_wf μ) (hk : kr (1000 * j) (100 * j) 2 σ μ) (hPx : va_P (dC, dI) vwCl (kx_w ax cx σ) H) (hPm : va_P (dC, dI) vwCl (km_w am cm μ) H) (hS : va_S (fun q : Nat => s.heap.size ≤ q) s.heap H locs) (hl : lv_has ls 4 [(3, .int (nI (2 + 4 * j))), (0, .ref b), (1, .ref (ax 0)), (2, .ref (am 0))]) : W p l e room_1 s m #[Value.ref b] below meth c H locs 39 317 (lw_Z below #[Value.ref b] s) (F0 m 604 ls []) := by
  obtain ⟨hx, hb, hml, hown, hts, hX, hbl, hbA, hKx, hKm, hjx, hjm, hsep, hAx, hAm⟩ := C0
  have hN : 1000 * j < 2 ^ 30 := by omega
  refine lv_aload_n hx hb dL_law_604 rfl (lv_at hl 2 rfl) ?_
  refine lv_aload_n hx hb dL_law_605 rfl (lv_at hl 1 rfl) ?_
  refine lv_iload_n hx hb dL_law_606 rfl (lv_at hl 0 rfl) ?_
  refine lv_iconst (v := 1) hx hb dL_law_607 (by decide) ?_
  refine lv_iadd hx hb dL_law_608 ?_
  rw [show nI (2 + 4 * j) + 1 = nI (2 + 4 * j + 1) from nI_add _ 1]
  refine va_sld hx hb hX hbl hbA hS (vp_in_nI (n := (2 + 4 * j + 1)) (by omega) (by omega)) dL_law_609 ?_
  rw [nI_clamp (n := (2 + 4 * j + 1)) (by omega)]
  refine lv_aload_n hx hb dL_law_610 rfl (lv_at hl 1 rfl) ?_
  refine lv_iload_n hx hb dL_law_611 rfl (lv_at hl 0 rfl) ?_
  refine lv_iconst (v := 2) hx hb dL_law_612 (by decide) ?_
  refine lv_iadd hx hb dL_law_613 ?_
  rw [show nI (2 + 4 * j) + 2 = nI (2 + 4 * j + 2) from nI_add _ 2]
  refine va_sld hx hb hX hbl hbA hS (vp_in_nI (n := (2 + 4 * j + 2)) (by omega) (by omega)) dL_law_614 ?_
  rw [nI_clamp (n := (2 + 4 * j + 2)) (by omega)]
  refine kk_cl2 (w := kx_w ax cx) (w2 := km_w am cm μ) (As := [.int (xs (2 + 4 * j + 1)), .int (xs (2 + 4 * j + 2))]) (rest := []) ⟨hx, hb, hml, hown, hts⟩ (xc_tell l dC dI ax cx hjx σ hwx (xs (2 + 4 * j + 1)) (xs (2 + 4 * j + 2)) ) (cwV 2 hts gl_90 rfl rfl rfl (by decide +kernel) ⟨Nat.le_of_ble_eq_true rfl, Nat.le_of_ble_eq_true rfl⟩) (va_recv hKx hPx (ci := 2) (q0 := 0) rfl rfl) hPx hKx hPm (kl_dm hsep) hS hAx rfl hl.1 rfl (Nat.le_of_ble_eq_true rfl) dL_law_615 ⟨Nat.le_of_ble_eq_true rfl, Nat.le_of_ble_eq_true rfl⟩ (fun r1 s1 H locs hq hPx hPm hS => ?_)
  obtain ⟨h1, hwx1⟩ := hq
  refine lv_aload_n hx hb dL_law_618 rfl (lv_at hl 3 rfl) ?_
  refine lv_aload_n hx hb dL_law_619 rfl (lv_at hl 1 rfl) ?_
  refine lv_iload_n hx hb dL_law_620 rfl (lv_at hl 0 rfl) ?_
  refine lv_iconst (v := 1) hx hb dL_law_621 (by decide) ?_
  refine lv_iadd hx hb dL_law_622 ?_
  rw [show nI (2 + 4 * j) + 1 = nI (2 + 4 * j + 1) from nI_add _ 1]
  refine va_sld hx hb hX hbl hbA hS (vp_in_nI (n := (2 + 4 * j + 1)) (by omega) (by omega)) dL_law_623 ?_
  rw [nI_clamp (n := (2 + 4 * j + 1)) (by omega)]
  refine lv_aload_n hx hb dL_law_624 rfl (lv_at hl 1 rfl) ?_
  refine lv_iload_n hx hb dL_law_625 rfl (lv_at hl 0 rfl) ?_
  refine lv_iconst (v := 2) hx hb dL_law_626 (by decide) ?_
  refine lv_iadd hx hb dL_law_627 ?_
  rw [show nI (2 + 4 * j) + 2 = nI (2 + 4 * j + 2) from nI_add _ 2]
  refine va_sld hx hb hX hbl hbA hS (vp_in_nI (n := (2 + 4 * j + 2)) (by omega) (by omega)) dL_law_628 ?_
  rw [nI_clamp (n := (2 + 4 * j + 2)) (by omega)]
  refine kk_cl2 (w := km_w am cm) (w2 := kx_w ax cx s1) (As := [.int (xs (2 + 4 * j + 1)), .int (xs (2 + 4 * j + 2))]) (rest := [.long r1]) ⟨hx, hb, hml, hown, hts⟩ (mc_tell l dC dI am cm hjm μ hwm (xs (2 + 4 * j + 1)) (xs (2 + 4 * j + 2))) (cwV 2 hts gl_94 rfl rfl rfl (by decide +kernel) ⟨Nat.le_of_ble_eq_true rfl, Nat.le_of_ble_eq_true rfl⟩) (va_recv hKm hPm (ci := 3) (q0 := 0) rfl rfl) hPm hKm hPx (kl_dx hsep) hS hAm rfl hl.1 rfl (Nat.le_of_ble_eq_true rfl) dL_law_629 ⟨Nat.le_of_ble_eq_true rfl, Nat.le_of_ble_eq_true rfl⟩ (fun r2 u2 H locs hq hPm hPx hS => ?_)
  obtain ⟨h2, hwm1⟩ := hq
  have hkr := kr_tell (xs (2 + 4 * j + 1)) (xs (2 + 4 * j + 2)) hk
  rw [h1, h2] at hkr
  obtain ⟨he, hk1⟩ := hkr
  refine W.lcmp hx hb dL_law_632 ?_
  refine lv_if_eq (tgt := 684) hx hb dL_law_633 (by decide) (fun _ => ?_) (fun c9 => absurd ((lg_cmp_eq _ _).mpr he) c9)
  exact fin _ _ _ _ ls hwx1 hwm1 (kr_monoB (by omega) (kr_mono (by omega) hk1)) hPx hPm hS hl
set_option maxHeartbeats 4000000 in
set_option maxRecDepth 100000 in
theorem kl_case_17 {p : Program} {e : Env} {s : State} {m : MethodId} {below : List Frame} {meth : Method} {c : Code} {l : Launch} {b L : Nat} {xs : Nat → Int32} {dC : Nat → ClassId} {dI : Nat → Nat → Nat} {ax am : Nat → Nat} {cx cm : Nat → ClassId} {j : Nat} (hL : L ≤ 2050) (hj : 6 + 4 * j ≤ L) (C0 : kl_Ctx p s m c b L xs dC dI ax am cx cm) (fin : ∀ (s1 : kx_S) (u2 : km_S) (H : Heap) (locs : List Loc) (ls : Array Slot), kx_wf s1 → km_wf u2 → kr (1000 * (j + 1)) (100 * (j + 1)) 2 s1 u2 → va_P (dC, dI) vwCl (kx_w ax cx s1) H → va_P (dC, dI) vwCl (km_w am cm u2) H → va_S (fun q : Nat => s.heap.size ≤ q) s.heap H locs → lv_has ls 4 [(3, .int (nI (2 + 4 * j))), (0, .ref b), (1, .ref (ax 0)), (2, .ref (am 0))] → W p l e room_1 s m #[Value.ref b] below meth c H locs 39 317 (lw_Z below #[Value.ref b] s) (F0 m 684 ls [])) {σ : kx_S} {μ : km_S} {H : Heap} {locs : List Loc} {ls : Array Slot} (hwx : kx_wf σ) (hwm : km_wf μ) (hk : kr (1000 * j) (100 * j) 2 σ μ) (hPx : va_P (dC, dI) vwCl (kx_w ax cx σ) H) (hPm : va_P (dC, dI) vwCl (km_w am cm μ) H) (hS : va_S (fun q : Nat => s.heap.size ≤ q) s.heap H locs) (hl : lv_has ls 4 [(3, .int (nI (2 + 4 * j))), (0, .ref b), (1, .ref (ax 0)), (2, .ref (am 0))]) : W p l e room_1 s m #[Value.ref b] below meth c H locs 39 317 (lw_Z below #[Value.ref b] s) (F0 m 638 ls []) := by
  obtain ⟨hx, hb, hml, hown, hts, hX, hbl, hbA, hKx, hKm, hjx, hjm, hsep, hAx, hAm⟩ := C0
  have hN : 1000 * j < 2 ^ 30 := by omega
  refine lv_aload_n hx hb dL_law_638 rfl (lv_at hl 2 rfl) ?_
  refine lv_aload_n hx hb dL_law_639 rfl (lv_at hl 1 rfl) ?_
  refine lv_iload_n hx hb dL_law_640 rfl (lv_at hl 0 rfl) ?_
  refine lv_iconst (v := 1) hx hb dL_law_641 (by decide) ?_
  refine lv_iadd hx hb dL_law_642 ?_
  rw [show nI (2 + 4 * j) + 1 = nI (2 + 4 * j + 1) from nI_add _ 1]
  refine va_sld hx hb hX hbl hbA hS (vp_in_nI (n := (2 + 4 * j + 1)) (by omega) (by omega)) dL_law_643 ?_
  rw [nI_clamp (n := (2 + 4 * j + 1)) (by omega)]
  refine kk_ci2 (w := kx_w ax cx) (w2 := km_w am cm μ) (As := [.int (xs (2 + 4 * j + 1))]) (rest := []) ⟨hx, hb, hml, hown, hts⟩ (xc_owner l dC dI ax cx hjx σ hwx (xs (2 + 4 * j + 1)) ) (cwV 1 hts gl_95 rfl rfl rfl (by decide +kernel) ⟨Nat.le_of_ble_eq_true rfl, Nat.le_of_ble_eq_true rfl⟩) (va_recv hKx hPx (ci := 2) (q0 := 0) rfl rfl) hPx hKx hPm (kl_dm hsep) hS hAx rfl hl.1 rfl (Nat.le_of_ble_eq_true rfl) dL_law_644 ⟨Nat.le_of_ble_eq_true rfl, Nat.le_of_ble_eq_true rfl⟩ (fun r1 s1 H locs hq hPx hPm hS => ?_)
  obtain ⟨h1, hwx1⟩ := hq
  refine lv_aload_n hx hb dL_law_647 rfl (lv_at hl 3 rfl) ?_
  refine lv_aload_n hx hb dL_law_648 rfl (lv_at hl 1 rfl) ?_
  refine lv_iload_n hx hb dL_law_649 rfl (lv_at hl 0 rfl) ?_
  refine lv_iconst (v := 1) hx hb dL_law_650 (by decide) ?_
  refine lv_iadd hx hb dL_law_651 ?_
  rw [show nI (2 + 4 * j) + 1 = nI (2 + 4 * j + 1) from nI_add _ 1]
  refine va_sld hx hb hX hbl hbA hS (vp_in_nI (n := (2 + 4 * j + 1)) (by omega) (by omega)) dL_law_652 ?_
  rw [nI_clamp (n := (2 + 4 * j + 1)) (by omega)]
  refine kk_ci2 (w := km_w am cm) (w2 := kx_w ax cx s1) (As := [.int (xs (2 + 4 * j + 1))]) (rest := [.int r1]) ⟨hx, hb, hml, hown, hts⟩ (mc_owner l dC dI am cm hjm μ hwm (xs (2 + 4 * j + 1))) (cwV 1 hts gl_98 rfl rfl rfl (by decide +kernel) ⟨Nat.le_of_ble_eq_true rfl, Nat.le_of_ble_eq_true rfl⟩) (va_recv hKm hPm (ci := 3) (q0 := 0) rfl rfl) hPm hKm hPx (kl_dx hsep) hS hAm rfl hl.1 rfl (Nat.le_of_ble_eq_true rfl) dL_law_653 ⟨Nat.le_of_ble_eq_true rfl, Nat.le_of_ble_eq_true rfl⟩ (fun r2 u2 H locs hq hPm hPx hS => ?_)
  obtain ⟨h2, hwm1⟩ := hq
  have hkr := kr_owner (xs (2 + 4 * j + 1)) hk
  rw [h1, h2] at hkr
  obtain ⟨he, hk1⟩ := hkr
  refine lv_icmp_eq (tgt := 684) hx hb dL_law_656 (by decide) (fun _ => ?_) (fun c9 => absurd he c9)
  exact fin _ _ _ _ ls hwx1 hwm1 (kr_monoB (by omega) (kr_mono (by omega) hk1)) hPx hPm hS hl
set_option maxHeartbeats 4000000 in
set_option maxRecDepth 100000 in
theorem kl_case_18 {p : Program} {e : Env} {s : State} {m : MethodId} {below : List Frame} {meth : Method} {c : Code} {l : Launch} {b L : Nat} {xs : Nat → Int32} {dC : Nat → ClassId} {dI : Nat → Nat → Nat} {ax am : Nat → Nat} {cx cm : Nat → ClassId} {j : Nat} (hL : L ≤ 2050) (hj : 6 + 4 * j ≤ L) (C0 : kl_Ctx p s m c b L xs dC dI ax am cx cm) (fin : ∀ (s1 : kx_S) (u2 : km_S) (H : Heap) (locs : List Loc) (ls : Array Slot), kx_wf s1 → km_wf u2 → kr (1000 * (j + 1)) (100 * (j + 1)) 2 s1 u2 → va_P (dC, dI) vwCl (kx_w ax cx s1) H → va_P (dC, dI) vwCl (km_w am cm u2) H → va_S (fun q : Nat => s.heap.size ≤ q) s.heap H locs → lv_has ls 4 [(3, .int (nI (2 + 4 * j))), (0, .ref b), (1, .ref (ax 0)), (2, .ref (am 0))] → W p l e room_1 s m #[Value.ref b] below meth c H locs 39 317 (lw_Z below #[Value.ref b] s) (F0 m 684 ls [])) {σ : kx_S} {μ : km_S} {H : Heap} {locs : List Loc} {ls : Array Slot} (hwx : kx_wf σ) (hwm : km_wf μ) (hk : kr (1000 * j) (100 * j) 2 σ μ) (hPx : va_P (dC, dI) vwCl (kx_w ax cx σ) H) (hPm : va_P (dC, dI) vwCl (km_w am cm μ) H) (hS : va_S (fun q : Nat => s.heap.size ≤ q) s.heap H locs) (hl : lv_has ls 4 [(3, .int (nI (2 + 4 * j))), (0, .ref b), (1, .ref (ax 0)), (2, .ref (am 0))]) : W p l e room_1 s m #[Value.ref b] below meth c H locs 39 317 (lw_Z below #[Value.ref b] s) (F0 m 661 ls []) := by
  obtain ⟨hx, hb, hml, hown, hts, hX, hbl, hbA, hKx, hKm, hjx, hjm, hsep, hAx, hAm⟩ := C0
  have hN : 1000 * j < 2 ^ 30 := by omega
  refine lv_aload_n hx hb dL_law_661 rfl (lv_at hl 2 rfl) ?_
  refine lv_aload_n hx hb dL_law_662 rfl (lv_at hl 1 rfl) ?_
  refine lv_iload_n hx hb dL_law_663 rfl (lv_at hl 0 rfl) ?_
  refine lv_iconst (v := 1) hx hb dL_law_664 (by decide) ?_
  refine lv_iadd hx hb dL_law_665 ?_
  rw [show nI (2 + 4 * j) + 1 = nI (2 + 4 * j + 1) from nI_add _ 1]
  refine va_sld hx hb hX hbl hbA hS (vp_in_nI (n := (2 + 4 * j + 1)) (by omega) (by omega)) dL_law_666 ?_
  rw [nI_clamp (n := (2 + 4 * j + 1)) (by omega)]
  refine kk_ci2 (w := kx_w ax cx) (w2 := km_w am cm μ) (As := [.int (xs (2 + 4 * j + 1))]) (rest := []) ⟨hx, hb, hml, hown, hts⟩ (xc_count l dC dI ax cx hjx σ hwx (xs (2 + 4 * j + 1)) ) (cwV 1 hts gl_99 rfl rfl rfl (by decide +kernel) ⟨Nat.le_of_ble_eq_true rfl, Nat.le_of_ble_eq_true rfl⟩) (va_recv hKx hPx (ci := 2) (q0 := 0) rfl rfl) hPx hKx hPm (kl_dm hsep) hS hAx rfl hl.1 rfl (Nat.le_of_ble_eq_true rfl) dL_law_667 ⟨Nat.le_of_ble_eq_true rfl, Nat.le_of_ble_eq_true rfl⟩ (fun r1 s1 H locs hq hPx hPm hS => ?_)
  obtain ⟨h1, hwx1⟩ := hq
  refine lv_aload_n hx hb dL_law_670 rfl (lv_at hl 3 rfl) ?_
  refine lv_aload_n hx hb dL_law_671 rfl (lv_at hl 1 rfl) ?_
  refine lv_iload_n hx hb dL_law_672 rfl (lv_at hl 0 rfl) ?_
  refine lv_iconst (v := 1) hx hb dL_law_673 (by decide) ?_
  refine lv_iadd hx hb dL_law_674 ?_
  rw [show nI (2 + 4 * j) + 1 = nI (2 + 4 * j + 1) from nI_add _ 1]
  refine va_sld hx hb hX hbl hbA hS (vp_in_nI (n := (2 + 4 * j + 1)) (by omega) (by omega)) dL_law_675 ?_
  rw [nI_clamp (n := (2 + 4 * j + 1)) (by omega)]
  refine kk_ci2 (w := km_w am cm) (w2 := kx_w ax cx s1) (As := [.int (xs (2 + 4 * j + 1))]) (rest := [.int r1]) ⟨hx, hb, hml, hown, hts⟩ (mc_count l dC dI am cm hjm μ hwm (xs (2 + 4 * j + 1))) (cwV 1 hts gl_102 rfl rfl rfl (by decide +kernel) ⟨Nat.le_of_ble_eq_true rfl, Nat.le_of_ble_eq_true rfl⟩) (va_recv hKm hPm (ci := 3) (q0 := 0) rfl rfl) hPm hKm hPx (kl_dx hsep) hS hAm rfl hl.1 rfl (Nat.le_of_ble_eq_true rfl) dL_law_676 ⟨Nat.le_of_ble_eq_true rfl, Nat.le_of_ble_eq_true rfl⟩ (fun r2 u2 H locs hq hPm hPx hS => ?_)
  obtain ⟨h2, hwm1⟩ := hq
  have hkr := kr_count (xs (2 + 4 * j + 1)) hk
  rw [h1, h2] at hkr
  obtain ⟨he, hk1⟩ := hkr
  refine lv_icmp_eq (tgt := 684) hx hb dL_law_679 (by decide) (fun _ => ?_) (fun c9 => absurd he c9)
  exact fin _ _ _ _ ls hwx1 hwm1 (kr_monoB (by omega) (kr_mono (by omega) hk1)) hPx hPm hS hl
