set_option maxHeartbeats 4000000 in
set_option maxRecDepth 100000 in
theorem kl_case_0 {p : Program} {e : Env} {s : State} {m : MethodId} {below : List Frame} {meth : Method} {c : Code} {l : Launch} {b L : Nat} {xs : Nat → Int32} {dC : Nat → ClassId} {dI : Nat → Nat → Nat} {ax am : Nat → Nat} {cx cm : Nat → ClassId} {j : Nat} (hL : L ≤ 2050) (hj : 6 + 4 * j ≤ L) (C0 : kl_Ctx p s m c b L xs dC dI ax am cx cm) (fin : ∀ (s1 : kx_S) (u2 : km_S) (H : Heap) (locs : List Loc) (ls : Array Slot), kx_wf s1 → km_wf u2 → kr (1000 * (j + 1)) (100 * (j + 1)) 2 s1 u2 → va_P (dC, dI) vwCl (kx_w ax cx s1) H → va_P (dC, dI) vwCl (km_w am cm u2) H → va_S (fun q : Nat => s.heap.size ≤ q) s.heap H locs → lv_has ls 4 [(3, .int (nI (2 + 4 * j))), (0, .ref b), (1, .ref (ax 0)), (2, .ref (am 0))] → W p l e room_1 s m #[Value.ref b] below meth c H locs 39 317 (lw_Z below #[Value.ref b] s) (F0 m 684 ls [])) {σ : kx_S} {μ : km_S} {H : Heap} {locs : List Loc} {ls : Array Slot} (hwx : kx_wf σ) (hwm : km_wf μ) (hk : kr (1000 * j) (100 * j) 2 σ μ) (hPx : va_P (dC, dI) vwCl (kx_w ax cx σ) H) (hPm : va_P (dC, dI) vwCl (km_w am cm μ) H) (hS : va_S (fun q : Nat => s.heap.size ≤ q) s.heap H locs) (hl : lv_has ls 4 [(3, .int (nI (2 + 4 * j))), (0, .ref b), (1, .ref (ax 0)), (2, .ref (am 0))]) : W p l e room_1 s m #[Value.ref b] below meth c H locs 39 317 (lw_Z below #[Value.ref b] s) (F0 m 144 ls []) := by
  obtain ⟨hx, hb, hml, hown, hts, hX, hbl, hbA, hKx, hKm, hjx, hjm, hsep, hAx, hAm⟩ := C0
  have hN : 1000 * j < 2 ^ 30 := by omega
  refine lv_aload_n hx hb dL_law_144 rfl (lv_at hl 2 rfl) ?_
  refine lv_aload_n hx hb dL_law_145 rfl (lv_at hl 1 rfl) ?_
  refine lv_iload_n hx hb dL_law_146 rfl (lv_at hl 0 rfl) ?_
  refine lv_iconst (v := 1) hx hb dL_law_147 (by decide) ?_
  refine lv_iadd hx hb dL_law_148 ?_
  rw [show nI (2 + 4 * j) + 1 = nI (2 + 4 * j + 1) from nI_add _ 1]
  refine va_sld hx hb hX hbl hbA hS (vp_in_nI (n := (2 + 4 * j + 1)) (by omega) (by omega)) dL_law_149 ?_
  rw [nI_clamp (n := (2 + 4 * j + 1)) (by omega)]
  refine lv_aload_n hx hb dL_law_150 rfl (lv_at hl 1 rfl) ?_
  refine lv_iload_n hx hb dL_law_151 rfl (lv_at hl 0 rfl) ?_
  refine lv_iconst (v := 2) hx hb dL_law_152 (by decide) ?_
  refine lv_iadd hx hb dL_law_153 ?_
  rw [show nI (2 + 4 * j) + 2 = nI (2 + 4 * j + 2) from nI_add _ 2]
  refine va_sld hx hb hX hbl hbA hS (vp_in_nI (n := (2 + 4 * j + 2)) (by omega) (by omega)) dL_law_154 ?_
  rw [nI_clamp (n := (2 + 4 * j + 2)) (by omega)]
  refine lv_if_eq (tgt := 162) hx hb dL_law_155 (by decide) (fun c_155 => ?_) (fun c_155 => ?_)
  · skip
    refine lv_iconst (v := 0) hx hb dL_law_162 (by decide) ?_
    refine kk_ci2 (w := kx_w ax cx) (w2 := km_w am cm μ) (As := [.int (xs (2 + 4 * j + 1)), .int 0]) (rest := []) ⟨hx, hb, hml, hown, hts⟩ (xc_spawn l dC dI ax cx hjx σ hwx (xs (2 + 4 * j + 1)) 0 (Or.inl rfl)) (cwV 2 hts gl_21 rfl rfl rfl (by decide +kernel) ⟨Nat.le_of_ble_eq_true rfl, Nat.le_of_ble_eq_true rfl⟩) (va_recv hKx hPx (ci := 2) (q0 := 0) rfl rfl) hPx hKx hPm (kl_dm hsep) hS hAx rfl hl.1 rfl (Nat.le_of_ble_eq_true rfl) dL_law_163 ⟨Nat.le_of_ble_eq_true rfl, Nat.le_of_ble_eq_true rfl⟩ (fun r1 s1 H locs hq hPx hPm hS => ?_)
    obtain ⟨h1, hwx1⟩ := hq
    refine lv_aload_n hx hb dL_law_166 rfl (lv_at hl 3 rfl) ?_
    refine lv_aload_n hx hb dL_law_167 rfl (lv_at hl 1 rfl) ?_
    refine lv_iload_n hx hb dL_law_168 rfl (lv_at hl 0 rfl) ?_
    refine lv_iconst (v := 1) hx hb dL_law_169 (by decide) ?_
    refine lv_iadd hx hb dL_law_170 ?_
    rw [show nI (2 + 4 * j) + 1 = nI (2 + 4 * j + 1) from nI_add _ 1]
    refine va_sld hx hb hX hbl hbA hS (vp_in_nI (n := (2 + 4 * j + 1)) (by omega) (by omega)) dL_law_171 ?_
    rw [nI_clamp (n := (2 + 4 * j + 1)) (by omega)]
    refine lv_aload_n hx hb dL_law_172 rfl (lv_at hl 1 rfl) ?_
    refine lv_iload_n hx hb dL_law_173 rfl (lv_at hl 0 rfl) ?_
    refine lv_iconst (v := 2) hx hb dL_law_174 (by decide) ?_
    refine lv_iadd hx hb dL_law_175 ?_
    rw [show nI (2 + 4 * j) + 2 = nI (2 + 4 * j + 2) from nI_add _ 2]
    refine va_sld hx hb hX hbl hbA hS (vp_in_nI (n := (2 + 4 * j + 2)) (by omega) (by omega)) dL_law_176 ?_
    rw [nI_clamp (n := (2 + 4 * j + 2)) (by omega)]
    refine lv_if_eq (tgt := 184) hx hb dL_law_177 (by decide) (fun _ => ?_) (fun c9 => absurd c_155 c9)
    refine lv_iconst (v := 0) hx hb dL_law_184 (by decide) ?_
    refine kk_ci2 (w := km_w am cm) (w2 := kx_w ax cx s1) (As := [.int (xs (2 + 4 * j + 1)), .int 0]) (rest := [.int r1]) ⟨hx, hb, hml, hown, hts⟩ (mc_spawn l dC dI am cm hjm μ hwm (xs (2 + 4 * j + 1)) 0) (cwV 2 hts gl_25 rfl rfl rfl (by decide +kernel) ⟨Nat.le_of_ble_eq_true rfl, Nat.le_of_ble_eq_true rfl⟩) (va_recv hKm hPm (ci := 3) (q0 := 0) rfl rfl) hPm hKm hPx (kl_dx hsep) hS hAm rfl hl.1 rfl (Nat.le_of_ble_eq_true rfl) dL_law_185 ⟨Nat.le_of_ble_eq_true rfl, Nat.le_of_ble_eq_true rfl⟩ (fun r2 u2 H locs hq hPm hPx hS => ?_)
    obtain ⟨h2, hwm1⟩ := hq
    have hkr := kr_spawn (xs (2 + 4 * j + 1)) 0 (Or.inl rfl) hk
    rw [h1, h2] at hkr
    obtain ⟨he, hk1⟩ := hkr
    refine lv_icmp_eq (tgt := 684) hx hb dL_law_188 (by decide) (fun _ => ?_) (fun c9 => absurd he c9)
    exact fin _ _ _ _ ls hwx1 hwm1 (kr_monoB (by omega) (kr_mono (by omega) hk1)) hPx hPm hS hl
  · skip
    refine lv_iconst (v := 1) hx hb dL_law_158 (by decide) ?_
    refine lv_goto (tgt := 163) hx hb dL_law_159 (by decide) ?_
    refine kk_ci2 (w := kx_w ax cx) (w2 := km_w am cm μ) (As := [.int (xs (2 + 4 * j + 1)), .int 1]) (rest := []) ⟨hx, hb, hml, hown, hts⟩ (xc_spawn l dC dI ax cx hjx σ hwx (xs (2 + 4 * j + 1)) 1 (Or.inr rfl)) (cwV 2 hts gl_21 rfl rfl rfl (by decide +kernel) ⟨Nat.le_of_ble_eq_true rfl, Nat.le_of_ble_eq_true rfl⟩) (va_recv hKx hPx (ci := 2) (q0 := 0) rfl rfl) hPx hKx hPm (kl_dm hsep) hS hAx rfl hl.1 rfl (Nat.le_of_ble_eq_true rfl) dL_law_163 ⟨Nat.le_of_ble_eq_true rfl, Nat.le_of_ble_eq_true rfl⟩ (fun r1 s1 H locs hq hPx hPm hS => ?_)
    obtain ⟨h1, hwx1⟩ := hq
    refine lv_aload_n hx hb dL_law_166 rfl (lv_at hl 3 rfl) ?_
    refine lv_aload_n hx hb dL_law_167 rfl (lv_at hl 1 rfl) ?_
    refine lv_iload_n hx hb dL_law_168 rfl (lv_at hl 0 rfl) ?_
    refine lv_iconst (v := 1) hx hb dL_law_169 (by decide) ?_
    refine lv_iadd hx hb dL_law_170 ?_
    rw [show nI (2 + 4 * j) + 1 = nI (2 + 4 * j + 1) from nI_add _ 1]
    refine va_sld hx hb hX hbl hbA hS (vp_in_nI (n := (2 + 4 * j + 1)) (by omega) (by omega)) dL_law_171 ?_
    rw [nI_clamp (n := (2 + 4 * j + 1)) (by omega)]
    refine lv_aload_n hx hb dL_law_172 rfl (lv_at hl 1 rfl) ?_
    refine lv_iload_n hx hb dL_law_173 rfl (lv_at hl 0 rfl) ?_
    refine lv_iconst (v := 2) hx hb dL_law_174 (by decide) ?_
    refine lv_iadd hx hb dL_law_175 ?_
    rw [show nI (2 + 4 * j) + 2 = nI (2 + 4 * j + 2) from nI_add _ 2]
    refine va_sld hx hb hX hbl hbA hS (vp_in_nI (n := (2 + 4 * j + 2)) (by omega) (by omega)) dL_law_176 ?_
    rw [nI_clamp (n := (2 + 4 * j + 2)) (by omega)]
    refine lv_if_eq (tgt := 184) hx hb dL_law_177 (by decide) (fun c9 => absurd c9 c_155) (fun _ => ?_)
    refine lv_iconst (v := 1) hx hb dL_law_180 (by decide) ?_
    refine lv_goto (tgt := 185) hx hb dL_law_181 (by decide) ?_
    refine kk_ci2 (w := km_w am cm) (w2 := kx_w ax cx s1) (As := [.int (xs (2 + 4 * j + 1)), .int 1]) (rest := [.int r1]) ⟨hx, hb, hml, hown, hts⟩ (mc_spawn l dC dI am cm hjm μ hwm (xs (2 + 4 * j + 1)) 1) (cwV 2 hts gl_25 rfl rfl rfl (by decide +kernel) ⟨Nat.le_of_ble_eq_true rfl, Nat.le_of_ble_eq_true rfl⟩) (va_recv hKm hPm (ci := 3) (q0 := 0) rfl rfl) hPm hKm hPx (kl_dx hsep) hS hAm rfl hl.1 rfl (Nat.le_of_ble_eq_true rfl) dL_law_185 ⟨Nat.le_of_ble_eq_true rfl, Nat.le_of_ble_eq_true rfl⟩ (fun r2 u2 H locs hq hPm hPx hS => ?_)
    obtain ⟨h2, hwm1⟩ := hq
    have hkr := kr_spawn (xs (2 + 4 * j + 1)) 1 (Or.inr rfl) hk
    rw [h1, h2] at hkr
    obtain ⟨he, hk1⟩ := hkr
    refine lv_icmp_eq (tgt := 684) hx hb dL_law_188 (by decide) (fun _ => ?_) (fun c9 => absurd he c9)
    exact fin _ _ _ _ ls hwx1 hwm1 (kr_monoB (by omega) (kr_mono (by omega) hk1)) hPx hPm hS hl
set_option maxHeartbeats 4000000 in
set_option maxRecDepth 100000 in
theorem kl_case_1 {p : Program} {e : Env} {s : State} {m : MethodId} {below : List Frame} {meth : Method} {c : Code} {l : Launch} {b L : Nat} {xs : Nat → Int32} {dC : Nat → ClassId} {dI : Nat → Nat → Nat} {ax am : Nat → Nat} {cx cm : Nat → ClassId} {j : Nat} (hL : L ≤ 2050) (hj : 6 + 4 * j ≤ L) (C0 : kl_Ctx p s m c b L xs dC dI ax am cx cm) (fin : ∀ (s1 : kx_S) (u2 : km_S) (H : Heap) (locs : List Loc) (ls : Array Slot), kx_wf s1 → km_wf u2 → kr (1000 * (j + 1)) (100 * (j + 1)) 2 s1 u2 → va_P (dC, dI) vwCl (kx_w ax cx s1) H → va_P (dC, dI) vwCl (km_w am cm u2) H → va_S (fun q : Nat => s.heap.size ≤ q) s.heap H locs → lv_has ls 4 [(3, .int (nI (2 + 4 * j))), (0, .ref b), (1, .ref (ax 0)), (2, .ref (am 0))] → W p l e room_1 s m #[Value.ref b] below meth c H locs 39 317 (lw_Z below #[Value.ref b] s) (F0 m 684 ls [])) {σ : kx_S} {μ : km_S} {H : Heap} {locs : List Loc} {ls : Array Slot} (hwx : kx_wf σ) (hwm : km_wf μ) (hk : kr (1000 * j) (100 * j) 2 σ μ) (hPx : va_P (dC, dI) vwCl (kx_w ax cx σ) H) (hPm : va_P (dC, dI) vwCl (km_w am cm μ) H) (hS : va_S (fun q : Nat => s.heap.size ≤ q) s.heap H locs) (hl : lv_has ls 4 [(3, .int (nI (2 + 4 * j))), (0, .ref b), (1, .ref (ax 0)), (2, .ref (am 0))]) : W p l e room_1 s m #[Value.ref b] below meth c H locs 39 317 (lw_Z below #[Value.ref b] s) (F0 m 193 ls []) := by
  obtain ⟨hx, hb, hml, hown, hts, hX, hbl, hbA, hKx, hKm, hjx, hjm, hsep, hAx, hAm⟩ := C0
  have hN : 1000 * j < 2 ^ 30 := by omega
  refine lv_aload_n hx hb dL_law_193 rfl (lv_at hl 2 rfl) ?_
  refine lv_aload_n hx hb dL_law_194 rfl (lv_at hl 1 rfl) ?_
  refine lv_iload_n hx hb dL_law_195 rfl (lv_at hl 0 rfl) ?_
  refine lv_iconst (v := 1) hx hb dL_law_196 (by decide) ?_
  refine lv_iadd hx hb dL_law_197 ?_
  rw [show nI (2 + 4 * j) + 1 = nI (2 + 4 * j + 1) from nI_add _ 1]
  refine va_sld hx hb hX hbl hbA hS (vp_in_nI (n := (2 + 4 * j + 1)) (by omega) (by omega)) dL_law_198 ?_
  rw [nI_clamp (n := (2 + 4 * j + 1)) (by omega)]
  refine lv_aload_n hx hb dL_law_199 rfl (lv_at hl 1 rfl) ?_
  refine lv_iload_n hx hb dL_law_200 rfl (lv_at hl 0 rfl) ?_
  refine lv_iconst (v := 2) hx hb dL_law_201 (by decide) ?_
  refine lv_iadd hx hb dL_law_202 ?_
  rw [show nI (2 + 4 * j) + 2 = nI (2 + 4 * j + 2) from nI_add _ 2]
  refine va_sld hx hb hX hbl hbA hS (vp_in_nI (n := (2 + 4 * j + 2)) (by omega) (by omega)) dL_law_203 ?_
  rw [nI_clamp (n := (2 + 4 * j + 2)) (by omega)]
  refine kk_ci2 (w := kx_w ax cx) (w2 := km_w am cm μ) (As := [.int (xs (2 + 4 * j + 1)), .int (xs (2 + 4 * j + 2))]) (rest := []) ⟨hx, hb, hml, hown, hts⟩ (xc_priority l dC dI ax cx hjx σ hwx (xs (2 + 4 * j + 1)) (xs (2 + 4 * j + 2)) ) (cwV 2 hts gl_26 rfl rfl rfl (by decide +kernel) ⟨Nat.le_of_ble_eq_true rfl, Nat.le_of_ble_eq_true rfl⟩) (va_recv hKx hPx (ci := 2) (q0 := 0) rfl rfl) hPx hKx hPm (kl_dm hsep) hS hAx rfl hl.1 rfl (Nat.le_of_ble_eq_true rfl) dL_law_204 ⟨Nat.le_of_ble_eq_true rfl, Nat.le_of_ble_eq_true rfl⟩ (fun r1 s1 H locs hq hPx hPm hS => ?_)
  obtain ⟨h1, hwx1⟩ := hq
  refine lv_aload_n hx hb dL_law_207 rfl (lv_at hl 3 rfl) ?_
  refine lv_aload_n hx hb dL_law_208 rfl (lv_at hl 1 rfl) ?_
  refine lv_iload_n hx hb dL_law_209 rfl (lv_at hl 0 rfl) ?_
  refine lv_iconst (v := 1) hx hb dL_law_210 (by decide) ?_
  refine lv_iadd hx hb dL_law_211 ?_
  rw [show nI (2 + 4 * j) + 1 = nI (2 + 4 * j + 1) from nI_add _ 1]
  refine va_sld hx hb hX hbl hbA hS (vp_in_nI (n := (2 + 4 * j + 1)) (by omega) (by omega)) dL_law_212 ?_
  rw [nI_clamp (n := (2 + 4 * j + 1)) (by omega)]
  refine lv_aload_n hx hb dL_law_213 rfl (lv_at hl 1 rfl) ?_
  refine lv_iload_n hx hb dL_law_214 rfl (lv_at hl 0 rfl) ?_
  refine lv_iconst (v := 2) hx hb dL_law_215 (by decide) ?_
  refine lv_iadd hx hb dL_law_216 ?_
  rw [show nI (2 + 4 * j) + 2 = nI (2 + 4 * j + 2) from nI_add _ 2]
  refine va_sld hx hb hX hbl hbA hS (vp_in_nI (n := (2 + 4 * j + 2)) (by omega) (by omega)) dL_law_217 ?_
  rw [nI_clamp (n := (2 + 4 * j + 2)) (by omega)]
  refine kk_ci2 (w := km_w am cm) (w2 := kx_w ax cx s1) (As := [.int (xs (2 + 4 * j + 1)), .int (xs (2 + 4 * j + 2))]) (rest := [.int r1]) ⟨hx, hb, hml, hown, hts⟩ (mc_priority l dC dI am cm hjm μ hwm (xs (2 + 4 * j + 1)) (xs (2 + 4 * j + 2))) (cwV 2 hts gl_30 rfl rfl rfl (by decide +kernel) ⟨Nat.le_of_ble_eq_true rfl, Nat.le_of_ble_eq_true rfl⟩) (va_recv hKm hPm (ci := 3) (q0 := 0) rfl rfl) hPm hKm hPx (kl_dx hsep) hS hAm rfl hl.1 rfl (Nat.le_of_ble_eq_true rfl) dL_law_218 ⟨Nat.le_of_ble_eq_true rfl, Nat.le_of_ble_eq_true rfl⟩ (fun r2 u2 H locs hq hPm hPx hS => ?_)
  obtain ⟨h2, hwm1⟩ := hq
  have hkr := kr_priority (xs (2 + 4 * j + 1)) (xs (2 + 4 * j + 2)) hk
  rw [h1, h2] at hkr
  obtain ⟨he, hk1⟩ := hkr
  refine lv_icmp_eq (tgt := 684) hx hb dL_law_221 (by decide) (fun _ => ?_) (fun c9 => absurd he c9)
  exact fin _ _ _ _ ls hwx1 hwm1 (kr_monoB (by omega) (kr_mono (by omega) hk1)) hPx hPm hS hl
set_option maxHeartbeats 4000000 in
set_option maxRecDepth 100000 in
theorem kl_case_2 {p : Program} {e : Env} {s : State} {m : MethodId} {below : List Frame} {meth : Method} {c : Code} {l : Launch} {b L : Nat} {xs : Nat → Int32} {dC : Nat → ClassId} {dI : Nat → Nat → Nat} {ax am : Nat → Nat} {cx cm : Nat → ClassId} {j : Nat} (hL : L ≤ 2050) (hj : 6 + 4 * j ≤ L) (C0 : kl_Ctx p s m c b L xs dC dI ax am cx cm) (fin : ∀ (s1 : kx_S) (u2 : km_S) (H : Heap) (locs : List Loc) (ls : Array Slot), kx_wf s1 → km_wf u2 → kr (1000 * (j + 1)) (100 * (j + 1)) 2 s1 u2 → va_P (dC, dI) vwCl (kx_w ax cx s1) H → va_P (dC, dI) vwCl (km_w am cm u2) H → va_S (fun q : Nat => s.heap.size ≤ q) s.heap H locs → lv_has ls 4 [(3, .int (nI (2 + 4 * j))), (0, .ref b), (1, .ref (ax 0)), (2, .ref (am 0))] → W p l e room_1 s m #[Value.ref b] below meth c H locs 39 317 (lw_Z below #[Value.ref b] s) (F0 m 684 ls [])) {σ : kx_S} {μ : km_S} {H : Heap} {locs : List Loc} {ls : Array Slot} (hwx : kx_wf σ) (hwm : km_wf μ) (hk : kr (1000 * j) (100 * j) 2 σ μ) (hPx : va_P (dC, dI) vwCl (kx_w ax cx σ) H) (hPm : va_P (dC, dI) vwCl (km_w am cm μ) H) (hS : va_S (fun q : Nat => s.heap.size ≤ q) s.heap H locs) (hl : lv_has ls 4 [(3, .int (nI (2 + 4 * j))), (0, .ref b), (1, .ref (ax 0)), (2, .ref (am 0))]) : W p l e room_1 s m #[Value.ref b] below meth c H locs 39 317 (lw_Z below #[Value.ref b] s) (F0 m 226 ls []) := by
  obtain ⟨hx, hb, hml, hown, hts, hX, hbl, hbA, hKx, hKm, hjx, hjm, hsep, hAx, hAm⟩ := C0
  have hN : 1000 * j < 2 ^ 30 := by omega
  refine lv_aload_n hx hb dL_law_226 rfl (lv_at hl 2 rfl) ?_
  refine kk_ci2 (w := kx_w ax cx) (w2 := km_w am cm μ) (As := []) (rest := []) ⟨hx, hb, hml, hown, hts⟩ (xc_pass l dC dI ax cx hjx σ hwx  ) (cwV 0 hts gl_31 rfl rfl rfl (by decide +kernel) ⟨Nat.le_of_ble_eq_true rfl, Nat.le_of_ble_eq_true rfl⟩) (va_recv hKx hPx (ci := 2) (q0 := 0) rfl rfl) hPx hKx hPm (kl_dm hsep) hS hAx rfl hl.1 rfl (Nat.le_of_ble_eq_true rfl) dL_law_227 ⟨Nat.le_of_ble_eq_true rfl, Nat.le_of_ble_eq_true rfl⟩ (fun r1 s1 H locs hq hPx hPm hS => ?_)
  obtain ⟨h1, hwx1⟩ := hq
  refine lv_aload_n hx hb dL_law_230 rfl (lv_at hl 3 rfl) ?_
  refine kk_ci2 (w := km_w am cm) (w2 := kx_w ax cx s1) (As := []) (rest := [.int r1]) ⟨hx, hb, hml, hown, hts⟩ (mc_pass l dC dI am cm hjm μ hwm ) (cwV 0 hts gl_35 rfl rfl rfl (by decide +kernel) ⟨Nat.le_of_ble_eq_true rfl, Nat.le_of_ble_eq_true rfl⟩) (va_recv hKm hPm (ci := 3) (q0 := 0) rfl rfl) hPm hKm hPx (kl_dx hsep) hS hAm rfl hl.1 rfl (Nat.le_of_ble_eq_true rfl) dL_law_231 ⟨Nat.le_of_ble_eq_true rfl, Nat.le_of_ble_eq_true rfl⟩ (fun r2 u2 H locs hq hPm hPx hS => ?_)
  obtain ⟨h2, hwm1⟩ := hq
  have hkr := kr_pass hN hk
  rw [h1, h2] at hkr
  obtain ⟨he, hk1⟩ := hkr
  refine lv_icmp_eq (tgt := 684) hx hb dL_law_234 (by decide) (fun _ => ?_) (fun c9 => absurd he c9)
  exact fin _ _ _ _ ls hwx1 hwm1 (kr_monoB (by omega) (kr_mono (by omega) hk1)) hPx hPm hS hl
set_option maxHeartbeats 4000000 in
set_option maxRecDepth 100000 in
theorem kl_case_3 {p : Program} {e : Env} {s : State} {m : MethodId} {below : List Frame} {meth : Method} {c : Code} {l : Launch} {b L : Nat} {xs : Nat → Int32} {dC : Nat → ClassId} {dI : Nat → Nat → Nat} {ax am : Nat → Nat} {cx cm : Nat → ClassId} {j : Nat} (hL : L ≤ 2050) (hj : 6 + 4 * j ≤ L) (C0 : kl_Ctx p s m c b L xs dC dI ax am cx cm) (fin : ∀ (s1 : kx_S) (u2 : km_S) (H : Heap) (locs : List Loc) (ls : Array Slot), kx_wf s1 → km_wf u2 → kr (1000 * (j + 1)) (100 * (j + 1)) 2 s1 u2 → va_P (dC, dI) vwCl (kx_w ax cx s1) H → va_P (dC, dI) vwCl (km_w am cm u2) H → va_S (fun q : Nat => s.heap.size ≤ q) s.heap H locs → lv_has ls 4 [(3, .int (nI (2 + 4 * j))), (0, .ref b), (1, .ref (ax 0)), (2, .ref (am 0))] → W p l e room_1 s m #[Value.ref b] below meth c H locs 39 317 (lw_Z below #[Value.ref b] s) (F0 m 684 ls [])) {σ : kx_S} {μ : km_S} {H : Heap} {locs : List Loc} {ls : Array Slot} (hwx : kx_wf σ) (hwm : km_wf μ) (hk : kr (1000 * j) (100 * j) 2 σ μ) (hPx : va_P (dC, dI) vwCl (kx_w ax cx σ) H) (hPm : va_P (dC, dI) vwCl (km_w am cm μ) H) (hS : va_S (fun q : Nat => s.heap.size ≤ q) s.heap H locs) (hl : lv_has ls 4 [(3, .int (nI (2 + 4 * j))), (0, .ref b), (1, .ref (ax 0)), (2, .ref (am 0))]) : W p l e room_1 s m #[Value.ref b] below meth c H locs 39 317 (lw_Z below #[Value.ref b] s) (F0 m 239 ls []) := by
  obtain ⟨hx, hb, hml, hown, hts, hX, hbl, hbA, hKx, hKm, hjx, hjm, hsep, hAx, hAm⟩ := C0
  have hN : 1000 * j < 2 ^ 30 := by omega
  refine lv_aload_n hx hb dL_law_239 rfl (lv_at hl 2 rfl) ?_
  refine lv_aload_n hx hb dL_law_240 rfl (lv_at hl 1 rfl) ?_
  refine lv_iload_n hx hb dL_law_241 rfl (lv_at hl 0 rfl) ?_
  refine lv_iconst (v := 1) hx hb dL_law_242 (by decide) ?_
  refine lv_iadd hx hb dL_law_243 ?_
  rw [show nI (2 + 4 * j) + 1 = nI (2 + 4 * j + 1) from nI_add _ 1]
  refine va_sld hx hb hX hbl hbA hS (vp_in_nI (n := (2 + 4 * j + 1)) (by omega) (by omega)) dL_law_244 ?_
  rw [nI_clamp (n := (2 + 4 * j + 1)) (by omega)]
  refine kk_ci2 (w := kx_w ax cx) (w2 := km_w am cm μ) (As := [.int (xs (2 + 4 * j + 1))]) (rest := []) ⟨hx, hb, hml, hown, hts⟩ (xc_lock l dC dI ax cx hjx σ hwx (xs (2 + 4 * j + 1)) ) (cwV 1 hts gl_36 rfl rfl rfl (by decide +kernel) ⟨Nat.le_of_ble_eq_true rfl, Nat.le_of_ble_eq_true rfl⟩) (va_recv hKx hPx (ci := 2) (q0 := 0) rfl rfl) hPx hKx hPm (kl_dm hsep) hS hAx rfl hl.1 rfl (Nat.le_of_ble_eq_true rfl) dL_law_245 ⟨Nat.le_of_ble_eq_true rfl, Nat.le_of_ble_eq_true rfl⟩ (fun r1 s1 H locs hq hPx hPm hS => ?_)
  obtain ⟨h1, hwx1⟩ := hq
  refine lv_aload_n hx hb dL_law_248 rfl (lv_at hl 3 rfl) ?_
  refine lv_aload_n hx hb dL_law_249 rfl (lv_at hl 1 rfl) ?_
  refine lv_iload_n hx hb dL_law_250 rfl (lv_at hl 0 rfl) ?_
  refine lv_iconst (v := 1) hx hb dL_law_251 (by decide) ?_
  refine lv_iadd hx hb dL_law_252 ?_
  rw [show nI (2 + 4 * j) + 1 = nI (2 + 4 * j + 1) from nI_add _ 1]
  refine va_sld hx hb hX hbl hbA hS (vp_in_nI (n := (2 + 4 * j + 1)) (by omega) (by omega)) dL_law_253 ?_
  rw [nI_clamp (n := (2 + 4 * j + 1)) (by omega)]
  refine kk_ci2 (w := km_w am cm) (w2 := kx_w ax cx s1) (As := [.int (xs (2 + 4 * j + 1))]) (rest := [.int r1]) ⟨hx, hb, hml, hown, hts⟩ (mc_lock l dC dI am cm hjm μ hwm (xs (2 + 4 * j + 1))) (cwV 1 hts gl_40 rfl rfl rfl (by decide +kernel) ⟨Nat.le_of_ble_eq_true rfl, Nat.le_of_ble_eq_true rfl⟩) (va_recv hKm hPm (ci := 3) (q0 := 0) rfl rfl) hPm hKm hPx (kl_dx hsep) hS hAm rfl hl.1 rfl (Nat.le_of_ble_eq_true rfl) dL_law_254 ⟨Nat.le_of_ble_eq_true rfl, Nat.le_of_ble_eq_true rfl⟩ (fun r2 u2 H locs hq hPm hPx hS => ?_)
  obtain ⟨h2, hwm1⟩ := hq
  have hkr := kr_lock (xs (2 + 4 * j + 1)) hN hk
  rw [h1, h2] at hkr
  obtain ⟨he, hk1⟩ := hkr
  refine lv_icmp_eq (tgt := 684) hx hb dL_law_257 (by decide) (fun _ => ?_) (fun c9 => absurd he c9)
  exact fin _ _ _ _ ls hwx1 hwm1 (kr_monoB (by omega) (kr_mono (by omega) hk1)) hPx hPm hS hl
set_option maxHeartbeats 4000000 in
set_option maxRecDepth 100000 in
theorem kl_case_4 {p : Program} {e : Env} {s : State} {m : MethodId} {below : List Frame} {meth : Method} {c : Code} {l : Launch} {b L : Nat} {xs : Nat → Int32} {dC : Nat → ClassId} {dI : Nat → Nat → Nat} {ax am : Nat → Nat} {cx cm : Nat → ClassId} {j : Nat} (hL : L ≤ 2050) (hj : 6 + 4 * j ≤ L) (C0 : kl_Ctx p s m c b L xs dC dI ax am cx cm) (fin : ∀ (s1 : kx_S) (u2 : km_S) (H : Heap) (locs : List Loc) (ls : Array Slot), kx_wf s1 → km_wf u2 → kr (1000 * (j + 1)) (100 * (j + 1)) 2 s1 u2 → va_P (dC, dI) vwCl (kx_w ax cx s1) H → va_P (dC, dI) vwCl (km_w am cm u2) H → va_S (fun q : Nat => s.heap.size ≤ q) s.heap H locs → lv_has ls 4 [(3, .int (nI (2 + 4 * j))), (0, .ref b), (1, .ref (ax 0)), (2, .ref (am 0))] → W p l e room_1 s m #[Value.ref b] below meth c H locs 39 317 (lw_Z below #[Value.ref b] s) (F0 m 684 ls [])) {σ : kx_S} {μ : km_S} {H : Heap} {locs : List Loc} {ls : Array Slot} (hwx : kx_wf σ) (hwm : km_wf μ) (hk : kr (1000 * j) (100 * j) 2 σ μ) (hPx : va_P (dC, dI) vwCl (kx_w ax cx σ) H) (hPm : va_P (dC, dI) vwCl (km_w am cm μ) H) (hS : va_S (fun q : Nat => s.heap.size ≤ q) s.heap H locs) (hl : lv_has ls 4 [(3, .int (nI (2 + 4 * j))), (0, .ref b), (1, .ref (ax 0)), (2, .ref (am 0))]) : W p l e room_1 s m #[Value.ref b] below meth c H locs 39 317 (lw_Z below #[Value.ref b] s) (F0 m 262 ls []) := by
  obtain ⟨hx, hb, hml, hown, hts, hX, hbl, hbA, hKx, hKm, hjx, hjm, hsep, hAx, hAm⟩ := C0
  have hN : 1000 * j < 2 ^ 30 := by omega
  refine lv_aload_n hx hb dL_law_262 rfl (lv_at hl 2 rfl) ?_
  refine lv_aload_n hx hb dL_law_263 rfl (lv_at hl 1 rfl) ?_
  refine lv_iload_n hx hb dL_law_264 rfl (lv_at hl 0 rfl) ?_
  refine lv_iconst (v := 1) hx hb dL_law_265 (by decide) ?_
  refine lv_iadd hx hb dL_law_266 ?_
  rw [show nI (2 + 4 * j) + 1 = nI (2 + 4 * j + 1) from nI_add _ 1]
  refine va_sld hx hb hX hbl hbA hS (vp_in_nI (n := (2 + 4 * j + 1)) (by omega) (by omega)) dL_law_267 ?_
  rw [nI_clamp (n := (2 + 4 * j + 1)) (by omega)]
  refine kk_ci2 (w := kx_w ax cx) (w2 := km_w am cm μ) (As := [.int (xs (2 + 4 * j + 1))]) (rest := []) ⟨hx, hb, hml, hown, hts⟩ (xc_unlock l dC dI ax cx hjx σ hwx (xs (2 + 4 * j + 1)) ) (cwV 1 hts gl_41 rfl rfl rfl (by decide +kernel) ⟨Nat.le_of_ble_eq_true rfl, Nat.le_of_ble_eq_true rfl⟩) (va_recv hKx hPx (ci := 2) (q0 := 0) rfl rfl) hPx hKx hPm (kl_dm hsep) hS hAx rfl hl.1 rfl (Nat.le_of_ble_eq_true rfl) dL_law_268 ⟨Nat.le_of_ble_eq_true rfl, Nat.le_of_ble_eq_true rfl⟩ (fun r1 s1 H locs hq hPx hPm hS => ?_)
  obtain ⟨h1, hwx1⟩ := hq
  refine lv_aload_n hx hb dL_law_271 rfl (lv_at hl 3 rfl) ?_
  refine lv_aload_n hx hb dL_law_272 rfl (lv_at hl 1 rfl) ?_
  refine lv_iload_n hx hb dL_law_273 rfl (lv_at hl 0 rfl) ?_
  refine lv_iconst (v := 1) hx hb dL_law_274 (by decide) ?_
  refine lv_iadd hx hb dL_law_275 ?_
  rw [show nI (2 + 4 * j) + 1 = nI (2 + 4 * j + 1) from nI_add _ 1]
  refine va_sld hx hb hX hbl hbA hS (vp_in_nI (n := (2 + 4 * j + 1)) (by omega) (by omega)) dL_law_276 ?_
  rw [nI_clamp (n := (2 + 4 * j + 1)) (by omega)]
  refine kk_ci2 (w := km_w am cm) (w2 := kx_w ax cx s1) (As := [.int (xs (2 + 4 * j + 1))]) (rest := [.int r1]) ⟨hx, hb, hml, hown, hts⟩ (mc_unlock l dC dI am cm hjm μ hwm (xs (2 + 4 * j + 1))) (cwV 1 hts gl_44 rfl rfl rfl (by decide +kernel) ⟨Nat.le_of_ble_eq_true rfl, Nat.le_of_ble_eq_true rfl⟩) (va_recv hKm hPm (ci := 3) (q0 := 0) rfl rfl) hPm hKm hPx (kl_dx hsep) hS hAm rfl hl.1 rfl (Nat.le_of_ble_eq_true rfl) dL_law_277 ⟨Nat.le_of_ble_eq_true rfl, Nat.le_of_ble_eq_true rfl⟩ (fun r2 u2 H locs hq hPm hPx hS => ?_)
  obtain ⟨h2, hwm1⟩ := hq
  have hkr := kr_unlock (xs (2 + 4 * j + 1)) hN hk
  rw [h1, h2] at hkr
  obtain ⟨he, hk1⟩ := hkr
  refine lv_icmp_eq (tgt := 684) hx hb dL_law_280 (by decide) (fun _ => ?_) (fun c9 => absurd he c9)
  exact fin _ _ _ _ ls hwx1 hwm1 (kr_monoB (by omega) (kr_mono (by omega) hk1)) hPx hPm hS hl
set_option maxHeartbeats 4000000 in
set_option maxRecDepth 100000 in
theorem kl_case_5 {p : Program} {e : Env} {s : State} {m : MethodId} {below : List Frame} {meth : Method} {c : Code} {l : Launch} {b L : Nat} {xs : Nat → Int32} {dC : Nat → ClassId} {dI : Nat → Nat → Nat} {ax am : Nat → Nat} {cx cm : Nat → ClassId} {j : Nat} (hL : L ≤ 2050) (hj : 6 + 4 * j ≤ L) (C0 : kl_Ctx p s m c b L xs dC dI ax am cx cm) (fin : ∀ (s1 : kx_S) (u2 : km_S) (H : Heap) (locs : List Loc) (ls : Array Slot), kx_wf s1 → km_wf u2 → kr (1000 * (j + 1)) (100 * (j + 1)) 2 s1 u2 → va_P (dC, dI) vwCl (kx_w ax cx s1) H → va_P (dC, dI) vwCl (km_w am cm u2) H → va_S (fun q : Nat => s.heap.size ≤ q) s.heap H locs → lv_has ls 4 [(3, .int (nI (2 + 4 * j))), (0, .ref b), (1, .ref (ax 0)), (2, .ref (am 0))] → W p l e room_1 s m #[Value.ref b] below meth c H locs 39 317 (lw_Z below #[Value.ref b] s) (F0 m 684 ls [])) {σ : kx_S} {μ : km_S} {H : Heap} {locs : List Loc} {ls : Array Slot} (hwx : kx_wf σ) (hwm : km_wf μ) (hk : kr (1000 * j) (100 * j) 2 σ μ) (hPx : va_P (dC, dI) vwCl (kx_w ax cx σ) H) (hPm : va_P (dC, dI) vwCl (km_w am cm μ) H) (hS : va_S (fun q : Nat => s.heap.size ≤ q) s.heap H locs) (hl : lv_has ls 4 [(3, .int (nI (2 + 4 * j))), (0, .ref b), (1, .ref (ax 0)), (2, .ref (am 0))]) : W p l e room_1 s m #[Value.ref b] below meth c H locs 39 317 (lw_Z below #[Value.ref b] s) (F0 m 285 ls []) := by
  obtain ⟨hx, hb, hml, hown, hts, hX, hbl, hbA, hKx, hKm, hjx, hjm, hsep, hAx, hAm⟩ := C0
  have hN : 1000 * j < 2 ^ 30 := by omega
  refine lv_aload_n hx hb dL_law_285 rfl (lv_at hl 2 rfl) ?_
  refine lv_aload_n hx hb dL_law_286 rfl (lv_at hl 1 rfl) ?_
  refine lv_iload_n hx hb dL_law_287 rfl (lv_at hl 0 rfl) ?_
  refine lv_iconst (v := 1) hx hb dL_law_288 (by decide) ?_
  refine lv_iadd hx hb dL_law_289 ?_
  rw [show nI (2 + 4 * j) + 1 = nI (2 + 4 * j + 1) from nI_add _ 1]
  refine va_sld hx hb hX hbl hbA hS (vp_in_nI (n := (2 + 4 * j + 1)) (by omega) (by omega)) dL_law_290 ?_
  rw [nI_clamp (n := (2 + 4 * j + 1)) (by omega)]
  refine lv_aload_n hx hb dL_law_291 rfl (lv_at hl 1 rfl) ?_
  refine lv_iload_n hx hb dL_law_292 rfl (lv_at hl 0 rfl) ?_
  refine lv_iconst (v := 2) hx hb dL_law_293 (by decide) ?_
  refine lv_iadd hx hb dL_law_294 ?_
  rw [show nI (2 + 4 * j) + 2 = nI (2 + 4 * j + 2) from nI_add _ 2]
  refine va_sld hx hb hX hbl hbA hS (vp_in_nI (n := (2 + 4 * j + 2)) (by omega) (by omega)) dL_law_295 ?_
  rw [nI_clamp (n := (2 + 4 * j + 2)) (by omega)]
  refine lv_aload_n hx hb dL_law_296 rfl (lv_at hl 1 rfl) ?_
  refine lv_iload_n hx hb dL_law_297 rfl (lv_at hl 0 rfl) ?_
  refine lv_iconst (v := 3) hx hb dL_law_298 (by decide) ?_
  refine lv_iadd hx hb dL_law_299 ?_
  rw [show nI (2 + 4 * j) + 3 = nI (2 + 4 * j + 3) from nI_add _ 3]
  refine va_sld hx hb hX hbl hbA hS (vp_in_nI (n := (2 + 4 * j + 3)) (by omega) (by omega)) dL_law_300 ?_
  rw [nI_clamp (n := (2 + 4 * j + 3)) (by omega)]
  refine kk_ci2 (w := kx_w ax cx) (w2 := km_w am cm μ) (As := [.int (xs (2 + 4 * j + 1)), .int (xs (2 + 4 * j + 2)), .int (xs (2 + 4 * j + 3))]) (rest := []) ⟨hx, hb, hml, hown, hts⟩ (xc_await l dC dI ax cx hjx σ hwx (xs (2 + 4 * j + 1)) (xs (2 + 4 * j + 2)) (xs (2 + 4 * j + 3)) ) (cwV 3 hts gl_45 rfl rfl rfl (by decide +kernel) ⟨Nat.le_of_ble_eq_true rfl, Nat.le_of_ble_eq_true rfl⟩) (va_recv hKx hPx (ci := 2) (q0 := 0) rfl rfl) hPx hKx hPm (kl_dm hsep) hS hAx rfl hl.1 rfl (Nat.le_of_ble_eq_true rfl) dL_law_301 ⟨Nat.le_of_ble_eq_true rfl, Nat.le_of_ble_eq_true rfl⟩ (fun r1 s1 H locs hq hPx hPm hS => ?_)
  obtain ⟨h1, hwx1⟩ := hq
  refine lv_aload_n hx hb dL_law_304 rfl (lv_at hl 3 rfl) ?_
  refine lv_aload_n hx hb dL_law_305 rfl (lv_at hl 1 rfl) ?_
  refine lv_iload_n hx hb dL_law_306 rfl (lv_at hl 0 rfl) ?_
  refine lv_iconst (v := 1) hx hb dL_law_307 (by decide) ?_
  refine lv_iadd hx hb dL_law_308 ?_
  rw [show nI (2 + 4 * j) + 1 = nI (2 + 4 * j + 1) from nI_add _ 1]
  refine va_sld hx hb hX hbl hbA hS (vp_in_nI (n := (2 + 4 * j + 1)) (by omega) (by omega)) dL_law_309 ?_
  rw [nI_clamp (n := (2 + 4 * j + 1)) (by omega)]
  refine lv_aload_n hx hb dL_law_310 rfl (lv_at hl 1 rfl) ?_
  refine lv_iload_n hx hb dL_law_311 rfl (lv_at hl 0 rfl) ?_
  refine lv_iconst (v := 2) hx hb dL_law_312 (by decide) ?_
  refine lv_iadd hx hb dL_law_313 ?_
  rw [show nI (2 + 4 * j) + 2 = nI (2 + 4 * j + 2) from nI_add _ 2]
  refine va_sld hx hb hX hbl hbA hS (vp_in_nI (n := (2 + 4 * j + 2)) (by omega) (by omega)) dL_law_314 ?_
  rw [nI_clamp (n := (2 + 4 * j + 2)) (by omega)]
  refine lv_aload_n hx hb dL_law_315 rfl (lv_at hl 1 rfl) ?_
  refine lv_iload_n hx hb dL_law_316 rfl (lv_at hl 0 rfl) ?_
  refine lv_iconst (v := 3) hx hb dL_law_317 (by decide) ?_
  refine lv_iadd hx hb dL_law_318 ?_
  rw [show nI (2 + 4 * j) + 3 = nI (2 + 4 * j + 3) from nI_add _ 3]
  refine va_sld hx hb hX hbl hbA hS (vp_in_nI (n := (2 + 4 * j + 3)) (by omega) (by omega)) dL_law_319 ?_
  rw [nI_clamp (n := (2 + 4 * j + 3)) (by omega)]
  refine kk_ci2 (w := km_w am cm) (w2 := kx_w ax cx s1) (As := [.int (xs (2 + 4 * j + 1)), .int (xs (2 + 4 * j + 2)), .int (xs (2 + 4 * j + 3))]) (rest := [.int r1]) ⟨hx, hb, hml, hown, hts⟩ (mc_await l dC dI am cm hjm μ hwm (xs (2 + 4 * j + 1)) (xs (2 + 4 * j + 2)) (xs (2 + 4 * j + 3))) (cwV 3 hts gl_49 rfl rfl rfl (by decide +kernel) ⟨Nat.le_of_ble_eq_true rfl, Nat.le_of_ble_eq_true rfl⟩) (va_recv hKm hPm (ci := 3) (q0 := 0) rfl rfl) hPm hKm hPx (kl_dx hsep) hS hAm rfl hl.1 rfl (Nat.le_of_ble_eq_true rfl) dL_law_320 ⟨Nat.le_of_ble_eq_true rfl, Nat.le_of_ble_eq_true rfl⟩ (fun r2 u2 H locs hq hPm hPx hS => ?_)
  obtain ⟨h2, hwm1⟩ := hq
  have hkr := kr_await (xs (2 + 4 * j + 1)) (xs (2 + 4 * j + 2)) (xs (2 + 4 * j + 3)) (by omega) (by omega) hk
  rw [h1, h2] at hkr
  obtain ⟨he, hk1⟩ := hkr
  refine lv_icmp_eq (tgt := 684) hx hb dL_law_323 (by decide) (fun _ => ?_) (fun c9 => absurd he c9)
  exact fin _ _ _ _ ls hwx1 hwm1 (kr_monoB (by omega) (kr_mono (by omega) hk1)) hPx hPm hS hl
set_option maxHeartbeats 4000000 in
set_option maxRecDepth 100000 in
theorem kl_case_6 {p : Program} {e : Env} {s : State} {m : MethodId} {below : List Frame} {meth : Method} {c : Code} {l : Launch} {b L : Nat} {xs : Nat → Int32} {dC : Nat → ClassId} {dI : Nat → Nat → Nat} {ax am : Nat → Nat} {cx cm : Nat → ClassId} {j : Nat} (hL : L ≤ 2050) (hj : 6 + 4 * j ≤ L) (C0 : kl_Ctx p s m c b L xs dC dI ax am cx cm) (fin : ∀ (s1 : kx_S) (u2 : km_S) (H : Heap) (locs : List Loc) (ls : Array Slot), kx_wf s1 → km_wf u2 → kr (1000 * (j + 1)) (100 * (j + 1)) 2 s1 u2 → va_P (dC, dI) vwCl (kx_w ax cx s1) H → va_P (dC, dI) vwCl (km_w am cm u2) H → va_S (fun q : Nat => s.heap.size ≤ q) s.heap H locs → lv_has ls 4 [(3, .int (nI (2 + 4 * j))), (0, .ref b), (1, .ref (ax 0)), (2, .ref (am 0))] → W p l e room_1 s m #[Value.ref b] below meth c H locs 39 317 (lw_Z below #[Value.ref b] s) (F0 m 684 ls [])) {σ : kx_S} {μ : km_S} {H : Heap} {locs : List Loc} {ls : Array Slot} (hwx : kx_wf σ) (hwm : km_wf μ) (hk : kr (1000 * j) (100 * j) 2 σ μ) (hPx : va_P (dC, dI) vwCl (kx_w ax cx σ) H) (hPm : va_P (dC, dI) vwCl (km_w am cm μ) H) (hS : va_S (fun q : Nat => s.heap.size ≤ q) s.heap H locs) (hl : lv_has ls 4 [(3, .int (nI (2 + 4 * j))), (0, .ref b), (1, .ref (ax 0)), (2, .ref (am 0))]) : W p l e room_1 s m #[Value.ref b] below meth c H locs 39 317 (lw_Z below #[Value.ref b] s) (F0 m 328 ls []) := by
  obtain ⟨hx, hb, hml, hown, hts, hX, hbl, hbA, hKx, hKm, hjx, hjm, hsep, hAx, hAm⟩ := C0
  have hN : 1000 * j < 2 ^ 30 := by omega
  refine lv_aload_n hx hb dL_law_328 rfl (lv_at hl 2 rfl) ?_
  refine lv_aload_n hx hb dL_law_329 rfl (lv_at hl 1 rfl) ?_
  refine lv_iload_n hx hb dL_law_330 rfl (lv_at hl 0 rfl) ?_
  refine lv_iconst (v := 1) hx hb dL_law_331 (by decide) ?_
  refine lv_iadd hx hb dL_law_332 ?_
  rw [show nI (2 + 4 * j) + 1 = nI (2 + 4 * j + 1) from nI_add _ 1]
  refine va_sld hx hb hX hbl hbA hS (vp_in_nI (n := (2 + 4 * j + 1)) (by omega) (by omega)) dL_law_333 ?_
  rw [nI_clamp (n := (2 + 4 * j + 1)) (by omega)]
  refine lv_aload_n hx hb dL_law_334 rfl (lv_at hl 1 rfl) ?_
  refine lv_iload_n hx hb dL_law_335 rfl (lv_at hl 0 rfl) ?_
  refine lv_iconst (v := 2) hx hb dL_law_336 (by decide) ?_
  refine lv_iadd hx hb dL_law_337 ?_
  rw [show nI (2 + 4 * j) + 2 = nI (2 + 4 * j + 2) from nI_add _ 2]
  refine va_sld hx hb hX hbl hbA hS (vp_in_nI (n := (2 + 4 * j + 2)) (by omega) (by omega)) dL_law_338 ?_
  rw [nI_clamp (n := (2 + 4 * j + 2)) (by omega)]
  refine lv_if_eq (tgt := 346) hx hb dL_law_339 (by decide) (fun c_339 => ?_) (fun c_339 => ?_)
  · skip
    refine lv_iconst (v := 0) hx hb dL_law_346 (by decide) ?_
    refine kk_ci2 (w := kx_w ax cx) (w2 := km_w am cm μ) (As := [.int (xs (2 + 4 * j + 1)), .int 0]) (rest := []) ⟨hx, hb, hml, hown, hts⟩ (xc_signal l dC dI ax cx hjx σ hwx (xs (2 + 4 * j + 1)) 0 ) (cwV 2 hts gl_50 rfl rfl rfl (by decide +kernel) ⟨Nat.le_of_ble_eq_true rfl, Nat.le_of_ble_eq_true rfl⟩) (va_recv hKx hPx (ci := 2) (q0 := 0) rfl rfl) hPx hKx hPm (kl_dm hsep) hS hAx rfl hl.1 rfl (Nat.le_of_ble_eq_true rfl) dL_law_347 ⟨Nat.le_of_ble_eq_true rfl, Nat.le_of_ble_eq_true rfl⟩ (fun r1 s1 H locs hq hPx hPm hS => ?_)
    obtain ⟨h1, hwx1⟩ := hq
    refine lv_aload_n hx hb dL_law_350 rfl (lv_at hl 3 rfl) ?_
    refine lv_aload_n hx hb dL_law_351 rfl (lv_at hl 1 rfl) ?_
    refine lv_iload_n hx hb dL_law_352 rfl (lv_at hl 0 rfl) ?_
    refine lv_iconst (v := 1) hx hb dL_law_353 (by decide) ?_
    refine lv_iadd hx hb dL_law_354 ?_
    rw [show nI (2 + 4 * j) + 1 = nI (2 + 4 * j + 1) from nI_add _ 1]
    refine va_sld hx hb hX hbl hbA hS (vp_in_nI (n := (2 + 4 * j + 1)) (by omega) (by omega)) dL_law_355 ?_
    rw [nI_clamp (n := (2 + 4 * j + 1)) (by omega)]
    refine lv_aload_n hx hb dL_law_356 rfl (lv_at hl 1 rfl) ?_
    refine lv_iload_n hx hb dL_law_357 rfl (lv_at hl 0 rfl) ?_
    refine lv_iconst (v := 2) hx hb dL_law_358 (by decide) ?_
    refine lv_iadd hx hb dL_law_359 ?_
    rw [show nI (2 + 4 * j) + 2 = nI (2 + 4 * j + 2) from nI_add _ 2]
    refine va_sld hx hb hX hbl hbA hS (vp_in_nI (n := (2 + 4 * j + 2)) (by omega) (by omega)) dL_law_360 ?_
    rw [nI_clamp (n := (2 + 4 * j + 2)) (by omega)]
    refine lv_if_eq (tgt := 368) hx hb dL_law_361 (by decide) (fun _ => ?_) (fun c9 => absurd c_339 c9)
    refine lv_iconst (v := 0) hx hb dL_law_368 (by decide) ?_
    refine kk_ci2 (w := km_w am cm) (w2 := kx_w ax cx s1) (As := [.int (xs (2 + 4 * j + 1)), .int 0]) (rest := [.int r1]) ⟨hx, hb, hml, hown, hts⟩ (mc_signal l dC dI am cm hjm μ hwm (xs (2 + 4 * j + 1)) 0) (cwV 2 hts gl_53 rfl rfl rfl (by decide +kernel) ⟨Nat.le_of_ble_eq_true rfl, Nat.le_of_ble_eq_true rfl⟩) (va_recv hKm hPm (ci := 3) (q0 := 0) rfl rfl) hPm hKm hPx (kl_dx hsep) hS hAm rfl hl.1 rfl (Nat.le_of_ble_eq_true rfl) dL_law_369 ⟨Nat.le_of_ble_eq_true rfl, Nat.le_of_ble_eq_true rfl⟩ (fun r2 u2 H locs hq hPm hPx hS => ?_)
    obtain ⟨h2, hwm1⟩ := hq
    have hkr := kr_signal (xs (2 + 4 * j + 1)) 0 (by omega) hk
    rw [h1, h2] at hkr
    obtain ⟨he, hk1⟩ := hkr
    refine lv_icmp_eq (tgt := 684) hx hb dL_law_372 (by decide) (fun _ => ?_) (fun c9 => absurd he c9)
    exact fin _ _ _ _ ls hwx1 hwm1 (kr_monoB (by omega) (kr_mono (by omega) hk1)) hPx hPm hS hl
  · skip
    refine lv_iconst (v := 1) hx hb dL_law_342 (by decide) ?_
    refine lv_goto (tgt := 347) hx hb dL_law_343 (by decide) ?_
    refine kk_ci2 (w := kx_w ax cx) (w2 := km_w am cm μ) (As := [.int (xs (2 + 4 * j + 1)), .int 1]) (rest := []) ⟨hx, hb, hml, hown, hts⟩ (xc_signal l dC dI ax cx hjx σ hwx (xs (2 + 4 * j + 1)) 1 ) (cwV 2 hts gl_50 rfl rfl rfl (by decide +kernel) ⟨Nat.le_of_ble_eq_true rfl, Nat.le_of_ble_eq_true rfl⟩) (va_recv hKx hPx (ci := 2) (q0 := 0) rfl rfl) hPx hKx hPm (kl_dm hsep) hS hAx rfl hl.1 rfl (Nat.le_of_ble_eq_true rfl) dL_law_347 ⟨Nat.le_of_ble_eq_true rfl, Nat.le_of_ble_eq_true rfl⟩ (fun r1 s1 H locs hq hPx hPm hS => ?_)
    obtain ⟨h1, hwx1⟩ := hq
    refine lv_aload_n hx hb dL_law_350 rfl (lv_at hl 3 rfl) ?_
    refine lv_aload_n hx hb dL_law_351 rfl (lv_at hl 1 rfl) ?_
    refine lv_iload_n hx hb dL_law_352 rfl (lv_at hl 0 rfl) ?_
    refine lv_iconst (v := 1) hx hb dL_law_353 (by decide) ?_
    refine lv_iadd hx hb dL_law_354 ?_
    rw [show nI (2 + 4 * j) + 1 = nI (2 + 4 * j + 1) from nI_add _ 1]
    refine va_sld hx hb hX hbl hbA hS (vp_in_nI (n := (2 + 4 * j + 1)) (by omega) (by omega)) dL_law_355 ?_
    rw [nI_clamp (n := (2 + 4 * j + 1)) (by omega)]
    refine lv_aload_n hx hb dL_law_356 rfl (lv_at hl 1 rfl) ?_
    refine lv_iload_n hx hb dL_law_357 rfl (lv_at hl 0 rfl) ?_
    refine lv_iconst (v := 2) hx hb dL_law_358 (by decide) ?_
    refine lv_iadd hx hb dL_law_359 ?_
    rw [show nI (2 + 4 * j) + 2 = nI (2 + 4 * j + 2) from nI_add _ 2]
    refine va_sld hx hb hX hbl hbA hS (vp_in_nI (n := (2 + 4 * j + 2)) (by omega) (by omega)) dL_law_360 ?_
    rw [nI_clamp (n := (2 + 4 * j + 2)) (by omega)]
    refine lv_if_eq (tgt := 368) hx hb dL_law_361 (by decide) (fun c9 => absurd c9 c_339) (fun _ => ?_)
    refine lv_iconst (v := 1) hx hb dL_law_364 (by decide) ?_
    refine lv_goto (tgt := 369) hx hb dL_law_365 (by decide) ?_
    refine kk_ci2 (w := km_w am cm) (w2 := kx_w ax cx s1) (As := [.int (xs (2 + 4 * j + 1)), .int 1]) (rest := [.int r1]) ⟨hx, hb, hml, hown, hts⟩ (mc_signal l dC dI am cm hjm μ hwm (xs (2 + 4 * j + 1)) 1) (cwV 2 hts gl_53 rfl rfl rfl (by decide +kernel) ⟨Nat.le_of_ble_eq_true rfl, Nat.le_of_ble_eq_true rfl⟩) (va_recv hKm hPm (ci := 3) (q0 := 0) rfl rfl) hPm hKm hPx (kl_dx hsep) hS hAm rfl hl.1 rfl (Nat.le_of_ble_eq_true rfl) dL_law_369 ⟨Nat.le_of_ble_eq_true rfl, Nat.le_of_ble_eq_true rfl⟩ (fun r2 u2 H locs hq hPm hPx hS => ?_)
    obtain ⟨h2, hwm1⟩ := hq
    have hkr := kr_signal (xs (2 + 4 * j + 1)) 1 (by omega) hk
    rw [h1, h2] at hkr
    obtain ⟨he, hk1⟩ := hkr
    refine lv_icmp_eq (tgt := 684) hx hb dL_law_372 (by decide) (fun _ => ?_) (fun c9 => absurd he c9)
    exact fin _ _ _ _ ls hwx1 hwm1 (kr_monoB (by omega) (kr_mono (by omega) hk1)) hPx hPm hS hl
set_option maxHeartbeats 4000000 in
set_option maxRecDepth 100000 in
theorem kl_case_7 {p : Program} {e : Env} {s : State} {m : MethodId} {below : List Frame} {meth : Method} {c : Code} {l : Launch} {b L : Nat} {xs : Nat → Int32} {dC : Nat → ClassId} {dI : Nat → Nat → Nat} {ax am : Nat → Nat} {cx cm : Nat → ClassId} {j : Nat} (hL : L ≤ 2050) (hj : 6 + 4 * j ≤ L) (C0 : kl_Ctx p s m c b L xs dC dI ax am cx cm) (fin : ∀ (s1 : kx_S) (u2 : km_S) (H : Heap) (locs : List Loc) (ls : Array Slot), kx_wf s1 → km_wf u2 → kr (1000 * (j + 1)) (100 * (j + 1)) 2 s1 u2 → va_P (dC, dI) vwCl (kx_w ax cx s1) H → va_P (dC, dI) vwCl (km_w am cm u2) H → va_S (fun q : Nat => s.heap.size ≤ q) s.heap H locs → lv_has ls 4 [(3, .int (nI (2 + 4 * j))), (0, .ref b), (1, .ref (ax 0)), (2, .ref (am 0))] → W p l e room_1 s m #[Value.ref b] below meth c H locs 39 317 (lw_Z below #[Value.ref b] s) (F0 m 684 ls [])) {σ : kx_S} {μ : km_S} {H : Heap} {locs : List Loc} {ls : Array Slot} (hwx : kx_wf σ) (hwm : km_wf μ) (hk : kr (1000 * j) (100 * j) 2 σ μ) (hPx : va_P (dC, dI) vwCl (kx_w ax cx σ) H) (hPm : va_P (dC, dI) vwCl (km_w am cm μ) H) (hS : va_S (fun q : Nat => s.heap.size ≤ q) s.heap H locs) (hl : lv_has ls 4 [(3, .int (nI (2 + 4 * j))), (0, .ref b), (1, .ref (ax 0)), (2, .ref (am 0))]) : W p l e room_1 s m #[Value.ref b] below meth c H locs 39 317 (lw_Z below #[Value.ref b] s) (F0 m 377 ls []) := by
  obtain ⟨hx, hb, hml, hown, hts, hX, hbl, hbA, hKx, hKm, hjx, hjm, hsep, hAx, hAm⟩ := C0
  have hN : 1000 * j < 2 ^ 30 := by omega
  refine lv_aload_n hx hb dL_law_377 rfl (lv_at hl 2 rfl) ?_
  refine lv_aload_n hx hb dL_law_378 rfl (lv_at hl 1 rfl) ?_
  refine lv_iload_n hx hb dL_law_379 rfl (lv_at hl 0 rfl) ?_
  refine lv_iconst (v := 1) hx hb dL_law_380 (by decide) ?_
  refine lv_iadd hx hb dL_law_381 ?_
  rw [show nI (2 + 4 * j) + 1 = nI (2 + 4 * j + 1) from nI_add _ 1]
  refine va_sld hx hb hX hbl hbA hS (vp_in_nI (n := (2 + 4 * j + 1)) (by omega) (by omega)) dL_law_382 ?_
  rw [nI_clamp (n := (2 + 4 * j + 1)) (by omega)]
  refine lv_aload_n hx hb dL_law_383 rfl (lv_at hl 1 rfl) ?_
  refine lv_iload_n hx hb dL_law_384 rfl (lv_at hl 0 rfl) ?_
  refine lv_iconst (v := 2) hx hb dL_law_385 (by decide) ?_
  refine lv_iadd hx hb dL_law_386 ?_
  rw [show nI (2 + 4 * j) + 2 = nI (2 + 4 * j + 2) from nI_add _ 2]
  refine va_sld hx hb hX hbl hbA hS (vp_in_nI (n := (2 + 4 * j + 2)) (by omega) (by omega)) dL_law_387 ?_
  rw [nI_clamp (n := (2 + 4 * j + 2)) (by omega)]
  refine kk_ci2 (w := kx_w ax cx) (w2 := km_w am cm μ) (As := [.int (xs (2 + 4 * j + 1)), .int (xs (2 + 4 * j + 2))]) (rest := []) ⟨hx, hb, hml, hown, hts⟩ (xc_down l dC dI ax cx hjx σ hwx (xs (2 + 4 * j + 1)) (xs (2 + 4 * j + 2)) ) (cwV 2 hts gl_54 rfl rfl rfl (by decide +kernel) ⟨Nat.le_of_ble_eq_true rfl, Nat.le_of_ble_eq_true rfl⟩) (va_recv hKx hPx (ci := 2) (q0 := 0) rfl rfl) hPx hKx hPm (kl_dm hsep) hS hAx rfl hl.1 rfl (Nat.le_of_ble_eq_true rfl) dL_law_388 ⟨Nat.le_of_ble_eq_true rfl, Nat.le_of_ble_eq_true rfl⟩ (fun r1 s1 H locs hq hPx hPm hS => ?_)
  obtain ⟨h1, hwx1⟩ := hq
  refine lv_aload_n hx hb dL_law_391 rfl (lv_at hl 3 rfl) ?_
  refine lv_aload_n hx hb dL_law_392 rfl (lv_at hl 1 rfl) ?_
  refine lv_iload_n hx hb dL_law_393 rfl (lv_at hl 0 rfl) ?_
  refine lv_iconst (v := 1) hx hb dL_law_394 (by decide) ?_
  refine lv_iadd hx hb dL_law_395 ?_
  rw [show nI (2 + 4 * j) + 1 = nI (2 + 4 * j + 1) from nI_add _ 1]
  refine va_sld hx hb hX hbl hbA hS (vp_in_nI (n := (2 + 4 * j + 1)) (by omega) (by omega)) dL_law_396 ?_
  rw [nI_clamp (n := (2 + 4 * j + 1)) (by omega)]
  refine lv_aload_n hx hb dL_law_397 rfl (lv_at hl 1 rfl) ?_
  refine lv_iload_n hx hb dL_law_398 rfl (lv_at hl 0 rfl) ?_
  refine lv_iconst (v := 2) hx hb dL_law_399 (by decide) ?_
  refine lv_iadd hx hb dL_law_400 ?_
  rw [show nI (2 + 4 * j) + 2 = nI (2 + 4 * j + 2) from nI_add _ 2]
  refine va_sld hx hb hX hbl hbA hS (vp_in_nI (n := (2 + 4 * j + 2)) (by omega) (by omega)) dL_law_401 ?_
  rw [nI_clamp (n := (2 + 4 * j + 2)) (by omega)]
  refine kk_ci2 (w := km_w am cm) (w2 := kx_w ax cx s1) (As := [.int (xs (2 + 4 * j + 1)), .int (xs (2 + 4 * j + 2))]) (rest := [.int r1]) ⟨hx, hb, hml, hown, hts⟩ (mc_down l dC dI am cm hjm μ hwm (xs (2 + 4 * j + 1)) (xs (2 + 4 * j + 2))) (cwV 2 hts gl_57 rfl rfl rfl (by decide +kernel) ⟨Nat.le_of_ble_eq_true rfl, Nat.le_of_ble_eq_true rfl⟩) (va_recv hKm hPm (ci := 3) (q0 := 0) rfl rfl) hPm hKm hPx (kl_dx hsep) hS hAm rfl hl.1 rfl (Nat.le_of_ble_eq_true rfl) dL_law_402 ⟨Nat.le_of_ble_eq_true rfl, Nat.le_of_ble_eq_true rfl⟩ (fun r2 u2 H locs hq hPm hPx hS => ?_)
  obtain ⟨h2, hwm1⟩ := hq
  have hkr := kr_down (xs (2 + 4 * j + 1)) (xs (2 + 4 * j + 2)) hN (by omega) hk
  rw [h1, h2] at hkr
  obtain ⟨he, hk1⟩ := hkr
  refine lv_icmp_eq (tgt := 684) hx hb dL_law_405 (by decide) (fun _ => ?_) (fun c9 => absurd he c9)
  exact fin _ _ _ _ ls hwx1 hwm1 (kr_monoB (by omega) (kr_mono (by omega) hk1)) hPx hPm hS hl
set_option maxHeartbeats 4000000 in
set_option maxRecDepth 100000 in
theorem kl_case_8 {p : Program} {e : Env} {s : State} {m : MethodId} {below : List Frame} {meth : Method} {c : Code} {l : Launch} {b L : Nat} {xs : Nat → Int32} {dC : Nat → ClassId} {dI : Nat → Nat → Nat} {ax am : Nat → Nat} {cx cm : Nat → ClassId} {j : Nat} (hL : L ≤ 2050) (hj : 6 + 4 * j ≤ L) (C0 : kl_Ctx p s m c b L xs dC dI ax am cx cm) (fin : ∀ (s1 : kx_S) (u2 : km_S) (H : Heap) (locs : List Loc) (ls : Array Slot), kx_wf s1 → km_wf u2 → kr (1000 * (j + 1)) (100 * (j + 1)) 2 s1 u2 → va_P (dC, dI) vwCl (kx_w ax cx s1) H → va_P (dC, dI) vwCl (km_w am cm u2) H → va_S (fun q : Nat => s.heap.size ≤ q) s.heap H locs → lv_has ls 4 [(3, .int (nI (2 + 4 * j))), (0, .ref b), (1, .ref (ax 0)), (2, .ref (am 0))] → W p l e room_1 s m #[Value.ref b] below meth c H locs 39 317 (lw_Z below #[Value.ref b] s) (F0 m 684 ls [])) {σ : kx_S} {μ : km_S} {H : Heap} {locs : List Loc} {ls : Array Slot} (hwx : kx_wf σ) (hwm : km_wf μ) (hk : kr (1000 * j) (100 * j) 2 σ μ) (hPx : va_P (dC, dI) vwCl (kx_w ax cx σ) H) (hPm : va_P (dC, dI) vwCl (km_w am cm μ) H) (hS : va_S (fun q : Nat => s.heap.size ≤ q) s.heap H locs) (hl : lv_has ls 4 [(3, .int (nI (2 + 4 * j))), (0, .ref b), (1, .ref (ax 0)), (2, .ref (am 0))]) : W p l e room_1 s m #[Value.ref b] below meth c H locs 39 317 (lw_Z below #[Value.ref b] s) (F0 m 410 ls []) := by
  obtain ⟨hx, hb, hml, hown, hts, hX, hbl, hbA, hKx, hKm, hjx, hjm, hsep, hAx, hAm⟩ := C0
  have hN : 1000 * j < 2 ^ 30 := by omega
  refine lv_aload_n hx hb dL_law_410 rfl (lv_at hl 2 rfl) ?_
  refine lv_aload_n hx hb dL_law_411 rfl (lv_at hl 1 rfl) ?_
  refine lv_iload_n hx hb dL_law_412 rfl (lv_at hl 0 rfl) ?_
  refine lv_iconst (v := 1) hx hb dL_law_413 (by decide) ?_
  refine lv_iadd hx hb dL_law_414 ?_
  rw [show nI (2 + 4 * j) + 1 = nI (2 + 4 * j + 1) from nI_add _ 1]
  refine va_sld hx hb hX hbl hbA hS (vp_in_nI (n := (2 + 4 * j + 1)) (by omega) (by omega)) dL_law_415 ?_
  rw [nI_clamp (n := (2 + 4 * j + 1)) (by omega)]
  refine kk_ci2 (w := kx_w ax cx) (w2 := km_w am cm μ) (As := [.int (xs (2 + 4 * j + 1))]) (rest := []) ⟨hx, hb, hml, hown, hts⟩ (xc_post l dC dI ax cx hjx σ hwx (xs (2 + 4 * j + 1)) ) (cwV 1 hts gl_58 rfl rfl rfl (by decide +kernel) ⟨Nat.le_of_ble_eq_true rfl, Nat.le_of_ble_eq_true rfl⟩) (va_recv hKx hPx (ci := 2) (q0 := 0) rfl rfl) hPx hKx hPm (kl_dm hsep) hS hAx rfl hl.1 rfl (Nat.le_of_ble_eq_true rfl) dL_law_416 ⟨Nat.le_of_ble_eq_true rfl, Nat.le_of_ble_eq_true rfl⟩ (fun r1 s1 H locs hq hPx hPm hS => ?_)
  obtain ⟨h1, hwx1⟩ := hq
  refine lv_aload_n hx hb dL_law_419 rfl (lv_at hl 3 rfl) ?_
  refine lv_aload_n hx hb dL_law_420 rfl (lv_at hl 1 rfl) ?_
  refine lv_iload_n hx hb dL_law_421 rfl (lv_at hl 0 rfl) ?_
  refine lv_iconst (v := 1) hx hb dL_law_422 (by decide) ?_
  refine lv_iadd hx hb dL_law_423 ?_
  rw [show nI (2 + 4 * j) + 1 = nI (2 + 4 * j + 1) from nI_add _ 1]
  refine va_sld hx hb hX hbl hbA hS (vp_in_nI (n := (2 + 4 * j + 1)) (by omega) (by omega)) dL_law_424 ?_
  rw [nI_clamp (n := (2 + 4 * j + 1)) (by omega)]
  refine kk_ci2 (w := km_w am cm) (w2 := kx_w ax cx s1) (As := [.int (xs (2 + 4 * j + 1))]) (rest := [.int r1]) ⟨hx, hb, hml, hown, hts⟩ (mc_post l dC dI am cm hjm μ hwm (xs (2 + 4 * j + 1))) (cwV 1 hts gl_61 rfl rfl rfl (by decide +kernel) ⟨Nat.le_of_ble_eq_true rfl, Nat.le_of_ble_eq_true rfl⟩) (va_recv hKm hPm (ci := 3) (q0 := 0) rfl rfl) hPm hKm hPx (kl_dx hsep) hS hAm rfl hl.1 rfl (Nat.le_of_ble_eq_true rfl) dL_law_425 ⟨Nat.le_of_ble_eq_true rfl, Nat.le_of_ble_eq_true rfl⟩ (fun r2 u2 H locs hq hPm hPx hS => ?_)
  obtain ⟨h2, hwm1⟩ := hq
  have hkr := kr_post (xs (2 + 4 * j + 1)) hN hk
  rw [h1, h2] at hkr
  obtain ⟨he, hk1⟩ := hkr
  refine lv_icmp_eq (tgt := 684) hx hb dL_law_428 (by decide) (fun _ => ?_) (fun c9 => absurd he c9)
  exact fin _ _ _ _ ls hwx1 hwm1 (kr_monoB (by omega) (kr_mono (by omega) hk1)) hPx hPm hS hl
set_option maxHeartbeats 4000000 in
set_option maxRecDepth 100000 in
theorem kl_case_9 {p : Program} {e : Env} {s : State} {m : MethodId} {below : List Frame} {meth : Method} {c : Code} {l : Launch} {b L : Nat} {xs : Nat → Int32} {dC : Nat → ClassId} {dI : Nat → Nat → Nat} {ax am : Nat → Nat} {cx cm : Nat → ClassId} {j : Nat} (hL : L ≤ 2050) (hj : 6 + 4 * j ≤ L) (C0 : kl_Ctx p s m c b L xs dC dI ax am cx cm) (fin : ∀ (s1 : kx_S) (u2 : km_S) (H : Heap) (locs : List Loc) (ls : Array Slot), kx_wf s1 → km_wf u2 → kr (1000 * (j + 1)) (100 * (j + 1)) 2 s1 u2 → va_P (dC, dI) vwCl (kx_w ax cx s1) H → va_P (dC, dI) vwCl (km_w am cm u2) H → va_S (fun q : Nat => s.heap.size ≤ q) s.heap H locs → lv_has ls 4 [(3, .int (nI (2 + 4 * j))), (0, .ref b), (1, .ref (ax 0)), (2, .ref (am 0))] → W p l e room_1 s m #[Value.ref b] below meth c H locs 39 317 (lw_Z below #[Value.ref b] s) (F0 m 684 ls [])) {σ : kx_S} {μ : km_S} {H : Heap} {locs : List Loc} {ls : Array Slot} (hwx : kx_wf σ) (hwm : km_wf μ) (hk : kr (1000 * j) (100 * j) 2 σ μ) (hPx : va_P (dC, dI) vwCl (kx_w ax cx σ) H) (hPm : va_P (dC, dI) vwCl (km_w am cm μ) H) (hS : va_S (fun q : Nat => s.heap.size ≤ q) s.heap H locs) (hl : lv_has ls 4 [(3, .int (nI (2 + 4 * j))), (0, .ref b), (1, .ref (ax 0)), (2, .ref (am 0))]) : W p l e room_1 s m #[Value.ref b] below meth c H locs 39 317 (lw_Z below #[Value.ref b] s) (F0 m 433 ls []) := by
  obtain ⟨hx, hb, hml, hown, hts, hX, hbl, hbA, hKx, hKm, hjx, hjm, hsep, hAx, hAm⟩ := C0
  have hN : 1000 * j < 2 ^ 30 := by omega
  refine lv_aload_n hx hb dL_law_433 rfl (lv_at hl 2 rfl) ?_
  refine lv_aload_n hx hb dL_law_434 rfl (lv_at hl 1 rfl) ?_
  refine lv_iload_n hx hb dL_law_435 rfl (lv_at hl 0 rfl) ?_
  refine lv_iconst (v := 1) hx hb dL_law_436 (by decide) ?_
  refine lv_iadd hx hb dL_law_437 ?_
  rw [show nI (2 + 4 * j) + 1 = nI (2 + 4 * j + 1) from nI_add _ 1]
  refine va_sld hx hb hX hbl hbA hS (vp_in_nI (n := (2 + 4 * j + 1)) (by omega) (by omega)) dL_law_438 ?_
  rw [nI_clamp (n := (2 + 4 * j + 1)) (by omega)]
  refine lv_aload_n hx hb dL_law_439 rfl (lv_at hl 1 rfl) ?_
  refine lv_iload_n hx hb dL_law_440 rfl (lv_at hl 0 rfl) ?_
  refine lv_iconst (v := 2) hx hb dL_law_441 (by decide) ?_
  refine lv_iadd hx hb dL_law_442 ?_
  rw [show nI (2 + 4 * j) + 2 = nI (2 + 4 * j + 2) from nI_add _ 2]
  refine va_sld hx hb hX hbl hbA hS (vp_in_nI (n := (2 + 4 * j + 2)) (by omega) (by omega)) dL_law_443 ?_
  rw [nI_clamp (n := (2 + 4 * j + 2)) (by omega)]
  refine lv_aload_n hx hb dL_law_444 rfl (lv_at hl 1 rfl) ?_
  refine lv_iload_n hx hb dL_law_445 rfl (lv_at hl 0 rfl) ?_
  refine lv_iconst (v := 3) hx hb dL_law_446 (by decide) ?_
  refine lv_iadd hx hb dL_law_447 ?_
  rw [show nI (2 + 4 * j) + 3 = nI (2 + 4 * j + 3) from nI_add _ 3]
  refine va_sld hx hb hX hbl hbA hS (vp_in_nI (n := (2 + 4 * j + 3)) (by omega) (by omega)) dL_law_448 ?_
  rw [nI_clamp (n := (2 + 4 * j + 3)) (by omega)]
  refine kk_ci2 (w := kx_w ax cx) (w2 := km_w am cm μ) (As := [.int (xs (2 + 4 * j + 1)), .int (xs (2 + 4 * j + 2)), .int (xs (2 + 4 * j + 3))]) (rest := []) ⟨hx, hb, hml, hown, hts⟩ (xc_send l dC dI ax cx hjx σ hwx (xs (2 + 4 * j + 1)) (xs (2 + 4 * j + 2)) (xs (2 + 4 * j + 3)) ) (cwV 3 hts gl_62 rfl rfl rfl (by decide +kernel) ⟨Nat.le_of_ble_eq_true rfl, Nat.le_of_ble_eq_true rfl⟩) (va_recv hKx hPx (ci := 2) (q0 := 0) rfl rfl) hPx hKx hPm (kl_dm hsep) hS hAx rfl hl.1 rfl (Nat.le_of_ble_eq_true rfl) dL_law_449 ⟨Nat.le_of_ble_eq_true rfl, Nat.le_of_ble_eq_true rfl⟩ (fun r1 s1 H locs hq hPx hPm hS => ?_)
  obtain ⟨h1, hwx1⟩ := hq
  refine lv_aload_n hx hb dL_law_452 rfl (lv_at hl 3 rfl) ?_
  refine lv_aload_n hx hb dL_law_453 rfl (lv_at hl 1 rfl) ?_
  refine lv_iload_n hx hb dL_law_454 rfl (lv_at hl 0 rfl) ?_
  refine lv_iconst (v := 1) hx hb dL_law_455 (by decide) ?_
  refine lv_iadd hx hb dL_law_456 ?_
  rw [show nI (2 + 4 * j) + 1 = nI (2 + 4 * j + 1) from nI_add _ 1]
  refine va_sld hx hb hX hbl hbA hS (vp_in_nI (n := (2 + 4 * j + 1)) (by omega) (by omega)) dL_law_457 ?_
  rw [nI_clamp (n := (2 + 4 * j + 1)) (by omega)]
  refine lv_aload_n hx hb dL_law_458 rfl (lv_at hl 1 rfl) ?_
  refine lv_iload_n hx hb dL_law_459 rfl (lv_at hl 0 rfl) ?_
  refine lv_iconst (v := 2) hx hb dL_law_460 (by decide) ?_
  refine lv_iadd hx hb dL_law_461 ?_
  rw [show nI (2 + 4 * j) + 2 = nI (2 + 4 * j + 2) from nI_add _ 2]
  refine va_sld hx hb hX hbl hbA hS (vp_in_nI (n := (2 + 4 * j + 2)) (by omega) (by omega)) dL_law_462 ?_
  rw [nI_clamp (n := (2 + 4 * j + 2)) (by omega)]
  refine lv_aload_n hx hb dL_law_463 rfl (lv_at hl 1 rfl) ?_
  refine lv_iload_n hx hb dL_law_464 rfl (lv_at hl 0 rfl) ?_
  refine lv_iconst (v := 3) hx hb dL_law_465 (by decide) ?_
  refine lv_iadd hx hb dL_law_466 ?_
  rw [show nI (2 + 4 * j) + 3 = nI (2 + 4 * j + 3) from nI_add _ 3]
  refine va_sld hx hb hX hbl hbA hS (vp_in_nI (n := (2 + 4 * j + 3)) (by omega) (by omega)) dL_law_467 ?_
  rw [nI_clamp (n := (2 + 4 * j + 3)) (by omega)]
  refine kk_ci2 (w := km_w am cm) (w2 := kx_w ax cx s1) (As := [.int (xs (2 + 4 * j + 1)), .int (xs (2 + 4 * j + 2)), .int (xs (2 + 4 * j + 3))]) (rest := [.int r1]) ⟨hx, hb, hml, hown, hts⟩ (mc_send l dC dI am cm hjm μ hwm (xs (2 + 4 * j + 1)) (xs (2 + 4 * j + 2)) (xs (2 + 4 * j + 3))) (cwV 3 hts gl_65 rfl rfl rfl (by decide +kernel) ⟨Nat.le_of_ble_eq_true rfl, Nat.le_of_ble_eq_true rfl⟩) (va_recv hKm hPm (ci := 3) (q0 := 0) rfl rfl) hPm hKm hPx (kl_dx hsep) hS hAm rfl hl.1 rfl (Nat.le_of_ble_eq_true rfl) dL_law_468 ⟨Nat.le_of_ble_eq_true rfl, Nat.le_of_ble_eq_true rfl⟩ (fun r2 u2 H locs hq hPm hPx hS => ?_)
  obtain ⟨h2, hwm1⟩ := hq
  have hkr := kr_send (xs (2 + 4 * j + 1)) (xs (2 + 4 * j + 2)) (xs (2 + 4 * j + 3)) hN hk
  rw [h1, h2] at hkr
  obtain ⟨he, hk1⟩ := hkr
  refine lv_icmp_eq (tgt := 684) hx hb dL_law_471 (by decide) (fun _ => ?_) (fun c9 => absurd he c9)
  exact fin _ _ _ _ ls hwx1 hwm1 (kr_monoB (by omega) (kr_mono (by omega) hk1)) hPx hPm hS hl
