/-! the law's loop, and its start -/
set_option maxHeartbeats 4000000 in
set_option maxRecDepth 100000 in
theorem kl_loop {p : Program} {e : Env} {s : State} {m : MethodId} {below : List Frame} {meth : Method} {c : Code} {l : Launch} {b L : Nat} {xs : Nat → Int32} {dC : Nat → ClassId} {dI : Nat → Nat → Nat} {ax am : Nat → Nat} {cx cm : Nat → ClassId} (hL : L ≤ 2050) (hr : meth.sig.returnType = ret) (hlocks : meth.locks = false) (C1 : kl_Ctx p s m c b L xs dC dI ax am cx cm) : ∀ (n j : Nat) (σ : kx_S) (μ : km_S) (H : Heap) (locs : List Loc) (ls : Array Slot), L ≤ 4 * n + 4 * j + 5 → j ≤ 600 → kx_wf σ → km_wf μ → kr (1000 * j) (100 * j) 2 σ μ → va_P (dC, dI) vwCl (kx_w ax cx σ) H → va_P (dC, dI) vwCl (km_w am cm μ) H → va_S (fun q : Nat => s.heap.size ≤ q) s.heap H locs → lv_has ls 4 [(3, .int (nI (2 + 4 * j))), (0, .ref b), (1, .ref (ax 0)), (2, .ref (am 0))] → W p l e room_1 s m #[Value.ref b] below meth c H locs 39 317 (lw_Z below #[Value.ref b] s) (F0 m 38 ls []) := by
  obtain ⟨hx, hb, hml, hown, hts, hX, hbl, hbA, hKx, hKm, hjx, hjm, hsep, hAx, hAm⟩ := id C1
  intro n
  induction n with
  | zero =>
    intro j σ μ H locs ls hn hj6 hwx hwm hk hPx hPm hS hl
    refine lv_iload_n hx hb dL_law_38 rfl (lv_at hl 0 rfl) ?_
    refine lv_aload_n hx hb dL_law_39 rfl (lv_at hl 1 rfl) ?_
    refine va_slen hx hb hX hbl hbA hS dL_law_40 ?_
    refine lv_iconst (v := 4) hx hb dL_law_41 (by decide) ?_
    refine lv_isub hx hb dL_law_42 ?_
    have hgt : nI L - 4 < nI (2 + 4 * j) := by
      rw [kk_lt_iff, show (4 : Int32) = nI 4 from rfl, pk_sub_toInt (by omega) (by omega), nI_toInt (by omega)]
      omega
    refine lv_icmp_gt (tgt := 690) hx hb dL_law_43 (by decide) (fun _ => ?_) (fun c9 => absurd hgt c9)
    refine lv_iconst (v := 1) hx hb dL_law_690 (by decide) ?_
    refine va_forget (fun q hq => hS.2.2 q hq) ?_
    refine W.widen (k := 600000) (n := 7302250) (by omega) (by omega) ?_
    exact lw_ret hx hb hr hlocks dL_law_691
  | succ n ih =>
    intro j σ μ H locs ls hn hj6 hwx hwm hk hPx hPm hS hl
    refine lv_iload_n hx hb dL_law_38 rfl (lv_at hl 0 rfl) ?_
    refine lv_aload_n hx hb dL_law_39 rfl (lv_at hl 1 rfl) ?_
    refine va_slen hx hb hX hbl hbA hS dL_law_40 ?_
    refine lv_iconst (v := 4) hx hb dL_law_41 (by decide) ?_
    refine lv_isub hx hb dL_law_42 ?_
    have hiff : nI L - 4 < nI (2 + 4 * j) ↔ L < 6 + 4 * j := by
      rw [kk_lt_iff, show (4 : Int32) = nI 4 from rfl, pk_sub_toInt (by omega) (by omega), nI_toInt (by omega)]
      omega
    refine lv_icmp_gt (tgt := 690) hx hb dL_law_43 (by decide) (fun c9 => ?_) (fun c9 => ?_)
    · refine lv_iconst (v := 1) hx hb dL_law_690 (by decide) ?_
      refine va_forget (fun q hq => hS.2.2 q hq) ?_
      refine W.widen (k := 600000) (n := 7302250) (by omega) (by omega) ?_
      exact lw_ret hx hb hr hlocks dL_law_691
    · have hj : 6 + 4 * j ≤ L := Nat.not_lt.mp (fun q => c9 (hiff.mpr q))
      have fin : ∀ (s1 : kx_S) (u2 : km_S) (H : Heap) (locs : List Loc) (ls : Array Slot), kx_wf s1 → km_wf u2 → kr (1000 * (j + 1)) (100 * (j + 1)) 2 s1 u2 → va_P (dC, dI) vwCl (kx_w ax cx s1) H → va_P (dC, dI) vwCl (km_w am cm u2) H → va_S (fun q : Nat => s.heap.size ≤ q) s.heap H locs → lv_has ls 4 [(3, .int (nI (2 + 4 * j))), (0, .ref b), (1, .ref (ax 0)), (2, .ref (am 0))] → W p l e room_1 s m #[Value.ref b] below meth c H locs 39 317 (lw_Z below #[Value.ref b] s) (F0 m 684 ls []) := by
        intro s1 u2 H locs ls w1 w2 k1 p1 p2 S1 l1
        refine lv_iinc (v := nI (2 + 4 * (j + 1))) (lv' := [(3, .int (nI (2 + 4 * (j + 1)))), (0, .ref b), (1, .ref (ax 0)), (2, .ref (am 0))]) hx hb dL_law_684 l1 (k := 0) rfl (nI_add _ 4) (by decide) rfl (fun ls l2 => ?_)
        refine lv_goto (tgt := 38) hx hb dL_law_687 (by decide) ?_
        exact ih (j + 1) s1 u2 H locs ls (by omega) (by omega) w1 w2 k1 p1 p2 S1 l2
      refine lv_aload_n hx hb dL_law_46 rfl (lv_at hl 1 rfl) ?_
      refine lv_iload_n hx hb dL_law_47 rfl (lv_at hl 0 rfl) ?_
      refine va_sld hx hb hX hbl hbA hS (vp_in_nI (n := 2 + 4 * j) (by omega) (by omega)) dL_law_48 ?_
      rw [nI_clamp (n := 2 + 4 * j) (by omega)]
      refine lv_bipush (v := 31) hx hb dL_law_49 (by decide) ?_
      refine lv_iand hx hb dL_law_51 ?_
      rcases Classical.em (xs (2 + 4 * j) &&& 31 = 0) with c_0 | c_0
      · refine lv_tableIn (tgt := 144) hx hb dL_law_52 (by rw [c_0]; decide) (by rw [c_0]; decide) (by rw [c_0]; rfl) (by decide) ?_
        exact kl_case_0 hL hj C1 fin hwx hwm hk hPx hPm hS hl
      rcases Classical.em (xs (2 + 4 * j) &&& 31 = 1) with c_1 | c_1
      · refine lv_tableIn (tgt := 193) hx hb dL_law_52 (by rw [c_1]; decide) (by rw [c_1]; decide) (by rw [c_1]; rfl) (by decide) ?_
        exact kl_case_1 hL hj C1 fin hwx hwm hk hPx hPm hS hl
      rcases Classical.em (xs (2 + 4 * j) &&& 31 = 2) with c_2 | c_2
      · refine lv_tableIn (tgt := 226) hx hb dL_law_52 (by rw [c_2]; decide) (by rw [c_2]; decide) (by rw [c_2]; rfl) (by decide) ?_
        exact kl_case_2 hL hj C1 fin hwx hwm hk hPx hPm hS hl
      rcases Classical.em (xs (2 + 4 * j) &&& 31 = 3) with c_3 | c_3
      · refine lv_tableIn (tgt := 239) hx hb dL_law_52 (by rw [c_3]; decide) (by rw [c_3]; decide) (by rw [c_3]; rfl) (by decide) ?_
        exact kl_case_3 hL hj C1 fin hwx hwm hk hPx hPm hS hl
      rcases Classical.em (xs (2 + 4 * j) &&& 31 = 4) with c_4 | c_4
      · refine lv_tableIn (tgt := 262) hx hb dL_law_52 (by rw [c_4]; decide) (by rw [c_4]; decide) (by rw [c_4]; rfl) (by decide) ?_
        exact kl_case_4 hL hj C1 fin hwx hwm hk hPx hPm hS hl
      rcases Classical.em (xs (2 + 4 * j) &&& 31 = 5) with c_5 | c_5
      · refine lv_tableIn (tgt := 285) hx hb dL_law_52 (by rw [c_5]; decide) (by rw [c_5]; decide) (by rw [c_5]; rfl) (by decide) ?_
        exact kl_case_5 hL hj C1 fin hwx hwm hk hPx hPm hS hl
      rcases Classical.em (xs (2 + 4 * j) &&& 31 = 6) with c_6 | c_6
      · refine lv_tableIn (tgt := 328) hx hb dL_law_52 (by rw [c_6]; decide) (by rw [c_6]; decide) (by rw [c_6]; rfl) (by decide) ?_
        exact kl_case_6 hL hj C1 fin hwx hwm hk hPx hPm hS hl
      rcases Classical.em (xs (2 + 4 * j) &&& 31 = 7) with c_7 | c_7
      · refine lv_tableIn (tgt := 377) hx hb dL_law_52 (by rw [c_7]; decide) (by rw [c_7]; decide) (by rw [c_7]; rfl) (by decide) ?_
        exact kl_case_7 hL hj C1 fin hwx hwm hk hPx hPm hS hl
      rcases Classical.em (xs (2 + 4 * j) &&& 31 = 8) with c_8 | c_8
      · refine lv_tableIn (tgt := 410) hx hb dL_law_52 (by rw [c_8]; decide) (by rw [c_8]; decide) (by rw [c_8]; rfl) (by decide) ?_
        exact kl_case_8 hL hj C1 fin hwx hwm hk hPx hPm hS hl
      rcases Classical.em (xs (2 + 4 * j) &&& 31 = 9) with c_9 | c_9
      · refine lv_tableIn (tgt := 433) hx hb dL_law_52 (by rw [c_9]; decide) (by rw [c_9]; decide) (by rw [c_9]; rfl) (by decide) ?_
        exact kl_case_9 hL hj C1 fin hwx hwm hk hPx hPm hS hl
      rcases Classical.em (xs (2 + 4 * j) &&& 31 = 10) with c_10 | c_10
      · refine lv_tableIn (tgt := 476) hx hb dL_law_52 (by rw [c_10]; decide) (by rw [c_10]; decide) (by rw [c_10]; rfl) (by decide) ?_
        exact kl_case_10 hL hj C1 fin hwx hwm hk hPx hPm hS hl
      rcases Classical.em (xs (2 + 4 * j) &&& 31 = 11) with c_11 | c_11
      · refine lv_tableIn (tgt := 499) hx hb dL_law_52 (by rw [c_11]; decide) (by rw [c_11]; decide) (by rw [c_11]; rfl) (by decide) ?_
        exact kl_case_11 hL hj C1 fin hwx hwm hk hPx hPm hS hl
      rcases Classical.em (xs (2 + 4 * j) &&& 31 = 12) with c_12 | c_12
      · refine lv_tableIn (tgt := 522) hx hb dL_law_52 (by rw [c_12]; decide) (by rw [c_12]; decide) (by rw [c_12]; rfl) (by decide) ?_
        exact kl_case_12 hL hj C1 fin hwx hwm hk hPx hPm hS hl
      rcases Classical.em (xs (2 + 4 * j) &&& 31 = 13) with c_13 | c_13
      · refine lv_tableIn (tgt := 545) hx hb dL_law_52 (by rw [c_13]; decide) (by rw [c_13]; decide) (by rw [c_13]; rfl) (by decide) ?_
        exact kl_case_13 hL hj C1 fin hwx hwm hk hPx hPm hS hl
      rcases Classical.em (xs (2 + 4 * j) &&& 31 = 14) with c_14 | c_14
      · refine lv_tableIn (tgt := 568) hx hb dL_law_52 (by rw [c_14]; decide) (by rw [c_14]; decide) (by rw [c_14]; rfl) (by decide) ?_
        exact kl_case_14 hL hj C1 fin hwx hwm hk hPx hPm hS hl
      rcases Classical.em (xs (2 + 4 * j) &&& 31 = 15) with c_15 | c_15
      · refine lv_tableIn (tgt := 591) hx hb dL_law_52 (by rw [c_15]; decide) (by rw [c_15]; decide) (by rw [c_15]; rfl) (by decide) ?_
        exact kl_case_15 hL hj C1 fin hwx hwm hk hPx hPm hS hl
      rcases Classical.em (xs (2 + 4 * j) &&& 31 = 16) with c_16 | c_16
      · refine lv_tableIn (tgt := 604) hx hb dL_law_52 (by rw [c_16]; decide) (by rw [c_16]; decide) (by rw [c_16]; rfl) (by decide) ?_
        exact kl_case_16 hL hj C1 fin hwx hwm hk hPx hPm hS hl
      rcases Classical.em (xs (2 + 4 * j) &&& 31 = 17) with c_17 | c_17
      · refine lv_tableIn (tgt := 638) hx hb dL_law_52 (by rw [c_17]; decide) (by rw [c_17]; decide) (by rw [c_17]; rfl) (by decide) ?_
        exact kl_case_17 hL hj C1 fin hwx hwm hk hPx hPm hS hl
      rcases Classical.em (xs (2 + 4 * j) &&& 31 = 18) with c_18 | c_18
      · refine lv_tableIn (tgt := 661) hx hb dL_law_52 (by rw [c_18]; decide) (by rw [c_18]; decide) (by rw [c_18]; rfl) (by decide) ?_
        exact kl_case_18 hL hj C1 fin hwx hwm hk hPx hPm hS hl
      refine lv_tableOut (tgt := 684) hx hb dL_law_52 (kk_tab (lo := 0) 19 (fun j hj => match j, hj with | 0, _ => kk_neI 0 (by decide) c_0 | 1, _ => kk_neI 1 (by decide) c_1 | 2, _ => kk_neI 2 (by decide) c_2 | 3, _ => kk_neI 3 (by decide) c_3 | 4, _ => kk_neI 4 (by decide) c_4 | 5, _ => kk_neI 5 (by decide) c_5 | 6, _ => kk_neI 6 (by decide) c_6 | 7, _ => kk_neI 7 (by decide) c_7 | 8, _ => kk_neI 8 (by decide) c_8 | 9, _ => kk_neI 9 (by decide) c_9 | 10, _ => kk_neI 10 (by decide) c_10 | 11, _ => kk_neI 11 (by decide) c_11 | 12, _ => kk_neI 12 (by decide) c_12 | 13, _ => kk_neI 13 (by decide) c_13 | 14, _ => kk_neI 14 (by decide) c_14 | 15, _ => kk_neI 15 (by decide) c_15 | 16, _ => kk_neI 16 (by decide) c_16 | 17, _ => kk_neI 17 (by decide) c_17 | 18, _ => kk_neI 18 (by decide) c_18 | k9 + 19, h9 => absurd h9 (by omega)) 18 (by decide)) (by decide) ?_
      exact fin _ _ _ _ ls hwx hwm (kr_monoB (by omega) (kr_mono (by omega) hk)) hPx hPm hS hl
theorem kl_xget {ad : Nat → Nat} {cs : Nat → ClassId} {S : kx_S} (i : Nat) (hi : i < 19) : ∃ e, (kx_w ad cs S)[i]? = some (ad i, e) := by
  have hl : i < (kx_w ad cs S).length := by rw [kx_len]; exact hi
  obtain ⟨q, hq⟩ : ∃ q, (kx_w ad cs S)[i]? = some q := ⟨_, List.getElem?_eq_getElem hl⟩
  have := (kx_adr i q hq).2
  exact ⟨q.2, by rw [hq, ← this]⟩
theorem kl_mget {ad : Nat → Nat} {cs : Nat → ClassId} {S : km_S} (i : Nat) (hi : i < 20) : ∃ e, (km_w ad cs S)[i]? = some (ad i, e) := by
  have hl : i < (km_w ad cs S).length := by rw [km_len]; exact hi
  obtain ⟨q, hq⟩ : ∃ q, (km_w ad cs S)[i]? = some q := ⟨_, List.getElem?_eq_getElem hl⟩
  have := (km_adr i q hq).2
  exact ⟨q.2, by rw [hq, ← this]⟩
theorem kl_xinj {A : Nat → Prop} {ad : Nat → Nat} {cs : Nat → ClassId} {S : kx_S} (hD : va_D A (kx_w ad cs S)) : kx_inj ad := fun i j hi hj e => by
  obtain ⟨e1, h1⟩ := kl_xget (ad := ad) (cs := cs) (S := S) i hi
  obtain ⟨e2, h2⟩ := kl_xget (ad := ad) (cs := cs) (S := S) j hj
  exact hD.1 i j _ _ h1 h2 e
theorem kl_minj {A : Nat → Prop} {ad : Nat → Nat} {cs : Nat → ClassId} {S : km_S} (hD : va_D A (km_w ad cs S)) : km_inj ad := fun i j hi hj e => by
  obtain ⟨e1, h1⟩ := kl_mget (ad := ad) (cs := cs) (S := S) i hi
  obtain ⟨e2, h2⟩ := kl_mget (ad := ad) (cs := cs) (S := S) j hj
  exact hD.1 i j _ _ h1 h2 e
theorem kl_upd4 (m : Nat) : upd (upd (upd (upd (fun _ => 0) 0 (-1)) 1 (-1)) 2 (-1)) 3 (-1) m = if m < 4 then -1 else 0 := by
  match m with
  | 0 => rfl
  | 1 => rfl
  | 2 => rfl
  | 3 => rfl
  | m + 4 => simp [upd]
theorem kl_own0 (m : Nat) (hm : m < 4) : upd (upd (upd (upd (fun _ => 0) 0 (-1)) 1 (-1)) 2 (-1)) 3 (-1) m = -1 := by rw [kl_upd4, if_pos hm]
theorem kl_wfx (a b : Int32) : kx_wf (kx_0 a b) := ⟨fun m hm => Or.inl (kl_own0 m hm), fun t _ => kk_inl (show ¬ ((0 : Int32) < 0 ∨ 4 ≤ (0 : Int32).toNatClampNeg) by decide), fun q _ => ⟨0, by decide, rfl⟩⟩
theorem kl_wfm (a b : Int32) : km_wf (km_0 a b) := ⟨fun m hm => Or.inl (kl_own0 m hm), fun t _ => kk_inl (show ¬ ((0 : Int32) < 0 ∨ 4 ≤ (0 : Int32).toNatClampNeg) by decide), fun q _ => ⟨0, by decide, rfl⟩⟩
theorem kl_kr0 (a b : Int32) : kr 0 0 2 (kx_0 a b) (km_0 a b) := by
  refine ⟨⟨rfl, rfl, ⟨0, by decide, rfl, rfl⟩, 0, by decide, rfl, rfl⟩, fun m hm => ⟨rfl, Or.inl (kl_own0 m hm)⟩, fun s _ => ⟨rfl, 0, by decide, rfl⟩, fun q hq => ?_, fun t q _ hq _ => ⟨fun z => absurd z (kk_z40 hq).1, fun z => absurd z (kk_z40 hq).2⟩, fun t _ => ⟨⟨rfl, rfl, rfl, rfl, ⟨rfl, kk_inl (show ¬ ((0 : Int32) < 0 ∨ 4 ≤ (0 : Int32).toNatClampNeg) by decide)⟩, rfl, rfl⟩, fun z => absurd rfl z, Or.inl ⟨rfl, rfl⟩, fun _ => rfl, fun z => absurd z (show ¬ (0 : Int32) = 1 by decide), fun z => absurd z (show ¬ (0 : Int32) = 2 by decide), fun m hm z => absurd z (kk_z10 hm)⟩⟩
  refine ⟨0, by decide, ?_, ?_, fun i hi => by omega⟩
  · rfl
  · rfl
theorem kl_clamp (x : Int32) (k : Nat) (h1 : 1 < k) (hk : k < 1000) : (if 1 < (if x < nI k then x else nI k) then (if x < nI k then x else nI k) else 1) = (if 1 ≤ x then (if x ≤ nI k then x else nI k) else 1) := by
  have e1 : (1 : Int32).toInt = 1 := by decide
  have ek : (nI k).toInt = k := nI_toInt (by omega)
  by_cases a : x < nI k
  · rw [if_pos a]
    by_cases d : 1 < x
    · rw [if_pos d, if_pos (Int32.le_of_lt d), if_pos (Int32.le_of_lt a)]
    · rw [if_neg d]
      by_cases g : 1 ≤ x
      · rw [if_pos g, if_pos (Int32.le_of_lt a)]
        exact Int32.le_antisymm g (Int32.not_lt.mp d)
      · rw [if_neg g]
  · rw [if_neg a]
    have d : (1 : Int32) < nI k := by rw [kk_lt_iff, e1, ek]; omega
    rw [if_pos d]
    have g : 1 ≤ x := Int32.le_of_lt (Int32.lt_of_lt_of_le d (Int32.not_lt.mp a))
    rw [if_pos g]
    by_cases z : x ≤ nI k
    · rw [if_pos z]; exact Int32.le_antisymm (Int32.not_lt.mp a) z
    · rw [if_neg z]
theorem kl_init (a b : Int32) : ∃ u v : Int32, xf_init a b = kx_0 u v ∧ mf_init a b = km_0 u v := by
  refine ⟨if 1 ≤ a then (if a ≤ 20 then a else 20) else 1, if 1 ≤ b then (if b ≤ 31 then b else 31) else 1, ?_, ?_⟩
  · rw [xf_init]
    have h1 := kl_clamp a 20 (by decide) (by decide)
    have h2 := kl_clamp b 31 (by decide) (by decide)
    exact congr (congrArg kx_0 h1) h2
  · rw [mf_init]
    by_cases c1 : (1 : Int32) ≤ a
    · by_cases c2 : a ≤ 20
      · by_cases d1 : (1 : Int32) ≤ b
        · by_cases d2 : b ≤ 31
          · simp only [c1, c2, d1, d2, if_true]
          · simp only [c1, c2, d1, d2, if_true, if_false]
        · simp only [c1, c2, d1, if_true, if_false]
      · by_cases d1 : (1 : Int32) ≤ b
        · by_cases d2 : b ≤ 31
          · simp only [c1, c2, d1, d2, if_true, if_false]
          · simp only [c1, c2, d1, d2, if_true, if_false]
        · simp only [c1, c2, d1, if_true, if_false]
    · by_cases d1 : (1 : Int32) ≤ b
      · by_cases d2 : b ≤ 31
        · simp only [c1, d1, d2, if_true, if_false]
        · simp only [c1, d1, d2, if_true, if_false]
      · simp only [c1, d1, if_false]
