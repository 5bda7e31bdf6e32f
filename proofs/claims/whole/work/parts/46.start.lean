/-! the law from its entry -/
theorem kk_blind3 {D : va_G} {cl : List vw_C} {tys : List (ClassId × FieldType)} {ws : va_W} {av : List Value} {sz : Nat} {C1 C2 : String} {v : Cond} (hv : v.onTables = true) : FrameBlind (va_Pc av (fun U => U.heap.size = sz ∧ va_P D cl ws U.heap ∧ va_K D cl tys U ∧ va_AO C1 U ∧ va_AO C2 U ∧ va_Nw v U)) := fun a U g mk q => by
  obtain ⟨q0, q1, qP, qK, o1, o2, nw⟩ := q
  exact ⟨q0, q1, qP, va_K.moved (u := U) (U := U.calling g mk a) (Vm.Alike.refl U.vm) qK, va_AO.moved (u := U) (U := U.calling g mk a) (Vm.Alike.refl U.vm) o1, va_AO.moved (u := U) (U := U.calling g mk a) (Vm.Alike.refl U.vm) o2, va_Nw.same (u := U) (U := U.calling g mk a) hv rfl nw⟩
set_option maxHeartbeats 4000000 in
set_option maxRecDepth 100000 in
theorem whole_start {p : Program} {e : Env} {s : State} {m : MethodId} {below : List Frame} {meth : Method} {c : Code} (l : Launch) {b L : Nat} {xs : Nat → Int32} (hL : L ≤ 2050) (C0 : lw_At p s m meth c b L xs) : W p l e room_1 s m #[Value.ref b] below meth c s.heap [] 0 0 (lw_Z below #[Value.ref b] s) (entryFrame m ([Value.ref b] : List Value).toArray 4) := by
  obtain ⟨hx, hb, hr, hml, hown, hts, hX, hbl, hlocks, hgv⟩ := id C0
  have hA : ∀ q : Nat, s.heap.size ≤ q → (fun q : Nat => s.heap.size ≤ q) q := fun _ h => h
  have hbA : ¬ (fun q : Nat => s.heap.size ≤ q) b := Nat.not_le.mpr hbl
  have hkn : ∀ w, w ∈ kn_T → w.before #[Value.ref b] s = true := fun w h => hts w (List.mem_filter.mp h).1
  obtain ⟨c0, i0, hK0⟩ := u_known (C := R_Q) (T := T_Q) (N := 3) (n := 3) hts ux_Q (hkn _ wd_88)
  obtain ⟨c1, i1, hK1⟩ := u_known (C := R_T) (T := T_T) (N := 14) (n := 14) hts ux_T (hkn _ wd_24)
  obtain ⟨c2, i2, hK2⟩ := u_known (C := R_X) (T := T_X) (N := 8) (n := 8) hts ux_X (hkn _ wd_7)
  obtain ⟨c3, i3, hK3⟩ := u_known (C := R_M) (T := T_M) (N := 23) (n := 23) hts ux_M (hkn _ wd_326)
  obtain ⟨dC, dI, hKc⟩ : ∃ (dC : Nat → ClassId) (dI : Nat → Nat → Nat), ∀ (k : Nat) (q : vw_C), vwCl[k]? = some q → u_Kn s q.1 q.2.1 q.2.2 (dC k) (dI k) := by
    refine ⟨fun k => match k with | 0 => c0 | 1 => c1 | 2 => c2 | _ => c3, fun k => match k with | 0 => i0 | 1 => i1 | 2 => i2 | _ => i3, ?_⟩
    intro k q hq
    match k, hq with
    | 0, hq => cases hq; exact hK0
    | 1, hq => cases hq; exact hK1
    | 2, hq => cases hq; exact hK2
    | 3, hq => cases hq; exact hK3
    | k + 4, hq => simp [vwCl] at hq
  have hS : va_S (fun q : Nat => s.heap.size ≤ q) s.heap s.heap [] := va_S.rf
  have hK : va_K (dC, dI) vwCl [] s := ⟨hKc, fun k q h => by simp at h⟩
  have hP : va_P (dC, dI) vwCl [] s.heap := fun k q h => by simp at h
  have hD : va_D (fun q : Nat => s.heap.size ≤ q) [] := ⟨fun i j p q h => by simp at h, fun k q h => by simp at h⟩
  have hl := lv_entry ([.ref b]) (n := 4) (Nat.le_of_ble_eq_true rfl)
  rw [lg_entry_eq]
  generalize (lg_sl ([.ref b]) ++ List.replicate (4 - (lg_sl ([.ref b])).length) Slot.unset).toArray = ls at hl ⊢
  have hl : lv_has ls 4 [(0, .ref b)] := hl
  refine va_new (ci := 2) (fs := [.int 0, .int 0, .null, .null, .null, .null, .int 0, .long 0]) (C := R_X) (T := T_X) (N := 8) hx hb hts ux_X ty_X ty_X_ok hown (hkn _ wd_6) (hkn _ wd_7) (hkn _ wd_1) hK hP hD hS hA rfl (fun j hj => by rcases (show j = 0 ∨ j = 1 ∨ j = 2 ∨ j = 3 ∨ j = 4 ∨ j = 5 ∨ j = 6 ∨ j = 7 by omega) with rfl | rfl | rfl | rfl | rfl | rfl | rfl | rfl <;> rfl) (Nat.le_of_ble_eq_true rfl) (Nat.le_of_ble_eq_true rfl) dL_law_0 (fun q0 H hP hD hS => ?_)
  have hP : va_P (dC, dI) vwCl [(q0, .inr (2, [.int 0, .int 0, .null, .null, .null, .null, .int 0, .long 0]))] H := hP
  have hD : va_D (fun q : Nat => s.heap.size ≤ q) [(q0, .inr (2, [.int 0, .int 0, .null, .null, .null, .null, .int 0, .long 0]))] := hD
  refine W.widen (k := 1) (n := 8) (by omega) (by omega) ?_
  refine lv_dup hx hb dL_law_3 rfl ?_
  refine lv_aload_n hx hb dL_law_4 rfl (lv_at hl 0 rfl) ?_
  refine lv_iconst (v := 0) hx hb dL_law_5 (by decide) ?_
  refine kl_cell hL (by decide) ⟨hx, hb, hml, hown, hts⟩ ⟨Nat.le_of_ble_eq_true rfl, Nat.le_of_ble_eq_true rfl⟩ hX hbl hbA hP hS hl.1 (Nat.le_of_ble_eq_true rfl) dL_law_6 ⟨Nat.le_of_ble_eq_true rfl, Nat.le_of_ble_eq_true rfl⟩ (fun H locs hP hS _ _ => ?_)
  refine lv_aload_n hx hb dL_law_9 rfl (lv_at hl 0 rfl) ?_
  refine lv_iconst (v := 1) hx hb dL_law_10 (by decide) ?_
  refine kl_cell hL (by decide) ⟨hx, hb, hml, hown, hts⟩ ⟨Nat.le_of_ble_eq_true rfl, Nat.le_of_ble_eq_true rfl⟩ hX hbl hbA hP hS hl.1 (Nat.le_of_ble_eq_true rfl) dL_law_11 ⟨Nat.le_of_ble_eq_true rfl, Nat.le_of_ble_eq_true rfl⟩ (fun H locs hP hS _ _ => ?_)
  have hFc := va_free (wc := [(q0, .inr (2, [.int 0, .int 0, .null, .null, .null, .null, .int 0, .long 0]))]) hD hS hA [0] rfl
  have hsz0 : s.heap.size ≤ H.size := hS.1
  have hq0 : s.heap.size ≤ q0 := hD.2 0 _ rfl
  generalize ea : kl_cellv L xs 0 = a
  generalize eb : kl_cellv L xs 1 = b2
  refine va_callv (va_runI (As := [.int a, .int b2]) (rest := [.ref q0]) ⟨hx, hb, hml, hown, hts⟩ (xc_init l dC dI q0 H.size a b2) (cwI 2 hts (kl_I wd_10) rfl rfl rfl (hkn _ wd_1) (hkn _ wd_8) (hkn _ wd_9) rfl (by decide +kernel) ⟨Nat.le_of_ble_eq_true rfl, Nat.le_of_ble_eq_true rfl⟩) ⟨kk_blind3 rfl, fun U hU hW => ⟨rfl, by rw [hU], by rw [hU]; exact hP, va_K.moved hW.alike hK, va_AO.moved hW.alike (va_AO.of (hts _ (List.mem_append_right _ (List.mem_of_getElem? (i := 15) rfl)))), va_AO.moved hW.alike (va_AO.of (hts _ (List.mem_append_right _ (List.mem_of_getElem? (i := 17) rfl)))), va_Nw.warmM hW (va_Nw.of rfl (hts _ (List.mem_append_right _ (List.mem_of_getElem? (i := 89) rfl))))⟩⟩ rfl rfl hl.1 rfl (lv_room (Nat.le_of_ble_eq_true rfl)) dL_law_14 ⟨Nat.le_of_ble_eq_true rfl, Nat.le_of_ble_eq_true rfl⟩) hS (fun q _ h => hFc q h) hFc (fun u t H1 locs ht hvm hw hB hz1 hk1 hS => ?_)
  obtain ⟨ax, cx⟩ := u
  obtain ⟨hPx, hKx, hDx⟩ := hB
  rw [ht] at hPx
  have hKx : va_K (dC, dI) vwCl (kx_t cx) s := va_K.moved hvm.symm hKx
  have hw : ax 0 = q0 := hw
  have hjx : kx_inj ax := kl_xinj hDx
  have hAx : ∀ q, kx_A ax q → s.heap.size ≤ q := fun q ⟨k, hk, e9⟩ => by
    obtain ⟨e1, h1⟩ := kl_xget (ad := ax) (cs := cx) (S := xf_init a b2) k hk
    rw [e9]
    rcases hDx.2 k _ h1 with ⟨k2, e2, h2⟩ | h2
    · cases k2 with
      | zero =>
        have h3 := congrArg Prod.fst (Option.some.inj h2)
        have h4 : q0 = ax k := h3
        rw [← h4]; exact hq0
      | succ k2 => simp at h2
    · exact Nat.le_trans hsz0 h2
  have hDx2 : va_D (fun q : Nat => s.heap.size ≤ q) (kx_w ax cx (xf_init a b2)) := hDx.weaken (fun k q hq _ => hAx q.1 ⟨k, (kx_adr k q hq).1, (kx_adr k q hq).2⟩)
  clear hDx hk1 hFc hP hD
  subst hw
  generalize H1 = H at hPx hS ⊢
  refine W.widen (k := 19) (n := 158) (by omega) (by omega) ?_
  refine lv_astore_n (lv' := [(1, .ref (ax 0)), (0, .ref b)]) hx hb dL_law_17 rfl hl (by decide) rfl (fun ls hl => ?_)
  refine va_new (ci := 3) (fs := [.int 0, .int 0, .int 0, .int 0, .null, .null, .null, .null, .null, .null, .null, .null, .null, .null, .null, .null, .null, .null, .null, .null, .null, .null, .null]) (C := R_M) (T := T_M) (N := 23) hx hb hts ux_M ty_M ty_M_ok hown (hkn _ wd_325) (hkn _ wd_326) (hkn _ wd_5) hK hPx hDx2 hS hA rfl (fun j hj => by rcases (show j = 0 ∨ j = 1 ∨ j = 2 ∨ j = 3 ∨ j = 4 ∨ j = 5 ∨ j = 6 ∨ j = 7 ∨ j = 8 ∨ j = 9 ∨ j = 10 ∨ j = 11 ∨ j = 12 ∨ j = 13 ∨ j = 14 ∨ j = 15 ∨ j = 16 ∨ j = 17 ∨ j = 18 ∨ j = 19 ∨ j = 20 ∨ j = 21 ∨ j = 22 by omega) with rfl | rfl | rfl | rfl | rfl | rfl | rfl | rfl | rfl | rfl | rfl | rfl | rfl | rfl | rfl | rfl | rfl | rfl | rfl | rfl | rfl | rfl | rfl <;> rfl) (Nat.le_of_ble_eq_true rfl) (Nat.le_of_ble_eq_true rfl) dL_law_18 (fun q1 H hP hD hS => ?_)
  refine W.widen (k := 20) (n := 181) (by omega) (by omega) ?_
  refine lv_dup hx hb dL_law_21 rfl ?_
  refine lv_aload_n hx hb dL_law_22 rfl (lv_at hl 1 rfl) ?_
  refine lv_iconst (v := 0) hx hb dL_law_23 (by decide) ?_
  refine kl_cell hL (by decide) ⟨hx, hb, hml, hown, hts⟩ ⟨Nat.le_of_ble_eq_true rfl, Nat.le_of_ble_eq_true rfl⟩ hX hbl hbA hP hS hl.1 (Nat.le_of_ble_eq_true rfl) dL_law_24 ⟨Nat.le_of_ble_eq_true rfl, Nat.le_of_ble_eq_true rfl⟩ (fun H locs hP hS _ _ => ?_)
  refine lv_aload_n hx hb dL_law_27 rfl (lv_at hl 1 rfl) ?_
  refine lv_iconst (v := 1) hx hb dL_law_28 (by decide) ?_
  refine kl_cell hL (by decide) ⟨hx, hb, hml, hown, hts⟩ ⟨Nat.le_of_ble_eq_true rfl, Nat.le_of_ble_eq_true rfl⟩ hX hbl hbA hP hS hl.1 (Nat.le_of_ble_eq_true rfl) dL_law_29 ⟨Nat.le_of_ble_eq_true rfl, Nat.le_of_ble_eq_true rfl⟩ (fun H locs hP hS _ _ => ?_)
  rw [ea, eb]
  have hsz1 : s.heap.size ≤ H.size := hS.1
  have hlast : ((kx_w ax cx (xf_init a b2)) ++ [(q1, .inr (3, [.int 0, .int 0, .int 0, .int 0, .null, .null, .null, .null, .null, .null, .null, .null, .null, .null, .null, .null, .null, .null, .null, .null, .null, .null, .null]))])[19]? = some (q1, .inr (3, [.int 0, .int 0, .int 0, .int 0, .null, .null, .null, .null, .null, .null, .null, .null, .null, .null, .null, .null, .null, .null, .null, .null, .null, .null, .null])) := rfl
  have hq1 : s.heap.size ≤ q1 := hD.2 19 _ hlast
  have hleft : ∀ (k : Nat) (q : Nat × va_E), (kx_w ax cx (xf_init a b2))[k]? = some q → ((kx_w ax cx (xf_init a b2)) ++ [(q1, .inr (3, [.int 0, .int 0, .int 0, .int 0, .null, .null, .null, .null, .null, .null, .null, .null, .null, .null, .null, .null, .null, .null, .null, .null, .null, .null, .null]))])[k]? = some q := fun k q hq => by
    rw [List.getElem?_append_left (List.getElem?_eq_some_iff.mp hq).1]; exact hq
  have hPx : va_P (dC, dI) vwCl (kx_w ax cx (xf_init a b2)) H := fun k q hq => hP k q (hleft k q hq)
  have hxne : ∀ (k : Nat) (q : Nat × va_E), (kx_w ax cx (xf_init a b2))[k]? = some q → ¬ q.1 = q1 := fun k q hq z => by
    have h1 := hD.1 k 19 q _ (hleft k q hq) hlast z
    have h2 := (kx_adr k q hq).1
    omega
  have hPc : va_P (dC, dI) vwCl [(q1, .inr (3, [.int 0, .int 0, .int 0, .int 0, .null, .null, .null, .null, .null, .null, .null, .null, .null, .null, .null, .null, .null, .null, .null, .null, .null, .null, .null]))] H := fun k q hq => by
    cases k with
    | zero => cases hq; exact hP 19 _ hlast
    | succ k => simp at hq
  have hFc : ∀ q, va_A [(q1, .inr (3, [.int 0, .int 0, .int 0, .int 0, .null, .null, .null, .null, .null, .null, .null, .null, .null, .null, .null, .null, .null, .null, .null, .null, .null, .null, .null]))] H.size q → (fun q : Nat => s.heap.size ≤ q) q := fun q h9 => by
    rcases h9 with ⟨k2, e2, h2⟩ | h2
    · cases k2 with
      | zero =>
        have h3 := congrArg Prod.fst (Option.some.inj h2)
        have h4 : q1 = q := h3
        rw [← h4]; exact hq1
      | succ k2 => simp at h2
    · exact Nat.le_trans hsz1 h2
  refine va_callv (va_runI (As := [.int a, .int b2]) (rest := [.ref q1]) ⟨hx, hb, hml, hown, hts⟩ (mc_init l dC dI q1 H.size a b2) (cwI 2 hts (kl_I wd_329) rfl rfl rfl (hkn _ wd_5) (hkn _ wd_327) (hkn _ wd_328) rfl (by decide +kernel) ⟨Nat.le_of_ble_eq_true rfl, Nat.le_of_ble_eq_true rfl⟩) ⟨kk_blind2, fun U hU hW => ⟨rfl, by rw [hU], by rw [hU]; exact hPc, va_K.moved hW.alike hK⟩⟩ rfl rfl hl.1 rfl (lv_room (Nat.le_of_ble_eq_true rfl)) dL_law_32 ⟨Nat.le_of_ble_eq_true rfl, Nat.le_of_ble_eq_true rfl⟩) hS (fun q _ h => hFc q h) hFc (fun u t H1 locs ht hvm hw hB hz1 hk1 hS => ?_)
  obtain ⟨am, cm⟩ := u
  obtain ⟨hPm, hKm, hDm⟩ := hB
  rw [ht] at hPm
  have hKm : va_K (dC, dI) vwCl (km_t cm) s := va_K.moved hvm.symm hKm
  have hw : am 0 = q1 := hw
  have hjm : km_inj am := kl_minj hDm
  have hloc : ∀ j, j < 20 → am j = q1 ∨ H.size ≤ am j := fun j hj => by
    obtain ⟨e1, h1⟩ := kl_mget (ad := am) (cs := cm) (S := mf_init a b2) j hj
    rcases hDm.2 j _ h1 with ⟨k2, e2, h2⟩ | h2
    · cases k2 with
      | zero =>
        have h3 := congrArg Prod.fst (Option.some.inj h2)
        have h4 : q1 = am j := h3
        exact Or.inl h4.symm
      | succ k2 => simp at h2
    · exact Or.inr h2
  have hAm : ∀ q, km_A am q → s.heap.size ≤ q := fun q ⟨j, hj, e9⟩ => by
    rw [e9]
    rcases hloc j hj with h | h
    · rw [h]; exact hq1
    · exact Nat.le_trans hsz1 h
  have hsep : kl_sep ax am := fun i j hi hj z => by
    obtain ⟨e1, h1⟩ := kl_xget (ad := ax) (cs := cx) (S := xf_init a b2) i hi
    rcases hloc j hj with h | h
    · exact hxne i _ h1 (z.trans h)
    · have h2 : ax i < H.size := (hPx i _ h1).lt
      rw [z] at h2
      omega
  have hPx : va_P (dC, dI) vwCl (kx_w ax cx (xf_init a b2)) H1 := hPx.kept (fun k q hq => hk1 q.1 (hPx k q hq).lt (fun z => by
    rcases z with ⟨k2, e2, h2⟩ | h2
    · cases k2 with
      | zero =>
        have h3 := congrArg Prod.fst (Option.some.inj h2)
        have h4 : q1 = q.1 := h3
        exact hxne k q hq h4.symm
      | succ k2 => simp at h2
    · have h3 := (hPx k q hq).lt
      omega))
  clear hDm hk1 hFc hP hD hPc
  subst hw
  generalize H1 = H at hPx hPm hS ⊢
  refine W.widen (k := 39) (n := 317) (by omega) (by omega) ?_
  refine lv_astore_n (lv' := [(2, .ref (am 0)), (1, .ref (ax 0)), (0, .ref b)]) hx hb dL_law_35 rfl hl (by decide) rfl (fun ls hl => ?_)
  refine lv_iconst (v := 2) hx hb dL_law_36 (by decide) ?_
  refine lv_istore_n (lv' := [(3, .int 2), (2, .ref (am 0)), (1, .ref (ax 0)), (0, .ref b)]) hx hb dL_law_37 rfl hl (by decide) rfl (fun ls hl => ?_)
  obtain ⟨u, v, e1, e2⟩ := kl_init a b2
  rw [e1] at hPx
  rw [e2] at hPm
  exact kl_loop hL hr hlocks ⟨hx, hb, hml, hown, hts, hX, hbl, hbA, hKx, hKm, hjx, hjm, hsep, hAx, hAm⟩ 512 0 _ _ _ _ ls (by omega) (by omega) (kl_wfx u v) (kl_wfm u v) (kl_kr0 u v) hPx hPm hS (lv_sub hl [0, 3, 2, 1] rfl)
