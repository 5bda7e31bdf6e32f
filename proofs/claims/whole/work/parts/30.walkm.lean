set_option maxHeartbeats 4000000 in
set_option maxRecDepth 100000 in
theorem mc_out (l : Launch) (b0 : Nat) (a : Int32) (b : Int32) : Met l y_M_out ws_M_out ({ frames := 0, cells := 0, slots := 0, locals := 0 }) (kk_P0 [.ref b0, .int a, .int b]) (va_Qi (fun r (_ : Unit) => r = mf_out a b) (fun _ _ => True) (fun _ => False)) 0 0 (fun _ => False) := by
  refine Met.ofW (cc := b_M_out) (maxL := 3) (ret := (some .boolean)) (by decide) rfl ?_
  intro p e s m args below meth c s₁ B hml hv
  obtain ⟨rfl, -⟩ := hv
  have hx := B.exec
  have hb := B.bytes
  have hr := B.returns
  have hlocks := B.notSynchronized
  generalize hf : mf_out a b = out
  have hl := lv_entry ([.ref b0, .int a, .int b]) (n := 3) (Nat.le_of_ble_eq_true rfl)
  rw [lg_entry_eq]
  generalize (lg_sl ([.ref b0, .int a, .int b]) ++ List.replicate (3 - (lg_sl ([.ref b0, .int a, .int b])).length) Slot.unset).toArray = ls at hl ⊢
  have hl : lv_has ls 3 [(0, .ref b0), (1, .int a), (2, .int b)] := hl
  rw [mf_out] at hf
  refine lv_iload_n hx hb dM_out_0 rfl (lv_at hl 1 rfl) ?_
  refine lv_if_lt (tgt := 9) hx hb dM_out_1 (by decide) (fun c_1 => ?_) (fun c_1 => ?_)
  · rw [if_pos c_1] at hf
    refine lv_iconst (v := 1) hx hb dM_out_9 (by decide) ?_
    refine lv_goto (tgt := 14) hx hb dM_out_10 (by decide) ?_
    exact kk_pret hx hb hr hlocks rfl hf dM_out_14
  · rw [if_neg c_1] at hf
    refine lv_iload_n hx hb dM_out_4 rfl (lv_at hl 1 rfl) ?_
    refine lv_iload_n hx hb dM_out_5 rfl (lv_at hl 2 rfl) ?_
    refine lv_icmp_lt (tgt := 13) hx hb dM_out_6 (by decide) (fun c_6 => ?_) (fun c_6 => ?_)
    · rw [if_pos c_6] at hf
      refine lv_iconst (v := 0) hx hb dM_out_13 (by decide) ?_
      exact kk_pret hx hb hr hlocks rfl hf dM_out_14
    · rw [if_neg c_6] at hf
      refine lv_iconst (v := 1) hx hb dM_out_9 (by decide) ?_
      refine lv_goto (tgt := 14) hx hb dM_out_10 (by decide) ?_
      exact kk_pret hx hb hr hlocks rfl hf dM_out_14
set_option maxHeartbeats 4000000 in
set_option maxRecDepth 100000 in
theorem mc_newStamp (l : Launch) (dC : Nat → ClassId) (dI : Nat → Nat → Nat) (ad : Nat → Nat) (cs : Nat → ClassId) (hj : km_inj ad) (μ : km_S) (hw : km_wf μ)  : Met l y_M_newStamp ws_M_newStamp ({ frames := 0, cells := 0, slots := 0, locals := 0 }) (kk_Pc (dC, dI) vwCl (km_t cs) (km_w ad cs μ) [.ref (ad 0)]) (va_Qi (km_pi (mf_newStamp μ)) (kk_B (dC, dI) vwCl (km_t cs) (km_w ad cs)) (km_A ad)) 0 0 (km_A ad) := by
  refine Met.ofW (cc := b_M_newStamp) (maxL := 1) (ret := (some .int)) (by decide) rfl ?_
  intro p e s m args below meth c s₁ B hml hv
  obtain ⟨rfl, hP, hK⟩ := hv
  have hx := B.exec
  have hb := B.bytes
  have hr := B.returns
  have hts := atoms_spec (ws := ws_M_newStamp) B.pre
  have hown : s.vm.findClass R_M = some m.cls := findClass_of_methodNamed B.named
  have hlocks := B.notSynchronized
  have hS : va_S (km_A ad) s.heap s.heap [] := va_S.rf
  generalize hf : mf_newStamp μ = out
  have hl := lv_entry ([.ref (ad 0)]) (n := 1) (Nat.le_of_ble_eq_true rfl)
  rw [lg_entry_eq]
  generalize (lg_sl ([.ref (ad 0)]) ++ List.replicate (1 - (lg_sl ([.ref (ad 0)])).length) Slot.unset).toArray = ls at hl ⊢
  have hl : lv_has ls 1 [(0, .ref (ad 0))] := hl
  rw [mf_newStamp] at hf
  refine lv_aload_n hx hb dM_newStamp_0 rfl (lv_at hl 0 rfl) ?_
  refine lv_dup hx hb dM_newStamp_1 rfl ?_
  refine va_get (D := (dC, dI)) (ci := 3) (v := .int (mI μ 3 0)) (C := R_M) (T := T_M) (N := 23) hx hb hts uw_M hown hK hP 0 rfl rfl 3 (by decide) (hts _ (List.mem_cons_of_mem _ wd_334)) (fun _ h9 => h9) rfl dM_newStamp_2 ?_
  refine lv_iconst (v := 1) hx hb dM_newStamp_5 (by decide) ?_
  refine lv_iadd hx hb dM_newStamp_6 ?_
  refine va_put (D := (dC, dI)) (ci := 3) (v := .int ((mI μ 3 0) + 1)) (ty := .int) (C := R_M) (T := T_M) (N := 23) hx hb hts uw_M ty_M ty_M_ok nm_M hown hK hP (km_D hj) hS 0 rfl rfl 3 (by decide) (hts _ (List.mem_cons_of_mem _ wd_334)) (fun _ h9 => h9) rfl (by decide +kernel) rfl rfl (Nat.le_of_ble_eq_true rfl) dM_newStamp_7 (fun H locs hP _ hS => ?_)
  replace hP := km_u_stamps hP
  replace hw := km_wf_I (f := 3) (i := 0) (v := (mI μ 3 0) + 1) hw (by decide)
  refine lv_aload_n hx hb dM_newStamp_10 rfl (lv_at hl 0 rfl) ?_
  refine va_get (D := (dC, dI)) (ci := 3) (v := .int (mI (sM μ 3 0 ((mI μ 3 0) + 1)) 3 0)) (C := R_M) (T := T_M) (N := 23) hx hb hts uw_M hown hK hP 0 rfl rfl 3 (by decide) (hts _ (List.mem_cons_of_mem _ wd_334)) (fun _ h9 => h9) rfl dM_newStamp_11 ?_
  exact kk_iret hx hb hr hlocks hP hK hS ⟨hf.symm, hw⟩ dM_newStamp_14
set_option maxHeartbeats 4000000 in
set_option maxRecDepth 100000 in
theorem mc_ready (l : Launch) (dC : Nat → ClassId) (dI : Nat → Nat → Nat) (ad : Nat → Nat) (cs : Nat → ClassId) (hj : km_inj ad) (μ : km_S) (hw : km_wf μ) (t : Int32) (ht : vp_in t 8) : Met l y_M_ready ws_M_ready ({ frames := 1, cells := 0, slots := 0, locals := 20 }) (kk_Pc (dC, dI) vwCl (km_t cs) (km_w ad cs μ) [.ref (ad 0), .int t]) (va_Qv (km_pv (mf_ready μ t)) (kk_B (dC, dI) vwCl (km_t cs) (km_w ad cs)) (km_A ad)) 0 0 (km_A ad) := by
  refine Met.ofW (cc := b_M_ready) (maxL := 2) (ret := none) (by decide) rfl ?_
  intro p e s m args below meth c s₁ B hml hv
  obtain ⟨rfl, hP, hK⟩ := hv
  have hx := B.exec
  have hb := B.bytes
  have hr := B.returns
  have hts := atoms_spec (ws := ws_M_ready) B.pre
  have hown : s.vm.findClass R_M = some m.cls := findClass_of_methodNamed B.named
  have hlocks := B.notSynchronized
  have hS : va_S (km_A ad) s.heap s.heap [] := va_S.rf
  generalize hf : mf_ready μ t = out
  have hl := lv_entry ([.ref (ad 0), .int t]) (n := 2) (Nat.le_of_ble_eq_true rfl)
  rw [lg_entry_eq]
  generalize (lg_sl ([.ref (ad 0), .int t]) ++ List.replicate (2 - (lg_sl ([.ref (ad 0), .int t])).length) Slot.unset).toArray = ls at hl ⊢
  have hl : lv_has ls 2 [(0, .ref (ad 0)), (1, .int t)] := hl
  rw [mf_ready] at hf
  refine lv_aload_n hx hb dM_ready_0 rfl (lv_at hl 0 rfl) ?_
  refine va_get (D := (dC, dI)) (ci := 3) (v := .ref (ad 1)) (C := R_M) (T := T_M) (N := 23) hx hb hts uw_M hown hK hP 0 rfl rfl 4 (by decide) (hts _ (List.mem_cons_of_mem _ wd_335)) (fun _ h9 => h9) rfl dM_ready_1 ?_
  refine lv_iload_n hx hb dM_ready_4 rfl (lv_at hl 1 rfl) ?_
  refine lv_iconst (v := 1) hx hb dM_ready_5 (by decide) ?_
  refine va_iast hx hb hK hP (km_D hj) hS 1 0 rfl rfl ht dM_ready_6 (fun H locs hP _ hS => ?_)
  replace hP := km_u_state hP
  replace hw := km_wf_I (f := 4) (i := t.toNatClampNeg) (v := 1) hw (by decide)
  refine lv_aload_n hx hb dM_ready_7 rfl (lv_at hl 0 rfl) ?_
  refine va_get (D := (dC, dI)) (ci := 3) (v := .ref (ad 5)) (C := R_M) (T := T_M) (N := 23) hx hb hts uw_M hown hK hP 0 rfl rfl 8 (by decide) (hts _ (List.mem_cons_of_mem _ wd_339)) (fun _ h9 => h9) rfl dM_ready_8 ?_
  refine lv_iload_n hx hb dM_ready_11 rfl (lv_at hl 1 rfl) ?_
  refine lv_iconst (v := 0) hx hb dM_ready_12 (by decide) ?_
  refine va_iast hx hb hK hP (km_D hj) hS 5 4 rfl rfl ht dM_ready_13 (fun H locs hP _ hS => ?_)
  replace hP := km_u_on hP
  replace hw := km_wf_I (f := 8) (i := t.toNatClampNeg) (v := 0) hw (by decide)
  refine lv_aload_n hx hb dM_ready_14 rfl (lv_at hl 0 rfl) ?_
  refine va_get (D := (dC, dI)) (ci := 3) (v := .ref (ad 7)) (C := R_M) (T := T_M) (N := 23) hx hb hts uw_M hown hK hP 0 rfl rfl 10 (by decide) (hts _ (List.mem_cons_of_mem _ wd_341)) (fun _ h9 => h9) rfl dM_ready_15 ?_
  refine lv_iload_n hx hb dM_ready_18 rfl (lv_at hl 1 rfl) ?_
  refine lv_iconst (v := 0) hx hb dM_ready_19 (by decide) ?_
  refine va_iast hx hb hK hP (km_D hj) hS 7 6 rfl rfl ht dM_ready_20 (fun H locs hP _ hS => ?_)
  replace hP := km_u_deadline hP
  replace hw := km_wf_I (f := 10) (i := t.toNatClampNeg) (v := 0) hw (by decide)
  refine lv_aload_n hx hb dM_ready_21 rfl (lv_at hl 0 rfl) ?_
  refine va_get (D := (dC, dI)) (ci := 3) (v := .ref (ad 3)) (C := R_M) (T := T_M) (N := 23) hx hb hts uw_M hown hK hP 0 rfl rfl 6 (by decide) (hts _ (List.mem_cons_of_mem _ wd_337)) (fun _ h9 => h9) rfl dM_ready_22 ?_
  refine lv_iload_n hx hb dM_ready_25 rfl (lv_at hl 1 rfl) ?_
  refine lv_aload_n hx hb dM_ready_26 rfl (lv_at hl 0 rfl) ?_
  refine kk_ci (w := km_w ad cs) (As := []) (rest := [.int t, .ref (ad 3)]) ⟨hx, hb, hml, hown, hts⟩ (mc_newStamp l dC dI ad cs hj (sM (sM (sM μ 4 t.toNatClampNeg 1) 8 t.toNatClampNeg 0) 10 t.toNatClampNeg 0) hw  ) (cwV 0 hts gv_M_81 rfl rfl rfl (by decide +kernel) ⟨Nat.le_of_ble_eq_true rfl, Nat.le_of_ble_eq_true rfl⟩) (va_recv hK hP (ci := 3) (q0 := 0) rfl rfl) hP hK hS (fun _ h9 => h9) rfl hl.1 rfl (Nat.le_of_ble_eq_true rfl) dM_ready_27 ⟨Nat.zero_le _, Nat.zero_le _⟩ (fun r1 s1 H locs hq hP hS => ?_)
  obtain ⟨h1, hw⟩ := hq
  rw [kk_b_eq h1] at hf
  refine va_iast hx hb hK hP (km_D hj) hS 3 2 rfl rfl ht dM_ready_30 (fun H locs hP _ hS => ?_)
  replace hP := km_u_stamp hP
  replace hw := km_wf_I (f := 6) (i := t.toNatClampNeg) (v := r1) hw (by decide)
  refine lv_aload_n hx hb dM_ready_31 rfl (lv_at hl 0 rfl) ?_
  refine va_get (D := (dC, dI)) (ci := 3) (v := .ref (ad 4)) (C := R_M) (T := T_M) (N := 23) hx hb hts uw_M hown hK hP 0 rfl rfl 7 (by decide) (hts _ (List.mem_cons_of_mem _ wd_338)) (fun _ h9 => h9) rfl dM_ready_32 ?_
  refine lv_iload_n hx hb dM_ready_35 rfl (lv_at hl 1 rfl) ?_
  refine lv_iconst (v := 0) hx hb dM_ready_36 (by decide) ?_
  refine va_iast hx hb hK hP (km_D hj) hS 4 3 rfl rfl ht dM_ready_37 (fun H locs hP _ hS => ?_)
  replace hP := km_u_used hP
  replace hw := km_wf_I (f := 7) (i := t.toNatClampNeg) (v := 0) hw (by decide)
  exact kk_vret hx hb hr hlocks hP hK hS ⟨hf.symm, hw⟩ dM_ready_38
set_option maxHeartbeats 4000000 in
set_option maxRecDepth 100000 in
theorem mc_block (l : Launch) (dC : Nat → ClassId) (dI : Nat → Nat → Nat) (ad : Nat → Nat) (cs : Nat → ClassId) (hj : km_inj ad) (μ : km_S) (hw : km_wf μ) (t : Int32) (what : Int32) (due : Int32) (ht : vp_in t 8) : Met l y_M_block ws_M_block ({ frames := 1, cells := 0, slots := 0, locals := 20 }) (kk_Pc (dC, dI) vwCl (km_t cs) (km_w ad cs μ) [.ref (ad 0), .int t, .int what, .int due]) (va_Qv (km_pv (mf_block μ t what due)) (kk_B (dC, dI) vwCl (km_t cs) (km_w ad cs)) (km_A ad)) 0 0 (km_A ad) := by
  refine Met.ofW (cc := b_M_block) (maxL := 4) (ret := none) (by decide) rfl ?_
  intro p e s m args below meth c s₁ B hml hv
  obtain ⟨rfl, hP, hK⟩ := hv
  have hx := B.exec
  have hb := B.bytes
  have hr := B.returns
  have hts := atoms_spec (ws := ws_M_block) B.pre
  have hown : s.vm.findClass R_M = some m.cls := findClass_of_methodNamed B.named
  have hlocks := B.notSynchronized
  have hS : va_S (km_A ad) s.heap s.heap [] := va_S.rf
  generalize hf : mf_block μ t what due = out
  have hl := lv_entry ([.ref (ad 0), .int t, .int what, .int due]) (n := 4) (Nat.le_of_ble_eq_true rfl)
  rw [lg_entry_eq]
  generalize (lg_sl ([.ref (ad 0), .int t, .int what, .int due]) ++ List.replicate (4 - (lg_sl ([.ref (ad 0), .int t, .int what, .int due])).length) Slot.unset).toArray = ls at hl ⊢
  have hl : lv_has ls 4 [(0, .ref (ad 0)), (1, .int t), (2, .int what), (3, .int due)] := hl
  rw [mf_block] at hf
  refine lv_aload_n hx hb dM_block_0 rfl (lv_at hl 0 rfl) ?_
  refine va_get (D := (dC, dI)) (ci := 3) (v := .ref (ad 1)) (C := R_M) (T := T_M) (N := 23) hx hb hts uw_M hown hK hP 0 rfl rfl 4 (by decide) (hts _ (List.mem_cons_of_mem _ wd_335)) (fun _ h9 => h9) rfl dM_block_1 ?_
  refine lv_iload_n hx hb dM_block_4 rfl (lv_at hl 1 rfl) ?_
  refine lv_iconst (v := 2) hx hb dM_block_5 (by decide) ?_
  refine va_iast hx hb hK hP (km_D hj) hS 1 0 rfl rfl ht dM_block_6 (fun H locs hP _ hS => ?_)
  replace hP := km_u_state hP
  replace hw := km_wf_I (f := 4) (i := t.toNatClampNeg) (v := 2) hw (by decide)
  refine lv_aload_n hx hb dM_block_7 rfl (lv_at hl 0 rfl) ?_
  refine va_get (D := (dC, dI)) (ci := 3) (v := .ref (ad 5)) (C := R_M) (T := T_M) (N := 23) hx hb hts uw_M hown hK hP 0 rfl rfl 8 (by decide) (hts _ (List.mem_cons_of_mem _ wd_339)) (fun _ h9 => h9) rfl dM_block_8 ?_
  refine lv_iload_n hx hb dM_block_11 rfl (lv_at hl 1 rfl) ?_
  refine lv_iload_n hx hb dM_block_12 rfl (lv_at hl 2 rfl) ?_
  refine va_iast hx hb hK hP (km_D hj) hS 5 4 rfl rfl ht dM_block_13 (fun H locs hP _ hS => ?_)
  replace hP := km_u_on hP
  replace hw := km_wf_I (f := 8) (i := t.toNatClampNeg) (v := what) hw (by decide)
  refine lv_aload_n hx hb dM_block_14 rfl (lv_at hl 0 rfl) ?_
  refine va_get (D := (dC, dI)) (ci := 3) (v := .ref (ad 7)) (C := R_M) (T := T_M) (N := 23) hx hb hts uw_M hown hK hP 0 rfl rfl 10 (by decide) (hts _ (List.mem_cons_of_mem _ wd_341)) (fun _ h9 => h9) rfl dM_block_15 ?_
  refine lv_iload_n hx hb dM_block_18 rfl (lv_at hl 1 rfl) ?_
  refine lv_iload_n hx hb dM_block_19 rfl (lv_at hl 3 rfl) ?_
  refine va_iast hx hb hK hP (km_D hj) hS 7 6 rfl rfl ht dM_block_20 (fun H locs hP _ hS => ?_)
  replace hP := km_u_deadline hP
  replace hw := km_wf_I (f := 10) (i := t.toNatClampNeg) (v := due) hw (by decide)
  refine lv_aload_n hx hb dM_block_21 rfl (lv_at hl 0 rfl) ?_
  refine va_get (D := (dC, dI)) (ci := 3) (v := .ref (ad 6)) (C := R_M) (T := T_M) (N := 23) hx hb hts uw_M hown hK hP 0 rfl rfl 9 (by decide) (hts _ (List.mem_cons_of_mem _ wd_340)) (fun _ h9 => h9) rfl dM_block_22 ?_
  refine lv_iload_n hx hb dM_block_25 rfl (lv_at hl 1 rfl) ?_
  refine lv_aload_n hx hb dM_block_26 rfl (lv_at hl 0 rfl) ?_
  refine kk_ci (w := km_w ad cs) (As := []) (rest := [.int t, .ref (ad 6)]) ⟨hx, hb, hml, hown, hts⟩ (mc_newStamp l dC dI ad cs hj (sM (sM (sM μ 4 t.toNatClampNeg 2) 8 t.toNatClampNeg what) 10 t.toNatClampNeg due) hw  ) (cwV 0 hts gv_M_81 rfl rfl rfl (by decide +kernel) ⟨Nat.le_of_ble_eq_true rfl, Nat.le_of_ble_eq_true rfl⟩) (va_recv hK hP (ci := 3) (q0 := 0) rfl rfl) hP hK hS (fun _ h9 => h9) rfl hl.1 rfl (Nat.le_of_ble_eq_true rfl) dM_block_27 ⟨Nat.zero_le _, Nat.zero_le _⟩ (fun r1 s1 H locs hq hP hS => ?_)
  obtain ⟨h1, hw⟩ := hq
  rw [kk_b_eq h1] at hf
  refine va_iast hx hb hK hP (km_D hj) hS 6 5 rfl rfl ht dM_block_30 (fun H locs hP _ hS => ?_)
  replace hP := km_u_since hP
  replace hw := km_wf_I (f := 9) (i := t.toNatClampNeg) (v := r1) hw (by decide)
  refine lv_aload_n hx hb dM_block_31 rfl (lv_at hl 0 rfl) ?_
  refine va_get (D := (dC, dI)) (ci := 3) (v := .ref (ad 13)) (C := R_M) (T := T_M) (N := 23) hx hb hts uw_M hown hK hP 0 rfl rfl 16 (by decide) (hts _ (List.mem_cons_of_mem _ wd_347)) (fun _ h9 => h9) rfl dM_block_32 ?_
  refine lv_iload_n hx hb dM_block_35 rfl (lv_at hl 1 rfl) ?_
  refine lv_iconst (v := 0) hx hb dM_block_36 (by decide) ?_
  refine va_zast hx hb hK hP (km_D hj) hS 13 12 rfl rfl ht dM_block_37 (fun H locs hP _ hS => ?_)
  replace hP := km_u_retakes hP
  replace hw := km_wf_I (f := 16) (i := t.toNatClampNeg) (v := vp_nar .boolean 0) hw (by decide)
  exact kk_vret hx hb hr hlocks hP hK hS ⟨hf.symm, hw⟩ dM_block_38
set_option maxHeartbeats 4000000 in
set_option maxRecDepth 100000 in
theorem mc_weigh (l : Launch) (dC : Nat → ClassId) (dI : Nat → Nat → Nat) (ad : Nat → Nat) (cs : Nat → ClassId) (hj : km_inj ad) (μ : km_S) (hw : km_wf μ)  : Met l y_M_weigh ws_M_weigh ({ frames := 0, cells := 0, slots := 0, locals := 0 }) (kk_Pc (dC, dI) vwCl (km_t cs) (km_w ad cs μ) [.ref (ad 0)]) (va_Qv (km_pv (mf_weigh μ)) (kk_B (dC, dI) vwCl (km_t cs) (km_w ad cs)) (km_A ad)) 0 0 (km_A ad) := by
  refine Met.ofW (cc := b_M_weigh) (maxL := 4) (ret := none) (by decide) rfl ?_
  intro p e s m args below meth c s₁ B hml hv
  obtain ⟨rfl, hP, hK⟩ := hv
  have hx := B.exec
  have hb := B.bytes
  have hr := B.returns
  have hts := atoms_spec (ws := ws_M_weigh) B.pre
  have hown : s.vm.findClass R_M = some m.cls := findClass_of_methodNamed B.named
  have hlocks := B.notSynchronized
  have hS : va_S (km_A ad) s.heap s.heap [] := va_S.rf
  generalize hf : mf_weigh μ = out
  have hl := lv_entry ([.ref (ad 0)]) (n := 4) (Nat.le_of_ble_eq_true rfl)
  rw [lg_entry_eq]
  generalize (lg_sl ([.ref (ad 0)]) ++ List.replicate (4 - (lg_sl ([.ref (ad 0)])).length) Slot.unset).toArray = ls at hl ⊢
  have hl : lv_has ls 4 [(0, .ref (ad 0))] := hl
  rw [mf_weigh] at hf
  have loop66 : ∀ (n k : Nat) (j1 : Nat) (μ o9 : km_S) (H : Heap) (locs : List Loc) (ls : Array Slot), n + k = 8 → km_wf μ → mf_weigh_L66 n k  μ = o9 → va_P (dC, dI) vwCl (km_w ad cs μ) H → va_S (km_A ad) s.heap H locs → lv_has ls 4 [(2, .int (nI k)), (0, .ref (ad 0)), (1, .int (nI j1))] → (∀ (H : Heap) (locs : List Loc) (ls : Array Slot), km_wf o9 → va_P (dC, dI) vwCl (km_w ad cs o9) H → va_S (km_A ad) s.heap H locs → lv_has ls 4 [(0, .ref (ad 0)), (1, .int (nI j1))] → W p l e (headSpec ws_M_weigh ({ frames := 0, cells := 0, slots := 0, locals := 0 })).room s m ([.ref (ad 0)] : List Value).toArray below meth c H locs 0 0 (MQ below (va_Qv (km_pv out) (kk_B (dC, dI) vwCl (km_t cs) (km_w ad cs)) (km_A ad)) ([.ref (ad 0)] : List Value).toArray s 0 0 (km_A ad)) (F0 m 154 ls [])) → W p l e (headSpec ws_M_weigh ({ frames := 0, cells := 0, slots := 0, locals := 0 })).room s m ([.ref (ad 0)] : List Value).toArray below meth c H locs 0 0 (MQ below (va_Qv (km_pv out) (kk_B (dC, dI) vwCl (km_t cs) (km_w ad cs)) (km_A ad)) ([.ref (ad 0)] : List Value).toArray s 0 0 (km_A ad)) (F0 m 66 ls []) := by
    clear hf hl hP hS hw
    intro n
    induction n with
    | zero =>
      intro k j1 μ o9 H locs ls hnk hw hf hP hS hl K
      have hk : k = 8 := by omega
      rw [mf_weigh_L66] at hf
      have hl : lv_has ls 4 [(2, .int (nI k)), (0, .ref (ad 0)), (1, .int (nI j1))] := hl
      refine lv_iload_n hx hb dM_weigh_66 rfl (lv_at hl 0 rfl) ?_
      refine lv_bipush (v := 8) hx hb dM_weigh_67 (by decide) ?_
      refine lv_icmp_ge (tgt := 154) hx hb dM_weigh_69 (by decide) (fun _ => ?_) (fun c9 => absurd (by rw [hk]; decide) c9)
      subst hf
      exact K _ _ ls hw hP hS (lv_sub hl [1, 2] rfl)
    | succ n ih =>
      intro k j1 μ o9 H locs ls hnk hw hf hP hS hl K
      have hk : k < 8 := by omega
      rw [mf_weigh_L66] at hf
      have hl : lv_has ls 4 [(2, .int (nI k)), (0, .ref (ad 0)), (1, .int (nI j1))] := hl
      refine lv_iload_n hx hb dM_weigh_66 rfl (lv_at hl 0 rfl) ?_
      refine lv_bipush (v := 8) hx hb dM_weigh_67 (by decide) ?_
      refine lv_icmp_ge (tgt := 154) hx hb dM_weigh_69 (by decide) (fun c9 => absurd c9 (kk_stay hk (by decide))) (fun _ => ?_)
      refine lv_aload_n hx hb dM_weigh_72 rfl (lv_at hl 1 rfl) ?_
      refine va_get (D := (dC, dI)) (ci := 3) (v := .ref (ad 5)) (C := R_M) (T := T_M) (N := 23) hx hb hts uw_M hown hK hP 0 rfl rfl 8 (by decide) (hts _ (List.mem_cons_of_mem _ wd_339)) (fun _ h9 => h9) rfl dM_weigh_73 ?_
      refine lv_iload_n hx hb dM_weigh_76 rfl (lv_at hl 0 rfl) ?_
      refine va_iald hx hb hK hP 5 4 rfl rfl (vp_in_nI (by omega) (by decide)) dM_weigh_77 ?_
      rw [nI_clamp (n := k) (by omega)]
      refine lv_bipush (v := 10) hx hb dM_weigh_78 (by decide) ?_
      refine lv_isub hx hb dM_weigh_80 ?_
      refine lv_istore_n (lv' := [(3, .int ((mI μ 8 k) - 10)), (2, .int (nI k)), (0, .ref (ad 0)), (1, .int (nI j1))]) hx hb dM_weigh_81 rfl hl (by decide) rfl (fun ls hl => ?_)
      refine lv_aload_n hx hb dM_weigh_82 rfl (lv_at hl 2 rfl) ?_
      refine va_get (D := (dC, dI)) (ci := 3) (v := .ref (ad 1)) (C := R_M) (T := T_M) (N := 23) hx hb hts uw_M hown hK hP 0 rfl rfl 4 (by decide) (hts _ (List.mem_cons_of_mem _ wd_335)) (fun _ h9 => h9) rfl dM_weigh_83 ?_
      refine lv_iload_n hx hb dM_weigh_86 rfl (lv_at hl 1 rfl) ?_
      refine va_iald hx hb hK hP 1 0 rfl rfl (vp_in_nI (by omega) (by decide)) dM_weigh_87 ?_
      rw [nI_clamp (n := k) (by omega)]
      refine lv_iconst (v := 2) hx hb dM_weigh_88 (by decide) ?_
      refine lv_icmp_ne (tgt := 148) hx hb dM_weigh_89 (by decide) (fun c_89 => ?_) (fun c_89 => ?_)
      · rw [if_neg c_89] at hf
        refine lv_iinc (v := nI (k + 1)) (lv' := [(2, .int (nI (k + 1))), (3, .int ((mI μ 8 k) - 10)), (0, .ref (ad 0)), (1, .int (nI j1))]) hx hb dM_weigh_148 hl (k := 1) rfl (nI_1 _) (by decide) rfl (fun ls hl => ?_)
        refine lv_goto (tgt := 66) hx hb dM_weigh_151 (by decide) ?_
        exact ih (k + 1) j1  _ o9 _ _ ls (by omega) hw  hf hP hS (lv_sub hl [0, 2, 3] rfl) K
      · rw [if_pos c_89] at hf
        refine lv_iload_n hx hb dM_weigh_92 rfl (lv_at hl 0 rfl) ?_
        refine lv_iconst (v := 1) hx hb dM_weigh_93 (by decide) ?_
        refine lv_icmp_eq (tgt := 102) hx hb dM_weigh_94 (by decide) (fun c_94 => ?_) (fun c_94 => ?_)
        · rw [if_pos c_94] at hf
          refine lv_aload_n hx hb dM_weigh_102 rfl (lv_at hl 2 rfl) ?_
          refine va_get (D := (dC, dI)) (ci := 3) (v := .ref (ad 14)) (C := R_M) (T := T_M) (N := 23) hx hb hts uw_M hown hK hP 0 rfl rfl 17 (by decide) (hts _ (List.mem_cons_of_mem _ wd_348)) (fun _ h9 => h9) rfl dM_weigh_103 ?_
          refine lv_iload_n hx hb dM_weigh_106 rfl (lv_at hl 0 rfl) ?_
          refine va_iald hx hb hK hP 14 13 rfl rfl (by rw [c_94]; exact kk_inl (by decide)) dM_weigh_107 ?_
          refine lv_if_lt (tgt := 148) hx hb dM_weigh_108 (by decide) (fun c_108 => ?_) (fun c_108 => ?_)
          · rw [if_pos c_108] at hf
            refine lv_iinc (v := nI (k + 1)) (lv' := [(2, .int (nI (k + 1))), (3, .int ((mI μ 8 k) - 10)), (0, .ref (ad 0)), (1, .int (nI j1))]) hx hb dM_weigh_148 hl (k := 1) rfl (nI_1 _) (by decide) rfl (fun ls hl => ?_)
            refine lv_goto (tgt := 66) hx hb dM_weigh_151 (by decide) ?_
            exact ih (k + 1) j1  _ o9 _ _ ls (by omega) hw  hf hP hS (lv_sub hl [0, 2, 3] rfl) K
          · rw [if_neg c_108] at hf
            refine lv_aload_n hx hb dM_weigh_111 rfl (lv_at hl 2 rfl) ?_
            refine va_get (D := (dC, dI)) (ci := 3) (v := .ref (ad 19)) (C := R_M) (T := T_M) (N := 23) hx hb hts uw_M hown hK hP 0 rfl rfl 22 (by decide) (hts _ (List.mem_cons_of_mem _ wd_353)) (fun _ h9 => h9) rfl dM_weigh_112 ?_
            refine lv_aload_n hx hb dM_weigh_115 rfl (lv_at hl 2 rfl) ?_
            refine va_get (D := (dC, dI)) (ci := 3) (v := .ref (ad 14)) (C := R_M) (T := T_M) (N := 23) hx hb hts uw_M hown hK hP 0 rfl rfl 17 (by decide) (hts _ (List.mem_cons_of_mem _ wd_348)) (fun _ h9 => h9) rfl dM_weigh_116 ?_
            refine lv_iload_n hx hb dM_weigh_119 rfl (lv_at hl 0 rfl) ?_
            refine va_iald hx hb hK hP 14 13 rfl rfl (by rw [c_94]; exact kk_inl (by decide)) dM_weigh_120 ?_
            refine va_iald hx hb hK hP 19 18 rfl rfl (km_own8 hw (by rw [c_94]; exact kk_inl (by decide)) c_108) dM_weigh_121 ?_
            refine lv_aload_n hx hb dM_weigh_122 rfl (lv_at hl 2 rfl) ?_
            refine va_get (D := (dC, dI)) (ci := 3) (v := .ref (ad 19)) (C := R_M) (T := T_M) (N := 23) hx hb hts uw_M hown hK hP 0 rfl rfl 22 (by decide) (hts _ (List.mem_cons_of_mem _ wd_353)) (fun _ h9 => h9) rfl dM_weigh_123 ?_
            refine lv_iload_n hx hb dM_weigh_126 rfl (lv_at hl 1 rfl) ?_
            refine va_iald hx hb hK hP 19 18 rfl rfl (vp_in_nI (by omega) (by decide)) dM_weigh_127 ?_
            rw [nI_clamp (n := k) (by omega)]
            refine lv_icmp_ge (tgt := 148) hx hb dM_weigh_128 (by decide) (fun c_128 => ?_) (fun c_128 => ?_)
            · rw [if_pos c_128] at hf
              refine lv_iinc (v := nI (k + 1)) (lv' := [(2, .int (nI (k + 1))), (3, .int ((mI μ 8 k) - 10)), (0, .ref (ad 0)), (1, .int (nI j1))]) hx hb dM_weigh_148 hl (k := 1) rfl (nI_1 _) (by decide) rfl (fun ls hl => ?_)
              refine lv_goto (tgt := 66) hx hb dM_weigh_151 (by decide) ?_
              exact ih (k + 1) j1  _ o9 _ _ ls (by omega) hw  hf hP hS (lv_sub hl [0, 2, 3] rfl) K
            · rw [if_neg c_128] at hf
              refine lv_aload_n hx hb dM_weigh_131 rfl (lv_at hl 2 rfl) ?_
              refine va_get (D := (dC, dI)) (ci := 3) (v := .ref (ad 19)) (C := R_M) (T := T_M) (N := 23) hx hb hts uw_M hown hK hP 0 rfl rfl 22 (by decide) (hts _ (List.mem_cons_of_mem _ wd_353)) (fun _ h9 => h9) rfl dM_weigh_132 ?_
              refine lv_aload_n hx hb dM_weigh_135 rfl (lv_at hl 2 rfl) ?_
              refine va_get (D := (dC, dI)) (ci := 3) (v := .ref (ad 14)) (C := R_M) (T := T_M) (N := 23) hx hb hts uw_M hown hK hP 0 rfl rfl 17 (by decide) (hts _ (List.mem_cons_of_mem _ wd_348)) (fun _ h9 => h9) rfl dM_weigh_136 ?_
              refine lv_iload_n hx hb dM_weigh_139 rfl (lv_at hl 0 rfl) ?_
              refine va_iald hx hb hK hP 14 13 rfl rfl (by rw [c_94]; exact kk_inl (by decide)) dM_weigh_140 ?_
              refine lv_aload_n hx hb dM_weigh_141 rfl (lv_at hl 2 rfl) ?_
              refine va_get (D := (dC, dI)) (ci := 3) (v := .ref (ad 19)) (C := R_M) (T := T_M) (N := 23) hx hb hts uw_M hown hK hP 0 rfl rfl 22 (by decide) (hts _ (List.mem_cons_of_mem _ wd_353)) (fun _ h9 => h9) rfl dM_weigh_142 ?_
              refine lv_iload_n hx hb dM_weigh_145 rfl (lv_at hl 1 rfl) ?_
              refine va_iald hx hb hK hP 19 18 rfl rfl (vp_in_nI (by omega) (by decide)) dM_weigh_146 ?_
              rw [nI_clamp (n := k) (by omega)]
              refine va_iast hx hb hK hP (km_D hj) hS 19 18 rfl rfl (km_own8 hw (by rw [c_94]; exact kk_inl (by decide)) c_108) dM_weigh_147 (fun H locs hP _ hS => ?_)
              replace hP := km_u_urgent hP
              replace hw := km_wf_I (f := 22) (i := (mI μ 17 ((mI μ 8 k) - 10).toNatClampNeg).toNatClampNeg) (v := mI μ 22 k) hw (by decide)
              refine lv_iinc (v := nI (k + 1)) (lv' := [(2, .int (nI (k + 1))), (3, .int ((mI μ 8 k) - 10)), (0, .ref (ad 0)), (1, .int (nI j1))]) hx hb dM_weigh_148 hl (k := 1) rfl (nI_1 _) (by decide) rfl (fun ls hl => ?_)
              refine lv_goto (tgt := 66) hx hb dM_weigh_151 (by decide) ?_
              exact ih (k + 1) j1  _ o9 _ _ ls (by omega) hw  hf hP hS (lv_sub hl [0, 2, 3] rfl) K
        · rw [if_neg c_94] at hf
          refine lv_iload_n hx hb dM_weigh_97 rfl (lv_at hl 0 rfl) ?_
          refine lv_iconst (v := 2) hx hb dM_weigh_98 (by decide) ?_
          refine lv_icmp_ne (tgt := 148) hx hb dM_weigh_99 (by decide) (fun c_99 => ?_) (fun c_99 => ?_)
          · rw [if_neg c_99] at hf
            refine lv_iinc (v := nI (k + 1)) (lv' := [(2, .int (nI (k + 1))), (3, .int ((mI μ 8 k) - 10)), (0, .ref (ad 0)), (1, .int (nI j1))]) hx hb dM_weigh_148 hl (k := 1) rfl (nI_1 _) (by decide) rfl (fun ls hl => ?_)
            refine lv_goto (tgt := 66) hx hb dM_weigh_151 (by decide) ?_
            exact ih (k + 1) j1  _ o9 _ _ ls (by omega) hw  hf hP hS (lv_sub hl [0, 2, 3] rfl) K
          · rw [if_pos c_99] at hf
            refine lv_aload_n hx hb dM_weigh_102 rfl (lv_at hl 2 rfl) ?_
            refine va_get (D := (dC, dI)) (ci := 3) (v := .ref (ad 14)) (C := R_M) (T := T_M) (N := 23) hx hb hts uw_M hown hK hP 0 rfl rfl 17 (by decide) (hts _ (List.mem_cons_of_mem _ wd_348)) (fun _ h9 => h9) rfl dM_weigh_103 ?_
            refine lv_iload_n hx hb dM_weigh_106 rfl (lv_at hl 0 rfl) ?_
            refine va_iald hx hb hK hP 14 13 rfl rfl (by rw [c_99]; exact kk_inl (by decide)) dM_weigh_107 ?_
            refine lv_if_lt (tgt := 148) hx hb dM_weigh_108 (by decide) (fun c_108 => ?_) (fun c_108 => ?_)
            · rw [if_pos c_108] at hf
              refine lv_iinc (v := nI (k + 1)) (lv' := [(2, .int (nI (k + 1))), (3, .int ((mI μ 8 k) - 10)), (0, .ref (ad 0)), (1, .int (nI j1))]) hx hb dM_weigh_148 hl (k := 1) rfl (nI_1 _) (by decide) rfl (fun ls hl => ?_)
              refine lv_goto (tgt := 66) hx hb dM_weigh_151 (by decide) ?_
              exact ih (k + 1) j1  _ o9 _ _ ls (by omega) hw  hf hP hS (lv_sub hl [0, 2, 3] rfl) K
            · rw [if_neg c_108] at hf
              refine lv_aload_n hx hb dM_weigh_111 rfl (lv_at hl 2 rfl) ?_
              refine va_get (D := (dC, dI)) (ci := 3) (v := .ref (ad 19)) (C := R_M) (T := T_M) (N := 23) hx hb hts uw_M hown hK hP 0 rfl rfl 22 (by decide) (hts _ (List.mem_cons_of_mem _ wd_353)) (fun _ h9 => h9) rfl dM_weigh_112 ?_
              refine lv_aload_n hx hb dM_weigh_115 rfl (lv_at hl 2 rfl) ?_
              refine va_get (D := (dC, dI)) (ci := 3) (v := .ref (ad 14)) (C := R_M) (T := T_M) (N := 23) hx hb hts uw_M hown hK hP 0 rfl rfl 17 (by decide) (hts _ (List.mem_cons_of_mem _ wd_348)) (fun _ h9 => h9) rfl dM_weigh_116 ?_
              refine lv_iload_n hx hb dM_weigh_119 rfl (lv_at hl 0 rfl) ?_
              refine va_iald hx hb hK hP 14 13 rfl rfl (by rw [c_99]; exact kk_inl (by decide)) dM_weigh_120 ?_
              refine va_iald hx hb hK hP 19 18 rfl rfl (km_own8 hw (by rw [c_99]; exact kk_inl (by decide)) c_108) dM_weigh_121 ?_
              refine lv_aload_n hx hb dM_weigh_122 rfl (lv_at hl 2 rfl) ?_
              refine va_get (D := (dC, dI)) (ci := 3) (v := .ref (ad 19)) (C := R_M) (T := T_M) (N := 23) hx hb hts uw_M hown hK hP 0 rfl rfl 22 (by decide) (hts _ (List.mem_cons_of_mem _ wd_353)) (fun _ h9 => h9) rfl dM_weigh_123 ?_
              refine lv_iload_n hx hb dM_weigh_126 rfl (lv_at hl 1 rfl) ?_
              refine va_iald hx hb hK hP 19 18 rfl rfl (vp_in_nI (by omega) (by decide)) dM_weigh_127 ?_
              rw [nI_clamp (n := k) (by omega)]
              refine lv_icmp_ge (tgt := 148) hx hb dM_weigh_128 (by decide) (fun c_128 => ?_) (fun c_128 => ?_)
              · rw [if_pos c_128] at hf
                refine lv_iinc (v := nI (k + 1)) (lv' := [(2, .int (nI (k + 1))), (3, .int ((mI μ 8 k) - 10)), (0, .ref (ad 0)), (1, .int (nI j1))]) hx hb dM_weigh_148 hl (k := 1) rfl (nI_1 _) (by decide) rfl (fun ls hl => ?_)
                refine lv_goto (tgt := 66) hx hb dM_weigh_151 (by decide) ?_
                exact ih (k + 1) j1  _ o9 _ _ ls (by omega) hw  hf hP hS (lv_sub hl [0, 2, 3] rfl) K
              · rw [if_neg c_128] at hf
                refine lv_aload_n hx hb dM_weigh_131 rfl (lv_at hl 2 rfl) ?_
                refine va_get (D := (dC, dI)) (ci := 3) (v := .ref (ad 19)) (C := R_M) (T := T_M) (N := 23) hx hb hts uw_M hown hK hP 0 rfl rfl 22 (by decide) (hts _ (List.mem_cons_of_mem _ wd_353)) (fun _ h9 => h9) rfl dM_weigh_132 ?_
                refine lv_aload_n hx hb dM_weigh_135 rfl (lv_at hl 2 rfl) ?_
                refine va_get (D := (dC, dI)) (ci := 3) (v := .ref (ad 14)) (C := R_M) (T := T_M) (N := 23) hx hb hts uw_M hown hK hP 0 rfl rfl 17 (by decide) (hts _ (List.mem_cons_of_mem _ wd_348)) (fun _ h9 => h9) rfl dM_weigh_136 ?_
                refine lv_iload_n hx hb dM_weigh_139 rfl (lv_at hl 0 rfl) ?_
                refine va_iald hx hb hK hP 14 13 rfl rfl (by rw [c_99]; exact kk_inl (by decide)) dM_weigh_140 ?_
                refine lv_aload_n hx hb dM_weigh_141 rfl (lv_at hl 2 rfl) ?_
                refine va_get (D := (dC, dI)) (ci := 3) (v := .ref (ad 19)) (C := R_M) (T := T_M) (N := 23) hx hb hts uw_M hown hK hP 0 rfl rfl 22 (by decide) (hts _ (List.mem_cons_of_mem _ wd_353)) (fun _ h9 => h9) rfl dM_weigh_142 ?_
                refine lv_iload_n hx hb dM_weigh_145 rfl (lv_at hl 1 rfl) ?_
                refine va_iald hx hb hK hP 19 18 rfl rfl (vp_in_nI (by omega) (by decide)) dM_weigh_146 ?_
                rw [nI_clamp (n := k) (by omega)]
                refine va_iast hx hb hK hP (km_D hj) hS 19 18 rfl rfl (km_own8 hw (by rw [c_99]; exact kk_inl (by decide)) c_108) dM_weigh_147 (fun H locs hP _ hS => ?_)
                replace hP := km_u_urgent hP
                replace hw := km_wf_I (f := 22) (i := (mI μ 17 ((mI μ 8 k) - 10).toNatClampNeg).toNatClampNeg) (v := mI μ 22 k) hw (by decide)
                refine lv_iinc (v := nI (k + 1)) (lv' := [(2, .int (nI (k + 1))), (3, .int ((mI μ 8 k) - 10)), (0, .ref (ad 0)), (1, .int (nI j1))]) hx hb dM_weigh_148 hl (k := 1) rfl (nI_1 _) (by decide) rfl (fun ls hl => ?_)
                refine lv_goto (tgt := 66) hx hb dM_weigh_151 (by decide) ?_
                exact ih (k + 1) j1  _ o9 _ _ ls (by omega) hw  hf hP hS (lv_sub hl [0, 2, 3] rfl) K
  have loop58 : ∀ (n k : Nat) (μ : km_S) (H : Heap) (locs : List Loc) (ls : Array Slot), n + k = 8 → km_wf μ → mf_weigh_L58 n k  μ = out → va_P (dC, dI) vwCl (km_w ad cs μ) H → va_S (km_A ad) s.heap H locs → lv_has ls 4 [(1, .int (nI k)), (0, .ref (ad 0))] → W p l e (headSpec ws_M_weigh ({ frames := 0, cells := 0, slots := 0, locals := 0 })).room s m ([.ref (ad 0)] : List Value).toArray below meth c H locs 0 0 (MQ below (va_Qv (km_pv out) (kk_B (dC, dI) vwCl (km_t cs) (km_w ad cs)) (km_A ad)) ([.ref (ad 0)] : List Value).toArray s 0 0 (km_A ad)) (F0 m 58 ls []) := by
    clear hf hl hP hS hw
    intro n
    induction n with
    | zero =>
      intro k μ H locs ls hnk hw hf hP hS hl
      have hk : k = 8 := by omega
      rw [mf_weigh_L58] at hf
      have hl : lv_has ls 4 [(1, .int (nI k)), (0, .ref (ad 0))] := hl
      refine lv_iload_n hx hb dM_weigh_58 rfl (lv_at hl 0 rfl) ?_
      refine lv_bipush (v := 8) hx hb dM_weigh_59 (by decide) ?_
      refine lv_icmp_ge (tgt := 160) hx hb dM_weigh_61 (by decide) (fun _ => ?_) (fun c9 => absurd (by rw [hk]; decide) c9)
      exact kk_vret hx hb hr hlocks hP hK hS ⟨hf.symm, hw⟩ dM_weigh_160
    | succ n ih =>
      intro k μ H locs ls hnk hw hf hP hS hl
      have hk : k < 8 := by omega
      rw [mf_weigh_L58] at hf
      have hl : lv_has ls 4 [(1, .int (nI k)), (0, .ref (ad 0))] := hl
      refine lv_iload_n hx hb dM_weigh_58 rfl (lv_at hl 0 rfl) ?_
      refine lv_bipush (v := 8) hx hb dM_weigh_59 (by decide) ?_
      refine lv_icmp_ge (tgt := 160) hx hb dM_weigh_61 (by decide) (fun c9 => absurd c9 (kk_stay hk (by decide))) (fun _ => ?_)
      refine lv_iconst (v := 0) hx hb dM_weigh_64 (by decide) ?_
      refine lv_istore_n (lv' := [(2, .int 0), (1, .int (nI k)), (0, .ref (ad 0))]) hx hb dM_weigh_65 rfl hl (by decide) rfl (fun ls hl => ?_)
      obtain ⟨s1, hs1⟩ : ∃ z, mf_weigh_L66 8 0  μ = z := ⟨_, rfl⟩
      rw [kk_v_eq hs1] at hf
      refine loop66 8 0 k  _ s1 _ _ ls (by omega) hw  hs1 hP hS (lv_sub hl [0, 2, 1] rfl) (fun H locs ls hw hP hS hl => ?_)
      refine lv_iinc (v := nI (k + 1)) (lv' := [(1, .int (nI (k + 1))), (0, .ref (ad 0))]) hx hb dM_weigh_154 hl (k := 1) rfl (nI_1 _) (by decide) rfl (fun ls hl => ?_)
      refine lv_goto (tgt := 58) hx hb dM_weigh_157 (by decide) ?_
      exact ih (k + 1)  _ _ _ ls (by omega) hw  hf hP hS (lv_sub hl [0, 1] rfl)
  have loop2 : ∀ (n k : Nat) (μ : km_S) (H : Heap) (locs : List Loc) (ls : Array Slot), n + k = 8 → km_wf μ → mf_weigh_L2 n k  μ = out → va_P (dC, dI) vwCl (km_w ad cs μ) H → va_S (km_A ad) s.heap H locs → lv_has ls 4 [(1, .int (nI k)), (0, .ref (ad 0))] → W p l e (headSpec ws_M_weigh ({ frames := 0, cells := 0, slots := 0, locals := 0 })).room s m ([.ref (ad 0)] : List Value).toArray below meth c H locs 0 0 (MQ below (va_Qv (km_pv out) (kk_B (dC, dI) vwCl (km_t cs) (km_w ad cs)) (km_A ad)) ([.ref (ad 0)] : List Value).toArray s 0 0 (km_A ad)) (F0 m 2 ls []) := by
    clear hf hl hP hS hw
    intro n
    induction n with
    | zero =>
      intro k μ H locs ls hnk hw hf hP hS hl
      have hk : k = 8 := by omega
      rw [mf_weigh_L2] at hf
      have hl : lv_has ls 4 [(1, .int (nI k)), (0, .ref (ad 0))] := hl
      refine lv_iload_n hx hb dM_weigh_2 rfl (lv_at hl 0 rfl) ?_
      refine lv_bipush (v := 8) hx hb dM_weigh_3 (by decide) ?_
      refine lv_icmp_ge (tgt := 56) hx hb dM_weigh_5 (by decide) (fun _ => ?_) (fun c9 => absurd (by rw [hk]; decide) c9)
      refine lv_iconst (v := 0) hx hb dM_weigh_56 (by decide) ?_
      refine lv_istore_n (lv' := [(1, .int 0), (0, .ref (ad 0))]) hx hb dM_weigh_57 rfl hl (by decide) rfl (fun ls hl => ?_)
      exact loop58 8 0  _ _ _ ls (by omega) hw  hf hP hS (lv_sub hl [0, 1] rfl)
    | succ n ih =>
      intro k μ H locs ls hnk hw hf hP hS hl
      have hk : k < 8 := by omega
      rw [mf_weigh_L2] at hf
      have hl : lv_has ls 4 [(1, .int (nI k)), (0, .ref (ad 0))] := hl
      refine lv_iload_n hx hb dM_weigh_2 rfl (lv_at hl 0 rfl) ?_
      refine lv_bipush (v := 8) hx hb dM_weigh_3 (by decide) ?_
      refine lv_icmp_ge (tgt := 56) hx hb dM_weigh_5 (by decide) (fun c9 => absurd c9 (kk_stay hk (by decide))) (fun _ => ?_)
      refine lv_aload_n hx hb dM_weigh_8 rfl (lv_at hl 1 rfl) ?_
      refine va_get (D := (dC, dI)) (ci := 3) (v := .ref (ad 19)) (C := R_M) (T := T_M) (N := 23) hx hb hts uw_M hown hK hP 0 rfl rfl 22 (by decide) (hts _ (List.mem_cons_of_mem _ wd_353)) (fun _ h9 => h9) rfl dM_weigh_9 ?_
      refine lv_iload_n hx hb dM_weigh_12 rfl (lv_at hl 0 rfl) ?_
      refine lv_aload_n hx hb dM_weigh_13 rfl (lv_at hl 1 rfl) ?_
      refine va_get (D := (dC, dI)) (ci := 3) (v := .ref (ad 14)) (C := R_M) (T := T_M) (N := 23) hx hb hts uw_M hown hK hP 0 rfl rfl 17 (by decide) (hts _ (List.mem_cons_of_mem _ wd_348)) (fun _ h9 => h9) rfl dM_weigh_14 ?_
      refine lv_iconst (v := 3) hx hb dM_weigh_17 (by decide) ?_
      refine va_iald hx hb hK hP 14 13 rfl rfl (kk_inl (by decide)) dM_weigh_18 ?_
      rw [kk_c3]
      refine lv_iload_n hx hb dM_weigh_19 rfl (lv_at hl 0 rfl) ?_
      refine lv_icmp_ne (tgt := 43) hx hb dM_weigh_20 (by decide) (fun c_20 => ?_) (fun c_20 => ?_)
      · rw [if_neg c_20] at hf
        refine lv_aload_n hx hb dM_weigh_43 rfl (lv_at hl 1 rfl) ?_
        refine va_get (D := (dC, dI)) (ci := 3) (v := .ref (ad 2)) (C := R_M) (T := T_M) (N := 23) hx hb hts uw_M hown hK hP 0 rfl rfl 5 (by decide) (hts _ (List.mem_cons_of_mem _ wd_336)) (fun _ h9 => h9) rfl dM_weigh_44 ?_
        refine lv_iload_n hx hb dM_weigh_47 rfl (lv_at hl 0 rfl) ?_
        refine va_iald hx hb hK hP 2 1 rfl rfl (vp_in_nI (by omega) (by decide)) dM_weigh_48 ?_
        rw [nI_clamp (n := k) (by omega)]
        refine va_iast hx hb hK hP (km_D hj) hS 19 18 rfl rfl (vp_in_nI (by omega) (by decide)) dM_weigh_49 (fun H locs hP _ hS => ?_)
        rw [nI_clamp (n := k) (by omega)] at hP
        replace hP := km_u_urgent hP
        replace hw := km_wf_I (f := 22) (i := k) (v := mI μ 5 k) hw (by decide)
        refine lv_iinc (v := nI (k + 1)) (lv' := [(1, .int (nI (k + 1))), (0, .ref (ad 0))]) hx hb dM_weigh_50 hl (k := 0) rfl (nI_1 _) (by decide) rfl (fun ls hl => ?_)
        refine lv_goto (tgt := 2) hx hb dM_weigh_53 (by decide) ?_
        exact ih (k + 1)  _ _ _ ls (by omega) hw  hf hP hS (lv_sub hl [0, 1] rfl)
      · rw [if_pos c_20] at hf
        refine lv_aload_n hx hb dM_weigh_23 rfl (lv_at hl 1 rfl) ?_
        refine va_get (D := (dC, dI)) (ci := 3) (v := .ref (ad 2)) (C := R_M) (T := T_M) (N := 23) hx hb hts uw_M hown hK hP 0 rfl rfl 5 (by decide) (hts _ (List.mem_cons_of_mem _ wd_336)) (fun _ h9 => h9) rfl dM_weigh_24 ?_
        refine lv_iload_n hx hb dM_weigh_27 rfl (lv_at hl 0 rfl) ?_
        refine va_iald hx hb hK hP 2 1 rfl rfl (vp_in_nI (by omega) (by decide)) dM_weigh_28 ?_
        rw [nI_clamp (n := k) (by omega)]
        refine lv_aload_n hx hb dM_weigh_29 rfl (lv_at hl 1 rfl) ?_
        refine va_get (D := (dC, dI)) (ci := 3) (v := .int (mI μ 1 0)) (C := R_M) (T := T_M) (N := 23) hx hb hts uw_M hown hK hP 0 rfl rfl 1 (by decide) (hts _ (List.mem_cons_of_mem _ wd_332)) (fun _ h9 => h9) rfl dM_weigh_30 ?_
        refine lv_icmp_ge (tgt := 43) hx hb dM_weigh_33 (by decide) (fun c_33 => ?_) (fun c_33 => ?_)
        · rw [if_pos c_33] at hf
          refine lv_aload_n hx hb dM_weigh_43 rfl (lv_at hl 1 rfl) ?_
          refine va_get (D := (dC, dI)) (ci := 3) (v := .ref (ad 2)) (C := R_M) (T := T_M) (N := 23) hx hb hts uw_M hown hK hP 0 rfl rfl 5 (by decide) (hts _ (List.mem_cons_of_mem _ wd_336)) (fun _ h9 => h9) rfl dM_weigh_44 ?_
          refine lv_iload_n hx hb dM_weigh_47 rfl (lv_at hl 0 rfl) ?_
          refine va_iald hx hb hK hP 2 1 rfl rfl (vp_in_nI (by omega) (by decide)) dM_weigh_48 ?_
          rw [nI_clamp (n := k) (by omega)]
          refine va_iast hx hb hK hP (km_D hj) hS 19 18 rfl rfl (vp_in_nI (by omega) (by decide)) dM_weigh_49 (fun H locs hP _ hS => ?_)
          rw [nI_clamp (n := k) (by omega)] at hP
          replace hP := km_u_urgent hP
          replace hw := km_wf_I (f := 22) (i := k) (v := mI μ 5 k) hw (by decide)
          refine lv_iinc (v := nI (k + 1)) (lv' := [(1, .int (nI (k + 1))), (0, .ref (ad 0))]) hx hb dM_weigh_50 hl (k := 0) rfl (nI_1 _) (by decide) rfl (fun ls hl => ?_)
          refine lv_goto (tgt := 2) hx hb dM_weigh_53 (by decide) ?_
          exact ih (k + 1)  _ _ _ ls (by omega) hw  hf hP hS (lv_sub hl [0, 1] rfl)
        · rw [if_neg c_33] at hf
          refine lv_aload_n hx hb dM_weigh_36 rfl (lv_at hl 1 rfl) ?_
          refine va_get (D := (dC, dI)) (ci := 3) (v := .int (mI μ 1 0)) (C := R_M) (T := T_M) (N := 23) hx hb hts uw_M hown hK hP 0 rfl rfl 1 (by decide) (hts _ (List.mem_cons_of_mem _ wd_332)) (fun _ h9 => h9) rfl dM_weigh_37 ?_
          refine lv_goto (tgt := 49) hx hb dM_weigh_40 (by decide) ?_
          refine va_iast hx hb hK hP (km_D hj) hS 19 18 rfl rfl (vp_in_nI (by omega) (by decide)) dM_weigh_49 (fun H locs hP _ hS => ?_)
          rw [nI_clamp (n := k) (by omega)] at hP
          replace hP := km_u_urgent hP
          replace hw := km_wf_I (f := 22) (i := k) (v := mI μ 1 0) hw (by decide)
          refine lv_iinc (v := nI (k + 1)) (lv' := [(1, .int (nI (k + 1))), (0, .ref (ad 0))]) hx hb dM_weigh_50 hl (k := 0) rfl (nI_1 _) (by decide) rfl (fun ls hl => ?_)
          refine lv_goto (tgt := 2) hx hb dM_weigh_53 (by decide) ?_
          exact ih (k + 1)  _ _ _ ls (by omega) hw  hf hP hS (lv_sub hl [0, 1] rfl)
  refine lv_iconst (v := 0) hx hb dM_weigh_0 (by decide) ?_
  refine lv_istore_n (lv' := [(1, .int 0), (0, .ref (ad 0))]) hx hb dM_weigh_1 rfl hl (by decide) rfl (fun ls hl => ?_)
  exact loop2 8 0  _ _ _ ls (by omega) hw  hf hP hS (lv_sub hl [0, 1] rfl)
set_option maxHeartbeats 4000000 in
set_option maxRecDepth 100000 in
theorem mc_running (l : Launch) (dC : Nat → ClassId) (dI : Nat → Nat → Nat) (ad : Nat → Nat) (cs : Nat → ClassId) (hj : km_inj ad) (μ : km_S) (hw : km_wf μ)  : Met l y_M_running ws_M_running ({ frames := 1, cells := 0, slots := 0, locals := 23 }) (kk_Pc (dC, dI) vwCl (km_t cs) (km_w ad cs μ) [.ref (ad 0)]) (va_Qi (km_pr (mf_running μ)) (kk_B (dC, dI) vwCl (km_t cs) (km_w ad cs)) (km_A ad)) 0 0 (km_A ad) := by
  refine Met.ofW (cc := b_M_running) (maxL := 3) (ret := (some .int)) (by decide) rfl ?_
  intro p e s m args below meth c s₁ B hml hv
  obtain ⟨rfl, hP, hK⟩ := hv
  have hx := B.exec
  have hb := B.bytes
  have hr := B.returns
  have hts := atoms_spec (ws := ws_M_running) B.pre
  have hown : s.vm.findClass R_M = some m.cls := findClass_of_methodNamed B.named
  have hlocks := B.notSynchronized
  have hS : va_S (km_A ad) s.heap s.heap [] := va_S.rf
  generalize hf : mf_running μ = out
  have hl := lv_entry ([.ref (ad 0)]) (n := 3) (Nat.le_of_ble_eq_true rfl)
  rw [lg_entry_eq]
  generalize (lg_sl ([.ref (ad 0)]) ++ List.replicate (3 - (lg_sl ([.ref (ad 0)])).length) Slot.unset).toArray = ls at hl ⊢
  have hl : lv_has ls 3 [(0, .ref (ad 0))] := hl
  rw [mf_running] at hf
  have loop8 : ∀ (n k : Nat) (best : Int32) (μ : km_S) (H : Heap) (locs : List Loc) (ls : Array Slot), n + k = 8 → km_wf μ → (best < 0 ∨ vp_in best 8) → mf_running_L8 n k best μ = out → va_P (dC, dI) vwCl (km_w ad cs μ) H → va_S (km_A ad) s.heap H locs → lv_has ls 3 [(2, .int (nI k)), (1, .int best), (0, .ref (ad 0))] → W p l e (headSpec ws_M_running ({ frames := 1, cells := 0, slots := 0, locals := 23 })).room s m ([.ref (ad 0)] : List Value).toArray below meth c H locs 0 0 (MQ below (va_Qi (km_pr out) (kk_B (dC, dI) vwCl (km_t cs) (km_w ad cs)) (km_A ad)) ([.ref (ad 0)] : List Value).toArray s 0 0 (km_A ad)) (F0 m 8 ls []) := by
    clear hf hl hP hS hw
    intro n
    induction n with
    | zero =>
      intro k best μ H locs ls hnk hw hb1 hf hP hS hl
      have hk : k = 8 := by omega
      rw [mf_running_L8] at hf
      have hl : lv_has ls 3 [(2, .int (nI k)), (1, .int best), (0, .ref (ad 0))] := hl
      refine lv_iload_n hx hb dM_running_8 rfl (lv_at hl 0 rfl) ?_
      refine lv_bipush (v := 8) hx hb dM_running_9 (by decide) ?_
      refine lv_icmp_ge (tgt := 84) hx hb dM_running_11 (by decide) (fun _ => ?_) (fun c9 => absurd (by rw [hk]; decide) c9)
      refine lv_iload_n hx hb dM_running_84 rfl (lv_at hl 1 rfl) ?_
      exact kk_iret hx hb hr hlocks hP hK hS ⟨hf.symm, hw, hb1⟩ dM_running_85
    | succ n ih =>
      intro k best μ H locs ls hnk hw hb1 hf hP hS hl
      have hk : k < 8 := by omega
      rw [mf_running_L8] at hf
      have hl : lv_has ls 3 [(2, .int (nI k)), (1, .int best), (0, .ref (ad 0))] := hl
      refine lv_iload_n hx hb dM_running_8 rfl (lv_at hl 0 rfl) ?_
      refine lv_bipush (v := 8) hx hb dM_running_9 (by decide) ?_
      refine lv_icmp_ge (tgt := 84) hx hb dM_running_11 (by decide) (fun c9 => absurd c9 (kk_stay hk (by decide))) (fun _ => ?_)
      refine lv_aload_n hx hb dM_running_14 rfl (lv_at hl 2 rfl) ?_
      refine va_get (D := (dC, dI)) (ci := 3) (v := .ref (ad 1)) (C := R_M) (T := T_M) (N := 23) hx hb hts uw_M hown hK hP 0 rfl rfl 4 (by decide) (hts _ (List.mem_cons_of_mem _ wd_335)) (fun _ h9 => h9) rfl dM_running_15 ?_
      refine lv_iload_n hx hb dM_running_18 rfl (lv_at hl 0 rfl) ?_
      refine va_iald hx hb hK hP 1 0 rfl rfl (vp_in_nI (by omega) (by decide)) dM_running_19 ?_
      rw [nI_clamp (n := k) (by omega)]
      refine lv_iconst (v := 1) hx hb dM_running_20 (by decide) ?_
      refine lv_icmp_eq (tgt := 27) hx hb dM_running_21 (by decide) (fun c_21 => ?_) (fun c_21 => ?_)
      · rw [if_pos c_21] at hf
        refine lv_iload_n hx hb dM_running_27 rfl (lv_at hl 1 rfl) ?_
        refine lv_if_lt (tgt := 76) hx hb dM_running_28 (by decide) (fun c_28 => ?_) (fun c_28 => ?_)
        · rw [if_pos c_28] at hf
          refine lv_iload_n hx hb dM_running_76 rfl (lv_at hl 0 rfl) ?_
          refine lv_istore_n (lv' := [(1, .int (nI k)), (2, .int (nI k)), (0, .ref (ad 0))]) hx hb dM_running_77 rfl hl (by decide) rfl (fun ls hl => ?_)
          refine lv_iinc (v := nI (k + 1)) (lv' := [(2, .int (nI (k + 1))), (1, .int (nI k)), (0, .ref (ad 0))]) hx hb dM_running_78 hl (k := 1) rfl (nI_1 _) (by decide) rfl (fun ls hl => ?_)
          refine lv_goto (tgt := 8) hx hb dM_running_81 (by decide) ?_
          exact ih (k + 1) (nI k) _ _ _ ls (by omega) hw (Or.inr (vp_in_nI hk (by decide))) hf hP hS (lv_sub hl [0, 1, 2] rfl)
        · rw [if_neg c_28] at hf
          refine lv_aload_n hx hb dM_running_31 rfl (lv_at hl 2 rfl) ?_
          refine va_get (D := (dC, dI)) (ci := 3) (v := .ref (ad 19)) (C := R_M) (T := T_M) (N := 23) hx hb hts uw_M hown hK hP 0 rfl rfl 22 (by decide) (hts _ (List.mem_cons_of_mem _ wd_353)) (fun _ h9 => h9) rfl dM_running_32 ?_
          refine lv_iload_n hx hb dM_running_35 rfl (lv_at hl 0 rfl) ?_
          refine va_iald hx hb hK hP 19 18 rfl rfl (vp_in_nI (by omega) (by decide)) dM_running_36 ?_
          rw [nI_clamp (n := k) (by omega)]
          refine lv_aload_n hx hb dM_running_37 rfl (lv_at hl 2 rfl) ?_
          refine va_get (D := (dC, dI)) (ci := 3) (v := .ref (ad 19)) (C := R_M) (T := T_M) (N := 23) hx hb hts uw_M hown hK hP 0 rfl rfl 22 (by decide) (hts _ (List.mem_cons_of_mem _ wd_353)) (fun _ h9 => h9) rfl dM_running_38 ?_
          refine lv_iload_n hx hb dM_running_41 rfl (lv_at hl 1 rfl) ?_
          refine va_iald hx hb hK hP 19 18 rfl rfl (hb1.resolve_left c_28) dM_running_42 ?_
          refine lv_icmp_gt (tgt := 76) hx hb dM_running_43 (by decide) (fun c_43 => ?_) (fun c_43 => ?_)
          · rw [if_pos c_43] at hf
            refine lv_iload_n hx hb dM_running_76 rfl (lv_at hl 0 rfl) ?_
            refine lv_istore_n (lv' := [(1, .int (nI k)), (2, .int (nI k)), (0, .ref (ad 0))]) hx hb dM_running_77 rfl hl (by decide) rfl (fun ls hl => ?_)
            refine lv_iinc (v := nI (k + 1)) (lv' := [(2, .int (nI (k + 1))), (1, .int (nI k)), (0, .ref (ad 0))]) hx hb dM_running_78 hl (k := 1) rfl (nI_1 _) (by decide) rfl (fun ls hl => ?_)
            refine lv_goto (tgt := 8) hx hb dM_running_81 (by decide) ?_
            exact ih (k + 1) (nI k) _ _ _ ls (by omega) hw (Or.inr (vp_in_nI hk (by decide))) hf hP hS (lv_sub hl [0, 1, 2] rfl)
          · rw [if_neg c_43] at hf
            refine lv_aload_n hx hb dM_running_46 rfl (lv_at hl 2 rfl) ?_
            refine va_get (D := (dC, dI)) (ci := 3) (v := .ref (ad 19)) (C := R_M) (T := T_M) (N := 23) hx hb hts uw_M hown hK hP 0 rfl rfl 22 (by decide) (hts _ (List.mem_cons_of_mem _ wd_353)) (fun _ h9 => h9) rfl dM_running_47 ?_
            refine lv_iload_n hx hb dM_running_50 rfl (lv_at hl 0 rfl) ?_
            refine va_iald hx hb hK hP 19 18 rfl rfl (vp_in_nI (by omega) (by decide)) dM_running_51 ?_
            rw [nI_clamp (n := k) (by omega)]
            refine lv_aload_n hx hb dM_running_52 rfl (lv_at hl 2 rfl) ?_
            refine va_get (D := (dC, dI)) (ci := 3) (v := .ref (ad 19)) (C := R_M) (T := T_M) (N := 23) hx hb hts uw_M hown hK hP 0 rfl rfl 22 (by decide) (hts _ (List.mem_cons_of_mem _ wd_353)) (fun _ h9 => h9) rfl dM_running_53 ?_
            refine lv_iload_n hx hb dM_running_56 rfl (lv_at hl 1 rfl) ?_
            refine va_iald hx hb hK hP 19 18 rfl rfl (hb1.resolve_left c_28) dM_running_57 ?_
            refine lv_icmp_ne (tgt := 78) hx hb dM_running_58 (by decide) (fun c_58 => ?_) (fun c_58 => ?_)
            · rw [if_neg c_58] at hf
              refine lv_iinc (v := nI (k + 1)) (lv' := [(2, .int (nI (k + 1))), (1, .int best), (0, .ref (ad 0))]) hx hb dM_running_78 hl (k := 0) rfl (nI_1 _) (by decide) rfl (fun ls hl => ?_)
              refine lv_goto (tgt := 8) hx hb dM_running_81 (by decide) ?_
              exact ih (k + 1) best _ _ _ ls (by omega) hw hb1 hf hP hS (lv_sub hl [0, 1, 2] rfl)
            · rw [if_pos c_58] at hf
              refine lv_aload_n hx hb dM_running_61 rfl (lv_at hl 2 rfl) ?_
              refine va_get (D := (dC, dI)) (ci := 3) (v := .ref (ad 3)) (C := R_M) (T := T_M) (N := 23) hx hb hts uw_M hown hK hP 0 rfl rfl 6 (by decide) (hts _ (List.mem_cons_of_mem _ wd_337)) (fun _ h9 => h9) rfl dM_running_62 ?_
              refine lv_iload_n hx hb dM_running_65 rfl (lv_at hl 0 rfl) ?_
              refine va_iald hx hb hK hP 3 2 rfl rfl (vp_in_nI (by omega) (by decide)) dM_running_66 ?_
              rw [nI_clamp (n := k) (by omega)]
              refine lv_aload_n hx hb dM_running_67 rfl (lv_at hl 2 rfl) ?_
              refine va_get (D := (dC, dI)) (ci := 3) (v := .ref (ad 3)) (C := R_M) (T := T_M) (N := 23) hx hb hts uw_M hown hK hP 0 rfl rfl 6 (by decide) (hts _ (List.mem_cons_of_mem _ wd_337)) (fun _ h9 => h9) rfl dM_running_68 ?_
              refine lv_iload_n hx hb dM_running_71 rfl (lv_at hl 1 rfl) ?_
              refine va_iald hx hb hK hP 3 2 rfl rfl (hb1.resolve_left c_28) dM_running_72 ?_
              refine lv_icmp_ge (tgt := 78) hx hb dM_running_73 (by decide) (fun c_73 => ?_) (fun c_73 => ?_)
              · rw [if_pos c_73] at hf
                refine lv_iinc (v := nI (k + 1)) (lv' := [(2, .int (nI (k + 1))), (1, .int best), (0, .ref (ad 0))]) hx hb dM_running_78 hl (k := 0) rfl (nI_1 _) (by decide) rfl (fun ls hl => ?_)
                refine lv_goto (tgt := 8) hx hb dM_running_81 (by decide) ?_
                exact ih (k + 1) best _ _ _ ls (by omega) hw hb1 hf hP hS (lv_sub hl [0, 1, 2] rfl)
              · rw [if_neg c_73] at hf
                refine lv_iload_n hx hb dM_running_76 rfl (lv_at hl 0 rfl) ?_
                refine lv_istore_n (lv' := [(1, .int (nI k)), (2, .int (nI k)), (0, .ref (ad 0))]) hx hb dM_running_77 rfl hl (by decide) rfl (fun ls hl => ?_)
                refine lv_iinc (v := nI (k + 1)) (lv' := [(2, .int (nI (k + 1))), (1, .int (nI k)), (0, .ref (ad 0))]) hx hb dM_running_78 hl (k := 1) rfl (nI_1 _) (by decide) rfl (fun ls hl => ?_)
                refine lv_goto (tgt := 8) hx hb dM_running_81 (by decide) ?_
                exact ih (k + 1) (nI k) _ _ _ ls (by omega) hw (Or.inr (vp_in_nI hk (by decide))) hf hP hS (lv_sub hl [0, 1, 2] rfl)
      · rw [if_neg c_21] at hf
        refine lv_goto (tgt := 78) hx hb dM_running_24 (by decide) ?_
        refine lv_iinc (v := nI (k + 1)) (lv' := [(2, .int (nI (k + 1))), (1, .int best), (0, .ref (ad 0))]) hx hb dM_running_78 hl (k := 0) rfl (nI_1 _) (by decide) rfl (fun ls hl => ?_)
        refine lv_goto (tgt := 8) hx hb dM_running_81 (by decide) ?_
        exact ih (k + 1) best _ _ _ ls (by omega) hw hb1 hf hP hS (lv_sub hl [0, 1, 2] rfl)
  refine lv_iconst (v := (-1)) hx hb dM_running_0 (by decide) ?_
  refine lv_istore_n (lv' := [(1, .int (-1)), (0, .ref (ad 0))]) hx hb dM_running_1 rfl hl (by decide) rfl (fun ls hl => ?_)
  refine lv_aload_n hx hb dM_running_2 rfl (lv_at hl 1 rfl) ?_
  refine kk_cv (w := km_w ad cs) (As := []) (rest := []) ⟨hx, hb, hml, hown, hts⟩ (mc_weigh l dC dI ad cs hj μ hw  ) (cwV 0 hts gv_M_85 rfl rfl rfl (by decide +kernel) ⟨Nat.le_of_ble_eq_true rfl, Nat.le_of_ble_eq_true rfl⟩) (va_recv hK hP (ci := 3) (q0 := 0) rfl rfl) hP hK hS (fun _ h9 => h9) rfl hl.1 rfl (Nat.le_of_ble_eq_true rfl) dM_running_3 ⟨Nat.zero_le _, Nat.zero_le _⟩ (fun s1 H locs hq hP hS => ?_)
  obtain ⟨h1, hw⟩ := hq
  rw [kk_v_eq h1] at hf
  refine lv_iconst (v := 0) hx hb dM_running_6 (by decide) ?_
  refine lv_istore_n (lv' := [(2, .int 0), (1, .int (-1)), (0, .ref (ad 0))]) hx hb dM_running_7 rfl hl (by decide) rfl (fun ls hl => ?_)
  exact loop8 8 0 (-1) _ _ _ ls (by omega) hw (Or.inl (by decide)) hf hP hS (lv_sub hl [0, 1, 2] rfl)
