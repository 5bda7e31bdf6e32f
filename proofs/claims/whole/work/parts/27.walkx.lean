set_option maxHeartbeats 4000000 in
set_option maxRecDepth 100000 in
theorem xc_receive (l : Launch) (dC : Nat → ClassId) (dI : Nat → Nat → Nat) (ad : Nat → Nat) (cs : Nat → ClassId) (hj : kx_inj ad) (σ : kx_S) (hw : kx_wf σ) (q : Int32) : Met l y_X_receive ws_X_receive ({ frames := 6, cells := 0, slots := 0, locals := 144 }) (kk_Pc (dC, dI) vwCl (kx_t cs) (kx_w ad cs σ) [.ref (ad 0), .int q]) (va_Qi (kx_pi (xf_receive σ q)) (kk_B (dC, dI) vwCl (kx_t cs) (kx_w ad cs)) (kx_A ad)) 0 0 (kx_A ad) := by
  refine Met.ofW (cc := b_X_receive) (maxL := 4) (ret := (some .int)) (by decide) rfl ?_
  intro p e s m args below meth c s₁ B hml hv
  obtain ⟨rfl, hP, hK⟩ := hv
  have hx := B.exec
  have hb := B.bytes
  have hr := B.returns
  have hts := atoms_spec (ws := ws_X_receive) B.pre
  have hown : s.vm.findClass R_X = some m.cls := findClass_of_methodNamed B.named
  have hlocks := B.notSynchronized
  have hS : va_S (kx_A ad) s.heap s.heap [] := va_S.rf
  generalize hf : xf_receive σ q = out
  have hl := lv_entry ([.ref (ad 0), .int q]) (n := 4) (Nat.le_of_ble_eq_true rfl)
  rw [lg_entry_eq]
  generalize (lg_sl ([.ref (ad 0), .int q]) ++ List.replicate (4 - (lg_sl ([.ref (ad 0), .int q])).length) Slot.unset).toArray = ls at hl ⊢
  have hl : lv_has ls 4 [(0, .ref (ad 0)), (1, .int q)] := hl
  rw [xf_receive] at hf
  refine lv_aload_n hx hb dX_receive_0 rfl (lv_at hl 0 rfl) ?_
  refine kk_co (w := kx_w ad cs) (As := []) (rest := []) ⟨hx, hb, hml, hown, hts⟩ (xc_runner l dC dI ad cs hj σ hw  ) (cwV 0 hts gv_X_87 rfl rfl rfl (by decide +kernel) ⟨Nat.le_of_ble_eq_true rfl, Nat.le_of_ble_eq_true rfl⟩) (va_recv hK hP (ci := 2) (q0 := 0) rfl rfl) hP hK hS (fun _ h9 => h9) rfl hl.1 rfl (Nat.le_of_ble_eq_true rfl) dX_receive_1 ⟨Nat.zero_le _, Nat.zero_le _⟩ (fun s1 H locs hq hP hS => ?_) (fun t1 s1 H locs hq hP hS => ?_)
  · obtain ⟨h1, hw, -⟩ := hq
    rw [kk_b_eq h1, kk_o_none] at hf
    refine lv_astore_nN (lv' := [(2, .null), (0, .ref (ad 0)), (1, .int q)]) hx hb dX_receive_4 rfl hl (by decide) rfl (fun ls hl => ?_)
    refine lv_iload_n hx hb dX_receive_5 rfl (lv_at hl 2 rfl) ?_
    refine lv_iconst (v := 2) hx hb dX_receive_6 (by decide) ?_
    refine kk_cs (r0 := xf_isBelow q 2) (w := kx_w ad cs) (As := [.int q, .int 2]) (rest := []) ⟨hx, hb, hml, hown, hts⟩ (xc_isBelow l q 2) (cwS 2 hts gs_X_77 rfl rfl rfl (by decide +kernel) ⟨Nat.le_of_ble_eq_true rfl, Nat.le_of_ble_eq_true rfl⟩) hP hS rfl hl.1 rfl (Nat.le_of_ble_eq_true rfl) dX_receive_7 ⟨Nat.zero_le _, Nat.zero_le _⟩ (fun H locs hP hS => ?_)
    refine lv_if_eq (tgt := 17) hx hb dX_receive_10 (by decide) (fun c_10 => ?_) (fun c_10 => ?_)
    · rw [if_pos c_10] at hf
      refine lv_iconst (v := (-1)) hx hb dX_receive_17 (by decide) ?_
      exact kk_iret hx hb hr hlocks hP hK hS ⟨hf.symm, hw⟩ dX_receive_18
    · rw [if_neg c_10] at hf
      refine lv_aload_nN hx hb dX_receive_13 rfl (lv_at hl 0 rfl) ?_
      refine lv_ifnonnullN hx hb dX_receive_14 ?_
      refine lv_iconst (v := (-1)) hx hb dX_receive_17 (by decide) ?_
      exact kk_iret hx hb hr hlocks hP hK hS ⟨hf.symm, hw⟩ dX_receive_18
  · obtain ⟨h1, hw, h9⟩ := hq
    have ht1 : t1 < 8 := h9 t1 rfl
    rw [kk_b_eq h1, kk_o_some] at hf
    refine lv_astore_n (lv' := [(2, .ref (kx_ta ad t1)), (0, .ref (ad 0)), (1, .int q)]) hx hb dX_receive_4 rfl hl (by decide) rfl (fun ls hl => ?_)
    refine lv_iload_n hx hb dX_receive_5 rfl (lv_at hl 2 rfl) ?_
    refine lv_iconst (v := 2) hx hb dX_receive_6 (by decide) ?_
    refine kk_cs (r0 := xf_isBelow q 2) (w := kx_w ad cs) (As := [.int q, .int 2]) (rest := []) ⟨hx, hb, hml, hown, hts⟩ (xc_isBelow l q 2) (cwS 2 hts gs_X_77 rfl rfl rfl (by decide +kernel) ⟨Nat.le_of_ble_eq_true rfl, Nat.le_of_ble_eq_true rfl⟩) hP hS rfl hl.1 rfl (Nat.le_of_ble_eq_true rfl) dX_receive_7 ⟨Nat.zero_le _, Nat.zero_le _⟩ (fun H locs hP hS => ?_)
    refine lv_if_eq (tgt := 17) hx hb dX_receive_10 (by decide) (fun c_10 => ?_) (fun c_10 => ?_)
    · rw [if_pos c_10] at hf
      refine lv_iconst (v := (-1)) hx hb dX_receive_17 (by decide) ?_
      exact kk_iret hx hb hr hlocks hP hK hS ⟨hf.symm, hw⟩ dX_receive_18
    · rw [if_neg c_10] at hf
      refine lv_aload_n hx hb dX_receive_13 rfl (lv_at hl 0 rfl) ?_
      refine lv_ifnonnull (tgt := 19) hx hb dX_receive_14 (by decide) ?_
      refine lv_aload_n hx hb dX_receive_19 rfl (lv_at hl 1 rfl) ?_
      refine va_get (D := (dC, dI)) (ci := 2) (v := .ref (ad 4)) (C := R_X) (T := T_X) (N := 8) hx hb hts uw_X hown hK hP 0 rfl rfl 5 (by decide) (hts _ (List.mem_cons_of_mem _ wd_109)) (fun _ h9 => h9) rfl dX_receive_20 ?_
      refine lv_iload_n hx hb dX_receive_23 rfl (lv_at hl 2 rfl) ?_
      have hi_24 : vp_in q 2 := (kx_in (by decide) c_10)
      have hq_24 : q.toNatClampNeg < 2 := kx_lt hi_24
      refine kx_ldQ hx hb hK hP hi_24 dX_receive_24 ?_
      refine kk_ci (w := kx_w ad cs) (As := []) (rest := []) ⟨hx, hb, hml, hown, hts⟩ (xc_isEmpty l dC dI ad cs hj s1 hw q.toNatClampNeg hq_24) (cwV 0 hts gv_X_143 rfl rfl rfl (by decide +kernel) ⟨Nat.le_of_ble_eq_true rfl, Nat.le_of_ble_eq_true rfl⟩) (kx_recvQ hK hP hq_24) hP hK hS (fun _ h9 => h9) rfl hl.1 rfl (Nat.le_of_ble_eq_true rfl) dX_receive_25 ⟨Nat.zero_le _, Nat.zero_le _⟩ (fun r2 s2 H locs hq hP hS => ?_)
      obtain ⟨h2, hw⟩ := hq
      rw [kk_b_eq h2] at hf
      refine lv_if_eq (tgt := 45) hx hb dX_receive_28 (by decide) (fun c_28 => ?_) (fun c_28 => ?_)
      · rw [if_pos c_28] at hf
        refine lv_aload_n hx hb dX_receive_45 rfl (lv_at hl 0 rfl) ?_
        refine lv_aload_n hx hb dX_receive_46 rfl (lv_at hl 1 rfl) ?_
        refine va_get (D := (dC, dI)) (ci := 2) (v := .ref (ad 4)) (C := R_X) (T := T_X) (N := 8) hx hb hts uw_X hown hK hP 0 rfl rfl 5 (by decide) (hts _ (List.mem_cons_of_mem _ wd_109)) (fun _ h9 => h9) rfl dX_receive_47 ?_
        refine lv_iload_n hx hb dX_receive_50 rfl (lv_at hl 2 rfl) ?_
        have hi_51 : vp_in q 2 := (kx_in (by decide) c_10)
        have hq_51 : q.toNatClampNeg < 2 := kx_lt hi_51
        refine kx_ldQ hx hb hK hP hi_51 dX_receive_51 ?_
        refine kk_ci (w := kx_w ad cs) (As := []) (rest := [.ref (kx_ta ad t1)]) ⟨hx, hb, hml, hown, hts⟩ (xc_removeFirst l dC dI ad cs hj s2 hw q.toNatClampNeg hq_51) (cwV 0 hts gv_X_146 rfl rfl rfl (by decide +kernel) ⟨Nat.le_of_ble_eq_true rfl, Nat.le_of_ble_eq_true rfl⟩) (kx_recvQ hK hP hq_51) hP hK hS (fun _ h9 => h9) rfl hl.1 rfl (Nat.le_of_ble_eq_true rfl) dX_receive_52 ⟨Nat.zero_le _, Nat.zero_le _⟩ (fun r3 s3 H locs hq hP hS => ?_)
        obtain ⟨h3, hw⟩ := hq
        rw [kk_b_eq h3] at hf
        refine va_put (D := (dC, dI)) (ci := 1) (v := .int r3) (ty := .int) (C := R_T) (T := T_T) (N := 14) hx hb hts uw_T ty_T ty_T_ok nm_T hown hK hP (kx_D hj) hS (11 + t1) (kx_wT ht1) rfl 6 (by decide) (hts _ (List.mem_cons_of_mem _ wd_43)) (fun _ h9 => h9) rfl (by decide +kernel) rfl rfl (Nat.le_of_ble_eq_true rfl) dX_receive_55 (fun H locs hP _ hS => ?_)
        replace hP := kx_u_result ht1 hP
        replace hw := kx_wf_I (f := 15) (i := t1) (v := r3) hw (by decide)
        refine lv_aload_n hx hb dX_receive_58 rfl (lv_at hl 1 rfl) ?_
        refine lv_bipush (v := 40) hx hb dX_receive_59 (by decide) ?_
        refine lv_iload_n hx hb dX_receive_61 rfl (lv_at hl 2 rfl) ?_
        refine lv_iadd hx hb dX_receive_62 ?_
        refine kk_co (w := kx_w ad cs) (As := [.int (40 + q)]) (rest := []) ⟨hx, hb, hml, hown, hts⟩ (xc_firstWaiter l dC dI ad cs hj (sI s3 15 t1 r3) hw (40 + q) ) (cwV 1 hts gv_X_117 rfl rfl rfl (by decide +kernel) ⟨Nat.le_of_ble_eq_true rfl, Nat.le_of_ble_eq_true rfl⟩) (va_recv hK hP (ci := 2) (q0 := 0) rfl rfl) hP hK hS (fun _ h9 => h9) rfl hl.1 rfl (Nat.le_of_ble_eq_true rfl) dX_receive_63 ⟨Nat.zero_le _, Nat.zero_le _⟩ (fun s4 H locs hq hP hS => ?_) (fun t4 s4 H locs hq hP hS => ?_)
        · obtain ⟨h4, hw, -⟩ := hq
          rw [kk_b_eq h4, kk_o_none] at hf
          refine lv_astore_nN (lv' := [(3, .null), (2, .ref (kx_ta ad t1)), (0, .ref (ad 0)), (1, .int q)]) hx hb dX_receive_66 rfl hl (by decide) rfl (fun ls hl => ?_)
          refine lv_aload_nN hx hb dX_receive_67 rfl (lv_at hl 0 rfl) ?_
          refine lv_ifnullN (tgt := 90) hx hb dX_receive_68 (by decide) ?_
          refine lv_iconst (v := 0) hx hb dX_receive_90 (by decide) ?_
          exact kk_iret hx hb hr hlocks hP hK hS ⟨hf.symm, hw⟩ dX_receive_91
        · obtain ⟨h4, hw, h9⟩ := hq
          have ht4 : t4 < 8 := h9 t4 rfl
          rw [kk_b_eq h4, kk_o_some] at hf
          refine lv_astore_n (lv' := [(3, .ref (kx_ta ad t4)), (2, .ref (kx_ta ad t1)), (0, .ref (ad 0)), (1, .int q)]) hx hb dX_receive_66 rfl hl (by decide) rfl (fun ls hl => ?_)
          refine lv_aload_n hx hb dX_receive_67 rfl (lv_at hl 0 rfl) ?_
          refine lv_ifnull hx hb dX_receive_68 ?_
          refine lv_aload_n hx hb dX_receive_71 rfl (lv_at hl 2 rfl) ?_
          refine lv_iload_n hx hb dX_receive_72 rfl (lv_at hl 3 rfl) ?_
          refine lv_aload_n hx hb dX_receive_73 rfl (lv_at hl 0 rfl) ?_
          refine va_get (D := (dC, dI)) (ci := 1) (v := .int (kI s4 19 t4)) (C := R_T) (T := T_T) (N := 14) hx hb hts uw_T hown hK hP (11 + t4) (kx_wT ht4) rfl 12 (by decide) (hts _ (List.mem_cons_of_mem _ wd_55)) (fun _ h9 => h9) rfl dX_receive_74 ?_
          refine lv_aload_n hx hb dX_receive_77 rfl (lv_at hl 0 rfl) ?_
          refine va_get (D := (dC, dI)) (ci := 1) (v := .int (kI s4 20 t4)) (C := R_T) (T := T_T) (N := 14) hx hb hts uw_T hown hK hP (11 + t4) (kx_wT ht4) rfl 13 (by decide) (hts _ (List.mem_cons_of_mem _ wd_57)) (fun _ h9 => h9) rfl dX_receive_78 ?_
          refine kk_cv (w := kx_w ad cs) (As := [.int q, .int (kI s4 19 t4), .int (kI s4 20 t4)]) (rest := []) ⟨hx, hb, hml, hown, hts⟩ (xc_arrive l dC dI ad cs hj s4 hw q (kI s4 19 t4) (kI s4 20 t4) (kx_in (by decide) c_10)) (cwV 3 hts gv_X_139 rfl rfl rfl (by decide +kernel) ⟨Nat.le_of_ble_eq_true rfl, Nat.le_of_ble_eq_true rfl⟩) (va_recv hK hP (ci := 2) (q0 := 0) rfl rfl) hP hK hS (fun _ h9 => h9) rfl hl.1 rfl (Nat.le_of_ble_eq_true rfl) dX_receive_81 ⟨Nat.zero_le _, Nat.zero_le _⟩ (fun s5 H locs hq hP hS => ?_)
          obtain ⟨h5, hw⟩ := hq
          rw [kk_v_eq h5] at hf
          refine lv_aload_n hx hb dX_receive_84 rfl (lv_at hl 2 rfl) ?_
          refine lv_aload_n hx hb dX_receive_85 rfl (lv_at hl 0 rfl) ?_
          refine lv_iconst (v := 0) hx hb dX_receive_86 (by decide) ?_
          refine kk_cv (w := kx_w ad cs) (As := [.ref (kx_ta ad t4), .int 0]) (rest := []) ⟨hx, hb, hml, hown, hts⟩ (xc_makeReady l dC dI ad cs hj s5 hw t4 0 ht4) (cwV 2 hts gv_X_70 rfl rfl rfl (by decide +kernel) ⟨Nat.le_of_ble_eq_true rfl, Nat.le_of_ble_eq_true rfl⟩) (va_recv hK hP (ci := 2) (q0 := 0) rfl rfl) hP hK hS (fun _ h9 => h9) rfl hl.1 rfl (Nat.le_of_ble_eq_true rfl) dX_receive_87 ⟨Nat.zero_le _, Nat.zero_le _⟩ (fun s6 H locs hq hP hS => ?_)
          obtain ⟨h6, hw⟩ := hq
          rw [kk_v_eq h6] at hf
          refine lv_iconst (v := 0) hx hb dX_receive_90 (by decide) ?_
          exact kk_iret hx hb hr hlocks hP hK hS ⟨hf.symm, hw⟩ dX_receive_91
      · rw [if_neg c_28] at hf
        refine lv_aload_n hx hb dX_receive_31 rfl (lv_at hl 1 rfl) ?_
        refine lv_aload_n hx hb dX_receive_32 rfl (lv_at hl 0 rfl) ?_
        refine lv_bipush (v := 50) hx hb dX_receive_33 (by decide) ?_
        refine lv_iload_n hx hb dX_receive_35 rfl (lv_at hl 2 rfl) ?_
        refine lv_iadd hx hb dX_receive_36 ?_
        refine lv_ldc2 (v := 1000000000000) hx hb hown (hts _ (List.mem_cons_of_mem _ wd_144)) dX_receive_37 ?_
        refine kk_cv (w := kx_w ad cs) (As := [.ref (kx_ta ad t1), .int (50 + q), .long 1000000000000]) (rest := []) ⟨hx, hb, hml, hown, hts⟩ (xc_block l dC dI ad cs hj s2 hw t1 (50 + q) 1000000000000 ht1) (cwV 3 hts gv_X_113 rfl rfl rfl (by decide +kernel) ⟨Nat.le_of_ble_eq_true rfl, Nat.le_of_ble_eq_true rfl⟩) (va_recv hK hP (ci := 2) (q0 := 0) rfl rfl) hP hK hS (fun _ h9 => h9) rfl hl.1 rfl (Nat.le_of_ble_eq_true rfl) dX_receive_40 ⟨Nat.zero_le _, Nat.zero_le _⟩ (fun s7 H locs hq hP hS => ?_)
        obtain ⟨h7, hw⟩ := hq
        rw [kk_v_eq h7] at hf
        refine lv_iconst (v := 1) hx hb dX_receive_43 (by decide) ?_
        exact kk_iret hx hb hr hlocks hP hK hS ⟨hf.symm, hw⟩ dX_receive_44
set_option maxHeartbeats 4000000 in
set_option maxRecDepth 100000 in
theorem xc_sleep (l : Launch) (dC : Nat → ClassId) (dI : Nat → Nat → Nat) (ad : Nat → Nat) (cs : Nat → ClassId) (hj : kx_inj ad) (σ : kx_S) (hw : kx_wf σ) (n1 : Int32) : Met l y_X_sleep ws_X_sleep ({ frames := 5, cells := 0, slots := 0, locals := 119 }) (kk_Pc (dC, dI) vwCl (kx_t cs) (kx_w ad cs σ) [.ref (ad 0), .int n1]) (va_Qi (kx_pi (xf_sleep σ n1)) (kk_B (dC, dI) vwCl (kx_t cs) (kx_w ad cs)) (kx_A ad)) 0 0 (kx_A ad) := by
  refine Met.ofW (cc := b_X_sleep) (maxL := 3) (ret := (some .int)) (by decide) rfl ?_
  intro p e s m args below meth c s₁ B hml hv
  obtain ⟨rfl, hP, hK⟩ := hv
  have hx := B.exec
  have hb := B.bytes
  have hr := B.returns
  have hts := atoms_spec (ws := ws_X_sleep) B.pre
  have hown : s.vm.findClass R_X = some m.cls := findClass_of_methodNamed B.named
  have hlocks := B.notSynchronized
  have hS : va_S (kx_A ad) s.heap s.heap [] := va_S.rf
  generalize hf : xf_sleep σ n1 = out
  have hl := lv_entry ([.ref (ad 0), .int n1]) (n := 3) (Nat.le_of_ble_eq_true rfl)
  rw [lg_entry_eq]
  generalize (lg_sl ([.ref (ad 0), .int n1]) ++ List.replicate (3 - (lg_sl ([.ref (ad 0), .int n1])).length) Slot.unset).toArray = ls at hl ⊢
  have hl : lv_has ls 3 [(0, .ref (ad 0)), (1, .int n1)] := hl
  rw [xf_sleep] at hf
  refine lv_aload_n hx hb dX_sleep_0 rfl (lv_at hl 0 rfl) ?_
  refine kk_co (w := kx_w ad cs) (As := []) (rest := []) ⟨hx, hb, hml, hown, hts⟩ (xc_runner l dC dI ad cs hj σ hw  ) (cwV 0 hts gv_X_87 rfl rfl rfl (by decide +kernel) ⟨Nat.le_of_ble_eq_true rfl, Nat.le_of_ble_eq_true rfl⟩) (va_recv hK hP (ci := 2) (q0 := 0) rfl rfl) hP hK hS (fun _ h9 => h9) rfl hl.1 rfl (Nat.le_of_ble_eq_true rfl) dX_sleep_1 ⟨Nat.zero_le _, Nat.zero_le _⟩ (fun s1 H locs hq hP hS => ?_) (fun t1 s1 H locs hq hP hS => ?_)
  · obtain ⟨h1, hw, -⟩ := hq
    rw [kk_b_eq h1, kk_o_none] at hf
    refine lv_astore_nN (lv' := [(2, .null), (0, .ref (ad 0)), (1, .int n1)]) hx hb dX_sleep_4 rfl hl (by decide) rfl (fun ls hl => ?_)
    refine lv_iload_n hx hb dX_sleep_5 rfl (lv_at hl 2 rfl) ?_
    refine lv_iconst (v := 1) hx hb dX_sleep_6 (by decide) ?_
    refine lv_icmp_lt (tgt := 21) hx hb dX_sleep_7 (by decide) (fun c_7 => ?_) (fun c_7 => ?_)
    · rw [if_pos c_7] at hf
      refine lv_iconst (v := (-1)) hx hb dX_sleep_21 (by decide) ?_
      exact kk_iret hx hb hr hlocks hP hK hS ⟨hf.symm, hw⟩ dX_sleep_22
    · rw [if_neg c_7] at hf
      refine lv_iload_n hx hb dX_sleep_10 rfl (lv_at hl 2 rfl) ?_
      refine lv_sipush (v := 1000) hx hb dX_sleep_11 (by decide) ?_
      refine lv_icmp_gt (tgt := 21) hx hb dX_sleep_14 (by decide) (fun c_14 => ?_) (fun c_14 => ?_)
      · rw [if_pos c_14] at hf
        refine lv_iconst (v := (-1)) hx hb dX_sleep_21 (by decide) ?_
        exact kk_iret hx hb hr hlocks hP hK hS ⟨hf.symm, hw⟩ dX_sleep_22
      · rw [if_neg c_14] at hf
        refine lv_aload_nN hx hb dX_sleep_17 rfl (lv_at hl 0 rfl) ?_
        refine lv_ifnonnullN hx hb dX_sleep_18 ?_
        refine lv_iconst (v := (-1)) hx hb dX_sleep_21 (by decide) ?_
        exact kk_iret hx hb hr hlocks hP hK hS ⟨hf.symm, hw⟩ dX_sleep_22
  · obtain ⟨h1, hw, h9⟩ := hq
    have ht1 : t1 < 8 := h9 t1 rfl
    rw [kk_b_eq h1, kk_o_some] at hf
    refine lv_astore_n (lv' := [(2, .ref (kx_ta ad t1)), (0, .ref (ad 0)), (1, .int n1)]) hx hb dX_sleep_4 rfl hl (by decide) rfl (fun ls hl => ?_)
    refine lv_iload_n hx hb dX_sleep_5 rfl (lv_at hl 2 rfl) ?_
    refine lv_iconst (v := 1) hx hb dX_sleep_6 (by decide) ?_
    refine lv_icmp_lt (tgt := 21) hx hb dX_sleep_7 (by decide) (fun c_7 => ?_) (fun c_7 => ?_)
    · rw [if_pos c_7] at hf
      refine lv_iconst (v := (-1)) hx hb dX_sleep_21 (by decide) ?_
      exact kk_iret hx hb hr hlocks hP hK hS ⟨hf.symm, hw⟩ dX_sleep_22
    · rw [if_neg c_7] at hf
      refine lv_iload_n hx hb dX_sleep_10 rfl (lv_at hl 2 rfl) ?_
      refine lv_sipush (v := 1000) hx hb dX_sleep_11 (by decide) ?_
      refine lv_icmp_gt (tgt := 21) hx hb dX_sleep_14 (by decide) (fun c_14 => ?_) (fun c_14 => ?_)
      · rw [if_pos c_14] at hf
        refine lv_iconst (v := (-1)) hx hb dX_sleep_21 (by decide) ?_
        exact kk_iret hx hb hr hlocks hP hK hS ⟨hf.symm, hw⟩ dX_sleep_22
      · rw [if_neg c_14] at hf
        refine lv_aload_n hx hb dX_sleep_17 rfl (lv_at hl 0 rfl) ?_
        refine lv_ifnonnull (tgt := 23) hx hb dX_sleep_18 (by decide) ?_
        refine lv_aload_n hx hb dX_sleep_23 rfl (lv_at hl 1 rfl) ?_
        refine lv_aload_n hx hb dX_sleep_24 rfl (lv_at hl 0 rfl) ?_
        refine lv_bipush (v := 60) hx hb dX_sleep_25 (by decide) ?_
        refine lv_aload_n hx hb dX_sleep_27 rfl (lv_at hl 1 rfl) ?_
        refine lv_iload_n hx hb dX_sleep_28 rfl (lv_at hl 2 rfl) ?_
        refine kk_cl (w := kx_w ad cs) (As := [.int n1]) (rest := [.int 60, .ref (kx_ta ad t1), .ref (ad 0)]) ⟨hx, hb, hml, hown, hts⟩ (xc_deadlineAfter l dC dI ad cs hj s1 hw n1 ) (cwV 1 hts gv_X_109 rfl rfl rfl (by decide +kernel) ⟨Nat.le_of_ble_eq_true rfl, Nat.le_of_ble_eq_true rfl⟩) (va_recv hK hP (ci := 2) (q0 := 0) rfl rfl) hP hK hS (fun _ h9 => h9) rfl hl.1 rfl (Nat.le_of_ble_eq_true rfl) dX_sleep_29 ⟨Nat.zero_le _, Nat.zero_le _⟩ (fun r2 s2 H locs hq hP hS => ?_)
        obtain ⟨h2, hw⟩ := hq
        rw [kk_b_eq h2] at hf
        refine kk_cv (w := kx_w ad cs) (As := [.ref (kx_ta ad t1), .int 60, .long r2]) (rest := []) ⟨hx, hb, hml, hown, hts⟩ (xc_block l dC dI ad cs hj s2 hw t1 60 r2 ht1) (cwV 3 hts gv_X_113 rfl rfl rfl (by decide +kernel) ⟨Nat.le_of_ble_eq_true rfl, Nat.le_of_ble_eq_true rfl⟩) (va_recv hK hP (ci := 2) (q0 := 0) rfl rfl) hP hK hS (fun _ h9 => h9) rfl hl.1 rfl (Nat.le_of_ble_eq_true rfl) dX_sleep_32 ⟨Nat.zero_le _, Nat.zero_le _⟩ (fun s3 H locs hq hP hS => ?_)
        obtain ⟨h3, hw⟩ := hq
        rw [kk_v_eq h3] at hf
        refine lv_iconst (v := 1) hx hb dX_sleep_35 (by decide) ?_
        exact kk_iret hx hb hr hlocks hP hK hS ⟨hf.symm, hw⟩ dX_sleep_36
set_option maxHeartbeats 4000000 in
set_option maxRecDepth 100000 in
theorem xc_join (l : Launch) (dC : Nat → ClassId) (dI : Nat → Nat → Nat) (ad : Nat → Nat) (cs : Nat → ClassId) (hj : kx_inj ad) (σ : kx_S) (hw : kx_wf σ) (th : Int32) : Met l y_X_join ws_X_join ({ frames := 5, cells := 0, slots := 0, locals := 120 }) (kk_Pc (dC, dI) vwCl (kx_t cs) (kx_w ad cs σ) [.ref (ad 0), .int th]) (va_Qi (kx_pi (xf_join σ th)) (kk_B (dC, dI) vwCl (kx_t cs) (kx_w ad cs)) (kx_A ad)) 0 0 (kx_A ad) := by
  refine Met.ofW (cc := b_X_join) (maxL := 4) (ret := (some .int)) (by decide) rfl ?_
  intro p e s m args below meth c s₁ B hml hv
  obtain ⟨rfl, hP, hK⟩ := hv
  have hx := B.exec
  have hb := B.bytes
  have hr := B.returns
  have hts := atoms_spec (ws := ws_X_join) B.pre
  have hown : s.vm.findClass R_X = some m.cls := findClass_of_methodNamed B.named
  have hlocks := B.notSynchronized
  have hS : va_S (kx_A ad) s.heap s.heap [] := va_S.rf
  generalize hf : xf_join σ th = out
  have hl := lv_entry ([.ref (ad 0), .int th]) (n := 4) (Nat.le_of_ble_eq_true rfl)
  rw [lg_entry_eq]
  generalize (lg_sl ([.ref (ad 0), .int th]) ++ List.replicate (4 - (lg_sl ([.ref (ad 0), .int th])).length) Slot.unset).toArray = ls at hl ⊢
  have hl : lv_has ls 4 [(0, .ref (ad 0)), (1, .int th)] := hl
  rw [xf_join] at hf
  refine lv_aload_n hx hb dX_join_0 rfl (lv_at hl 0 rfl) ?_
  refine kk_co (w := kx_w ad cs) (As := []) (rest := []) ⟨hx, hb, hml, hown, hts⟩ (xc_runner l dC dI ad cs hj σ hw  ) (cwV 0 hts gv_X_87 rfl rfl rfl (by decide +kernel) ⟨Nat.le_of_ble_eq_true rfl, Nat.le_of_ble_eq_true rfl⟩) (va_recv hK hP (ci := 2) (q0 := 0) rfl rfl) hP hK hS (fun _ h9 => h9) rfl hl.1 rfl (Nat.le_of_ble_eq_true rfl) dX_join_1 ⟨Nat.zero_le _, Nat.zero_le _⟩ (fun s1 H locs hq hP hS => ?_) (fun t1 s1 H locs hq hP hS => ?_)
  · obtain ⟨h1, hw, -⟩ := hq
    rw [kk_b_eq h1, kk_o_none] at hf
    refine lv_astore_nN (lv' := [(2, .null), (0, .ref (ad 0)), (1, .int th)]) hx hb dX_join_4 rfl hl (by decide) rfl (fun ls hl => ?_)
    refine lv_iload_n hx hb dX_join_5 rfl (lv_at hl 2 rfl) ?_
    refine lv_bipush (v := 8) hx hb dX_join_6 (by decide) ?_
    refine kk_cs (r0 := xf_isBelow th 8) (w := kx_w ad cs) (As := [.int th, .int 8]) (rest := []) ⟨hx, hb, hml, hown, hts⟩ (xc_isBelow l th 8) (cwS 2 hts gs_X_77 rfl rfl rfl (by decide +kernel) ⟨Nat.le_of_ble_eq_true rfl, Nat.le_of_ble_eq_true rfl⟩) hP hS rfl hl.1 rfl (Nat.le_of_ble_eq_true rfl) dX_join_8 ⟨Nat.zero_le _, Nat.zero_le _⟩ (fun H locs hP hS => ?_)
    refine lv_if_eq (tgt := 26) hx hb dX_join_11 (by decide) (fun c_11 => ?_) (fun c_11 => ?_)
    · rw [if_pos c_11] at hf
      refine lv_iconst (v := (-1)) hx hb dX_join_26 (by decide) ?_
      exact kk_iret hx hb hr hlocks hP hK hS ⟨hf.symm, hw⟩ dX_join_27
    · rw [if_neg c_11] at hf
      refine lv_aload_nN hx hb dX_join_14 rfl (lv_at hl 0 rfl) ?_
      refine lv_ifnullN (tgt := 26) hx hb dX_join_15 (by decide) ?_
      refine lv_iconst (v := (-1)) hx hb dX_join_26 (by decide) ?_
      exact kk_iret hx hb hr hlocks hP hK hS ⟨hf.symm, hw⟩ dX_join_27
  · obtain ⟨h1, hw, h9⟩ := hq
    have ht1 : t1 < 8 := h9 t1 rfl
    rw [kk_b_eq h1, kk_o_some] at hf
    refine lv_astore_n (lv' := [(2, .ref (kx_ta ad t1)), (0, .ref (ad 0)), (1, .int th)]) hx hb dX_join_4 rfl hl (by decide) rfl (fun ls hl => ?_)
    refine lv_iload_n hx hb dX_join_5 rfl (lv_at hl 2 rfl) ?_
    refine lv_bipush (v := 8) hx hb dX_join_6 (by decide) ?_
    refine kk_cs (r0 := xf_isBelow th 8) (w := kx_w ad cs) (As := [.int th, .int 8]) (rest := []) ⟨hx, hb, hml, hown, hts⟩ (xc_isBelow l th 8) (cwS 2 hts gs_X_77 rfl rfl rfl (by decide +kernel) ⟨Nat.le_of_ble_eq_true rfl, Nat.le_of_ble_eq_true rfl⟩) hP hS rfl hl.1 rfl (Nat.le_of_ble_eq_true rfl) dX_join_8 ⟨Nat.zero_le _, Nat.zero_le _⟩ (fun H locs hP hS => ?_)
    refine lv_if_eq (tgt := 26) hx hb dX_join_11 (by decide) (fun c_11 => ?_) (fun c_11 => ?_)
    · rw [if_pos c_11] at hf
      refine lv_iconst (v := (-1)) hx hb dX_join_26 (by decide) ?_
      exact kk_iret hx hb hr hlocks hP hK hS ⟨hf.symm, hw⟩ dX_join_27
    · rw [if_neg c_11] at hf
      refine lv_aload_n hx hb dX_join_14 rfl (lv_at hl 0 rfl) ?_
      refine lv_ifnull hx hb dX_join_15 ?_
      refine lv_aload_n hx hb dX_join_18 rfl (lv_at hl 0 rfl) ?_
      refine va_get (D := (dC, dI)) (ci := 1) (v := .int (nI t1)) (C := R_T) (T := T_T) (N := 14) hx hb hts uw_T hown hK hP (11 + t1) (kx_wT ht1) rfl 0 (by decide) (hts _ (List.mem_cons_of_mem _ wd_31)) (fun _ h9 => h9) rfl dX_join_19 ?_
      refine lv_iload_n hx hb dX_join_22 rfl (lv_at hl 2 rfl) ?_
      refine lv_icmp_ne (tgt := 28) hx hb dX_join_23 (by decide) (fun c_23 => ?_) (fun c_23 => ?_)
      · rw [if_neg c_23] at hf
        refine lv_aload_n hx hb dX_join_28 rfl (lv_at hl 1 rfl) ?_
        refine va_get (D := (dC, dI)) (ci := 2) (v := .ref (ad 1)) (C := R_X) (T := T_X) (N := 8) hx hb hts uw_X hown hK hP 0 rfl rfl 2 (by decide) (hts _ (List.mem_cons_of_mem _ wd_106)) (fun _ h9 => h9) rfl dX_join_29 ?_
        refine lv_iload_n hx hb dX_join_32 rfl (lv_at hl 2 rfl) ?_
        have hi_33 : vp_in th 8 := (kx_in (by decide) c_11)
        have ht_33 : th.toNatClampNeg < 8 := kx_lt hi_33
        refine kx_ldT hx hb hK hP hi_33 dX_join_33 ?_
        refine lv_astore_n (lv' := [(3, .ref (kx_ta ad th.toNatClampNeg)), (2, .ref (kx_ta ad t1)), (0, .ref (ad 0)), (1, .int th)]) hx hb dX_join_34 rfl hl (by decide) rfl (fun ls hl => ?_)
        refine lv_aload_n hx hb dX_join_35 rfl (lv_at hl 0 rfl) ?_
        refine va_get (D := (dC, dI)) (ci := 1) (v := .int (kI s1 10 th.toNatClampNeg)) (C := R_T) (T := T_T) (N := 14) hx hb hts uw_T hown hK hP (11 + th.toNatClampNeg) (kx_wT ht_33) rfl 1 (by decide) (hts _ (List.mem_cons_of_mem _ wd_33)) (fun _ h9 => h9) rfl dX_join_36 ?_
        refine lv_iconst (v := 3) hx hb dX_join_39 (by decide) ?_
        refine lv_icmp_ne (tgt := 58) hx hb dX_join_40 (by decide) (fun c_40 => ?_) (fun c_40 => ?_)
        · rw [if_neg c_40] at hf
          refine lv_aload_n hx hb dX_join_58 rfl (lv_at hl 0 rfl) ?_
          refine va_get (D := (dC, dI)) (ci := 1) (v := .int (kI s1 10 th.toNatClampNeg)) (C := R_T) (T := T_T) (N := 14) hx hb hts uw_T hown hK hP (11 + th.toNatClampNeg) (kx_wT ht_33) rfl 1 (by decide) (hts _ (List.mem_cons_of_mem _ wd_33)) (fun _ h9 => h9) rfl dX_join_59 ?_
          refine lv_if_eq (tgt := 76) hx hb dX_join_62 (by decide) (fun c_62 => ?_) (fun c_62 => ?_)
          · rw [if_pos c_62] at hf
            refine lv_iconst (v := (-1)) hx hb dX_join_76 (by decide) ?_
            exact kk_iret hx hb hr hlocks hP hK hS ⟨hf.symm, hw⟩ dX_join_77
          · rw [if_neg c_62] at hf
            refine lv_aload_n hx hb dX_join_65 rfl (lv_at hl 2 rfl) ?_
            refine lv_bipush (v := 70) hx hb dX_join_66 (by decide) ?_
            refine lv_iload_n hx hb dX_join_68 rfl (lv_at hl 3 rfl) ?_
            refine lv_iadd hx hb dX_join_69 ?_
            refine kk_co (w := kx_w ad cs) (As := [.int (70 + th)]) (rest := []) ⟨hx, hb, hml, hown, hts⟩ (xc_firstWaiter l dC dI ad cs hj s1 hw (70 + th) ) (cwV 1 hts gv_X_117 rfl rfl rfl (by decide +kernel) ⟨Nat.le_of_ble_eq_true rfl, Nat.le_of_ble_eq_true rfl⟩) (va_recv hK hP (ci := 2) (q0 := 0) rfl rfl) hP hK hS (fun _ h9 => h9) rfl hl.1 rfl (Nat.le_of_ble_eq_true rfl) dX_join_70 ⟨Nat.zero_le _, Nat.zero_le _⟩ (fun s2 H locs hq hP hS => ?_) (fun t2 s2 H locs hq hP hS => ?_)
            · obtain ⟨h2, hw, -⟩ := hq
              rw [kk_b_eq h2, kk_o_none] at hf
              refine lv_ifnullN (tgt := 78) hx hb dX_join_73 (by decide) ?_
              refine lv_aload_n hx hb dX_join_78 rfl (lv_at hl 2 rfl) ?_
              refine lv_aload_n hx hb dX_join_79 rfl (lv_at hl 1 rfl) ?_
              refine lv_bipush (v := 70) hx hb dX_join_80 (by decide) ?_
              refine lv_iload_n hx hb dX_join_82 rfl (lv_at hl 3 rfl) ?_
              refine lv_iadd hx hb dX_join_83 ?_
              refine lv_ldc2 (v := 1000000000000) hx hb hown (hts _ (List.mem_cons_of_mem _ wd_144)) dX_join_84 ?_
              refine kk_cv (w := kx_w ad cs) (As := [.ref (kx_ta ad t1), .int (70 + th), .long 1000000000000]) (rest := []) ⟨hx, hb, hml, hown, hts⟩ (xc_block l dC dI ad cs hj s2 hw t1 (70 + th) 1000000000000 ht1) (cwV 3 hts gv_X_113 rfl rfl rfl (by decide +kernel) ⟨Nat.le_of_ble_eq_true rfl, Nat.le_of_ble_eq_true rfl⟩) (va_recv hK hP (ci := 2) (q0 := 0) rfl rfl) hP hK hS (fun _ h9 => h9) rfl hl.1 rfl (Nat.le_of_ble_eq_true rfl) dX_join_87 ⟨Nat.zero_le _, Nat.zero_le _⟩ (fun s3 H locs hq hP hS => ?_)
              obtain ⟨h3, hw⟩ := hq
              rw [kk_v_eq h3] at hf
              refine lv_iconst (v := 1) hx hb dX_join_90 (by decide) ?_
              exact kk_iret hx hb hr hlocks hP hK hS ⟨hf.symm, hw⟩ dX_join_91
            · obtain ⟨h2, hw, h9⟩ := hq
              have ht2 : t2 < 8 := h9 t2 rfl
              rw [kk_b_eq h2, kk_o_some] at hf
              refine lv_ifnull hx hb dX_join_73 ?_
              refine lv_iconst (v := (-1)) hx hb dX_join_76 (by decide) ?_
              exact kk_iret hx hb hr hlocks hP hK hS ⟨hf.symm, hw⟩ dX_join_77
        · rw [if_pos c_40] at hf
          refine lv_aload_n hx hb dX_join_43 rfl (lv_at hl 1 rfl) ?_
          refine lv_aload_n hx hb dX_join_44 rfl (lv_at hl 0 rfl) ?_
          refine va_get (D := (dC, dI)) (ci := 1) (v := .int (kI s1 15 th.toNatClampNeg)) (C := R_T) (T := T_T) (N := 14) hx hb hts uw_T hown hK hP (11 + th.toNatClampNeg) (kx_wT ht_33) rfl 6 (by decide) (hts _ (List.mem_cons_of_mem _ wd_43)) (fun _ h9 => h9) rfl dX_join_45 ?_
          refine va_put (D := (dC, dI)) (ci := 1) (v := .int (kI s1 15 th.toNatClampNeg)) (ty := .int) (C := R_T) (T := T_T) (N := 14) hx hb hts uw_T ty_T ty_T_ok nm_T hown hK hP (kx_D hj) hS (11 + t1) (kx_wT ht1) rfl 6 (by decide) (hts _ (List.mem_cons_of_mem _ wd_43)) (fun _ h9 => h9) rfl (by decide +kernel) rfl rfl (Nat.le_of_ble_eq_true rfl) dX_join_48 (fun H locs hP _ hS => ?_)
          replace hP := kx_u_result ht1 hP
          replace hw := kx_wf_I (f := 15) (i := t1) (v := kI s1 15 th.toNatClampNeg) hw (by decide)
          refine lv_aload_n hx hb dX_join_51 rfl (lv_at hl 0 rfl) ?_
          refine lv_iconst (v := 0) hx hb dX_join_52 (by decide) ?_
          refine va_put (D := (dC, dI)) (ci := 1) (v := .int 0) (ty := .int) (C := R_T) (T := T_T) (N := 14) hx hb hts uw_T ty_T ty_T_ok nm_T hown hK hP (kx_D hj) hS (11 + th.toNatClampNeg) (kx_wT ht_33) rfl 1 (by decide) (hts _ (List.mem_cons_of_mem _ wd_33)) (fun _ h9 => h9) rfl (by decide +kernel) rfl rfl (Nat.le_of_ble_eq_true rfl) dX_join_53 (fun H locs hP _ hS => ?_)
          replace hP := kx_u_state ht_33 hP
          replace hw := kx_wf_I (f := 10) (i := th.toNatClampNeg) (v := 0) hw (by decide)
          refine lv_iconst (v := 0) hx hb dX_join_56 (by decide) ?_
          exact kk_iret hx hb hr hlocks hP hK hS ⟨hf.symm, hw⟩ dX_join_57
      · rw [if_pos c_23] at hf
        refine lv_iconst (v := (-1)) hx hb dX_join_26 (by decide) ?_
        exact kk_iret hx hb hr hlocks hP hK hS ⟨hf.symm, hw⟩ dX_join_27
set_option maxHeartbeats 4000000 in
set_option maxRecDepth 100000 in
theorem xc_exit (l : Launch) (dC : Nat → ClassId) (dI : Nat → Nat → Nat) (ad : Nat → Nat) (cs : Nat → ClassId) (hj : kx_inj ad) (σ : kx_S) (hw : kx_wf σ) (value : Int32) : Met l y_X_exit ws_X_exit ({ frames := 5, cells := 0, slots := 0, locals := 120 }) (kk_Pc (dC, dI) vwCl (kx_t cs) (kx_w ad cs σ) [.ref (ad 0), .int value]) (va_Qi (kx_pi (xf_exit σ value)) (kk_B (dC, dI) vwCl (kx_t cs) (kx_w ad cs)) (kx_A ad)) 0 0 (kx_A ad) := by
  refine Met.ofW (cc := b_X_exit) (maxL := 4) (ret := (some .int)) (by decide) rfl ?_
  intro p e s m args below meth c s₁ B hml hv
  obtain ⟨rfl, hP, hK⟩ := hv
  have hx := B.exec
  have hb := B.bytes
  have hr := B.returns
  have hts := atoms_spec (ws := ws_X_exit) B.pre
  have hown : s.vm.findClass R_X = some m.cls := findClass_of_methodNamed B.named
  have hlocks := B.notSynchronized
  have hS : va_S (kx_A ad) s.heap s.heap [] := va_S.rf
  generalize hf : xf_exit σ value = out
  have hl := lv_entry ([.ref (ad 0), .int value]) (n := 4) (Nat.le_of_ble_eq_true rfl)
  rw [lg_entry_eq]
  generalize (lg_sl ([.ref (ad 0), .int value]) ++ List.replicate (4 - (lg_sl ([.ref (ad 0), .int value])).length) Slot.unset).toArray = ls at hl ⊢
  have hl : lv_has ls 4 [(0, .ref (ad 0)), (1, .int value)] := hl
  rw [xf_exit] at hf
  refine lv_aload_n hx hb dX_exit_0 rfl (lv_at hl 0 rfl) ?_
  refine kk_co (w := kx_w ad cs) (As := []) (rest := []) ⟨hx, hb, hml, hown, hts⟩ (xc_runner l dC dI ad cs hj σ hw  ) (cwV 0 hts gv_X_87 rfl rfl rfl (by decide +kernel) ⟨Nat.le_of_ble_eq_true rfl, Nat.le_of_ble_eq_true rfl⟩) (va_recv hK hP (ci := 2) (q0 := 0) rfl rfl) hP hK hS (fun _ h9 => h9) rfl hl.1 rfl (Nat.le_of_ble_eq_true rfl) dX_exit_1 ⟨Nat.zero_le _, Nat.zero_le _⟩ (fun s1 H locs hq hP hS => ?_) (fun t1 s1 H locs hq hP hS => ?_)
  · obtain ⟨h1, hw, -⟩ := hq
    rw [kk_b_eq h1, kk_o_none] at hf
    refine lv_astore_nN (lv' := [(2, .null), (0, .ref (ad 0)), (1, .int value)]) hx hb dX_exit_4 rfl hl (by decide) rfl (fun ls hl => ?_)
    refine lv_aload_nN hx hb dX_exit_5 rfl (lv_at hl 0 rfl) ?_
    refine lv_ifnullN (tgt := 17) hx hb dX_exit_6 (by decide) ?_
    refine lv_iconst (v := (-1)) hx hb dX_exit_17 (by decide) ?_
    exact kk_iret hx hb hr hlocks hP hK hS ⟨hf.symm, hw⟩ dX_exit_18
  · obtain ⟨h1, hw, h9⟩ := hq
    have ht1 : t1 < 8 := h9 t1 rfl
    rw [kk_b_eq h1, kk_o_some] at hf
    refine lv_astore_n (lv' := [(2, .ref (kx_ta ad t1)), (0, .ref (ad 0)), (1, .int value)]) hx hb dX_exit_4 rfl hl (by decide) rfl (fun ls hl => ?_)
    refine lv_aload_n hx hb dX_exit_5 rfl (lv_at hl 0 rfl) ?_
    refine lv_ifnull hx hb dX_exit_6 ?_
    refine lv_aload_n hx hb dX_exit_9 rfl (lv_at hl 1 rfl) ?_
    refine lv_aload_n hx hb dX_exit_10 rfl (lv_at hl 0 rfl) ?_
    refine kk_ci (w := kx_w ad cs) (As := [.ref (kx_ta ad t1)]) (rest := []) ⟨hx, hb, hml, hown, hts⟩ (xc_ownsAny l dC dI ad cs hj s1 hw t1 ht1) (cwV 1 hts gv_X_150 rfl rfl rfl (by decide +kernel) ⟨Nat.le_of_ble_eq_true rfl, Nat.le_of_ble_eq_true rfl⟩) (va_recv hK hP (ci := 2) (q0 := 0) rfl rfl) hP hK hS (fun _ h9 => h9) rfl hl.1 rfl (Nat.le_of_ble_eq_true rfl) dX_exit_11 ⟨Nat.zero_le _, Nat.zero_le _⟩ (fun r2 s2 H locs hq hP hS => ?_)
    obtain ⟨h2, hw⟩ := hq
    rw [kk_b_eq h2] at hf
    refine lv_if_eq (tgt := 19) hx hb dX_exit_14 (by decide) (fun c_14 => ?_) (fun c_14 => ?_)
    · rw [if_pos c_14] at hf
      refine lv_aload_n hx hb dX_exit_19 rfl (lv_at hl 1 rfl) ?_
      refine lv_bipush (v := 70) hx hb dX_exit_20 (by decide) ?_
      refine lv_aload_n hx hb dX_exit_22 rfl (lv_at hl 0 rfl) ?_
      refine va_get (D := (dC, dI)) (ci := 1) (v := .int (nI t1)) (C := R_T) (T := T_T) (N := 14) hx hb hts uw_T hown hK hP (11 + t1) (kx_wT ht1) rfl 0 (by decide) (hts _ (List.mem_cons_of_mem _ wd_31)) (fun _ h9 => h9) rfl dX_exit_23 ?_
      refine lv_iadd hx hb dX_exit_26 ?_
      refine kk_co (w := kx_w ad cs) (As := [.int (70 + (nI t1))]) (rest := []) ⟨hx, hb, hml, hown, hts⟩ (xc_firstWaiter l dC dI ad cs hj s2 hw (70 + (nI t1)) ) (cwV 1 hts gv_X_117 rfl rfl rfl (by decide +kernel) ⟨Nat.le_of_ble_eq_true rfl, Nat.le_of_ble_eq_true rfl⟩) (va_recv hK hP (ci := 2) (q0 := 0) rfl rfl) hP hK hS (fun _ h9 => h9) rfl hl.1 rfl (Nat.le_of_ble_eq_true rfl) dX_exit_27 ⟨Nat.zero_le _, Nat.zero_le _⟩ (fun s3 H locs hq hP hS => ?_) (fun t3 s3 H locs hq hP hS => ?_)
      · obtain ⟨h3, hw, -⟩ := hq
        rw [kk_b_eq h3, kk_o_none] at hf
        refine lv_astore_nN (lv' := [(3, .null), (2, .ref (kx_ta ad t1)), (0, .ref (ad 0)), (1, .int value)]) hx hb dX_exit_30 rfl hl (by decide) rfl (fun ls hl => ?_)
        refine lv_aload_nN hx hb dX_exit_31 rfl (lv_at hl 0 rfl) ?_
        refine lv_ifnullN (tgt := 49) hx hb dX_exit_32 (by decide) ?_
        refine lv_aload_n hx hb dX_exit_49 rfl (lv_at hl 1 rfl) ?_
        refine lv_iload_n hx hb dX_exit_50 rfl (lv_at hl 3 rfl) ?_
        refine va_put (D := (dC, dI)) (ci := 1) (v := .int value) (ty := .int) (C := R_T) (T := T_T) (N := 14) hx hb hts uw_T ty_T ty_T_ok nm_T hown hK hP (kx_D hj) hS (11 + t1) (kx_wT ht1) rfl 6 (by decide) (hts _ (List.mem_cons_of_mem _ wd_43)) (fun _ h9 => h9) rfl (by decide +kernel) rfl rfl (Nat.le_of_ble_eq_true rfl) dX_exit_51 (fun H locs hP _ hS => ?_)
        replace hP := kx_u_result ht1 hP
        replace hw := kx_wf_I (f := 15) (i := t1) (v := value) hw (by decide)
        refine lv_aload_n hx hb dX_exit_54 rfl (lv_at hl 1 rfl) ?_
        refine lv_iconst (v := 3) hx hb dX_exit_55 (by decide) ?_
        refine va_put (D := (dC, dI)) (ci := 1) (v := .int 3) (ty := .int) (C := R_T) (T := T_T) (N := 14) hx hb hts uw_T ty_T ty_T_ok nm_T hown hK hP (kx_D hj) hS (11 + t1) (kx_wT ht1) rfl 1 (by decide) (hts _ (List.mem_cons_of_mem _ wd_33)) (fun _ h9 => h9) rfl (by decide +kernel) rfl rfl (Nat.le_of_ble_eq_true rfl) dX_exit_56 (fun H locs hP _ hS => ?_)
        replace hP := kx_u_state ht1 hP
        replace hw := kx_wf_I (f := 10) (i := t1) (v := 3) hw (by decide)
        refine lv_iconst (v := 0) hx hb dX_exit_59 (by decide) ?_
        exact kk_iret hx hb hr hlocks hP hK hS ⟨hf.symm, hw⟩ dX_exit_60
      · obtain ⟨h3, hw, h9⟩ := hq
        have ht3 : t3 < 8 := h9 t3 rfl
        rw [kk_b_eq h3, kk_o_some] at hf
        refine lv_astore_n (lv' := [(3, .ref (kx_ta ad t3)), (2, .ref (kx_ta ad t1)), (0, .ref (ad 0)), (1, .int value)]) hx hb dX_exit_30 rfl hl (by decide) rfl (fun ls hl => ?_)
        refine lv_aload_n hx hb dX_exit_31 rfl (lv_at hl 0 rfl) ?_
        refine lv_ifnull hx hb dX_exit_32 ?_
        refine lv_aload_n hx hb dX_exit_35 rfl (lv_at hl 2 rfl) ?_
        refine lv_aload_n hx hb dX_exit_36 rfl (lv_at hl 0 rfl) ?_
        refine lv_iload_n hx hb dX_exit_37 rfl (lv_at hl 3 rfl) ?_
        refine kk_cv (w := kx_w ad cs) (As := [.ref (kx_ta ad t3), .int value]) (rest := []) ⟨hx, hb, hml, hown, hts⟩ (xc_makeReady l dC dI ad cs hj s3 hw t3 value ht3) (cwV 2 hts gv_X_70 rfl rfl rfl (by decide +kernel) ⟨Nat.le_of_ble_eq_true rfl, Nat.le_of_ble_eq_true rfl⟩) (va_recv hK hP (ci := 2) (q0 := 0) rfl rfl) hP hK hS (fun _ h9 => h9) rfl hl.1 rfl (Nat.le_of_ble_eq_true rfl) dX_exit_38 ⟨Nat.zero_le _, Nat.zero_le _⟩ (fun s4 H locs hq hP hS => ?_)
        obtain ⟨h4, hw⟩ := hq
        rw [kk_v_eq h4] at hf
        refine lv_aload_n hx hb dX_exit_41 rfl (lv_at hl 1 rfl) ?_
        refine lv_iconst (v := 0) hx hb dX_exit_42 (by decide) ?_
        refine va_put (D := (dC, dI)) (ci := 1) (v := .int 0) (ty := .int) (C := R_T) (T := T_T) (N := 14) hx hb hts uw_T ty_T ty_T_ok nm_T hown hK hP (kx_D hj) hS (11 + t1) (kx_wT ht1) rfl 1 (by decide) (hts _ (List.mem_cons_of_mem _ wd_33)) (fun _ h9 => h9) rfl (by decide +kernel) rfl rfl (Nat.le_of_ble_eq_true rfl) dX_exit_43 (fun H locs hP _ hS => ?_)
        replace hP := kx_u_state ht1 hP
        replace hw := kx_wf_I (f := 10) (i := t1) (v := 0) hw (by decide)
        refine lv_goto (tgt := 59) hx hb dX_exit_46 (by decide) ?_
        refine lv_iconst (v := 0) hx hb dX_exit_59 (by decide) ?_
        exact kk_iret hx hb hr hlocks hP hK hS ⟨hf.symm, hw⟩ dX_exit_60
    · rw [if_neg c_14] at hf
      refine lv_iconst (v := (-1)) hx hb dX_exit_17 (by decide) ?_
      exact kk_iret hx hb hr hlocks hP hK hS ⟨hf.symm, hw⟩ dX_exit_18
set_option maxHeartbeats 4000000 in
set_option maxRecDepth 100000 in
theorem xc_running (l : Launch) (dC : Nat → ClassId) (dI : Nat → Nat → Nat) (ad : Nat → Nat) (cs : Nat → ClassId) (hj : kx_inj ad) (σ : kx_S) (hw : kx_wf σ)  : Met l y_X_running ws_X_running ({ frames := 5, cells := 0, slots := 0, locals := 119 }) (kk_Pc (dC, dI) vwCl (kx_t cs) (kx_w ad cs σ) [.ref (ad 0)]) (va_Qi (kx_pi (xf_running σ)) (kk_B (dC, dI) vwCl (kx_t cs) (kx_w ad cs)) (kx_A ad)) 0 0 (kx_A ad) := by
  refine Met.ofW (cc := b_X_running) (maxL := 2) (ret := (some .int)) (by decide) rfl ?_
  intro p e s m args below meth c s₁ B hml hv
  obtain ⟨rfl, hP, hK⟩ := hv
  have hx := B.exec
  have hb := B.bytes
  have hr := B.returns
  have hts := atoms_spec (ws := ws_X_running) B.pre
  have hown : s.vm.findClass R_X = some m.cls := findClass_of_methodNamed B.named
  have hlocks := B.notSynchronized
  have hS : va_S (kx_A ad) s.heap s.heap [] := va_S.rf
  generalize hf : xf_running σ = out
  have hl := lv_entry ([.ref (ad 0)]) (n := 2) (Nat.le_of_ble_eq_true rfl)
  rw [lg_entry_eq]
  generalize (lg_sl ([.ref (ad 0)]) ++ List.replicate (2 - (lg_sl ([.ref (ad 0)])).length) Slot.unset).toArray = ls at hl ⊢
  have hl : lv_has ls 2 [(0, .ref (ad 0))] := hl
  rw [xf_running] at hf
  refine lv_aload_n hx hb dX_running_0 rfl (lv_at hl 0 rfl) ?_
  refine kk_co (w := kx_w ad cs) (As := []) (rest := []) ⟨hx, hb, hml, hown, hts⟩ (xc_runner l dC dI ad cs hj σ hw  ) (cwV 0 hts gv_X_87 rfl rfl rfl (by decide +kernel) ⟨Nat.le_of_ble_eq_true rfl, Nat.le_of_ble_eq_true rfl⟩) (va_recv hK hP (ci := 2) (q0 := 0) rfl rfl) hP hK hS (fun _ h9 => h9) rfl hl.1 rfl (Nat.le_of_ble_eq_true rfl) dX_running_1 ⟨Nat.zero_le _, Nat.zero_le _⟩ (fun s1 H locs hq hP hS => ?_) (fun t1 s1 H locs hq hP hS => ?_)
  · obtain ⟨h1, hw, -⟩ := hq
    rw [kk_b_eq h1, kk_o_none] at hf
    refine lv_astore_nN (lv' := [(1, .null), (0, .ref (ad 0))]) hx hb dX_running_4 rfl hl (by decide) rfl (fun ls hl => ?_)
    refine lv_aload_nN hx hb dX_running_5 rfl (lv_at hl 0 rfl) ?_
    refine lv_ifnonnullN hx hb dX_running_6 ?_
    refine lv_iconst (v := (-1)) hx hb dX_running_9 (by decide) ?_
    refine lv_goto (tgt := 17) hx hb dX_running_10 (by decide) ?_
    exact kk_iret hx hb hr hlocks hP hK hS ⟨hf.symm, hw⟩ dX_running_17
  · obtain ⟨h1, hw, h9⟩ := hq
    have ht1 : t1 < 8 := h9 t1 rfl
    rw [kk_b_eq h1, kk_o_some] at hf
    refine lv_astore_n (lv' := [(1, .ref (kx_ta ad t1)), (0, .ref (ad 0))]) hx hb dX_running_4 rfl hl (by decide) rfl (fun ls hl => ?_)
    refine lv_aload_n hx hb dX_running_5 rfl (lv_at hl 0 rfl) ?_
    refine lv_ifnonnull (tgt := 13) hx hb dX_running_6 (by decide) ?_
    refine lv_aload_n hx hb dX_running_13 rfl (lv_at hl 0 rfl) ?_
    refine va_get (D := (dC, dI)) (ci := 1) (v := .int (nI t1)) (C := R_T) (T := T_T) (N := 14) hx hb hts uw_T hown hK hP (11 + t1) (kx_wT ht1) rfl 0 (by decide) (hts _ (List.mem_cons_of_mem _ wd_31)) (fun _ h9 => h9) rfl dX_running_14 ?_
    exact kk_iret hx hb hr hlocks hP hK hS ⟨hf.symm, hw⟩ dX_running_17
set_option maxHeartbeats 4000000 in
set_option maxRecDepth 100000 in
theorem xc_tick (l : Launch) (dC : Nat → ClassId) (dI : Nat → Nat → Nat) (ad : Nat → Nat) (cs : Nat → ClassId) (hj : kx_inj ad) (σ : kx_S) (hw : kx_wf σ) (n1 : Int32) : Met l y_X_tick ws_X_tick ({ frames := 6, cells := 0, slots := 0, locals := 144 }) (kk_Pc (dC, dI) vwCl (kx_t cs) (kx_w ad cs σ) [.ref (ad 0), .int n1]) (va_Qi (kx_pi (xf_tick σ n1)) (kk_B (dC, dI) vwCl (kx_t cs) (kx_w ad cs)) (kx_A ad)) 0 0 (kx_A ad) := by
  refine Met.ofW (cc := b_X_tick) (maxL := 3) (ret := (some .int)) (by decide) rfl ?_
  intro p e s m args below meth c s₁ B hml hv
  obtain ⟨rfl, hP, hK⟩ := hv
  have hx := B.exec
  have hb := B.bytes
  have hr := B.returns
  have hts := atoms_spec (ws := ws_X_tick) B.pre
  have hown : s.vm.findClass R_X = some m.cls := findClass_of_methodNamed B.named
  have hlocks := B.notSynchronized
  have hS : va_S (kx_A ad) s.heap s.heap [] := va_S.rf
  generalize hf : xf_tick σ n1 = out
  have hl := lv_entry ([.ref (ad 0), .int n1]) (n := 3) (Nat.le_of_ble_eq_true rfl)
  rw [lg_entry_eq]
  generalize (lg_sl ([.ref (ad 0), .int n1]) ++ List.replicate (3 - (lg_sl ([.ref (ad 0), .int n1])).length) Slot.unset).toArray = ls at hl ⊢
  have hl : lv_has ls 3 [(0, .ref (ad 0)), (1, .int n1)] := hl
  rw [xf_tick] at hf
  have loop15 : ∀ (n k : Nat) (σ : kx_S) (H : Heap) (locs : List Loc) (ls : Array Slot), n + k = n1.toNatClampNeg → kx_wf σ → (¬ n1 < 1) → xf_tick_L15 n1 n k  σ = out → va_P (dC, dI) vwCl (kx_w ad cs σ) H → va_S (kx_A ad) s.heap H locs → lv_has ls 3 [(2, .int (nI k)), (0, .ref (ad 0)), (1, .int n1)] → W p l e (headSpec ws_X_tick ({ frames := 6, cells := 0, slots := 0, locals := 144 })).room s m ([.ref (ad 0), .int n1] : List Value).toArray below meth c H locs 0 0 (MQ below (va_Qi (kx_pi out) (kk_B (dC, dI) vwCl (kx_t cs) (kx_w ad cs)) (kx_A ad)) ([.ref (ad 0), .int n1] : List Value).toArray s 0 0 (kx_A ad)) (F0 m 15 ls []) := by
    clear hf hl hP hS hw
    intro n
    induction n with
    | zero =>
      intro k σ H locs ls hnk hw hn hf hP hS hl
      have hk : k = n1.toNatClampNeg := by omega
      rw [xf_tick_L15] at hf
      have hl : lv_has ls 3 [(2, .int (nI k)), (0, .ref (ad 0)), (1, .int n1)] := hl
      refine lv_iload_n hx hb dX_tick_15 rfl (lv_at hl 0 rfl) ?_
      refine lv_iload_n hx hb dX_tick_16 rfl (lv_at hl 2 rfl) ?_
      refine lv_icmp_ge (tgt := 30) hx hb dX_tick_17 (by decide) (fun _ => ?_) (fun c9 => absurd (kk_tx hn hk) c9)
      refine lv_aload_n hx hb dX_tick_30 rfl (lv_at hl 1 rfl) ?_
      refine kk_ci (w := kx_w ad cs) (As := []) (rest := []) ⟨hx, hb, hml, hown, hts⟩ (xc_running l dC dI ad cs hj σ hw  ) (cwV 0 hts gv_X_157 rfl rfl rfl (by decide +kernel) ⟨Nat.le_of_ble_eq_true rfl, Nat.le_of_ble_eq_true rfl⟩) (va_recv hK hP (ci := 2) (q0 := 0) rfl rfl) hP hK hS (fun _ h9 => h9) rfl hl.1 rfl (Nat.le_of_ble_eq_true rfl) dX_tick_31 ⟨Nat.zero_le _, Nat.zero_le _⟩ (fun r1 s1 H locs hq hP hS => ?_)
      obtain ⟨h1, hw⟩ := hq
      rw [kk_b_eq h1] at hf
      exact kk_iret hx hb hr hlocks hP hK hS ⟨hf.symm, hw⟩ dX_tick_34
    | succ n ih =>
      intro k σ H locs ls hnk hw hn hf hP hS hl
      have hk : k < n1.toNatClampNeg := by omega
      rw [xf_tick_L15] at hf
      have hl : lv_has ls 3 [(2, .int (nI k)), (0, .ref (ad 0)), (1, .int n1)] := hl
      refine lv_iload_n hx hb dX_tick_15 rfl (lv_at hl 0 rfl) ?_
      refine lv_iload_n hx hb dX_tick_16 rfl (lv_at hl 2 rfl) ?_
      refine lv_icmp_ge (tgt := 30) hx hb dX_tick_17 (by decide) (fun c9 => absurd c9 (kk_ts hk)) (fun _ => ?_)
      refine lv_aload_n hx hb dX_tick_20 rfl (lv_at hl 1 rfl) ?_
      refine kk_cv (w := kx_w ad cs) (As := []) (rest := []) ⟨hx, hb, hml, hown, hts⟩ (xc_tickOnce l dC dI ad cs hj σ hw  ) (cwV 0 hts gv_X_154 rfl rfl rfl (by decide +kernel) ⟨Nat.le_of_ble_eq_true rfl, Nat.le_of_ble_eq_true rfl⟩) (va_recv hK hP (ci := 2) (q0 := 0) rfl rfl) hP hK hS (fun _ h9 => h9) rfl hl.1 rfl (Nat.le_of_ble_eq_true rfl) dX_tick_21 ⟨Nat.zero_le _, Nat.zero_le _⟩ (fun s2 H locs hq hP hS => ?_)
      obtain ⟨h2, hw⟩ := hq
      rw [kk_v_eq h2] at hf
      refine lv_iinc (v := nI (k + 1)) (lv' := [(2, .int (nI (k + 1))), (0, .ref (ad 0)), (1, .int n1)]) hx hb dX_tick_24 hl (k := 0) rfl (nI_1 _) (by decide) rfl (fun ls hl => ?_)
      refine lv_goto (tgt := 15) hx hb dX_tick_27 (by decide) ?_
      exact ih (k + 1)  _ _ _ ls (by omega) hw hn hf hP hS (lv_sub hl [0, 1, 2] rfl)
  refine lv_iload_n hx hb dX_tick_0 rfl (lv_at hl 1 rfl) ?_
  refine lv_iconst (v := 1) hx hb dX_tick_1 (by decide) ?_
  refine lv_icmp_lt (tgt := 11) hx hb dX_tick_2 (by decide) (fun c_2 => ?_) (fun c_2 => ?_)
  · rw [if_pos c_2] at hf
    refine lv_iconst (v := (-1)) hx hb dX_tick_11 (by decide) ?_
    exact kk_iret hx hb hr hlocks hP hK hS ⟨hf.symm, hw⟩ dX_tick_12
  · rw [if_neg c_2] at hf
    refine lv_iload_n hx hb dX_tick_5 rfl (lv_at hl 1 rfl) ?_
    refine lv_bipush (v := 100) hx hb dX_tick_6 (by decide) ?_
    refine lv_icmp_le (tgt := 13) hx hb dX_tick_8 (by decide) (fun c_8 => ?_) (fun c_8 => ?_)
    · rw [if_pos c_8] at hf
      refine lv_iconst (v := 0) hx hb dX_tick_13 (by decide) ?_
      refine lv_istore_n (lv' := [(2, .int 0), (0, .ref (ad 0)), (1, .int n1)]) hx hb dX_tick_14 rfl hl (by decide) rfl (fun ls hl => ?_)
      exact loop15 n1.toNatClampNeg 0  _ _ _ ls (Nat.add_zero _) hw c_2 hf hP hS (lv_sub hl [0, 1, 2] rfl)
    · rw [if_neg c_8] at hf
      refine lv_iconst (v := (-1)) hx hb dX_tick_11 (by decide) ?_
      exact kk_iret hx hb hr hlocks hP hK hS ⟨hf.symm, hw⟩ dX_tick_12
set_option maxHeartbeats 4000000 in
set_option maxRecDepth 100000 in
theorem xc_tell (l : Launch) (dC : Nat → ClassId) (dI : Nat → Nat → Nat) (ad : Nat → Nat) (cs : Nat → ClassId) (hj : kx_inj ad) (σ : kx_S) (hw : kx_wf σ) (th : Int32) (what : Int32) : Met l y_X_tell ws_X_tell ({ frames := 3, cells := 0, slots := 0, locals := 72 }) (kk_Pc (dC, dI) vwCl (kx_t cs) (kx_w ad cs σ) [.ref (ad 0), .int th, .int what]) (va_Ql (kx_pl (xf_tell σ th what)) (kk_B (dC, dI) vwCl (kx_t cs) (kx_w ad cs)) (kx_A ad)) 0 0 (kx_A ad) := by
  refine Met.ofW (cc := b_X_tell) (maxL := 4) (ret := (some .long)) (by decide) rfl ?_
  intro p e s m args below meth c s₁ B hml hv
  obtain ⟨rfl, hP, hK⟩ := hv
  have hx := B.exec
  have hb := B.bytes
  have hr := B.returns
  have hts := atoms_spec (ws := ws_X_tell) B.pre
  have hown : s.vm.findClass R_X = some m.cls := findClass_of_methodNamed B.named
  have hlocks := B.notSynchronized
  have hS : va_S (kx_A ad) s.heap s.heap [] := va_S.rf
  generalize hf : xf_tell σ th what = out
  have hl := lv_entry ([.ref (ad 0), .int th, .int what]) (n := 4) (Nat.le_of_ble_eq_true rfl)
  rw [lg_entry_eq]
  generalize (lg_sl ([.ref (ad 0), .int th, .int what]) ++ List.replicate (4 - (lg_sl ([.ref (ad 0), .int th, .int what])).length) Slot.unset).toArray = ls at hl ⊢
  have hl : lv_has ls 4 [(0, .ref (ad 0)), (1, .int th), (2, .int what)] := hl
  rw [xf_tell] at hf
  refine lv_iload_n hx hb dX_tell_0 rfl (lv_at hl 1 rfl) ?_
  refine lv_bipush (v := 8) hx hb dX_tell_1 (by decide) ?_
  refine kk_cs (r0 := xf_isBelow th 8) (w := kx_w ad cs) (As := [.int th, .int 8]) (rest := []) ⟨hx, hb, hml, hown, hts⟩ (xc_isBelow l th 8) (cwS 2 hts gs_X_77 rfl rfl rfl (by decide +kernel) ⟨Nat.le_of_ble_eq_true rfl, Nat.le_of_ble_eq_true rfl⟩) hP hS rfl hl.1 rfl (Nat.le_of_ble_eq_true rfl) dX_tell_3 ⟨Nat.zero_le _, Nat.zero_le _⟩ (fun H locs hP hS => ?_)
  refine lv_if_ne (tgt := 13) hx hb dX_tell_6 (by decide) (fun c_6 => ?_) (fun c_6 => ?_)
  · rw [if_neg c_6] at hf
    refine lv_aload_n hx hb dX_tell_13 rfl (lv_at hl 0 rfl) ?_
    refine va_get (D := (dC, dI)) (ci := 2) (v := .ref (ad 1)) (C := R_X) (T := T_X) (N := 8) hx hb hts uw_X hown hK hP 0 rfl rfl 2 (by decide) (hts _ (List.mem_cons_of_mem _ wd_106)) (fun _ h9 => h9) rfl dX_tell_14 ?_
    refine lv_iload_n hx hb dX_tell_17 rfl (lv_at hl 1 rfl) ?_
    have hi_18 : vp_in th 8 := (kx_in (by decide) c_6)
    have ht_18 : th.toNatClampNeg < 8 := kx_lt hi_18
    refine kx_ldT hx hb hK hP hi_18 dX_tell_18 ?_
    refine lv_astore_n (lv' := [(3, .ref (kx_ta ad th.toNatClampNeg)), (0, .ref (ad 0)), (1, .int th), (2, .int what)]) hx hb dX_tell_19 rfl hl (by decide) rfl (fun ls hl => ?_)
    refine lv_iload_n hx hb dX_tell_20 rfl (lv_at hl 3 rfl) ?_
    refine lv_if_ne (tgt := 30) hx hb dX_tell_21 (by decide) (fun c_21 => ?_) (fun c_21 => ?_)
    · rw [if_neg c_21] at hf
      refine lv_aload_n hx hb dX_tell_30 rfl (lv_at hl 0 rfl) ?_
      refine va_get (D := (dC, dI)) (ci := 1) (v := .int (kI σ 10 th.toNatClampNeg)) (C := R_T) (T := T_T) (N := 14) hx hb hts uw_T hown hK hP (11 + th.toNatClampNeg) (kx_wT ht_18) rfl 1 (by decide) (hts _ (List.mem_cons_of_mem _ wd_33)) (fun _ h9 => h9) rfl dX_tell_31 ?_
      refine lv_if_ne (tgt := 41) hx hb dX_tell_34 (by decide) (fun c_34 => ?_) (fun c_34 => ?_)
      · rw [if_neg c_34] at hf
        refine lv_iload_n hx hb dX_tell_41 rfl (lv_at hl 3 rfl) ?_
        rcases Classical.em (what = 1) with c_42_1 | c_42_1
        · rw [if_pos c_42_1] at hf
          refine lv_tableIn (tgt := 76) hx hb dX_tell_42 (by rw [c_42_1]; decide) (by rw [c_42_1]; decide) (by rw [c_42_1]; rfl) (by decide) ?_
          refine lv_aload_n hx hb dX_tell_76 rfl (lv_at hl 0 rfl) ?_
          refine va_get (D := (dC, dI)) (ci := 1) (v := .int (kI σ 11 th.toNatClampNeg)) (C := R_T) (T := T_T) (N := 14) hx hb hts uw_T hown hK hP (11 + th.toNatClampNeg) (kx_wT ht_18) rfl 2 (by decide) (hts _ (List.mem_cons_of_mem _ wd_35)) (fun _ h9 => h9) rfl dX_tell_77 ?_
          refine lv_i2l hx hb dX_tell_80 rfl ?_
          exact kk_lret hx hb hr hlocks hP hK hS ⟨hf.symm, hw⟩ dX_tell_81
        · rw [if_neg c_42_1] at hf
          rcases Classical.em (what = 2) with c_42_2 | c_42_2
          · rw [if_pos c_42_2] at hf
            refine lv_tableIn (tgt := 82) hx hb dX_tell_42 (by rw [c_42_2]; decide) (by rw [c_42_2]; decide) (by rw [c_42_2]; rfl) (by decide) ?_
            refine lv_aload_n hx hb dX_tell_82 rfl (lv_at hl 1 rfl) ?_
            refine kk_cv (w := kx_w ad cs) (As := []) (rest := []) ⟨hx, hb, hml, hown, hts⟩ (xc_work l dC dI ad cs hj σ hw  ) (cwV 0 hts gv_X_160 rfl rfl rfl (by decide +kernel) ⟨Nat.le_of_ble_eq_true rfl, Nat.le_of_ble_eq_true rfl⟩) (va_recv hK hP (ci := 2) (q0 := 0) rfl rfl) hP hK hS (fun _ h9 => h9) rfl hl.1 rfl (Nat.le_of_ble_eq_true rfl) dX_tell_83 ⟨Nat.zero_le _, Nat.zero_le _⟩ (fun s1 H locs hq hP hS => ?_)
            obtain ⟨h1, hw⟩ := hq
            rw [kk_v_eq h1] at hf
            refine lv_aload_n hx hb dX_tell_86 rfl (lv_at hl 0 rfl) ?_
            refine va_get (D := (dC, dI)) (ci := 1) (v := .int (kI s1 12 th.toNatClampNeg)) (C := R_T) (T := T_T) (N := 14) hx hb hts uw_T hown hK hP (11 + th.toNatClampNeg) (kx_wT ht_18) rfl 3 (by decide) (hts _ (List.mem_cons_of_mem _ wd_37)) (fun _ h9 => h9) rfl dX_tell_87 ?_
            refine lv_i2l hx hb dX_tell_90 rfl ?_
            exact kk_lret hx hb hr hlocks hP hK hS ⟨hf.symm, hw⟩ dX_tell_91
          · rw [if_neg c_42_2] at hf
            rcases Classical.em (what = 3) with c_42_3 | c_42_3
            · rw [if_pos c_42_3] at hf
              refine lv_tableIn (tgt := 92) hx hb dX_tell_42 (by rw [c_42_3]; decide) (by rw [c_42_3]; decide) (by rw [c_42_3]; rfl) (by decide) ?_
              refine lv_aload_n hx hb dX_tell_92 rfl (lv_at hl 0 rfl) ?_
              refine va_get (D := (dC, dI)) (ci := 1) (v := .int (kI σ 15 th.toNatClampNeg)) (C := R_T) (T := T_T) (N := 14) hx hb hts uw_T hown hK hP (11 + th.toNatClampNeg) (kx_wT ht_18) rfl 6 (by decide) (hts _ (List.mem_cons_of_mem _ wd_43)) (fun _ h9 => h9) rfl dX_tell_93 ?_
              refine lv_i2l hx hb dX_tell_96 rfl ?_
              exact kk_lret hx hb hr hlocks hP hK hS ⟨hf.symm, hw⟩ dX_tell_97
            · rw [if_neg c_42_3] at hf
              rcases Classical.em (what = 4) with c_42_4 | c_42_4
              · rw [if_pos c_42_4] at hf
                refine lv_tableIn (tgt := 98) hx hb dX_tell_42 (by rw [c_42_4]; decide) (by rw [c_42_4]; decide) (by rw [c_42_4]; rfl) (by decide) ?_
                refine lv_aload_n hx hb dX_tell_98 rfl (lv_at hl 0 rfl) ?_
                refine va_get (D := (dC, dI)) (ci := 1) (v := .int (kI σ 16 th.toNatClampNeg)) (C := R_T) (T := T_T) (N := 14) hx hb hts uw_T hown hK hP (11 + th.toNatClampNeg) (kx_wT ht_18) rfl 8 (by decide) (hts _ (List.mem_cons_of_mem _ wd_47)) (fun _ h9 => h9) rfl dX_tell_99 ?_
                refine lv_i2l hx hb dX_tell_102 rfl ?_
                exact kk_lret hx hb hr hlocks hP hK hS ⟨hf.symm, hw⟩ dX_tell_103
              · rw [if_neg c_42_4] at hf
                rcases Classical.em (what = 5) with c_42_5 | c_42_5
                · rw [if_pos c_42_5] at hf
                  refine lv_tableIn (tgt := 104) hx hb dX_tell_42 (by rw [c_42_5]; decide) (by rw [c_42_5]; decide) (by rw [c_42_5]; rfl) (by decide) ?_
                  refine lv_aload_n hx hb dX_tell_104 rfl (lv_at hl 0 rfl) ?_
                  refine va_get (D := (dC, dI)) (ci := 1) (v := .long (kJ σ 1 th.toNatClampNeg)) (C := R_T) (T := T_T) (N := 14) hx hb hts uw_T hown hK hP (11 + th.toNatClampNeg) (kx_wT ht_18) rfl 9 (by decide) (hts _ (List.mem_cons_of_mem _ wd_49)) (fun _ h9 => h9) rfl dX_tell_105 ?_
                  exact kk_lret hx hb hr hlocks hP hK hS ⟨hf.symm, hw⟩ dX_tell_108
                · rw [if_neg c_42_5] at hf
                  refine lv_tableOut (tgt := 109) hx hb dX_tell_42 (kk_tab (lo := 1) 5 (fun j hj => match j, hj with | 0, _ => kk_neI 1 (by decide) c_42_1 | 1, _ => kk_neI 2 (by decide) c_42_2 | 2, _ => kk_neI 3 (by decide) c_42_3 | 3, _ => kk_neI 4 (by decide) c_42_4 | 4, _ => kk_neI 5 (by decide) c_42_5 | k9 + 5, h9 => absurd h9 (by omega)) 5 (by decide)) (by decide) ?_
                  refine lv_ldc2 (v := 1000000000000) hx hb hown (hts _ (List.mem_cons_of_mem _ wd_144)) dX_tell_109 ?_
                  exact kk_lret hx hb hr hlocks hP hK hS ⟨hf.symm, hw⟩ dX_tell_112
      · rw [if_pos c_34] at hf
        refine lv_ldc2 (v := 1000000000000) hx hb hown (hts _ (List.mem_cons_of_mem _ wd_144)) dX_tell_37 ?_
        exact kk_lret hx hb hr hlocks hP hK hS ⟨hf.symm, hw⟩ dX_tell_40
    · rw [if_pos c_21] at hf
      refine lv_aload_n hx hb dX_tell_24 rfl (lv_at hl 0 rfl) ?_
      refine va_get (D := (dC, dI)) (ci := 1) (v := .int (kI σ 10 th.toNatClampNeg)) (C := R_T) (T := T_T) (N := 14) hx hb hts uw_T hown hK hP (11 + th.toNatClampNeg) (kx_wT ht_18) rfl 1 (by decide) (hts _ (List.mem_cons_of_mem _ wd_33)) (fun _ h9 => h9) rfl dX_tell_25 ?_
      refine lv_i2l hx hb dX_tell_28 rfl ?_
      exact kk_lret hx hb hr hlocks hP hK hS ⟨hf.symm, hw⟩ dX_tell_29
  · rw [if_pos c_6] at hf
    refine lv_ldc2 (v := 1000000000000) hx hb hown (hts _ (List.mem_cons_of_mem _ wd_144)) dX_tell_9 ?_
    exact kk_lret hx hb hr hlocks hP hK hS ⟨hf.symm, hw⟩ dX_tell_12
