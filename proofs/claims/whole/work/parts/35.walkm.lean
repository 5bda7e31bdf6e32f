set_option maxHeartbeats 4000000 in
set_option maxRecDepth 100000 in
theorem mc_sleep (l : Launch) (dC : Nat → ClassId) (dI : Nat → Nat → Nat) (ad : Nat → Nat) (cs : Nat → ClassId) (hj : km_inj ad) (μ : km_S) (hw : km_wf μ) (n1 : Int32) : Met l y_M_sleep ws_M_sleep ({ frames := 2, cells := 0, slots := 0, locals := 45 }) (kk_Pc (dC, dI) vwCl (km_t cs) (km_w ad cs μ) [.ref (ad 0), .int n1]) (va_Qi (km_pi (mf_sleep μ n1)) (kk_B (dC, dI) vwCl (km_t cs) (km_w ad cs)) (km_A ad)) 0 0 (km_A ad) := by
  refine Met.ofW (cc := b_M_sleep) (maxL := 3) (ret := (some .int)) (by decide) rfl ?_
  intro p e s m args below meth c s₁ B hml hv
  obtain ⟨rfl, hP, hK⟩ := hv
  have hx := B.exec
  have hb := B.bytes
  have hr := B.returns
  have hts := atoms_spec (ws := ws_M_sleep) B.pre
  have hown : s.vm.findClass R_M = some m.cls := findClass_of_methodNamed B.named
  have hlocks := B.notSynchronized
  have hS : va_S (km_A ad) s.heap s.heap [] := va_S.rf
  generalize hf : mf_sleep μ n1 = out
  have hl := lv_entry ([.ref (ad 0), .int n1]) (n := 3) (Nat.le_of_ble_eq_true rfl)
  rw [lg_entry_eq]
  generalize (lg_sl ([.ref (ad 0), .int n1]) ++ List.replicate (3 - (lg_sl ([.ref (ad 0), .int n1])).length) Slot.unset).toArray = ls at hl ⊢
  have hl : lv_has ls 3 [(0, .ref (ad 0)), (1, .int n1)] := hl
  rw [mf_sleep] at hf
  refine lv_aload_n hx hb dM_sleep_0 rfl (lv_at hl 0 rfl) ?_
  refine kk_ci (w := km_w ad cs) (As := []) (rest := []) ⟨hx, hb, hml, hown, hts⟩ (mc_running l dC dI ad cs hj μ hw  ) (cwV 0 hts gv_M_104 rfl rfl rfl (by decide +kernel) ⟨Nat.le_of_ble_eq_true rfl, Nat.le_of_ble_eq_true rfl⟩) (va_recv hK hP (ci := 3) (q0 := 0) rfl rfl) hP hK hS (fun _ h9 => h9) rfl hl.1 rfl (Nat.le_of_ble_eq_true rfl) dM_sleep_1 ⟨Nat.zero_le _, Nat.zero_le _⟩ (fun r1 s1 H locs hq hP hS => ?_)
  obtain ⟨h1, hw, hx1⟩ := hq
  rw [kk_b_eq h1] at hf
  refine lv_istore_n (lv' := [(2, .int r1), (0, .ref (ad 0)), (1, .int n1)]) hx hb dM_sleep_4 rfl hl (by decide) rfl (fun ls hl => ?_)
  refine lv_iload_n hx hb dM_sleep_5 rfl (lv_at hl 2 rfl) ?_
  refine lv_iconst (v := 1) hx hb dM_sleep_6 (by decide) ?_
  refine lv_icmp_lt (tgt := 21) hx hb dM_sleep_7 (by decide) (fun c_7 => ?_) (fun c_7 => ?_)
  · rw [if_pos c_7] at hf
    refine lv_iconst (v := (-1)) hx hb dM_sleep_21 (by decide) ?_
    exact kk_iret hx hb hr hlocks hP hK hS ⟨hf.symm, hw⟩ dM_sleep_22
  · rw [if_neg c_7] at hf
    refine lv_iload_n hx hb dM_sleep_10 rfl (lv_at hl 2 rfl) ?_
    refine lv_sipush (v := 1000) hx hb dM_sleep_11 (by decide) ?_
    refine lv_icmp_gt (tgt := 21) hx hb dM_sleep_14 (by decide) (fun c_14 => ?_) (fun c_14 => ?_)
    · rw [if_pos c_14] at hf
      refine lv_iconst (v := (-1)) hx hb dM_sleep_21 (by decide) ?_
      exact kk_iret hx hb hr hlocks hP hK hS ⟨hf.symm, hw⟩ dM_sleep_22
    · rw [if_neg c_14] at hf
      refine lv_iload_n hx hb dM_sleep_17 rfl (lv_at hl 0 rfl) ?_
      refine lv_if_ge (tgt := 23) hx hb dM_sleep_18 (by decide) (fun c_18 => ?_) (fun c_18 => ?_)
      · rw [if_pos c_18] at hf
        refine lv_aload_n hx hb dM_sleep_23 rfl (lv_at hl 1 rfl) ?_
        refine lv_iload_n hx hb dM_sleep_24 rfl (lv_at hl 0 rfl) ?_
        refine lv_bipush (v := 60) hx hb dM_sleep_25 (by decide) ?_
        refine lv_aload_n hx hb dM_sleep_27 rfl (lv_at hl 1 rfl) ?_
        refine va_get (D := (dC, dI)) (ci := 3) (v := .int (mI s1 2 0)) (C := R_M) (T := T_M) (N := 23) hx hb hts uw_M hown hK hP 0 rfl rfl 2 (by decide) (hts _ (List.mem_cons_of_mem _ wd_333)) (fun _ h9 => h9) rfl dM_sleep_28 ?_
        refine lv_iload_n hx hb dM_sleep_31 rfl (lv_at hl 2 rfl) ?_
        refine lv_iadd hx hb dM_sleep_32 ?_
        refine kk_cv (w := km_w ad cs) (As := [.int r1, .int 60, .int ((mI s1 2 0) + n1)]) (rest := []) ⟨hx, hb, hml, hown, hts⟩ (mc_block l dC dI ad cs hj s1 hw r1 60 ((mI s1 2 0) + n1) (hx1.resolve_left (kk_ge c_18))) (cwV 3 hts gv_M_96 rfl rfl rfl (by decide +kernel) ⟨Nat.le_of_ble_eq_true rfl, Nat.le_of_ble_eq_true rfl⟩) (va_recv hK hP (ci := 3) (q0 := 0) rfl rfl) hP hK hS (fun _ h9 => h9) rfl hl.1 rfl (Nat.le_of_ble_eq_true rfl) dM_sleep_33 ⟨Nat.zero_le _, Nat.zero_le _⟩ (fun s2 H locs hq hP hS => ?_)
        obtain ⟨h2, hw⟩ := hq
        rw [kk_v_eq h2] at hf
        refine lv_iconst (v := 1) hx hb dM_sleep_36 (by decide) ?_
        exact kk_iret hx hb hr hlocks hP hK hS ⟨hf.symm, hw⟩ dM_sleep_37
      · rw [if_neg c_18] at hf
        refine lv_iconst (v := (-1)) hx hb dM_sleep_21 (by decide) ?_
        exact kk_iret hx hb hr hlocks hP hK hS ⟨hf.symm, hw⟩ dM_sleep_22
set_option maxHeartbeats 4000000 in
set_option maxRecDepth 100000 in
theorem mc_join (l : Launch) (dC : Nat → ClassId) (dI : Nat → Nat → Nat) (ad : Nat → Nat) (cs : Nat → ClassId) (hj : km_inj ad) (μ : km_S) (hw : km_wf μ) (th : Int32) : Met l y_M_join ws_M_join ({ frames := 2, cells := 0, slots := 0, locals := 46 }) (kk_Pc (dC, dI) vwCl (km_t cs) (km_w ad cs μ) [.ref (ad 0), .int th]) (va_Qi (km_pi (mf_join μ th)) (kk_B (dC, dI) vwCl (km_t cs) (km_w ad cs)) (km_A ad)) 0 0 (km_A ad) := by
  refine Met.ofW (cc := b_M_join) (maxL := 3) (ret := (some .int)) (by decide) rfl ?_
  intro p e s m args below meth c s₁ B hml hv
  obtain ⟨rfl, hP, hK⟩ := hv
  have hx := B.exec
  have hb := B.bytes
  have hr := B.returns
  have hts := atoms_spec (ws := ws_M_join) B.pre
  have hown : s.vm.findClass R_M = some m.cls := findClass_of_methodNamed B.named
  have hlocks := B.notSynchronized
  have hS : va_S (km_A ad) s.heap s.heap [] := va_S.rf
  generalize hf : mf_join μ th = out
  have hl := lv_entry ([.ref (ad 0), .int th]) (n := 3) (Nat.le_of_ble_eq_true rfl)
  rw [lg_entry_eq]
  generalize (lg_sl ([.ref (ad 0), .int th]) ++ List.replicate (3 - (lg_sl ([.ref (ad 0), .int th])).length) Slot.unset).toArray = ls at hl ⊢
  have hl : lv_has ls 3 [(0, .ref (ad 0)), (1, .int th)] := hl
  rw [mf_join] at hf
  refine lv_aload_n hx hb dM_join_0 rfl (lv_at hl 0 rfl) ?_
  refine kk_ci (w := km_w ad cs) (As := []) (rest := []) ⟨hx, hb, hml, hown, hts⟩ (mc_running l dC dI ad cs hj μ hw  ) (cwV 0 hts gv_M_104 rfl rfl rfl (by decide +kernel) ⟨Nat.le_of_ble_eq_true rfl, Nat.le_of_ble_eq_true rfl⟩) (va_recv hK hP (ci := 3) (q0 := 0) rfl rfl) hP hK hS (fun _ h9 => h9) rfl hl.1 rfl (Nat.le_of_ble_eq_true rfl) dM_join_1 ⟨Nat.zero_le _, Nat.zero_le _⟩ (fun r1 s1 H locs hq hP hS => ?_)
  obtain ⟨h1, hw, hx1⟩ := hq
  rw [kk_b_eq h1] at hf
  refine lv_istore_n (lv' := [(2, .int r1), (0, .ref (ad 0)), (1, .int th)]) hx hb dM_join_4 rfl hl (by decide) rfl (fun ls hl => ?_)
  refine lv_aload_n hx hb dM_join_5 rfl (lv_at hl 1 rfl) ?_
  refine lv_iload_n hx hb dM_join_6 rfl (lv_at hl 2 rfl) ?_
  refine lv_bipush (v := 8) hx hb dM_join_7 (by decide) ?_
  refine kk_cp (r0 := mf_out th 8) (w := km_w ad cs) (As := [.int th, .int 8]) (rest := []) ⟨hx, hb, hml, hown, hts⟩ (mc_out l (ad 0) th 8) (cwV 2 hts gv_M_100 rfl rfl rfl (by decide +kernel) ⟨Nat.le_of_ble_eq_true rfl, Nat.le_of_ble_eq_true rfl⟩) (va_recv hK hP (ci := 3) (q0 := 0) rfl rfl) hP hS rfl hl.1 rfl (Nat.le_of_ble_eq_true rfl) dM_join_9 ⟨Nat.zero_le _, Nat.zero_le _⟩ (fun H locs hP hS => ?_)
  refine lv_if_ne (tgt := 19) hx hb dM_join_12 (by decide) (fun c_12 => ?_) (fun c_12 => ?_)
  · rw [if_neg c_12] at hf
    refine lv_iconst (v := (-1)) hx hb dM_join_19 (by decide) ?_
    exact kk_iret hx hb hr hlocks hP hK hS ⟨hf.symm, hw⟩ dM_join_20
  · rw [if_pos c_12] at hf
    refine lv_iload_n hx hb dM_join_15 rfl (lv_at hl 0 rfl) ?_
    refine lv_if_ge (tgt := 21) hx hb dM_join_16 (by decide) (fun c_16 => ?_) (fun c_16 => ?_)
    · rw [if_pos c_16] at hf
      refine lv_aload_n hx hb dM_join_21 rfl (lv_at hl 1 rfl) ?_
      refine va_get (D := (dC, dI)) (ci := 3) (v := .ref (ad 1)) (C := R_M) (T := T_M) (N := 23) hx hb hts uw_M hown hK hP 0 rfl rfl 4 (by decide) (hts _ (List.mem_cons_of_mem _ wd_335)) (fun _ h9 => h9) rfl dM_join_22 ?_
      refine lv_iload_n hx hb dM_join_25 rfl (lv_at hl 2 rfl) ?_
      refine va_iald hx hb hK hP 1 0 rfl rfl (km_in (by decide) c_12) dM_join_26 ?_
      refine lv_iconst (v := 3) hx hb dM_join_27 (by decide) ?_
      refine lv_icmp_ne (tgt := 52) hx hb dM_join_28 (by decide) (fun c_28 => ?_) (fun c_28 => ?_)
      · rw [if_neg c_28] at hf
        refine lv_aload_n hx hb dM_join_52 rfl (lv_at hl 1 rfl) ?_
        refine va_get (D := (dC, dI)) (ci := 3) (v := .ref (ad 1)) (C := R_M) (T := T_M) (N := 23) hx hb hts uw_M hown hK hP 0 rfl rfl 4 (by decide) (hts _ (List.mem_cons_of_mem _ wd_335)) (fun _ h9 => h9) rfl dM_join_53 ?_
        refine lv_iload_n hx hb dM_join_56 rfl (lv_at hl 2 rfl) ?_
        refine va_iald hx hb hK hP 1 0 rfl rfl (km_in (by decide) c_12) dM_join_57 ?_
        refine lv_if_eq (tgt := 77) hx hb dM_join_58 (by decide) (fun c_58 => ?_) (fun c_58 => ?_)
        · rw [if_pos c_58] at hf
          refine lv_iconst (v := (-1)) hx hb dM_join_77 (by decide) ?_
          exact kk_iret hx hb hr hlocks hP hK hS ⟨hf.symm, hw⟩ dM_join_78
        · rw [if_neg c_58] at hf
          refine lv_iload_n hx hb dM_join_61 rfl (lv_at hl 2 rfl) ?_
          refine lv_iload_n hx hb dM_join_62 rfl (lv_at hl 0 rfl) ?_
          refine lv_icmp_eq (tgt := 77) hx hb dM_join_63 (by decide) (fun c_63 => ?_) (fun c_63 => ?_)
          · rw [if_pos c_63] at hf
            refine lv_iconst (v := (-1)) hx hb dM_join_77 (by decide) ?_
            exact kk_iret hx hb hr hlocks hP hK hS ⟨hf.symm, hw⟩ dM_join_78
          · rw [if_neg c_63] at hf
            refine lv_aload_n hx hb dM_join_66 rfl (lv_at hl 1 rfl) ?_
            refine lv_bipush (v := 70) hx hb dM_join_67 (by decide) ?_
            refine lv_iload_n hx hb dM_join_69 rfl (lv_at hl 2 rfl) ?_
            refine lv_iadd hx hb dM_join_70 ?_
            refine kk_ci (w := km_w ad cs) (As := [.int (70 + th)]) (rest := []) ⟨hx, hb, hml, hown, hts⟩ (mc_firstWaiter l dC dI ad cs hj s1 hw (70 + th) ) (cwV 1 hts gv_M_88 rfl rfl rfl (by decide +kernel) ⟨Nat.le_of_ble_eq_true rfl, Nat.le_of_ble_eq_true rfl⟩) (va_recv hK hP (ci := 3) (q0 := 0) rfl rfl) hP hK hS (fun _ h9 => h9) rfl hl.1 rfl (Nat.le_of_ble_eq_true rfl) dM_join_71 ⟨Nat.zero_le _, Nat.zero_le _⟩ (fun r2 s2 H locs hq hP hS => ?_)
            obtain ⟨h2, hw, hx2⟩ := hq
            rw [kk_b_eq h2] at hf
            refine lv_if_lt (tgt := 79) hx hb dM_join_74 (by decide) (fun c_74 => ?_) (fun c_74 => ?_)
            · rw [if_pos c_74] at hf
              refine lv_aload_n hx hb dM_join_79 rfl (lv_at hl 1 rfl) ?_
              refine lv_iload_n hx hb dM_join_80 rfl (lv_at hl 0 rfl) ?_
              refine lv_bipush (v := 70) hx hb dM_join_81 (by decide) ?_
              refine lv_iload_n hx hb dM_join_83 rfl (lv_at hl 2 rfl) ?_
              refine lv_iadd hx hb dM_join_84 ?_
              refine lv_iconst (v := 0) hx hb dM_join_85 (by decide) ?_
              refine kk_cv (w := km_w ad cs) (As := [.int r1, .int (70 + th), .int 0]) (rest := []) ⟨hx, hb, hml, hown, hts⟩ (mc_block l dC dI ad cs hj s2 hw r1 (70 + th) 0 (hx1.resolve_left (kk_ge c_16))) (cwV 3 hts gv_M_96 rfl rfl rfl (by decide +kernel) ⟨Nat.le_of_ble_eq_true rfl, Nat.le_of_ble_eq_true rfl⟩) (va_recv hK hP (ci := 3) (q0 := 0) rfl rfl) hP hK hS (fun _ h9 => h9) rfl hl.1 rfl (Nat.le_of_ble_eq_true rfl) dM_join_86 ⟨Nat.zero_le _, Nat.zero_le _⟩ (fun s3 H locs hq hP hS => ?_)
              obtain ⟨h3, hw⟩ := hq
              rw [kk_v_eq h3] at hf
              refine lv_iconst (v := 1) hx hb dM_join_89 (by decide) ?_
              exact kk_iret hx hb hr hlocks hP hK hS ⟨hf.symm, hw⟩ dM_join_90
            · rw [if_neg c_74] at hf
              refine lv_iconst (v := (-1)) hx hb dM_join_77 (by decide) ?_
              exact kk_iret hx hb hr hlocks hP hK hS ⟨hf.symm, hw⟩ dM_join_78
      · rw [if_pos c_28] at hf
        refine lv_aload_n hx hb dM_join_31 rfl (lv_at hl 1 rfl) ?_
        refine va_get (D := (dC, dI)) (ci := 3) (v := .ref (ad 1)) (C := R_M) (T := T_M) (N := 23) hx hb hts uw_M hown hK hP 0 rfl rfl 4 (by decide) (hts _ (List.mem_cons_of_mem _ wd_335)) (fun _ h9 => h9) rfl dM_join_32 ?_
        refine lv_iload_n hx hb dM_join_35 rfl (lv_at hl 2 rfl) ?_
        refine lv_iconst (v := 0) hx hb dM_join_36 (by decide) ?_
        refine va_iast hx hb hK hP (km_D hj) hS 1 0 rfl rfl (km_in (by decide) c_12) dM_join_37 (fun H locs hP _ hS => ?_)
        replace hP := km_u_state hP
        replace hw := km_wf_I (f := 4) (i := th.toNatClampNeg) (v := 0) hw (by decide)
        refine lv_aload_n hx hb dM_join_38 rfl (lv_at hl 1 rfl) ?_
        refine va_get (D := (dC, dI)) (ci := 3) (v := .ref (ad 8)) (C := R_M) (T := T_M) (N := 23) hx hb hts uw_M hown hK hP 0 rfl rfl 11 (by decide) (hts _ (List.mem_cons_of_mem _ wd_342)) (fun _ h9 => h9) rfl dM_join_39 ?_
        refine lv_iload_n hx hb dM_join_42 rfl (lv_at hl 0 rfl) ?_
        refine lv_aload_n hx hb dM_join_43 rfl (lv_at hl 1 rfl) ?_
        refine va_get (D := (dC, dI)) (ci := 3) (v := .ref (ad 8)) (C := R_M) (T := T_M) (N := 23) hx hb hts uw_M hown hK hP 0 rfl rfl 11 (by decide) (hts _ (List.mem_cons_of_mem _ wd_342)) (fun _ h9 => h9) rfl dM_join_44 ?_
        refine lv_iload_n hx hb dM_join_47 rfl (lv_at hl 2 rfl) ?_
        refine va_iald hx hb hK hP 8 7 rfl rfl (km_in (by decide) c_12) dM_join_48 ?_
        refine va_iast hx hb hK hP (km_D hj) hS 8 7 rfl rfl (hx1.resolve_left (kk_ge c_16)) dM_join_49 (fun H locs hP _ hS => ?_)
        replace hP := km_u_result hP
        replace hw := km_wf_I (f := 11) (i := r1.toNatClampNeg) (v := mI (sM s1 4 th.toNatClampNeg 0) 11 th.toNatClampNeg) hw (by decide)
        refine lv_iconst (v := 0) hx hb dM_join_50 (by decide) ?_
        exact kk_iret hx hb hr hlocks hP hK hS ⟨hf.symm, hw⟩ dM_join_51
    · rw [if_neg c_16] at hf
      refine lv_iconst (v := (-1)) hx hb dM_join_19 (by decide) ?_
      exact kk_iret hx hb hr hlocks hP hK hS ⟨hf.symm, hw⟩ dM_join_20
set_option maxHeartbeats 4000000 in
set_option maxRecDepth 100000 in
theorem mc_exit (l : Launch) (dC : Nat → ClassId) (dI : Nat → Nat → Nat) (ad : Nat → Nat) (cs : Nat → ClassId) (hj : km_inj ad) (μ : km_S) (hw : km_wf μ) (value : Int32) : Met l y_M_exit ws_M_exit ({ frames := 2, cells := 0, slots := 0, locals := 46 }) (kk_Pc (dC, dI) vwCl (km_t cs) (km_w ad cs μ) [.ref (ad 0), .int value]) (va_Qi (km_pi (mf_exit μ value)) (kk_B (dC, dI) vwCl (km_t cs) (km_w ad cs)) (km_A ad)) 0 0 (km_A ad) := by
  refine Met.ofW (cc := b_M_exit) (maxL := 4) (ret := (some .int)) (by decide) rfl ?_
  intro p e s m args below meth c s₁ B hml hv
  obtain ⟨rfl, hP, hK⟩ := hv
  have hx := B.exec
  have hb := B.bytes
  have hr := B.returns
  have hts := atoms_spec (ws := ws_M_exit) B.pre
  have hown : s.vm.findClass R_M = some m.cls := findClass_of_methodNamed B.named
  have hlocks := B.notSynchronized
  have hS : va_S (km_A ad) s.heap s.heap [] := va_S.rf
  generalize hf : mf_exit μ value = out
  have hl := lv_entry ([.ref (ad 0), .int value]) (n := 4) (Nat.le_of_ble_eq_true rfl)
  rw [lg_entry_eq]
  generalize (lg_sl ([.ref (ad 0), .int value]) ++ List.replicate (4 - (lg_sl ([.ref (ad 0), .int value])).length) Slot.unset).toArray = ls at hl ⊢
  have hl : lv_has ls 4 [(0, .ref (ad 0)), (1, .int value)] := hl
  rw [mf_exit] at hf
  have loop13 : ∀ (n k : Nat) (μ : km_S) (H : Heap) (locs : List Loc) (ls : Array Slot) (r : Int32), n + k = 4 → km_wf μ → (vp_in r 8) → mf_exit_L13 value r n k  μ = out → va_P (dC, dI) vwCl (km_w ad cs μ) H → va_S (km_A ad) s.heap H locs → lv_has ls 4 [(3, .int (nI k)), (0, .ref (ad 0)), (1, .int value), (2, .int r)] → W p l e (headSpec ws_M_exit ({ frames := 2, cells := 0, slots := 0, locals := 46 })).room s m ([.ref (ad 0), .int value] : List Value).toArray below meth c H locs 0 0 (MQ below (va_Qi (km_pi out) (kk_B (dC, dI) vwCl (km_t cs) (km_w ad cs)) (km_A ad)) ([.ref (ad 0), .int value] : List Value).toArray s 0 0 (km_A ad)) (F0 m 13 ls []) := by
    clear hf hl hP hS hw
    intro n
    induction n with
    | zero =>
      intro k μ H locs ls r hnk hw hr8 hf hP hS hl
      have hk : k = 4 := by omega
      rw [mf_exit_L13] at hf
      have hl : lv_has ls 4 [(3, .int (nI k)), (0, .ref (ad 0)), (1, .int value), (2, .int r)] := hl
      refine lv_iload_n hx hb dM_exit_13 rfl (lv_at hl 0 rfl) ?_
      refine lv_iconst (v := 4) hx hb dM_exit_14 (by decide) ?_
      refine lv_icmp_ge (tgt := 36) hx hb dM_exit_15 (by decide) (fun _ => ?_) (fun c9 => absurd (by rw [hk]; decide) c9)
      refine lv_aload_n hx hb dM_exit_36 rfl (lv_at hl 1 rfl) ?_
      refine va_get (D := (dC, dI)) (ci := 3) (v := .ref (ad 8)) (C := R_M) (T := T_M) (N := 23) hx hb hts uw_M hown hK hP 0 rfl rfl 11 (by decide) (hts _ (List.mem_cons_of_mem _ wd_342)) (fun _ h9 => h9) rfl dM_exit_37 ?_
      refine lv_iload_n hx hb dM_exit_40 rfl (lv_at hl 3 rfl) ?_
      refine lv_iload_n hx hb dM_exit_41 rfl (lv_at hl 2 rfl) ?_
      refine va_iast hx hb hK hP (km_D hj) hS 8 7 rfl rfl hr8 dM_exit_42 (fun H locs hP _ hS => ?_)
      replace hP := km_u_result hP
      replace hw := km_wf_I (f := 11) (i := r.toNatClampNeg) (v := value) hw (by decide)
      refine lv_aload_n hx hb dM_exit_43 rfl (lv_at hl 1 rfl) ?_
      refine va_get (D := (dC, dI)) (ci := 3) (v := .ref (ad 1)) (C := R_M) (T := T_M) (N := 23) hx hb hts uw_M hown hK hP 0 rfl rfl 4 (by decide) (hts _ (List.mem_cons_of_mem _ wd_335)) (fun _ h9 => h9) rfl dM_exit_44 ?_
      refine lv_iload_n hx hb dM_exit_47 rfl (lv_at hl 3 rfl) ?_
      refine lv_iconst (v := 3) hx hb dM_exit_48 (by decide) ?_
      refine va_iast hx hb hK hP (km_D hj) hS 1 0 rfl rfl hr8 dM_exit_49 (fun H locs hP _ hS => ?_)
      replace hP := km_u_state hP
      replace hw := km_wf_I (f := 4) (i := r.toNatClampNeg) (v := 3) hw (by decide)
      refine lv_aload_n hx hb dM_exit_50 rfl (lv_at hl 1 rfl) ?_
      refine lv_bipush (v := 70) hx hb dM_exit_51 (by decide) ?_
      refine lv_iload_n hx hb dM_exit_53 rfl (lv_at hl 3 rfl) ?_
      refine lv_iadd hx hb dM_exit_54 ?_
      refine kk_ci (w := km_w ad cs) (As := [.int (70 + r)]) (rest := []) ⟨hx, hb, hml, hown, hts⟩ (mc_firstWaiter l dC dI ad cs hj (sM (sM μ 11 r.toNatClampNeg value) 4 r.toNatClampNeg 3) hw (70 + r) ) (cwV 1 hts gv_M_88 rfl rfl rfl (by decide +kernel) ⟨Nat.le_of_ble_eq_true rfl, Nat.le_of_ble_eq_true rfl⟩) (va_recv hK hP (ci := 3) (q0 := 0) rfl rfl) hP hK hS (fun _ h9 => h9) rfl hl.1 rfl (Nat.le_of_ble_eq_true rfl) dM_exit_55 ⟨Nat.zero_le _, Nat.zero_le _⟩ (fun r1 s1 H locs hq hP hS => ?_)
      obtain ⟨h1, hw, hx1⟩ := hq
      rw [kk_b_eq h1] at hf
      refine lv_istore_n (lv' := [(3, .int r1), (0, .ref (ad 0)), (1, .int value), (2, .int r)]) hx hb dM_exit_58 rfl hl (by decide) rfl (fun ls hl => ?_)
      refine lv_iload_n hx hb dM_exit_59 rfl (lv_at hl 0 rfl) ?_
      refine lv_if_lt (tgt := 82) hx hb dM_exit_60 (by decide) (fun c_60 => ?_) (fun c_60 => ?_)
      · rw [if_pos c_60] at hf
        refine lv_iconst (v := 0) hx hb dM_exit_82 (by decide) ?_
        exact kk_iret hx hb hr hlocks hP hK hS ⟨hf.symm, hw⟩ dM_exit_83
      · rw [if_neg c_60] at hf
        refine lv_aload_n hx hb dM_exit_63 rfl (lv_at hl 1 rfl) ?_
        refine va_get (D := (dC, dI)) (ci := 3) (v := .ref (ad 1)) (C := R_M) (T := T_M) (N := 23) hx hb hts uw_M hown hK hP 0 rfl rfl 4 (by decide) (hts _ (List.mem_cons_of_mem _ wd_335)) (fun _ h9 => h9) rfl dM_exit_64 ?_
        refine lv_iload_n hx hb dM_exit_67 rfl (lv_at hl 3 rfl) ?_
        refine lv_iconst (v := 0) hx hb dM_exit_68 (by decide) ?_
        refine va_iast hx hb hK hP (km_D hj) hS 1 0 rfl rfl hr8 dM_exit_69 (fun H locs hP _ hS => ?_)
        replace hP := km_u_state hP
        replace hw := km_wf_I (f := 4) (i := r.toNatClampNeg) (v := 0) hw (by decide)
        refine lv_aload_n hx hb dM_exit_70 rfl (lv_at hl 1 rfl) ?_
        refine va_get (D := (dC, dI)) (ci := 3) (v := .ref (ad 8)) (C := R_M) (T := T_M) (N := 23) hx hb hts uw_M hown hK hP 0 rfl rfl 11 (by decide) (hts _ (List.mem_cons_of_mem _ wd_342)) (fun _ h9 => h9) rfl dM_exit_71 ?_
        refine lv_iload_n hx hb dM_exit_74 rfl (lv_at hl 0 rfl) ?_
        refine lv_iload_n hx hb dM_exit_75 rfl (lv_at hl 2 rfl) ?_
        refine va_iast hx hb hK hP (km_D hj) hS 8 7 rfl rfl (hx1.resolve_left c_60) dM_exit_76 (fun H locs hP _ hS => ?_)
        replace hP := km_u_result hP
        replace hw := km_wf_I (f := 11) (i := r1.toNatClampNeg) (v := value) hw (by decide)
        refine lv_aload_n hx hb dM_exit_77 rfl (lv_at hl 1 rfl) ?_
        refine lv_iload_n hx hb dM_exit_78 rfl (lv_at hl 0 rfl) ?_
        refine kk_cv (w := km_w ad cs) (As := [.int r1]) (rest := []) ⟨hx, hb, hml, hown, hts⟩ (mc_ready l dC dI ad cs hj (sM (sM s1 4 r.toNatClampNeg 0) 11 r1.toNatClampNeg value) hw r1 (hx1.resolve_left c_60)) (cwV 1 hts gv_M_92 rfl rfl rfl (by decide +kernel) ⟨Nat.le_of_ble_eq_true rfl, Nat.le_of_ble_eq_true rfl⟩) (va_recv hK hP (ci := 3) (q0 := 0) rfl rfl) hP hK hS (fun _ h9 => h9) rfl hl.1 rfl (Nat.le_of_ble_eq_true rfl) dM_exit_79 ⟨Nat.zero_le _, Nat.zero_le _⟩ (fun s2 H locs hq hP hS => ?_)
        obtain ⟨h2, hw⟩ := hq
        rw [kk_v_eq h2] at hf
        refine lv_iconst (v := 0) hx hb dM_exit_82 (by decide) ?_
        exact kk_iret hx hb hr hlocks hP hK hS ⟨hf.symm, hw⟩ dM_exit_83
    | succ n ih =>
      intro k μ H locs ls r hnk hw hr8 hf hP hS hl
      have hk : k < 4 := by omega
      rw [mf_exit_L13] at hf
      have hl : lv_has ls 4 [(3, .int (nI k)), (0, .ref (ad 0)), (1, .int value), (2, .int r)] := hl
      refine lv_iload_n hx hb dM_exit_13 rfl (lv_at hl 0 rfl) ?_
      refine lv_iconst (v := 4) hx hb dM_exit_14 (by decide) ?_
      refine lv_icmp_ge (tgt := 36) hx hb dM_exit_15 (by decide) (fun c9 => absurd c9 (kk_stay hk (by decide))) (fun _ => ?_)
      refine lv_aload_n hx hb dM_exit_18 rfl (lv_at hl 1 rfl) ?_
      refine va_get (D := (dC, dI)) (ci := 3) (v := .ref (ad 14)) (C := R_M) (T := T_M) (N := 23) hx hb hts uw_M hown hK hP 0 rfl rfl 17 (by decide) (hts _ (List.mem_cons_of_mem _ wd_348)) (fun _ h9 => h9) rfl dM_exit_19 ?_
      refine lv_iload_n hx hb dM_exit_22 rfl (lv_at hl 0 rfl) ?_
      refine va_iald hx hb hK hP 14 13 rfl rfl (vp_in_nI (by omega) (by decide)) dM_exit_23 ?_
      rw [nI_clamp (n := k) (by omega)]
      refine lv_iload_n hx hb dM_exit_24 rfl (lv_at hl 3 rfl) ?_
      refine lv_icmp_ne (tgt := 30) hx hb dM_exit_25 (by decide) (fun c_25 => ?_) (fun c_25 => ?_)
      · rw [if_neg c_25] at hf
        refine lv_iinc (v := nI (k + 1)) (lv' := [(3, .int (nI (k + 1))), (0, .ref (ad 0)), (1, .int value), (2, .int r)]) hx hb dM_exit_30 hl (k := 0) rfl (nI_1 _) (by decide) rfl (fun ls hl => ?_)
        refine lv_goto (tgt := 13) hx hb dM_exit_33 (by decide) ?_
        exact ih (k + 1)  _ _ _ ls r (by omega) hw hr8 hf hP hS (lv_sub hl [0, 1, 2, 3] rfl)
      · rw [if_pos c_25] at hf
        refine lv_iconst (v := (-1)) hx hb dM_exit_28 (by decide) ?_
        exact kk_iret hx hb hr hlocks hP hK hS ⟨hf.symm, hw⟩ dM_exit_29
  refine lv_aload_n hx hb dM_exit_0 rfl (lv_at hl 0 rfl) ?_
  refine kk_ci (w := km_w ad cs) (As := []) (rest := []) ⟨hx, hb, hml, hown, hts⟩ (mc_running l dC dI ad cs hj μ hw  ) (cwV 0 hts gv_M_104 rfl rfl rfl (by decide +kernel) ⟨Nat.le_of_ble_eq_true rfl, Nat.le_of_ble_eq_true rfl⟩) (va_recv hK hP (ci := 3) (q0 := 0) rfl rfl) hP hK hS (fun _ h9 => h9) rfl hl.1 rfl (Nat.le_of_ble_eq_true rfl) dM_exit_1 ⟨Nat.zero_le _, Nat.zero_le _⟩ (fun r3 s3 H locs hq hP hS => ?_)
  obtain ⟨h3, hw, hx3⟩ := hq
  rw [kk_b_eq h3] at hf
  refine lv_istore_n (lv' := [(2, .int r3), (0, .ref (ad 0)), (1, .int value)]) hx hb dM_exit_4 rfl hl (by decide) rfl (fun ls hl => ?_)
  refine lv_iload_n hx hb dM_exit_5 rfl (lv_at hl 0 rfl) ?_
  refine lv_if_ge (tgt := 11) hx hb dM_exit_6 (by decide) (fun c_6 => ?_) (fun c_6 => ?_)
  · rw [if_pos c_6] at hf
    refine lv_iconst (v := 0) hx hb dM_exit_11 (by decide) ?_
    refine lv_istore_n (lv' := [(3, .int 0), (2, .int r3), (0, .ref (ad 0)), (1, .int value)]) hx hb dM_exit_12 rfl hl (by decide) rfl (fun ls hl => ?_)
    exact loop13 4 0  _ _ _ ls r3 (by omega) hw (hx3.resolve_left (kk_ge c_6)) hf hP hS (lv_sub hl [0, 2, 3, 1] rfl)
  · rw [if_neg c_6] at hf
    refine lv_iconst (v := (-1)) hx hb dM_exit_9 (by decide) ?_
    exact kk_iret hx hb hr hlocks hP hK hS ⟨hf.symm, hw⟩ dM_exit_10
set_option maxHeartbeats 4000000 in
set_option maxRecDepth 100000 in
theorem mc_deadlineComes (l : Launch) (dC : Nat → ClassId) (dI : Nat → Nat → Nat) (ad : Nat → Nat) (cs : Nat → ClassId) (hj : km_inj ad) (μ : km_S) (hw : km_wf μ) (t : Int32) (ht : vp_in t 8) : Met l y_M_deadlineComes ws_M_deadlineComes ({ frames := 3, cells := 0, slots := 0, locals := 66 }) (kk_Pc (dC, dI) vwCl (km_t cs) (km_w ad cs μ) [.ref (ad 0), .int t]) (va_Qv (km_pv (mf_deadlineComes μ t)) (kk_B (dC, dI) vwCl (km_t cs) (km_w ad cs)) (km_A ad)) 0 0 (km_A ad) := by
  refine Met.ofW (cc := b_M_deadlineComes) (maxL := 2) (ret := none) (by decide) rfl ?_
  intro p e s m args below meth c s₁ B hml hv
  obtain ⟨rfl, hP, hK⟩ := hv
  have hx := B.exec
  have hb := B.bytes
  have hr := B.returns
  have hts := atoms_spec (ws := ws_M_deadlineComes) B.pre
  have hown : s.vm.findClass R_M = some m.cls := findClass_of_methodNamed B.named
  have hlocks := B.notSynchronized
  have hS : va_S (km_A ad) s.heap s.heap [] := va_S.rf
  generalize hf : mf_deadlineComes μ t = out
  have hl := lv_entry ([.ref (ad 0), .int t]) (n := 2) (Nat.le_of_ble_eq_true rfl)
  rw [lg_entry_eq]
  generalize (lg_sl ([.ref (ad 0), .int t]) ++ List.replicate (2 - (lg_sl ([.ref (ad 0), .int t])).length) Slot.unset).toArray = ls at hl ⊢
  have hl : lv_has ls 2 [(0, .ref (ad 0)), (1, .int t)] := hl
  rw [mf_deadlineComes] at hf
  refine lv_aload_n hx hb dM_deadlineComes_0 rfl (lv_at hl 0 rfl) ?_
  refine va_get (D := (dC, dI)) (ci := 3) (v := .ref (ad 5)) (C := R_M) (T := T_M) (N := 23) hx hb hts uw_M hown hK hP 0 rfl rfl 8 (by decide) (hts _ (List.mem_cons_of_mem _ wd_339)) (fun _ h9 => h9) rfl dM_deadlineComes_1 ?_
  refine lv_iload_n hx hb dM_deadlineComes_4 rfl (lv_at hl 1 rfl) ?_
  refine va_iald hx hb hK hP 5 4 rfl rfl ht dM_deadlineComes_5 ?_
  refine lv_bipush (v := 20) hx hb dM_deadlineComes_6 (by decide) ?_
  refine lv_icmp_eq (tgt := 22) hx hb dM_deadlineComes_8 (by decide) (fun c_8 => ?_) (fun c_8 => ?_)
  · rw [if_pos c_8] at hf
    refine lv_aload_n hx hb dM_deadlineComes_22 rfl (lv_at hl 0 rfl) ?_
    refine lv_iload_n hx hb dM_deadlineComes_23 rfl (lv_at hl 1 rfl) ?_
    refine lv_iconst (v := 2) hx hb dM_deadlineComes_24 (by decide) ?_
    refine kk_cv (w := km_w ad cs) (As := [.int t, .int 2]) (rest := []) ⟨hx, hb, hml, hown, hts⟩ (mc_retake l dC dI ad cs hj μ hw t 2 ht) (cwV 2 hts gv_M_110 rfl rfl rfl (by decide +kernel) ⟨Nat.le_of_ble_eq_true rfl, Nat.le_of_ble_eq_true rfl⟩) (va_recv hK hP (ci := 3) (q0 := 0) rfl rfl) hP hK hS (fun _ h9 => h9) rfl hl.1 rfl (Nat.le_of_ble_eq_true rfl) dM_deadlineComes_25 ⟨Nat.zero_le _, Nat.zero_le _⟩ (fun s1 H locs hq hP hS => ?_)
    obtain ⟨h1, hw⟩ := hq
    rw [kk_v_eq h1] at hf
    refine lv_goto (tgt := 58) hx hb dM_deadlineComes_28 (by decide) ?_
    exact kk_vret hx hb hr hlocks hP hK hS ⟨hf.symm, hw⟩ dM_deadlineComes_58
  · rw [if_neg c_8] at hf
    refine lv_aload_n hx hb dM_deadlineComes_11 rfl (lv_at hl 0 rfl) ?_
    refine va_get (D := (dC, dI)) (ci := 3) (v := .ref (ad 5)) (C := R_M) (T := T_M) (N := 23) hx hb hts uw_M hown hK hP 0 rfl rfl 8 (by decide) (hts _ (List.mem_cons_of_mem _ wd_339)) (fun _ h9 => h9) rfl dM_deadlineComes_12 ?_
    refine lv_iload_n hx hb dM_deadlineComes_15 rfl (lv_at hl 1 rfl) ?_
    refine va_iald hx hb hK hP 5 4 rfl rfl ht dM_deadlineComes_16 ?_
    refine lv_bipush (v := 21) hx hb dM_deadlineComes_17 (by decide) ?_
    refine lv_icmp_ne (tgt := 31) hx hb dM_deadlineComes_19 (by decide) (fun c_19 => ?_) (fun c_19 => ?_)
    · rw [if_neg c_19] at hf
      refine lv_aload_n hx hb dM_deadlineComes_31 rfl (lv_at hl 0 rfl) ?_
      refine va_get (D := (dC, dI)) (ci := 3) (v := .ref (ad 8)) (C := R_M) (T := T_M) (N := 23) hx hb hts uw_M hown hK hP 0 rfl rfl 11 (by decide) (hts _ (List.mem_cons_of_mem _ wd_342)) (fun _ h9 => h9) rfl dM_deadlineComes_32 ?_
      refine lv_iload_n hx hb dM_deadlineComes_35 rfl (lv_at hl 1 rfl) ?_
      refine lv_aload_n hx hb dM_deadlineComes_36 rfl (lv_at hl 0 rfl) ?_
      refine va_get (D := (dC, dI)) (ci := 3) (v := .ref (ad 5)) (C := R_M) (T := T_M) (N := 23) hx hb hts uw_M hown hK hP 0 rfl rfl 8 (by decide) (hts _ (List.mem_cons_of_mem _ wd_339)) (fun _ h9 => h9) rfl dM_deadlineComes_37 ?_
      refine lv_iload_n hx hb dM_deadlineComes_40 rfl (lv_at hl 1 rfl) ?_
      refine va_iald hx hb hK hP 5 4 rfl rfl ht dM_deadlineComes_41 ?_
      refine lv_bipush (v := 60) hx hb dM_deadlineComes_42 (by decide) ?_
      refine lv_icmp_ne (tgt := 51) hx hb dM_deadlineComes_44 (by decide) (fun c_44 => ?_) (fun c_44 => ?_)
      · rw [if_neg c_44] at hf
        refine lv_iconst (v := 2) hx hb dM_deadlineComes_51 (by decide) ?_
        refine va_iast hx hb hK hP (km_D hj) hS 8 7 rfl rfl ht dM_deadlineComes_52 (fun H locs hP _ hS => ?_)
        replace hP := km_u_result hP
        replace hw := km_wf_I (f := 11) (i := t.toNatClampNeg) (v := 2) hw (by decide)
        refine lv_aload_n hx hb dM_deadlineComes_53 rfl (lv_at hl 0 rfl) ?_
        refine lv_iload_n hx hb dM_deadlineComes_54 rfl (lv_at hl 1 rfl) ?_
        refine kk_cv (w := km_w ad cs) (As := [.int t]) (rest := []) ⟨hx, hb, hml, hown, hts⟩ (mc_ready l dC dI ad cs hj (sM μ 11 t.toNatClampNeg 2) hw t ht) (cwV 1 hts gv_M_92 rfl rfl rfl (by decide +kernel) ⟨Nat.le_of_ble_eq_true rfl, Nat.le_of_ble_eq_true rfl⟩) (va_recv hK hP (ci := 3) (q0 := 0) rfl rfl) hP hK hS (fun _ h9 => h9) rfl hl.1 rfl (Nat.le_of_ble_eq_true rfl) dM_deadlineComes_55 ⟨Nat.zero_le _, Nat.zero_le _⟩ (fun s2 H locs hq hP hS => ?_)
        obtain ⟨h2, hw⟩ := hq
        rw [kk_v_eq h2] at hf
        exact kk_vret hx hb hr hlocks hP hK hS ⟨hf.symm, hw⟩ dM_deadlineComes_58
      · rw [if_pos c_44] at hf
        refine lv_iconst (v := 0) hx hb dM_deadlineComes_47 (by decide) ?_
        refine lv_goto (tgt := 52) hx hb dM_deadlineComes_48 (by decide) ?_
        refine va_iast hx hb hK hP (km_D hj) hS 8 7 rfl rfl ht dM_deadlineComes_52 (fun H locs hP _ hS => ?_)
        replace hP := km_u_result hP
        replace hw := km_wf_I (f := 11) (i := t.toNatClampNeg) (v := 0) hw (by decide)
        refine lv_aload_n hx hb dM_deadlineComes_53 rfl (lv_at hl 0 rfl) ?_
        refine lv_iload_n hx hb dM_deadlineComes_54 rfl (lv_at hl 1 rfl) ?_
        refine kk_cv (w := km_w ad cs) (As := [.int t]) (rest := []) ⟨hx, hb, hml, hown, hts⟩ (mc_ready l dC dI ad cs hj (sM μ 11 t.toNatClampNeg 0) hw t ht) (cwV 1 hts gv_M_92 rfl rfl rfl (by decide +kernel) ⟨Nat.le_of_ble_eq_true rfl, Nat.le_of_ble_eq_true rfl⟩) (va_recv hK hP (ci := 3) (q0 := 0) rfl rfl) hP hK hS (fun _ h9 => h9) rfl hl.1 rfl (Nat.le_of_ble_eq_true rfl) dM_deadlineComes_55 ⟨Nat.zero_le _, Nat.zero_le _⟩ (fun s3 H locs hq hP hS => ?_)
        obtain ⟨h3, hw⟩ := hq
        rw [kk_v_eq h3] at hf
        exact kk_vret hx hb hr hlocks hP hK hS ⟨hf.symm, hw⟩ dM_deadlineComes_58
    · rw [if_pos c_19] at hf
      refine lv_aload_n hx hb dM_deadlineComes_22 rfl (lv_at hl 0 rfl) ?_
      refine lv_iload_n hx hb dM_deadlineComes_23 rfl (lv_at hl 1 rfl) ?_
      refine lv_iconst (v := 2) hx hb dM_deadlineComes_24 (by decide) ?_
      refine kk_cv (w := km_w ad cs) (As := [.int t, .int 2]) (rest := []) ⟨hx, hb, hml, hown, hts⟩ (mc_retake l dC dI ad cs hj μ hw t 2 ht) (cwV 2 hts gv_M_110 rfl rfl rfl (by decide +kernel) ⟨Nat.le_of_ble_eq_true rfl, Nat.le_of_ble_eq_true rfl⟩) (va_recv hK hP (ci := 3) (q0 := 0) rfl rfl) hP hK hS (fun _ h9 => h9) rfl hl.1 rfl (Nat.le_of_ble_eq_true rfl) dM_deadlineComes_25 ⟨Nat.zero_le _, Nat.zero_le _⟩ (fun s4 H locs hq hP hS => ?_)
      obtain ⟨h4, hw⟩ := hq
      rw [kk_v_eq h4] at hf
      refine lv_goto (tgt := 58) hx hb dM_deadlineComes_28 (by decide) ?_
      exact kk_vret hx hb hr hlocks hP hK hS ⟨hf.symm, hw⟩ dM_deadlineComes_58
set_option maxHeartbeats 4000000 in
set_option maxRecDepth 100000 in
theorem mc_tick (l : Launch) (dC : Nat → ClassId) (dI : Nat → Nat → Nat) (ad : Nat → Nat) (cs : Nat → ClassId) (hj : km_inj ad) (μ : km_S) (hw : km_wf μ) (n1 : Int32) : Met l y_M_tick ws_M_tick ({ frames := 4, cells := 0, slots := 0, locals := 87 }) (kk_Pc (dC, dI) vwCl (km_t cs) (km_w ad cs μ) [.ref (ad 0), .int n1]) (va_Qi (km_pi (mf_tick μ n1)) (kk_B (dC, dI) vwCl (km_t cs) (km_w ad cs)) (km_A ad)) 0 0 (km_A ad) := by
  refine Met.ofW (cc := b_M_tick) (maxL := 5) (ret := (some .int)) (by decide) rfl ?_
  intro p e s m args below meth c s₁ B hml hv
  obtain ⟨rfl, hP, hK⟩ := hv
  have hx := B.exec
  have hb := B.bytes
  have hr := B.returns
  have hts := atoms_spec (ws := ws_M_tick) B.pre
  have hown : s.vm.findClass R_M = some m.cls := findClass_of_methodNamed B.named
  have hlocks := B.notSynchronized
  have hS : va_S (km_A ad) s.heap s.heap [] := va_S.rf
  generalize hf : mf_tick μ n1 = out
  have hl := lv_entry ([.ref (ad 0), .int n1]) (n := 5) (Nat.le_of_ble_eq_true rfl)
  rw [lg_entry_eq]
  generalize (lg_sl ([.ref (ad 0), .int n1]) ++ List.replicate (5 - (lg_sl ([.ref (ad 0), .int n1])).length) Slot.unset).toArray = ls at hl ⊢
  have hl : lv_has ls 5 [(0, .ref (ad 0)), (1, .int n1)] := hl
  rw [mf_tick] at hf
  have loop83 : ∀ (n k : Nat) (j1 : Nat) (μ o9 : km_S) (H : Heap) (locs : List Loc) (ls : Array Slot), n + k = 8 → km_wf μ → mf_tick_L83 n1 n k  μ = o9 → va_P (dC, dI) vwCl (km_w ad cs μ) H → va_S (km_A ad) s.heap H locs → lv_has ls 5 [(4, .int (nI k)), (0, .ref (ad 0)), (1, .int n1), (2, .int (nI j1))] → (∀ (H : Heap) (locs : List Loc) (ls : Array Slot), km_wf o9 → va_P (dC, dI) vwCl (km_w ad cs o9) H → va_S (km_A ad) s.heap H locs → lv_has ls 5 [(0, .ref (ad 0)), (1, .int n1), (2, .int (nI j1))] → W p l e (headSpec ws_M_tick ({ frames := 4, cells := 0, slots := 0, locals := 87 })).room s m ([.ref (ad 0), .int n1] : List Value).toArray below meth c H locs 0 0 (MQ below (va_Qi (km_pi out) (kk_B (dC, dI) vwCl (km_t cs) (km_w ad cs)) (km_A ad)) ([.ref (ad 0), .int n1] : List Value).toArray s 0 0 (km_A ad)) (F0 m 127 ls [])) → W p l e (headSpec ws_M_tick ({ frames := 4, cells := 0, slots := 0, locals := 87 })).room s m ([.ref (ad 0), .int n1] : List Value).toArray below meth c H locs 0 0 (MQ below (va_Qi (km_pi out) (kk_B (dC, dI) vwCl (km_t cs) (km_w ad cs)) (km_A ad)) ([.ref (ad 0), .int n1] : List Value).toArray s 0 0 (km_A ad)) (F0 m 83 ls []) := by
    clear hf hl hP hS hw
    intro n
    induction n with
    | zero =>
      intro k j1 μ o9 H locs ls hnk hw hf hP hS hl K
      have hk : k = 8 := by omega
      rw [mf_tick_L83] at hf
      have hl : lv_has ls 5 [(4, .int (nI k)), (0, .ref (ad 0)), (1, .int n1), (2, .int (nI j1))] := hl
      refine lv_iload hx hb dM_tick_83 (lv_at hl 0 rfl) ?_
      refine lv_bipush (v := 8) hx hb dM_tick_85 (by decide) ?_
      refine lv_icmp_ge (tgt := 127) hx hb dM_tick_87 (by decide) (fun _ => ?_) (fun c9 => absurd (by rw [hk]; decide) c9)
      subst hf
      exact K _ _ ls hw hP hS (lv_sub hl [1, 2, 3] rfl)
    | succ n ih =>
      intro k j1 μ o9 H locs ls hnk hw hf hP hS hl K
      have hk : k < 8 := by omega
      rw [mf_tick_L83] at hf
      have hl : lv_has ls 5 [(4, .int (nI k)), (0, .ref (ad 0)), (1, .int n1), (2, .int (nI j1))] := hl
      refine lv_iload hx hb dM_tick_83 (lv_at hl 0 rfl) ?_
      refine lv_bipush (v := 8) hx hb dM_tick_85 (by decide) ?_
      refine lv_icmp_ge (tgt := 127) hx hb dM_tick_87 (by decide) (fun c9 => absurd c9 (kk_stay hk (by decide))) (fun _ => ?_)
      refine lv_aload_n hx hb dM_tick_90 rfl (lv_at hl 1 rfl) ?_
      refine va_get (D := (dC, dI)) (ci := 3) (v := .ref (ad 1)) (C := R_M) (T := T_M) (N := 23) hx hb hts uw_M hown hK hP 0 rfl rfl 4 (by decide) (hts _ (List.mem_cons_of_mem _ wd_335)) (fun _ h9 => h9) rfl dM_tick_91 ?_
      refine lv_iload hx hb dM_tick_94 (lv_at hl 0 rfl) ?_
      refine va_iald hx hb hK hP 1 0 rfl rfl (vp_in_nI (by omega) (by decide)) dM_tick_96 ?_
      rw [nI_clamp (n := k) (by omega)]
      refine lv_iconst (v := 2) hx hb dM_tick_97 (by decide) ?_
      refine lv_icmp_ne (tgt := 121) hx hb dM_tick_98 (by decide) (fun c_98 => ?_) (fun c_98 => ?_)
      · rw [if_neg c_98] at hf
        refine lv_iinc (v := nI (k + 1)) (lv' := [(4, .int (nI (k + 1))), (0, .ref (ad 0)), (1, .int n1), (2, .int (nI j1))]) hx hb dM_tick_121 hl (k := 0) rfl (nI_1 _) (by decide) rfl (fun ls hl => ?_)
        refine lv_goto (tgt := 83) hx hb dM_tick_124 (by decide) ?_
        exact ih (k + 1) j1  _ o9 _ _ ls (by omega) hw  hf hP hS (lv_sub hl [0, 1, 2, 3] rfl) K
      · rw [if_pos c_98] at hf
        refine lv_aload_n hx hb dM_tick_101 rfl (lv_at hl 1 rfl) ?_
        refine va_get (D := (dC, dI)) (ci := 3) (v := .ref (ad 7)) (C := R_M) (T := T_M) (N := 23) hx hb hts uw_M hown hK hP 0 rfl rfl 10 (by decide) (hts _ (List.mem_cons_of_mem _ wd_341)) (fun _ h9 => h9) rfl dM_tick_102 ?_
        refine lv_iload hx hb dM_tick_105 (lv_at hl 0 rfl) ?_
        refine va_iald hx hb hK hP 7 6 rfl rfl (vp_in_nI (by omega) (by decide)) dM_tick_107 ?_
        rw [nI_clamp (n := k) (by omega)]
        refine lv_aload_n hx hb dM_tick_108 rfl (lv_at hl 1 rfl) ?_
        refine va_get (D := (dC, dI)) (ci := 3) (v := .int (mI μ 2 0)) (C := R_M) (T := T_M) (N := 23) hx hb hts uw_M hown hK hP 0 rfl rfl 2 (by decide) (hts _ (List.mem_cons_of_mem _ wd_333)) (fun _ h9 => h9) rfl dM_tick_109 ?_
        refine lv_icmp_ne (tgt := 121) hx hb dM_tick_112 (by decide) (fun c_112 => ?_) (fun c_112 => ?_)
        · rw [if_neg c_112] at hf
          refine lv_iinc (v := nI (k + 1)) (lv' := [(4, .int (nI (k + 1))), (0, .ref (ad 0)), (1, .int n1), (2, .int (nI j1))]) hx hb dM_tick_121 hl (k := 0) rfl (nI_1 _) (by decide) rfl (fun ls hl => ?_)
          refine lv_goto (tgt := 83) hx hb dM_tick_124 (by decide) ?_
          exact ih (k + 1) j1  _ o9 _ _ ls (by omega) hw  hf hP hS (lv_sub hl [0, 1, 2, 3] rfl) K
        · rw [if_pos c_112] at hf
          refine lv_aload_n hx hb dM_tick_115 rfl (lv_at hl 1 rfl) ?_
          refine lv_iload hx hb dM_tick_116 (lv_at hl 0 rfl) ?_
          refine kk_cv (w := km_w ad cs) (As := [.int (nI k)]) (rest := []) ⟨hx, hb, hml, hown, hts⟩ (mc_deadlineComes l dC dI ad cs hj μ hw (nI k) (vp_in_nI (by omega) (by decide))) (cwV 1 hts gv_M_117 rfl rfl rfl (by decide +kernel) ⟨Nat.le_of_ble_eq_true rfl, Nat.le_of_ble_eq_true rfl⟩) (va_recv hK hP (ci := 3) (q0 := 0) rfl rfl) hP hK hS (fun _ h9 => h9) rfl hl.1 rfl (Nat.le_of_ble_eq_true rfl) dM_tick_118 ⟨Nat.zero_le _, Nat.zero_le _⟩ (fun s1 H locs hq hP hS => ?_)
          obtain ⟨h1, hw⟩ := hq
          rw [kk_v_eq h1] at hf
          refine lv_iinc (v := nI (k + 1)) (lv' := [(4, .int (nI (k + 1))), (0, .ref (ad 0)), (1, .int n1), (2, .int (nI j1))]) hx hb dM_tick_121 hl (k := 0) rfl (nI_1 _) (by decide) rfl (fun ls hl => ?_)
          refine lv_goto (tgt := 83) hx hb dM_tick_124 (by decide) ?_
          exact ih (k + 1) j1  _ o9 _ _ ls (by omega) hw  hf hP hS (lv_sub hl [0, 1, 2, 3] rfl) K
  have loop15 : ∀ (n k : Nat) (μ : km_S) (H : Heap) (locs : List Loc) (ls : Array Slot), n + k = n1.toNatClampNeg → km_wf μ → (¬ n1 < 1) → mf_tick_L15 n1 n k  μ = out → va_P (dC, dI) vwCl (km_w ad cs μ) H → va_S (km_A ad) s.heap H locs → lv_has ls 5 [(2, .int (nI k)), (0, .ref (ad 0)), (1, .int n1)] → W p l e (headSpec ws_M_tick ({ frames := 4, cells := 0, slots := 0, locals := 87 })).room s m ([.ref (ad 0), .int n1] : List Value).toArray below meth c H locs 0 0 (MQ below (va_Qi (km_pi out) (kk_B (dC, dI) vwCl (km_t cs) (km_w ad cs)) (km_A ad)) ([.ref (ad 0), .int n1] : List Value).toArray s 0 0 (km_A ad)) (F0 m 15 ls []) := by
    clear hf hl hP hS hw
    intro n
    induction n with
    | zero =>
      intro k μ H locs ls hnk hw hn hf hP hS hl
      have hk : k = n1.toNatClampNeg := by omega
      rw [mf_tick_L15] at hf
      have hl : lv_has ls 5 [(2, .int (nI k)), (0, .ref (ad 0)), (1, .int n1)] := hl
      refine lv_iload_n hx hb dM_tick_15 rfl (lv_at hl 0 rfl) ?_
      refine lv_iload_n hx hb dM_tick_16 rfl (lv_at hl 2 rfl) ?_
      refine lv_icmp_ge (tgt := 133) hx hb dM_tick_17 (by decide) (fun _ => ?_) (fun c9 => absurd (kk_tx hn hk) c9)
      refine lv_aload_n hx hb dM_tick_133 rfl (lv_at hl 1 rfl) ?_
      refine kk_ci (w := km_w ad cs) (As := []) (rest := []) ⟨hx, hb, hml, hown, hts⟩ (mc_running l dC dI ad cs hj μ hw  ) (cwV 0 hts gv_M_104 rfl rfl rfl (by decide +kernel) ⟨Nat.le_of_ble_eq_true rfl, Nat.le_of_ble_eq_true rfl⟩) (va_recv hK hP (ci := 3) (q0 := 0) rfl rfl) hP hK hS (fun _ h9 => h9) rfl hl.1 rfl (Nat.le_of_ble_eq_true rfl) dM_tick_134 ⟨Nat.zero_le _, Nat.zero_le _⟩ (fun r2 s2 H locs hq hP hS => ?_)
      obtain ⟨h2, hw, hx2⟩ := hq
      rw [kk_b_eq h2] at hf
      exact kk_iret hx hb hr hlocks hP hK hS ⟨hf.symm, hw⟩ dM_tick_137
    | succ n ih =>
      intro k μ H locs ls hnk hw hn hf hP hS hl
      have hk : k < n1.toNatClampNeg := by omega
      rw [mf_tick_L15] at hf
      have hl : lv_has ls 5 [(2, .int (nI k)), (0, .ref (ad 0)), (1, .int n1)] := hl
      refine lv_iload_n hx hb dM_tick_15 rfl (lv_at hl 0 rfl) ?_
      refine lv_iload_n hx hb dM_tick_16 rfl (lv_at hl 2 rfl) ?_
      refine lv_icmp_ge (tgt := 133) hx hb dM_tick_17 (by decide) (fun c9 => absurd c9 (kk_ts hk)) (fun _ => ?_)
      refine lv_aload_n hx hb dM_tick_20 rfl (lv_at hl 1 rfl) ?_
      refine kk_ci (w := km_w ad cs) (As := []) (rest := []) ⟨hx, hb, hml, hown, hts⟩ (mc_running l dC dI ad cs hj μ hw  ) (cwV 0 hts gv_M_104 rfl rfl rfl (by decide +kernel) ⟨Nat.le_of_ble_eq_true rfl, Nat.le_of_ble_eq_true rfl⟩) (va_recv hK hP (ci := 3) (q0 := 0) rfl rfl) hP hK hS (fun _ h9 => h9) rfl hl.1 rfl (Nat.le_of_ble_eq_true rfl) dM_tick_21 ⟨Nat.zero_le _, Nat.zero_le _⟩ (fun r3 s3 H locs hq hP hS => ?_)
      obtain ⟨h3, hw, hx3⟩ := hq
      rw [kk_b_eq h3] at hf
      refine lv_istore_n (lv' := [(3, .int r3), (2, .int (nI k)), (0, .ref (ad 0)), (1, .int n1)]) hx hb dM_tick_24 rfl hl (by decide) rfl (fun ls hl => ?_)
      refine lv_aload_n hx hb dM_tick_25 rfl (lv_at hl 2 rfl) ?_
      refine lv_dup hx hb dM_tick_26 rfl ?_
      refine va_get (D := (dC, dI)) (ci := 3) (v := .int (mI s3 2 0)) (C := R_M) (T := T_M) (N := 23) hx hb hts uw_M hown hK hP 0 rfl rfl 2 (by decide) (hts _ (List.mem_cons_of_mem _ wd_333)) (fun _ h9 => h9) rfl dM_tick_27 ?_
      refine lv_iconst (v := 1) hx hb dM_tick_30 (by decide) ?_
      refine lv_iadd hx hb dM_tick_31 ?_
      refine va_put (D := (dC, dI)) (ci := 3) (v := .int ((mI s3 2 0) + 1)) (ty := .int) (C := R_M) (T := T_M) (N := 23) hx hb hts uw_M ty_M ty_M_ok nm_M hown hK hP (km_D hj) hS 0 rfl rfl 2 (by decide) (hts _ (List.mem_cons_of_mem _ wd_333)) (fun _ h9 => h9) rfl (by decide +kernel) rfl rfl (Nat.le_of_ble_eq_true rfl) dM_tick_32 (fun H locs hP _ hS => ?_)
      replace hP := km_u_time hP
      replace hw := km_wf_I (f := 2) (i := 0) (v := (mI s3 2 0) + 1) hw (by decide)
      refine lv_iload_n hx hb dM_tick_35 rfl (lv_at hl 0 rfl) ?_
      refine lv_if_lt (tgt := 49) hx hb dM_tick_36 (by decide) (fun c_36 => ?_) (fun c_36 => ?_)
      · rw [if_pos c_36] at hf
        refine lv_iload_n hx hb dM_tick_49 rfl (lv_at hl 0 rfl) ?_
        refine lv_if_lt (tgt := 80) hx hb dM_tick_50 (by decide) (fun _ => ?_) (fun c9 => absurd c_36 c9)
        refine lv_iconst (v := 0) hx hb dM_tick_80 (by decide) ?_
        refine lv_istore (lv' := [(4, .int 0), (3, .int r3), (2, .int (nI k)), (0, .ref (ad 0)), (1, .int n1)]) hx hb dM_tick_81 hl (by decide) rfl (fun ls hl => ?_)
        obtain ⟨s4, hs4⟩ : ∃ z, mf_tick_L83 n1 8 0  (sM s3 2 0 ((mI s3 2 0) + 1)) = z := ⟨_, rfl⟩
        rw [kk_v_eq hs4] at hf
        refine loop83 8 0 k  _ s4 _ _ ls (by omega) hw  hs4 hP hS (lv_sub hl [0, 3, 4, 2] rfl) (fun H locs ls hw hP hS hl => ?_)
        refine lv_iinc (v := nI (k + 1)) (lv' := [(2, .int (nI (k + 1))), (0, .ref (ad 0)), (1, .int n1)]) hx hb dM_tick_127 hl (k := 2) rfl (nI_1 _) (by decide) rfl (fun ls hl => ?_)
        refine lv_goto (tgt := 15) hx hb dM_tick_130 (by decide) ?_
        exact ih (k + 1)  _ _ _ ls (by omega) hw hn hf hP hS (lv_sub hl [0, 1, 2] rfl)
      · rw [if_neg c_36] at hf
        refine lv_aload_n hx hb dM_tick_39 rfl (lv_at hl 2 rfl) ?_
        refine va_get (D := (dC, dI)) (ci := 3) (v := .ref (ad 4)) (C := R_M) (T := T_M) (N := 23) hx hb hts uw_M hown hK hP 0 rfl rfl 7 (by decide) (hts _ (List.mem_cons_of_mem _ wd_338)) (fun _ h9 => h9) rfl dM_tick_40 ?_
        refine lv_iload_n hx hb dM_tick_43 rfl (lv_at hl 0 rfl) ?_
        refine lv_dup2_11 hx hb dM_tick_44 rfl rfl ?_
        refine va_iald hx hb hK hP 4 3 rfl rfl (hx3.resolve_left c_36) dM_tick_45 ?_
        refine lv_iconst (v := 1) hx hb dM_tick_46 (by decide) ?_
        refine lv_iadd hx hb dM_tick_47 ?_
        refine va_iast hx hb hK hP (km_D hj) hS 4 3 rfl rfl (hx3.resolve_left c_36) dM_tick_48 (fun H locs hP _ hS => ?_)
        replace hP := km_u_used hP
        replace hw := km_wf_I (f := 7) (i := r3.toNatClampNeg) (v := (mI (sM s3 2 0 ((mI s3 2 0) + 1)) 7 r3.toNatClampNeg) + 1) hw (by decide)
        refine lv_iload_n hx hb dM_tick_49 rfl (lv_at hl 0 rfl) ?_
        refine lv_if_lt (tgt := 80) hx hb dM_tick_50 (by decide) (fun c9 => absurd c9 c_36) (fun _ => ?_)
        refine lv_aload_n hx hb dM_tick_53 rfl (lv_at hl 2 rfl) ?_
        refine va_get (D := (dC, dI)) (ci := 3) (v := .ref (ad 12)) (C := R_M) (T := T_M) (N := 23) hx hb hts uw_M hown hK hP 0 rfl rfl 15 (by decide) (hts _ (List.mem_cons_of_mem _ wd_346)) (fun _ h9 => h9) rfl dM_tick_54 ?_
        refine lv_iload_n hx hb dM_tick_57 rfl (lv_at hl 0 rfl) ?_
        refine va_zald hx hb hK hP 12 11 rfl rfl (hx3.resolve_left c_36) dM_tick_58 ?_
        refine lv_if_eq (tgt := 80) hx hb dM_tick_59 (by decide) (fun c_59 => ?_) (fun c_59 => ?_)
        · rw [if_pos c_59] at hf
          refine lv_iconst (v := 0) hx hb dM_tick_80 (by decide) ?_
          refine lv_istore (lv' := [(4, .int 0), (3, .int r3), (2, .int (nI k)), (0, .ref (ad 0)), (1, .int n1)]) hx hb dM_tick_81 hl (by decide) rfl (fun ls hl => ?_)
          obtain ⟨s5, hs5⟩ : ∃ z, mf_tick_L83 n1 8 0  (sM (sM s3 2 0 ((mI s3 2 0) + 1)) 7 r3.toNatClampNeg ((mI (sM s3 2 0 ((mI s3 2 0) + 1)) 7 r3.toNatClampNeg) + 1)) = z := ⟨_, rfl⟩
          rw [kk_v_eq hs5] at hf
          refine loop83 8 0 k  _ s5 _ _ ls (by omega) hw  hs5 hP hS (lv_sub hl [0, 3, 4, 2] rfl) (fun H locs ls hw hP hS hl => ?_)
          refine lv_iinc (v := nI (k + 1)) (lv' := [(2, .int (nI (k + 1))), (0, .ref (ad 0)), (1, .int n1)]) hx hb dM_tick_127 hl (k := 2) rfl (nI_1 _) (by decide) rfl (fun ls hl => ?_)
          refine lv_goto (tgt := 15) hx hb dM_tick_130 (by decide) ?_
          exact ih (k + 1)  _ _ _ ls (by omega) hw hn hf hP hS (lv_sub hl [0, 1, 2] rfl)
        · rw [if_neg c_59] at hf
          refine lv_aload_n hx hb dM_tick_62 rfl (lv_at hl 2 rfl) ?_
          refine va_get (D := (dC, dI)) (ci := 3) (v := .ref (ad 4)) (C := R_M) (T := T_M) (N := 23) hx hb hts uw_M hown hK hP 0 rfl rfl 7 (by decide) (hts _ (List.mem_cons_of_mem _ wd_338)) (fun _ h9 => h9) rfl dM_tick_63 ?_
          refine lv_iload_n hx hb dM_tick_66 rfl (lv_at hl 0 rfl) ?_
          refine va_iald hx hb hK hP 4 3 rfl rfl (hx3.resolve_left c_36) dM_tick_67 ?_
          refine lv_aload_n hx hb dM_tick_68 rfl (lv_at hl 2 rfl) ?_
          refine va_get (D := (dC, dI)) (ci := 3) (v := .int (mI (sM (sM s3 2 0 ((mI s3 2 0) + 1)) 7 r3.toNatClampNeg ((mI (sM s3 2 0 ((mI s3 2 0) + 1)) 7 r3.toNatClampNeg) + 1)) 0 0)) (C := R_M) (T := T_M) (N := 23) hx hb hts uw_M hown hK hP 0 rfl rfl 0 (by decide) (hts _ (List.mem_cons_of_mem _ wd_331)) (fun _ h9 => h9) rfl dM_tick_69 ?_
          refine lv_icmp_ne (tgt := 80) hx hb dM_tick_72 (by decide) (fun c_72 => ?_) (fun c_72 => ?_)
          · rw [if_neg c_72] at hf
            refine lv_iconst (v := 0) hx hb dM_tick_80 (by decide) ?_
            refine lv_istore (lv' := [(4, .int 0), (3, .int r3), (2, .int (nI k)), (0, .ref (ad 0)), (1, .int n1)]) hx hb dM_tick_81 hl (by decide) rfl (fun ls hl => ?_)
            obtain ⟨s6, hs6⟩ : ∃ z, mf_tick_L83 n1 8 0  (sM (sM s3 2 0 ((mI s3 2 0) + 1)) 7 r3.toNatClampNeg ((mI (sM s3 2 0 ((mI s3 2 0) + 1)) 7 r3.toNatClampNeg) + 1)) = z := ⟨_, rfl⟩
            rw [kk_v_eq hs6] at hf
            refine loop83 8 0 k  _ s6 _ _ ls (by omega) hw  hs6 hP hS (lv_sub hl [0, 3, 4, 2] rfl) (fun H locs ls hw hP hS hl => ?_)
            refine lv_iinc (v := nI (k + 1)) (lv' := [(2, .int (nI (k + 1))), (0, .ref (ad 0)), (1, .int n1)]) hx hb dM_tick_127 hl (k := 2) rfl (nI_1 _) (by decide) rfl (fun ls hl => ?_)
            refine lv_goto (tgt := 15) hx hb dM_tick_130 (by decide) ?_
            exact ih (k + 1)  _ _ _ ls (by omega) hw hn hf hP hS (lv_sub hl [0, 1, 2] rfl)
          · rw [if_pos c_72] at hf
            refine lv_aload_n hx hb dM_tick_75 rfl (lv_at hl 2 rfl) ?_
            refine lv_iload_n hx hb dM_tick_76 rfl (lv_at hl 0 rfl) ?_
            refine kk_cv (w := km_w ad cs) (As := [.int r3]) (rest := []) ⟨hx, hb, hml, hown, hts⟩ (mc_ready l dC dI ad cs hj (sM (sM s3 2 0 ((mI s3 2 0) + 1)) 7 r3.toNatClampNeg ((mI (sM s3 2 0 ((mI s3 2 0) + 1)) 7 r3.toNatClampNeg) + 1)) hw r3 (hx3.resolve_left c_36)) (cwV 1 hts gv_M_92 rfl rfl rfl (by decide +kernel) ⟨Nat.le_of_ble_eq_true rfl, Nat.le_of_ble_eq_true rfl⟩) (va_recv hK hP (ci := 3) (q0 := 0) rfl rfl) hP hK hS (fun _ h9 => h9) rfl hl.1 rfl (Nat.le_of_ble_eq_true rfl) dM_tick_77 ⟨Nat.zero_le _, Nat.zero_le _⟩ (fun s7 H locs hq hP hS => ?_)
            obtain ⟨h7, hw⟩ := hq
            rw [kk_v_eq h7] at hf
            refine lv_iconst (v := 0) hx hb dM_tick_80 (by decide) ?_
            refine lv_istore (lv' := [(4, .int 0), (3, .int r3), (2, .int (nI k)), (0, .ref (ad 0)), (1, .int n1)]) hx hb dM_tick_81 hl (by decide) rfl (fun ls hl => ?_)
            obtain ⟨s8, hs8⟩ : ∃ z, mf_tick_L83 n1 8 0  s7 = z := ⟨_, rfl⟩
            rw [kk_v_eq hs8] at hf
            refine loop83 8 0 k  _ s8 _ _ ls (by omega) hw  hs8 hP hS (lv_sub hl [0, 3, 4, 2] rfl) (fun H locs ls hw hP hS hl => ?_)
            refine lv_iinc (v := nI (k + 1)) (lv' := [(2, .int (nI (k + 1))), (0, .ref (ad 0)), (1, .int n1)]) hx hb dM_tick_127 hl (k := 2) rfl (nI_1 _) (by decide) rfl (fun ls hl => ?_)
            refine lv_goto (tgt := 15) hx hb dM_tick_130 (by decide) ?_
            exact ih (k + 1)  _ _ _ ls (by omega) hw hn hf hP hS (lv_sub hl [0, 1, 2] rfl)
  refine lv_iload_n hx hb dM_tick_0 rfl (lv_at hl 1 rfl) ?_
  refine lv_iconst (v := 1) hx hb dM_tick_1 (by decide) ?_
  refine lv_icmp_lt (tgt := 11) hx hb dM_tick_2 (by decide) (fun c_2 => ?_) (fun c_2 => ?_)
  · rw [if_pos c_2] at hf
    refine lv_iconst (v := (-1)) hx hb dM_tick_11 (by decide) ?_
    exact kk_iret hx hb hr hlocks hP hK hS ⟨hf.symm, hw⟩ dM_tick_12
  · rw [if_neg c_2] at hf
    refine lv_iload_n hx hb dM_tick_5 rfl (lv_at hl 1 rfl) ?_
    refine lv_bipush (v := 100) hx hb dM_tick_6 (by decide) ?_
    refine lv_icmp_le (tgt := 13) hx hb dM_tick_8 (by decide) (fun c_8 => ?_) (fun c_8 => ?_)
    · rw [if_pos c_8] at hf
      refine lv_iconst (v := 0) hx hb dM_tick_13 (by decide) ?_
      refine lv_istore_n (lv' := [(2, .int 0), (0, .ref (ad 0)), (1, .int n1)]) hx hb dM_tick_14 rfl hl (by decide) rfl (fun ls hl => ?_)
      exact loop15 n1.toNatClampNeg 0  _ _ _ ls (Nat.add_zero _) hw c_2 hf hP hS (lv_sub hl [0, 1, 2] rfl)
    · rw [if_neg c_8] at hf
      refine lv_iconst (v := (-1)) hx hb dM_tick_11 (by decide) ?_
      exact kk_iret hx hb hr hlocks hP hK hS ⟨hf.symm, hw⟩ dM_tick_12
