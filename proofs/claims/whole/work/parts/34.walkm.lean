set_option maxHeartbeats 4000000 in
set_option maxRecDepth 100000 in
theorem mc_send (l : Launch) (dC : Nat → ClassId) (dI : Nat → Nat → Nat) (ad : Nat → Nat) (cs : Nat → ClassId) (hj : km_inj ad) (μ : km_S) (hw : km_wf μ) (q : Int32) (rank : Int32) (value : Int32) : Met l y_M_send ws_M_send ({ frames := 2, cells := 0, slots := 0, locals := 46 }) (kk_Pc (dC, dI) vwCl (km_t cs) (km_w ad cs μ) [.ref (ad 0), .int q, .int rank, .int value]) (va_Qi (km_pi (mf_send μ q rank value)) (kk_B (dC, dI) vwCl (km_t cs) (km_w ad cs)) (km_A ad)) 0 0 (km_A ad) := by
  refine Met.ofW (cc := b_M_send) (maxL := 6) (ret := (some .int)) (by decide) rfl ?_
  intro p e s m args below meth c s₁ B hml hv
  obtain ⟨rfl, hP, hK⟩ := hv
  have hx := B.exec
  have hb := B.bytes
  have hr := B.returns
  have hts := atoms_spec (ws := ws_M_send) B.pre
  have hown : s.vm.findClass R_M = some m.cls := findClass_of_methodNamed B.named
  have hlocks := B.notSynchronized
  have hS : va_S (km_A ad) s.heap s.heap [] := va_S.rf
  generalize hf : mf_send μ q rank value = out
  have hl := lv_entry ([.ref (ad 0), .int q, .int rank, .int value]) (n := 6) (Nat.le_of_ble_eq_true rfl)
  rw [lg_entry_eq]
  generalize (lg_sl ([.ref (ad 0), .int q, .int rank, .int value]) ++ List.replicate (6 - (lg_sl ([.ref (ad 0), .int q, .int rank, .int value])).length) Slot.unset).toArray = ls at hl ⊢
  have hl : lv_has ls 6 [(0, .ref (ad 0)), (1, .int q), (2, .int rank), (3, .int value)] := hl
  rw [mf_send] at hf
  refine lv_aload_n hx hb dM_send_0 rfl (lv_at hl 0 rfl) ?_
  refine kk_ci (w := km_w ad cs) (As := []) (rest := []) ⟨hx, hb, hml, hown, hts⟩ (mc_running l dC dI ad cs hj μ hw  ) (cwV 0 hts gv_M_104 rfl rfl rfl (by decide +kernel) ⟨Nat.le_of_ble_eq_true rfl, Nat.le_of_ble_eq_true rfl⟩) (va_recv hK hP (ci := 3) (q0 := 0) rfl rfl) hP hK hS (fun _ h9 => h9) rfl hl.1 rfl (Nat.le_of_ble_eq_true rfl) dM_send_1 ⟨Nat.zero_le _, Nat.zero_le _⟩ (fun r1 s1 H locs hq hP hS => ?_)
  obtain ⟨h1, hw, hx1⟩ := hq
  rw [kk_b_eq h1] at hf
  refine lv_istore (lv' := [(4, .int r1), (0, .ref (ad 0)), (1, .int q), (2, .int rank), (3, .int value)]) hx hb dM_send_4 hl (by decide) rfl (fun ls hl => ?_)
  refine lv_aload_n hx hb dM_send_6 rfl (lv_at hl 1 rfl) ?_
  refine lv_iload_n hx hb dM_send_7 rfl (lv_at hl 2 rfl) ?_
  refine lv_iconst (v := 2) hx hb dM_send_8 (by decide) ?_
  refine kk_cp (r0 := mf_out q 2) (w := km_w ad cs) (As := [.int q, .int 2]) (rest := []) ⟨hx, hb, hml, hown, hts⟩ (mc_out l (ad 0) q 2) (cwV 2 hts gv_M_100 rfl rfl rfl (by decide +kernel) ⟨Nat.le_of_ble_eq_true rfl, Nat.le_of_ble_eq_true rfl⟩) (va_recv hK hP (ci := 3) (q0 := 0) rfl rfl) hP hS rfl hl.1 rfl (Nat.le_of_ble_eq_true rfl) dM_send_9 ⟨Nat.zero_le _, Nat.zero_le _⟩ (fun H locs hP hS => ?_)
  refine lv_if_ne (tgt := 30) hx hb dM_send_12 (by decide) (fun c_12 => ?_) (fun c_12 => ?_)
  · rw [if_neg c_12] at hf
    refine lv_iconst (v := (-1)) hx hb dM_send_30 (by decide) ?_
    exact kk_iret hx hb hr hlocks hP hK hS ⟨hf.symm, hw⟩ dM_send_31
  · rw [if_pos c_12] at hf
    refine lv_aload_n hx hb dM_send_15 rfl (lv_at hl 1 rfl) ?_
    refine lv_iload_n hx hb dM_send_16 rfl (lv_at hl 3 rfl) ?_
    refine lv_bipush (v := 10) hx hb dM_send_17 (by decide) ?_
    refine kk_cp (r0 := mf_out rank 10) (w := km_w ad cs) (As := [.int rank, .int 10]) (rest := []) ⟨hx, hb, hml, hown, hts⟩ (mc_out l (ad 0) rank 10) (cwV 2 hts gv_M_100 rfl rfl rfl (by decide +kernel) ⟨Nat.le_of_ble_eq_true rfl, Nat.le_of_ble_eq_true rfl⟩) (va_recv hK hP (ci := 3) (q0 := 0) rfl rfl) hP hS rfl hl.1 rfl (Nat.le_of_ble_eq_true rfl) dM_send_19 ⟨Nat.zero_le _, Nat.zero_le _⟩ (fun H locs hP hS => ?_)
    refine lv_if_ne (tgt := 30) hx hb dM_send_22 (by decide) (fun c_22 => ?_) (fun c_22 => ?_)
    · rw [if_neg c_22] at hf
      refine lv_iconst (v := (-1)) hx hb dM_send_30 (by decide) ?_
      exact kk_iret hx hb hr hlocks hP hK hS ⟨hf.symm, hw⟩ dM_send_31
    · rw [if_pos c_22] at hf
      refine lv_iload hx hb dM_send_25 (lv_at hl 0 rfl) ?_
      refine lv_if_ge (tgt := 32) hx hb dM_send_27 (by decide) (fun c_27 => ?_) (fun c_27 => ?_)
      · rw [if_pos c_27] at hf
        refine lv_aload_n hx hb dM_send_32 rfl (lv_at hl 1 rfl) ?_
        refine va_get (D := (dC, dI)) (ci := 3) (v := .ref (ad 16)) (C := R_M) (T := T_M) (N := 23) hx hb hts uw_M hown hK hP 0 rfl rfl 19 (by decide) (hts _ (List.mem_cons_of_mem _ wd_350)) (fun _ h9 => h9) rfl dM_send_33 ?_
        refine lv_iload_n hx hb dM_send_36 rfl (lv_at hl 2 rfl) ?_
        refine va_iald hx hb hK hP 16 15 rfl rfl (km_in (by decide) c_12) dM_send_37 ?_
        refine lv_iconst (v := 4) hx hb dM_send_38 (by decide) ?_
        refine lv_icmp_ne (tgt := 71) hx hb dM_send_39 (by decide) (fun c_39 => ?_) (fun c_39 => ?_)
        · rw [if_neg c_39] at hf
          have hw0 := hw
          refine lv_aload_n hx hb dM_send_71 rfl (lv_at hl 1 rfl) ?_
          refine va_get (D := (dC, dI)) (ci := 3) (v := .ref (ad 8)) (C := R_M) (T := T_M) (N := 23) hx hb hts uw_M hown hK hP 0 rfl rfl 11 (by decide) (hts _ (List.mem_cons_of_mem _ wd_342)) (fun _ h9 => h9) rfl dM_send_72 ?_
          refine lv_iload hx hb dM_send_75 (lv_at hl 0 rfl) ?_
          refine lv_iconst (v := 0) hx hb dM_send_77 (by decide) ?_
          refine va_iast hx hb hK hP (km_D hj) hS 8 7 rfl rfl (hx1.resolve_left (kk_ge c_27)) dM_send_78 (fun H locs hP _ hS => ?_)
          replace hP := km_u_result hP
          replace hw := km_wf_I (f := 11) (i := r1.toNatClampNeg) (v := 0) hw (by decide)
          refine lv_aload_n hx hb dM_send_79 rfl (lv_at hl 1 rfl) ?_
          refine lv_bipush (v := 50) hx hb dM_send_80 (by decide) ?_
          refine lv_iload_n hx hb dM_send_82 rfl (lv_at hl 2 rfl) ?_
          refine lv_iadd hx hb dM_send_83 ?_
          refine kk_ci (w := km_w ad cs) (As := [.int (50 + q)]) (rest := []) ⟨hx, hb, hml, hown, hts⟩ (mc_firstWaiter l dC dI ad cs hj (sM s1 11 r1.toNatClampNeg 0) hw (50 + q) ) (cwV 1 hts gv_M_88 rfl rfl rfl (by decide +kernel) ⟨Nat.le_of_ble_eq_true rfl, Nat.le_of_ble_eq_true rfl⟩) (va_recv hK hP (ci := 3) (q0 := 0) rfl rfl) hP hK hS (fun _ h9 => h9) rfl hl.1 rfl (Nat.le_of_ble_eq_true rfl) dM_send_84 ⟨Nat.zero_le _, Nat.zero_le _⟩ (fun r2 s2 H locs hq hP hS => ?_)
          obtain ⟨h2, hw, hx2⟩ := hq
          rw [kk_b_eq h2] at hf
          refine lv_istore (lv' := [(5, .int r2), (4, .int r1), (0, .ref (ad 0)), (1, .int q), (2, .int rank), (3, .int value)]) hx hb dM_send_87 hl (by decide) rfl (fun ls hl => ?_)
          refine lv_iload hx hb dM_send_89 (lv_at hl 0 rfl) ?_
          refine lv_if_ge (tgt := 103) hx hb dM_send_91 (by decide) (fun c_91 => ?_) (fun c_91 => ?_)
          · rw [if_pos c_91] at hf
            refine lv_aload_n hx hb dM_send_103 rfl (lv_at hl 2 rfl) ?_
            refine va_get (D := (dC, dI)) (ci := 3) (v := .ref (ad 8)) (C := R_M) (T := T_M) (N := 23) hx hb hts uw_M hown hK hP 0 rfl rfl 11 (by decide) (hts _ (List.mem_cons_of_mem _ wd_342)) (fun _ h9 => h9) rfl dM_send_104 ?_
            refine lv_iload hx hb dM_send_107 (lv_at hl 0 rfl) ?_
            refine lv_iload_n hx hb dM_send_109 rfl (lv_at hl 5 rfl) ?_
            refine va_iast hx hb hK hP (km_D hj) hS 8 7 rfl rfl (hx2.resolve_left (kk_ge c_91)) dM_send_110 (fun H locs hP _ hS => ?_)
            replace hP := km_u_result hP
            replace hw := km_wf_I (f := 11) (i := r2.toNatClampNeg) (v := value) hw (by decide)
            refine lv_aload_n hx hb dM_send_111 rfl (lv_at hl 2 rfl) ?_
            refine lv_iload hx hb dM_send_112 (lv_at hl 0 rfl) ?_
            refine kk_cv (w := km_w ad cs) (As := [.int r2]) (rest := []) ⟨hx, hb, hml, hown, hts⟩ (mc_ready l dC dI ad cs hj (sM s2 11 r2.toNatClampNeg value) hw r2 (hx2.resolve_left (kk_ge c_91))) (cwV 1 hts gv_M_92 rfl rfl rfl (by decide +kernel) ⟨Nat.le_of_ble_eq_true rfl, Nat.le_of_ble_eq_true rfl⟩) (va_recv hK hP (ci := 3) (q0 := 0) rfl rfl) hP hK hS (fun _ h9 => h9) rfl hl.1 rfl (Nat.le_of_ble_eq_true rfl) dM_send_114 ⟨Nat.zero_le _, Nat.zero_le _⟩ (fun s3 H locs hq hP hS => ?_)
            obtain ⟨h3, hw⟩ := hq
            rw [kk_v_eq h3] at hf
            refine lv_iconst (v := 0) hx hb dM_send_117 (by decide) ?_
            exact kk_iret hx hb hr hlocks hP hK hS ⟨hf.symm, hw⟩ dM_send_118
          · rw [if_neg c_91] at hf
            refine lv_aload_n hx hb dM_send_94 rfl (lv_at hl 2 rfl) ?_
            refine lv_iload_n hx hb dM_send_95 rfl (lv_at hl 3 rfl) ?_
            refine lv_iload_n hx hb dM_send_96 rfl (lv_at hl 4 rfl) ?_
            refine lv_iload_n hx hb dM_send_97 rfl (lv_at hl 5 rfl) ?_
            refine kk_cv (w := km_w ad cs) (As := [.int q, .int rank, .int value]) (rest := []) ⟨hx, hb, hml, hown, hts⟩ (mc_comeIn l dC dI ad cs hj s2 hw q rank value (km_in (by decide) c_12) (km_mes_send hw0 h2 c_39 (km_in (by decide) c_12))) (cwV 3 hts gv_M_114 rfl rfl rfl (by decide +kernel) ⟨Nat.le_of_ble_eq_true rfl, Nat.le_of_ble_eq_true rfl⟩) (va_recv hK hP (ci := 3) (q0 := 0) rfl rfl) hP hK hS (fun _ h9 => h9) rfl hl.1 rfl (Nat.le_of_ble_eq_true rfl) dM_send_98 ⟨Nat.zero_le _, Nat.zero_le _⟩ (fun s4 H locs hq hP hS => ?_)
            obtain ⟨h4, hw⟩ := hq
            rw [kk_v_eq h4] at hf
            refine lv_iconst (v := 0) hx hb dM_send_101 (by decide) ?_
            exact kk_iret hx hb hr hlocks hP hK hS ⟨hf.symm, hw⟩ dM_send_102
        · rw [if_pos c_39] at hf
          refine lv_aload_n hx hb dM_send_42 rfl (lv_at hl 1 rfl) ?_
          refine lv_iload hx hb dM_send_43 (lv_at hl 0 rfl) ?_
          refine lv_bipush (v := 40) hx hb dM_send_45 (by decide) ?_
          refine lv_iload_n hx hb dM_send_47 rfl (lv_at hl 2 rfl) ?_
          refine lv_iadd hx hb dM_send_48 ?_
          refine lv_iconst (v := 0) hx hb dM_send_49 (by decide) ?_
          refine kk_cv (w := km_w ad cs) (As := [.int r1, .int (40 + q), .int 0]) (rest := []) ⟨hx, hb, hml, hown, hts⟩ (mc_block l dC dI ad cs hj s1 hw r1 (40 + q) 0 (hx1.resolve_left (kk_ge c_27))) (cwV 3 hts gv_M_96 rfl rfl rfl (by decide +kernel) ⟨Nat.le_of_ble_eq_true rfl, Nat.le_of_ble_eq_true rfl⟩) (va_recv hK hP (ci := 3) (q0 := 0) rfl rfl) hP hK hS (fun _ h9 => h9) rfl hl.1 rfl (Nat.le_of_ble_eq_true rfl) dM_send_50 ⟨Nat.zero_le _, Nat.zero_le _⟩ (fun s5 H locs hq hP hS => ?_)
          obtain ⟨h5, hw⟩ := hq
          rw [kk_v_eq h5] at hf
          refine lv_aload_n hx hb dM_send_53 rfl (lv_at hl 1 rfl) ?_
          refine va_get (D := (dC, dI)) (ci := 3) (v := .ref (ad 10)) (C := R_M) (T := T_M) (N := 23) hx hb hts uw_M hown hK hP 0 rfl rfl 13 (by decide) (hts _ (List.mem_cons_of_mem _ wd_344)) (fun _ h9 => h9) rfl dM_send_54 ?_
          refine lv_iload hx hb dM_send_57 (lv_at hl 0 rfl) ?_
          refine lv_iload_n hx hb dM_send_59 rfl (lv_at hl 3 rfl) ?_
          refine va_iast hx hb hK hP (km_D hj) hS 10 9 rfl rfl (hx1.resolve_left (kk_ge c_27)) dM_send_60 (fun H locs hP _ hS => ?_)
          replace hP := km_u_rank hP
          replace hw := km_wf_I (f := 13) (i := r1.toNatClampNeg) (v := rank) hw (by decide)
          refine lv_aload_n hx hb dM_send_61 rfl (lv_at hl 1 rfl) ?_
          refine va_get (D := (dC, dI)) (ci := 3) (v := .ref (ad 11)) (C := R_M) (T := T_M) (N := 23) hx hb hts uw_M hown hK hP 0 rfl rfl 14 (by decide) (hts _ (List.mem_cons_of_mem _ wd_345)) (fun _ h9 => h9) rfl dM_send_62 ?_
          refine lv_iload hx hb dM_send_65 (lv_at hl 0 rfl) ?_
          refine lv_iload_n hx hb dM_send_67 rfl (lv_at hl 4 rfl) ?_
          refine va_iast hx hb hK hP (km_D hj) hS 11 10 rfl rfl (hx1.resolve_left (kk_ge c_27)) dM_send_68 (fun H locs hP _ hS => ?_)
          replace hP := km_u_value hP
          replace hw := km_wf_I (f := 14) (i := r1.toNatClampNeg) (v := value) hw (by decide)
          refine lv_iconst (v := 1) hx hb dM_send_69 (by decide) ?_
          exact kk_iret hx hb hr hlocks hP hK hS ⟨hf.symm, hw⟩ dM_send_70
      · rw [if_neg c_27] at hf
        refine lv_iconst (v := (-1)) hx hb dM_send_30 (by decide) ?_
        exact kk_iret hx hb hr hlocks hP hK hS ⟨hf.symm, hw⟩ dM_send_31
set_option maxHeartbeats 4000000 in
set_option maxRecDepth 100000 in
theorem mc_receive (l : Launch) (dC : Nat → ClassId) (dI : Nat → Nat → Nat) (ad : Nat → Nat) (cs : Nat → ClassId) (hj : km_inj ad) (μ : km_S) (hw : km_wf μ) (q : Int32) : Met l y_M_receive ws_M_receive ({ frames := 2, cells := 0, slots := 0, locals := 46 }) (kk_Pc (dC, dI) vwCl (km_t cs) (km_w ad cs μ) [.ref (ad 0), .int q]) (va_Qi (km_pi (mf_receive μ q)) (kk_B (dC, dI) vwCl (km_t cs) (km_w ad cs)) (km_A ad)) 0 0 (km_A ad) := by
  refine Met.ofW (cc := b_M_receive) (maxL := 4) (ret := (some .int)) (by decide) rfl ?_
  intro p e s m args below meth c s₁ B hml hv
  obtain ⟨rfl, hP, hK⟩ := hv
  have hx := B.exec
  have hb := B.bytes
  have hr := B.returns
  have hts := atoms_spec (ws := ws_M_receive) B.pre
  have hown : s.vm.findClass R_M = some m.cls := findClass_of_methodNamed B.named
  have hlocks := B.notSynchronized
  have hS : va_S (km_A ad) s.heap s.heap [] := va_S.rf
  generalize hf : mf_receive μ q = out
  have hl := lv_entry ([.ref (ad 0), .int q]) (n := 4) (Nat.le_of_ble_eq_true rfl)
  rw [lg_entry_eq]
  generalize (lg_sl ([.ref (ad 0), .int q]) ++ List.replicate (4 - (lg_sl ([.ref (ad 0), .int q])).length) Slot.unset).toArray = ls at hl ⊢
  have hl : lv_has ls 4 [(0, .ref (ad 0)), (1, .int q)] := hl
  rw [mf_receive] at hf
  refine lv_aload_n hx hb dM_receive_0 rfl (lv_at hl 0 rfl) ?_
  refine kk_ci (w := km_w ad cs) (As := []) (rest := []) ⟨hx, hb, hml, hown, hts⟩ (mc_running l dC dI ad cs hj μ hw  ) (cwV 0 hts gv_M_104 rfl rfl rfl (by decide +kernel) ⟨Nat.le_of_ble_eq_true rfl, Nat.le_of_ble_eq_true rfl⟩) (va_recv hK hP (ci := 3) (q0 := 0) rfl rfl) hP hK hS (fun _ h9 => h9) rfl hl.1 rfl (Nat.le_of_ble_eq_true rfl) dM_receive_1 ⟨Nat.zero_le _, Nat.zero_le _⟩ (fun r1 s1 H locs hq hP hS => ?_)
  obtain ⟨h1, hw, hx1⟩ := hq
  rw [kk_b_eq h1] at hf
  refine lv_istore_n (lv' := [(2, .int r1), (0, .ref (ad 0)), (1, .int q)]) hx hb dM_receive_4 rfl hl (by decide) rfl (fun ls hl => ?_)
  refine lv_aload_n hx hb dM_receive_5 rfl (lv_at hl 1 rfl) ?_
  refine lv_iload_n hx hb dM_receive_6 rfl (lv_at hl 2 rfl) ?_
  refine lv_iconst (v := 2) hx hb dM_receive_7 (by decide) ?_
  refine kk_cp (r0 := mf_out q 2) (w := km_w ad cs) (As := [.int q, .int 2]) (rest := []) ⟨hx, hb, hml, hown, hts⟩ (mc_out l (ad 0) q 2) (cwV 2 hts gv_M_100 rfl rfl rfl (by decide +kernel) ⟨Nat.le_of_ble_eq_true rfl, Nat.le_of_ble_eq_true rfl⟩) (va_recv hK hP (ci := 3) (q0 := 0) rfl rfl) hP hS rfl hl.1 rfl (Nat.le_of_ble_eq_true rfl) dM_receive_8 ⟨Nat.zero_le _, Nat.zero_le _⟩ (fun H locs hP hS => ?_)
  refine lv_if_ne (tgt := 18) hx hb dM_receive_11 (by decide) (fun c_11 => ?_) (fun c_11 => ?_)
  · rw [if_neg c_11] at hf
    refine lv_iconst (v := (-1)) hx hb dM_receive_18 (by decide) ?_
    exact kk_iret hx hb hr hlocks hP hK hS ⟨hf.symm, hw⟩ dM_receive_19
  · rw [if_pos c_11] at hf
    refine lv_iload_n hx hb dM_receive_14 rfl (lv_at hl 0 rfl) ?_
    refine lv_if_ge (tgt := 20) hx hb dM_receive_15 (by decide) (fun c_15 => ?_) (fun c_15 => ?_)
    · rw [if_pos c_15] at hf
      have hq9 : vp_in q 2 := (km_in (by decide) c_11)
      rcases Classical.em (q = 0) with c_q | c_q
      · rw [if_pos c_q] at hf
        subst c_q
        refine lv_aload_n hx hb dM_receive_20 rfl (lv_at hl 1 rfl) ?_
        refine va_get (D := (dC, dI)) (ci := 3) (v := .ref (ad 16)) (C := R_M) (T := T_M) (N := 23) hx hb hts uw_M hown hK hP 0 rfl rfl 19 (by decide) (hts _ (List.mem_cons_of_mem _ wd_350)) (fun _ h9 => h9) rfl dM_receive_21 ?_
        refine lv_iload_n hx hb dM_receive_24 rfl (lv_at hl 2 rfl) ?_
        refine va_iald hx hb hK hP 16 15 rfl rfl (kk_inl (by decide)) dM_receive_25 ?_
        rw [kk_c0]
        refine lv_if_ne (tgt := 41) hx hb dM_receive_26 (by decide) (fun c_26 => ?_) (fun c_26 => ?_)
        · rw [if_neg c_26] at hf
          have hw0 := hw
          refine lv_aload_n hx hb dM_receive_41 rfl (lv_at hl 1 rfl) ?_
          refine va_get (D := (dC, dI)) (ci := 3) (v := .ref (ad 8)) (C := R_M) (T := T_M) (N := 23) hx hb hts uw_M hown hK hP 0 rfl rfl 11 (by decide) (hts _ (List.mem_cons_of_mem _ wd_342)) (fun _ h9 => h9) rfl dM_receive_42 ?_
          refine lv_iload_n hx hb dM_receive_45 rfl (lv_at hl 0 rfl) ?_
          refine lv_aload_n hx hb dM_receive_46 rfl (lv_at hl 1 rfl) ?_
          refine va_get (D := (dC, dI)) (ci := 3) (v := .ref (ad 18)) (C := R_M) (T := T_M) (N := 23) hx hb hts uw_M hown hK hP 0 rfl rfl 21 (by decide) (hts _ (List.mem_cons_of_mem _ wd_352)) (fun _ h9 => h9) rfl dM_receive_47 ?_
          refine lv_iload_n hx hb dM_receive_50 rfl (lv_at hl 2 rfl) ?_
          refine lv_iconst (v := 4) hx hb dM_receive_51 (by decide) ?_
          refine lv_imul hx hb dM_receive_52 ?_
          refine lv_topi (fun z9 e9 => ?_)
          obtain rfl : z9 = 0 := e9.trans (by decide)
          refine va_iald hx hb hK hP 18 17 rfl rfl (kk_inl (by decide)) dM_receive_53 ?_
          rw [kk_c0]
          refine va_iast hx hb hK hP (km_D hj) hS 8 7 rfl rfl (hx1.resolve_left (kk_ge c_15)) dM_receive_54 (fun H locs hP _ hS => ?_)
          replace hP := km_u_result hP
          replace hw := km_wf_I (f := 11) (i := r1.toNatClampNeg) (v := mI s1 21 0) hw (by decide)
          refine lv_iload_n hx hb dM_receive_55 rfl (lv_at hl 2 rfl) ?_
          refine lv_iconst (v := 4) hx hb dM_receive_56 (by decide) ?_
          refine lv_imul hx hb dM_receive_57 ?_
          refine lv_topi (fun z9 e9 => ?_)
          obtain rfl : z9 = 0 := e9.trans (by decide)
          refine lv_istore_n (lv' := [(3, .int 0), (2, .int r1), (0, .ref (ad 0)), (1, .int 0)]) hx hb dM_receive_58 rfl hl (by decide) rfl (fun ls hl => ?_)
          refine lv_iload_n hx hb dM_receive_59 rfl (lv_at hl 0 rfl) ?_
          refine lv_iload_n hx hb dM_receive_60 rfl (lv_at hl 3 rfl) ?_
          refine lv_iconst (v := 4) hx hb dM_receive_61 (by decide) ?_
          refine lv_imul hx hb dM_receive_62 ?_
          refine lv_topi (fun z9 e9 => ?_)
          obtain rfl : z9 = 0 := e9.trans (by decide)
          refine lv_iconst (v := 3) hx hb dM_receive_63 (by decide) ?_
          refine lv_iadd hx hb dM_receive_64 ?_
          refine lv_topi (fun z9 e9 => ?_)
          obtain rfl : z9 = 3 := e9.trans (by decide)
          refine lv_icmp_ge (tgt := 102) hx hb dM_receive_65 (by decide) (fun c9 => absurd c9 (by decide)) (fun _ => ?_)
          refine lv_aload_n hx hb dM_receive_68 rfl (lv_at hl 2 rfl) ?_
          refine va_get (D := (dC, dI)) (ci := 3) (v := .ref (ad 17)) (C := R_M) (T := T_M) (N := 23) hx hb hts uw_M hown hK hP 0 rfl rfl 20 (by decide) (hts _ (List.mem_cons_of_mem _ wd_351)) (fun _ h9 => h9) rfl dM_receive_69 ?_
          refine lv_iload_n hx hb dM_receive_72 rfl (lv_at hl 0 rfl) ?_
          refine lv_aload_n hx hb dM_receive_73 rfl (lv_at hl 2 rfl) ?_
          refine va_get (D := (dC, dI)) (ci := 3) (v := .ref (ad 17)) (C := R_M) (T := T_M) (N := 23) hx hb hts uw_M hown hK hP 0 rfl rfl 20 (by decide) (hts _ (List.mem_cons_of_mem _ wd_351)) (fun _ h9 => h9) rfl dM_receive_74 ?_
          refine lv_iload_n hx hb dM_receive_77 rfl (lv_at hl 0 rfl) ?_
          refine lv_iconst (v := 1) hx hb dM_receive_78 (by decide) ?_
          refine lv_iadd hx hb dM_receive_79 ?_
          refine lv_topi (fun z9 e9 => ?_)
          obtain rfl : z9 = 1 := e9.trans (by decide)
          refine va_iald hx hb hK hP 17 16 rfl rfl (kk_inl (by decide)) dM_receive_80 ?_
          rw [kk_c1]
          refine va_iast hx hb hK hP (km_D hj) hS 17 16 rfl rfl (kk_inl (by decide)) dM_receive_81 (fun H locs hP _ hS => ?_)
          rw [kk_c0] at hP
          replace hP := km_u_messageRank hP
          replace hw := km_wf_I (f := 20) (i := 0) (v := mI (sM s1 11 r1.toNatClampNeg (mI s1 21 0)) 20 1) hw (by decide)
          refine lv_aload_n hx hb dM_receive_82 rfl (lv_at hl 2 rfl) ?_
          refine va_get (D := (dC, dI)) (ci := 3) (v := .ref (ad 18)) (C := R_M) (T := T_M) (N := 23) hx hb hts uw_M hown hK hP 0 rfl rfl 21 (by decide) (hts _ (List.mem_cons_of_mem _ wd_352)) (fun _ h9 => h9) rfl dM_receive_83 ?_
          refine lv_iload_n hx hb dM_receive_86 rfl (lv_at hl 0 rfl) ?_
          refine lv_aload_n hx hb dM_receive_87 rfl (lv_at hl 2 rfl) ?_
          refine va_get (D := (dC, dI)) (ci := 3) (v := .ref (ad 18)) (C := R_M) (T := T_M) (N := 23) hx hb hts uw_M hown hK hP 0 rfl rfl 21 (by decide) (hts _ (List.mem_cons_of_mem _ wd_352)) (fun _ h9 => h9) rfl dM_receive_88 ?_
          refine lv_iload_n hx hb dM_receive_91 rfl (lv_at hl 0 rfl) ?_
          refine lv_iconst (v := 1) hx hb dM_receive_92 (by decide) ?_
          refine lv_iadd hx hb dM_receive_93 ?_
          refine lv_topi (fun z9 e9 => ?_)
          obtain rfl : z9 = 1 := e9.trans (by decide)
          refine va_iald hx hb hK hP 18 17 rfl rfl (kk_inl (by decide)) dM_receive_94 ?_
          rw [kk_c1]
          refine va_iast hx hb hK hP (km_D hj) hS 18 17 rfl rfl (kk_inl (by decide)) dM_receive_95 (fun H locs hP _ hS => ?_)
          rw [kk_c0] at hP
          replace hP := km_u_messageValue hP
          replace hw := km_wf_I (f := 21) (i := 0) (v := mI (sM (sM s1 11 r1.toNatClampNeg (mI s1 21 0)) 20 0 (mI (sM s1 11 r1.toNatClampNeg (mI s1 21 0)) 20 1)) 21 1) hw (by decide)
          refine lv_iinc (v := 1) (lv' := [(3, .int 1), (2, .int r1), (0, .ref (ad 0)), (1, .int 0)]) hx hb dM_receive_96 hl (k := 0) rfl (by decide) (by decide) rfl (fun ls hl => ?_)
          refine lv_goto (tgt := 59) hx hb dM_receive_99 (by decide) ?_
          refine lv_iload_n hx hb dM_receive_59 rfl (lv_at hl 0 rfl) ?_
          refine lv_iload_n hx hb dM_receive_60 rfl (lv_at hl 3 rfl) ?_
          refine lv_iconst (v := 4) hx hb dM_receive_61 (by decide) ?_
          refine lv_imul hx hb dM_receive_62 ?_
          refine lv_topi (fun z9 e9 => ?_)
          obtain rfl : z9 = 0 := e9.trans (by decide)
          refine lv_iconst (v := 3) hx hb dM_receive_63 (by decide) ?_
          refine lv_iadd hx hb dM_receive_64 ?_
          refine lv_topi (fun z9 e9 => ?_)
          obtain rfl : z9 = 3 := e9.trans (by decide)
          refine lv_icmp_ge (tgt := 102) hx hb dM_receive_65 (by decide) (fun c9 => absurd c9 (by decide)) (fun _ => ?_)
          refine lv_aload_n hx hb dM_receive_68 rfl (lv_at hl 2 rfl) ?_
          refine va_get (D := (dC, dI)) (ci := 3) (v := .ref (ad 17)) (C := R_M) (T := T_M) (N := 23) hx hb hts uw_M hown hK hP 0 rfl rfl 20 (by decide) (hts _ (List.mem_cons_of_mem _ wd_351)) (fun _ h9 => h9) rfl dM_receive_69 ?_
          refine lv_iload_n hx hb dM_receive_72 rfl (lv_at hl 0 rfl) ?_
          refine lv_aload_n hx hb dM_receive_73 rfl (lv_at hl 2 rfl) ?_
          refine va_get (D := (dC, dI)) (ci := 3) (v := .ref (ad 17)) (C := R_M) (T := T_M) (N := 23) hx hb hts uw_M hown hK hP 0 rfl rfl 20 (by decide) (hts _ (List.mem_cons_of_mem _ wd_351)) (fun _ h9 => h9) rfl dM_receive_74 ?_
          refine lv_iload_n hx hb dM_receive_77 rfl (lv_at hl 0 rfl) ?_
          refine lv_iconst (v := 1) hx hb dM_receive_78 (by decide) ?_
          refine lv_iadd hx hb dM_receive_79 ?_
          refine lv_topi (fun z9 e9 => ?_)
          obtain rfl : z9 = 2 := e9.trans (by decide)
          refine va_iald hx hb hK hP 17 16 rfl rfl (kk_inl (by decide)) dM_receive_80 ?_
          rw [kk_c2]
          refine va_iast hx hb hK hP (km_D hj) hS 17 16 rfl rfl (kk_inl (by decide)) dM_receive_81 (fun H locs hP _ hS => ?_)
          rw [kk_c1] at hP
          replace hP := km_u_messageRank hP
          replace hw := km_wf_I (f := 20) (i := 1) (v := mI (sM (sM (sM s1 11 r1.toNatClampNeg (mI s1 21 0)) 20 0 (mI (sM s1 11 r1.toNatClampNeg (mI s1 21 0)) 20 1)) 21 0 (mI (sM (sM s1 11 r1.toNatClampNeg (mI s1 21 0)) 20 0 (mI (sM s1 11 r1.toNatClampNeg (mI s1 21 0)) 20 1)) 21 1)) 20 2) hw (by decide)
          refine lv_aload_n hx hb dM_receive_82 rfl (lv_at hl 2 rfl) ?_
          refine va_get (D := (dC, dI)) (ci := 3) (v := .ref (ad 18)) (C := R_M) (T := T_M) (N := 23) hx hb hts uw_M hown hK hP 0 rfl rfl 21 (by decide) (hts _ (List.mem_cons_of_mem _ wd_352)) (fun _ h9 => h9) rfl dM_receive_83 ?_
          refine lv_iload_n hx hb dM_receive_86 rfl (lv_at hl 0 rfl) ?_
          refine lv_aload_n hx hb dM_receive_87 rfl (lv_at hl 2 rfl) ?_
          refine va_get (D := (dC, dI)) (ci := 3) (v := .ref (ad 18)) (C := R_M) (T := T_M) (N := 23) hx hb hts uw_M hown hK hP 0 rfl rfl 21 (by decide) (hts _ (List.mem_cons_of_mem _ wd_352)) (fun _ h9 => h9) rfl dM_receive_88 ?_
          refine lv_iload_n hx hb dM_receive_91 rfl (lv_at hl 0 rfl) ?_
          refine lv_iconst (v := 1) hx hb dM_receive_92 (by decide) ?_
          refine lv_iadd hx hb dM_receive_93 ?_
          refine lv_topi (fun z9 e9 => ?_)
          obtain rfl : z9 = 2 := e9.trans (by decide)
          refine va_iald hx hb hK hP 18 17 rfl rfl (kk_inl (by decide)) dM_receive_94 ?_
          rw [kk_c2]
          refine va_iast hx hb hK hP (km_D hj) hS 18 17 rfl rfl (kk_inl (by decide)) dM_receive_95 (fun H locs hP _ hS => ?_)
          rw [kk_c1] at hP
          replace hP := km_u_messageValue hP
          replace hw := km_wf_I (f := 21) (i := 1) (v := mI (sM (sM (sM (sM s1 11 r1.toNatClampNeg (mI s1 21 0)) 20 0 (mI (sM s1 11 r1.toNatClampNeg (mI s1 21 0)) 20 1)) 21 0 (mI (sM (sM s1 11 r1.toNatClampNeg (mI s1 21 0)) 20 0 (mI (sM s1 11 r1.toNatClampNeg (mI s1 21 0)) 20 1)) 21 1)) 20 1 (mI (sM (sM (sM s1 11 r1.toNatClampNeg (mI s1 21 0)) 20 0 (mI (sM s1 11 r1.toNatClampNeg (mI s1 21 0)) 20 1)) 21 0 (mI (sM (sM s1 11 r1.toNatClampNeg (mI s1 21 0)) 20 0 (mI (sM s1 11 r1.toNatClampNeg (mI s1 21 0)) 20 1)) 21 1)) 20 2)) 21 2) hw (by decide)
          refine lv_iinc (v := 2) (lv' := [(3, .int 2), (2, .int r1), (0, .ref (ad 0)), (1, .int 0)]) hx hb dM_receive_96 hl (k := 0) rfl (by decide) (by decide) rfl (fun ls hl => ?_)
          refine lv_goto (tgt := 59) hx hb dM_receive_99 (by decide) ?_
          refine lv_iload_n hx hb dM_receive_59 rfl (lv_at hl 0 rfl) ?_
          refine lv_iload_n hx hb dM_receive_60 rfl (lv_at hl 3 rfl) ?_
          refine lv_iconst (v := 4) hx hb dM_receive_61 (by decide) ?_
          refine lv_imul hx hb dM_receive_62 ?_
          refine lv_topi (fun z9 e9 => ?_)
          obtain rfl : z9 = 0 := e9.trans (by decide)
          refine lv_iconst (v := 3) hx hb dM_receive_63 (by decide) ?_
          refine lv_iadd hx hb dM_receive_64 ?_
          refine lv_topi (fun z9 e9 => ?_)
          obtain rfl : z9 = 3 := e9.trans (by decide)
          refine lv_icmp_ge (tgt := 102) hx hb dM_receive_65 (by decide) (fun c9 => absurd c9 (by decide)) (fun _ => ?_)
          refine lv_aload_n hx hb dM_receive_68 rfl (lv_at hl 2 rfl) ?_
          refine va_get (D := (dC, dI)) (ci := 3) (v := .ref (ad 17)) (C := R_M) (T := T_M) (N := 23) hx hb hts uw_M hown hK hP 0 rfl rfl 20 (by decide) (hts _ (List.mem_cons_of_mem _ wd_351)) (fun _ h9 => h9) rfl dM_receive_69 ?_
          refine lv_iload_n hx hb dM_receive_72 rfl (lv_at hl 0 rfl) ?_
          refine lv_aload_n hx hb dM_receive_73 rfl (lv_at hl 2 rfl) ?_
          refine va_get (D := (dC, dI)) (ci := 3) (v := .ref (ad 17)) (C := R_M) (T := T_M) (N := 23) hx hb hts uw_M hown hK hP 0 rfl rfl 20 (by decide) (hts _ (List.mem_cons_of_mem _ wd_351)) (fun _ h9 => h9) rfl dM_receive_74 ?_
          refine lv_iload_n hx hb dM_receive_77 rfl (lv_at hl 0 rfl) ?_
          refine lv_iconst (v := 1) hx hb dM_receive_78 (by decide) ?_
          refine lv_iadd hx hb dM_receive_79 ?_
          refine lv_topi (fun z9 e9 => ?_)
          obtain rfl : z9 = 3 := e9.trans (by decide)
          refine va_iald hx hb hK hP 17 16 rfl rfl (kk_inl (by decide)) dM_receive_80 ?_
          rw [kk_c3]
          refine va_iast hx hb hK hP (km_D hj) hS 17 16 rfl rfl (kk_inl (by decide)) dM_receive_81 (fun H locs hP _ hS => ?_)
          rw [kk_c2] at hP
          replace hP := km_u_messageRank hP
          replace hw := km_wf_I (f := 20) (i := 2) (v := mI (sM (sM (sM (sM (sM s1 11 r1.toNatClampNeg (mI s1 21 0)) 20 0 (mI (sM s1 11 r1.toNatClampNeg (mI s1 21 0)) 20 1)) 21 0 (mI (sM (sM s1 11 r1.toNatClampNeg (mI s1 21 0)) 20 0 (mI (sM s1 11 r1.toNatClampNeg (mI s1 21 0)) 20 1)) 21 1)) 20 1 (mI (sM (sM (sM s1 11 r1.toNatClampNeg (mI s1 21 0)) 20 0 (mI (sM s1 11 r1.toNatClampNeg (mI s1 21 0)) 20 1)) 21 0 (mI (sM (sM s1 11 r1.toNatClampNeg (mI s1 21 0)) 20 0 (mI (sM s1 11 r1.toNatClampNeg (mI s1 21 0)) 20 1)) 21 1)) 20 2)) 21 1 (mI (sM (sM (sM (sM s1 11 r1.toNatClampNeg (mI s1 21 0)) 20 0 (mI (sM s1 11 r1.toNatClampNeg (mI s1 21 0)) 20 1)) 21 0 (mI (sM (sM s1 11 r1.toNatClampNeg (mI s1 21 0)) 20 0 (mI (sM s1 11 r1.toNatClampNeg (mI s1 21 0)) 20 1)) 21 1)) 20 1 (mI (sM (sM (sM s1 11 r1.toNatClampNeg (mI s1 21 0)) 20 0 (mI (sM s1 11 r1.toNatClampNeg (mI s1 21 0)) 20 1)) 21 0 (mI (sM (sM s1 11 r1.toNatClampNeg (mI s1 21 0)) 20 0 (mI (sM s1 11 r1.toNatClampNeg (mI s1 21 0)) 20 1)) 21 1)) 20 2)) 21 2)) 20 3) hw (by decide)
          refine lv_aload_n hx hb dM_receive_82 rfl (lv_at hl 2 rfl) ?_
          refine va_get (D := (dC, dI)) (ci := 3) (v := .ref (ad 18)) (C := R_M) (T := T_M) (N := 23) hx hb hts uw_M hown hK hP 0 rfl rfl 21 (by decide) (hts _ (List.mem_cons_of_mem _ wd_352)) (fun _ h9 => h9) rfl dM_receive_83 ?_
          refine lv_iload_n hx hb dM_receive_86 rfl (lv_at hl 0 rfl) ?_
          refine lv_aload_n hx hb dM_receive_87 rfl (lv_at hl 2 rfl) ?_
          refine va_get (D := (dC, dI)) (ci := 3) (v := .ref (ad 18)) (C := R_M) (T := T_M) (N := 23) hx hb hts uw_M hown hK hP 0 rfl rfl 21 (by decide) (hts _ (List.mem_cons_of_mem _ wd_352)) (fun _ h9 => h9) rfl dM_receive_88 ?_
          refine lv_iload_n hx hb dM_receive_91 rfl (lv_at hl 0 rfl) ?_
          refine lv_iconst (v := 1) hx hb dM_receive_92 (by decide) ?_
          refine lv_iadd hx hb dM_receive_93 ?_
          refine lv_topi (fun z9 e9 => ?_)
          obtain rfl : z9 = 3 := e9.trans (by decide)
          refine va_iald hx hb hK hP 18 17 rfl rfl (kk_inl (by decide)) dM_receive_94 ?_
          rw [kk_c3]
          refine va_iast hx hb hK hP (km_D hj) hS 18 17 rfl rfl (kk_inl (by decide)) dM_receive_95 (fun H locs hP _ hS => ?_)
          rw [kk_c2] at hP
          replace hP := km_u_messageValue hP
          replace hw := km_wf_I (f := 21) (i := 2) (v := mI (sM (sM (sM (sM (sM (sM s1 11 r1.toNatClampNeg (mI s1 21 0)) 20 0 (mI (sM s1 11 r1.toNatClampNeg (mI s1 21 0)) 20 1)) 21 0 (mI (sM (sM s1 11 r1.toNatClampNeg (mI s1 21 0)) 20 0 (mI (sM s1 11 r1.toNatClampNeg (mI s1 21 0)) 20 1)) 21 1)) 20 1 (mI (sM (sM (sM s1 11 r1.toNatClampNeg (mI s1 21 0)) 20 0 (mI (sM s1 11 r1.toNatClampNeg (mI s1 21 0)) 20 1)) 21 0 (mI (sM (sM s1 11 r1.toNatClampNeg (mI s1 21 0)) 20 0 (mI (sM s1 11 r1.toNatClampNeg (mI s1 21 0)) 20 1)) 21 1)) 20 2)) 21 1 (mI (sM (sM (sM (sM s1 11 r1.toNatClampNeg (mI s1 21 0)) 20 0 (mI (sM s1 11 r1.toNatClampNeg (mI s1 21 0)) 20 1)) 21 0 (mI (sM (sM s1 11 r1.toNatClampNeg (mI s1 21 0)) 20 0 (mI (sM s1 11 r1.toNatClampNeg (mI s1 21 0)) 20 1)) 21 1)) 20 1 (mI (sM (sM (sM s1 11 r1.toNatClampNeg (mI s1 21 0)) 20 0 (mI (sM s1 11 r1.toNatClampNeg (mI s1 21 0)) 20 1)) 21 0 (mI (sM (sM s1 11 r1.toNatClampNeg (mI s1 21 0)) 20 0 (mI (sM s1 11 r1.toNatClampNeg (mI s1 21 0)) 20 1)) 21 1)) 20 2)) 21 2)) 20 2 (mI (sM (sM (sM (sM (sM s1 11 r1.toNatClampNeg (mI s1 21 0)) 20 0 (mI (sM s1 11 r1.toNatClampNeg (mI s1 21 0)) 20 1)) 21 0 (mI (sM (sM s1 11 r1.toNatClampNeg (mI s1 21 0)) 20 0 (mI (sM s1 11 r1.toNatClampNeg (mI s1 21 0)) 20 1)) 21 1)) 20 1 (mI (sM (sM (sM s1 11 r1.toNatClampNeg (mI s1 21 0)) 20 0 (mI (sM s1 11 r1.toNatClampNeg (mI s1 21 0)) 20 1)) 21 0 (mI (sM (sM s1 11 r1.toNatClampNeg (mI s1 21 0)) 20 0 (mI (sM s1 11 r1.toNatClampNeg (mI s1 21 0)) 20 1)) 21 1)) 20 2)) 21 1 (mI (sM (sM (sM (sM s1 11 r1.toNatClampNeg (mI s1 21 0)) 20 0 (mI (sM s1 11 r1.toNatClampNeg (mI s1 21 0)) 20 1)) 21 0 (mI (sM (sM s1 11 r1.toNatClampNeg (mI s1 21 0)) 20 0 (mI (sM s1 11 r1.toNatClampNeg (mI s1 21 0)) 20 1)) 21 1)) 20 1 (mI (sM (sM (sM s1 11 r1.toNatClampNeg (mI s1 21 0)) 20 0 (mI (sM s1 11 r1.toNatClampNeg (mI s1 21 0)) 20 1)) 21 0 (mI (sM (sM s1 11 r1.toNatClampNeg (mI s1 21 0)) 20 0 (mI (sM s1 11 r1.toNatClampNeg (mI s1 21 0)) 20 1)) 21 1)) 20 2)) 21 2)) 20 3)) 21 3) hw (by decide)
          refine lv_iinc (v := 3) (lv' := [(3, .int 3), (2, .int r1), (0, .ref (ad 0)), (1, .int 0)]) hx hb dM_receive_96 hl (k := 0) rfl (by decide) (by decide) rfl (fun ls hl => ?_)
          refine lv_goto (tgt := 59) hx hb dM_receive_99 (by decide) ?_
          refine lv_iload_n hx hb dM_receive_59 rfl (lv_at hl 0 rfl) ?_
          refine lv_iload_n hx hb dM_receive_60 rfl (lv_at hl 3 rfl) ?_
          refine lv_iconst (v := 4) hx hb dM_receive_61 (by decide) ?_
          refine lv_imul hx hb dM_receive_62 ?_
          refine lv_topi (fun z9 e9 => ?_)
          obtain rfl : z9 = 0 := e9.trans (by decide)
          refine lv_iconst (v := 3) hx hb dM_receive_63 (by decide) ?_
          refine lv_iadd hx hb dM_receive_64 ?_
          refine lv_topi (fun z9 e9 => ?_)
          obtain rfl : z9 = 3 := e9.trans (by decide)
          refine lv_icmp_ge (tgt := 102) hx hb dM_receive_65 (by decide) (fun _ => ?_) (fun c9 => absurd (by decide) c9)
          refine lv_aload_n hx hb dM_receive_102 rfl (lv_at hl 2 rfl) ?_
          refine va_get (D := (dC, dI)) (ci := 3) (v := .ref (ad 16)) (C := R_M) (T := T_M) (N := 23) hx hb hts uw_M hown hK hP 0 rfl rfl 19 (by decide) (hts _ (List.mem_cons_of_mem _ wd_350)) (fun _ h9 => h9) rfl dM_receive_103 ?_
          refine lv_iload_n hx hb dM_receive_106 rfl (lv_at hl 3 rfl) ?_
          refine lv_dup2_11 hx hb dM_receive_107 rfl rfl ?_
          refine va_iald hx hb hK hP 16 15 rfl rfl (kk_inl (by decide)) dM_receive_108 ?_
          rw [kk_c0]
          refine lv_iconst (v := 1) hx hb dM_receive_109 (by decide) ?_
          refine lv_isub hx hb dM_receive_110 ?_
          refine va_iast hx hb hK hP (km_D hj) hS 16 15 rfl rfl (kk_inl (by decide)) dM_receive_111 (fun H locs hP _ hS => ?_)
          rw [kk_c0] at hP
          replace hP := km_u_messages hP
          replace hw : km_wf (sM (sM (sM (sM (sM (sM (sM (sM s1 11 r1.toNatClampNeg (mI s1 21 0)) 20 0 (mI (sM s1 11 r1.toNatClampNeg (mI s1 21 0)) 20 1)) 21 0 (mI (sM (sM s1 11 r1.toNatClampNeg (mI s1 21 0)) 20 0 (mI (sM s1 11 r1.toNatClampNeg (mI s1 21 0)) 20 1)) 21 1)) 20 1 (mI (sM (sM (sM s1 11 r1.toNatClampNeg (mI s1 21 0)) 20 0 (mI (sM s1 11 r1.toNatClampNeg (mI s1 21 0)) 20 1)) 21 0 (mI (sM (sM s1 11 r1.toNatClampNeg (mI s1 21 0)) 20 0 (mI (sM s1 11 r1.toNatClampNeg (mI s1 21 0)) 20 1)) 21 1)) 20 2)) 21 1 (mI (sM (sM (sM (sM s1 11 r1.toNatClampNeg (mI s1 21 0)) 20 0 (mI (sM s1 11 r1.toNatClampNeg (mI s1 21 0)) 20 1)) 21 0 (mI (sM (sM s1 11 r1.toNatClampNeg (mI s1 21 0)) 20 0 (mI (sM s1 11 r1.toNatClampNeg (mI s1 21 0)) 20 1)) 21 1)) 20 1 (mI (sM (sM (sM s1 11 r1.toNatClampNeg (mI s1 21 0)) 20 0 (mI (sM s1 11 r1.toNatClampNeg (mI s1 21 0)) 20 1)) 21 0 (mI (sM (sM s1 11 r1.toNatClampNeg (mI s1 21 0)) 20 0 (mI (sM s1 11 r1.toNatClampNeg (mI s1 21 0)) 20 1)) 21 1)) 20 2)) 21 2)) 20 2 (mI (sM (sM (sM (sM (sM s1 11 r1.toNatClampNeg (mI s1 21 0)) 20 0 (mI (sM s1 11 r1.toNatClampNeg (mI s1 21 0)) 20 1)) 21 0 (mI (sM (sM s1 11 r1.toNatClampNeg (mI s1 21 0)) 20 0 (mI (sM s1 11 r1.toNatClampNeg (mI s1 21 0)) 20 1)) 21 1)) 20 1 (mI (sM (sM (sM s1 11 r1.toNatClampNeg (mI s1 21 0)) 20 0 (mI (sM s1 11 r1.toNatClampNeg (mI s1 21 0)) 20 1)) 21 0 (mI (sM (sM s1 11 r1.toNatClampNeg (mI s1 21 0)) 20 0 (mI (sM s1 11 r1.toNatClampNeg (mI s1 21 0)) 20 1)) 21 1)) 20 2)) 21 1 (mI (sM (sM (sM (sM s1 11 r1.toNatClampNeg (mI s1 21 0)) 20 0 (mI (sM s1 11 r1.toNatClampNeg (mI s1 21 0)) 20 1)) 21 0 (mI (sM (sM s1 11 r1.toNatClampNeg (mI s1 21 0)) 20 0 (mI (sM s1 11 r1.toNatClampNeg (mI s1 21 0)) 20 1)) 21 1)) 20 1 (mI (sM (sM (sM s1 11 r1.toNatClampNeg (mI s1 21 0)) 20 0 (mI (sM s1 11 r1.toNatClampNeg (mI s1 21 0)) 20 1)) 21 0 (mI (sM (sM s1 11 r1.toNatClampNeg (mI s1 21 0)) 20 0 (mI (sM s1 11 r1.toNatClampNeg (mI s1 21 0)) 20 1)) 21 1)) 20 2)) 21 2)) 20 3)) 21 2 (mI (sM (sM (sM (sM (sM (sM s1 11 r1.toNatClampNeg (mI s1 21 0)) 20 0 (mI (sM s1 11 r1.toNatClampNeg (mI s1 21 0)) 20 1)) 21 0 (mI (sM (sM s1 11 r1.toNatClampNeg (mI s1 21 0)) 20 0 (mI (sM s1 11 r1.toNatClampNeg (mI s1 21 0)) 20 1)) 21 1)) 20 1 (mI (sM (sM (sM s1 11 r1.toNatClampNeg (mI s1 21 0)) 20 0 (mI (sM s1 11 r1.toNatClampNeg (mI s1 21 0)) 20 1)) 21 0 (mI (sM (sM s1 11 r1.toNatClampNeg (mI s1 21 0)) 20 0 (mI (sM s1 11 r1.toNatClampNeg (mI s1 21 0)) 20 1)) 21 1)) 20 2)) 21 1 (mI (sM (sM (sM (sM s1 11 r1.toNatClampNeg (mI s1 21 0)) 20 0 (mI (sM s1 11 r1.toNatClampNeg (mI s1 21 0)) 20 1)) 21 0 (mI (sM (sM s1 11 r1.toNatClampNeg (mI s1 21 0)) 20 0 (mI (sM s1 11 r1.toNatClampNeg (mI s1 21 0)) 20 1)) 21 1)) 20 1 (mI (sM (sM (sM s1 11 r1.toNatClampNeg (mI s1 21 0)) 20 0 (mI (sM s1 11 r1.toNatClampNeg (mI s1 21 0)) 20 1)) 21 0 (mI (sM (sM s1 11 r1.toNatClampNeg (mI s1 21 0)) 20 0 (mI (sM s1 11 r1.toNatClampNeg (mI s1 21 0)) 20 1)) 21 1)) 20 2)) 21 2)) 20 2 (mI (sM (sM (sM (sM (sM s1 11 r1.toNatClampNeg (mI s1 21 0)) 20 0 (mI (sM s1 11 r1.toNatClampNeg (mI s1 21 0)) 20 1)) 21 0 (mI (sM (sM s1 11 r1.toNatClampNeg (mI s1 21 0)) 20 0 (mI (sM s1 11 r1.toNatClampNeg (mI s1 21 0)) 20 1)) 21 1)) 20 1 (mI (sM (sM (sM s1 11 r1.toNatClampNeg (mI s1 21 0)) 20 0 (mI (sM s1 11 r1.toNatClampNeg (mI s1 21 0)) 20 1)) 21 0 (mI (sM (sM s1 11 r1.toNatClampNeg (mI s1 21 0)) 20 0 (mI (sM s1 11 r1.toNatClampNeg (mI s1 21 0)) 20 1)) 21 1)) 20 2)) 21 1 (mI (sM (sM (sM (sM s1 11 r1.toNatClampNeg (mI s1 21 0)) 20 0 (mI (sM s1 11 r1.toNatClampNeg (mI s1 21 0)) 20 1)) 21 0 (mI (sM (sM s1 11 r1.toNatClampNeg (mI s1 21 0)) 20 0 (mI (sM s1 11 r1.toNatClampNeg (mI s1 21 0)) 20 1)) 21 1)) 20 1 (mI (sM (sM (sM s1 11 r1.toNatClampNeg (mI s1 21 0)) 20 0 (mI (sM s1 11 r1.toNatClampNeg (mI s1 21 0)) 20 1)) 21 0 (mI (sM (sM s1 11 r1.toNatClampNeg (mI s1 21 0)) 20 0 (mI (sM s1 11 r1.toNatClampNeg (mI s1 21 0)) 20 1)) 21 1)) 20 2)) 21 2)) 20 3)) 21 3)) 19 0 ((mI (sM (sM (sM (sM (sM (sM (sM s1 11 r1.toNatClampNeg (mI s1 21 0)) 20 0 (mI (sM s1 11 r1.toNatClampNeg (mI s1 21 0)) 20 1)) 21 0 (mI (sM (sM s1 11 r1.toNatClampNeg (mI s1 21 0)) 20 0 (mI (sM s1 11 r1.toNatClampNeg (mI s1 21 0)) 20 1)) 21 1)) 20 1 (mI (sM (sM (sM s1 11 r1.toNatClampNeg (mI s1 21 0)) 20 0 (mI (sM s1 11 r1.toNatClampNeg (mI s1 21 0)) 20 1)) 21 0 (mI (sM (sM s1 11 r1.toNatClampNeg (mI s1 21 0)) 20 0 (mI (sM s1 11 r1.toNatClampNeg (mI s1 21 0)) 20 1)) 21 1)) 20 2)) 21 1 (mI (sM (sM (sM (sM s1 11 r1.toNatClampNeg (mI s1 21 0)) 20 0 (mI (sM s1 11 r1.toNatClampNeg (mI s1 21 0)) 20 1)) 21 0 (mI (sM (sM s1 11 r1.toNatClampNeg (mI s1 21 0)) 20 0 (mI (sM s1 11 r1.toNatClampNeg (mI s1 21 0)) 20 1)) 21 1)) 20 1 (mI (sM (sM (sM s1 11 r1.toNatClampNeg (mI s1 21 0)) 20 0 (mI (sM s1 11 r1.toNatClampNeg (mI s1 21 0)) 20 1)) 21 0 (mI (sM (sM s1 11 r1.toNatClampNeg (mI s1 21 0)) 20 0 (mI (sM s1 11 r1.toNatClampNeg (mI s1 21 0)) 20 1)) 21 1)) 20 2)) 21 2)) 20 2 (mI (sM (sM (sM (sM (sM s1 11 r1.toNatClampNeg (mI s1 21 0)) 20 0 (mI (sM s1 11 r1.toNatClampNeg (mI s1 21 0)) 20 1)) 21 0 (mI (sM (sM s1 11 r1.toNatClampNeg (mI s1 21 0)) 20 0 (mI (sM s1 11 r1.toNatClampNeg (mI s1 21 0)) 20 1)) 21 1)) 20 1 (mI (sM (sM (sM s1 11 r1.toNatClampNeg (mI s1 21 0)) 20 0 (mI (sM s1 11 r1.toNatClampNeg (mI s1 21 0)) 20 1)) 21 0 (mI (sM (sM s1 11 r1.toNatClampNeg (mI s1 21 0)) 20 0 (mI (sM s1 11 r1.toNatClampNeg (mI s1 21 0)) 20 1)) 21 1)) 20 2)) 21 1 (mI (sM (sM (sM (sM s1 11 r1.toNatClampNeg (mI s1 21 0)) 20 0 (mI (sM s1 11 r1.toNatClampNeg (mI s1 21 0)) 20 1)) 21 0 (mI (sM (sM s1 11 r1.toNatClampNeg (mI s1 21 0)) 20 0 (mI (sM s1 11 r1.toNatClampNeg (mI s1 21 0)) 20 1)) 21 1)) 20 1 (mI (sM (sM (sM s1 11 r1.toNatClampNeg (mI s1 21 0)) 20 0 (mI (sM s1 11 r1.toNatClampNeg (mI s1 21 0)) 20 1)) 21 0 (mI (sM (sM s1 11 r1.toNatClampNeg (mI s1 21 0)) 20 0 (mI (sM s1 11 r1.toNatClampNeg (mI s1 21 0)) 20 1)) 21 1)) 20 2)) 21 2)) 20 3)) 21 2 (mI (sM (sM (sM (sM (sM (sM s1 11 r1.toNatClampNeg (mI s1 21 0)) 20 0 (mI (sM s1 11 r1.toNatClampNeg (mI s1 21 0)) 20 1)) 21 0 (mI (sM (sM s1 11 r1.toNatClampNeg (mI s1 21 0)) 20 0 (mI (sM s1 11 r1.toNatClampNeg (mI s1 21 0)) 20 1)) 21 1)) 20 1 (mI (sM (sM (sM s1 11 r1.toNatClampNeg (mI s1 21 0)) 20 0 (mI (sM s1 11 r1.toNatClampNeg (mI s1 21 0)) 20 1)) 21 0 (mI (sM (sM s1 11 r1.toNatClampNeg (mI s1 21 0)) 20 0 (mI (sM s1 11 r1.toNatClampNeg (mI s1 21 0)) 20 1)) 21 1)) 20 2)) 21 1 (mI (sM (sM (sM (sM s1 11 r1.toNatClampNeg (mI s1 21 0)) 20 0 (mI (sM s1 11 r1.toNatClampNeg (mI s1 21 0)) 20 1)) 21 0 (mI (sM (sM s1 11 r1.toNatClampNeg (mI s1 21 0)) 20 0 (mI (sM s1 11 r1.toNatClampNeg (mI s1 21 0)) 20 1)) 21 1)) 20 1 (mI (sM (sM (sM s1 11 r1.toNatClampNeg (mI s1 21 0)) 20 0 (mI (sM s1 11 r1.toNatClampNeg (mI s1 21 0)) 20 1)) 21 0 (mI (sM (sM s1 11 r1.toNatClampNeg (mI s1 21 0)) 20 0 (mI (sM s1 11 r1.toNatClampNeg (mI s1 21 0)) 20 1)) 21 1)) 20 2)) 21 2)) 20 2 (mI (sM (sM (sM (sM (sM s1 11 r1.toNatClampNeg (mI s1 21 0)) 20 0 (mI (sM s1 11 r1.toNatClampNeg (mI s1 21 0)) 20 1)) 21 0 (mI (sM (sM s1 11 r1.toNatClampNeg (mI s1 21 0)) 20 0 (mI (sM s1 11 r1.toNatClampNeg (mI s1 21 0)) 20 1)) 21 1)) 20 1 (mI (sM (sM (sM s1 11 r1.toNatClampNeg (mI s1 21 0)) 20 0 (mI (sM s1 11 r1.toNatClampNeg (mI s1 21 0)) 20 1)) 21 0 (mI (sM (sM s1 11 r1.toNatClampNeg (mI s1 21 0)) 20 0 (mI (sM s1 11 r1.toNatClampNeg (mI s1 21 0)) 20 1)) 21 1)) 20 2)) 21 1 (mI (sM (sM (sM (sM s1 11 r1.toNatClampNeg (mI s1 21 0)) 20 0 (mI (sM s1 11 r1.toNatClampNeg (mI s1 21 0)) 20 1)) 21 0 (mI (sM (sM s1 11 r1.toNatClampNeg (mI s1 21 0)) 20 0 (mI (sM s1 11 r1.toNatClampNeg (mI s1 21 0)) 20 1)) 21 1)) 20 1 (mI (sM (sM (sM s1 11 r1.toNatClampNeg (mI s1 21 0)) 20 0 (mI (sM s1 11 r1.toNatClampNeg (mI s1 21 0)) 20 1)) 21 0 (mI (sM (sM s1 11 r1.toNatClampNeg (mI s1 21 0)) 20 0 (mI (sM s1 11 r1.toNatClampNeg (mI s1 21 0)) 20 1)) 21 1)) 20 2)) 21 2)) 20 3)) 21 3)) 19 0) - 1)) := km_wf_q hw (km_mdec hw0 (by decide) c_26)
          refine lv_aload_n hx hb dM_receive_112 rfl (lv_at hl 2 rfl) ?_
          refine lv_bipush (v := 40) hx hb dM_receive_113 (by decide) ?_
          refine lv_iload_n hx hb dM_receive_115 rfl (lv_at hl 3 rfl) ?_
          refine lv_iadd hx hb dM_receive_116 ?_
          refine lv_topi (fun z9 e9 => ?_)
          obtain rfl : z9 = 40 := e9.trans (by decide)
          refine kk_ci (w := km_w ad cs) (As := [.int 40]) (rest := []) ⟨hx, hb, hml, hown, hts⟩ (mc_firstWaiter l dC dI ad cs hj (sM (sM (sM (sM (sM (sM (sM (sM s1 11 r1.toNatClampNeg (mI s1 21 0)) 20 0 (mI (sM s1 11 r1.toNatClampNeg (mI s1 21 0)) 20 1)) 21 0 (mI (sM (sM s1 11 r1.toNatClampNeg (mI s1 21 0)) 20 0 (mI (sM s1 11 r1.toNatClampNeg (mI s1 21 0)) 20 1)) 21 1)) 20 1 (mI (sM (sM (sM s1 11 r1.toNatClampNeg (mI s1 21 0)) 20 0 (mI (sM s1 11 r1.toNatClampNeg (mI s1 21 0)) 20 1)) 21 0 (mI (sM (sM s1 11 r1.toNatClampNeg (mI s1 21 0)) 20 0 (mI (sM s1 11 r1.toNatClampNeg (mI s1 21 0)) 20 1)) 21 1)) 20 2)) 21 1 (mI (sM (sM (sM (sM s1 11 r1.toNatClampNeg (mI s1 21 0)) 20 0 (mI (sM s1 11 r1.toNatClampNeg (mI s1 21 0)) 20 1)) 21 0 (mI (sM (sM s1 11 r1.toNatClampNeg (mI s1 21 0)) 20 0 (mI (sM s1 11 r1.toNatClampNeg (mI s1 21 0)) 20 1)) 21 1)) 20 1 (mI (sM (sM (sM s1 11 r1.toNatClampNeg (mI s1 21 0)) 20 0 (mI (sM s1 11 r1.toNatClampNeg (mI s1 21 0)) 20 1)) 21 0 (mI (sM (sM s1 11 r1.toNatClampNeg (mI s1 21 0)) 20 0 (mI (sM s1 11 r1.toNatClampNeg (mI s1 21 0)) 20 1)) 21 1)) 20 2)) 21 2)) 20 2 (mI (sM (sM (sM (sM (sM s1 11 r1.toNatClampNeg (mI s1 21 0)) 20 0 (mI (sM s1 11 r1.toNatClampNeg (mI s1 21 0)) 20 1)) 21 0 (mI (sM (sM s1 11 r1.toNatClampNeg (mI s1 21 0)) 20 0 (mI (sM s1 11 r1.toNatClampNeg (mI s1 21 0)) 20 1)) 21 1)) 20 1 (mI (sM (sM (sM s1 11 r1.toNatClampNeg (mI s1 21 0)) 20 0 (mI (sM s1 11 r1.toNatClampNeg (mI s1 21 0)) 20 1)) 21 0 (mI (sM (sM s1 11 r1.toNatClampNeg (mI s1 21 0)) 20 0 (mI (sM s1 11 r1.toNatClampNeg (mI s1 21 0)) 20 1)) 21 1)) 20 2)) 21 1 (mI (sM (sM (sM (sM s1 11 r1.toNatClampNeg (mI s1 21 0)) 20 0 (mI (sM s1 11 r1.toNatClampNeg (mI s1 21 0)) 20 1)) 21 0 (mI (sM (sM s1 11 r1.toNatClampNeg (mI s1 21 0)) 20 0 (mI (sM s1 11 r1.toNatClampNeg (mI s1 21 0)) 20 1)) 21 1)) 20 1 (mI (sM (sM (sM s1 11 r1.toNatClampNeg (mI s1 21 0)) 20 0 (mI (sM s1 11 r1.toNatClampNeg (mI s1 21 0)) 20 1)) 21 0 (mI (sM (sM s1 11 r1.toNatClampNeg (mI s1 21 0)) 20 0 (mI (sM s1 11 r1.toNatClampNeg (mI s1 21 0)) 20 1)) 21 1)) 20 2)) 21 2)) 20 3)) 21 2 (mI (sM (sM (sM (sM (sM (sM s1 11 r1.toNatClampNeg (mI s1 21 0)) 20 0 (mI (sM s1 11 r1.toNatClampNeg (mI s1 21 0)) 20 1)) 21 0 (mI (sM (sM s1 11 r1.toNatClampNeg (mI s1 21 0)) 20 0 (mI (sM s1 11 r1.toNatClampNeg (mI s1 21 0)) 20 1)) 21 1)) 20 1 (mI (sM (sM (sM s1 11 r1.toNatClampNeg (mI s1 21 0)) 20 0 (mI (sM s1 11 r1.toNatClampNeg (mI s1 21 0)) 20 1)) 21 0 (mI (sM (sM s1 11 r1.toNatClampNeg (mI s1 21 0)) 20 0 (mI (sM s1 11 r1.toNatClampNeg (mI s1 21 0)) 20 1)) 21 1)) 20 2)) 21 1 (mI (sM (sM (sM (sM s1 11 r1.toNatClampNeg (mI s1 21 0)) 20 0 (mI (sM s1 11 r1.toNatClampNeg (mI s1 21 0)) 20 1)) 21 0 (mI (sM (sM s1 11 r1.toNatClampNeg (mI s1 21 0)) 20 0 (mI (sM s1 11 r1.toNatClampNeg (mI s1 21 0)) 20 1)) 21 1)) 20 1 (mI (sM (sM (sM s1 11 r1.toNatClampNeg (mI s1 21 0)) 20 0 (mI (sM s1 11 r1.toNatClampNeg (mI s1 21 0)) 20 1)) 21 0 (mI (sM (sM s1 11 r1.toNatClampNeg (mI s1 21 0)) 20 0 (mI (sM s1 11 r1.toNatClampNeg (mI s1 21 0)) 20 1)) 21 1)) 20 2)) 21 2)) 20 2 (mI (sM (sM (sM (sM (sM s1 11 r1.toNatClampNeg (mI s1 21 0)) 20 0 (mI (sM s1 11 r1.toNatClampNeg (mI s1 21 0)) 20 1)) 21 0 (mI (sM (sM s1 11 r1.toNatClampNeg (mI s1 21 0)) 20 0 (mI (sM s1 11 r1.toNatClampNeg (mI s1 21 0)) 20 1)) 21 1)) 20 1 (mI (sM (sM (sM s1 11 r1.toNatClampNeg (mI s1 21 0)) 20 0 (mI (sM s1 11 r1.toNatClampNeg (mI s1 21 0)) 20 1)) 21 0 (mI (sM (sM s1 11 r1.toNatClampNeg (mI s1 21 0)) 20 0 (mI (sM s1 11 r1.toNatClampNeg (mI s1 21 0)) 20 1)) 21 1)) 20 2)) 21 1 (mI (sM (sM (sM (sM s1 11 r1.toNatClampNeg (mI s1 21 0)) 20 0 (mI (sM s1 11 r1.toNatClampNeg (mI s1 21 0)) 20 1)) 21 0 (mI (sM (sM s1 11 r1.toNatClampNeg (mI s1 21 0)) 20 0 (mI (sM s1 11 r1.toNatClampNeg (mI s1 21 0)) 20 1)) 21 1)) 20 1 (mI (sM (sM (sM s1 11 r1.toNatClampNeg (mI s1 21 0)) 20 0 (mI (sM s1 11 r1.toNatClampNeg (mI s1 21 0)) 20 1)) 21 0 (mI (sM (sM s1 11 r1.toNatClampNeg (mI s1 21 0)) 20 0 (mI (sM s1 11 r1.toNatClampNeg (mI s1 21 0)) 20 1)) 21 1)) 20 2)) 21 2)) 20 3)) 21 3)) 19 0 ((mI (sM (sM (sM (sM (sM (sM (sM s1 11 r1.toNatClampNeg (mI s1 21 0)) 20 0 (mI (sM s1 11 r1.toNatClampNeg (mI s1 21 0)) 20 1)) 21 0 (mI (sM (sM s1 11 r1.toNatClampNeg (mI s1 21 0)) 20 0 (mI (sM s1 11 r1.toNatClampNeg (mI s1 21 0)) 20 1)) 21 1)) 20 1 (mI (sM (sM (sM s1 11 r1.toNatClampNeg (mI s1 21 0)) 20 0 (mI (sM s1 11 r1.toNatClampNeg (mI s1 21 0)) 20 1)) 21 0 (mI (sM (sM s1 11 r1.toNatClampNeg (mI s1 21 0)) 20 0 (mI (sM s1 11 r1.toNatClampNeg (mI s1 21 0)) 20 1)) 21 1)) 20 2)) 21 1 (mI (sM (sM (sM (sM s1 11 r1.toNatClampNeg (mI s1 21 0)) 20 0 (mI (sM s1 11 r1.toNatClampNeg (mI s1 21 0)) 20 1)) 21 0 (mI (sM (sM s1 11 r1.toNatClampNeg (mI s1 21 0)) 20 0 (mI (sM s1 11 r1.toNatClampNeg (mI s1 21 0)) 20 1)) 21 1)) 20 1 (mI (sM (sM (sM s1 11 r1.toNatClampNeg (mI s1 21 0)) 20 0 (mI (sM s1 11 r1.toNatClampNeg (mI s1 21 0)) 20 1)) 21 0 (mI (sM (sM s1 11 r1.toNatClampNeg (mI s1 21 0)) 20 0 (mI (sM s1 11 r1.toNatClampNeg (mI s1 21 0)) 20 1)) 21 1)) 20 2)) 21 2)) 20 2 (mI (sM (sM (sM (sM (sM s1 11 r1.toNatClampNeg (mI s1 21 0)) 20 0 (mI (sM s1 11 r1.toNatClampNeg (mI s1 21 0)) 20 1)) 21 0 (mI (sM (sM s1 11 r1.toNatClampNeg (mI s1 21 0)) 20 0 (mI (sM s1 11 r1.toNatClampNeg (mI s1 21 0)) 20 1)) 21 1)) 20 1 (mI (sM (sM (sM s1 11 r1.toNatClampNeg (mI s1 21 0)) 20 0 (mI (sM s1 11 r1.toNatClampNeg (mI s1 21 0)) 20 1)) 21 0 (mI (sM (sM s1 11 r1.toNatClampNeg (mI s1 21 0)) 20 0 (mI (sM s1 11 r1.toNatClampNeg (mI s1 21 0)) 20 1)) 21 1)) 20 2)) 21 1 (mI (sM (sM (sM (sM s1 11 r1.toNatClampNeg (mI s1 21 0)) 20 0 (mI (sM s1 11 r1.toNatClampNeg (mI s1 21 0)) 20 1)) 21 0 (mI (sM (sM s1 11 r1.toNatClampNeg (mI s1 21 0)) 20 0 (mI (sM s1 11 r1.toNatClampNeg (mI s1 21 0)) 20 1)) 21 1)) 20 1 (mI (sM (sM (sM s1 11 r1.toNatClampNeg (mI s1 21 0)) 20 0 (mI (sM s1 11 r1.toNatClampNeg (mI s1 21 0)) 20 1)) 21 0 (mI (sM (sM s1 11 r1.toNatClampNeg (mI s1 21 0)) 20 0 (mI (sM s1 11 r1.toNatClampNeg (mI s1 21 0)) 20 1)) 21 1)) 20 2)) 21 2)) 20 3)) 21 2 (mI (sM (sM (sM (sM (sM (sM s1 11 r1.toNatClampNeg (mI s1 21 0)) 20 0 (mI (sM s1 11 r1.toNatClampNeg (mI s1 21 0)) 20 1)) 21 0 (mI (sM (sM s1 11 r1.toNatClampNeg (mI s1 21 0)) 20 0 (mI (sM s1 11 r1.toNatClampNeg (mI s1 21 0)) 20 1)) 21 1)) 20 1 (mI (sM (sM (sM s1 11 r1.toNatClampNeg (mI s1 21 0)) 20 0 (mI (sM s1 11 r1.toNatClampNeg (mI s1 21 0)) 20 1)) 21 0 (mI (sM (sM s1 11 r1.toNatClampNeg (mI s1 21 0)) 20 0 (mI (sM s1 11 r1.toNatClampNeg (mI s1 21 0)) 20 1)) 21 1)) 20 2)) 21 1 (mI (sM (sM (sM (sM s1 11 r1.toNatClampNeg (mI s1 21 0)) 20 0 (mI (sM s1 11 r1.toNatClampNeg (mI s1 21 0)) 20 1)) 21 0 (mI (sM (sM s1 11 r1.toNatClampNeg (mI s1 21 0)) 20 0 (mI (sM s1 11 r1.toNatClampNeg (mI s1 21 0)) 20 1)) 21 1)) 20 1 (mI (sM (sM (sM s1 11 r1.toNatClampNeg (mI s1 21 0)) 20 0 (mI (sM s1 11 r1.toNatClampNeg (mI s1 21 0)) 20 1)) 21 0 (mI (sM (sM s1 11 r1.toNatClampNeg (mI s1 21 0)) 20 0 (mI (sM s1 11 r1.toNatClampNeg (mI s1 21 0)) 20 1)) 21 1)) 20 2)) 21 2)) 20 2 (mI (sM (sM (sM (sM (sM s1 11 r1.toNatClampNeg (mI s1 21 0)) 20 0 (mI (sM s1 11 r1.toNatClampNeg (mI s1 21 0)) 20 1)) 21 0 (mI (sM (sM s1 11 r1.toNatClampNeg (mI s1 21 0)) 20 0 (mI (sM s1 11 r1.toNatClampNeg (mI s1 21 0)) 20 1)) 21 1)) 20 1 (mI (sM (sM (sM s1 11 r1.toNatClampNeg (mI s1 21 0)) 20 0 (mI (sM s1 11 r1.toNatClampNeg (mI s1 21 0)) 20 1)) 21 0 (mI (sM (sM s1 11 r1.toNatClampNeg (mI s1 21 0)) 20 0 (mI (sM s1 11 r1.toNatClampNeg (mI s1 21 0)) 20 1)) 21 1)) 20 2)) 21 1 (mI (sM (sM (sM (sM s1 11 r1.toNatClampNeg (mI s1 21 0)) 20 0 (mI (sM s1 11 r1.toNatClampNeg (mI s1 21 0)) 20 1)) 21 0 (mI (sM (sM s1 11 r1.toNatClampNeg (mI s1 21 0)) 20 0 (mI (sM s1 11 r1.toNatClampNeg (mI s1 21 0)) 20 1)) 21 1)) 20 1 (mI (sM (sM (sM s1 11 r1.toNatClampNeg (mI s1 21 0)) 20 0 (mI (sM s1 11 r1.toNatClampNeg (mI s1 21 0)) 20 1)) 21 0 (mI (sM (sM s1 11 r1.toNatClampNeg (mI s1 21 0)) 20 0 (mI (sM s1 11 r1.toNatClampNeg (mI s1 21 0)) 20 1)) 21 1)) 20 2)) 21 2)) 20 3)) 21 3)) 19 0) - 1)) hw 40 ) (cwV 1 hts gv_M_88 rfl rfl rfl (by decide +kernel) ⟨Nat.le_of_ble_eq_true rfl, Nat.le_of_ble_eq_true rfl⟩) (va_recv hK hP (ci := 3) (q0 := 0) rfl rfl) hP hK hS (fun _ h9 => h9) rfl hl.1 rfl (Nat.le_of_ble_eq_true rfl) dM_receive_117 ⟨Nat.zero_le _, Nat.zero_le _⟩ (fun r2 s2 H locs hq hP hS => ?_)
          obtain ⟨h2, hw, hx2⟩ := hq
          rw [kk_b_eq h2] at hf
          refine lv_istore_n (lv' := [(3, .int r2), (2, .int r1), (0, .ref (ad 0)), (1, .int 0)]) hx hb dM_receive_120 rfl hl (by decide) rfl (fun ls hl => ?_)
          refine lv_iload_n hx hb dM_receive_121 rfl (lv_at hl 0 rfl) ?_
          refine lv_if_ge (tgt := 127) hx hb dM_receive_122 (by decide) (fun c_122 => ?_) (fun c_122 => ?_)
          · rw [if_pos c_122] at hf
            refine lv_aload_n hx hb dM_receive_127 rfl (lv_at hl 2 rfl) ?_
            refine lv_iload_n hx hb dM_receive_128 rfl (lv_at hl 3 rfl) ?_
            refine lv_aload_n hx hb dM_receive_129 rfl (lv_at hl 2 rfl) ?_
            refine va_get (D := (dC, dI)) (ci := 3) (v := .ref (ad 10)) (C := R_M) (T := T_M) (N := 23) hx hb hts uw_M hown hK hP 0 rfl rfl 13 (by decide) (hts _ (List.mem_cons_of_mem _ wd_344)) (fun _ h9 => h9) rfl dM_receive_130 ?_
            refine lv_iload_n hx hb dM_receive_133 rfl (lv_at hl 0 rfl) ?_
            refine va_iald hx hb hK hP 10 9 rfl rfl (hx2.resolve_left (kk_ge c_122)) dM_receive_134 ?_
            refine lv_aload_n hx hb dM_receive_135 rfl (lv_at hl 2 rfl) ?_
            refine va_get (D := (dC, dI)) (ci := 3) (v := .ref (ad 11)) (C := R_M) (T := T_M) (N := 23) hx hb hts uw_M hown hK hP 0 rfl rfl 14 (by decide) (hts _ (List.mem_cons_of_mem _ wd_345)) (fun _ h9 => h9) rfl dM_receive_136 ?_
            refine lv_iload_n hx hb dM_receive_139 rfl (lv_at hl 0 rfl) ?_
            refine va_iald hx hb hK hP 11 10 rfl rfl (hx2.resolve_left (kk_ge c_122)) dM_receive_140 ?_
            refine kk_cv (w := km_w ad cs) (As := [.int 0, .int (mI s2 13 r2.toNatClampNeg), .int (mI s2 14 r2.toNatClampNeg)]) (rest := []) ⟨hx, hb, hml, hown, hts⟩ (mc_comeIn l dC dI ad cs hj s2 hw 0 (mI s2 13 r2.toNatClampNeg) (mI s2 14 r2.toNatClampNeg) (kk_inl (by decide)) (km_mes_rec kk_c0 hw0 (by decide) c_26 h2 rfl)) (cwV 3 hts gv_M_114 rfl rfl rfl (by decide +kernel) ⟨Nat.le_of_ble_eq_true rfl, Nat.le_of_ble_eq_true rfl⟩) (va_recv hK hP (ci := 3) (q0 := 0) rfl rfl) hP hK hS (fun _ h9 => h9) rfl hl.1 rfl (Nat.le_of_ble_eq_true rfl) dM_receive_141 ⟨Nat.zero_le _, Nat.zero_le _⟩ (fun s3 H locs hq hP hS => ?_)
            obtain ⟨h3, hw⟩ := hq
            rw [kk_v_eq h3] at hf
            refine lv_aload_n hx hb dM_receive_144 rfl (lv_at hl 2 rfl) ?_
            refine va_get (D := (dC, dI)) (ci := 3) (v := .ref (ad 8)) (C := R_M) (T := T_M) (N := 23) hx hb hts uw_M hown hK hP 0 rfl rfl 11 (by decide) (hts _ (List.mem_cons_of_mem _ wd_342)) (fun _ h9 => h9) rfl dM_receive_145 ?_
            refine lv_iload_n hx hb dM_receive_148 rfl (lv_at hl 0 rfl) ?_
            refine lv_iconst (v := 0) hx hb dM_receive_149 (by decide) ?_
            refine va_iast hx hb hK hP (km_D hj) hS 8 7 rfl rfl (hx2.resolve_left (kk_ge c_122)) dM_receive_150 (fun H locs hP _ hS => ?_)
            replace hP := km_u_result hP
            replace hw := km_wf_I (f := 11) (i := r2.toNatClampNeg) (v := 0) hw (by decide)
            refine lv_aload_n hx hb dM_receive_151 rfl (lv_at hl 2 rfl) ?_
            refine lv_iload_n hx hb dM_receive_152 rfl (lv_at hl 0 rfl) ?_
            refine kk_cv (w := km_w ad cs) (As := [.int r2]) (rest := []) ⟨hx, hb, hml, hown, hts⟩ (mc_ready l dC dI ad cs hj (sM s3 11 r2.toNatClampNeg 0) hw r2 (hx2.resolve_left (kk_ge c_122))) (cwV 1 hts gv_M_92 rfl rfl rfl (by decide +kernel) ⟨Nat.le_of_ble_eq_true rfl, Nat.le_of_ble_eq_true rfl⟩) (va_recv hK hP (ci := 3) (q0 := 0) rfl rfl) hP hK hS (fun _ h9 => h9) rfl hl.1 rfl (Nat.le_of_ble_eq_true rfl) dM_receive_153 ⟨Nat.zero_le _, Nat.zero_le _⟩ (fun s4 H locs hq hP hS => ?_)
            obtain ⟨h4, hw⟩ := hq
            rw [kk_v_eq h4] at hf
            refine lv_iconst (v := 0) hx hb dM_receive_156 (by decide) ?_
            exact kk_iret hx hb hr hlocks hP hK hS ⟨hf.symm, hw⟩ dM_receive_157
          · rw [if_neg c_122] at hf
            refine lv_iconst (v := 0) hx hb dM_receive_125 (by decide) ?_
            exact kk_iret hx hb hr hlocks hP hK hS ⟨hf.symm, hw⟩ dM_receive_126
        · rw [if_pos c_26] at hf
          refine lv_aload_n hx hb dM_receive_29 rfl (lv_at hl 1 rfl) ?_
          refine lv_iload_n hx hb dM_receive_30 rfl (lv_at hl 0 rfl) ?_
          refine lv_bipush (v := 50) hx hb dM_receive_31 (by decide) ?_
          refine lv_iload_n hx hb dM_receive_33 rfl (lv_at hl 2 rfl) ?_
          refine lv_iadd hx hb dM_receive_34 ?_
          refine lv_topi (fun z9 e9 => ?_)
          obtain rfl : z9 = 50 := e9.trans (by decide)
          refine lv_iconst (v := 0) hx hb dM_receive_35 (by decide) ?_
          refine kk_cv (w := km_w ad cs) (As := [.int r1, .int 50, .int 0]) (rest := []) ⟨hx, hb, hml, hown, hts⟩ (mc_block l dC dI ad cs hj s1 hw r1 50 0 (hx1.resolve_left (kk_ge c_15))) (cwV 3 hts gv_M_96 rfl rfl rfl (by decide +kernel) ⟨Nat.le_of_ble_eq_true rfl, Nat.le_of_ble_eq_true rfl⟩) (va_recv hK hP (ci := 3) (q0 := 0) rfl rfl) hP hK hS (fun _ h9 => h9) rfl hl.1 rfl (Nat.le_of_ble_eq_true rfl) dM_receive_36 ⟨Nat.zero_le _, Nat.zero_le _⟩ (fun s5 H locs hq hP hS => ?_)
          obtain ⟨h5, hw⟩ := hq
          rw [kk_v_eq h5] at hf
          refine lv_iconst (v := 1) hx hb dM_receive_39 (by decide) ?_
          exact kk_iret hx hb hr hlocks hP hK hS ⟨hf.symm, hw⟩ dM_receive_40
      · rw [if_neg c_q] at hf
        obtain rfl : q = 1 := kk_q1 hq9 c_q
        refine lv_aload_n hx hb dM_receive_20 rfl (lv_at hl 1 rfl) ?_
        refine va_get (D := (dC, dI)) (ci := 3) (v := .ref (ad 16)) (C := R_M) (T := T_M) (N := 23) hx hb hts uw_M hown hK hP 0 rfl rfl 19 (by decide) (hts _ (List.mem_cons_of_mem _ wd_350)) (fun _ h9 => h9) rfl dM_receive_21 ?_
        refine lv_iload_n hx hb dM_receive_24 rfl (lv_at hl 2 rfl) ?_
        refine va_iald hx hb hK hP 16 15 rfl rfl (kk_inl (by decide)) dM_receive_25 ?_
        rw [kk_c1]
        refine lv_if_ne (tgt := 41) hx hb dM_receive_26 (by decide) (fun c_26 => ?_) (fun c_26 => ?_)
        · rw [if_neg c_26] at hf
          have hw0 := hw
          refine lv_aload_n hx hb dM_receive_41 rfl (lv_at hl 1 rfl) ?_
          refine va_get (D := (dC, dI)) (ci := 3) (v := .ref (ad 8)) (C := R_M) (T := T_M) (N := 23) hx hb hts uw_M hown hK hP 0 rfl rfl 11 (by decide) (hts _ (List.mem_cons_of_mem _ wd_342)) (fun _ h9 => h9) rfl dM_receive_42 ?_
          refine lv_iload_n hx hb dM_receive_45 rfl (lv_at hl 0 rfl) ?_
          refine lv_aload_n hx hb dM_receive_46 rfl (lv_at hl 1 rfl) ?_
          refine va_get (D := (dC, dI)) (ci := 3) (v := .ref (ad 18)) (C := R_M) (T := T_M) (N := 23) hx hb hts uw_M hown hK hP 0 rfl rfl 21 (by decide) (hts _ (List.mem_cons_of_mem _ wd_352)) (fun _ h9 => h9) rfl dM_receive_47 ?_
          refine lv_iload_n hx hb dM_receive_50 rfl (lv_at hl 2 rfl) ?_
          refine lv_iconst (v := 4) hx hb dM_receive_51 (by decide) ?_
          refine lv_imul hx hb dM_receive_52 ?_
          refine lv_topi (fun z9 e9 => ?_)
          obtain rfl : z9 = 4 := e9.trans (by decide)
          refine va_iald hx hb hK hP 18 17 rfl rfl (kk_inl (by decide)) dM_receive_53 ?_
          rw [kk_c4]
          refine va_iast hx hb hK hP (km_D hj) hS 8 7 rfl rfl (hx1.resolve_left (kk_ge c_15)) dM_receive_54 (fun H locs hP _ hS => ?_)
          replace hP := km_u_result hP
          replace hw := km_wf_I (f := 11) (i := r1.toNatClampNeg) (v := mI s1 21 4) hw (by decide)
          refine lv_iload_n hx hb dM_receive_55 rfl (lv_at hl 2 rfl) ?_
          refine lv_iconst (v := 4) hx hb dM_receive_56 (by decide) ?_
          refine lv_imul hx hb dM_receive_57 ?_
          refine lv_topi (fun z9 e9 => ?_)
          obtain rfl : z9 = 4 := e9.trans (by decide)
          refine lv_istore_n (lv' := [(3, .int 4), (2, .int r1), (0, .ref (ad 0)), (1, .int 1)]) hx hb dM_receive_58 rfl hl (by decide) rfl (fun ls hl => ?_)
          refine lv_iload_n hx hb dM_receive_59 rfl (lv_at hl 0 rfl) ?_
          refine lv_iload_n hx hb dM_receive_60 rfl (lv_at hl 3 rfl) ?_
          refine lv_iconst (v := 4) hx hb dM_receive_61 (by decide) ?_
          refine lv_imul hx hb dM_receive_62 ?_
          refine lv_topi (fun z9 e9 => ?_)
          obtain rfl : z9 = 4 := e9.trans (by decide)
          refine lv_iconst (v := 3) hx hb dM_receive_63 (by decide) ?_
          refine lv_iadd hx hb dM_receive_64 ?_
          refine lv_topi (fun z9 e9 => ?_)
          obtain rfl : z9 = 7 := e9.trans (by decide)
          refine lv_icmp_ge (tgt := 102) hx hb dM_receive_65 (by decide) (fun c9 => absurd c9 (by decide)) (fun _ => ?_)
          refine lv_aload_n hx hb dM_receive_68 rfl (lv_at hl 2 rfl) ?_
          refine va_get (D := (dC, dI)) (ci := 3) (v := .ref (ad 17)) (C := R_M) (T := T_M) (N := 23) hx hb hts uw_M hown hK hP 0 rfl rfl 20 (by decide) (hts _ (List.mem_cons_of_mem _ wd_351)) (fun _ h9 => h9) rfl dM_receive_69 ?_
          refine lv_iload_n hx hb dM_receive_72 rfl (lv_at hl 0 rfl) ?_
          refine lv_aload_n hx hb dM_receive_73 rfl (lv_at hl 2 rfl) ?_
          refine va_get (D := (dC, dI)) (ci := 3) (v := .ref (ad 17)) (C := R_M) (T := T_M) (N := 23) hx hb hts uw_M hown hK hP 0 rfl rfl 20 (by decide) (hts _ (List.mem_cons_of_mem _ wd_351)) (fun _ h9 => h9) rfl dM_receive_74 ?_
          refine lv_iload_n hx hb dM_receive_77 rfl (lv_at hl 0 rfl) ?_
          refine lv_iconst (v := 1) hx hb dM_receive_78 (by decide) ?_
          refine lv_iadd hx hb dM_receive_79 ?_
          refine lv_topi (fun z9 e9 => ?_)
          obtain rfl : z9 = 5 := e9.trans (by decide)
          refine va_iald hx hb hK hP 17 16 rfl rfl (kk_inl (by decide)) dM_receive_80 ?_
          rw [kk_c5]
          refine va_iast hx hb hK hP (km_D hj) hS 17 16 rfl rfl (kk_inl (by decide)) dM_receive_81 (fun H locs hP _ hS => ?_)
          rw [kk_c4] at hP
          replace hP := km_u_messageRank hP
          replace hw := km_wf_I (f := 20) (i := 4) (v := mI (sM s1 11 r1.toNatClampNeg (mI s1 21 4)) 20 5) hw (by decide)
          refine lv_aload_n hx hb dM_receive_82 rfl (lv_at hl 2 rfl) ?_
          refine va_get (D := (dC, dI)) (ci := 3) (v := .ref (ad 18)) (C := R_M) (T := T_M) (N := 23) hx hb hts uw_M hown hK hP 0 rfl rfl 21 (by decide) (hts _ (List.mem_cons_of_mem _ wd_352)) (fun _ h9 => h9) rfl dM_receive_83 ?_
          refine lv_iload_n hx hb dM_receive_86 rfl (lv_at hl 0 rfl) ?_
          refine lv_aload_n hx hb dM_receive_87 rfl (lv_at hl 2 rfl) ?_
          refine va_get (D := (dC, dI)) (ci := 3) (v := .ref (ad 18)) (C := R_M) (T := T_M) (N := 23) hx hb hts uw_M hown hK hP 0 rfl rfl 21 (by decide) (hts _ (List.mem_cons_of_mem _ wd_352)) (fun _ h9 => h9) rfl dM_receive_88 ?_
          refine lv_iload_n hx hb dM_receive_91 rfl (lv_at hl 0 rfl) ?_
          refine lv_iconst (v := 1) hx hb dM_receive_92 (by decide) ?_
          refine lv_iadd hx hb dM_receive_93 ?_
          refine lv_topi (fun z9 e9 => ?_)
          obtain rfl : z9 = 5 := e9.trans (by decide)
          refine va_iald hx hb hK hP 18 17 rfl rfl (kk_inl (by decide)) dM_receive_94 ?_
          rw [kk_c5]
          refine va_iast hx hb hK hP (km_D hj) hS 18 17 rfl rfl (kk_inl (by decide)) dM_receive_95 (fun H locs hP _ hS => ?_)
          rw [kk_c4] at hP
          replace hP := km_u_messageValue hP
          replace hw := km_wf_I (f := 21) (i := 4) (v := mI (sM (sM s1 11 r1.toNatClampNeg (mI s1 21 4)) 20 4 (mI (sM s1 11 r1.toNatClampNeg (mI s1 21 4)) 20 5)) 21 5) hw (by decide)
          refine lv_iinc (v := 5) (lv' := [(3, .int 5), (2, .int r1), (0, .ref (ad 0)), (1, .int 1)]) hx hb dM_receive_96 hl (k := 0) rfl (by decide) (by decide) rfl (fun ls hl => ?_)
          refine lv_goto (tgt := 59) hx hb dM_receive_99 (by decide) ?_
          refine lv_iload_n hx hb dM_receive_59 rfl (lv_at hl 0 rfl) ?_
          refine lv_iload_n hx hb dM_receive_60 rfl (lv_at hl 3 rfl) ?_
          refine lv_iconst (v := 4) hx hb dM_receive_61 (by decide) ?_
          refine lv_imul hx hb dM_receive_62 ?_
          refine lv_topi (fun z9 e9 => ?_)
          obtain rfl : z9 = 4 := e9.trans (by decide)
          refine lv_iconst (v := 3) hx hb dM_receive_63 (by decide) ?_
          refine lv_iadd hx hb dM_receive_64 ?_
          refine lv_topi (fun z9 e9 => ?_)
          obtain rfl : z9 = 7 := e9.trans (by decide)
          refine lv_icmp_ge (tgt := 102) hx hb dM_receive_65 (by decide) (fun c9 => absurd c9 (by decide)) (fun _ => ?_)
          refine lv_aload_n hx hb dM_receive_68 rfl (lv_at hl 2 rfl) ?_
          refine va_get (D := (dC, dI)) (ci := 3) (v := .ref (ad 17)) (C := R_M) (T := T_M) (N := 23) hx hb hts uw_M hown hK hP 0 rfl rfl 20 (by decide) (hts _ (List.mem_cons_of_mem _ wd_351)) (fun _ h9 => h9) rfl dM_receive_69 ?_
          refine lv_iload_n hx hb dM_receive_72 rfl (lv_at hl 0 rfl) ?_
          refine lv_aload_n hx hb dM_receive_73 rfl (lv_at hl 2 rfl) ?_
          refine va_get (D := (dC, dI)) (ci := 3) (v := .ref (ad 17)) (C := R_M) (T := T_M) (N := 23) hx hb hts uw_M hown hK hP 0 rfl rfl 20 (by decide) (hts _ (List.mem_cons_of_mem _ wd_351)) (fun _ h9 => h9) rfl dM_receive_74 ?_
          refine lv_iload_n hx hb dM_receive_77 rfl (lv_at hl 0 rfl) ?_
          refine lv_iconst (v := 1) hx hb dM_receive_78 (by decide) ?_
          refine lv_iadd hx hb dM_receive_79 ?_
          refine lv_topi (fun z9 e9 => ?_)
          obtain rfl : z9 = 6 := e9.trans (by decide)
          refine va_iald hx hb hK hP 17 16 rfl rfl (kk_inl (by decide)) dM_receive_80 ?_
          rw [kk_c6]
          refine va_iast hx hb hK hP (km_D hj) hS 17 16 rfl rfl (kk_inl (by decide)) dM_receive_81 (fun H locs hP _ hS => ?_)
          rw [kk_c5] at hP
          replace hP := km_u_messageRank hP
          replace hw := km_wf_I (f := 20) (i := 5) (v := mI (sM (sM (sM s1 11 r1.toNatClampNeg (mI s1 21 4)) 20 4 (mI (sM s1 11 r1.toNatClampNeg (mI s1 21 4)) 20 5)) 21 4 (mI (sM (sM s1 11 r1.toNatClampNeg (mI s1 21 4)) 20 4 (mI (sM s1 11 r1.toNatClampNeg (mI s1 21 4)) 20 5)) 21 5)) 20 6) hw (by decide)
          refine lv_aload_n hx hb dM_receive_82 rfl (lv_at hl 2 rfl) ?_
          refine va_get (D := (dC, dI)) (ci := 3) (v := .ref (ad 18)) (C := R_M) (T := T_M) (N := 23) hx hb hts uw_M hown hK hP 0 rfl rfl 21 (by decide) (hts _ (List.mem_cons_of_mem _ wd_352)) (fun _ h9 => h9) rfl dM_receive_83 ?_
          refine lv_iload_n hx hb dM_receive_86 rfl (lv_at hl 0 rfl) ?_
          refine lv_aload_n hx hb dM_receive_87 rfl (lv_at hl 2 rfl) ?_
          refine va_get (D := (dC, dI)) (ci := 3) (v := .ref (ad 18)) (C := R_M) (T := T_M) (N := 23) hx hb hts uw_M hown hK hP 0 rfl rfl 21 (by decide) (hts _ (List.mem_cons_of_mem _ wd_352)) (fun _ h9 => h9) rfl dM_receive_88 ?_
          refine lv_iload_n hx hb dM_receive_91 rfl (lv_at hl 0 rfl) ?_
          refine lv_iconst (v := 1) hx hb dM_receive_92 (by decide) ?_
          refine lv_iadd hx hb dM_receive_93 ?_
          refine lv_topi (fun z9 e9 => ?_)
          obtain rfl : z9 = 6 := e9.trans (by decide)
          refine va_iald hx hb hK hP 18 17 rfl rfl (kk_inl (by decide)) dM_receive_94 ?_
          rw [kk_c6]
          refine va_iast hx hb hK hP (km_D hj) hS 18 17 rfl rfl (kk_inl (by decide)) dM_receive_95 (fun H locs hP _ hS => ?_)
          rw [kk_c5] at hP
          replace hP := km_u_messageValue hP
          replace hw := km_wf_I (f := 21) (i := 5) (v := mI (sM (sM (sM (sM s1 11 r1.toNatClampNeg (mI s1 21 4)) 20 4 (mI (sM s1 11 r1.toNatClampNeg (mI s1 21 4)) 20 5)) 21 4 (mI (sM (sM s1 11 r1.toNatClampNeg (mI s1 21 4)) 20 4 (mI (sM s1 11 r1.toNatClampNeg (mI s1 21 4)) 20 5)) 21 5)) 20 5 (mI (sM (sM (sM s1 11 r1.toNatClampNeg (mI s1 21 4)) 20 4 (mI (sM s1 11 r1.toNatClampNeg (mI s1 21 4)) 20 5)) 21 4 (mI (sM (sM s1 11 r1.toNatClampNeg (mI s1 21 4)) 20 4 (mI (sM s1 11 r1.toNatClampNeg (mI s1 21 4)) 20 5)) 21 5)) 20 6)) 21 6) hw (by decide)
          refine lv_iinc (v := 6) (lv' := [(3, .int 6), (2, .int r1), (0, .ref (ad 0)), (1, .int 1)]) hx hb dM_receive_96 hl (k := 0) rfl (by decide) (by decide) rfl (fun ls hl => ?_)
          refine lv_goto (tgt := 59) hx hb dM_receive_99 (by decide) ?_
          refine lv_iload_n hx hb dM_receive_59 rfl (lv_at hl 0 rfl) ?_
          refine lv_iload_n hx hb dM_receive_60 rfl (lv_at hl 3 rfl) ?_
          refine lv_iconst (v := 4) hx hb dM_receive_61 (by decide) ?_
          refine lv_imul hx hb dM_receive_62 ?_
          refine lv_topi (fun z9 e9 => ?_)
          obtain rfl : z9 = 4 := e9.trans (by decide)
          refine lv_iconst (v := 3) hx hb dM_receive_63 (by decide) ?_
          refine lv_iadd hx hb dM_receive_64 ?_
          refine lv_topi (fun z9 e9 => ?_)
          obtain rfl : z9 = 7 := e9.trans (by decide)
          refine lv_icmp_ge (tgt := 102) hx hb dM_receive_65 (by decide) (fun c9 => absurd c9 (by decide)) (fun _ => ?_)
          refine lv_aload_n hx hb dM_receive_68 rfl (lv_at hl 2 rfl) ?_
          refine va_get (D := (dC, dI)) (ci := 3) (v := .ref (ad 17)) (C := R_M) (T := T_M) (N := 23) hx hb hts uw_M hown hK hP 0 rfl rfl 20 (by decide) (hts _ (List.mem_cons_of_mem _ wd_351)) (fun _ h9 => h9) rfl dM_receive_69 ?_
          refine lv_iload_n hx hb dM_receive_72 rfl (lv_at hl 0 rfl) ?_
          refine lv_aload_n hx hb dM_receive_73 rfl (lv_at hl 2 rfl) ?_
          refine va_get (D := (dC, dI)) (ci := 3) (v := .ref (ad 17)) (C := R_M) (T := T_M) (N := 23) hx hb hts uw_M hown hK hP 0 rfl rfl 20 (by decide) (hts _ (List.mem_cons_of_mem _ wd_351)) (fun _ h9 => h9) rfl dM_receive_74 ?_
          refine lv_iload_n hx hb dM_receive_77 rfl (lv_at hl 0 rfl) ?_
          refine lv_iconst (v := 1) hx hb dM_receive_78 (by decide) ?_
          refine lv_iadd hx hb dM_receive_79 ?_
          refine lv_topi (fun z9 e9 => ?_)
          obtain rfl : z9 = 7 := e9.trans (by decide)
          refine va_iald hx hb hK hP 17 16 rfl rfl (kk_inl (by decide)) dM_receive_80 ?_
          rw [kk_c7]
          refine va_iast hx hb hK hP (km_D hj) hS 17 16 rfl rfl (kk_inl (by decide)) dM_receive_81 (fun H locs hP _ hS => ?_)
          rw [kk_c6] at hP
          replace hP := km_u_messageRank hP
          replace hw := km_wf_I (f := 20) (i := 6) (v := mI (sM (sM (sM (sM (sM s1 11 r1.toNatClampNeg (mI s1 21 4)) 20 4 (mI (sM s1 11 r1.toNatClampNeg (mI s1 21 4)) 20 5)) 21 4 (mI (sM (sM s1 11 r1.toNatClampNeg (mI s1 21 4)) 20 4 (mI (sM s1 11 r1.toNatClampNeg (mI s1 21 4)) 20 5)) 21 5)) 20 5 (mI (sM (sM (sM s1 11 r1.toNatClampNeg (mI s1 21 4)) 20 4 (mI (sM s1 11 r1.toNatClampNeg (mI s1 21 4)) 20 5)) 21 4 (mI (sM (sM s1 11 r1.toNatClampNeg (mI s1 21 4)) 20 4 (mI (sM s1 11 r1.toNatClampNeg (mI s1 21 4)) 20 5)) 21 5)) 20 6)) 21 5 (mI (sM (sM (sM (sM s1 11 r1.toNatClampNeg (mI s1 21 4)) 20 4 (mI (sM s1 11 r1.toNatClampNeg (mI s1 21 4)) 20 5)) 21 4 (mI (sM (sM s1 11 r1.toNatClampNeg (mI s1 21 4)) 20 4 (mI (sM s1 11 r1.toNatClampNeg (mI s1 21 4)) 20 5)) 21 5)) 20 5 (mI (sM (sM (sM s1 11 r1.toNatClampNeg (mI s1 21 4)) 20 4 (mI (sM s1 11 r1.toNatClampNeg (mI s1 21 4)) 20 5)) 21 4 (mI (sM (sM s1 11 r1.toNatClampNeg (mI s1 21 4)) 20 4 (mI (sM s1 11 r1.toNatClampNeg (mI s1 21 4)) 20 5)) 21 5)) 20 6)) 21 6)) 20 7) hw (by decide)
          refine lv_aload_n hx hb dM_receive_82 rfl (lv_at hl 2 rfl) ?_
          refine va_get (D := (dC, dI)) (ci := 3) (v := .ref (ad 18)) (C := R_M) (T := T_M) (N := 23) hx hb hts uw_M hown hK hP 0 rfl rfl 21 (by decide) (hts _ (List.mem_cons_of_mem _ wd_352)) (fun _ h9 => h9) rfl dM_receive_83 ?_
          refine lv_iload_n hx hb dM_receive_86 rfl (lv_at hl 0 rfl) ?_
          refine lv_aload_n hx hb dM_receive_87 rfl (lv_at hl 2 rfl) ?_
          refine va_get (D := (dC, dI)) (ci := 3) (v := .ref (ad 18)) (C := R_M) (T := T_M) (N := 23) hx hb hts uw_M hown hK hP 0 rfl rfl 21 (by decide) (hts _ (List.mem_cons_of_mem _ wd_352)) (fun _ h9 => h9) rfl dM_receive_88 ?_
          refine lv_iload_n hx hb dM_receive_91 rfl (lv_at hl 0 rfl) ?_
          refine lv_iconst (v := 1) hx hb dM_receive_92 (by decide) ?_
          refine lv_iadd hx hb dM_receive_93 ?_
          refine lv_topi (fun z9 e9 => ?_)
          obtain rfl : z9 = 7 := e9.trans (by decide)
          refine va_iald hx hb hK hP 18 17 rfl rfl (kk_inl (by decide)) dM_receive_94 ?_
          rw [kk_c7]
          refine va_iast hx hb hK hP (km_D hj) hS 18 17 rfl rfl (kk_inl (by decide)) dM_receive_95 (fun H locs hP _ hS => ?_)
          rw [kk_c6] at hP
          replace hP := km_u_messageValue hP
          replace hw := km_wf_I (f := 21) (i := 6) (v := mI (sM (sM (sM (sM (sM (sM s1 11 r1.toNatClampNeg (mI s1 21 4)) 20 4 (mI (sM s1 11 r1.toNatClampNeg (mI s1 21 4)) 20 5)) 21 4 (mI (sM (sM s1 11 r1.toNatClampNeg (mI s1 21 4)) 20 4 (mI (sM s1 11 r1.toNatClampNeg (mI s1 21 4)) 20 5)) 21 5)) 20 5 (mI (sM (sM (sM s1 11 r1.toNatClampNeg (mI s1 21 4)) 20 4 (mI (sM s1 11 r1.toNatClampNeg (mI s1 21 4)) 20 5)) 21 4 (mI (sM (sM s1 11 r1.toNatClampNeg (mI s1 21 4)) 20 4 (mI (sM s1 11 r1.toNatClampNeg (mI s1 21 4)) 20 5)) 21 5)) 20 6)) 21 5 (mI (sM (sM (sM (sM s1 11 r1.toNatClampNeg (mI s1 21 4)) 20 4 (mI (sM s1 11 r1.toNatClampNeg (mI s1 21 4)) 20 5)) 21 4 (mI (sM (sM s1 11 r1.toNatClampNeg (mI s1 21 4)) 20 4 (mI (sM s1 11 r1.toNatClampNeg (mI s1 21 4)) 20 5)) 21 5)) 20 5 (mI (sM (sM (sM s1 11 r1.toNatClampNeg (mI s1 21 4)) 20 4 (mI (sM s1 11 r1.toNatClampNeg (mI s1 21 4)) 20 5)) 21 4 (mI (sM (sM s1 11 r1.toNatClampNeg (mI s1 21 4)) 20 4 (mI (sM s1 11 r1.toNatClampNeg (mI s1 21 4)) 20 5)) 21 5)) 20 6)) 21 6)) 20 6 (mI (sM (sM (sM (sM (sM s1 11 r1.toNatClampNeg (mI s1 21 4)) 20 4 (mI (sM s1 11 r1.toNatClampNeg (mI s1 21 4)) 20 5)) 21 4 (mI (sM (sM s1 11 r1.toNatClampNeg (mI s1 21 4)) 20 4 (mI (sM s1 11 r1.toNatClampNeg (mI s1 21 4)) 20 5)) 21 5)) 20 5 (mI (sM (sM (sM s1 11 r1.toNatClampNeg (mI s1 21 4)) 20 4 (mI (sM s1 11 r1.toNatClampNeg (mI s1 21 4)) 20 5)) 21 4 (mI (sM (sM s1 11 r1.toNatClampNeg (mI s1 21 4)) 20 4 (mI (sM s1 11 r1.toNatClampNeg (mI s1 21 4)) 20 5)) 21 5)) 20 6)) 21 5 (mI (sM (sM (sM (sM s1 11 r1.toNatClampNeg (mI s1 21 4)) 20 4 (mI (sM s1 11 r1.toNatClampNeg (mI s1 21 4)) 20 5)) 21 4 (mI (sM (sM s1 11 r1.toNatClampNeg (mI s1 21 4)) 20 4 (mI (sM s1 11 r1.toNatClampNeg (mI s1 21 4)) 20 5)) 21 5)) 20 5 (mI (sM (sM (sM s1 11 r1.toNatClampNeg (mI s1 21 4)) 20 4 (mI (sM s1 11 r1.toNatClampNeg (mI s1 21 4)) 20 5)) 21 4 (mI (sM (sM s1 11 r1.toNatClampNeg (mI s1 21 4)) 20 4 (mI (sM s1 11 r1.toNatClampNeg (mI s1 21 4)) 20 5)) 21 5)) 20 6)) 21 6)) 20 7)) 21 7) hw (by decide)
          refine lv_iinc (v := 7) (lv' := [(3, .int 7), (2, .int r1), (0, .ref (ad 0)), (1, .int 1)]) hx hb dM_receive_96 hl (k := 0) rfl (by decide) (by decide) rfl (fun ls hl => ?_)
          refine lv_goto (tgt := 59) hx hb dM_receive_99 (by decide) ?_
          refine lv_iload_n hx hb dM_receive_59 rfl (lv_at hl 0 rfl) ?_
          refine lv_iload_n hx hb dM_receive_60 rfl (lv_at hl 3 rfl) ?_
          refine lv_iconst (v := 4) hx hb dM_receive_61 (by decide) ?_
          refine lv_imul hx hb dM_receive_62 ?_
          refine lv_topi (fun z9 e9 => ?_)
          obtain rfl : z9 = 4 := e9.trans (by decide)
          refine lv_iconst (v := 3) hx hb dM_receive_63 (by decide) ?_
          refine lv_iadd hx hb dM_receive_64 ?_
          refine lv_topi (fun z9 e9 => ?_)
          obtain rfl : z9 = 7 := e9.trans (by decide)
          refine lv_icmp_ge (tgt := 102) hx hb dM_receive_65 (by decide) (fun _ => ?_) (fun c9 => absurd (by decide) c9)
          refine lv_aload_n hx hb dM_receive_102 rfl (lv_at hl 2 rfl) ?_
          refine va_get (D := (dC, dI)) (ci := 3) (v := .ref (ad 16)) (C := R_M) (T := T_M) (N := 23) hx hb hts uw_M hown hK hP 0 rfl rfl 19 (by decide) (hts _ (List.mem_cons_of_mem _ wd_350)) (fun _ h9 => h9) rfl dM_receive_103 ?_
          refine lv_iload_n hx hb dM_receive_106 rfl (lv_at hl 3 rfl) ?_
          refine lv_dup2_11 hx hb dM_receive_107 rfl rfl ?_
          refine va_iald hx hb hK hP 16 15 rfl rfl (kk_inl (by decide)) dM_receive_108 ?_
          rw [kk_c1]
          refine lv_iconst (v := 1) hx hb dM_receive_109 (by decide) ?_
          refine lv_isub hx hb dM_receive_110 ?_
          refine va_iast hx hb hK hP (km_D hj) hS 16 15 rfl rfl (kk_inl (by decide)) dM_receive_111 (fun H locs hP _ hS => ?_)
          rw [kk_c1] at hP
          replace hP := km_u_messages hP
          replace hw : km_wf (sM (sM (sM (sM (sM (sM (sM (sM s1 11 r1.toNatClampNeg (mI s1 21 4)) 20 4 (mI (sM s1 11 r1.toNatClampNeg (mI s1 21 4)) 20 5)) 21 4 (mI (sM (sM s1 11 r1.toNatClampNeg (mI s1 21 4)) 20 4 (mI (sM s1 11 r1.toNatClampNeg (mI s1 21 4)) 20 5)) 21 5)) 20 5 (mI (sM (sM (sM s1 11 r1.toNatClampNeg (mI s1 21 4)) 20 4 (mI (sM s1 11 r1.toNatClampNeg (mI s1 21 4)) 20 5)) 21 4 (mI (sM (sM s1 11 r1.toNatClampNeg (mI s1 21 4)) 20 4 (mI (sM s1 11 r1.toNatClampNeg (mI s1 21 4)) 20 5)) 21 5)) 20 6)) 21 5 (mI (sM (sM (sM (sM s1 11 r1.toNatClampNeg (mI s1 21 4)) 20 4 (mI (sM s1 11 r1.toNatClampNeg (mI s1 21 4)) 20 5)) 21 4 (mI (sM (sM s1 11 r1.toNatClampNeg (mI s1 21 4)) 20 4 (mI (sM s1 11 r1.toNatClampNeg (mI s1 21 4)) 20 5)) 21 5)) 20 5 (mI (sM (sM (sM s1 11 r1.toNatClampNeg (mI s1 21 4)) 20 4 (mI (sM s1 11 r1.toNatClampNeg (mI s1 21 4)) 20 5)) 21 4 (mI (sM (sM s1 11 r1.toNatClampNeg (mI s1 21 4)) 20 4 (mI (sM s1 11 r1.toNatClampNeg (mI s1 21 4)) 20 5)) 21 5)) 20 6)) 21 6)) 20 6 (mI (sM (sM (sM (sM (sM s1 11 r1.toNatClampNeg (mI s1 21 4)) 20 4 (mI (sM s1 11 r1.toNatClampNeg (mI s1 21 4)) 20 5)) 21 4 (mI (sM (sM s1 11 r1.toNatClampNeg (mI s1 21 4)) 20 4 (mI (sM s1 11 r1.toNatClampNeg (mI s1 21 4)) 20 5)) 21 5)) 20 5 (mI (sM (sM (sM s1 11 r1.toNatClampNeg (mI s1 21 4)) 20 4 (mI (sM s1 11 r1.toNatClampNeg (mI s1 21 4)) 20 5)) 21 4 (mI (sM (sM s1 11 r1.toNatClampNeg (mI s1 21 4)) 20 4 (mI (sM s1 11 r1.toNatClampNeg (mI s1 21 4)) 20 5)) 21 5)) 20 6)) 21 5 (mI (sM (sM (sM (sM s1 11 r1.toNatClampNeg (mI s1 21 4)) 20 4 (mI (sM s1 11 r1.toNatClampNeg (mI s1 21 4)) 20 5)) 21 4 (mI (sM (sM s1 11 r1.toNatClampNeg (mI s1 21 4)) 20 4 (mI (sM s1 11 r1.toNatClampNeg (mI s1 21 4)) 20 5)) 21 5)) 20 5 (mI (sM (sM (sM s1 11 r1.toNatClampNeg (mI s1 21 4)) 20 4 (mI (sM s1 11 r1.toNatClampNeg (mI s1 21 4)) 20 5)) 21 4 (mI (sM (sM s1 11 r1.toNatClampNeg (mI s1 21 4)) 20 4 (mI (sM s1 11 r1.toNatClampNeg (mI s1 21 4)) 20 5)) 21 5)) 20 6)) 21 6)) 20 7)) 21 6 (mI (sM (sM (sM (sM (sM (sM s1 11 r1.toNatClampNeg (mI s1 21 4)) 20 4 (mI (sM s1 11 r1.toNatClampNeg (mI s1 21 4)) 20 5)) 21 4 (mI (sM (sM s1 11 r1.toNatClampNeg (mI s1 21 4)) 20 4 (mI (sM s1 11 r1.toNatClampNeg (mI s1 21 4)) 20 5)) 21 5)) 20 5 (mI (sM (sM (sM s1 11 r1.toNatClampNeg (mI s1 21 4)) 20 4 (mI (sM s1 11 r1.toNatClampNeg (mI s1 21 4)) 20 5)) 21 4 (mI (sM (sM s1 11 r1.toNatClampNeg (mI s1 21 4)) 20 4 (mI (sM s1 11 r1.toNatClampNeg (mI s1 21 4)) 20 5)) 21 5)) 20 6)) 21 5 (mI (sM (sM (sM (sM s1 11 r1.toNatClampNeg (mI s1 21 4)) 20 4 (mI (sM s1 11 r1.toNatClampNeg (mI s1 21 4)) 20 5)) 21 4 (mI (sM (sM s1 11 r1.toNatClampNeg (mI s1 21 4)) 20 4 (mI (sM s1 11 r1.toNatClampNeg (mI s1 21 4)) 20 5)) 21 5)) 20 5 (mI (sM (sM (sM s1 11 r1.toNatClampNeg (mI s1 21 4)) 20 4 (mI (sM s1 11 r1.toNatClampNeg (mI s1 21 4)) 20 5)) 21 4 (mI (sM (sM s1 11 r1.toNatClampNeg (mI s1 21 4)) 20 4 (mI (sM s1 11 r1.toNatClampNeg (mI s1 21 4)) 20 5)) 21 5)) 20 6)) 21 6)) 20 6 (mI (sM (sM (sM (sM (sM s1 11 r1.toNatClampNeg (mI s1 21 4)) 20 4 (mI (sM s1 11 r1.toNatClampNeg (mI s1 21 4)) 20 5)) 21 4 (mI (sM (sM s1 11 r1.toNatClampNeg (mI s1 21 4)) 20 4 (mI (sM s1 11 r1.toNatClampNeg (mI s1 21 4)) 20 5)) 21 5)) 20 5 (mI (sM (sM (sM s1 11 r1.toNatClampNeg (mI s1 21 4)) 20 4 (mI (sM s1 11 r1.toNatClampNeg (mI s1 21 4)) 20 5)) 21 4 (mI (sM (sM s1 11 r1.toNatClampNeg (mI s1 21 4)) 20 4 (mI (sM s1 11 r1.toNatClampNeg (mI s1 21 4)) 20 5)) 21 5)) 20 6)) 21 5 (mI (sM (sM (sM (sM s1 11 r1.toNatClampNeg (mI s1 21 4)) 20 4 (mI (sM s1 11 r1.toNatClampNeg (mI s1 21 4)) 20 5)) 21 4 (mI (sM (sM s1 11 r1.toNatClampNeg (mI s1 21 4)) 20 4 (mI (sM s1 11 r1.toNatClampNeg (mI s1 21 4)) 20 5)) 21 5)) 20 5 (mI (sM (sM (sM s1 11 r1.toNatClampNeg (mI s1 21 4)) 20 4 (mI (sM s1 11 r1.toNatClampNeg (mI s1 21 4)) 20 5)) 21 4 (mI (sM (sM s1 11 r1.toNatClampNeg (mI s1 21 4)) 20 4 (mI (sM s1 11 r1.toNatClampNeg (mI s1 21 4)) 20 5)) 21 5)) 20 6)) 21 6)) 20 7)) 21 7)) 19 1 ((mI (sM (sM (sM (sM (sM (sM (sM s1 11 r1.toNatClampNeg (mI s1 21 4)) 20 4 (mI (sM s1 11 r1.toNatClampNeg (mI s1 21 4)) 20 5)) 21 4 (mI (sM (sM s1 11 r1.toNatClampNeg (mI s1 21 4)) 20 4 (mI (sM s1 11 r1.toNatClampNeg (mI s1 21 4)) 20 5)) 21 5)) 20 5 (mI (sM (sM (sM s1 11 r1.toNatClampNeg (mI s1 21 4)) 20 4 (mI (sM s1 11 r1.toNatClampNeg (mI s1 21 4)) 20 5)) 21 4 (mI (sM (sM s1 11 r1.toNatClampNeg (mI s1 21 4)) 20 4 (mI (sM s1 11 r1.toNatClampNeg (mI s1 21 4)) 20 5)) 21 5)) 20 6)) 21 5 (mI (sM (sM (sM (sM s1 11 r1.toNatClampNeg (mI s1 21 4)) 20 4 (mI (sM s1 11 r1.toNatClampNeg (mI s1 21 4)) 20 5)) 21 4 (mI (sM (sM s1 11 r1.toNatClampNeg (mI s1 21 4)) 20 4 (mI (sM s1 11 r1.toNatClampNeg (mI s1 21 4)) 20 5)) 21 5)) 20 5 (mI (sM (sM (sM s1 11 r1.toNatClampNeg (mI s1 21 4)) 20 4 (mI (sM s1 11 r1.toNatClampNeg (mI s1 21 4)) 20 5)) 21 4 (mI (sM (sM s1 11 r1.toNatClampNeg (mI s1 21 4)) 20 4 (mI (sM s1 11 r1.toNatClampNeg (mI s1 21 4)) 20 5)) 21 5)) 20 6)) 21 6)) 20 6 (mI (sM (sM (sM (sM (sM s1 11 r1.toNatClampNeg (mI s1 21 4)) 20 4 (mI (sM s1 11 r1.toNatClampNeg (mI s1 21 4)) 20 5)) 21 4 (mI (sM (sM s1 11 r1.toNatClampNeg (mI s1 21 4)) 20 4 (mI (sM s1 11 r1.toNatClampNeg (mI s1 21 4)) 20 5)) 21 5)) 20 5 (mI (sM (sM (sM s1 11 r1.toNatClampNeg (mI s1 21 4)) 20 4 (mI (sM s1 11 r1.toNatClampNeg (mI s1 21 4)) 20 5)) 21 4 (mI (sM (sM s1 11 r1.toNatClampNeg (mI s1 21 4)) 20 4 (mI (sM s1 11 r1.toNatClampNeg (mI s1 21 4)) 20 5)) 21 5)) 20 6)) 21 5 (mI (sM (sM (sM (sM s1 11 r1.toNatClampNeg (mI s1 21 4)) 20 4 (mI (sM s1 11 r1.toNatClampNeg (mI s1 21 4)) 20 5)) 21 4 (mI (sM (sM s1 11 r1.toNatClampNeg (mI s1 21 4)) 20 4 (mI (sM s1 11 r1.toNatClampNeg (mI s1 21 4)) 20 5)) 21 5)) 20 5 (mI (sM (sM (sM s1 11 r1.toNatClampNeg (mI s1 21 4)) 20 4 (mI (sM s1 11 r1.toNatClampNeg (mI s1 21 4)) 20 5)) 21 4 (mI (sM (sM s1 11 r1.toNatClampNeg (mI s1 21 4)) 20 4 (mI (sM s1 11 r1.toNatClampNeg (mI s1 21 4)) 20 5)) 21 5)) 20 6)) 21 6)) 20 7)) 21 6 (mI (sM (sM (sM (sM (sM (sM s1 11 r1.toNatClampNeg (mI s1 21 4)) 20 4 (mI (sM s1 11 r1.toNatClampNeg (mI s1 21 4)) 20 5)) 21 4 (mI (sM (sM s1 11 r1.toNatClampNeg (mI s1 21 4)) 20 4 (mI (sM s1 11 r1.toNatClampNeg (mI s1 21 4)) 20 5)) 21 5)) 20 5 (mI (sM (sM (sM s1 11 r1.toNatClampNeg (mI s1 21 4)) 20 4 (mI (sM s1 11 r1.toNatClampNeg (mI s1 21 4)) 20 5)) 21 4 (mI (sM (sM s1 11 r1.toNatClampNeg (mI s1 21 4)) 20 4 (mI (sM s1 11 r1.toNatClampNeg (mI s1 21 4)) 20 5)) 21 5)) 20 6)) 21 5 (mI (sM (sM (sM (sM s1 11 r1.toNatClampNeg (mI s1 21 4)) 20 4 (mI (sM s1 11 r1.toNatClampNeg (mI s1 21 4)) 20 5)) 21 4 (mI (sM (sM s1 11 r1.toNatClampNeg (mI s1 21 4)) 20 4 (mI (sM s1 11 r1.toNatClampNeg (mI s1 21 4)) 20 5)) 21 5)) 20 5 (mI (sM (sM (sM s1 11 r1.toNatClampNeg (mI s1 21 4)) 20 4 (mI (sM s1 11 r1.toNatClampNeg (mI s1 21 4)) 20 5)) 21 4 (mI (sM (sM s1 11 r1.toNatClampNeg (mI s1 21 4)) 20 4 (mI (sM s1 11 r1.toNatClampNeg (mI s1 21 4)) 20 5)) 21 5)) 20 6)) 21 6)) 20 6 (mI (sM (sM (sM (sM (sM s1 11 r1.toNatClampNeg (mI s1 21 4)) 20 4 (mI (sM s1 11 r1.toNatClampNeg (mI s1 21 4)) 20 5)) 21 4 (mI (sM (sM s1 11 r1.toNatClampNeg (mI s1 21 4)) 20 4 (mI (sM s1 11 r1.toNatClampNeg (mI s1 21 4)) 20 5)) 21 5)) 20 5 (mI (sM (sM (sM s1 11 r1.toNatClampNeg (mI s1 21 4)) 20 4 (mI (sM s1 11 r1.toNatClampNeg (mI s1 21 4)) 20 5)) 21 4 (mI (sM (sM s1 11 r1.toNatClampNeg (mI s1 21 4)) 20 4 (mI (sM s1 11 r1.toNatClampNeg (mI s1 21 4)) 20 5)) 21 5)) 20 6)) 21 5 (mI (sM (sM (sM (sM s1 11 r1.toNatClampNeg (mI s1 21 4)) 20 4 (mI (sM s1 11 r1.toNatClampNeg (mI s1 21 4)) 20 5)) 21 4 (mI (sM (sM s1 11 r1.toNatClampNeg (mI s1 21 4)) 20 4 (mI (sM s1 11 r1.toNatClampNeg (mI s1 21 4)) 20 5)) 21 5)) 20 5 (mI (sM (sM (sM s1 11 r1.toNatClampNeg (mI s1 21 4)) 20 4 (mI (sM s1 11 r1.toNatClampNeg (mI s1 21 4)) 20 5)) 21 4 (mI (sM (sM s1 11 r1.toNatClampNeg (mI s1 21 4)) 20 4 (mI (sM s1 11 r1.toNatClampNeg (mI s1 21 4)) 20 5)) 21 5)) 20 6)) 21 6)) 20 7)) 21 7)) 19 1) - 1)) := km_wf_q hw (km_mdec hw0 (by decide) c_26)
          refine lv_aload_n hx hb dM_receive_112 rfl (lv_at hl 2 rfl) ?_
          refine lv_bipush (v := 40) hx hb dM_receive_113 (by decide) ?_
          refine lv_iload_n hx hb dM_receive_115 rfl (lv_at hl 3 rfl) ?_
          refine lv_iadd hx hb dM_receive_116 ?_
          refine lv_topi (fun z9 e9 => ?_)
          obtain rfl : z9 = 41 := e9.trans (by decide)
          refine kk_ci (w := km_w ad cs) (As := [.int 41]) (rest := []) ⟨hx, hb, hml, hown, hts⟩ (mc_firstWaiter l dC dI ad cs hj (sM (sM (sM (sM (sM (sM (sM (sM s1 11 r1.toNatClampNeg (mI s1 21 4)) 20 4 (mI (sM s1 11 r1.toNatClampNeg (mI s1 21 4)) 20 5)) 21 4 (mI (sM (sM s1 11 r1.toNatClampNeg (mI s1 21 4)) 20 4 (mI (sM s1 11 r1.toNatClampNeg (mI s1 21 4)) 20 5)) 21 5)) 20 5 (mI (sM (sM (sM s1 11 r1.toNatClampNeg (mI s1 21 4)) 20 4 (mI (sM s1 11 r1.toNatClampNeg (mI s1 21 4)) 20 5)) 21 4 (mI (sM (sM s1 11 r1.toNatClampNeg (mI s1 21 4)) 20 4 (mI (sM s1 11 r1.toNatClampNeg (mI s1 21 4)) 20 5)) 21 5)) 20 6)) 21 5 (mI (sM (sM (sM (sM s1 11 r1.toNatClampNeg (mI s1 21 4)) 20 4 (mI (sM s1 11 r1.toNatClampNeg (mI s1 21 4)) 20 5)) 21 4 (mI (sM (sM s1 11 r1.toNatClampNeg (mI s1 21 4)) 20 4 (mI (sM s1 11 r1.toNatClampNeg (mI s1 21 4)) 20 5)) 21 5)) 20 5 (mI (sM (sM (sM s1 11 r1.toNatClampNeg (mI s1 21 4)) 20 4 (mI (sM s1 11 r1.toNatClampNeg (mI s1 21 4)) 20 5)) 21 4 (mI (sM (sM s1 11 r1.toNatClampNeg (mI s1 21 4)) 20 4 (mI (sM s1 11 r1.toNatClampNeg (mI s1 21 4)) 20 5)) 21 5)) 20 6)) 21 6)) 20 6 (mI (sM (sM (sM (sM (sM s1 11 r1.toNatClampNeg (mI s1 21 4)) 20 4 (mI (sM s1 11 r1.toNatClampNeg (mI s1 21 4)) 20 5)) 21 4 (mI (sM (sM s1 11 r1.toNatClampNeg (mI s1 21 4)) 20 4 (mI (sM s1 11 r1.toNatClampNeg (mI s1 21 4)) 20 5)) 21 5)) 20 5 (mI (sM (sM (sM s1 11 r1.toNatClampNeg (mI s1 21 4)) 20 4 (mI (sM s1 11 r1.toNatClampNeg (mI s1 21 4)) 20 5)) 21 4 (mI (sM (sM s1 11 r1.toNatClampNeg (mI s1 21 4)) 20 4 (mI (sM s1 11 r1.toNatClampNeg (mI s1 21 4)) 20 5)) 21 5)) 20 6)) 21 5 (mI (sM (sM (sM (sM s1 11 r1.toNatClampNeg (mI s1 21 4)) 20 4 (mI (sM s1 11 r1.toNatClampNeg (mI s1 21 4)) 20 5)) 21 4 (mI (sM (sM s1 11 r1.toNatClampNeg (mI s1 21 4)) 20 4 (mI (sM s1 11 r1.toNatClampNeg (mI s1 21 4)) 20 5)) 21 5)) 20 5 (mI (sM (sM (sM s1 11 r1.toNatClampNeg (mI s1 21 4)) 20 4 (mI (sM s1 11 r1.toNatClampNeg (mI s1 21 4)) 20 5)) 21 4 (mI (sM (sM s1 11 r1.toNatClampNeg (mI s1 21 4)) 20 4 (mI (sM s1 11 r1.toNatClampNeg (mI s1 21 4)) 20 5)) 21 5)) 20 6)) 21 6)) 20 7)) 21 6 (mI (sM (sM (sM (sM (sM (sM s1 11 r1.toNatClampNeg (mI s1 21 4)) 20 4 (mI (sM s1 11 r1.toNatClampNeg (mI s1 21 4)) 20 5)) 21 4 (mI (sM (sM s1 11 r1.toNatClampNeg (mI s1 21 4)) 20 4 (mI (sM s1 11 r1.toNatClampNeg (mI s1 21 4)) 20 5)) 21 5)) 20 5 (mI (sM (sM (sM s1 11 r1.toNatClampNeg (mI s1 21 4)) 20 4 (mI (sM s1 11 r1.toNatClampNeg (mI s1 21 4)) 20 5)) 21 4 (mI (sM (sM s1 11 r1.toNatClampNeg (mI s1 21 4)) 20 4 (mI (sM s1 11 r1.toNatClampNeg (mI s1 21 4)) 20 5)) 21 5)) 20 6)) 21 5 (mI (sM (sM (sM (sM s1 11 r1.toNatClampNeg (mI s1 21 4)) 20 4 (mI (sM s1 11 r1.toNatClampNeg (mI s1 21 4)) 20 5)) 21 4 (mI (sM (sM s1 11 r1.toNatClampNeg (mI s1 21 4)) 20 4 (mI (sM s1 11 r1.toNatClampNeg (mI s1 21 4)) 20 5)) 21 5)) 20 5 (mI (sM (sM (sM s1 11 r1.toNatClampNeg (mI s1 21 4)) 20 4 (mI (sM s1 11 r1.toNatClampNeg (mI s1 21 4)) 20 5)) 21 4 (mI (sM (sM s1 11 r1.toNatClampNeg (mI s1 21 4)) 20 4 (mI (sM s1 11 r1.toNatClampNeg (mI s1 21 4)) 20 5)) 21 5)) 20 6)) 21 6)) 20 6 (mI (sM (sM (sM (sM (sM s1 11 r1.toNatClampNeg (mI s1 21 4)) 20 4 (mI (sM s1 11 r1.toNatClampNeg (mI s1 21 4)) 20 5)) 21 4 (mI (sM (sM s1 11 r1.toNatClampNeg (mI s1 21 4)) 20 4 (mI (sM s1 11 r1.toNatClampNeg (mI s1 21 4)) 20 5)) 21 5)) 20 5 (mI (sM (sM (sM s1 11 r1.toNatClampNeg (mI s1 21 4)) 20 4 (mI (sM s1 11 r1.toNatClampNeg (mI s1 21 4)) 20 5)) 21 4 (mI (sM (sM s1 11 r1.toNatClampNeg (mI s1 21 4)) 20 4 (mI (sM s1 11 r1.toNatClampNeg (mI s1 21 4)) 20 5)) 21 5)) 20 6)) 21 5 (mI (sM (sM (sM (sM s1 11 r1.toNatClampNeg (mI s1 21 4)) 20 4 (mI (sM s1 11 r1.toNatClampNeg (mI s1 21 4)) 20 5)) 21 4 (mI (sM (sM s1 11 r1.toNatClampNeg (mI s1 21 4)) 20 4 (mI (sM s1 11 r1.toNatClampNeg (mI s1 21 4)) 20 5)) 21 5)) 20 5 (mI (sM (sM (sM s1 11 r1.toNatClampNeg (mI s1 21 4)) 20 4 (mI (sM s1 11 r1.toNatClampNeg (mI s1 21 4)) 20 5)) 21 4 (mI (sM (sM s1 11 r1.toNatClampNeg (mI s1 21 4)) 20 4 (mI (sM s1 11 r1.toNatClampNeg (mI s1 21 4)) 20 5)) 21 5)) 20 6)) 21 6)) 20 7)) 21 7)) 19 1 ((mI (sM (sM (sM (sM (sM (sM (sM s1 11 r1.toNatClampNeg (mI s1 21 4)) 20 4 (mI (sM s1 11 r1.toNatClampNeg (mI s1 21 4)) 20 5)) 21 4 (mI (sM (sM s1 11 r1.toNatClampNeg (mI s1 21 4)) 20 4 (mI (sM s1 11 r1.toNatClampNeg (mI s1 21 4)) 20 5)) 21 5)) 20 5 (mI (sM (sM (sM s1 11 r1.toNatClampNeg (mI s1 21 4)) 20 4 (mI (sM s1 11 r1.toNatClampNeg (mI s1 21 4)) 20 5)) 21 4 (mI (sM (sM s1 11 r1.toNatClampNeg (mI s1 21 4)) 20 4 (mI (sM s1 11 r1.toNatClampNeg (mI s1 21 4)) 20 5)) 21 5)) 20 6)) 21 5 (mI (sM (sM (sM (sM s1 11 r1.toNatClampNeg (mI s1 21 4)) 20 4 (mI (sM s1 11 r1.toNatClampNeg (mI s1 21 4)) 20 5)) 21 4 (mI (sM (sM s1 11 r1.toNatClampNeg (mI s1 21 4)) 20 4 (mI (sM s1 11 r1.toNatClampNeg (mI s1 21 4)) 20 5)) 21 5)) 20 5 (mI (sM (sM (sM s1 11 r1.toNatClampNeg (mI s1 21 4)) 20 4 (mI (sM s1 11 r1.toNatClampNeg (mI s1 21 4)) 20 5)) 21 4 (mI (sM (sM s1 11 r1.toNatClampNeg (mI s1 21 4)) 20 4 (mI (sM s1 11 r1.toNatClampNeg (mI s1 21 4)) 20 5)) 21 5)) 20 6)) 21 6)) 20 6 (mI (sM (sM (sM (sM (sM s1 11 r1.toNatClampNeg (mI s1 21 4)) 20 4 (mI (sM s1 11 r1.toNatClampNeg (mI s1 21 4)) 20 5)) 21 4 (mI (sM (sM s1 11 r1.toNatClampNeg (mI s1 21 4)) 20 4 (mI (sM s1 11 r1.toNatClampNeg (mI s1 21 4)) 20 5)) 21 5)) 20 5 (mI (sM (sM (sM s1 11 r1.toNatClampNeg (mI s1 21 4)) 20 4 (mI (sM s1 11 r1.toNatClampNeg (mI s1 21 4)) 20 5)) 21 4 (mI (sM (sM s1 11 r1.toNatClampNeg (mI s1 21 4)) 20 4 (mI (sM s1 11 r1.toNatClampNeg (mI s1 21 4)) 20 5)) 21 5)) 20 6)) 21 5 (mI (sM (sM (sM (sM s1 11 r1.toNatClampNeg (mI s1 21 4)) 20 4 (mI (sM s1 11 r1.toNatClampNeg (mI s1 21 4)) 20 5)) 21 4 (mI (sM (sM s1 11 r1.toNatClampNeg (mI s1 21 4)) 20 4 (mI (sM s1 11 r1.toNatClampNeg (mI s1 21 4)) 20 5)) 21 5)) 20 5 (mI (sM (sM (sM s1 11 r1.toNatClampNeg (mI s1 21 4)) 20 4 (mI (sM s1 11 r1.toNatClampNeg (mI s1 21 4)) 20 5)) 21 4 (mI (sM (sM s1 11 r1.toNatClampNeg (mI s1 21 4)) 20 4 (mI (sM s1 11 r1.toNatClampNeg (mI s1 21 4)) 20 5)) 21 5)) 20 6)) 21 6)) 20 7)) 21 6 (mI (sM (sM (sM (sM (sM (sM s1 11 r1.toNatClampNeg (mI s1 21 4)) 20 4 (mI (sM s1 11 r1.toNatClampNeg (mI s1 21 4)) 20 5)) 21 4 (mI (sM (sM s1 11 r1.toNatClampNeg (mI s1 21 4)) 20 4 (mI (sM s1 11 r1.toNatClampNeg (mI s1 21 4)) 20 5)) 21 5)) 20 5 (mI (sM (sM (sM s1 11 r1.toNatClampNeg (mI s1 21 4)) 20 4 (mI (sM s1 11 r1.toNatClampNeg (mI s1 21 4)) 20 5)) 21 4 (mI (sM (sM s1 11 r1.toNatClampNeg (mI s1 21 4)) 20 4 (mI (sM s1 11 r1.toNatClampNeg (mI s1 21 4)) 20 5)) 21 5)) 20 6)) 21 5 (mI (sM (sM (sM (sM s1 11 r1.toNatClampNeg (mI s1 21 4)) 20 4 (mI (sM s1 11 r1.toNatClampNeg (mI s1 21 4)) 20 5)) 21 4 (mI (sM (sM s1 11 r1.toNatClampNeg (mI s1 21 4)) 20 4 (mI (sM s1 11 r1.toNatClampNeg (mI s1 21 4)) 20 5)) 21 5)) 20 5 (mI (sM (sM (sM s1 11 r1.toNatClampNeg (mI s1 21 4)) 20 4 (mI (sM s1 11 r1.toNatClampNeg (mI s1 21 4)) 20 5)) 21 4 (mI (sM (sM s1 11 r1.toNatClampNeg (mI s1 21 4)) 20 4 (mI (sM s1 11 r1.toNatClampNeg (mI s1 21 4)) 20 5)) 21 5)) 20 6)) 21 6)) 20 6 (mI (sM (sM (sM (sM (sM s1 11 r1.toNatClampNeg (mI s1 21 4)) 20 4 (mI (sM s1 11 r1.toNatClampNeg (mI s1 21 4)) 20 5)) 21 4 (mI (sM (sM s1 11 r1.toNatClampNeg (mI s1 21 4)) 20 4 (mI (sM s1 11 r1.toNatClampNeg (mI s1 21 4)) 20 5)) 21 5)) 20 5 (mI (sM (sM (sM s1 11 r1.toNatClampNeg (mI s1 21 4)) 20 4 (mI (sM s1 11 r1.toNatClampNeg (mI s1 21 4)) 20 5)) 21 4 (mI (sM (sM s1 11 r1.toNatClampNeg (mI s1 21 4)) 20 4 (mI (sM s1 11 r1.toNatClampNeg (mI s1 21 4)) 20 5)) 21 5)) 20 6)) 21 5 (mI (sM (sM (sM (sM s1 11 r1.toNatClampNeg (mI s1 21 4)) 20 4 (mI (sM s1 11 r1.toNatClampNeg (mI s1 21 4)) 20 5)) 21 4 (mI (sM (sM s1 11 r1.toNatClampNeg (mI s1 21 4)) 20 4 (mI (sM s1 11 r1.toNatClampNeg (mI s1 21 4)) 20 5)) 21 5)) 20 5 (mI (sM (sM (sM s1 11 r1.toNatClampNeg (mI s1 21 4)) 20 4 (mI (sM s1 11 r1.toNatClampNeg (mI s1 21 4)) 20 5)) 21 4 (mI (sM (sM s1 11 r1.toNatClampNeg (mI s1 21 4)) 20 4 (mI (sM s1 11 r1.toNatClampNeg (mI s1 21 4)) 20 5)) 21 5)) 20 6)) 21 6)) 20 7)) 21 7)) 19 1) - 1)) hw 41 ) (cwV 1 hts gv_M_88 rfl rfl rfl (by decide +kernel) ⟨Nat.le_of_ble_eq_true rfl, Nat.le_of_ble_eq_true rfl⟩) (va_recv hK hP (ci := 3) (q0 := 0) rfl rfl) hP hK hS (fun _ h9 => h9) rfl hl.1 rfl (Nat.le_of_ble_eq_true rfl) dM_receive_117 ⟨Nat.zero_le _, Nat.zero_le _⟩ (fun r6 s6 H locs hq hP hS => ?_)
          obtain ⟨h6, hw, hx6⟩ := hq
          rw [kk_b_eq h6] at hf
          refine lv_istore_n (lv' := [(3, .int r6), (2, .int r1), (0, .ref (ad 0)), (1, .int 1)]) hx hb dM_receive_120 rfl hl (by decide) rfl (fun ls hl => ?_)
          refine lv_iload_n hx hb dM_receive_121 rfl (lv_at hl 0 rfl) ?_
          refine lv_if_ge (tgt := 127) hx hb dM_receive_122 (by decide) (fun c_122 => ?_) (fun c_122 => ?_)
          · rw [if_pos c_122] at hf
            refine lv_aload_n hx hb dM_receive_127 rfl (lv_at hl 2 rfl) ?_
            refine lv_iload_n hx hb dM_receive_128 rfl (lv_at hl 3 rfl) ?_
            refine lv_aload_n hx hb dM_receive_129 rfl (lv_at hl 2 rfl) ?_
            refine va_get (D := (dC, dI)) (ci := 3) (v := .ref (ad 10)) (C := R_M) (T := T_M) (N := 23) hx hb hts uw_M hown hK hP 0 rfl rfl 13 (by decide) (hts _ (List.mem_cons_of_mem _ wd_344)) (fun _ h9 => h9) rfl dM_receive_130 ?_
            refine lv_iload_n hx hb dM_receive_133 rfl (lv_at hl 0 rfl) ?_
            refine va_iald hx hb hK hP 10 9 rfl rfl (hx6.resolve_left (kk_ge c_122)) dM_receive_134 ?_
            refine lv_aload_n hx hb dM_receive_135 rfl (lv_at hl 2 rfl) ?_
            refine va_get (D := (dC, dI)) (ci := 3) (v := .ref (ad 11)) (C := R_M) (T := T_M) (N := 23) hx hb hts uw_M hown hK hP 0 rfl rfl 14 (by decide) (hts _ (List.mem_cons_of_mem _ wd_345)) (fun _ h9 => h9) rfl dM_receive_136 ?_
            refine lv_iload_n hx hb dM_receive_139 rfl (lv_at hl 0 rfl) ?_
            refine va_iald hx hb hK hP 11 10 rfl rfl (hx6.resolve_left (kk_ge c_122)) dM_receive_140 ?_
            refine kk_cv (w := km_w ad cs) (As := [.int 1, .int (mI s6 13 r6.toNatClampNeg), .int (mI s6 14 r6.toNatClampNeg)]) (rest := []) ⟨hx, hb, hml, hown, hts⟩ (mc_comeIn l dC dI ad cs hj s6 hw 1 (mI s6 13 r6.toNatClampNeg) (mI s6 14 r6.toNatClampNeg) (kk_inl (by decide)) (km_mes_rec kk_c1 hw0 (by decide) c_26 h6 rfl)) (cwV 3 hts gv_M_114 rfl rfl rfl (by decide +kernel) ⟨Nat.le_of_ble_eq_true rfl, Nat.le_of_ble_eq_true rfl⟩) (va_recv hK hP (ci := 3) (q0 := 0) rfl rfl) hP hK hS (fun _ h9 => h9) rfl hl.1 rfl (Nat.le_of_ble_eq_true rfl) dM_receive_141 ⟨Nat.zero_le _, Nat.zero_le _⟩ (fun s7 H locs hq hP hS => ?_)
            obtain ⟨h7, hw⟩ := hq
            rw [kk_v_eq h7] at hf
            refine lv_aload_n hx hb dM_receive_144 rfl (lv_at hl 2 rfl) ?_
            refine va_get (D := (dC, dI)) (ci := 3) (v := .ref (ad 8)) (C := R_M) (T := T_M) (N := 23) hx hb hts uw_M hown hK hP 0 rfl rfl 11 (by decide) (hts _ (List.mem_cons_of_mem _ wd_342)) (fun _ h9 => h9) rfl dM_receive_145 ?_
            refine lv_iload_n hx hb dM_receive_148 rfl (lv_at hl 0 rfl) ?_
            refine lv_iconst (v := 0) hx hb dM_receive_149 (by decide) ?_
            refine va_iast hx hb hK hP (km_D hj) hS 8 7 rfl rfl (hx6.resolve_left (kk_ge c_122)) dM_receive_150 (fun H locs hP _ hS => ?_)
            replace hP := km_u_result hP
            replace hw := km_wf_I (f := 11) (i := r6.toNatClampNeg) (v := 0) hw (by decide)
            refine lv_aload_n hx hb dM_receive_151 rfl (lv_at hl 2 rfl) ?_
            refine lv_iload_n hx hb dM_receive_152 rfl (lv_at hl 0 rfl) ?_
            refine kk_cv (w := km_w ad cs) (As := [.int r6]) (rest := []) ⟨hx, hb, hml, hown, hts⟩ (mc_ready l dC dI ad cs hj (sM s7 11 r6.toNatClampNeg 0) hw r6 (hx6.resolve_left (kk_ge c_122))) (cwV 1 hts gv_M_92 rfl rfl rfl (by decide +kernel) ⟨Nat.le_of_ble_eq_true rfl, Nat.le_of_ble_eq_true rfl⟩) (va_recv hK hP (ci := 3) (q0 := 0) rfl rfl) hP hK hS (fun _ h9 => h9) rfl hl.1 rfl (Nat.le_of_ble_eq_true rfl) dM_receive_153 ⟨Nat.zero_le _, Nat.zero_le _⟩ (fun s8 H locs hq hP hS => ?_)
            obtain ⟨h8, hw⟩ := hq
            rw [kk_v_eq h8] at hf
            refine lv_iconst (v := 0) hx hb dM_receive_156 (by decide) ?_
            exact kk_iret hx hb hr hlocks hP hK hS ⟨hf.symm, hw⟩ dM_receive_157
          · rw [if_neg c_122] at hf
            refine lv_iconst (v := 0) hx hb dM_receive_125 (by decide) ?_
            exact kk_iret hx hb hr hlocks hP hK hS ⟨hf.symm, hw⟩ dM_receive_126
        · rw [if_pos c_26] at hf
          refine lv_aload_n hx hb dM_receive_29 rfl (lv_at hl 1 rfl) ?_
          refine lv_iload_n hx hb dM_receive_30 rfl (lv_at hl 0 rfl) ?_
          refine lv_bipush (v := 50) hx hb dM_receive_31 (by decide) ?_
          refine lv_iload_n hx hb dM_receive_33 rfl (lv_at hl 2 rfl) ?_
          refine lv_iadd hx hb dM_receive_34 ?_
          refine lv_topi (fun z9 e9 => ?_)
          obtain rfl : z9 = 51 := e9.trans (by decide)
          refine lv_iconst (v := 0) hx hb dM_receive_35 (by decide) ?_
          refine kk_cv (w := km_w ad cs) (As := [.int r1, .int 51, .int 0]) (rest := []) ⟨hx, hb, hml, hown, hts⟩ (mc_block l dC dI ad cs hj s1 hw r1 51 0 (hx1.resolve_left (kk_ge c_15))) (cwV 3 hts gv_M_96 rfl rfl rfl (by decide +kernel) ⟨Nat.le_of_ble_eq_true rfl, Nat.le_of_ble_eq_true rfl⟩) (va_recv hK hP (ci := 3) (q0 := 0) rfl rfl) hP hK hS (fun _ h9 => h9) rfl hl.1 rfl (Nat.le_of_ble_eq_true rfl) dM_receive_36 ⟨Nat.zero_le _, Nat.zero_le _⟩ (fun s9 H locs hq hP hS => ?_)
          obtain ⟨h9, hw⟩ := hq
          rw [kk_v_eq h9] at hf
          refine lv_iconst (v := 1) hx hb dM_receive_39 (by decide) ?_
          exact kk_iret hx hb hr hlocks hP hK hS ⟨hf.symm, hw⟩ dM_receive_40
    · rw [if_neg c_15] at hf
      refine lv_iconst (v := (-1)) hx hb dM_receive_18 (by decide) ?_
      exact kk_iret hx hb hr hlocks hP hK hS ⟨hf.symm, hw⟩ dM_receive_19
