set_option maxHeartbeats 4000000 in
set_option maxRecDepth 100000 in
theorem mc_unlock (l : Launch) (dC : Nat → ClassId) (dI : Nat → Nat → Nat) (ad : Nat → Nat) (cs : Nat → ClassId) (hj : km_inj ad) (μ : km_S) (hw : km_wf μ) (m1 : Int32) : Met l y_M_unlock ws_M_unlock ({ frames := 3, cells := 0, slots := 0, locals := 68 }) (kk_Pc (dC, dI) vwCl (km_t cs) (km_w ad cs μ) [.ref (ad 0), .int m1]) (va_Qi (km_pi (mf_unlock μ m1)) (kk_B (dC, dI) vwCl (km_t cs) (km_w ad cs)) (km_A ad)) 0 0 (km_A ad) := by
  refine Met.ofW (cc := b_M_unlock) (maxL := 3) (ret := (some .int)) (by decide) rfl ?_
  intro p e s m args below meth c s₁ B hml hv
  obtain ⟨rfl, hP, hK⟩ := hv
  have hx := B.exec
  have hb := B.bytes
  have hr := B.returns
  have hts := atoms_spec (ws := ws_M_unlock) B.pre
  have hown : s.vm.findClass R_M = some m.cls := findClass_of_methodNamed B.named
  have hlocks := B.notSynchronized
  have hS : va_S (km_A ad) s.heap s.heap [] := va_S.rf
  generalize hf : mf_unlock μ m1 = out
  have hl := lv_entry ([.ref (ad 0), .int m1]) (n := 3) (Nat.le_of_ble_eq_true rfl)
  rw [lg_entry_eq]
  generalize (lg_sl ([.ref (ad 0), .int m1]) ++ List.replicate (3 - (lg_sl ([.ref (ad 0), .int m1])).length) Slot.unset).toArray = ls at hl ⊢
  have hl : lv_has ls 3 [(0, .ref (ad 0)), (1, .int m1)] := hl
  rw [mf_unlock] at hf
  refine lv_aload_n hx hb dM_unlock_0 rfl (lv_at hl 0 rfl) ?_
  refine kk_ci (w := km_w ad cs) (As := []) (rest := []) ⟨hx, hb, hml, hown, hts⟩ (mc_running l dC dI ad cs hj μ hw  ) (cwV 0 hts gv_M_104 rfl rfl rfl (by decide +kernel) ⟨Nat.le_of_ble_eq_true rfl, Nat.le_of_ble_eq_true rfl⟩) (va_recv hK hP (ci := 3) (q0 := 0) rfl rfl) hP hK hS (fun _ h9 => h9) rfl hl.1 rfl (Nat.le_of_ble_eq_true rfl) dM_unlock_1 ⟨Nat.zero_le _, Nat.zero_le _⟩ (fun r1 s1 H locs hq hP hS => ?_)
  obtain ⟨h1, hw, hx1⟩ := hq
  rw [kk_b_eq h1] at hf
  refine lv_istore_n (lv' := [(2, .int r1), (0, .ref (ad 0)), (1, .int m1)]) hx hb dM_unlock_4 rfl hl (by decide) rfl (fun ls hl => ?_)
  refine lv_aload_n hx hb dM_unlock_5 rfl (lv_at hl 1 rfl) ?_
  refine lv_iload_n hx hb dM_unlock_6 rfl (lv_at hl 2 rfl) ?_
  refine lv_iconst (v := 4) hx hb dM_unlock_7 (by decide) ?_
  refine kk_cp (r0 := mf_out m1 4) (w := km_w ad cs) (As := [.int m1, .int 4]) (rest := []) ⟨hx, hb, hml, hown, hts⟩ (mc_out l (ad 0) m1 4) (cwV 2 hts gv_M_100 rfl rfl rfl (by decide +kernel) ⟨Nat.le_of_ble_eq_true rfl, Nat.le_of_ble_eq_true rfl⟩) (va_recv hK hP (ci := 3) (q0 := 0) rfl rfl) hP hS rfl hl.1 rfl (Nat.le_of_ble_eq_true rfl) dM_unlock_8 ⟨Nat.zero_le _, Nat.zero_le _⟩ (fun H locs hP hS => ?_)
  refine lv_if_ne (tgt := 28) hx hb dM_unlock_11 (by decide) (fun c_11 => ?_) (fun c_11 => ?_)
  · rw [if_neg c_11] at hf
    refine lv_iconst (v := (-1)) hx hb dM_unlock_28 (by decide) ?_
    exact kk_iret hx hb hr hlocks hP hK hS ⟨hf.symm, hw⟩ dM_unlock_29
  · rw [if_pos c_11] at hf
    refine lv_iload_n hx hb dM_unlock_14 rfl (lv_at hl 0 rfl) ?_
    refine lv_if_lt (tgt := 28) hx hb dM_unlock_15 (by decide) (fun c_15 => ?_) (fun c_15 => ?_)
    · rw [if_pos c_15] at hf
      refine lv_iconst (v := (-1)) hx hb dM_unlock_28 (by decide) ?_
      exact kk_iret hx hb hr hlocks hP hK hS ⟨hf.symm, hw⟩ dM_unlock_29
    · rw [if_neg c_15] at hf
      refine lv_aload_n hx hb dM_unlock_18 rfl (lv_at hl 1 rfl) ?_
      refine va_get (D := (dC, dI)) (ci := 3) (v := .ref (ad 14)) (C := R_M) (T := T_M) (N := 23) hx hb hts uw_M hown hK hP 0 rfl rfl 17 (by decide) (hts _ (List.mem_cons_of_mem _ wd_348)) (fun _ h9 => h9) rfl dM_unlock_19 ?_
      refine lv_iload_n hx hb dM_unlock_22 rfl (lv_at hl 2 rfl) ?_
      refine va_iald hx hb hK hP 14 13 rfl rfl (km_in (by decide) c_11) dM_unlock_23 ?_
      refine lv_iload_n hx hb dM_unlock_24 rfl (lv_at hl 0 rfl) ?_
      refine lv_icmp_eq (tgt := 30) hx hb dM_unlock_25 (by decide) (fun c_25 => ?_) (fun c_25 => ?_)
      · rw [if_pos c_25] at hf
        refine lv_aload_n hx hb dM_unlock_30 rfl (lv_at hl 1 rfl) ?_
        refine lv_iload_n hx hb dM_unlock_31 rfl (lv_at hl 2 rfl) ?_
        refine kk_cv (w := km_w ad cs) (As := [.int m1]) (rest := []) ⟨hx, hb, hml, hown, hts⟩ (mc_give l dC dI ad cs hj s1 hw m1 (km_in (by decide) c_11)) (cwV 1 hts gv_M_107 rfl rfl rfl (by decide +kernel) ⟨Nat.le_of_ble_eq_true rfl, Nat.le_of_ble_eq_true rfl⟩) (va_recv hK hP (ci := 3) (q0 := 0) rfl rfl) hP hK hS (fun _ h9 => h9) rfl hl.1 rfl (Nat.le_of_ble_eq_true rfl) dM_unlock_32 ⟨Nat.zero_le _, Nat.zero_le _⟩ (fun s2 H locs hq hP hS => ?_)
        obtain ⟨h2, hw⟩ := hq
        rw [kk_v_eq h2] at hf
        refine lv_iconst (v := 0) hx hb dM_unlock_35 (by decide) ?_
        exact kk_iret hx hb hr hlocks hP hK hS ⟨hf.symm, hw⟩ dM_unlock_36
      · rw [if_neg c_25] at hf
        refine lv_iconst (v := (-1)) hx hb dM_unlock_28 (by decide) ?_
        exact kk_iret hx hb hr hlocks hP hK hS ⟨hf.symm, hw⟩ dM_unlock_29
set_option maxHeartbeats 4000000 in
set_option maxRecDepth 100000 in
theorem mc_await (l : Launch) (dC : Nat → ClassId) (dI : Nat → Nat → Nat) (ad : Nat → Nat) (cs : Nat → ClassId) (hj : km_inj ad) (μ : km_S) (hw : km_wf μ) (cc1 : Int32) (m1 : Int32) (n1 : Int32) : Met l y_M_await ws_M_await ({ frames := 3, cells := 0, slots := 0, locals := 68 }) (kk_Pc (dC, dI) vwCl (km_t cs) (km_w ad cs μ) [.ref (ad 0), .int cc1, .int m1, .int n1]) (va_Qi (km_pi (mf_await μ cc1 m1 n1)) (kk_B (dC, dI) vwCl (km_t cs) (km_w ad cs)) (km_A ad)) 0 0 (km_A ad) := by
  refine Met.ofW (cc := b_M_await) (maxL := 5) (ret := (some .int)) (by decide) rfl ?_
  intro p e s m args below meth c s₁ B hml hv
  obtain ⟨rfl, hP, hK⟩ := hv
  have hx := B.exec
  have hb := B.bytes
  have hr := B.returns
  have hts := atoms_spec (ws := ws_M_await) B.pre
  have hown : s.vm.findClass R_M = some m.cls := findClass_of_methodNamed B.named
  have hlocks := B.notSynchronized
  have hS : va_S (km_A ad) s.heap s.heap [] := va_S.rf
  generalize hf : mf_await μ cc1 m1 n1 = out
  have hl := lv_entry ([.ref (ad 0), .int cc1, .int m1, .int n1]) (n := 5) (Nat.le_of_ble_eq_true rfl)
  rw [lg_entry_eq]
  generalize (lg_sl ([.ref (ad 0), .int cc1, .int m1, .int n1]) ++ List.replicate (5 - (lg_sl ([.ref (ad 0), .int cc1, .int m1, .int n1])).length) Slot.unset).toArray = ls at hl ⊢
  have hl : lv_has ls 5 [(0, .ref (ad 0)), (1, .int cc1), (2, .int m1), (3, .int n1)] := hl
  rw [mf_await] at hf
  refine lv_aload_n hx hb dM_await_0 rfl (lv_at hl 0 rfl) ?_
  refine kk_ci (w := km_w ad cs) (As := []) (rest := []) ⟨hx, hb, hml, hown, hts⟩ (mc_running l dC dI ad cs hj μ hw  ) (cwV 0 hts gv_M_104 rfl rfl rfl (by decide +kernel) ⟨Nat.le_of_ble_eq_true rfl, Nat.le_of_ble_eq_true rfl⟩) (va_recv hK hP (ci := 3) (q0 := 0) rfl rfl) hP hK hS (fun _ h9 => h9) rfl hl.1 rfl (Nat.le_of_ble_eq_true rfl) dM_await_1 ⟨Nat.zero_le _, Nat.zero_le _⟩ (fun r1 s1 H locs hq hP hS => ?_)
  obtain ⟨h1, hw, hx1⟩ := hq
  rw [kk_b_eq h1] at hf
  refine lv_istore (lv' := [(4, .int r1), (0, .ref (ad 0)), (1, .int cc1), (2, .int m1), (3, .int n1)]) hx hb dM_await_4 hl (by decide) rfl (fun ls hl => ?_)
  refine lv_aload_n hx hb dM_await_6 rfl (lv_at hl 1 rfl) ?_
  refine lv_iload_n hx hb dM_await_7 rfl (lv_at hl 2 rfl) ?_
  refine lv_iconst (v := 2) hx hb dM_await_8 (by decide) ?_
  refine kk_cp (r0 := mf_out cc1 2) (w := km_w ad cs) (As := [.int cc1, .int 2]) (rest := []) ⟨hx, hb, hml, hown, hts⟩ (mc_out l (ad 0) cc1 2) (cwV 2 hts gv_M_100 rfl rfl rfl (by decide +kernel) ⟨Nat.le_of_ble_eq_true rfl, Nat.le_of_ble_eq_true rfl⟩) (va_recv hK hP (ci := 3) (q0 := 0) rfl rfl) hP hS rfl hl.1 rfl (Nat.le_of_ble_eq_true rfl) dM_await_9 ⟨Nat.zero_le _, Nat.zero_le _⟩ (fun H locs hP hS => ?_)
  refine lv_if_ne (tgt := 51) hx hb dM_await_12 (by decide) (fun c_12 => ?_) (fun c_12 => ?_)
  · rw [if_neg c_12] at hf
    refine lv_iconst (v := (-1)) hx hb dM_await_51 (by decide) ?_
    exact kk_iret hx hb hr hlocks hP hK hS ⟨hf.symm, hw⟩ dM_await_52
  · rw [if_pos c_12] at hf
    refine lv_aload_n hx hb dM_await_15 rfl (lv_at hl 1 rfl) ?_
    refine lv_iload_n hx hb dM_await_16 rfl (lv_at hl 3 rfl) ?_
    refine lv_iconst (v := 4) hx hb dM_await_17 (by decide) ?_
    refine kk_cp (r0 := mf_out m1 4) (w := km_w ad cs) (As := [.int m1, .int 4]) (rest := []) ⟨hx, hb, hml, hown, hts⟩ (mc_out l (ad 0) m1 4) (cwV 2 hts gv_M_100 rfl rfl rfl (by decide +kernel) ⟨Nat.le_of_ble_eq_true rfl, Nat.le_of_ble_eq_true rfl⟩) (va_recv hK hP (ci := 3) (q0 := 0) rfl rfl) hP hS rfl hl.1 rfl (Nat.le_of_ble_eq_true rfl) dM_await_18 ⟨Nat.zero_le _, Nat.zero_le _⟩ (fun H locs hP hS => ?_)
    refine lv_if_ne (tgt := 51) hx hb dM_await_21 (by decide) (fun c_21 => ?_) (fun c_21 => ?_)
    · rw [if_neg c_21] at hf
      refine lv_iconst (v := (-1)) hx hb dM_await_51 (by decide) ?_
      exact kk_iret hx hb hr hlocks hP hK hS ⟨hf.symm, hw⟩ dM_await_52
    · rw [if_pos c_21] at hf
      refine lv_aload_n hx hb dM_await_24 rfl (lv_at hl 1 rfl) ?_
      refine lv_iload_n hx hb dM_await_25 rfl (lv_at hl 4 rfl) ?_
      refine lv_sipush (v := 1001) hx hb dM_await_26 (by decide) ?_
      refine kk_cp (r0 := mf_out n1 1001) (w := km_w ad cs) (As := [.int n1, .int 1001]) (rest := []) ⟨hx, hb, hml, hown, hts⟩ (mc_out l (ad 0) n1 1001) (cwV 2 hts gv_M_100 rfl rfl rfl (by decide +kernel) ⟨Nat.le_of_ble_eq_true rfl, Nat.le_of_ble_eq_true rfl⟩) (va_recv hK hP (ci := 3) (q0 := 0) rfl rfl) hP hS rfl hl.1 rfl (Nat.le_of_ble_eq_true rfl) dM_await_29 ⟨Nat.zero_le _, Nat.zero_le _⟩ (fun H locs hP hS => ?_)
      refine lv_if_ne (tgt := 51) hx hb dM_await_32 (by decide) (fun c_32 => ?_) (fun c_32 => ?_)
      · rw [if_neg c_32] at hf
        refine lv_iconst (v := (-1)) hx hb dM_await_51 (by decide) ?_
        exact kk_iret hx hb hr hlocks hP hK hS ⟨hf.symm, hw⟩ dM_await_52
      · rw [if_pos c_32] at hf
        refine lv_iload hx hb dM_await_35 (lv_at hl 0 rfl) ?_
        refine lv_if_lt (tgt := 51) hx hb dM_await_37 (by decide) (fun c_37 => ?_) (fun c_37 => ?_)
        · rw [if_pos c_37] at hf
          refine lv_iconst (v := (-1)) hx hb dM_await_51 (by decide) ?_
          exact kk_iret hx hb hr hlocks hP hK hS ⟨hf.symm, hw⟩ dM_await_52
        · rw [if_neg c_37] at hf
          refine lv_aload_n hx hb dM_await_40 rfl (lv_at hl 1 rfl) ?_
          refine va_get (D := (dC, dI)) (ci := 3) (v := .ref (ad 14)) (C := R_M) (T := T_M) (N := 23) hx hb hts uw_M hown hK hP 0 rfl rfl 17 (by decide) (hts _ (List.mem_cons_of_mem _ wd_348)) (fun _ h9 => h9) rfl dM_await_41 ?_
          refine lv_iload_n hx hb dM_await_44 rfl (lv_at hl 3 rfl) ?_
          refine va_iald hx hb hK hP 14 13 rfl rfl (km_in (by decide) c_21) dM_await_45 ?_
          refine lv_iload hx hb dM_await_46 (lv_at hl 0 rfl) ?_
          refine lv_icmp_eq (tgt := 53) hx hb dM_await_48 (by decide) (fun c_48 => ?_) (fun c_48 => ?_)
          · rw [if_pos c_48] at hf
            refine lv_aload_n hx hb dM_await_53 rfl (lv_at hl 1 rfl) ?_
            refine lv_iload hx hb dM_await_54 (lv_at hl 0 rfl) ?_
            refine lv_bipush (v := 20) hx hb dM_await_56 (by decide) ?_
            refine lv_iload_n hx hb dM_await_58 rfl (lv_at hl 2 rfl) ?_
            refine lv_iadd hx hb dM_await_59 ?_
            refine lv_iload_n hx hb dM_await_60 rfl (lv_at hl 4 rfl) ?_
            refine lv_if_ne (tgt := 68) hx hb dM_await_61 (by decide) (fun c_61 => ?_) (fun c_61 => ?_)
            · rw [if_neg c_61] at hf
              refine lv_aload_n hx hb dM_await_68 rfl (lv_at hl 1 rfl) ?_
              refine va_get (D := (dC, dI)) (ci := 3) (v := .int (mI s1 2 0)) (C := R_M) (T := T_M) (N := 23) hx hb hts uw_M hown hK hP 0 rfl rfl 2 (by decide) (hts _ (List.mem_cons_of_mem _ wd_333)) (fun _ h9 => h9) rfl dM_await_69 ?_
              refine lv_iload_n hx hb dM_await_72 rfl (lv_at hl 4 rfl) ?_
              refine lv_iadd hx hb dM_await_73 ?_
              refine kk_cv (w := km_w ad cs) (As := [.int r1, .int (20 + cc1), .int ((mI s1 2 0) + n1)]) (rest := []) ⟨hx, hb, hml, hown, hts⟩ (mc_block l dC dI ad cs hj s1 hw r1 (20 + cc1) ((mI s1 2 0) + n1) (hx1.resolve_left c_37)) (cwV 3 hts gv_M_96 rfl rfl rfl (by decide +kernel) ⟨Nat.le_of_ble_eq_true rfl, Nat.le_of_ble_eq_true rfl⟩) (va_recv hK hP (ci := 3) (q0 := 0) rfl rfl) hP hK hS (fun _ h9 => h9) rfl hl.1 rfl (Nat.le_of_ble_eq_true rfl) dM_await_74 ⟨Nat.zero_le _, Nat.zero_le _⟩ (fun s2 H locs hq hP hS => ?_)
              obtain ⟨h2, hw⟩ := hq
              rw [kk_v_eq h2] at hf
              refine lv_aload_n hx hb dM_await_77 rfl (lv_at hl 1 rfl) ?_
              refine va_get (D := (dC, dI)) (ci := 3) (v := .ref (ad 9)) (C := R_M) (T := T_M) (N := 23) hx hb hts uw_M hown hK hP 0 rfl rfl 12 (by decide) (hts _ (List.mem_cons_of_mem _ wd_343)) (fun _ h9 => h9) rfl dM_await_78 ?_
              refine lv_iload hx hb dM_await_81 (lv_at hl 0 rfl) ?_
              refine lv_iload_n hx hb dM_await_83 rfl (lv_at hl 3 rfl) ?_
              refine va_iast hx hb hK hP (km_D hj) hS 9 8 rfl rfl (hx1.resolve_left c_37) dM_await_84 (fun H locs hP _ hS => ?_)
              replace hP := km_u_mind hP
              replace hw : km_wf (sM s2 12 r1.toNatClampNeg m1) := km_wf_m hw (km_in (by decide) c_21)
              refine lv_aload_n hx hb dM_await_85 rfl (lv_at hl 1 rfl) ?_
              refine lv_iload_n hx hb dM_await_86 rfl (lv_at hl 3 rfl) ?_
              refine kk_cv (w := km_w ad cs) (As := [.int m1]) (rest := []) ⟨hx, hb, hml, hown, hts⟩ (mc_give l dC dI ad cs hj (sM s2 12 r1.toNatClampNeg m1) hw m1 (km_in (by decide) c_21)) (cwV 1 hts gv_M_107 rfl rfl rfl (by decide +kernel) ⟨Nat.le_of_ble_eq_true rfl, Nat.le_of_ble_eq_true rfl⟩) (va_recv hK hP (ci := 3) (q0 := 0) rfl rfl) hP hK hS (fun _ h9 => h9) rfl hl.1 rfl (Nat.le_of_ble_eq_true rfl) dM_await_87 ⟨Nat.zero_le _, Nat.zero_le _⟩ (fun s3 H locs hq hP hS => ?_)
              obtain ⟨h3, hw⟩ := hq
              rw [kk_v_eq h3] at hf
              refine lv_iconst (v := 1) hx hb dM_await_90 (by decide) ?_
              exact kk_iret hx hb hr hlocks hP hK hS ⟨hf.symm, hw⟩ dM_await_91
            · rw [if_pos c_61] at hf
              refine lv_iconst (v := 0) hx hb dM_await_64 (by decide) ?_
              refine lv_goto (tgt := 74) hx hb dM_await_65 (by decide) ?_
              refine kk_cv (w := km_w ad cs) (As := [.int r1, .int (20 + cc1), .int 0]) (rest := []) ⟨hx, hb, hml, hown, hts⟩ (mc_block l dC dI ad cs hj s1 hw r1 (20 + cc1) 0 (hx1.resolve_left c_37)) (cwV 3 hts gv_M_96 rfl rfl rfl (by decide +kernel) ⟨Nat.le_of_ble_eq_true rfl, Nat.le_of_ble_eq_true rfl⟩) (va_recv hK hP (ci := 3) (q0 := 0) rfl rfl) hP hK hS (fun _ h9 => h9) rfl hl.1 rfl (Nat.le_of_ble_eq_true rfl) dM_await_74 ⟨Nat.zero_le _, Nat.zero_le _⟩ (fun s4 H locs hq hP hS => ?_)
              obtain ⟨h4, hw⟩ := hq
              rw [kk_v_eq h4] at hf
              refine lv_aload_n hx hb dM_await_77 rfl (lv_at hl 1 rfl) ?_
              refine va_get (D := (dC, dI)) (ci := 3) (v := .ref (ad 9)) (C := R_M) (T := T_M) (N := 23) hx hb hts uw_M hown hK hP 0 rfl rfl 12 (by decide) (hts _ (List.mem_cons_of_mem _ wd_343)) (fun _ h9 => h9) rfl dM_await_78 ?_
              refine lv_iload hx hb dM_await_81 (lv_at hl 0 rfl) ?_
              refine lv_iload_n hx hb dM_await_83 rfl (lv_at hl 3 rfl) ?_
              refine va_iast hx hb hK hP (km_D hj) hS 9 8 rfl rfl (hx1.resolve_left c_37) dM_await_84 (fun H locs hP _ hS => ?_)
              replace hP := km_u_mind hP
              replace hw : km_wf (sM s4 12 r1.toNatClampNeg m1) := km_wf_m hw (km_in (by decide) c_21)
              refine lv_aload_n hx hb dM_await_85 rfl (lv_at hl 1 rfl) ?_
              refine lv_iload_n hx hb dM_await_86 rfl (lv_at hl 3 rfl) ?_
              refine kk_cv (w := km_w ad cs) (As := [.int m1]) (rest := []) ⟨hx, hb, hml, hown, hts⟩ (mc_give l dC dI ad cs hj (sM s4 12 r1.toNatClampNeg m1) hw m1 (km_in (by decide) c_21)) (cwV 1 hts gv_M_107 rfl rfl rfl (by decide +kernel) ⟨Nat.le_of_ble_eq_true rfl, Nat.le_of_ble_eq_true rfl⟩) (va_recv hK hP (ci := 3) (q0 := 0) rfl rfl) hP hK hS (fun _ h9 => h9) rfl hl.1 rfl (Nat.le_of_ble_eq_true rfl) dM_await_87 ⟨Nat.zero_le _, Nat.zero_le _⟩ (fun s5 H locs hq hP hS => ?_)
              obtain ⟨h5, hw⟩ := hq
              rw [kk_v_eq h5] at hf
              refine lv_iconst (v := 1) hx hb dM_await_90 (by decide) ?_
              exact kk_iret hx hb hr hlocks hP hK hS ⟨hf.symm, hw⟩ dM_await_91
          · rw [if_neg c_48] at hf
            refine lv_iconst (v := (-1)) hx hb dM_await_51 (by decide) ?_
            exact kk_iret hx hb hr hlocks hP hK hS ⟨hf.symm, hw⟩ dM_await_52
set_option maxHeartbeats 4000000 in
set_option maxRecDepth 100000 in
theorem mc_signal (l : Launch) (dC : Nat → ClassId) (dI : Nat → Nat → Nat) (ad : Nat → Nat) (cs : Nat → ClassId) (hj : km_inj ad) (μ : km_S) (hw : km_wf μ) (cc1 : Int32) (all : Int32) : Met l y_M_signal ws_M_signal ({ frames := 3, cells := 0, slots := 0, locals := 66 }) (kk_Pc (dC, dI) vwCl (km_t cs) (km_w ad cs μ) [.ref (ad 0), .int cc1, .int all]) (va_Qi (km_pi (mf_signal μ cc1 all)) (kk_B (dC, dI) vwCl (km_t cs) (km_w ad cs)) (km_A ad)) 0 0 (km_A ad) := by
  refine Met.ofW (cc := b_M_signal) (maxL := 6) (ret := (some .int)) (by decide) rfl ?_
  intro p e s m args below meth c s₁ B hml hv
  obtain ⟨rfl, hP, hK⟩ := hv
  have hx := B.exec
  have hb := B.bytes
  have hr := B.returns
  have hts := atoms_spec (ws := ws_M_signal) B.pre
  have hown : s.vm.findClass R_M = some m.cls := findClass_of_methodNamed B.named
  have hlocks := B.notSynchronized
  have hS : va_S (km_A ad) s.heap s.heap [] := va_S.rf
  generalize hf : mf_signal μ cc1 all = out
  have hl := lv_entry ([.ref (ad 0), .int cc1, .int all]) (n := 6) (Nat.le_of_ble_eq_true rfl)
  rw [lg_entry_eq]
  generalize (lg_sl ([.ref (ad 0), .int cc1, .int all]) ++ List.replicate (6 - (lg_sl ([.ref (ad 0), .int cc1, .int all])).length) Slot.unset).toArray = ls at hl ⊢
  have hl : lv_has ls 6 [(0, .ref (ad 0)), (1, .int cc1), (2, .int all)] := hl
  rw [mf_signal] at hf
  have loop16 : ∀ (n k : Nat) (woken : Int32) (μ : km_S) (H : Heap) (locs : List Loc) (ls : Array Slot), n + k = 8 → km_wf μ → (¬ all = 0) → mf_signal_L16 cc1 all n k woken μ = out → va_P (dC, dI) vwCl (km_w ad cs μ) H → va_S (km_A ad) s.heap H locs → lv_has ls 6 [(4, .int (nI k)), (3, .int woken), (0, .ref (ad 0)), (1, .int cc1), (2, .int all)] → W p l e (headSpec ws_M_signal ({ frames := 3, cells := 0, slots := 0, locals := 66 })).room s m ([.ref (ad 0), .int cc1, .int all] : List Value).toArray below meth c H locs 0 0 (MQ below (va_Qi (km_pi out) (kk_B (dC, dI) vwCl (km_t cs) (km_w ad cs)) (km_A ad)) ([.ref (ad 0), .int cc1, .int all] : List Value).toArray s 0 0 (km_A ad)) (F0 m 16 ls []) := by
    clear hf hl hP hS hw
    intro n
    induction n with
    | zero =>
      intro k woken μ H locs ls hnk hw hall hf hP hS hl
      have hk : k = 8 := by omega
      rw [mf_signal_L16] at hf
      have hl : lv_has ls 6 [(4, .int (nI k)), (3, .int woken), (0, .ref (ad 0)), (1, .int cc1), (2, .int all)] := hl
      refine lv_iload hx hb dM_signal_16 (lv_at hl 0 rfl) ?_
      refine lv_iload_n hx hb dM_signal_18 rfl (lv_at hl 4 rfl) ?_
      refine lv_if_eq (tgt := 27) hx hb dM_signal_19 (by decide) (fun c9 => absurd c9 hall) (fun _ => ?_)
      refine lv_bipush (v := 8) hx hb dM_signal_22 (by decide) ?_
      refine lv_goto (tgt := 28) hx hb dM_signal_24 (by decide) ?_
      refine lv_icmp_ge (tgt := 64) hx hb dM_signal_28 (by decide) (fun _ => ?_) (fun c9 => absurd (by rw [hk]; decide) c9)
      refine lv_iload_n hx hb dM_signal_64 rfl (lv_at hl 1 rfl) ?_
      exact kk_iret hx hb hr hlocks hP hK hS ⟨hf.symm, hw⟩ dM_signal_65
    | succ n ih =>
      intro k woken μ H locs ls hnk hw hall hf hP hS hl
      have hk : k < 8 := by omega
      rw [mf_signal_L16] at hf
      have hl : lv_has ls 6 [(4, .int (nI k)), (3, .int woken), (0, .ref (ad 0)), (1, .int cc1), (2, .int all)] := hl
      refine lv_iload hx hb dM_signal_16 (lv_at hl 0 rfl) ?_
      refine lv_iload_n hx hb dM_signal_18 rfl (lv_at hl 4 rfl) ?_
      refine lv_if_eq (tgt := 27) hx hb dM_signal_19 (by decide) (fun c9 => absurd c9 hall) (fun _ => ?_)
      refine lv_bipush (v := 8) hx hb dM_signal_22 (by decide) ?_
      refine lv_goto (tgt := 28) hx hb dM_signal_24 (by decide) ?_
      refine lv_icmp_ge (tgt := 64) hx hb dM_signal_28 (by decide) (fun c9 => absurd c9 (kk_stay hk (by decide))) (fun _ => ?_)
      refine lv_aload_n hx hb dM_signal_31 rfl (lv_at hl 2 rfl) ?_
      refine lv_bipush (v := 20) hx hb dM_signal_32 (by decide) ?_
      refine lv_iload_n hx hb dM_signal_34 rfl (lv_at hl 3 rfl) ?_
      refine lv_iadd hx hb dM_signal_35 ?_
      refine kk_ci (w := km_w ad cs) (As := [.int (20 + cc1)]) (rest := []) ⟨hx, hb, hml, hown, hts⟩ (mc_firstWaiter l dC dI ad cs hj μ hw (20 + cc1) ) (cwV 1 hts gv_M_88 rfl rfl rfl (by decide +kernel) ⟨Nat.le_of_ble_eq_true rfl, Nat.le_of_ble_eq_true rfl⟩) (va_recv hK hP (ci := 3) (q0 := 0) rfl rfl) hP hK hS (fun _ h9 => h9) rfl hl.1 rfl (Nat.le_of_ble_eq_true rfl) dM_signal_36 ⟨Nat.zero_le _, Nat.zero_le _⟩ (fun r1 s1 H locs hq hP hS => ?_)
      obtain ⟨h1, hw, hx1⟩ := hq
      rw [kk_b_eq h1] at hf
      refine lv_istore (lv' := [(5, .int r1), (4, .int (nI k)), (3, .int woken), (0, .ref (ad 0)), (1, .int cc1), (2, .int all)]) hx hb dM_signal_39 hl (by decide) rfl (fun ls hl => ?_)
      refine lv_iload hx hb dM_signal_41 (lv_at hl 0 rfl) ?_
      refine lv_if_ge (tgt := 48) hx hb dM_signal_43 (by decide) (fun c_43 => ?_) (fun c_43 => ?_)
      · rw [if_pos c_43] at hf
        refine lv_aload_n hx hb dM_signal_48 rfl (lv_at hl 3 rfl) ?_
        refine lv_iload hx hb dM_signal_49 (lv_at hl 0 rfl) ?_
        refine lv_iconst (v := 0) hx hb dM_signal_51 (by decide) ?_
        refine kk_cv (w := km_w ad cs) (As := [.int r1, .int 0]) (rest := []) ⟨hx, hb, hml, hown, hts⟩ (mc_retake l dC dI ad cs hj s1 hw r1 0 (hx1.resolve_left (kk_ge c_43))) (cwV 2 hts gv_M_110 rfl rfl rfl (by decide +kernel) ⟨Nat.le_of_ble_eq_true rfl, Nat.le_of_ble_eq_true rfl⟩) (va_recv hK hP (ci := 3) (q0 := 0) rfl rfl) hP hK hS (fun _ h9 => h9) rfl hl.1 rfl (Nat.le_of_ble_eq_true rfl) dM_signal_52 ⟨Nat.zero_le _, Nat.zero_le _⟩ (fun s2 H locs hq hP hS => ?_)
        obtain ⟨h2, hw⟩ := hq
        rw [kk_v_eq h2] at hf
        refine lv_iinc (v := woken + 1) (lv' := [(3, .int (woken + 1)), (5, .int r1), (4, .int (nI k)), (0, .ref (ad 0)), (1, .int cc1), (2, .int all)]) hx hb dM_signal_55 hl (k := 2) rfl rfl (by decide) rfl (fun ls hl => ?_)
        refine lv_iinc (v := nI (k + 1)) (lv' := [(4, .int (nI (k + 1))), (3, .int (woken + 1)), (5, .int r1), (0, .ref (ad 0)), (1, .int cc1), (2, .int all)]) hx hb dM_signal_58 hl (k := 2) rfl (nI_1 _) (by decide) rfl (fun ls hl => ?_)
        refine lv_goto (tgt := 16) hx hb dM_signal_61 (by decide) ?_
        exact ih (k + 1) (woken + 1) _ _ _ ls (by omega) hw hall hf hP hS (lv_sub hl [0, 1, 3, 4, 5] rfl)
      · rw [if_neg c_43] at hf
        refine lv_iload_n hx hb dM_signal_46 rfl (lv_at hl 2 rfl) ?_
        exact kk_iret hx hb hr hlocks hP hK hS ⟨hf.symm, hw⟩ dM_signal_47
  refine lv_aload_n hx hb dM_signal_0 rfl (lv_at hl 0 rfl) ?_
  refine lv_iload_n hx hb dM_signal_1 rfl (lv_at hl 1 rfl) ?_
  refine lv_iconst (v := 2) hx hb dM_signal_2 (by decide) ?_
  refine kk_cp (r0 := mf_out cc1 2) (w := km_w ad cs) (As := [.int cc1, .int 2]) (rest := []) ⟨hx, hb, hml, hown, hts⟩ (mc_out l (ad 0) cc1 2) (cwV 2 hts gv_M_100 rfl rfl rfl (by decide +kernel) ⟨Nat.le_of_ble_eq_true rfl, Nat.le_of_ble_eq_true rfl⟩) (va_recv hK hP (ci := 3) (q0 := 0) rfl rfl) hP hS rfl hl.1 rfl (Nat.le_of_ble_eq_true rfl) dM_signal_3 ⟨Nat.zero_le _, Nat.zero_le _⟩ (fun H locs hP hS => ?_)
  refine lv_if_eq (tgt := 11) hx hb dM_signal_6 (by decide) (fun c_6 => ?_) (fun c_6 => ?_)
  · rw [if_pos c_6] at hf
    rcases Classical.em (all = 0) with c_all | c_all
    · rw [if_pos c_all] at hf
      refine lv_iconst (v := 0) hx hb dM_signal_11 (by decide) ?_
      refine lv_istore_n (lv' := [(3, .int 0), (0, .ref (ad 0)), (1, .int cc1), (2, .int all)]) hx hb dM_signal_12 rfl hl (by decide) rfl (fun ls hl => ?_)
      refine lv_iconst (v := 0) hx hb dM_signal_13 (by decide) ?_
      refine lv_istore (lv' := [(4, .int 0), (3, .int 0), (0, .ref (ad 0)), (1, .int cc1), (2, .int all)]) hx hb dM_signal_14 hl (by decide) rfl (fun ls hl => ?_)
      refine lv_iload hx hb dM_signal_16 (lv_at hl 0 rfl) ?_
      refine lv_iload_n hx hb dM_signal_18 rfl (lv_at hl 4 rfl) ?_
      refine lv_if_eq (tgt := 27) hx hb dM_signal_19 (by decide) (fun _ => ?_) (fun c9 => absurd c_all c9)
      refine lv_iconst (v := 1) hx hb dM_signal_27 (by decide) ?_
      refine lv_icmp_ge (tgt := 64) hx hb dM_signal_28 (by decide) (fun c9 => absurd c9 (by decide)) (fun _ => ?_)
      refine lv_aload_n hx hb dM_signal_31 rfl (lv_at hl 2 rfl) ?_
      refine lv_bipush (v := 20) hx hb dM_signal_32 (by decide) ?_
      refine lv_iload_n hx hb dM_signal_34 rfl (lv_at hl 3 rfl) ?_
      refine lv_iadd hx hb dM_signal_35 ?_
      refine kk_ci (w := km_w ad cs) (As := [.int (20 + cc1)]) (rest := []) ⟨hx, hb, hml, hown, hts⟩ (mc_firstWaiter l dC dI ad cs hj μ hw (20 + cc1) ) (cwV 1 hts gv_M_88 rfl rfl rfl (by decide +kernel) ⟨Nat.le_of_ble_eq_true rfl, Nat.le_of_ble_eq_true rfl⟩) (va_recv hK hP (ci := 3) (q0 := 0) rfl rfl) hP hK hS (fun _ h9 => h9) rfl hl.1 rfl (Nat.le_of_ble_eq_true rfl) dM_signal_36 ⟨Nat.zero_le _, Nat.zero_le _⟩ (fun r3 s3 H locs hq hP hS => ?_)
      obtain ⟨h3, hw, hx3⟩ := hq
      rw [kk_b_eq h3] at hf
      refine lv_istore (lv' := [(5, .int r3), (4, .int 0), (3, .int 0), (0, .ref (ad 0)), (1, .int cc1), (2, .int all)]) hx hb dM_signal_39 hl (by decide) rfl (fun ls hl => ?_)
      refine lv_iload hx hb dM_signal_41 (lv_at hl 0 rfl) ?_
      refine lv_if_ge (tgt := 48) hx hb dM_signal_43 (by decide) (fun c_43 => ?_) (fun c_43 => ?_)
      · rw [if_pos c_43] at hf
        refine lv_aload_n hx hb dM_signal_48 rfl (lv_at hl 3 rfl) ?_
        refine lv_iload hx hb dM_signal_49 (lv_at hl 0 rfl) ?_
        refine lv_iconst (v := 0) hx hb dM_signal_51 (by decide) ?_
        refine kk_cv (w := km_w ad cs) (As := [.int r3, .int 0]) (rest := []) ⟨hx, hb, hml, hown, hts⟩ (mc_retake l dC dI ad cs hj s3 hw r3 0 (hx3.resolve_left (kk_ge c_43))) (cwV 2 hts gv_M_110 rfl rfl rfl (by decide +kernel) ⟨Nat.le_of_ble_eq_true rfl, Nat.le_of_ble_eq_true rfl⟩) (va_recv hK hP (ci := 3) (q0 := 0) rfl rfl) hP hK hS (fun _ h9 => h9) rfl hl.1 rfl (Nat.le_of_ble_eq_true rfl) dM_signal_52 ⟨Nat.zero_le _, Nat.zero_le _⟩ (fun s4 H locs hq hP hS => ?_)
        obtain ⟨h4, hw⟩ := hq
        rw [kk_v_eq h4] at hf
        refine lv_iinc (v := 1) (lv' := [(3, .int 1), (5, .int r3), (4, .int 0), (0, .ref (ad 0)), (1, .int cc1), (2, .int all)]) hx hb dM_signal_55 hl (k := 2) rfl (by decide) (by decide) rfl (fun ls hl => ?_)
        refine lv_iinc (v := 1) (lv' := [(4, .int 1), (3, .int 1), (5, .int r3), (0, .ref (ad 0)), (1, .int cc1), (2, .int all)]) hx hb dM_signal_58 hl (k := 2) rfl (by decide) (by decide) rfl (fun ls hl => ?_)
        refine lv_goto (tgt := 16) hx hb dM_signal_61 (by decide) ?_
        refine lv_iload hx hb dM_signal_16 (lv_at hl 0 rfl) ?_
        refine lv_iload_n hx hb dM_signal_18 rfl (lv_at hl 5 rfl) ?_
        refine lv_if_eq (tgt := 27) hx hb dM_signal_19 (by decide) (fun _ => ?_) (fun c9 => absurd c_all c9)
        refine lv_iconst (v := 1) hx hb dM_signal_27 (by decide) ?_
        refine lv_icmp_ge (tgt := 64) hx hb dM_signal_28 (by decide) (fun _ => ?_) (fun c9 => absurd (by decide) c9)
        refine lv_iload_n hx hb dM_signal_64 rfl (lv_at hl 1 rfl) ?_
        exact kk_iret hx hb hr hlocks hP hK hS ⟨hf.symm, hw⟩ dM_signal_65
      · rw [if_neg c_43] at hf
        refine lv_iload_n hx hb dM_signal_46 rfl (lv_at hl 2 rfl) ?_
        exact kk_iret hx hb hr hlocks hP hK hS ⟨hf.symm, hw⟩ dM_signal_47
    · rw [if_neg c_all] at hf
      refine lv_iconst (v := 0) hx hb dM_signal_11 (by decide) ?_
      refine lv_istore_n (lv' := [(3, .int 0), (0, .ref (ad 0)), (1, .int cc1), (2, .int all)]) hx hb dM_signal_12 rfl hl (by decide) rfl (fun ls hl => ?_)
      refine lv_iconst (v := 0) hx hb dM_signal_13 (by decide) ?_
      refine lv_istore (lv' := [(4, .int 0), (3, .int 0), (0, .ref (ad 0)), (1, .int cc1), (2, .int all)]) hx hb dM_signal_14 hl (by decide) rfl (fun ls hl => ?_)
      exact loop16 8 0 0 _ _ _ ls (by omega) hw c_all hf hP hS (lv_sub hl [0, 1, 2, 3, 4] rfl)
  · rw [if_neg c_6] at hf
    refine lv_iconst (v := (-1)) hx hb dM_signal_9 (by decide) ?_
    exact kk_iret hx hb hr hlocks hP hK hS ⟨hf.symm, hw⟩ dM_signal_10
set_option maxHeartbeats 4000000 in
set_option maxRecDepth 100000 in
theorem mc_down (l : Launch) (dC : Nat → ClassId) (dI : Nat → Nat → Nat) (ad : Nat → Nat) (cs : Nat → ClassId) (hj : km_inj ad) (μ : km_S) (hw : km_wf μ) (sem : Int32) (n1 : Int32) : Met l y_M_down ws_M_down ({ frames := 2, cells := 0, slots := 0, locals := 45 }) (kk_Pc (dC, dI) vwCl (km_t cs) (km_w ad cs μ) [.ref (ad 0), .int sem, .int n1]) (va_Qi (km_pi (mf_down μ sem n1)) (kk_B (dC, dI) vwCl (km_t cs) (km_w ad cs)) (km_A ad)) 0 0 (km_A ad) := by
  refine Met.ofW (cc := b_M_down) (maxL := 4) (ret := (some .int)) (by decide) rfl ?_
  intro p e s m args below meth c s₁ B hml hv
  obtain ⟨rfl, hP, hK⟩ := hv
  have hx := B.exec
  have hb := B.bytes
  have hr := B.returns
  have hts := atoms_spec (ws := ws_M_down) B.pre
  have hown : s.vm.findClass R_M = some m.cls := findClass_of_methodNamed B.named
  have hlocks := B.notSynchronized
  have hS : va_S (km_A ad) s.heap s.heap [] := va_S.rf
  generalize hf : mf_down μ sem n1 = out
  have hl := lv_entry ([.ref (ad 0), .int sem, .int n1]) (n := 4) (Nat.le_of_ble_eq_true rfl)
  rw [lg_entry_eq]
  generalize (lg_sl ([.ref (ad 0), .int sem, .int n1]) ++ List.replicate (4 - (lg_sl ([.ref (ad 0), .int sem, .int n1])).length) Slot.unset).toArray = ls at hl ⊢
  have hl : lv_has ls 4 [(0, .ref (ad 0)), (1, .int sem), (2, .int n1)] := hl
  rw [mf_down] at hf
  refine lv_aload_n hx hb dM_down_0 rfl (lv_at hl 0 rfl) ?_
  refine kk_ci (w := km_w ad cs) (As := []) (rest := []) ⟨hx, hb, hml, hown, hts⟩ (mc_running l dC dI ad cs hj μ hw  ) (cwV 0 hts gv_M_104 rfl rfl rfl (by decide +kernel) ⟨Nat.le_of_ble_eq_true rfl, Nat.le_of_ble_eq_true rfl⟩) (va_recv hK hP (ci := 3) (q0 := 0) rfl rfl) hP hK hS (fun _ h9 => h9) rfl hl.1 rfl (Nat.le_of_ble_eq_true rfl) dM_down_1 ⟨Nat.zero_le _, Nat.zero_le _⟩ (fun r1 s1 H locs hq hP hS => ?_)
  obtain ⟨h1, hw, hx1⟩ := hq
  rw [kk_b_eq h1] at hf
  refine lv_istore_n (lv' := [(3, .int r1), (0, .ref (ad 0)), (1, .int sem), (2, .int n1)]) hx hb dM_down_4 rfl hl (by decide) rfl (fun ls hl => ?_)
  refine lv_aload_n hx hb dM_down_5 rfl (lv_at hl 1 rfl) ?_
  refine lv_iload_n hx hb dM_down_6 rfl (lv_at hl 2 rfl) ?_
  refine lv_iconst (v := 2) hx hb dM_down_7 (by decide) ?_
  refine kk_cp (r0 := mf_out sem 2) (w := km_w ad cs) (As := [.int sem, .int 2]) (rest := []) ⟨hx, hb, hml, hown, hts⟩ (mc_out l (ad 0) sem 2) (cwV 2 hts gv_M_100 rfl rfl rfl (by decide +kernel) ⟨Nat.le_of_ble_eq_true rfl, Nat.le_of_ble_eq_true rfl⟩) (va_recv hK hP (ci := 3) (q0 := 0) rfl rfl) hP hS rfl hl.1 rfl (Nat.le_of_ble_eq_true rfl) dM_down_8 ⟨Nat.zero_le _, Nat.zero_le _⟩ (fun H locs hP hS => ?_)
  refine lv_if_ne (tgt := 29) hx hb dM_down_11 (by decide) (fun c_11 => ?_) (fun c_11 => ?_)
  · rw [if_neg c_11] at hf
    refine lv_iconst (v := (-1)) hx hb dM_down_29 (by decide) ?_
    exact kk_iret hx hb hr hlocks hP hK hS ⟨hf.symm, hw⟩ dM_down_30
  · rw [if_pos c_11] at hf
    refine lv_aload_n hx hb dM_down_14 rfl (lv_at hl 1 rfl) ?_
    refine lv_iload_n hx hb dM_down_15 rfl (lv_at hl 3 rfl) ?_
    refine lv_sipush (v := 1001) hx hb dM_down_16 (by decide) ?_
    refine kk_cp (r0 := mf_out n1 1001) (w := km_w ad cs) (As := [.int n1, .int 1001]) (rest := []) ⟨hx, hb, hml, hown, hts⟩ (mc_out l (ad 0) n1 1001) (cwV 2 hts gv_M_100 rfl rfl rfl (by decide +kernel) ⟨Nat.le_of_ble_eq_true rfl, Nat.le_of_ble_eq_true rfl⟩) (va_recv hK hP (ci := 3) (q0 := 0) rfl rfl) hP hS rfl hl.1 rfl (Nat.le_of_ble_eq_true rfl) dM_down_19 ⟨Nat.zero_le _, Nat.zero_le _⟩ (fun H locs hP hS => ?_)
    refine lv_if_ne (tgt := 29) hx hb dM_down_22 (by decide) (fun c_22 => ?_) (fun c_22 => ?_)
    · rw [if_neg c_22] at hf
      refine lv_iconst (v := (-1)) hx hb dM_down_29 (by decide) ?_
      exact kk_iret hx hb hr hlocks hP hK hS ⟨hf.symm, hw⟩ dM_down_30
    · rw [if_pos c_22] at hf
      refine lv_iload_n hx hb dM_down_25 rfl (lv_at hl 0 rfl) ?_
      refine lv_if_ge (tgt := 31) hx hb dM_down_26 (by decide) (fun c_26 => ?_) (fun c_26 => ?_)
      · rw [if_pos c_26] at hf
        refine lv_aload_n hx hb dM_down_31 rfl (lv_at hl 1 rfl) ?_
        refine va_get (D := (dC, dI)) (ci := 3) (v := .ref (ad 15)) (C := R_M) (T := T_M) (N := 23) hx hb hts uw_M hown hK hP 0 rfl rfl 18 (by decide) (hts _ (List.mem_cons_of_mem _ wd_349)) (fun _ h9 => h9) rfl dM_down_32 ?_
        refine lv_iload_n hx hb dM_down_35 rfl (lv_at hl 2 rfl) ?_
        refine va_iald hx hb hK hP 15 14 rfl rfl (km_in (by decide) c_11) dM_down_36 ?_
        refine lv_if_le (tgt := 59) hx hb dM_down_37 (by decide) (fun c_37 => ?_) (fun c_37 => ?_)
        · rw [if_pos c_37] at hf
          refine lv_aload_n hx hb dM_down_59 rfl (lv_at hl 1 rfl) ?_
          refine lv_iload_n hx hb dM_down_60 rfl (lv_at hl 0 rfl) ?_
          refine lv_bipush (v := 30) hx hb dM_down_61 (by decide) ?_
          refine lv_iload_n hx hb dM_down_63 rfl (lv_at hl 2 rfl) ?_
          refine lv_iadd hx hb dM_down_64 ?_
          refine lv_iload_n hx hb dM_down_65 rfl (lv_at hl 3 rfl) ?_
          refine lv_if_ne (tgt := 73) hx hb dM_down_66 (by decide) (fun c_66 => ?_) (fun c_66 => ?_)
          · rw [if_neg c_66] at hf
            refine lv_aload_n hx hb dM_down_73 rfl (lv_at hl 1 rfl) ?_
            refine va_get (D := (dC, dI)) (ci := 3) (v := .int (mI s1 2 0)) (C := R_M) (T := T_M) (N := 23) hx hb hts uw_M hown hK hP 0 rfl rfl 2 (by decide) (hts _ (List.mem_cons_of_mem _ wd_333)) (fun _ h9 => h9) rfl dM_down_74 ?_
            refine lv_iload_n hx hb dM_down_77 rfl (lv_at hl 3 rfl) ?_
            refine lv_iadd hx hb dM_down_78 ?_
            refine kk_cv (w := km_w ad cs) (As := [.int r1, .int (30 + sem), .int ((mI s1 2 0) + n1)]) (rest := []) ⟨hx, hb, hml, hown, hts⟩ (mc_block l dC dI ad cs hj s1 hw r1 (30 + sem) ((mI s1 2 0) + n1) (hx1.resolve_left (kk_ge c_26))) (cwV 3 hts gv_M_96 rfl rfl rfl (by decide +kernel) ⟨Nat.le_of_ble_eq_true rfl, Nat.le_of_ble_eq_true rfl⟩) (va_recv hK hP (ci := 3) (q0 := 0) rfl rfl) hP hK hS (fun _ h9 => h9) rfl hl.1 rfl (Nat.le_of_ble_eq_true rfl) dM_down_79 ⟨Nat.zero_le _, Nat.zero_le _⟩ (fun s2 H locs hq hP hS => ?_)
            obtain ⟨h2, hw⟩ := hq
            rw [kk_v_eq h2] at hf
            refine lv_iconst (v := 1) hx hb dM_down_82 (by decide) ?_
            exact kk_iret hx hb hr hlocks hP hK hS ⟨hf.symm, hw⟩ dM_down_83
          · rw [if_pos c_66] at hf
            refine lv_iconst (v := 0) hx hb dM_down_69 (by decide) ?_
            refine lv_goto (tgt := 79) hx hb dM_down_70 (by decide) ?_
            refine kk_cv (w := km_w ad cs) (As := [.int r1, .int (30 + sem), .int 0]) (rest := []) ⟨hx, hb, hml, hown, hts⟩ (mc_block l dC dI ad cs hj s1 hw r1 (30 + sem) 0 (hx1.resolve_left (kk_ge c_26))) (cwV 3 hts gv_M_96 rfl rfl rfl (by decide +kernel) ⟨Nat.le_of_ble_eq_true rfl, Nat.le_of_ble_eq_true rfl⟩) (va_recv hK hP (ci := 3) (q0 := 0) rfl rfl) hP hK hS (fun _ h9 => h9) rfl hl.1 rfl (Nat.le_of_ble_eq_true rfl) dM_down_79 ⟨Nat.zero_le _, Nat.zero_le _⟩ (fun s3 H locs hq hP hS => ?_)
            obtain ⟨h3, hw⟩ := hq
            rw [kk_v_eq h3] at hf
            refine lv_iconst (v := 1) hx hb dM_down_82 (by decide) ?_
            exact kk_iret hx hb hr hlocks hP hK hS ⟨hf.symm, hw⟩ dM_down_83
        · rw [if_neg c_37] at hf
          refine lv_aload_n hx hb dM_down_40 rfl (lv_at hl 1 rfl) ?_
          refine va_get (D := (dC, dI)) (ci := 3) (v := .ref (ad 15)) (C := R_M) (T := T_M) (N := 23) hx hb hts uw_M hown hK hP 0 rfl rfl 18 (by decide) (hts _ (List.mem_cons_of_mem _ wd_349)) (fun _ h9 => h9) rfl dM_down_41 ?_
          refine lv_iload_n hx hb dM_down_44 rfl (lv_at hl 2 rfl) ?_
          refine lv_dup2_11 hx hb dM_down_45 rfl rfl ?_
          refine va_iald hx hb hK hP 15 14 rfl rfl (km_in (by decide) c_11) dM_down_46 ?_
          refine lv_iconst (v := 1) hx hb dM_down_47 (by decide) ?_
          refine lv_isub hx hb dM_down_48 ?_
          refine va_iast hx hb hK hP (km_D hj) hS 15 14 rfl rfl (km_in (by decide) c_11) dM_down_49 (fun H locs hP _ hS => ?_)
          replace hP := km_u_count hP
          replace hw := km_wf_I (f := 18) (i := sem.toNatClampNeg) (v := (mI s1 18 sem.toNatClampNeg) - 1) hw (by decide)
          refine lv_aload_n hx hb dM_down_50 rfl (lv_at hl 1 rfl) ?_
          refine va_get (D := (dC, dI)) (ci := 3) (v := .ref (ad 8)) (C := R_M) (T := T_M) (N := 23) hx hb hts uw_M hown hK hP 0 rfl rfl 11 (by decide) (hts _ (List.mem_cons_of_mem _ wd_342)) (fun _ h9 => h9) rfl dM_down_51 ?_
          refine lv_iload_n hx hb dM_down_54 rfl (lv_at hl 0 rfl) ?_
          refine lv_iconst (v := 0) hx hb dM_down_55 (by decide) ?_
          refine va_iast hx hb hK hP (km_D hj) hS 8 7 rfl rfl (hx1.resolve_left (kk_ge c_26)) dM_down_56 (fun H locs hP _ hS => ?_)
          replace hP := km_u_result hP
          replace hw := km_wf_I (f := 11) (i := r1.toNatClampNeg) (v := 0) hw (by decide)
          refine lv_iconst (v := 0) hx hb dM_down_57 (by decide) ?_
          exact kk_iret hx hb hr hlocks hP hK hS ⟨hf.symm, hw⟩ dM_down_58
      · rw [if_neg c_26] at hf
        refine lv_iconst (v := (-1)) hx hb dM_down_29 (by decide) ?_
        exact kk_iret hx hb hr hlocks hP hK hS ⟨hf.symm, hw⟩ dM_down_30
set_option maxHeartbeats 4000000 in
set_option maxRecDepth 100000 in
theorem mc_post (l : Launch) (dC : Nat → ClassId) (dI : Nat → Nat → Nat) (ad : Nat → Nat) (cs : Nat → ClassId) (hj : km_inj ad) (μ : km_S) (hw : km_wf μ) (sem : Int32) : Met l y_M_post ws_M_post ({ frames := 2, cells := 0, slots := 0, locals := 46 }) (kk_Pc (dC, dI) vwCl (km_t cs) (km_w ad cs μ) [.ref (ad 0), .int sem]) (va_Qi (km_pi (mf_post μ sem)) (kk_B (dC, dI) vwCl (km_t cs) (km_w ad cs)) (km_A ad)) 0 0 (km_A ad) := by
  refine Met.ofW (cc := b_M_post) (maxL := 3) (ret := (some .int)) (by decide) rfl ?_
  intro p e s m args below meth c s₁ B hml hv
  obtain ⟨rfl, hP, hK⟩ := hv
  have hx := B.exec
  have hb := B.bytes
  have hr := B.returns
  have hts := atoms_spec (ws := ws_M_post) B.pre
  have hown : s.vm.findClass R_M = some m.cls := findClass_of_methodNamed B.named
  have hlocks := B.notSynchronized
  have hS : va_S (km_A ad) s.heap s.heap [] := va_S.rf
  generalize hf : mf_post μ sem = out
  have hl := lv_entry ([.ref (ad 0), .int sem]) (n := 3) (Nat.le_of_ble_eq_true rfl)
  rw [lg_entry_eq]
  generalize (lg_sl ([.ref (ad 0), .int sem]) ++ List.replicate (3 - (lg_sl ([.ref (ad 0), .int sem])).length) Slot.unset).toArray = ls at hl ⊢
  have hl : lv_has ls 3 [(0, .ref (ad 0)), (1, .int sem)] := hl
  rw [mf_post] at hf
  refine lv_aload_n hx hb dM_post_0 rfl (lv_at hl 0 rfl) ?_
  refine lv_iload_n hx hb dM_post_1 rfl (lv_at hl 1 rfl) ?_
  refine lv_iconst (v := 2) hx hb dM_post_2 (by decide) ?_
  refine kk_cp (r0 := mf_out sem 2) (w := km_w ad cs) (As := [.int sem, .int 2]) (rest := []) ⟨hx, hb, hml, hown, hts⟩ (mc_out l (ad 0) sem 2) (cwV 2 hts gv_M_100 rfl rfl rfl (by decide +kernel) ⟨Nat.le_of_ble_eq_true rfl, Nat.le_of_ble_eq_true rfl⟩) (va_recv hK hP (ci := 3) (q0 := 0) rfl rfl) hP hS rfl hl.1 rfl (Nat.le_of_ble_eq_true rfl) dM_post_3 ⟨Nat.zero_le _, Nat.zero_le _⟩ (fun H locs hP hS => ?_)
  refine lv_if_eq (tgt := 11) hx hb dM_post_6 (by decide) (fun c_6 => ?_) (fun c_6 => ?_)
  · rw [if_pos c_6] at hf
    refine lv_aload_n hx hb dM_post_11 rfl (lv_at hl 0 rfl) ?_
    refine lv_bipush (v := 30) hx hb dM_post_12 (by decide) ?_
    refine lv_iload_n hx hb dM_post_14 rfl (lv_at hl 1 rfl) ?_
    refine lv_iadd hx hb dM_post_15 ?_
    refine kk_ci (w := km_w ad cs) (As := [.int (30 + sem)]) (rest := []) ⟨hx, hb, hml, hown, hts⟩ (mc_firstWaiter l dC dI ad cs hj μ hw (30 + sem) ) (cwV 1 hts gv_M_88 rfl rfl rfl (by decide +kernel) ⟨Nat.le_of_ble_eq_true rfl, Nat.le_of_ble_eq_true rfl⟩) (va_recv hK hP (ci := 3) (q0 := 0) rfl rfl) hP hK hS (fun _ h9 => h9) rfl hl.1 rfl (Nat.le_of_ble_eq_true rfl) dM_post_16 ⟨Nat.zero_le _, Nat.zero_le _⟩ (fun r1 s1 H locs hq hP hS => ?_)
    obtain ⟨h1, hw, hx1⟩ := hq
    rw [kk_b_eq h1] at hf
    refine lv_istore_n (lv' := [(2, .int r1), (0, .ref (ad 0)), (1, .int sem)]) hx hb dM_post_19 rfl hl (by decide) rfl (fun ls hl => ?_)
    refine lv_iload_n hx hb dM_post_20 rfl (lv_at hl 0 rfl) ?_
    refine lv_if_lt (tgt := 38) hx hb dM_post_21 (by decide) (fun c_21 => ?_) (fun c_21 => ?_)
    · rw [if_pos c_21] at hf
      refine lv_aload_n hx hb dM_post_38 rfl (lv_at hl 1 rfl) ?_
      refine va_get (D := (dC, dI)) (ci := 3) (v := .ref (ad 15)) (C := R_M) (T := T_M) (N := 23) hx hb hts uw_M hown hK hP 0 rfl rfl 18 (by decide) (hts _ (List.mem_cons_of_mem _ wd_349)) (fun _ h9 => h9) rfl dM_post_39 ?_
      refine lv_iload_n hx hb dM_post_42 rfl (lv_at hl 2 rfl) ?_
      refine va_iald hx hb hK hP 15 14 rfl rfl (km_in (by decide) c_6) dM_post_43 ?_
      refine lv_bipush (v := 99) hx hb dM_post_44 (by decide) ?_
      refine lv_icmp_ne (tgt := 51) hx hb dM_post_46 (by decide) (fun c_46 => ?_) (fun c_46 => ?_)
      · rw [if_neg c_46] at hf
        refine lv_aload_n hx hb dM_post_51 rfl (lv_at hl 1 rfl) ?_
        refine va_get (D := (dC, dI)) (ci := 3) (v := .ref (ad 15)) (C := R_M) (T := T_M) (N := 23) hx hb hts uw_M hown hK hP 0 rfl rfl 18 (by decide) (hts _ (List.mem_cons_of_mem _ wd_349)) (fun _ h9 => h9) rfl dM_post_52 ?_
        refine lv_iload_n hx hb dM_post_55 rfl (lv_at hl 2 rfl) ?_
        refine lv_dup2_11 hx hb dM_post_56 rfl rfl ?_
        refine va_iald hx hb hK hP 15 14 rfl rfl (km_in (by decide) c_6) dM_post_57 ?_
        refine lv_iconst (v := 1) hx hb dM_post_58 (by decide) ?_
        refine lv_iadd hx hb dM_post_59 ?_
        refine va_iast hx hb hK hP (km_D hj) hS 15 14 rfl rfl (km_in (by decide) c_6) dM_post_60 (fun H locs hP _ hS => ?_)
        replace hP := km_u_count hP
        replace hw := km_wf_I (f := 18) (i := sem.toNatClampNeg) (v := (mI s1 18 sem.toNatClampNeg) + 1) hw (by decide)
        refine lv_iconst (v := 0) hx hb dM_post_61 (by decide) ?_
        exact kk_iret hx hb hr hlocks hP hK hS ⟨hf.symm, hw⟩ dM_post_62
      · rw [if_pos c_46] at hf
        refine lv_iconst (v := (-1)) hx hb dM_post_49 (by decide) ?_
        exact kk_iret hx hb hr hlocks hP hK hS ⟨hf.symm, hw⟩ dM_post_50
    · rw [if_neg c_21] at hf
      refine lv_aload_n hx hb dM_post_24 rfl (lv_at hl 1 rfl) ?_
      refine va_get (D := (dC, dI)) (ci := 3) (v := .ref (ad 8)) (C := R_M) (T := T_M) (N := 23) hx hb hts uw_M hown hK hP 0 rfl rfl 11 (by decide) (hts _ (List.mem_cons_of_mem _ wd_342)) (fun _ h9 => h9) rfl dM_post_25 ?_
      refine lv_iload_n hx hb dM_post_28 rfl (lv_at hl 0 rfl) ?_
      refine lv_iconst (v := 0) hx hb dM_post_29 (by decide) ?_
      refine va_iast hx hb hK hP (km_D hj) hS 8 7 rfl rfl (hx1.resolve_left c_21) dM_post_30 (fun H locs hP _ hS => ?_)
      replace hP := km_u_result hP
      replace hw := km_wf_I (f := 11) (i := r1.toNatClampNeg) (v := 0) hw (by decide)
      refine lv_aload_n hx hb dM_post_31 rfl (lv_at hl 1 rfl) ?_
      refine lv_iload_n hx hb dM_post_32 rfl (lv_at hl 0 rfl) ?_
      refine kk_cv (w := km_w ad cs) (As := [.int r1]) (rest := []) ⟨hx, hb, hml, hown, hts⟩ (mc_ready l dC dI ad cs hj (sM s1 11 r1.toNatClampNeg 0) hw r1 (hx1.resolve_left c_21)) (cwV 1 hts gv_M_92 rfl rfl rfl (by decide +kernel) ⟨Nat.le_of_ble_eq_true rfl, Nat.le_of_ble_eq_true rfl⟩) (va_recv hK hP (ci := 3) (q0 := 0) rfl rfl) hP hK hS (fun _ h9 => h9) rfl hl.1 rfl (Nat.le_of_ble_eq_true rfl) dM_post_33 ⟨Nat.zero_le _, Nat.zero_le _⟩ (fun s2 H locs hq hP hS => ?_)
      obtain ⟨h2, hw⟩ := hq
      rw [kk_v_eq h2] at hf
      refine lv_iconst (v := 0) hx hb dM_post_36 (by decide) ?_
      exact kk_iret hx hb hr hlocks hP hK hS ⟨hf.symm, hw⟩ dM_post_37
  · rw [if_neg c_6] at hf
    refine lv_iconst (v := (-1)) hx hb dM_post_9 (by decide) ?_
    exact kk_iret hx hb hr hlocks hP hK hS ⟨hf.symm, hw⟩ dM_post_10
