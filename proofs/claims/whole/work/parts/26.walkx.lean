set_option maxHeartbeats 4000000 in
set_option maxRecDepth 100000 in
theorem xc_unlock (l : Launch) (dC : Nat → ClassId) (dI : Nat → Nat → Nat) (ad : Nat → Nat) (cs : Nat → ClassId) (hj : kx_inj ad) (σ : kx_S) (hw : kx_wf σ) (m1 : Int32) : Met l y_X_unlock ws_X_unlock ({ frames := 6, cells := 0, slots := 0, locals := 142 }) (kk_Pc (dC, dI) vwCl (kx_t cs) (kx_w ad cs σ) [.ref (ad 0), .int m1]) (va_Qi (kx_pi (xf_unlock σ m1)) (kk_B (dC, dI) vwCl (kx_t cs) (kx_w ad cs)) (kx_A ad)) 0 0 (kx_A ad) := by
  refine Met.ofW (cc := b_X_unlock) (maxL := 3) (ret := (some .int)) (by decide) rfl ?_
  intro p e s m args below meth c s₁ B hml hv
  obtain ⟨rfl, hP, hK⟩ := hv
  have hx := B.exec
  have hb := B.bytes
  have hr := B.returns
  have hts := atoms_spec (ws := ws_X_unlock) B.pre
  have hown : s.vm.findClass R_X = some m.cls := findClass_of_methodNamed B.named
  have hlocks := B.notSynchronized
  have hS : va_S (kx_A ad) s.heap s.heap [] := va_S.rf
  generalize hf : xf_unlock σ m1 = out
  have hl := lv_entry ([.ref (ad 0), .int m1]) (n := 3) (Nat.le_of_ble_eq_true rfl)
  rw [lg_entry_eq]
  generalize (lg_sl ([.ref (ad 0), .int m1]) ++ List.replicate (3 - (lg_sl ([.ref (ad 0), .int m1])).length) Slot.unset).toArray = ls at hl ⊢
  have hl : lv_has ls 3 [(0, .ref (ad 0)), (1, .int m1)] := hl
  rw [xf_unlock] at hf
  refine lv_aload_n hx hb dX_unlock_0 rfl (lv_at hl 0 rfl) ?_
  refine kk_co (w := kx_w ad cs) (As := []) (rest := []) ⟨hx, hb, hml, hown, hts⟩ (xc_runner l dC dI ad cs hj σ hw  ) (cwV 0 hts gv_X_87 rfl rfl rfl (by decide +kernel) ⟨Nat.le_of_ble_eq_true rfl, Nat.le_of_ble_eq_true rfl⟩) (va_recv hK hP (ci := 2) (q0 := 0) rfl rfl) hP hK hS (fun _ h9 => h9) rfl hl.1 rfl (Nat.le_of_ble_eq_true rfl) dX_unlock_1 ⟨Nat.zero_le _, Nat.zero_le _⟩ (fun s1 H locs hq hP hS => ?_) (fun t1 s1 H locs hq hP hS => ?_)
  · obtain ⟨h1, hw, -⟩ := hq
    rw [kk_b_eq h1, kk_o_none] at hf
    refine lv_astore_nN (lv' := [(2, .null), (0, .ref (ad 0)), (1, .int m1)]) hx hb dX_unlock_4 rfl hl (by decide) rfl (fun ls hl => ?_)
    refine lv_iload_n hx hb dX_unlock_5 rfl (lv_at hl 2 rfl) ?_
    refine lv_iconst (v := 4) hx hb dX_unlock_6 (by decide) ?_
    refine kk_cs (r0 := xf_isBelow m1 4) (w := kx_w ad cs) (As := [.int m1, .int 4]) (rest := []) ⟨hx, hb, hml, hown, hts⟩ (xc_isBelow l m1 4) (cwS 2 hts gs_X_77 rfl rfl rfl (by decide +kernel) ⟨Nat.le_of_ble_eq_true rfl, Nat.le_of_ble_eq_true rfl⟩) hP hS rfl hl.1 rfl (Nat.le_of_ble_eq_true rfl) dX_unlock_7 ⟨Nat.zero_le _, Nat.zero_le _⟩ (fun H locs hP hS => ?_)
    refine lv_if_eq (tgt := 30) hx hb dX_unlock_10 (by decide) (fun c_10 => ?_) (fun c_10 => ?_)
    · rw [if_pos c_10] at hf
      refine lv_iconst (v := (-1)) hx hb dX_unlock_30 (by decide) ?_
      exact kk_iret hx hb hr hlocks hP hK hS ⟨hf.symm, hw⟩ dX_unlock_31
    · rw [if_neg c_10] at hf
      refine lv_aload_nN hx hb dX_unlock_13 rfl (lv_at hl 0 rfl) ?_
      refine lv_ifnullN (tgt := 30) hx hb dX_unlock_14 (by decide) ?_
      refine lv_iconst (v := (-1)) hx hb dX_unlock_30 (by decide) ?_
      exact kk_iret hx hb hr hlocks hP hK hS ⟨hf.symm, hw⟩ dX_unlock_31
  · obtain ⟨h1, hw, h9⟩ := hq
    have ht1 : t1 < 8 := h9 t1 rfl
    rw [kk_b_eq h1, kk_o_some] at hf
    refine lv_astore_n (lv' := [(2, .ref (kx_ta ad t1)), (0, .ref (ad 0)), (1, .int m1)]) hx hb dX_unlock_4 rfl hl (by decide) rfl (fun ls hl => ?_)
    refine lv_iload_n hx hb dX_unlock_5 rfl (lv_at hl 2 rfl) ?_
    refine lv_iconst (v := 4) hx hb dX_unlock_6 (by decide) ?_
    refine kk_cs (r0 := xf_isBelow m1 4) (w := kx_w ad cs) (As := [.int m1, .int 4]) (rest := []) ⟨hx, hb, hml, hown, hts⟩ (xc_isBelow l m1 4) (cwS 2 hts gs_X_77 rfl rfl rfl (by decide +kernel) ⟨Nat.le_of_ble_eq_true rfl, Nat.le_of_ble_eq_true rfl⟩) hP hS rfl hl.1 rfl (Nat.le_of_ble_eq_true rfl) dX_unlock_7 ⟨Nat.zero_le _, Nat.zero_le _⟩ (fun H locs hP hS => ?_)
    refine lv_if_eq (tgt := 30) hx hb dX_unlock_10 (by decide) (fun c_10 => ?_) (fun c_10 => ?_)
    · rw [if_pos c_10] at hf
      refine lv_iconst (v := (-1)) hx hb dX_unlock_30 (by decide) ?_
      exact kk_iret hx hb hr hlocks hP hK hS ⟨hf.symm, hw⟩ dX_unlock_31
    · rw [if_neg c_10] at hf
      refine lv_aload_n hx hb dX_unlock_13 rfl (lv_at hl 0 rfl) ?_
      refine lv_ifnull hx hb dX_unlock_14 ?_
      refine lv_aload_n hx hb dX_unlock_17 rfl (lv_at hl 1 rfl) ?_
      refine va_get (D := (dC, dI)) (ci := 2) (v := .ref (ad 2)) (C := R_X) (T := T_X) (N := 8) hx hb hts uw_X hown hK hP 0 rfl rfl 3 (by decide) (hts _ (List.mem_cons_of_mem _ wd_107)) (fun _ h9 => h9) rfl dX_unlock_18 ?_
      refine lv_iload_n hx hb dX_unlock_21 rfl (lv_at hl 2 rfl) ?_
      refine va_iald hx hb hK hP 2 1 rfl rfl (kx_in (by decide) c_10) dX_unlock_22 ?_
      refine lv_aload_n hx hb dX_unlock_23 rfl (lv_at hl 0 rfl) ?_
      refine va_get (D := (dC, dI)) (ci := 1) (v := .int (nI t1)) (C := R_T) (T := T_T) (N := 14) hx hb hts uw_T hown hK hP (11 + t1) (kx_wT ht1) rfl 0 (by decide) (hts _ (List.mem_cons_of_mem _ wd_31)) (fun _ h9 => h9) rfl dX_unlock_24 ?_
      refine lv_icmp_eq (tgt := 32) hx hb dX_unlock_27 (by decide) (fun c_27 => ?_) (fun c_27 => ?_)
      · rw [if_pos c_27] at hf
        refine lv_aload_n hx hb dX_unlock_32 rfl (lv_at hl 1 rfl) ?_
        refine lv_iload_n hx hb dX_unlock_33 rfl (lv_at hl 2 rfl) ?_
        refine kk_cv (w := kx_w ad cs) (As := [.int m1]) (rest := []) ⟨hx, hb, hml, hown, hts⟩ (xc_give l dC dI ad cs hj s1 hw m1 (kx_in (by decide) c_10)) (cwV 1 hts gv_X_100 rfl rfl rfl (by decide +kernel) ⟨Nat.le_of_ble_eq_true rfl, Nat.le_of_ble_eq_true rfl⟩) (va_recv hK hP (ci := 2) (q0 := 0) rfl rfl) hP hK hS (fun _ h9 => h9) rfl hl.1 rfl (Nat.le_of_ble_eq_true rfl) dX_unlock_34 ⟨Nat.zero_le _, Nat.zero_le _⟩ (fun s2 H locs hq hP hS => ?_)
        obtain ⟨h2, hw⟩ := hq
        rw [kk_v_eq h2] at hf
        refine lv_iconst (v := 0) hx hb dX_unlock_37 (by decide) ?_
        exact kk_iret hx hb hr hlocks hP hK hS ⟨hf.symm, hw⟩ dX_unlock_38
      · rw [if_neg c_27] at hf
        refine lv_iconst (v := (-1)) hx hb dX_unlock_30 (by decide) ?_
        exact kk_iret hx hb hr hlocks hP hK hS ⟨hf.symm, hw⟩ dX_unlock_31
set_option maxHeartbeats 4000000 in
set_option maxRecDepth 100000 in
theorem xc_await (l : Launch) (dC : Nat → ClassId) (dI : Nat → Nat → Nat) (ad : Nat → Nat) (cs : Nat → ClassId) (hj : kx_inj ad) (σ : kx_S) (hw : kx_wf σ) (cc1 : Int32) (m1 : Int32) (n1 : Int32) : Met l y_X_await ws_X_await ({ frames := 6, cells := 0, slots := 0, locals := 142 }) (kk_Pc (dC, dI) vwCl (kx_t cs) (kx_w ad cs σ) [.ref (ad 0), .int cc1, .int m1, .int n1]) (va_Qi (kx_pi (xf_await σ cc1 m1 n1)) (kk_B (dC, dI) vwCl (kx_t cs) (kx_w ad cs)) (kx_A ad)) 0 0 (kx_A ad) := by
  refine Met.ofW (cc := b_X_await) (maxL := 5) (ret := (some .int)) (by decide) rfl ?_
  intro p e s m args below meth c s₁ B hml hv
  obtain ⟨rfl, hP, hK⟩ := hv
  have hx := B.exec
  have hb := B.bytes
  have hr := B.returns
  have hts := atoms_spec (ws := ws_X_await) B.pre
  have hown : s.vm.findClass R_X = some m.cls := findClass_of_methodNamed B.named
  have hlocks := B.notSynchronized
  have hS : va_S (kx_A ad) s.heap s.heap [] := va_S.rf
  generalize hf : xf_await σ cc1 m1 n1 = out
  have hl := lv_entry ([.ref (ad 0), .int cc1, .int m1, .int n1]) (n := 5) (Nat.le_of_ble_eq_true rfl)
  rw [lg_entry_eq]
  generalize (lg_sl ([.ref (ad 0), .int cc1, .int m1, .int n1]) ++ List.replicate (5 - (lg_sl ([.ref (ad 0), .int cc1, .int m1, .int n1])).length) Slot.unset).toArray = ls at hl ⊢
  have hl : lv_has ls 5 [(0, .ref (ad 0)), (1, .int cc1), (2, .int m1), (3, .int n1)] := hl
  rw [xf_await] at hf
  refine lv_iload_n hx hb dX_await_0 rfl (lv_at hl 1 rfl) ?_
  refine lv_iconst (v := 2) hx hb dX_await_1 (by decide) ?_
  refine kk_cs (r0 := xf_isBelow cc1 2) (w := kx_w ad cs) (As := [.int cc1, .int 2]) (rest := []) ⟨hx, hb, hml, hown, hts⟩ (xc_isBelow l cc1 2) (cwS 2 hts gs_X_77 rfl rfl rfl (by decide +kernel) ⟨Nat.le_of_ble_eq_true rfl, Nat.le_of_ble_eq_true rfl⟩) hP hS rfl hl.1 rfl (Nat.le_of_ble_eq_true rfl) dX_await_2 ⟨Nat.zero_le _, Nat.zero_le _⟩ (fun H locs hP hS => ?_)
  refine lv_if_eq (tgt := 23) hx hb dX_await_5 (by decide) (fun c_5 => ?_) (fun c_5 => ?_)
  · rw [if_pos c_5] at hf
    refine lv_iconst (v := (-1)) hx hb dX_await_23 (by decide) ?_
    exact kk_iret hx hb hr hlocks hP hK hS ⟨hf.symm, hw⟩ dX_await_24
  · rw [if_neg c_5] at hf
    refine lv_iload_n hx hb dX_await_8 rfl (lv_at hl 2 rfl) ?_
    refine lv_iconst (v := 4) hx hb dX_await_9 (by decide) ?_
    refine kk_cs (r0 := xf_isBelow m1 4) (w := kx_w ad cs) (As := [.int m1, .int 4]) (rest := []) ⟨hx, hb, hml, hown, hts⟩ (xc_isBelow l m1 4) (cwS 2 hts gs_X_77 rfl rfl rfl (by decide +kernel) ⟨Nat.le_of_ble_eq_true rfl, Nat.le_of_ble_eq_true rfl⟩) hP hS rfl hl.1 rfl (Nat.le_of_ble_eq_true rfl) dX_await_10 ⟨Nat.zero_le _, Nat.zero_le _⟩ (fun H locs hP hS => ?_)
    refine lv_if_eq (tgt := 23) hx hb dX_await_13 (by decide) (fun c_13 => ?_) (fun c_13 => ?_)
    · rw [if_pos c_13] at hf
      refine lv_iconst (v := (-1)) hx hb dX_await_23 (by decide) ?_
      exact kk_iret hx hb hr hlocks hP hK hS ⟨hf.symm, hw⟩ dX_await_24
    · rw [if_neg c_13] at hf
      refine lv_iload_n hx hb dX_await_16 rfl (lv_at hl 3 rfl) ?_
      refine kk_cs (r0 := xf_isTimeout n1) (w := kx_w ad cs) (As := [.int n1]) (rest := []) ⟨hx, hb, hml, hown, hts⟩ (xc_isTimeout l n1) (cwS 1 hts gs_X_103 rfl rfl rfl (by decide +kernel) ⟨Nat.le_of_ble_eq_true rfl, Nat.le_of_ble_eq_true rfl⟩) hP hS rfl hl.1 rfl (Nat.le_of_ble_eq_true rfl) dX_await_17 ⟨Nat.zero_le _, Nat.zero_le _⟩ (fun H locs hP hS => ?_)
      refine lv_if_ne (tgt := 25) hx hb dX_await_20 (by decide) (fun c_20 => ?_) (fun c_20 => ?_)
      · rw [if_neg c_20] at hf
        refine lv_aload_n hx hb dX_await_25 rfl (lv_at hl 0 rfl) ?_
        refine kk_co (w := kx_w ad cs) (As := []) (rest := []) ⟨hx, hb, hml, hown, hts⟩ (xc_runner l dC dI ad cs hj σ hw  ) (cwV 0 hts gv_X_87 rfl rfl rfl (by decide +kernel) ⟨Nat.le_of_ble_eq_true rfl, Nat.le_of_ble_eq_true rfl⟩) (va_recv hK hP (ci := 2) (q0 := 0) rfl rfl) hP hK hS (fun _ h9 => h9) rfl hl.1 rfl (Nat.le_of_ble_eq_true rfl) dX_await_26 ⟨Nat.zero_le _, Nat.zero_le _⟩ (fun s1 H locs hq hP hS => ?_) (fun t1 s1 H locs hq hP hS => ?_)
        · obtain ⟨h1, hw, -⟩ := hq
          rw [kk_b_eq h1, kk_o_none] at hf
          refine lv_astoreN (lv' := [(4, .null), (0, .ref (ad 0)), (1, .int cc1), (2, .int m1), (3, .int n1)]) hx hb dX_await_29 hl (by decide) rfl (fun ls hl => ?_)
          refine lv_aloadN hx hb dX_await_31 (lv_at hl 0 rfl) ?_
          refine lv_ifnullN (tgt := 50) hx hb dX_await_33 (by decide) ?_
          refine lv_iconst (v := (-1)) hx hb dX_await_50 (by decide) ?_
          exact kk_iret hx hb hr hlocks hP hK hS ⟨hf.symm, hw⟩ dX_await_51
        · obtain ⟨h1, hw, h9⟩ := hq
          have ht1 : t1 < 8 := h9 t1 rfl
          rw [kk_b_eq h1, kk_o_some] at hf
          refine lv_astore (lv' := [(4, .ref (kx_ta ad t1)), (0, .ref (ad 0)), (1, .int cc1), (2, .int m1), (3, .int n1)]) hx hb dX_await_29 hl (by decide) rfl (fun ls hl => ?_)
          refine lv_aload hx hb dX_await_31 (lv_at hl 0 rfl) ?_
          refine lv_ifnull hx hb dX_await_33 ?_
          refine lv_aload_n hx hb dX_await_36 rfl (lv_at hl 1 rfl) ?_
          refine va_get (D := (dC, dI)) (ci := 2) (v := .ref (ad 2)) (C := R_X) (T := T_X) (N := 8) hx hb hts uw_X hown hK hP 0 rfl rfl 3 (by decide) (hts _ (List.mem_cons_of_mem _ wd_107)) (fun _ h9 => h9) rfl dX_await_37 ?_
          refine lv_iload_n hx hb dX_await_40 rfl (lv_at hl 3 rfl) ?_
          refine va_iald hx hb hK hP 2 1 rfl rfl (kx_in (by decide) c_13) dX_await_41 ?_
          refine lv_aload hx hb dX_await_42 (lv_at hl 0 rfl) ?_
          refine va_get (D := (dC, dI)) (ci := 1) (v := .int (nI t1)) (C := R_T) (T := T_T) (N := 14) hx hb hts uw_T hown hK hP (11 + t1) (kx_wT ht1) rfl 0 (by decide) (hts _ (List.mem_cons_of_mem _ wd_31)) (fun _ h9 => h9) rfl dX_await_44 ?_
          refine lv_icmp_eq (tgt := 52) hx hb dX_await_47 (by decide) (fun c_47 => ?_) (fun c_47 => ?_)
          · rw [if_pos c_47] at hf
            refine lv_aload hx hb dX_await_52 (lv_at hl 0 rfl) ?_
            refine lv_iload_n hx hb dX_await_54 rfl (lv_at hl 3 rfl) ?_
            refine va_put (D := (dC, dI)) (ci := 1) (v := .int m1) (ty := .int) (C := R_T) (T := T_T) (N := 14) hx hb hts uw_T ty_T ty_T_ok nm_T hown hK hP (kx_D hj) hS (11 + t1) (kx_wT ht1) rfl 10 (by decide) (hts _ (List.mem_cons_of_mem _ wd_51)) (fun _ h9 => h9) rfl (by decide +kernel) rfl rfl (Nat.le_of_ble_eq_true rfl) dX_await_55 (fun H locs hP _ hS => ?_)
            replace hP := kx_u_mutexInMind ht1 hP
            replace hw : kx_wf (sI s1 17 t1 m1) := kx_wf_m hw (kx_in (by decide) c_13)
            refine lv_aload_n hx hb dX_await_58 rfl (lv_at hl 1 rfl) ?_
            refine lv_aload hx hb dX_await_59 (lv_at hl 0 rfl) ?_
            refine lv_bipush (v := 20) hx hb dX_await_61 (by decide) ?_
            refine lv_iload_n hx hb dX_await_63 rfl (lv_at hl 2 rfl) ?_
            refine lv_iadd hx hb dX_await_64 ?_
            refine lv_aload_n hx hb dX_await_65 rfl (lv_at hl 1 rfl) ?_
            refine lv_iload_n hx hb dX_await_66 rfl (lv_at hl 4 rfl) ?_
            refine kk_cl (w := kx_w ad cs) (As := [.int n1]) (rest := [.int (20 + cc1), .ref (kx_ta ad t1), .ref (ad 0)]) ⟨hx, hb, hml, hown, hts⟩ (xc_deadlineAfter l dC dI ad cs hj (sI s1 17 t1 m1) hw n1 ) (cwV 1 hts gv_X_109 rfl rfl rfl (by decide +kernel) ⟨Nat.le_of_ble_eq_true rfl, Nat.le_of_ble_eq_true rfl⟩) (va_recv hK hP (ci := 2) (q0 := 0) rfl rfl) hP hK hS (fun _ h9 => h9) rfl hl.1 rfl (Nat.le_of_ble_eq_true rfl) dX_await_67 ⟨Nat.zero_le _, Nat.zero_le _⟩ (fun r2 s2 H locs hq hP hS => ?_)
            obtain ⟨h2, hw⟩ := hq
            rw [kk_b_eq h2] at hf
            refine kk_cv (w := kx_w ad cs) (As := [.ref (kx_ta ad t1), .int (20 + cc1), .long r2]) (rest := []) ⟨hx, hb, hml, hown, hts⟩ (xc_block l dC dI ad cs hj s2 hw t1 (20 + cc1) r2 ht1) (cwV 3 hts gv_X_113 rfl rfl rfl (by decide +kernel) ⟨Nat.le_of_ble_eq_true rfl, Nat.le_of_ble_eq_true rfl⟩) (va_recv hK hP (ci := 2) (q0 := 0) rfl rfl) hP hK hS (fun _ h9 => h9) rfl hl.1 rfl (Nat.le_of_ble_eq_true rfl) dX_await_70 ⟨Nat.zero_le _, Nat.zero_le _⟩ (fun s3 H locs hq hP hS => ?_)
            obtain ⟨h3, hw⟩ := hq
            rw [kk_v_eq h3] at hf
            refine lv_aload_n hx hb dX_await_73 rfl (lv_at hl 1 rfl) ?_
            refine lv_iload_n hx hb dX_await_74 rfl (lv_at hl 3 rfl) ?_
            refine kk_cv (w := kx_w ad cs) (As := [.int m1]) (rest := []) ⟨hx, hb, hml, hown, hts⟩ (xc_give l dC dI ad cs hj s3 hw m1 (kx_in (by decide) c_13)) (cwV 1 hts gv_X_100 rfl rfl rfl (by decide +kernel) ⟨Nat.le_of_ble_eq_true rfl, Nat.le_of_ble_eq_true rfl⟩) (va_recv hK hP (ci := 2) (q0 := 0) rfl rfl) hP hK hS (fun _ h9 => h9) rfl hl.1 rfl (Nat.le_of_ble_eq_true rfl) dX_await_75 ⟨Nat.zero_le _, Nat.zero_le _⟩ (fun s4 H locs hq hP hS => ?_)
            obtain ⟨h4, hw⟩ := hq
            rw [kk_v_eq h4] at hf
            refine lv_iconst (v := 1) hx hb dX_await_78 (by decide) ?_
            exact kk_iret hx hb hr hlocks hP hK hS ⟨hf.symm, hw⟩ dX_await_79
          · rw [if_neg c_47] at hf
            refine lv_iconst (v := (-1)) hx hb dX_await_50 (by decide) ?_
            exact kk_iret hx hb hr hlocks hP hK hS ⟨hf.symm, hw⟩ dX_await_51
      · rw [if_pos c_20] at hf
        refine lv_iconst (v := (-1)) hx hb dX_await_23 (by decide) ?_
        exact kk_iret hx hb hr hlocks hP hK hS ⟨hf.symm, hw⟩ dX_await_24
set_option maxHeartbeats 4000000 in
set_option maxRecDepth 100000 in
theorem xc_signal (l : Launch) (dC : Nat → ClassId) (dI : Nat → Nat → Nat) (ad : Nat → Nat) (cs : Nat → ClassId) (hj : kx_inj ad) (σ : kx_S) (hw : kx_wf σ) (cc1 : Int32) (all : Int32) : Met l y_X_signal ws_X_signal ({ frames := 5, cells := 0, slots := 0, locals := 120 }) (kk_Pc (dC, dI) vwCl (kx_t cs) (kx_w ad cs σ) [.ref (ad 0), .int cc1, .int all]) (va_Qi (kx_pi (xf_signal σ cc1 all)) (kk_B (dC, dI) vwCl (kx_t cs) (kx_w ad cs)) (kx_A ad)) 0 0 (kx_A ad) := by
  refine Met.ofW (cc := b_X_signal) (maxL := 7) (ret := (some .int)) (by decide) rfl ?_
  intro p e s m args below meth c s₁ B hml hv
  obtain ⟨rfl, hP, hK⟩ := hv
  have hx := B.exec
  have hb := B.bytes
  have hr := B.returns
  have hts := atoms_spec (ws := ws_X_signal) B.pre
  have hown : s.vm.findClass R_X = some m.cls := findClass_of_methodNamed B.named
  have hlocks := B.notSynchronized
  have hS : va_S (kx_A ad) s.heap s.heap [] := va_S.rf
  generalize hf : xf_signal σ cc1 all = out
  have hl := lv_entry ([.ref (ad 0), .int cc1, .int all]) (n := 7) (Nat.le_of_ble_eq_true rfl)
  rw [lg_entry_eq]
  generalize (lg_sl ([.ref (ad 0), .int cc1, .int all]) ++ List.replicate (7 - (lg_sl ([.ref (ad 0), .int cc1, .int all])).length) Slot.unset).toArray = ls at hl ⊢
  have hl : lv_has ls 7 [(0, .ref (ad 0)), (1, .int cc1), (2, .int all)] := hl
  rw [xf_signal] at hf
  have loop27 : ∀ (n k : Nat) (woken : Int32) (σ : kx_S) (H : Heap) (locs : List Loc) (ls : Array Slot), n + k = 8 → kx_wf σ → xf_signal_L27 cc1 all n k woken σ = out → va_P (dC, dI) vwCl (kx_w ad cs σ) H → va_S (kx_A ad) s.heap H locs → lv_has ls 7 [(5, .int (nI k)), (4, .int woken), (0, .ref (ad 0)), (1, .int cc1), (3, .int 8)] → W p l e (headSpec ws_X_signal ({ frames := 5, cells := 0, slots := 0, locals := 120 })).room s m ([.ref (ad 0), .int cc1, .int all] : List Value).toArray below meth c H locs 0 0 (MQ below (va_Qi (kx_pi out) (kk_B (dC, dI) vwCl (kx_t cs) (kx_w ad cs)) (kx_A ad)) ([.ref (ad 0), .int cc1, .int all] : List Value).toArray s 0 0 (kx_A ad)) (F0 m 27 ls []) := by
    clear hf hl hP hS hw
    intro n
    induction n with
    | zero =>
      intro k woken σ H locs ls hnk hw hf hP hS hl
      have hk : k = 8 := by omega
      rw [xf_signal_L27] at hf
      have hl : lv_has ls 7 [(5, .int (nI k)), (4, .int woken), (0, .ref (ad 0)), (1, .int cc1), (3, .int 8)] := hl
      refine lv_iload hx hb dX_signal_27 (lv_at hl 0 rfl) ?_
      refine lv_iload_n hx hb dX_signal_29 rfl (lv_at hl 4 rfl) ?_
      refine lv_icmp_ge (tgt := 67) hx hb dX_signal_30 (by decide) (fun _ => ?_) (fun c9 => absurd (by rw [hk]; decide) c9)
      refine lv_iload hx hb dX_signal_67 (lv_at hl 1 rfl) ?_
      exact kk_iret hx hb hr hlocks hP hK hS ⟨hf.symm, hw⟩ dX_signal_69
    | succ n ih =>
      intro k woken σ H locs ls hnk hw hf hP hS hl
      have hk : k < 8 := by omega
      rw [xf_signal_L27] at hf
      have hl : lv_has ls 7 [(5, .int (nI k)), (4, .int woken), (0, .ref (ad 0)), (1, .int cc1), (3, .int 8)] := hl
      refine lv_iload hx hb dX_signal_27 (lv_at hl 0 rfl) ?_
      refine lv_iload_n hx hb dX_signal_29 rfl (lv_at hl 4 rfl) ?_
      refine lv_icmp_ge (tgt := 67) hx hb dX_signal_30 (by decide) (fun c9 => absurd c9 (kk_stay hk (by decide))) (fun _ => ?_)
      refine lv_aload_n hx hb dX_signal_33 rfl (lv_at hl 2 rfl) ?_
      refine lv_bipush (v := 20) hx hb dX_signal_34 (by decide) ?_
      refine lv_iload_n hx hb dX_signal_36 rfl (lv_at hl 3 rfl) ?_
      refine lv_iadd hx hb dX_signal_37 ?_
      refine kk_co (w := kx_w ad cs) (As := [.int (20 + cc1)]) (rest := []) ⟨hx, hb, hml, hown, hts⟩ (xc_firstWaiter l dC dI ad cs hj σ hw (20 + cc1) ) (cwV 1 hts gv_X_117 rfl rfl rfl (by decide +kernel) ⟨Nat.le_of_ble_eq_true rfl, Nat.le_of_ble_eq_true rfl⟩) (va_recv hK hP (ci := 2) (q0 := 0) rfl rfl) hP hK hS (fun _ h9 => h9) rfl hl.1 rfl (Nat.le_of_ble_eq_true rfl) dX_signal_38 ⟨Nat.zero_le _, Nat.zero_le _⟩ (fun s1 H locs hq hP hS => ?_) (fun t1 s1 H locs hq hP hS => ?_)
      · obtain ⟨h1, hw, -⟩ := hq
        rw [kk_b_eq h1, kk_o_none] at hf
        refine lv_astoreN (lv' := [(6, .null), (5, .int (nI k)), (4, .int woken), (0, .ref (ad 0)), (1, .int cc1), (3, .int 8)]) hx hb dX_signal_41 hl (by decide) rfl (fun ls hl => ?_)
        refine lv_aloadN hx hb dX_signal_43 (lv_at hl 0 rfl) ?_
        refine lv_ifnonnullN hx hb dX_signal_45 ?_
        refine lv_goto (tgt := 67) hx hb dX_signal_48 (by decide) ?_
        refine lv_iload hx hb dX_signal_67 (lv_at hl 2 rfl) ?_
        exact kk_iret hx hb hr hlocks hP hK hS ⟨hf.symm, hw⟩ dX_signal_69
      · obtain ⟨h1, hw, h9⟩ := hq
        have ht1 : t1 < 8 := h9 t1 rfl
        rw [kk_b_eq h1, kk_o_some] at hf
        refine lv_astore (lv' := [(6, .ref (kx_ta ad t1)), (5, .int (nI k)), (4, .int woken), (0, .ref (ad 0)), (1, .int cc1), (3, .int 8)]) hx hb dX_signal_41 hl (by decide) rfl (fun ls hl => ?_)
        refine lv_aload hx hb dX_signal_43 (lv_at hl 0 rfl) ?_
        refine lv_ifnonnull (tgt := 51) hx hb dX_signal_45 (by decide) ?_
        refine lv_aload_n hx hb dX_signal_51 rfl (lv_at hl 3 rfl) ?_
        refine lv_aload hx hb dX_signal_52 (lv_at hl 0 rfl) ?_
        refine lv_iconst (v := 0) hx hb dX_signal_54 (by decide) ?_
        refine kk_cv (w := kx_w ad cs) (As := [.ref (kx_ta ad t1), .int 0]) (rest := []) ⟨hx, hb, hml, hown, hts⟩ (xc_endAwait l dC dI ad cs hj s1 hw t1 0 ht1) (cwV 2 hts gv_X_121 rfl rfl rfl (by decide +kernel) ⟨Nat.le_of_ble_eq_true rfl, Nat.le_of_ble_eq_true rfl⟩) (va_recv hK hP (ci := 2) (q0 := 0) rfl rfl) hP hK hS (fun _ h9 => h9) rfl hl.1 rfl (Nat.le_of_ble_eq_true rfl) dX_signal_55 ⟨Nat.zero_le _, Nat.zero_le _⟩ (fun s2 H locs hq hP hS => ?_)
        obtain ⟨h2, hw⟩ := hq
        rw [kk_v_eq h2] at hf
        refine lv_iinc (v := woken + 1) (lv' := [(4, .int (woken + 1)), (6, .ref (kx_ta ad t1)), (5, .int (nI k)), (0, .ref (ad 0)), (1, .int cc1), (3, .int 8)]) hx hb dX_signal_58 hl (k := 2) rfl rfl (by decide) rfl (fun ls hl => ?_)
        refine lv_iinc (v := nI (k + 1)) (lv' := [(5, .int (nI (k + 1))), (4, .int (woken + 1)), (6, .ref (kx_ta ad t1)), (0, .ref (ad 0)), (1, .int cc1), (3, .int 8)]) hx hb dX_signal_61 hl (k := 2) rfl (nI_1 _) (by decide) rfl (fun ls hl => ?_)
        refine lv_goto (tgt := 27) hx hb dX_signal_64 (by decide) ?_
        exact ih (k + 1) (woken + 1) _ _ _ ls (by omega) hw  hf hP hS (lv_sub hl [0, 1, 3, 4, 5] rfl)
  refine lv_iload_n hx hb dX_signal_0 rfl (lv_at hl 1 rfl) ?_
  refine lv_iconst (v := 2) hx hb dX_signal_1 (by decide) ?_
  refine kk_cs (r0 := xf_isBelow cc1 2) (w := kx_w ad cs) (As := [.int cc1, .int 2]) (rest := []) ⟨hx, hb, hml, hown, hts⟩ (xc_isBelow l cc1 2) (cwS 2 hts gs_X_77 rfl rfl rfl (by decide +kernel) ⟨Nat.le_of_ble_eq_true rfl, Nat.le_of_ble_eq_true rfl⟩) hP hS rfl hl.1 rfl (Nat.le_of_ble_eq_true rfl) dX_signal_2 ⟨Nat.zero_le _, Nat.zero_le _⟩ (fun H locs hP hS => ?_)
  refine lv_if_ne (tgt := 10) hx hb dX_signal_5 (by decide) (fun c_5 => ?_) (fun c_5 => ?_)
  · rw [if_neg c_5] at hf
    refine lv_iload_n hx hb dX_signal_10 rfl (lv_at hl 2 rfl) ?_
    refine lv_if_eq (tgt := 19) hx hb dX_signal_11 (by decide) (fun c_11 => ?_) (fun c_11 => ?_)
    · rw [if_pos c_11] at hf
      refine lv_iconst (v := 1) hx hb dX_signal_19 (by decide) ?_
      refine lv_istore_n (lv' := [(3, .int 1), (0, .ref (ad 0)), (1, .int cc1), (2, .int all)]) hx hb dX_signal_20 rfl hl (by decide) rfl (fun ls hl => ?_)
      refine lv_iconst (v := 0) hx hb dX_signal_21 (by decide) ?_
      refine lv_istore (lv' := [(4, .int 0), (3, .int 1), (0, .ref (ad 0)), (1, .int cc1), (2, .int all)]) hx hb dX_signal_22 hl (by decide) rfl (fun ls hl => ?_)
      refine lv_iconst (v := 0) hx hb dX_signal_24 (by decide) ?_
      refine lv_istore (lv' := [(5, .int 0), (4, .int 0), (3, .int 1), (0, .ref (ad 0)), (1, .int cc1), (2, .int all)]) hx hb dX_signal_25 hl (by decide) rfl (fun ls hl => ?_)
      refine lv_iload hx hb dX_signal_27 (lv_at hl 0 rfl) ?_
      refine lv_iload_n hx hb dX_signal_29 rfl (lv_at hl 2 rfl) ?_
      refine lv_icmp_ge (tgt := 67) hx hb dX_signal_30 (by decide) (fun c9 => absurd c9 (by decide)) (fun _ => ?_)
      refine lv_aload_n hx hb dX_signal_33 rfl (lv_at hl 3 rfl) ?_
      refine lv_bipush (v := 20) hx hb dX_signal_34 (by decide) ?_
      refine lv_iload_n hx hb dX_signal_36 rfl (lv_at hl 4 rfl) ?_
      refine lv_iadd hx hb dX_signal_37 ?_
      refine kk_co (w := kx_w ad cs) (As := [.int (20 + cc1)]) (rest := []) ⟨hx, hb, hml, hown, hts⟩ (xc_firstWaiter l dC dI ad cs hj σ hw (20 + cc1) ) (cwV 1 hts gv_X_117 rfl rfl rfl (by decide +kernel) ⟨Nat.le_of_ble_eq_true rfl, Nat.le_of_ble_eq_true rfl⟩) (va_recv hK hP (ci := 2) (q0 := 0) rfl rfl) hP hK hS (fun _ h9 => h9) rfl hl.1 rfl (Nat.le_of_ble_eq_true rfl) dX_signal_38 ⟨Nat.zero_le _, Nat.zero_le _⟩ (fun s3 H locs hq hP hS => ?_) (fun t3 s3 H locs hq hP hS => ?_)
      · obtain ⟨h3, hw, -⟩ := hq
        rw [kk_b_eq h3, kk_o_none] at hf
        refine lv_astoreN (lv' := [(6, .null), (5, .int 0), (4, .int 0), (3, .int 1), (0, .ref (ad 0)), (1, .int cc1), (2, .int all)]) hx hb dX_signal_41 hl (by decide) rfl (fun ls hl => ?_)
        refine lv_aloadN hx hb dX_signal_43 (lv_at hl 0 rfl) ?_
        refine lv_ifnonnullN hx hb dX_signal_45 ?_
        refine lv_goto (tgt := 67) hx hb dX_signal_48 (by decide) ?_
        refine lv_iload hx hb dX_signal_67 (lv_at hl 2 rfl) ?_
        exact kk_iret hx hb hr hlocks hP hK hS ⟨hf.symm, hw⟩ dX_signal_69
      · obtain ⟨h3, hw, h9⟩ := hq
        have ht3 : t3 < 8 := h9 t3 rfl
        rw [kk_b_eq h3, kk_o_some] at hf
        refine lv_astore (lv' := [(6, .ref (kx_ta ad t3)), (5, .int 0), (4, .int 0), (3, .int 1), (0, .ref (ad 0)), (1, .int cc1), (2, .int all)]) hx hb dX_signal_41 hl (by decide) rfl (fun ls hl => ?_)
        refine lv_aload hx hb dX_signal_43 (lv_at hl 0 rfl) ?_
        refine lv_ifnonnull (tgt := 51) hx hb dX_signal_45 (by decide) ?_
        refine lv_aload_n hx hb dX_signal_51 rfl (lv_at hl 4 rfl) ?_
        refine lv_aload hx hb dX_signal_52 (lv_at hl 0 rfl) ?_
        refine lv_iconst (v := 0) hx hb dX_signal_54 (by decide) ?_
        refine kk_cv (w := kx_w ad cs) (As := [.ref (kx_ta ad t3), .int 0]) (rest := []) ⟨hx, hb, hml, hown, hts⟩ (xc_endAwait l dC dI ad cs hj s3 hw t3 0 ht3) (cwV 2 hts gv_X_121 rfl rfl rfl (by decide +kernel) ⟨Nat.le_of_ble_eq_true rfl, Nat.le_of_ble_eq_true rfl⟩) (va_recv hK hP (ci := 2) (q0 := 0) rfl rfl) hP hK hS (fun _ h9 => h9) rfl hl.1 rfl (Nat.le_of_ble_eq_true rfl) dX_signal_55 ⟨Nat.zero_le _, Nat.zero_le _⟩ (fun s4 H locs hq hP hS => ?_)
        obtain ⟨h4, hw⟩ := hq
        rw [kk_v_eq h4] at hf
        refine lv_iinc (v := 1) (lv' := [(4, .int 1), (6, .ref (kx_ta ad t3)), (5, .int 0), (3, .int 1), (0, .ref (ad 0)), (1, .int cc1), (2, .int all)]) hx hb dX_signal_58 hl (k := 2) rfl (by decide) (by decide) rfl (fun ls hl => ?_)
        refine lv_iinc (v := 1) (lv' := [(5, .int 1), (4, .int 1), (6, .ref (kx_ta ad t3)), (3, .int 1), (0, .ref (ad 0)), (1, .int cc1), (2, .int all)]) hx hb dX_signal_61 hl (k := 2) rfl (by decide) (by decide) rfl (fun ls hl => ?_)
        refine lv_goto (tgt := 27) hx hb dX_signal_64 (by decide) ?_
        refine lv_iload hx hb dX_signal_27 (lv_at hl 0 rfl) ?_
        refine lv_iload_n hx hb dX_signal_29 rfl (lv_at hl 3 rfl) ?_
        refine lv_icmp_ge (tgt := 67) hx hb dX_signal_30 (by decide) (fun _ => ?_) (fun c9 => absurd (by decide) c9)
        refine lv_iload hx hb dX_signal_67 (lv_at hl 1 rfl) ?_
        exact kk_iret hx hb hr hlocks hP hK hS ⟨hf.symm, hw⟩ dX_signal_69
    · rw [if_neg c_11] at hf
      refine lv_bipush (v := 8) hx hb dX_signal_14 (by decide) ?_
      refine lv_goto (tgt := 20) hx hb dX_signal_16 (by decide) ?_
      refine lv_istore_n (lv' := [(3, .int 8), (0, .ref (ad 0)), (1, .int cc1), (2, .int all)]) hx hb dX_signal_20 rfl hl (by decide) rfl (fun ls hl => ?_)
      refine lv_iconst (v := 0) hx hb dX_signal_21 (by decide) ?_
      refine lv_istore (lv' := [(4, .int 0), (3, .int 8), (0, .ref (ad 0)), (1, .int cc1), (2, .int all)]) hx hb dX_signal_22 hl (by decide) rfl (fun ls hl => ?_)
      refine lv_iconst (v := 0) hx hb dX_signal_24 (by decide) ?_
      refine lv_istore (lv' := [(5, .int 0), (4, .int 0), (3, .int 8), (0, .ref (ad 0)), (1, .int cc1), (2, .int all)]) hx hb dX_signal_25 hl (by decide) rfl (fun ls hl => ?_)
      exact loop27 8 0 0 _ _ _ ls (by omega) hw  hf hP hS (lv_sub hl [0, 1, 3, 4, 2] rfl)
  · rw [if_pos c_5] at hf
    refine lv_iconst (v := (-1)) hx hb dX_signal_8 (by decide) ?_
    exact kk_iret hx hb hr hlocks hP hK hS ⟨hf.symm, hw⟩ dX_signal_9
set_option maxHeartbeats 4000000 in
set_option maxRecDepth 100000 in
theorem xc_down (l : Launch) (dC : Nat → ClassId) (dI : Nat → Nat → Nat) (ad : Nat → Nat) (cs : Nat → ClassId) (hj : kx_inj ad) (σ : kx_S) (hw : kx_wf σ) (sem : Int32) (n1 : Int32) : Met l y_X_down ws_X_down ({ frames := 5, cells := 0, slots := 0, locals := 119 }) (kk_Pc (dC, dI) vwCl (kx_t cs) (kx_w ad cs σ) [.ref (ad 0), .int sem, .int n1]) (va_Qi (kx_pi (xf_down σ sem n1)) (kk_B (dC, dI) vwCl (kx_t cs) (kx_w ad cs)) (kx_A ad)) 0 0 (kx_A ad) := by
  refine Met.ofW (cc := b_X_down) (maxL := 4) (ret := (some .int)) (by decide) rfl ?_
  intro p e s m args below meth c s₁ B hml hv
  obtain ⟨rfl, hP, hK⟩ := hv
  have hx := B.exec
  have hb := B.bytes
  have hr := B.returns
  have hts := atoms_spec (ws := ws_X_down) B.pre
  have hown : s.vm.findClass R_X = some m.cls := findClass_of_methodNamed B.named
  have hlocks := B.notSynchronized
  have hS : va_S (kx_A ad) s.heap s.heap [] := va_S.rf
  generalize hf : xf_down σ sem n1 = out
  have hl := lv_entry ([.ref (ad 0), .int sem, .int n1]) (n := 4) (Nat.le_of_ble_eq_true rfl)
  rw [lg_entry_eq]
  generalize (lg_sl ([.ref (ad 0), .int sem, .int n1]) ++ List.replicate (4 - (lg_sl ([.ref (ad 0), .int sem, .int n1])).length) Slot.unset).toArray = ls at hl ⊢
  have hl : lv_has ls 4 [(0, .ref (ad 0)), (1, .int sem), (2, .int n1)] := hl
  rw [xf_down] at hf
  refine lv_aload_n hx hb dX_down_0 rfl (lv_at hl 0 rfl) ?_
  refine kk_co (w := kx_w ad cs) (As := []) (rest := []) ⟨hx, hb, hml, hown, hts⟩ (xc_runner l dC dI ad cs hj σ hw  ) (cwV 0 hts gv_X_87 rfl rfl rfl (by decide +kernel) ⟨Nat.le_of_ble_eq_true rfl, Nat.le_of_ble_eq_true rfl⟩) (va_recv hK hP (ci := 2) (q0 := 0) rfl rfl) hP hK hS (fun _ h9 => h9) rfl hl.1 rfl (Nat.le_of_ble_eq_true rfl) dX_down_1 ⟨Nat.zero_le _, Nat.zero_le _⟩ (fun s1 H locs hq hP hS => ?_) (fun t1 s1 H locs hq hP hS => ?_)
  · obtain ⟨h1, hw, -⟩ := hq
    rw [kk_b_eq h1, kk_o_none] at hf
    refine lv_astore_nN (lv' := [(3, .null), (0, .ref (ad 0)), (1, .int sem), (2, .int n1)]) hx hb dX_down_4 rfl hl (by decide) rfl (fun ls hl => ?_)
    refine lv_iload_n hx hb dX_down_5 rfl (lv_at hl 2 rfl) ?_
    refine lv_iconst (v := 2) hx hb dX_down_6 (by decide) ?_
    refine kk_cs (r0 := xf_isBelow sem 2) (w := kx_w ad cs) (As := [.int sem, .int 2]) (rest := []) ⟨hx, hb, hml, hown, hts⟩ (xc_isBelow l sem 2) (cwS 2 hts gs_X_77 rfl rfl rfl (by decide +kernel) ⟨Nat.le_of_ble_eq_true rfl, Nat.le_of_ble_eq_true rfl⟩) hP hS rfl hl.1 rfl (Nat.le_of_ble_eq_true rfl) dX_down_7 ⟨Nat.zero_le _, Nat.zero_le _⟩ (fun H locs hP hS => ?_)
    refine lv_if_eq (tgt := 24) hx hb dX_down_10 (by decide) (fun c_10 => ?_) (fun c_10 => ?_)
    · rw [if_pos c_10] at hf
      refine lv_iconst (v := (-1)) hx hb dX_down_24 (by decide) ?_
      exact kk_iret hx hb hr hlocks hP hK hS ⟨hf.symm, hw⟩ dX_down_25
    · rw [if_neg c_10] at hf
      refine lv_iload_n hx hb dX_down_13 rfl (lv_at hl 3 rfl) ?_
      refine kk_cs (r0 := xf_isTimeout n1) (w := kx_w ad cs) (As := [.int n1]) (rest := []) ⟨hx, hb, hml, hown, hts⟩ (xc_isTimeout l n1) (cwS 1 hts gs_X_103 rfl rfl rfl (by decide +kernel) ⟨Nat.le_of_ble_eq_true rfl, Nat.le_of_ble_eq_true rfl⟩) hP hS rfl hl.1 rfl (Nat.le_of_ble_eq_true rfl) dX_down_14 ⟨Nat.zero_le _, Nat.zero_le _⟩ (fun H locs hP hS => ?_)
      refine lv_if_eq (tgt := 24) hx hb dX_down_17 (by decide) (fun c_17 => ?_) (fun c_17 => ?_)
      · rw [if_pos c_17] at hf
        refine lv_iconst (v := (-1)) hx hb dX_down_24 (by decide) ?_
        exact kk_iret hx hb hr hlocks hP hK hS ⟨hf.symm, hw⟩ dX_down_25
      · rw [if_neg c_17] at hf
        refine lv_aload_nN hx hb dX_down_20 rfl (lv_at hl 0 rfl) ?_
        refine lv_ifnonnullN hx hb dX_down_21 ?_
        refine lv_iconst (v := (-1)) hx hb dX_down_24 (by decide) ?_
        exact kk_iret hx hb hr hlocks hP hK hS ⟨hf.symm, hw⟩ dX_down_25
  · obtain ⟨h1, hw, h9⟩ := hq
    have ht1 : t1 < 8 := h9 t1 rfl
    rw [kk_b_eq h1, kk_o_some] at hf
    refine lv_astore_n (lv' := [(3, .ref (kx_ta ad t1)), (0, .ref (ad 0)), (1, .int sem), (2, .int n1)]) hx hb dX_down_4 rfl hl (by decide) rfl (fun ls hl => ?_)
    refine lv_iload_n hx hb dX_down_5 rfl (lv_at hl 2 rfl) ?_
    refine lv_iconst (v := 2) hx hb dX_down_6 (by decide) ?_
    refine kk_cs (r0 := xf_isBelow sem 2) (w := kx_w ad cs) (As := [.int sem, .int 2]) (rest := []) ⟨hx, hb, hml, hown, hts⟩ (xc_isBelow l sem 2) (cwS 2 hts gs_X_77 rfl rfl rfl (by decide +kernel) ⟨Nat.le_of_ble_eq_true rfl, Nat.le_of_ble_eq_true rfl⟩) hP hS rfl hl.1 rfl (Nat.le_of_ble_eq_true rfl) dX_down_7 ⟨Nat.zero_le _, Nat.zero_le _⟩ (fun H locs hP hS => ?_)
    refine lv_if_eq (tgt := 24) hx hb dX_down_10 (by decide) (fun c_10 => ?_) (fun c_10 => ?_)
    · rw [if_pos c_10] at hf
      refine lv_iconst (v := (-1)) hx hb dX_down_24 (by decide) ?_
      exact kk_iret hx hb hr hlocks hP hK hS ⟨hf.symm, hw⟩ dX_down_25
    · rw [if_neg c_10] at hf
      refine lv_iload_n hx hb dX_down_13 rfl (lv_at hl 3 rfl) ?_
      refine kk_cs (r0 := xf_isTimeout n1) (w := kx_w ad cs) (As := [.int n1]) (rest := []) ⟨hx, hb, hml, hown, hts⟩ (xc_isTimeout l n1) (cwS 1 hts gs_X_103 rfl rfl rfl (by decide +kernel) ⟨Nat.le_of_ble_eq_true rfl, Nat.le_of_ble_eq_true rfl⟩) hP hS rfl hl.1 rfl (Nat.le_of_ble_eq_true rfl) dX_down_14 ⟨Nat.zero_le _, Nat.zero_le _⟩ (fun H locs hP hS => ?_)
      refine lv_if_eq (tgt := 24) hx hb dX_down_17 (by decide) (fun c_17 => ?_) (fun c_17 => ?_)
      · rw [if_pos c_17] at hf
        refine lv_iconst (v := (-1)) hx hb dX_down_24 (by decide) ?_
        exact kk_iret hx hb hr hlocks hP hK hS ⟨hf.symm, hw⟩ dX_down_25
      · rw [if_neg c_17] at hf
        refine lv_aload_n hx hb dX_down_20 rfl (lv_at hl 0 rfl) ?_
        refine lv_ifnonnull (tgt := 26) hx hb dX_down_21 (by decide) ?_
        refine lv_aload_n hx hb dX_down_26 rfl (lv_at hl 1 rfl) ?_
        refine va_get (D := (dC, dI)) (ci := 2) (v := .ref (ad 3)) (C := R_X) (T := T_X) (N := 8) hx hb hts uw_X hown hK hP 0 rfl rfl 4 (by decide) (hts _ (List.mem_cons_of_mem _ wd_108)) (fun _ h9 => h9) rfl dX_down_27 ?_
        refine lv_iload_n hx hb dX_down_30 rfl (lv_at hl 2 rfl) ?_
        refine va_iald hx hb hK hP 3 2 rfl rfl (kx_in (by decide) c_10) dX_down_31 ?_
        refine lv_if_ne (tgt := 51) hx hb dX_down_32 (by decide) (fun c_32 => ?_) (fun c_32 => ?_)
        · rw [if_neg c_32] at hf
          refine lv_aload_n hx hb dX_down_51 rfl (lv_at hl 1 rfl) ?_
          refine va_get (D := (dC, dI)) (ci := 2) (v := .ref (ad 3)) (C := R_X) (T := T_X) (N := 8) hx hb hts uw_X hown hK hP 0 rfl rfl 4 (by decide) (hts _ (List.mem_cons_of_mem _ wd_108)) (fun _ h9 => h9) rfl dX_down_52 ?_
          refine lv_iload_n hx hb dX_down_55 rfl (lv_at hl 2 rfl) ?_
          refine lv_dup2_11 hx hb dX_down_56 rfl rfl ?_
          refine va_iald hx hb hK hP 3 2 rfl rfl (kx_in (by decide) c_10) dX_down_57 ?_
          refine lv_iconst (v := 1) hx hb dX_down_58 (by decide) ?_
          refine lv_isub hx hb dX_down_59 ?_
          refine va_iast hx hb hK hP (kx_D hj) hS 3 2 rfl rfl (kx_in (by decide) c_10) dX_down_60 (fun H locs hP _ hS => ?_)
          replace hP := kx_u_a4 hP
          replace hw := kx_wf_I (f := 4) (i := sem.toNatClampNeg) (v := (kI s1 4 sem.toNatClampNeg) - 1) hw (by decide)
          refine lv_aload_n hx hb dX_down_61 rfl (lv_at hl 0 rfl) ?_
          refine lv_iconst (v := 0) hx hb dX_down_62 (by decide) ?_
          refine va_put (D := (dC, dI)) (ci := 1) (v := .int 0) (ty := .int) (C := R_T) (T := T_T) (N := 14) hx hb hts uw_T ty_T ty_T_ok nm_T hown hK hP (kx_D hj) hS (11 + t1) (kx_wT ht1) rfl 6 (by decide) (hts _ (List.mem_cons_of_mem _ wd_43)) (fun _ h9 => h9) rfl (by decide +kernel) rfl rfl (Nat.le_of_ble_eq_true rfl) dX_down_63 (fun H locs hP _ hS => ?_)
          replace hP := kx_u_result ht1 hP
          replace hw := kx_wf_I (f := 15) (i := t1) (v := 0) hw (by decide)
          refine lv_iconst (v := 0) hx hb dX_down_66 (by decide) ?_
          exact kk_iret hx hb hr hlocks hP hK hS ⟨hf.symm, hw⟩ dX_down_67
        · rw [if_pos c_32] at hf
          refine lv_aload_n hx hb dX_down_35 rfl (lv_at hl 1 rfl) ?_
          refine lv_aload_n hx hb dX_down_36 rfl (lv_at hl 0 rfl) ?_
          refine lv_bipush (v := 30) hx hb dX_down_37 (by decide) ?_
          refine lv_iload_n hx hb dX_down_39 rfl (lv_at hl 2 rfl) ?_
          refine lv_iadd hx hb dX_down_40 ?_
          refine lv_aload_n hx hb dX_down_41 rfl (lv_at hl 1 rfl) ?_
          refine lv_iload_n hx hb dX_down_42 rfl (lv_at hl 3 rfl) ?_
          refine kk_cl (w := kx_w ad cs) (As := [.int n1]) (rest := [.int (30 + sem), .ref (kx_ta ad t1), .ref (ad 0)]) ⟨hx, hb, hml, hown, hts⟩ (xc_deadlineAfter l dC dI ad cs hj s1 hw n1 ) (cwV 1 hts gv_X_109 rfl rfl rfl (by decide +kernel) ⟨Nat.le_of_ble_eq_true rfl, Nat.le_of_ble_eq_true rfl⟩) (va_recv hK hP (ci := 2) (q0 := 0) rfl rfl) hP hK hS (fun _ h9 => h9) rfl hl.1 rfl (Nat.le_of_ble_eq_true rfl) dX_down_43 ⟨Nat.zero_le _, Nat.zero_le _⟩ (fun r2 s2 H locs hq hP hS => ?_)
          obtain ⟨h2, hw⟩ := hq
          rw [kk_b_eq h2] at hf
          refine kk_cv (w := kx_w ad cs) (As := [.ref (kx_ta ad t1), .int (30 + sem), .long r2]) (rest := []) ⟨hx, hb, hml, hown, hts⟩ (xc_block l dC dI ad cs hj s2 hw t1 (30 + sem) r2 ht1) (cwV 3 hts gv_X_113 rfl rfl rfl (by decide +kernel) ⟨Nat.le_of_ble_eq_true rfl, Nat.le_of_ble_eq_true rfl⟩) (va_recv hK hP (ci := 2) (q0 := 0) rfl rfl) hP hK hS (fun _ h9 => h9) rfl hl.1 rfl (Nat.le_of_ble_eq_true rfl) dX_down_46 ⟨Nat.zero_le _, Nat.zero_le _⟩ (fun s3 H locs hq hP hS => ?_)
          obtain ⟨h3, hw⟩ := hq
          rw [kk_v_eq h3] at hf
          refine lv_iconst (v := 1) hx hb dX_down_49 (by decide) ?_
          exact kk_iret hx hb hr hlocks hP hK hS ⟨hf.symm, hw⟩ dX_down_50
set_option maxHeartbeats 4000000 in
set_option maxRecDepth 100000 in
theorem xc_post (l : Launch) (dC : Nat → ClassId) (dI : Nat → Nat → Nat) (ad : Nat → Nat) (cs : Nat → ClassId) (hj : kx_inj ad) (σ : kx_S) (hw : kx_wf σ) (sem : Int32) : Met l y_X_post ws_X_post ({ frames := 5, cells := 0, slots := 0, locals := 120 }) (kk_Pc (dC, dI) vwCl (kx_t cs) (kx_w ad cs σ) [.ref (ad 0), .int sem]) (va_Qi (kx_pi (xf_post σ sem)) (kk_B (dC, dI) vwCl (kx_t cs) (kx_w ad cs)) (kx_A ad)) 0 0 (kx_A ad) := by
  refine Met.ofW (cc := b_X_post) (maxL := 3) (ret := (some .int)) (by decide) rfl ?_
  intro p e s m args below meth c s₁ B hml hv
  obtain ⟨rfl, hP, hK⟩ := hv
  have hx := B.exec
  have hb := B.bytes
  have hr := B.returns
  have hts := atoms_spec (ws := ws_X_post) B.pre
  have hown : s.vm.findClass R_X = some m.cls := findClass_of_methodNamed B.named
  have hlocks := B.notSynchronized
  have hS : va_S (kx_A ad) s.heap s.heap [] := va_S.rf
  generalize hf : xf_post σ sem = out
  have hl := lv_entry ([.ref (ad 0), .int sem]) (n := 3) (Nat.le_of_ble_eq_true rfl)
  rw [lg_entry_eq]
  generalize (lg_sl ([.ref (ad 0), .int sem]) ++ List.replicate (3 - (lg_sl ([.ref (ad 0), .int sem])).length) Slot.unset).toArray = ls at hl ⊢
  have hl : lv_has ls 3 [(0, .ref (ad 0)), (1, .int sem)] := hl
  rw [xf_post] at hf
  refine lv_iload_n hx hb dX_post_0 rfl (lv_at hl 1 rfl) ?_
  refine lv_iconst (v := 2) hx hb dX_post_1 (by decide) ?_
  refine kk_cs (r0 := xf_isBelow sem 2) (w := kx_w ad cs) (As := [.int sem, .int 2]) (rest := []) ⟨hx, hb, hml, hown, hts⟩ (xc_isBelow l sem 2) (cwS 2 hts gs_X_77 rfl rfl rfl (by decide +kernel) ⟨Nat.le_of_ble_eq_true rfl, Nat.le_of_ble_eq_true rfl⟩) hP hS rfl hl.1 rfl (Nat.le_of_ble_eq_true rfl) dX_post_2 ⟨Nat.zero_le _, Nat.zero_le _⟩ (fun H locs hP hS => ?_)
  refine lv_if_ne (tgt := 10) hx hb dX_post_5 (by decide) (fun c_5 => ?_) (fun c_5 => ?_)
  · rw [if_neg c_5] at hf
    refine lv_aload_n hx hb dX_post_10 rfl (lv_at hl 0 rfl) ?_
    refine lv_bipush (v := 30) hx hb dX_post_11 (by decide) ?_
    refine lv_iload_n hx hb dX_post_13 rfl (lv_at hl 1 rfl) ?_
    refine lv_iadd hx hb dX_post_14 ?_
    refine kk_co (w := kx_w ad cs) (As := [.int (30 + sem)]) (rest := []) ⟨hx, hb, hml, hown, hts⟩ (xc_firstWaiter l dC dI ad cs hj σ hw (30 + sem) ) (cwV 1 hts gv_X_117 rfl rfl rfl (by decide +kernel) ⟨Nat.le_of_ble_eq_true rfl, Nat.le_of_ble_eq_true rfl⟩) (va_recv hK hP (ci := 2) (q0 := 0) rfl rfl) hP hK hS (fun _ h9 => h9) rfl hl.1 rfl (Nat.le_of_ble_eq_true rfl) dX_post_15 ⟨Nat.zero_le _, Nat.zero_le _⟩ (fun s1 H locs hq hP hS => ?_) (fun t1 s1 H locs hq hP hS => ?_)
    · obtain ⟨h1, hw, -⟩ := hq
      rw [kk_b_eq h1, kk_o_none] at hf
      refine lv_astore_nN (lv' := [(2, .null), (0, .ref (ad 0)), (1, .int sem)]) hx hb dX_post_18 rfl hl (by decide) rfl (fun ls hl => ?_)
      refine lv_aload_nN hx hb dX_post_19 rfl (lv_at hl 0 rfl) ?_
      refine lv_ifnullN (tgt := 31) hx hb dX_post_20 (by decide) ?_
      refine lv_aload_n hx hb dX_post_31 rfl (lv_at hl 1 rfl) ?_
      refine va_get (D := (dC, dI)) (ci := 2) (v := .ref (ad 3)) (C := R_X) (T := T_X) (N := 8) hx hb hts uw_X hown hK hP 0 rfl rfl 4 (by decide) (hts _ (List.mem_cons_of_mem _ wd_108)) (fun _ h9 => h9) rfl dX_post_32 ?_
      refine lv_iload_n hx hb dX_post_35 rfl (lv_at hl 2 rfl) ?_
      refine va_iald hx hb hK hP 3 2 rfl rfl (kx_in (by decide) c_5) dX_post_36 ?_
      refine lv_bipush (v := 99) hx hb dX_post_37 (by decide) ?_
      refine lv_icmp_lt (tgt := 44) hx hb dX_post_39 (by decide) (fun c_39 => ?_) (fun c_39 => ?_)
      · rw [if_pos c_39] at hf
        refine lv_aload_n hx hb dX_post_44 rfl (lv_at hl 1 rfl) ?_
        refine va_get (D := (dC, dI)) (ci := 2) (v := .ref (ad 3)) (C := R_X) (T := T_X) (N := 8) hx hb hts uw_X hown hK hP 0 rfl rfl 4 (by decide) (hts _ (List.mem_cons_of_mem _ wd_108)) (fun _ h9 => h9) rfl dX_post_45 ?_
        refine lv_iload_n hx hb dX_post_48 rfl (lv_at hl 2 rfl) ?_
        refine lv_dup2_11 hx hb dX_post_49 rfl rfl ?_
        refine va_iald hx hb hK hP 3 2 rfl rfl (kx_in (by decide) c_5) dX_post_50 ?_
        refine lv_iconst (v := 1) hx hb dX_post_51 (by decide) ?_
        refine lv_iadd hx hb dX_post_52 ?_
        refine va_iast hx hb hK hP (kx_D hj) hS 3 2 rfl rfl (kx_in (by decide) c_5) dX_post_53 (fun H locs hP _ hS => ?_)
        replace hP := kx_u_a4 hP
        replace hw := kx_wf_I (f := 4) (i := sem.toNatClampNeg) (v := (kI s1 4 sem.toNatClampNeg) + 1) hw (by decide)
        refine lv_iconst (v := 0) hx hb dX_post_54 (by decide) ?_
        exact kk_iret hx hb hr hlocks hP hK hS ⟨hf.symm, hw⟩ dX_post_55
      · rw [if_neg c_39] at hf
        refine lv_iconst (v := (-1)) hx hb dX_post_42 (by decide) ?_
        exact kk_iret hx hb hr hlocks hP hK hS ⟨hf.symm, hw⟩ dX_post_43
    · obtain ⟨h1, hw, h9⟩ := hq
      have ht1 : t1 < 8 := h9 t1 rfl
      rw [kk_b_eq h1, kk_o_some] at hf
      refine lv_astore_n (lv' := [(2, .ref (kx_ta ad t1)), (0, .ref (ad 0)), (1, .int sem)]) hx hb dX_post_18 rfl hl (by decide) rfl (fun ls hl => ?_)
      refine lv_aload_n hx hb dX_post_19 rfl (lv_at hl 0 rfl) ?_
      refine lv_ifnull hx hb dX_post_20 ?_
      refine lv_aload_n hx hb dX_post_23 rfl (lv_at hl 1 rfl) ?_
      refine lv_aload_n hx hb dX_post_24 rfl (lv_at hl 0 rfl) ?_
      refine lv_iconst (v := 0) hx hb dX_post_25 (by decide) ?_
      refine kk_cv (w := kx_w ad cs) (As := [.ref (kx_ta ad t1), .int 0]) (rest := []) ⟨hx, hb, hml, hown, hts⟩ (xc_makeReady l dC dI ad cs hj s1 hw t1 0 ht1) (cwV 2 hts gv_X_70 rfl rfl rfl (by decide +kernel) ⟨Nat.le_of_ble_eq_true rfl, Nat.le_of_ble_eq_true rfl⟩) (va_recv hK hP (ci := 2) (q0 := 0) rfl rfl) hP hK hS (fun _ h9 => h9) rfl hl.1 rfl (Nat.le_of_ble_eq_true rfl) dX_post_26 ⟨Nat.zero_le _, Nat.zero_le _⟩ (fun s2 H locs hq hP hS => ?_)
      obtain ⟨h2, hw⟩ := hq
      rw [kk_v_eq h2] at hf
      refine lv_iconst (v := 0) hx hb dX_post_29 (by decide) ?_
      exact kk_iret hx hb hr hlocks hP hK hS ⟨hf.symm, hw⟩ dX_post_30
  · rw [if_pos c_5] at hf
    refine lv_iconst (v := (-1)) hx hb dX_post_8 (by decide) ?_
    exact kk_iret hx hb hr hlocks hP hK hS ⟨hf.symm, hw⟩ dX_post_9
set_option maxHeartbeats 4000000 in
set_option maxRecDepth 100000 in
theorem xc_send (l : Launch) (dC : Nat → ClassId) (dI : Nat → Nat → Nat) (ad : Nat → Nat) (cs : Nat → ClassId) (hj : kx_inj ad) (σ : kx_S) (hw : kx_wf σ) (q : Int32) (rank : Int32) (value : Int32) : Met l y_X_send ws_X_send ({ frames := 6, cells := 0, slots := 0, locals := 144 }) (kk_Pc (dC, dI) vwCl (kx_t cs) (kx_w ad cs σ) [.ref (ad 0), .int q, .int rank, .int value]) (va_Qi (kx_pi (xf_send σ q rank value)) (kk_B (dC, dI) vwCl (kx_t cs) (kx_w ad cs)) (kx_A ad)) 0 0 (kx_A ad) := by
  refine Met.ofW (cc := b_X_send) (maxL := 5) (ret := (some .int)) (by decide) rfl ?_
  intro p e s m args below meth c s₁ B hml hv
  obtain ⟨rfl, hP, hK⟩ := hv
  have hx := B.exec
  have hb := B.bytes
  have hr := B.returns
  have hts := atoms_spec (ws := ws_X_send) B.pre
  have hown : s.vm.findClass R_X = some m.cls := findClass_of_methodNamed B.named
  have hlocks := B.notSynchronized
  have hS : va_S (kx_A ad) s.heap s.heap [] := va_S.rf
  generalize hf : xf_send σ q rank value = out
  have hl := lv_entry ([.ref (ad 0), .int q, .int rank, .int value]) (n := 5) (Nat.le_of_ble_eq_true rfl)
  rw [lg_entry_eq]
  generalize (lg_sl ([.ref (ad 0), .int q, .int rank, .int value]) ++ List.replicate (5 - (lg_sl ([.ref (ad 0), .int q, .int rank, .int value])).length) Slot.unset).toArray = ls at hl ⊢
  have hl : lv_has ls 5 [(0, .ref (ad 0)), (1, .int q), (2, .int rank), (3, .int value)] := hl
  rw [xf_send] at hf
  refine lv_aload_n hx hb dX_send_0 rfl (lv_at hl 0 rfl) ?_
  refine kk_co (w := kx_w ad cs) (As := []) (rest := []) ⟨hx, hb, hml, hown, hts⟩ (xc_runner l dC dI ad cs hj σ hw  ) (cwV 0 hts gv_X_87 rfl rfl rfl (by decide +kernel) ⟨Nat.le_of_ble_eq_true rfl, Nat.le_of_ble_eq_true rfl⟩) (va_recv hK hP (ci := 2) (q0 := 0) rfl rfl) hP hK hS (fun _ h9 => h9) rfl hl.1 rfl (Nat.le_of_ble_eq_true rfl) dX_send_1 ⟨Nat.zero_le _, Nat.zero_le _⟩ (fun s1 H locs hq hP hS => ?_) (fun t1 s1 H locs hq hP hS => ?_)
  · obtain ⟨h1, hw, -⟩ := hq
    rw [kk_b_eq h1, kk_o_none] at hf
    refine lv_astoreN (lv' := [(4, .null), (0, .ref (ad 0)), (1, .int q), (2, .int rank), (3, .int value)]) hx hb dX_send_4 hl (by decide) rfl (fun ls hl => ?_)
    refine lv_iload_n hx hb dX_send_6 rfl (lv_at hl 2 rfl) ?_
    refine lv_iconst (v := 2) hx hb dX_send_7 (by decide) ?_
    refine kk_cs (r0 := xf_isBelow q 2) (w := kx_w ad cs) (As := [.int q, .int 2]) (rest := []) ⟨hx, hb, hml, hown, hts⟩ (xc_isBelow l q 2) (cwS 2 hts gs_X_77 rfl rfl rfl (by decide +kernel) ⟨Nat.le_of_ble_eq_true rfl, Nat.le_of_ble_eq_true rfl⟩) hP hS rfl hl.1 rfl (Nat.le_of_ble_eq_true rfl) dX_send_8 ⟨Nat.zero_le _, Nat.zero_le _⟩ (fun H locs hP hS => ?_)
    refine lv_if_eq (tgt := 28) hx hb dX_send_11 (by decide) (fun c_11 => ?_) (fun c_11 => ?_)
    · rw [if_pos c_11] at hf
      refine lv_iconst (v := (-1)) hx hb dX_send_28 (by decide) ?_
      exact kk_iret hx hb hr hlocks hP hK hS ⟨hf.symm, hw⟩ dX_send_29
    · rw [if_neg c_11] at hf
      refine lv_iload_n hx hb dX_send_14 rfl (lv_at hl 3 rfl) ?_
      refine lv_bipush (v := 10) hx hb dX_send_15 (by decide) ?_
      refine kk_cs (r0 := xf_isBelow rank 10) (w := kx_w ad cs) (As := [.int rank, .int 10]) (rest := []) ⟨hx, hb, hml, hown, hts⟩ (xc_isBelow l rank 10) (cwS 2 hts gs_X_77 rfl rfl rfl (by decide +kernel) ⟨Nat.le_of_ble_eq_true rfl, Nat.le_of_ble_eq_true rfl⟩) hP hS rfl hl.1 rfl (Nat.le_of_ble_eq_true rfl) dX_send_17 ⟨Nat.zero_le _, Nat.zero_le _⟩ (fun H locs hP hS => ?_)
      refine lv_if_eq (tgt := 28) hx hb dX_send_20 (by decide) (fun c_20 => ?_) (fun c_20 => ?_)
      · rw [if_pos c_20] at hf
        refine lv_iconst (v := (-1)) hx hb dX_send_28 (by decide) ?_
        exact kk_iret hx hb hr hlocks hP hK hS ⟨hf.symm, hw⟩ dX_send_29
      · rw [if_neg c_20] at hf
        refine lv_aloadN hx hb dX_send_23 (lv_at hl 0 rfl) ?_
        refine lv_ifnonnullN hx hb dX_send_25 ?_
        refine lv_iconst (v := (-1)) hx hb dX_send_28 (by decide) ?_
        exact kk_iret hx hb hr hlocks hP hK hS ⟨hf.symm, hw⟩ dX_send_29
  · obtain ⟨h1, hw, h9⟩ := hq
    have ht1 : t1 < 8 := h9 t1 rfl
    rw [kk_b_eq h1, kk_o_some] at hf
    refine lv_astore (lv' := [(4, .ref (kx_ta ad t1)), (0, .ref (ad 0)), (1, .int q), (2, .int rank), (3, .int value)]) hx hb dX_send_4 hl (by decide) rfl (fun ls hl => ?_)
    refine lv_iload_n hx hb dX_send_6 rfl (lv_at hl 2 rfl) ?_
    refine lv_iconst (v := 2) hx hb dX_send_7 (by decide) ?_
    refine kk_cs (r0 := xf_isBelow q 2) (w := kx_w ad cs) (As := [.int q, .int 2]) (rest := []) ⟨hx, hb, hml, hown, hts⟩ (xc_isBelow l q 2) (cwS 2 hts gs_X_77 rfl rfl rfl (by decide +kernel) ⟨Nat.le_of_ble_eq_true rfl, Nat.le_of_ble_eq_true rfl⟩) hP hS rfl hl.1 rfl (Nat.le_of_ble_eq_true rfl) dX_send_8 ⟨Nat.zero_le _, Nat.zero_le _⟩ (fun H locs hP hS => ?_)
    refine lv_if_eq (tgt := 28) hx hb dX_send_11 (by decide) (fun c_11 => ?_) (fun c_11 => ?_)
    · rw [if_pos c_11] at hf
      refine lv_iconst (v := (-1)) hx hb dX_send_28 (by decide) ?_
      exact kk_iret hx hb hr hlocks hP hK hS ⟨hf.symm, hw⟩ dX_send_29
    · rw [if_neg c_11] at hf
      refine lv_iload_n hx hb dX_send_14 rfl (lv_at hl 3 rfl) ?_
      refine lv_bipush (v := 10) hx hb dX_send_15 (by decide) ?_
      refine kk_cs (r0 := xf_isBelow rank 10) (w := kx_w ad cs) (As := [.int rank, .int 10]) (rest := []) ⟨hx, hb, hml, hown, hts⟩ (xc_isBelow l rank 10) (cwS 2 hts gs_X_77 rfl rfl rfl (by decide +kernel) ⟨Nat.le_of_ble_eq_true rfl, Nat.le_of_ble_eq_true rfl⟩) hP hS rfl hl.1 rfl (Nat.le_of_ble_eq_true rfl) dX_send_17 ⟨Nat.zero_le _, Nat.zero_le _⟩ (fun H locs hP hS => ?_)
      refine lv_if_eq (tgt := 28) hx hb dX_send_20 (by decide) (fun c_20 => ?_) (fun c_20 => ?_)
      · rw [if_pos c_20] at hf
        refine lv_iconst (v := (-1)) hx hb dX_send_28 (by decide) ?_
        exact kk_iret hx hb hr hlocks hP hK hS ⟨hf.symm, hw⟩ dX_send_29
      · rw [if_neg c_20] at hf
        refine lv_aload hx hb dX_send_23 (lv_at hl 0 rfl) ?_
        refine lv_ifnonnull (tgt := 30) hx hb dX_send_25 (by decide) ?_
        refine lv_aload_n hx hb dX_send_30 rfl (lv_at hl 1 rfl) ?_
        refine va_get (D := (dC, dI)) (ci := 2) (v := .ref (ad 4)) (C := R_X) (T := T_X) (N := 8) hx hb hts uw_X hown hK hP 0 rfl rfl 5 (by decide) (hts _ (List.mem_cons_of_mem _ wd_109)) (fun _ h9 => h9) rfl dX_send_31 ?_
        refine lv_iload_n hx hb dX_send_34 rfl (lv_at hl 2 rfl) ?_
        have hi_35 : vp_in q 2 := (kx_in (by decide) c_11)
        have hq_35 : q.toNatClampNeg < 2 := kx_lt hi_35
        refine kx_ldQ hx hb hK hP hi_35 dX_send_35 ?_
        refine kk_ci (w := kx_w ad cs) (As := []) (rest := []) ⟨hx, hb, hml, hown, hts⟩ (xc_isFull l dC dI ad cs hj s1 hw q.toNatClampNeg hq_35) (cwV 0 hts gv_X_127 rfl rfl rfl (by decide +kernel) ⟨Nat.le_of_ble_eq_true rfl, Nat.le_of_ble_eq_true rfl⟩) (kx_recvQ hK hP hq_35) hP hK hS (fun _ h9 => h9) rfl hl.1 rfl (Nat.le_of_ble_eq_true rfl) dX_send_36 ⟨Nat.zero_le _, Nat.zero_le _⟩ (fun r2 s2 H locs hq hP hS => ?_)
        obtain ⟨h2, hw⟩ := hq
        rw [kk_b_eq h2] at hf
        refine lv_if_eq (tgt := 69) hx hb dX_send_39 (by decide) (fun c_39 => ?_) (fun c_39 => ?_)
        · rw [if_pos c_39] at hf
          refine lv_aload hx hb dX_send_69 (lv_at hl 0 rfl) ?_
          refine lv_iconst (v := 0) hx hb dX_send_71 (by decide) ?_
          refine va_put (D := (dC, dI)) (ci := 1) (v := .int 0) (ty := .int) (C := R_T) (T := T_T) (N := 14) hx hb hts uw_T ty_T ty_T_ok nm_T hown hK hP (kx_D hj) hS (11 + t1) (kx_wT ht1) rfl 6 (by decide) (hts _ (List.mem_cons_of_mem _ wd_43)) (fun _ h9 => h9) rfl (by decide +kernel) rfl rfl (Nat.le_of_ble_eq_true rfl) dX_send_72 (fun H locs hP _ hS => ?_)
          replace hP := kx_u_result ht1 hP
          replace hw := kx_wf_I (f := 15) (i := t1) (v := 0) hw (by decide)
          refine lv_aload_n hx hb dX_send_75 rfl (lv_at hl 1 rfl) ?_
          refine lv_iload_n hx hb dX_send_76 rfl (lv_at hl 2 rfl) ?_
          refine lv_iload_n hx hb dX_send_77 rfl (lv_at hl 3 rfl) ?_
          refine lv_iload_n hx hb dX_send_78 rfl (lv_at hl 4 rfl) ?_
          refine kk_cv (w := kx_w ad cs) (As := [.int q, .int rank, .int value]) (rest := []) ⟨hx, hb, hml, hown, hts⟩ (xc_arrive l dC dI ad cs hj (sI s2 15 t1 0) hw q rank value (kx_in (by decide) c_11)) (cwV 3 hts gv_X_139 rfl rfl rfl (by decide +kernel) ⟨Nat.le_of_ble_eq_true rfl, Nat.le_of_ble_eq_true rfl⟩) (va_recv hK hP (ci := 2) (q0 := 0) rfl rfl) hP hK hS (fun _ h9 => h9) rfl hl.1 rfl (Nat.le_of_ble_eq_true rfl) dX_send_79 ⟨Nat.zero_le _, Nat.zero_le _⟩ (fun s3 H locs hq hP hS => ?_)
          obtain ⟨h3, hw⟩ := hq
          rw [kk_v_eq h3] at hf
          refine lv_iconst (v := 0) hx hb dX_send_82 (by decide) ?_
          exact kk_iret hx hb hr hlocks hP hK hS ⟨hf.symm, hw⟩ dX_send_83
        · rw [if_neg c_39] at hf
          refine lv_aload hx hb dX_send_42 (lv_at hl 0 rfl) ?_
          refine lv_iload_n hx hb dX_send_44 rfl (lv_at hl 3 rfl) ?_
          refine va_put (D := (dC, dI)) (ci := 1) (v := .int rank) (ty := .int) (C := R_T) (T := T_T) (N := 14) hx hb hts uw_T ty_T ty_T_ok nm_T hown hK hP (kx_D hj) hS (11 + t1) (kx_wT ht1) rfl 12 (by decide) (hts _ (List.mem_cons_of_mem _ wd_55)) (fun _ h9 => h9) rfl (by decide +kernel) rfl rfl (Nat.le_of_ble_eq_true rfl) dX_send_45 (fun H locs hP _ hS => ?_)
          replace hP := kx_u_rank ht1 hP
          replace hw := kx_wf_I (f := 19) (i := t1) (v := rank) hw (by decide)
          refine lv_aload hx hb dX_send_48 (lv_at hl 0 rfl) ?_
          refine lv_iload_n hx hb dX_send_50 rfl (lv_at hl 4 rfl) ?_
          refine va_put (D := (dC, dI)) (ci := 1) (v := .int value) (ty := .int) (C := R_T) (T := T_T) (N := 14) hx hb hts uw_T ty_T ty_T_ok nm_T hown hK hP (kx_D hj) hS (11 + t1) (kx_wT ht1) rfl 13 (by decide) (hts _ (List.mem_cons_of_mem _ wd_57)) (fun _ h9 => h9) rfl (by decide +kernel) rfl rfl (Nat.le_of_ble_eq_true rfl) dX_send_51 (fun H locs hP _ hS => ?_)
          replace hP := kx_u_value ht1 hP
          replace hw := kx_wf_I (f := 20) (i := t1) (v := value) hw (by decide)
          refine lv_aload_n hx hb dX_send_54 rfl (lv_at hl 1 rfl) ?_
          refine lv_aload hx hb dX_send_55 (lv_at hl 0 rfl) ?_
          refine lv_bipush (v := 40) hx hb dX_send_57 (by decide) ?_
          refine lv_iload_n hx hb dX_send_59 rfl (lv_at hl 2 rfl) ?_
          refine lv_iadd hx hb dX_send_60 ?_
          refine lv_ldc2 (v := 1000000000000) hx hb hown (hts _ (List.mem_cons_of_mem _ wd_144)) dX_send_61 ?_
          refine kk_cv (w := kx_w ad cs) (As := [.ref (kx_ta ad t1), .int (40 + q), .long 1000000000000]) (rest := []) ⟨hx, hb, hml, hown, hts⟩ (xc_block l dC dI ad cs hj (sI (sI s2 19 t1 rank) 20 t1 value) hw t1 (40 + q) 1000000000000 ht1) (cwV 3 hts gv_X_113 rfl rfl rfl (by decide +kernel) ⟨Nat.le_of_ble_eq_true rfl, Nat.le_of_ble_eq_true rfl⟩) (va_recv hK hP (ci := 2) (q0 := 0) rfl rfl) hP hK hS (fun _ h9 => h9) rfl hl.1 rfl (Nat.le_of_ble_eq_true rfl) dX_send_64 ⟨Nat.zero_le _, Nat.zero_le _⟩ (fun s4 H locs hq hP hS => ?_)
          obtain ⟨h4, hw⟩ := hq
          rw [kk_v_eq h4] at hf
          refine lv_iconst (v := 1) hx hb dX_send_67 (by decide) ?_
          exact kk_iret hx hb hr hlocks hP hK hS ⟨hf.symm, hw⟩ dX_send_68
