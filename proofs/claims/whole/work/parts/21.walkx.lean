set_option maxHeartbeats 4000000 in
set_option maxRecDepth 100000 in
theorem xc_insert_0 (l : Launch) (dC : Nat → ClassId) (dI : Nat → Nat → Nat) (ad : Nat → Nat) (cs : Nat → ClassId) (hj : kx_inj ad) (σ : kx_S) (hw : kx_wf σ) (rank : Int32) (value : Int32) : Met l y_Q_insert ws_Q_insert ({ frames := 1, cells := 0, slots := 0, locals := 20 }) (kk_Pc (dC, dI) vwCl (kx_t cs) (kx_w ad cs σ) [.ref (ad 5), .int rank, .int value]) (va_Qv (kx_pv (xf_insert_0 σ rank value)) (kk_B (dC, dI) vwCl (kx_t cs) (kx_w ad cs)) (kx_A ad)) 0 0 (kx_A ad) := by
  refine Met.ofW (cc := b_Q_insert) (maxL := 4) (ret := none) (by decide) rfl ?_
  intro p e s m args below meth c s₁ B hml hv
  obtain ⟨rfl, hP, hK⟩ := hv
  have hx := B.exec
  have hb := B.bytes
  have hr := B.returns
  have hts := atoms_spec (ws := ws_Q_insert) B.pre
  have hown : s.vm.findClass R_Q = some m.cls := findClass_of_methodNamed B.named
  have hlocks := B.notSynchronized
  have hS : va_S (kx_A ad) s.heap s.heap [] := va_S.rf
  generalize hf : xf_insert_0 σ rank value = out
  have hl := lv_entry ([.ref (ad 5), .int rank, .int value]) (n := 4) (Nat.le_of_ble_eq_true rfl)
  rw [lg_entry_eq]
  generalize (lg_sl ([.ref (ad 5), .int rank, .int value]) ++ List.replicate (4 - (lg_sl ([.ref (ad 5), .int rank, .int value])).length) Slot.unset).toArray = ls at hl ⊢
  have hl : lv_has ls 4 [(0, .ref (ad 5)), (1, .int rank), (2, .int value)] := hl
  rw [xf_insert_0] at hf
  refine lv_aload_n hx hb dQ_insert_0 rfl (lv_at hl 0 rfl) ?_
  refine kk_ci (w := kx_w ad cs) (As := []) (rest := []) ⟨hx, hb, hml, hown, hts⟩ (xc_isFull_0 l dC dI ad cs hj σ hw  ) (cwV 0 hts gv_Q_22 rfl rfl rfl (by decide +kernel) ⟨Nat.le_of_ble_eq_true rfl, Nat.le_of_ble_eq_true rfl⟩) (va_recv hK hP (ci := 0) (q0 := 5) rfl rfl) hP hK hS (fun _ h9 => h9) rfl hl.1 rfl (Nat.le_of_ble_eq_true rfl) dQ_insert_1 ⟨Nat.zero_le _, Nat.zero_le _⟩ (fun r1 s1 H locs hq hP hS => ?_)
  obtain ⟨h1, hw⟩ := hq
  rw [kk_b_eq h1] at hf
  refine lv_if_eq (tgt := 8) hx hb dQ_insert_4 (by decide) (fun c_4 => ?_) (fun c_4 => ?_)
  · rw [if_pos c_4] at hf
    rcases Classical.em ((kI s1 9 0) = 0) with z_0 | z_0
    · rw [if_pos z_0] at hf
      refine lv_aload_n hx hb dQ_insert_8 rfl (lv_at hl 0 rfl) ?_
      refine va_get (D := (dC, dI)) (ci := 0) (v := .int (kI s1 9 0)) (C := R_Q) (T := T_Q) (N := 3) hx hb hts uw_Q hown hK hP 5 rfl rfl 2 (by decide) (hts _ (List.mem_cons_of_mem _ wd_95)) (fun _ h9 => h9) rfl dQ_insert_9 ?_
      rw [show kI s1 9 0 = 0 from (show (kI s1 9 0) = _ from rfl).trans (by rw [z_0])]
      refine lv_istore_n (lv' := [(3, .int 0), (0, .ref (ad 5)), (1, .int rank), (2, .int value)]) hx hb dQ_insert_12 rfl hl (by decide) rfl (fun ls hl => ?_)
      refine lv_iload_n hx hb dQ_insert_13 rfl (lv_at hl 0 rfl) ?_
      refine lv_if_le (tgt := 63) hx hb dQ_insert_14 (by decide) (fun _ => ?_) (fun c9 => absurd (by decide) c9)
      refine lv_aload_n hx hb dQ_insert_63 rfl (lv_at hl 1 rfl) ?_
      refine va_get (D := (dC, dI)) (ci := 0) (v := .ref (ad 7)) (C := R_Q) (T := T_Q) (N := 3) hx hb hts uw_Q hown hK hP 5 rfl rfl 0 (by decide) (hts _ (List.mem_cons_of_mem _ wd_93)) (fun _ h9 => h9) rfl dQ_insert_64 ?_
      refine lv_iload_n hx hb dQ_insert_67 rfl (lv_at hl 0 rfl) ?_
      refine lv_iload_n hx hb dQ_insert_68 rfl (lv_at hl 2 rfl) ?_
      refine va_iast hx hb hK hP (kx_D hj) hS 7 4 rfl rfl (kk_inl (by decide)) dQ_insert_69 (fun H locs hP _ hS => ?_)
      rw [kk_c0] at hP
      replace hP := kx_u_a5 hP
      replace hw := kx_wf_I (f := 5) (i := 0) (v := rank) hw (by decide)
      refine lv_aload_n hx hb dQ_insert_70 rfl (lv_at hl 1 rfl) ?_
      refine va_get (D := (dC, dI)) (ci := 0) (v := .ref (ad 9)) (C := R_Q) (T := T_Q) (N := 3) hx hb hts uw_Q hown hK hP 5 rfl rfl 1 (by decide) (hts _ (List.mem_cons_of_mem _ wd_94)) (fun _ h9 => h9) rfl dQ_insert_71 ?_
      refine lv_iload_n hx hb dQ_insert_74 rfl (lv_at hl 0 rfl) ?_
      refine lv_iload_n hx hb dQ_insert_75 rfl (lv_at hl 3 rfl) ?_
      refine va_iast hx hb hK hP (kx_D hj) hS 9 6 rfl rfl (kk_inl (by decide)) dQ_insert_76 (fun H locs hP _ hS => ?_)
      rw [kk_c0] at hP
      replace hP := kx_u_a7 hP
      replace hw := kx_wf_I (f := 7) (i := 0) (v := value) hw (by decide)
      refine lv_aload_n hx hb dQ_insert_77 rfl (lv_at hl 1 rfl) ?_
      refine lv_dup hx hb dQ_insert_78 rfl ?_
      refine va_get (D := (dC, dI)) (ci := 0) (v := .int (kI (sI (sI s1 5 0 rank) 7 0 value) 9 0)) (C := R_Q) (T := T_Q) (N := 3) hx hb hts uw_Q hown hK hP 5 rfl rfl 2 (by decide) (hts _ (List.mem_cons_of_mem _ wd_95)) (fun _ h9 => h9) rfl dQ_insert_79 ?_
      refine lv_iconst (v := 1) hx hb dQ_insert_82 (by decide) ?_
      refine lv_iadd hx hb dQ_insert_83 ?_
      refine va_put (D := (dC, dI)) (ci := 0) (v := .int ((kI (sI (sI s1 5 0 rank) 7 0 value) 9 0) + 1)) (ty := .int) (C := R_Q) (T := T_Q) (N := 3) hx hb hts uw_Q ty_Q ty_Q_ok nm_Q hown hK hP (kx_D hj) hS 5 rfl rfl 2 (by decide) (hts _ (List.mem_cons_of_mem _ wd_95)) (fun _ h9 => h9) rfl (by decide +kernel) rfl rfl (Nat.le_of_ble_eq_true rfl) dQ_insert_84 (fun H locs hP _ hS => ?_)
      replace hP := kx_u_size0 hP
      replace hw : kx_wf (sI (sI (sI s1 5 0 rank) 7 0 value) 9 0 ((kI (sI (sI s1 5 0 rank) 7 0 value) 9 0) + 1)) := kx_wf_q (q := 0) (v := kI (sI (sI s1 5 0 rank) 7 0 value) 9 0 + 1) hw ⟨1, by decide, by rw [show kI (sI (sI s1 5 0 rank) 7 0 value) 9 0 = kI s1 9 0 from rfl, z_0]; decide⟩
      exact kk_vret hx hb hr hlocks hP hK hS ⟨hf.symm, hw⟩ dQ_insert_87
    · rw [if_neg z_0] at hf
      rcases Classical.em ((kI s1 9 0) = 1) with z_1 | z_1
      · rw [if_pos z_1] at hf
        refine lv_aload_n hx hb dQ_insert_8 rfl (lv_at hl 0 rfl) ?_
        refine va_get (D := (dC, dI)) (ci := 0) (v := .int (kI s1 9 0)) (C := R_Q) (T := T_Q) (N := 3) hx hb hts uw_Q hown hK hP 5 rfl rfl 2 (by decide) (hts _ (List.mem_cons_of_mem _ wd_95)) (fun _ h9 => h9) rfl dQ_insert_9 ?_
        rw [show kI s1 9 0 = 1 from (show (kI s1 9 0) = _ from rfl).trans (by rw [z_1])]
        refine lv_istore_n (lv' := [(3, .int 1), (0, .ref (ad 5)), (1, .int rank), (2, .int value)]) hx hb dQ_insert_12 rfl hl (by decide) rfl (fun ls hl => ?_)
        refine lv_iload_n hx hb dQ_insert_13 rfl (lv_at hl 0 rfl) ?_
        refine lv_if_le (tgt := 63) hx hb dQ_insert_14 (by decide) (fun c9 => absurd c9 (by decide)) (fun _ => ?_)
        refine lv_aload_n hx hb dQ_insert_17 rfl (lv_at hl 1 rfl) ?_
        refine va_get (D := (dC, dI)) (ci := 0) (v := .ref (ad 7)) (C := R_Q) (T := T_Q) (N := 3) hx hb hts uw_Q hown hK hP 5 rfl rfl 0 (by decide) (hts _ (List.mem_cons_of_mem _ wd_93)) (fun _ h9 => h9) rfl dQ_insert_18 ?_
        refine lv_iload_n hx hb dQ_insert_21 rfl (lv_at hl 0 rfl) ?_
        refine lv_iconst (v := 1) hx hb dQ_insert_22 (by decide) ?_
        refine lv_isub hx hb dQ_insert_23 ?_
        refine lv_topi (fun z9 e9 => ?_)
        obtain rfl : z9 = 0 := e9.trans (by decide)
        refine va_iald hx hb hK hP 7 4 rfl rfl (kk_inl (by decide)) dQ_insert_24 ?_
        rw [kk_c0]
        refine lv_iload_n hx hb dQ_insert_25 rfl (lv_at hl 2 rfl) ?_
        refine lv_icmp_ge (tgt := 63) hx hb dQ_insert_26 (by decide) (fun c_26 => ?_) (fun c_26 => ?_)
        · rw [if_pos c_26] at hf
          refine lv_aload_n hx hb dQ_insert_63 rfl (lv_at hl 1 rfl) ?_
          refine va_get (D := (dC, dI)) (ci := 0) (v := .ref (ad 7)) (C := R_Q) (T := T_Q) (N := 3) hx hb hts uw_Q hown hK hP 5 rfl rfl 0 (by decide) (hts _ (List.mem_cons_of_mem _ wd_93)) (fun _ h9 => h9) rfl dQ_insert_64 ?_
          refine lv_iload_n hx hb dQ_insert_67 rfl (lv_at hl 0 rfl) ?_
          refine lv_iload_n hx hb dQ_insert_68 rfl (lv_at hl 2 rfl) ?_
          refine va_iast hx hb hK hP (kx_D hj) hS 7 4 rfl rfl (kk_inl (by decide)) dQ_insert_69 (fun H locs hP _ hS => ?_)
          rw [kk_c1] at hP
          replace hP := kx_u_a5 hP
          replace hw := kx_wf_I (f := 5) (i := 1) (v := rank) hw (by decide)
          refine lv_aload_n hx hb dQ_insert_70 rfl (lv_at hl 1 rfl) ?_
          refine va_get (D := (dC, dI)) (ci := 0) (v := .ref (ad 9)) (C := R_Q) (T := T_Q) (N := 3) hx hb hts uw_Q hown hK hP 5 rfl rfl 1 (by decide) (hts _ (List.mem_cons_of_mem _ wd_94)) (fun _ h9 => h9) rfl dQ_insert_71 ?_
          refine lv_iload_n hx hb dQ_insert_74 rfl (lv_at hl 0 rfl) ?_
          refine lv_iload_n hx hb dQ_insert_75 rfl (lv_at hl 3 rfl) ?_
          refine va_iast hx hb hK hP (kx_D hj) hS 9 6 rfl rfl (kk_inl (by decide)) dQ_insert_76 (fun H locs hP _ hS => ?_)
          rw [kk_c1] at hP
          replace hP := kx_u_a7 hP
          replace hw := kx_wf_I (f := 7) (i := 1) (v := value) hw (by decide)
          refine lv_aload_n hx hb dQ_insert_77 rfl (lv_at hl 1 rfl) ?_
          refine lv_dup hx hb dQ_insert_78 rfl ?_
          refine va_get (D := (dC, dI)) (ci := 0) (v := .int (kI (sI (sI s1 5 1 rank) 7 1 value) 9 0)) (C := R_Q) (T := T_Q) (N := 3) hx hb hts uw_Q hown hK hP 5 rfl rfl 2 (by decide) (hts _ (List.mem_cons_of_mem _ wd_95)) (fun _ h9 => h9) rfl dQ_insert_79 ?_
          refine lv_iconst (v := 1) hx hb dQ_insert_82 (by decide) ?_
          refine lv_iadd hx hb dQ_insert_83 ?_
          refine va_put (D := (dC, dI)) (ci := 0) (v := .int ((kI (sI (sI s1 5 1 rank) 7 1 value) 9 0) + 1)) (ty := .int) (C := R_Q) (T := T_Q) (N := 3) hx hb hts uw_Q ty_Q ty_Q_ok nm_Q hown hK hP (kx_D hj) hS 5 rfl rfl 2 (by decide) (hts _ (List.mem_cons_of_mem _ wd_95)) (fun _ h9 => h9) rfl (by decide +kernel) rfl rfl (Nat.le_of_ble_eq_true rfl) dQ_insert_84 (fun H locs hP _ hS => ?_)
          replace hP := kx_u_size0 hP
          replace hw : kx_wf (sI (sI (sI s1 5 1 rank) 7 1 value) 9 0 ((kI (sI (sI s1 5 1 rank) 7 1 value) 9 0) + 1)) := kx_wf_q (q := 0) (v := kI (sI (sI s1 5 1 rank) 7 1 value) 9 0 + 1) hw ⟨2, by decide, by rw [show kI (sI (sI s1 5 1 rank) 7 1 value) 9 0 = kI s1 9 0 from rfl, z_1]; decide⟩
          exact kk_vret hx hb hr hlocks hP hK hS ⟨hf.symm, hw⟩ dQ_insert_87
        · rw [if_neg c_26] at hf
          refine lv_aload_n hx hb dQ_insert_29 rfl (lv_at hl 1 rfl) ?_
          refine va_get (D := (dC, dI)) (ci := 0) (v := .ref (ad 7)) (C := R_Q) (T := T_Q) (N := 3) hx hb hts uw_Q hown hK hP 5 rfl rfl 0 (by decide) (hts _ (List.mem_cons_of_mem _ wd_93)) (fun _ h9 => h9) rfl dQ_insert_30 ?_
          refine lv_iload_n hx hb dQ_insert_33 rfl (lv_at hl 0 rfl) ?_
          refine lv_aload_n hx hb dQ_insert_34 rfl (lv_at hl 1 rfl) ?_
          refine va_get (D := (dC, dI)) (ci := 0) (v := .ref (ad 7)) (C := R_Q) (T := T_Q) (N := 3) hx hb hts uw_Q hown hK hP 5 rfl rfl 0 (by decide) (hts _ (List.mem_cons_of_mem _ wd_93)) (fun _ h9 => h9) rfl dQ_insert_35 ?_
          refine lv_iload_n hx hb dQ_insert_38 rfl (lv_at hl 0 rfl) ?_
          refine lv_iconst (v := 1) hx hb dQ_insert_39 (by decide) ?_
          refine lv_isub hx hb dQ_insert_40 ?_
          refine lv_topi (fun z9 e9 => ?_)
          obtain rfl : z9 = 0 := e9.trans (by decide)
          refine va_iald hx hb hK hP 7 4 rfl rfl (kk_inl (by decide)) dQ_insert_41 ?_
          rw [kk_c0]
          refine va_iast hx hb hK hP (kx_D hj) hS 7 4 rfl rfl (kk_inl (by decide)) dQ_insert_42 (fun H locs hP _ hS => ?_)
          rw [kk_c1] at hP
          replace hP := kx_u_a5 hP
          replace hw := kx_wf_I (f := 5) (i := 1) (v := kI s1 5 0) hw (by decide)
          refine lv_aload_n hx hb dQ_insert_43 rfl (lv_at hl 1 rfl) ?_
          refine va_get (D := (dC, dI)) (ci := 0) (v := .ref (ad 9)) (C := R_Q) (T := T_Q) (N := 3) hx hb hts uw_Q hown hK hP 5 rfl rfl 1 (by decide) (hts _ (List.mem_cons_of_mem _ wd_94)) (fun _ h9 => h9) rfl dQ_insert_44 ?_
          refine lv_iload_n hx hb dQ_insert_47 rfl (lv_at hl 0 rfl) ?_
          refine lv_aload_n hx hb dQ_insert_48 rfl (lv_at hl 1 rfl) ?_
          refine va_get (D := (dC, dI)) (ci := 0) (v := .ref (ad 9)) (C := R_Q) (T := T_Q) (N := 3) hx hb hts uw_Q hown hK hP 5 rfl rfl 1 (by decide) (hts _ (List.mem_cons_of_mem _ wd_94)) (fun _ h9 => h9) rfl dQ_insert_49 ?_
          refine lv_iload_n hx hb dQ_insert_52 rfl (lv_at hl 0 rfl) ?_
          refine lv_iconst (v := 1) hx hb dQ_insert_53 (by decide) ?_
          refine lv_isub hx hb dQ_insert_54 ?_
          refine lv_topi (fun z9 e9 => ?_)
          obtain rfl : z9 = 0 := e9.trans (by decide)
          refine va_iald hx hb hK hP 9 6 rfl rfl (kk_inl (by decide)) dQ_insert_55 ?_
          rw [kk_c0]
          refine va_iast hx hb hK hP (kx_D hj) hS 9 6 rfl rfl (kk_inl (by decide)) dQ_insert_56 (fun H locs hP _ hS => ?_)
          rw [kk_c1] at hP
          replace hP := kx_u_a7 hP
          replace hw := kx_wf_I (f := 7) (i := 1) (v := kI (sI s1 5 1 (kI s1 5 0)) 7 0) hw (by decide)
          refine lv_iinc (v := 0) (lv' := [(3, .int 0), (0, .ref (ad 5)), (1, .int rank), (2, .int value)]) hx hb dQ_insert_57 hl (k := 0) rfl (by decide) (by decide) rfl (fun ls hl => ?_)
          refine lv_goto (tgt := 13) hx hb dQ_insert_60 (by decide) ?_
          refine lv_iload_n hx hb dQ_insert_13 rfl (lv_at hl 0 rfl) ?_
          refine lv_if_le (tgt := 63) hx hb dQ_insert_14 (by decide) (fun _ => ?_) (fun c9 => absurd (by decide) c9)
          refine lv_aload_n hx hb dQ_insert_63 rfl (lv_at hl 1 rfl) ?_
          refine va_get (D := (dC, dI)) (ci := 0) (v := .ref (ad 7)) (C := R_Q) (T := T_Q) (N := 3) hx hb hts uw_Q hown hK hP 5 rfl rfl 0 (by decide) (hts _ (List.mem_cons_of_mem _ wd_93)) (fun _ h9 => h9) rfl dQ_insert_64 ?_
          refine lv_iload_n hx hb dQ_insert_67 rfl (lv_at hl 0 rfl) ?_
          refine lv_iload_n hx hb dQ_insert_68 rfl (lv_at hl 2 rfl) ?_
          refine va_iast hx hb hK hP (kx_D hj) hS 7 4 rfl rfl (kk_inl (by decide)) dQ_insert_69 (fun H locs hP _ hS => ?_)
          rw [kk_c0] at hP
          replace hP := kx_u_a5 hP
          replace hw := kx_wf_I (f := 5) (i := 0) (v := rank) hw (by decide)
          refine lv_aload_n hx hb dQ_insert_70 rfl (lv_at hl 1 rfl) ?_
          refine va_get (D := (dC, dI)) (ci := 0) (v := .ref (ad 9)) (C := R_Q) (T := T_Q) (N := 3) hx hb hts uw_Q hown hK hP 5 rfl rfl 1 (by decide) (hts _ (List.mem_cons_of_mem _ wd_94)) (fun _ h9 => h9) rfl dQ_insert_71 ?_
          refine lv_iload_n hx hb dQ_insert_74 rfl (lv_at hl 0 rfl) ?_
          refine lv_iload_n hx hb dQ_insert_75 rfl (lv_at hl 3 rfl) ?_
          refine va_iast hx hb hK hP (kx_D hj) hS 9 6 rfl rfl (kk_inl (by decide)) dQ_insert_76 (fun H locs hP _ hS => ?_)
          rw [kk_c0] at hP
          replace hP := kx_u_a7 hP
          replace hw := kx_wf_I (f := 7) (i := 0) (v := value) hw (by decide)
          refine lv_aload_n hx hb dQ_insert_77 rfl (lv_at hl 1 rfl) ?_
          refine lv_dup hx hb dQ_insert_78 rfl ?_
          refine va_get (D := (dC, dI)) (ci := 0) (v := .int (kI (sI (sI (sI (sI s1 5 1 (kI s1 5 0)) 7 1 (kI (sI s1 5 1 (kI s1 5 0)) 7 0)) 5 0 rank) 7 0 value) 9 0)) (C := R_Q) (T := T_Q) (N := 3) hx hb hts uw_Q hown hK hP 5 rfl rfl 2 (by decide) (hts _ (List.mem_cons_of_mem _ wd_95)) (fun _ h9 => h9) rfl dQ_insert_79 ?_
          refine lv_iconst (v := 1) hx hb dQ_insert_82 (by decide) ?_
          refine lv_iadd hx hb dQ_insert_83 ?_
          refine va_put (D := (dC, dI)) (ci := 0) (v := .int ((kI (sI (sI (sI (sI s1 5 1 (kI s1 5 0)) 7 1 (kI (sI s1 5 1 (kI s1 5 0)) 7 0)) 5 0 rank) 7 0 value) 9 0) + 1)) (ty := .int) (C := R_Q) (T := T_Q) (N := 3) hx hb hts uw_Q ty_Q ty_Q_ok nm_Q hown hK hP (kx_D hj) hS 5 rfl rfl 2 (by decide) (hts _ (List.mem_cons_of_mem _ wd_95)) (fun _ h9 => h9) rfl (by decide +kernel) rfl rfl (Nat.le_of_ble_eq_true rfl) dQ_insert_84 (fun H locs hP _ hS => ?_)
          replace hP := kx_u_size0 hP
          replace hw : kx_wf (sI (sI (sI (sI (sI s1 5 1 (kI s1 5 0)) 7 1 (kI (sI s1 5 1 (kI s1 5 0)) 7 0)) 5 0 rank) 7 0 value) 9 0 ((kI (sI (sI (sI (sI s1 5 1 (kI s1 5 0)) 7 1 (kI (sI s1 5 1 (kI s1 5 0)) 7 0)) 5 0 rank) 7 0 value) 9 0) + 1)) := kx_wf_q (q := 0) (v := kI (sI (sI (sI (sI s1 5 1 (kI s1 5 0)) 7 1 (kI (sI s1 5 1 (kI s1 5 0)) 7 0)) 5 0 rank) 7 0 value) 9 0 + 1) hw ⟨2, by decide, by rw [show kI (sI (sI (sI (sI s1 5 1 (kI s1 5 0)) 7 1 (kI (sI s1 5 1 (kI s1 5 0)) 7 0)) 5 0 rank) 7 0 value) 9 0 = kI s1 9 0 from rfl, z_1]; decide⟩
          exact kk_vret hx hb hr hlocks hP hK hS ⟨hf.symm, hw⟩ dQ_insert_87
      · rw [if_neg z_1] at hf
        rcases Classical.em ((kI s1 9 0) = 2) with z_2 | z_2
        · rw [if_pos z_2] at hf
          refine lv_aload_n hx hb dQ_insert_8 rfl (lv_at hl 0 rfl) ?_
          refine va_get (D := (dC, dI)) (ci := 0) (v := .int (kI s1 9 0)) (C := R_Q) (T := T_Q) (N := 3) hx hb hts uw_Q hown hK hP 5 rfl rfl 2 (by decide) (hts _ (List.mem_cons_of_mem _ wd_95)) (fun _ h9 => h9) rfl dQ_insert_9 ?_
          rw [show kI s1 9 0 = 2 from (show (kI s1 9 0) = _ from rfl).trans (by rw [z_2])]
          refine lv_istore_n (lv' := [(3, .int 2), (0, .ref (ad 5)), (1, .int rank), (2, .int value)]) hx hb dQ_insert_12 rfl hl (by decide) rfl (fun ls hl => ?_)
          refine lv_iload_n hx hb dQ_insert_13 rfl (lv_at hl 0 rfl) ?_
          refine lv_if_le (tgt := 63) hx hb dQ_insert_14 (by decide) (fun c9 => absurd c9 (by decide)) (fun _ => ?_)
          refine lv_aload_n hx hb dQ_insert_17 rfl (lv_at hl 1 rfl) ?_
          refine va_get (D := (dC, dI)) (ci := 0) (v := .ref (ad 7)) (C := R_Q) (T := T_Q) (N := 3) hx hb hts uw_Q hown hK hP 5 rfl rfl 0 (by decide) (hts _ (List.mem_cons_of_mem _ wd_93)) (fun _ h9 => h9) rfl dQ_insert_18 ?_
          refine lv_iload_n hx hb dQ_insert_21 rfl (lv_at hl 0 rfl) ?_
          refine lv_iconst (v := 1) hx hb dQ_insert_22 (by decide) ?_
          refine lv_isub hx hb dQ_insert_23 ?_
          refine lv_topi (fun z9 e9 => ?_)
          obtain rfl : z9 = 1 := e9.trans (by decide)
          refine va_iald hx hb hK hP 7 4 rfl rfl (kk_inl (by decide)) dQ_insert_24 ?_
          rw [kk_c1]
          refine lv_iload_n hx hb dQ_insert_25 rfl (lv_at hl 2 rfl) ?_
          refine lv_icmp_ge (tgt := 63) hx hb dQ_insert_26 (by decide) (fun c_26 => ?_) (fun c_26 => ?_)
          · rw [if_pos c_26] at hf
            refine lv_aload_n hx hb dQ_insert_63 rfl (lv_at hl 1 rfl) ?_
            refine va_get (D := (dC, dI)) (ci := 0) (v := .ref (ad 7)) (C := R_Q) (T := T_Q) (N := 3) hx hb hts uw_Q hown hK hP 5 rfl rfl 0 (by decide) (hts _ (List.mem_cons_of_mem _ wd_93)) (fun _ h9 => h9) rfl dQ_insert_64 ?_
            refine lv_iload_n hx hb dQ_insert_67 rfl (lv_at hl 0 rfl) ?_
            refine lv_iload_n hx hb dQ_insert_68 rfl (lv_at hl 2 rfl) ?_
            refine va_iast hx hb hK hP (kx_D hj) hS 7 4 rfl rfl (kk_inl (by decide)) dQ_insert_69 (fun H locs hP _ hS => ?_)
            rw [kk_c2] at hP
            replace hP := kx_u_a5 hP
            replace hw := kx_wf_I (f := 5) (i := 2) (v := rank) hw (by decide)
            refine lv_aload_n hx hb dQ_insert_70 rfl (lv_at hl 1 rfl) ?_
            refine va_get (D := (dC, dI)) (ci := 0) (v := .ref (ad 9)) (C := R_Q) (T := T_Q) (N := 3) hx hb hts uw_Q hown hK hP 5 rfl rfl 1 (by decide) (hts _ (List.mem_cons_of_mem _ wd_94)) (fun _ h9 => h9) rfl dQ_insert_71 ?_
            refine lv_iload_n hx hb dQ_insert_74 rfl (lv_at hl 0 rfl) ?_
            refine lv_iload_n hx hb dQ_insert_75 rfl (lv_at hl 3 rfl) ?_
            refine va_iast hx hb hK hP (kx_D hj) hS 9 6 rfl rfl (kk_inl (by decide)) dQ_insert_76 (fun H locs hP _ hS => ?_)
            rw [kk_c2] at hP
            replace hP := kx_u_a7 hP
            replace hw := kx_wf_I (f := 7) (i := 2) (v := value) hw (by decide)
            refine lv_aload_n hx hb dQ_insert_77 rfl (lv_at hl 1 rfl) ?_
            refine lv_dup hx hb dQ_insert_78 rfl ?_
            refine va_get (D := (dC, dI)) (ci := 0) (v := .int (kI (sI (sI s1 5 2 rank) 7 2 value) 9 0)) (C := R_Q) (T := T_Q) (N := 3) hx hb hts uw_Q hown hK hP 5 rfl rfl 2 (by decide) (hts _ (List.mem_cons_of_mem _ wd_95)) (fun _ h9 => h9) rfl dQ_insert_79 ?_
            refine lv_iconst (v := 1) hx hb dQ_insert_82 (by decide) ?_
            refine lv_iadd hx hb dQ_insert_83 ?_
            refine va_put (D := (dC, dI)) (ci := 0) (v := .int ((kI (sI (sI s1 5 2 rank) 7 2 value) 9 0) + 1)) (ty := .int) (C := R_Q) (T := T_Q) (N := 3) hx hb hts uw_Q ty_Q ty_Q_ok nm_Q hown hK hP (kx_D hj) hS 5 rfl rfl 2 (by decide) (hts _ (List.mem_cons_of_mem _ wd_95)) (fun _ h9 => h9) rfl (by decide +kernel) rfl rfl (Nat.le_of_ble_eq_true rfl) dQ_insert_84 (fun H locs hP _ hS => ?_)
            replace hP := kx_u_size0 hP
            replace hw : kx_wf (sI (sI (sI s1 5 2 rank) 7 2 value) 9 0 ((kI (sI (sI s1 5 2 rank) 7 2 value) 9 0) + 1)) := kx_wf_q (q := 0) (v := kI (sI (sI s1 5 2 rank) 7 2 value) 9 0 + 1) hw ⟨3, by decide, by rw [show kI (sI (sI s1 5 2 rank) 7 2 value) 9 0 = kI s1 9 0 from rfl, z_2]; decide⟩
            exact kk_vret hx hb hr hlocks hP hK hS ⟨hf.symm, hw⟩ dQ_insert_87
          · rw [if_neg c_26] at hf
            refine lv_aload_n hx hb dQ_insert_29 rfl (lv_at hl 1 rfl) ?_
            refine va_get (D := (dC, dI)) (ci := 0) (v := .ref (ad 7)) (C := R_Q) (T := T_Q) (N := 3) hx hb hts uw_Q hown hK hP 5 rfl rfl 0 (by decide) (hts _ (List.mem_cons_of_mem _ wd_93)) (fun _ h9 => h9) rfl dQ_insert_30 ?_
            refine lv_iload_n hx hb dQ_insert_33 rfl (lv_at hl 0 rfl) ?_
            refine lv_aload_n hx hb dQ_insert_34 rfl (lv_at hl 1 rfl) ?_
            refine va_get (D := (dC, dI)) (ci := 0) (v := .ref (ad 7)) (C := R_Q) (T := T_Q) (N := 3) hx hb hts uw_Q hown hK hP 5 rfl rfl 0 (by decide) (hts _ (List.mem_cons_of_mem _ wd_93)) (fun _ h9 => h9) rfl dQ_insert_35 ?_
            refine lv_iload_n hx hb dQ_insert_38 rfl (lv_at hl 0 rfl) ?_
            refine lv_iconst (v := 1) hx hb dQ_insert_39 (by decide) ?_
            refine lv_isub hx hb dQ_insert_40 ?_
            refine lv_topi (fun z9 e9 => ?_)
            obtain rfl : z9 = 1 := e9.trans (by decide)
            refine va_iald hx hb hK hP 7 4 rfl rfl (kk_inl (by decide)) dQ_insert_41 ?_
            rw [kk_c1]
            refine va_iast hx hb hK hP (kx_D hj) hS 7 4 rfl rfl (kk_inl (by decide)) dQ_insert_42 (fun H locs hP _ hS => ?_)
            rw [kk_c2] at hP
            replace hP := kx_u_a5 hP
            replace hw := kx_wf_I (f := 5) (i := 2) (v := kI s1 5 1) hw (by decide)
            refine lv_aload_n hx hb dQ_insert_43 rfl (lv_at hl 1 rfl) ?_
            refine va_get (D := (dC, dI)) (ci := 0) (v := .ref (ad 9)) (C := R_Q) (T := T_Q) (N := 3) hx hb hts uw_Q hown hK hP 5 rfl rfl 1 (by decide) (hts _ (List.mem_cons_of_mem _ wd_94)) (fun _ h9 => h9) rfl dQ_insert_44 ?_
            refine lv_iload_n hx hb dQ_insert_47 rfl (lv_at hl 0 rfl) ?_
            refine lv_aload_n hx hb dQ_insert_48 rfl (lv_at hl 1 rfl) ?_
            refine va_get (D := (dC, dI)) (ci := 0) (v := .ref (ad 9)) (C := R_Q) (T := T_Q) (N := 3) hx hb hts uw_Q hown hK hP 5 rfl rfl 1 (by decide) (hts _ (List.mem_cons_of_mem _ wd_94)) (fun _ h9 => h9) rfl dQ_insert_49 ?_
            refine lv_iload_n hx hb dQ_insert_52 rfl (lv_at hl 0 rfl) ?_
            refine lv_iconst (v := 1) hx hb dQ_insert_53 (by decide) ?_
            refine lv_isub hx hb dQ_insert_54 ?_
            refine lv_topi (fun z9 e9 => ?_)
            obtain rfl : z9 = 1 := e9.trans (by decide)
            refine va_iald hx hb hK hP 9 6 rfl rfl (kk_inl (by decide)) dQ_insert_55 ?_
            rw [kk_c1]
            refine va_iast hx hb hK hP (kx_D hj) hS 9 6 rfl rfl (kk_inl (by decide)) dQ_insert_56 (fun H locs hP _ hS => ?_)
            rw [kk_c2] at hP
            replace hP := kx_u_a7 hP
            replace hw := kx_wf_I (f := 7) (i := 2) (v := kI (sI s1 5 2 (kI s1 5 1)) 7 1) hw (by decide)
            refine lv_iinc (v := 1) (lv' := [(3, .int 1), (0, .ref (ad 5)), (1, .int rank), (2, .int value)]) hx hb dQ_insert_57 hl (k := 0) rfl (by decide) (by decide) rfl (fun ls hl => ?_)
            refine lv_goto (tgt := 13) hx hb dQ_insert_60 (by decide) ?_
            refine lv_iload_n hx hb dQ_insert_13 rfl (lv_at hl 0 rfl) ?_
            refine lv_if_le (tgt := 63) hx hb dQ_insert_14 (by decide) (fun c9 => absurd c9 (by decide)) (fun _ => ?_)
            refine lv_aload_n hx hb dQ_insert_17 rfl (lv_at hl 1 rfl) ?_
            refine va_get (D := (dC, dI)) (ci := 0) (v := .ref (ad 7)) (C := R_Q) (T := T_Q) (N := 3) hx hb hts uw_Q hown hK hP 5 rfl rfl 0 (by decide) (hts _ (List.mem_cons_of_mem _ wd_93)) (fun _ h9 => h9) rfl dQ_insert_18 ?_
            refine lv_iload_n hx hb dQ_insert_21 rfl (lv_at hl 0 rfl) ?_
            refine lv_iconst (v := 1) hx hb dQ_insert_22 (by decide) ?_
            refine lv_isub hx hb dQ_insert_23 ?_
            refine lv_topi (fun z9 e9 => ?_)
            obtain rfl : z9 = 0 := e9.trans (by decide)
            refine va_iald hx hb hK hP 7 4 rfl rfl (kk_inl (by decide)) dQ_insert_24 ?_
            rw [kk_c0]
            refine lv_iload_n hx hb dQ_insert_25 rfl (lv_at hl 2 rfl) ?_
            refine lv_icmp_ge (tgt := 63) hx hb dQ_insert_26 (by decide) (fun c_26 => ?_) (fun c_26 => ?_)
            · rw [if_pos c_26] at hf
              refine lv_aload_n hx hb dQ_insert_63 rfl (lv_at hl 1 rfl) ?_
              refine va_get (D := (dC, dI)) (ci := 0) (v := .ref (ad 7)) (C := R_Q) (T := T_Q) (N := 3) hx hb hts uw_Q hown hK hP 5 rfl rfl 0 (by decide) (hts _ (List.mem_cons_of_mem _ wd_93)) (fun _ h9 => h9) rfl dQ_insert_64 ?_
              refine lv_iload_n hx hb dQ_insert_67 rfl (lv_at hl 0 rfl) ?_
              refine lv_iload_n hx hb dQ_insert_68 rfl (lv_at hl 2 rfl) ?_
              refine va_iast hx hb hK hP (kx_D hj) hS 7 4 rfl rfl (kk_inl (by decide)) dQ_insert_69 (fun H locs hP _ hS => ?_)
              rw [kk_c1] at hP
              replace hP := kx_u_a5 hP
              replace hw := kx_wf_I (f := 5) (i := 1) (v := rank) hw (by decide)
              refine lv_aload_n hx hb dQ_insert_70 rfl (lv_at hl 1 rfl) ?_
              refine va_get (D := (dC, dI)) (ci := 0) (v := .ref (ad 9)) (C := R_Q) (T := T_Q) (N := 3) hx hb hts uw_Q hown hK hP 5 rfl rfl 1 (by decide) (hts _ (List.mem_cons_of_mem _ wd_94)) (fun _ h9 => h9) rfl dQ_insert_71 ?_
              refine lv_iload_n hx hb dQ_insert_74 rfl (lv_at hl 0 rfl) ?_
              refine lv_iload_n hx hb dQ_insert_75 rfl (lv_at hl 3 rfl) ?_
              refine va_iast hx hb hK hP (kx_D hj) hS 9 6 rfl rfl (kk_inl (by decide)) dQ_insert_76 (fun H locs hP _ hS => ?_)
              rw [kk_c1] at hP
              replace hP := kx_u_a7 hP
              replace hw := kx_wf_I (f := 7) (i := 1) (v := value) hw (by decide)
              refine lv_aload_n hx hb dQ_insert_77 rfl (lv_at hl 1 rfl) ?_
              refine lv_dup hx hb dQ_insert_78 rfl ?_
              refine va_get (D := (dC, dI)) (ci := 0) (v := .int (kI (sI (sI (sI (sI s1 5 2 (kI s1 5 1)) 7 2 (kI (sI s1 5 2 (kI s1 5 1)) 7 1)) 5 1 rank) 7 1 value) 9 0)) (C := R_Q) (T := T_Q) (N := 3) hx hb hts uw_Q hown hK hP 5 rfl rfl 2 (by decide) (hts _ (List.mem_cons_of_mem _ wd_95)) (fun _ h9 => h9) rfl dQ_insert_79 ?_
              refine lv_iconst (v := 1) hx hb dQ_insert_82 (by decide) ?_
              refine lv_iadd hx hb dQ_insert_83 ?_
              refine va_put (D := (dC, dI)) (ci := 0) (v := .int ((kI (sI (sI (sI (sI s1 5 2 (kI s1 5 1)) 7 2 (kI (sI s1 5 2 (kI s1 5 1)) 7 1)) 5 1 rank) 7 1 value) 9 0) + 1)) (ty := .int) (C := R_Q) (T := T_Q) (N := 3) hx hb hts uw_Q ty_Q ty_Q_ok nm_Q hown hK hP (kx_D hj) hS 5 rfl rfl 2 (by decide) (hts _ (List.mem_cons_of_mem _ wd_95)) (fun _ h9 => h9) rfl (by decide +kernel) rfl rfl (Nat.le_of_ble_eq_true rfl) dQ_insert_84 (fun H locs hP _ hS => ?_)
              replace hP := kx_u_size0 hP
              replace hw : kx_wf (sI (sI (sI (sI (sI s1 5 2 (kI s1 5 1)) 7 2 (kI (sI s1 5 2 (kI s1 5 1)) 7 1)) 5 1 rank) 7 1 value) 9 0 ((kI (sI (sI (sI (sI s1 5 2 (kI s1 5 1)) 7 2 (kI (sI s1 5 2 (kI s1 5 1)) 7 1)) 5 1 rank) 7 1 value) 9 0) + 1)) := kx_wf_q (q := 0) (v := kI (sI (sI (sI (sI s1 5 2 (kI s1 5 1)) 7 2 (kI (sI s1 5 2 (kI s1 5 1)) 7 1)) 5 1 rank) 7 1 value) 9 0 + 1) hw ⟨3, by decide, by rw [show kI (sI (sI (sI (sI s1 5 2 (kI s1 5 1)) 7 2 (kI (sI s1 5 2 (kI s1 5 1)) 7 1)) 5 1 rank) 7 1 value) 9 0 = kI s1 9 0 from rfl, z_2]; decide⟩
              exact kk_vret hx hb hr hlocks hP hK hS ⟨hf.symm, hw⟩ dQ_insert_87
            · rw [if_neg c_26] at hf
              refine lv_aload_n hx hb dQ_insert_29 rfl (lv_at hl 1 rfl) ?_
              refine va_get (D := (dC, dI)) (ci := 0) (v := .ref (ad 7)) (C := R_Q) (T := T_Q) (N := 3) hx hb hts uw_Q hown hK hP 5 rfl rfl 0 (by decide) (hts _ (List.mem_cons_of_mem _ wd_93)) (fun _ h9 => h9) rfl dQ_insert_30 ?_
              refine lv_iload_n hx hb dQ_insert_33 rfl (lv_at hl 0 rfl) ?_
              refine lv_aload_n hx hb dQ_insert_34 rfl (lv_at hl 1 rfl) ?_
              refine va_get (D := (dC, dI)) (ci := 0) (v := .ref (ad 7)) (C := R_Q) (T := T_Q) (N := 3) hx hb hts uw_Q hown hK hP 5 rfl rfl 0 (by decide) (hts _ (List.mem_cons_of_mem _ wd_93)) (fun _ h9 => h9) rfl dQ_insert_35 ?_
              refine lv_iload_n hx hb dQ_insert_38 rfl (lv_at hl 0 rfl) ?_
              refine lv_iconst (v := 1) hx hb dQ_insert_39 (by decide) ?_
              refine lv_isub hx hb dQ_insert_40 ?_
              refine lv_topi (fun z9 e9 => ?_)
              obtain rfl : z9 = 0 := e9.trans (by decide)
              refine va_iald hx hb hK hP 7 4 rfl rfl (kk_inl (by decide)) dQ_insert_41 ?_
              rw [kk_c0]
              refine va_iast hx hb hK hP (kx_D hj) hS 7 4 rfl rfl (kk_inl (by decide)) dQ_insert_42 (fun H locs hP _ hS => ?_)
              rw [kk_c1] at hP
              replace hP := kx_u_a5 hP
              replace hw := kx_wf_I (f := 5) (i := 1) (v := kI (sI (sI s1 5 2 (kI s1 5 1)) 7 2 (kI (sI s1 5 2 (kI s1 5 1)) 7 1)) 5 0) hw (by decide)
              refine lv_aload_n hx hb dQ_insert_43 rfl (lv_at hl 1 rfl) ?_
              refine va_get (D := (dC, dI)) (ci := 0) (v := .ref (ad 9)) (C := R_Q) (T := T_Q) (N := 3) hx hb hts uw_Q hown hK hP 5 rfl rfl 1 (by decide) (hts _ (List.mem_cons_of_mem _ wd_94)) (fun _ h9 => h9) rfl dQ_insert_44 ?_
              refine lv_iload_n hx hb dQ_insert_47 rfl (lv_at hl 0 rfl) ?_
              refine lv_aload_n hx hb dQ_insert_48 rfl (lv_at hl 1 rfl) ?_
              refine va_get (D := (dC, dI)) (ci := 0) (v := .ref (ad 9)) (C := R_Q) (T := T_Q) (N := 3) hx hb hts uw_Q hown hK hP 5 rfl rfl 1 (by decide) (hts _ (List.mem_cons_of_mem _ wd_94)) (fun _ h9 => h9) rfl dQ_insert_49 ?_
              refine lv_iload_n hx hb dQ_insert_52 rfl (lv_at hl 0 rfl) ?_
              refine lv_iconst (v := 1) hx hb dQ_insert_53 (by decide) ?_
              refine lv_isub hx hb dQ_insert_54 ?_
              refine lv_topi (fun z9 e9 => ?_)
              obtain rfl : z9 = 0 := e9.trans (by decide)
              refine va_iald hx hb hK hP 9 6 rfl rfl (kk_inl (by decide)) dQ_insert_55 ?_
              rw [kk_c0]
              refine va_iast hx hb hK hP (kx_D hj) hS 9 6 rfl rfl (kk_inl (by decide)) dQ_insert_56 (fun H locs hP _ hS => ?_)
              rw [kk_c1] at hP
              replace hP := kx_u_a7 hP
              replace hw := kx_wf_I (f := 7) (i := 1) (v := kI (sI (sI (sI s1 5 2 (kI s1 5 1)) 7 2 (kI (sI s1 5 2 (kI s1 5 1)) 7 1)) 5 1 (kI (sI (sI s1 5 2 (kI s1 5 1)) 7 2 (kI (sI s1 5 2 (kI s1 5 1)) 7 1)) 5 0)) 7 0) hw (by decide)
              refine lv_iinc (v := 0) (lv' := [(3, .int 0), (0, .ref (ad 5)), (1, .int rank), (2, .int value)]) hx hb dQ_insert_57 hl (k := 0) rfl (by decide) (by decide) rfl (fun ls hl => ?_)
              refine lv_goto (tgt := 13) hx hb dQ_insert_60 (by decide) ?_
              refine lv_iload_n hx hb dQ_insert_13 rfl (lv_at hl 0 rfl) ?_
              refine lv_if_le (tgt := 63) hx hb dQ_insert_14 (by decide) (fun _ => ?_) (fun c9 => absurd (by decide) c9)
              refine lv_aload_n hx hb dQ_insert_63 rfl (lv_at hl 1 rfl) ?_
              refine va_get (D := (dC, dI)) (ci := 0) (v := .ref (ad 7)) (C := R_Q) (T := T_Q) (N := 3) hx hb hts uw_Q hown hK hP 5 rfl rfl 0 (by decide) (hts _ (List.mem_cons_of_mem _ wd_93)) (fun _ h9 => h9) rfl dQ_insert_64 ?_
              refine lv_iload_n hx hb dQ_insert_67 rfl (lv_at hl 0 rfl) ?_
              refine lv_iload_n hx hb dQ_insert_68 rfl (lv_at hl 2 rfl) ?_
              refine va_iast hx hb hK hP (kx_D hj) hS 7 4 rfl rfl (kk_inl (by decide)) dQ_insert_69 (fun H locs hP _ hS => ?_)
              rw [kk_c0] at hP
              replace hP := kx_u_a5 hP
              replace hw := kx_wf_I (f := 5) (i := 0) (v := rank) hw (by decide)
              refine lv_aload_n hx hb dQ_insert_70 rfl (lv_at hl 1 rfl) ?_
              refine va_get (D := (dC, dI)) (ci := 0) (v := .ref (ad 9)) (C := R_Q) (T := T_Q) (N := 3) hx hb hts uw_Q hown hK hP 5 rfl rfl 1 (by decide) (hts _ (List.mem_cons_of_mem _ wd_94)) (fun _ h9 => h9) rfl dQ_insert_71 ?_
              refine lv_iload_n hx hb dQ_insert_74 rfl (lv_at hl 0 rfl) ?_
              refine lv_iload_n hx hb dQ_insert_75 rfl (lv_at hl 3 rfl) ?_
              refine va_iast hx hb hK hP (kx_D hj) hS 9 6 rfl rfl (kk_inl (by decide)) dQ_insert_76 (fun H locs hP _ hS => ?_)
              rw [kk_c0] at hP
              replace hP := kx_u_a7 hP
              replace hw := kx_wf_I (f := 7) (i := 0) (v := value) hw (by decide)
              refine lv_aload_n hx hb dQ_insert_77 rfl (lv_at hl 1 rfl) ?_
              refine lv_dup hx hb dQ_insert_78 rfl ?_
              refine va_get (D := (dC, dI)) (ci := 0) (v := .int (kI (sI (sI (sI (sI (sI (sI s1 5 2 (kI s1 5 1)) 7 2 (kI (sI s1 5 2 (kI s1 5 1)) 7 1)) 5 1 (kI (sI (sI s1 5 2 (kI s1 5 1)) 7 2 (kI (sI s1 5 2 (kI s1 5 1)) 7 1)) 5 0)) 7 1 (kI (sI (sI (sI s1 5 2 (kI s1 5 1)) 7 2 (kI (sI s1 5 2 (kI s1 5 1)) 7 1)) 5 1 (kI (sI (sI s1 5 2 (kI s1 5 1)) 7 2 (kI (sI s1 5 2 (kI s1 5 1)) 7 1)) 5 0)) 7 0)) 5 0 rank) 7 0 value) 9 0)) (C := R_Q) (T := T_Q) (N := 3) hx hb hts uw_Q hown hK hP 5 rfl rfl 2 (by decide) (hts _ (List.mem_cons_of_mem _ wd_95)) (fun _ h9 => h9) rfl dQ_insert_79 ?_
              refine lv_iconst (v := 1) hx hb dQ_insert_82 (by decide) ?_
              refine lv_iadd hx hb dQ_insert_83 ?_
              refine va_put (D := (dC, dI)) (ci := 0) (v := .int ((kI (sI (sI (sI (sI (sI (sI s1 5 2 (kI s1 5 1)) 7 2 (kI (sI s1 5 2 (kI s1 5 1)) 7 1)) 5 1 (kI (sI (sI s1 5 2 (kI s1 5 1)) 7 2 (kI (sI s1 5 2 (kI s1 5 1)) 7 1)) 5 0)) 7 1 (kI (sI (sI (sI s1 5 2 (kI s1 5 1)) 7 2 (kI (sI s1 5 2 (kI s1 5 1)) 7 1)) 5 1 (kI (sI (sI s1 5 2 (kI s1 5 1)) 7 2 (kI (sI s1 5 2 (kI s1 5 1)) 7 1)) 5 0)) 7 0)) 5 0 rank) 7 0 value) 9 0) + 1)) (ty := .int) (C := R_Q) (T := T_Q) (N := 3) hx hb hts uw_Q ty_Q ty_Q_ok nm_Q hown hK hP (kx_D hj) hS 5 rfl rfl 2 (by decide) (hts _ (List.mem_cons_of_mem _ wd_95)) (fun _ h9 => h9) rfl (by decide +kernel) rfl rfl (Nat.le_of_ble_eq_true rfl) dQ_insert_84 (fun H locs hP _ hS => ?_)
              replace hP := kx_u_size0 hP
              replace hw : kx_wf (sI (sI (sI (sI (sI (sI (sI s1 5 2 (kI s1 5 1)) 7 2 (kI (sI s1 5 2 (kI s1 5 1)) 7 1)) 5 1 (kI (sI (sI s1 5 2 (kI s1 5 1)) 7 2 (kI (sI s1 5 2 (kI s1 5 1)) 7 1)) 5 0)) 7 1 (kI (sI (sI (sI s1 5 2 (kI s1 5 1)) 7 2 (kI (sI s1 5 2 (kI s1 5 1)) 7 1)) 5 1 (kI (sI (sI s1 5 2 (kI s1 5 1)) 7 2 (kI (sI s1 5 2 (kI s1 5 1)) 7 1)) 5 0)) 7 0)) 5 0 rank) 7 0 value) 9 0 ((kI (sI (sI (sI (sI (sI (sI s1 5 2 (kI s1 5 1)) 7 2 (kI (sI s1 5 2 (kI s1 5 1)) 7 1)) 5 1 (kI (sI (sI s1 5 2 (kI s1 5 1)) 7 2 (kI (sI s1 5 2 (kI s1 5 1)) 7 1)) 5 0)) 7 1 (kI (sI (sI (sI s1 5 2 (kI s1 5 1)) 7 2 (kI (sI s1 5 2 (kI s1 5 1)) 7 1)) 5 1 (kI (sI (sI s1 5 2 (kI s1 5 1)) 7 2 (kI (sI s1 5 2 (kI s1 5 1)) 7 1)) 5 0)) 7 0)) 5 0 rank) 7 0 value) 9 0) + 1)) := kx_wf_q (q := 0) (v := kI (sI (sI (sI (sI (sI (sI s1 5 2 (kI s1 5 1)) 7 2 (kI (sI s1 5 2 (kI s1 5 1)) 7 1)) 5 1 (kI (sI (sI s1 5 2 (kI s1 5 1)) 7 2 (kI (sI s1 5 2 (kI s1 5 1)) 7 1)) 5 0)) 7 1 (kI (sI (sI (sI s1 5 2 (kI s1 5 1)) 7 2 (kI (sI s1 5 2 (kI s1 5 1)) 7 1)) 5 1 (kI (sI (sI s1 5 2 (kI s1 5 1)) 7 2 (kI (sI s1 5 2 (kI s1 5 1)) 7 1)) 5 0)) 7 0)) 5 0 rank) 7 0 value) 9 0 + 1) hw ⟨3, by decide, by rw [show kI (sI (sI (sI (sI (sI (sI s1 5 2 (kI s1 5 1)) 7 2 (kI (sI s1 5 2 (kI s1 5 1)) 7 1)) 5 1 (kI (sI (sI s1 5 2 (kI s1 5 1)) 7 2 (kI (sI s1 5 2 (kI s1 5 1)) 7 1)) 5 0)) 7 1 (kI (sI (sI (sI s1 5 2 (kI s1 5 1)) 7 2 (kI (sI s1 5 2 (kI s1 5 1)) 7 1)) 5 1 (kI (sI (sI s1 5 2 (kI s1 5 1)) 7 2 (kI (sI s1 5 2 (kI s1 5 1)) 7 1)) 5 0)) 7 0)) 5 0 rank) 7 0 value) 9 0 = kI s1 9 0 from rfl, z_2]; decide⟩
              exact kk_vret hx hb hr hlocks hP hK hS ⟨hf.symm, hw⟩ dQ_insert_87
        · rw [if_neg z_2] at hf
          have z_3 : (kI s1 9 0) = 3 := kx_sz3 (hw.2.2 0 (by decide)) z_0 z_1 z_2 (kx_nfull_0 h1 c_4)
          refine lv_aload_n hx hb dQ_insert_8 rfl (lv_at hl 0 rfl) ?_
          refine va_get (D := (dC, dI)) (ci := 0) (v := .int (kI s1 9 0)) (C := R_Q) (T := T_Q) (N := 3) hx hb hts uw_Q hown hK hP 5 rfl rfl 2 (by decide) (hts _ (List.mem_cons_of_mem _ wd_95)) (fun _ h9 => h9) rfl dQ_insert_9 ?_
          rw [show kI s1 9 0 = 3 from (show (kI s1 9 0) = _ from rfl).trans (by rw [z_3])]
          refine lv_istore_n (lv' := [(3, .int 3), (0, .ref (ad 5)), (1, .int rank), (2, .int value)]) hx hb dQ_insert_12 rfl hl (by decide) rfl (fun ls hl => ?_)
          refine lv_iload_n hx hb dQ_insert_13 rfl (lv_at hl 0 rfl) ?_
          refine lv_if_le (tgt := 63) hx hb dQ_insert_14 (by decide) (fun c9 => absurd c9 (by decide)) (fun _ => ?_)
          refine lv_aload_n hx hb dQ_insert_17 rfl (lv_at hl 1 rfl) ?_
          refine va_get (D := (dC, dI)) (ci := 0) (v := .ref (ad 7)) (C := R_Q) (T := T_Q) (N := 3) hx hb hts uw_Q hown hK hP 5 rfl rfl 0 (by decide) (hts _ (List.mem_cons_of_mem _ wd_93)) (fun _ h9 => h9) rfl dQ_insert_18 ?_
          refine lv_iload_n hx hb dQ_insert_21 rfl (lv_at hl 0 rfl) ?_
          refine lv_iconst (v := 1) hx hb dQ_insert_22 (by decide) ?_
          refine lv_isub hx hb dQ_insert_23 ?_
          refine lv_topi (fun z9 e9 => ?_)
          obtain rfl : z9 = 2 := e9.trans (by decide)
          refine va_iald hx hb hK hP 7 4 rfl rfl (kk_inl (by decide)) dQ_insert_24 ?_
          rw [kk_c2]
          refine lv_iload_n hx hb dQ_insert_25 rfl (lv_at hl 2 rfl) ?_
          refine lv_icmp_ge (tgt := 63) hx hb dQ_insert_26 (by decide) (fun c_26 => ?_) (fun c_26 => ?_)
          · rw [if_pos c_26] at hf
            refine lv_aload_n hx hb dQ_insert_63 rfl (lv_at hl 1 rfl) ?_
            refine va_get (D := (dC, dI)) (ci := 0) (v := .ref (ad 7)) (C := R_Q) (T := T_Q) (N := 3) hx hb hts uw_Q hown hK hP 5 rfl rfl 0 (by decide) (hts _ (List.mem_cons_of_mem _ wd_93)) (fun _ h9 => h9) rfl dQ_insert_64 ?_
            refine lv_iload_n hx hb dQ_insert_67 rfl (lv_at hl 0 rfl) ?_
            refine lv_iload_n hx hb dQ_insert_68 rfl (lv_at hl 2 rfl) ?_
            refine va_iast hx hb hK hP (kx_D hj) hS 7 4 rfl rfl (kk_inl (by decide)) dQ_insert_69 (fun H locs hP _ hS => ?_)
            rw [kk_c3] at hP
            replace hP := kx_u_a5 hP
            replace hw := kx_wf_I (f := 5) (i := 3) (v := rank) hw (by decide)
            refine lv_aload_n hx hb dQ_insert_70 rfl (lv_at hl 1 rfl) ?_
            refine va_get (D := (dC, dI)) (ci := 0) (v := .ref (ad 9)) (C := R_Q) (T := T_Q) (N := 3) hx hb hts uw_Q hown hK hP 5 rfl rfl 1 (by decide) (hts _ (List.mem_cons_of_mem _ wd_94)) (fun _ h9 => h9) rfl dQ_insert_71 ?_
            refine lv_iload_n hx hb dQ_insert_74 rfl (lv_at hl 0 rfl) ?_
            refine lv_iload_n hx hb dQ_insert_75 rfl (lv_at hl 3 rfl) ?_
            refine va_iast hx hb hK hP (kx_D hj) hS 9 6 rfl rfl (kk_inl (by decide)) dQ_insert_76 (fun H locs hP _ hS => ?_)
            rw [kk_c3] at hP
            replace hP := kx_u_a7 hP
            replace hw := kx_wf_I (f := 7) (i := 3) (v := value) hw (by decide)
            refine lv_aload_n hx hb dQ_insert_77 rfl (lv_at hl 1 rfl) ?_
            refine lv_dup hx hb dQ_insert_78 rfl ?_
            refine va_get (D := (dC, dI)) (ci := 0) (v := .int (kI (sI (sI s1 5 3 rank) 7 3 value) 9 0)) (C := R_Q) (T := T_Q) (N := 3) hx hb hts uw_Q hown hK hP 5 rfl rfl 2 (by decide) (hts _ (List.mem_cons_of_mem _ wd_95)) (fun _ h9 => h9) rfl dQ_insert_79 ?_
            refine lv_iconst (v := 1) hx hb dQ_insert_82 (by decide) ?_
            refine lv_iadd hx hb dQ_insert_83 ?_
            refine va_put (D := (dC, dI)) (ci := 0) (v := .int ((kI (sI (sI s1 5 3 rank) 7 3 value) 9 0) + 1)) (ty := .int) (C := R_Q) (T := T_Q) (N := 3) hx hb hts uw_Q ty_Q ty_Q_ok nm_Q hown hK hP (kx_D hj) hS 5 rfl rfl 2 (by decide) (hts _ (List.mem_cons_of_mem _ wd_95)) (fun _ h9 => h9) rfl (by decide +kernel) rfl rfl (Nat.le_of_ble_eq_true rfl) dQ_insert_84 (fun H locs hP _ hS => ?_)
            replace hP := kx_u_size0 hP
            replace hw : kx_wf (sI (sI (sI s1 5 3 rank) 7 3 value) 9 0 ((kI (sI (sI s1 5 3 rank) 7 3 value) 9 0) + 1)) := kx_wf_q (q := 0) (v := kI (sI (sI s1 5 3 rank) 7 3 value) 9 0 + 1) hw ⟨4, by decide, by rw [show kI (sI (sI s1 5 3 rank) 7 3 value) 9 0 = kI s1 9 0 from rfl, z_3]; decide⟩
            exact kk_vret hx hb hr hlocks hP hK hS ⟨hf.symm, hw⟩ dQ_insert_87
          · rw [if_neg c_26] at hf
            refine lv_aload_n hx hb dQ_insert_29 rfl (lv_at hl 1 rfl) ?_
            refine va_get (D := (dC, dI)) (ci := 0) (v := .ref (ad 7)) (C := R_Q) (T := T_Q) (N := 3) hx hb hts uw_Q hown hK hP 5 rfl rfl 0 (by decide) (hts _ (List.mem_cons_of_mem _ wd_93)) (fun _ h9 => h9) rfl dQ_insert_30 ?_
            refine lv_iload_n hx hb dQ_insert_33 rfl (lv_at hl 0 rfl) ?_
            refine lv_aload_n hx hb dQ_insert_34 rfl (lv_at hl 1 rfl) ?_
            refine va_get (D := (dC, dI)) (ci := 0) (v := .ref (ad 7)) (C := R_Q) (T := T_Q) (N := 3) hx hb hts uw_Q hown hK hP 5 rfl rfl 0 (by decide) (hts _ (List.mem_cons_of_mem _ wd_93)) (fun _ h9 => h9) rfl dQ_insert_35 ?_
            refine lv_iload_n hx hb dQ_insert_38 rfl (lv_at hl 0 rfl) ?_
            refine lv_iconst (v := 1) hx hb dQ_insert_39 (by decide) ?_
            refine lv_isub hx hb dQ_insert_40 ?_
            refine lv_topi (fun z9 e9 => ?_)
            obtain rfl : z9 = 2 := e9.trans (by decide)
            refine va_iald hx hb hK hP 7 4 rfl rfl (kk_inl (by decide)) dQ_insert_41 ?_
            rw [kk_c2]
            refine va_iast hx hb hK hP (kx_D hj) hS 7 4 rfl rfl (kk_inl (by decide)) dQ_insert_42 (fun H locs hP _ hS => ?_)
            rw [kk_c3] at hP
            replace hP := kx_u_a5 hP
            replace hw := kx_wf_I (f := 5) (i := 3) (v := kI s1 5 2) hw (by decide)
            refine lv_aload_n hx hb dQ_insert_43 rfl (lv_at hl 1 rfl) ?_
            refine va_get (D := (dC, dI)) (ci := 0) (v := .ref (ad 9)) (C := R_Q) (T := T_Q) (N := 3) hx hb hts uw_Q hown hK hP 5 rfl rfl 1 (by decide) (hts _ (List.mem_cons_of_mem _ wd_94)) (fun _ h9 => h9) rfl dQ_insert_44 ?_
            refine lv_iload_n hx hb dQ_insert_47 rfl (lv_at hl 0 rfl) ?_
            refine lv_aload_n hx hb dQ_insert_48 rfl (lv_at hl 1 rfl) ?_
            refine va_get (D := (dC, dI)) (ci := 0) (v := .ref (ad 9)) (C := R_Q) (T := T_Q) (N := 3) hx hb hts uw_Q hown hK hP 5 rfl rfl 1 (by decide) (hts _ (List.mem_cons_of_mem _ wd_94)) (fun _ h9 => h9) rfl dQ_insert_49 ?_
            refine lv_iload_n hx hb dQ_insert_52 rfl (lv_at hl 0 rfl) ?_
            refine lv_iconst (v := 1) hx hb dQ_insert_53 (by decide) ?_
            refine lv_isub hx hb dQ_insert_54 ?_
            refine lv_topi (fun z9 e9 => ?_)
            obtain rfl : z9 = 2 := e9.trans (by decide)
            refine va_iald hx hb hK hP 9 6 rfl rfl (kk_inl (by decide)) dQ_insert_55 ?_
            rw [kk_c2]
            refine va_iast hx hb hK hP (kx_D hj) hS 9 6 rfl rfl (kk_inl (by decide)) dQ_insert_56 (fun H locs hP _ hS => ?_)
            rw [kk_c3] at hP
            replace hP := kx_u_a7 hP
            replace hw := kx_wf_I (f := 7) (i := 3) (v := kI (sI s1 5 3 (kI s1 5 2)) 7 2) hw (by decide)
            refine lv_iinc (v := 2) (lv' := [(3, .int 2), (0, .ref (ad 5)), (1, .int rank), (2, .int value)]) hx hb dQ_insert_57 hl (k := 0) rfl (by decide) (by decide) rfl (fun ls hl => ?_)
            refine lv_goto (tgt := 13) hx hb dQ_insert_60 (by decide) ?_
            refine lv_iload_n hx hb dQ_insert_13 rfl (lv_at hl 0 rfl) ?_
            refine lv_if_le (tgt := 63) hx hb dQ_insert_14 (by decide) (fun c9 => absurd c9 (by decide)) (fun _ => ?_)
            refine lv_aload_n hx hb dQ_insert_17 rfl (lv_at hl 1 rfl) ?_
            refine va_get (D := (dC, dI)) (ci := 0) (v := .ref (ad 7)) (C := R_Q) (T := T_Q) (N := 3) hx hb hts uw_Q hown hK hP 5 rfl rfl 0 (by decide) (hts _ (List.mem_cons_of_mem _ wd_93)) (fun _ h9 => h9) rfl dQ_insert_18 ?_
            refine lv_iload_n hx hb dQ_insert_21 rfl (lv_at hl 0 rfl) ?_
            refine lv_iconst (v := 1) hx hb dQ_insert_22 (by decide) ?_
            refine lv_isub hx hb dQ_insert_23 ?_
            refine lv_topi (fun z9 e9 => ?_)
            obtain rfl : z9 = 1 := e9.trans (by decide)
            refine va_iald hx hb hK hP 7 4 rfl rfl (kk_inl (by decide)) dQ_insert_24 ?_
            rw [kk_c1]
            refine lv_iload_n hx hb dQ_insert_25 rfl (lv_at hl 2 rfl) ?_
            refine lv_icmp_ge (tgt := 63) hx hb dQ_insert_26 (by decide) (fun c_26 => ?_) (fun c_26 => ?_)
            · rw [if_pos c_26] at hf
              refine lv_aload_n hx hb dQ_insert_63 rfl (lv_at hl 1 rfl) ?_
              refine va_get (D := (dC, dI)) (ci := 0) (v := .ref (ad 7)) (C := R_Q) (T := T_Q) (N := 3) hx hb hts uw_Q hown hK hP 5 rfl rfl 0 (by decide) (hts _ (List.mem_cons_of_mem _ wd_93)) (fun _ h9 => h9) rfl dQ_insert_64 ?_
              refine lv_iload_n hx hb dQ_insert_67 rfl (lv_at hl 0 rfl) ?_
              refine lv_iload_n hx hb dQ_insert_68 rfl (lv_at hl 2 rfl) ?_
              refine va_iast hx hb hK hP (kx_D hj) hS 7 4 rfl rfl (kk_inl (by decide)) dQ_insert_69 (fun H locs hP _ hS => ?_)
              rw [kk_c2] at hP
              replace hP := kx_u_a5 hP
              replace hw := kx_wf_I (f := 5) (i := 2) (v := rank) hw (by decide)
              refine lv_aload_n hx hb dQ_insert_70 rfl (lv_at hl 1 rfl) ?_
              refine va_get (D := (dC, dI)) (ci := 0) (v := .ref (ad 9)) (C := R_Q) (T := T_Q) (N := 3) hx hb hts uw_Q hown hK hP 5 rfl rfl 1 (by decide) (hts _ (List.mem_cons_of_mem _ wd_94)) (fun _ h9 => h9) rfl dQ_insert_71 ?_
              refine lv_iload_n hx hb dQ_insert_74 rfl (lv_at hl 0 rfl) ?_
              refine lv_iload_n hx hb dQ_insert_75 rfl (lv_at hl 3 rfl) ?_
              refine va_iast hx hb hK hP (kx_D hj) hS 9 6 rfl rfl (kk_inl (by decide)) dQ_insert_76 (fun H locs hP _ hS => ?_)
              rw [kk_c2] at hP
              replace hP := kx_u_a7 hP
              replace hw := kx_wf_I (f := 7) (i := 2) (v := value) hw (by decide)
              refine lv_aload_n hx hb dQ_insert_77 rfl (lv_at hl 1 rfl) ?_
              refine lv_dup hx hb dQ_insert_78 rfl ?_
              refine va_get (D := (dC, dI)) (ci := 0) (v := .int (kI (sI (sI (sI (sI s1 5 3 (kI s1 5 2)) 7 3 (kI (sI s1 5 3 (kI s1 5 2)) 7 2)) 5 2 rank) 7 2 value) 9 0)) (C := R_Q) (T := T_Q) (N := 3) hx hb hts uw_Q hown hK hP 5 rfl rfl 2 (by decide) (hts _ (List.mem_cons_of_mem _ wd_95)) (fun _ h9 => h9) rfl dQ_insert_79 ?_
              refine lv_iconst (v := 1) hx hb dQ_insert_82 (by decide) ?_
              refine lv_iadd hx hb dQ_insert_83 ?_
              refine va_put (D := (dC, dI)) (ci := 0) (v := .int ((kI (sI (sI (sI (sI s1 5 3 (kI s1 5 2)) 7 3 (kI (sI s1 5 3 (kI s1 5 2)) 7 2)) 5 2 rank) 7 2 value) 9 0) + 1)) (ty := .int) (C := R_Q) (T := T_Q) (N := 3) hx hb hts uw_Q ty_Q ty_Q_ok nm_Q hown hK hP (kx_D hj) hS 5 rfl rfl 2 (by decide) (hts _ (List.mem_cons_of_mem _ wd_95)) (fun _ h9 => h9) rfl (by decide +kernel) rfl rfl (Nat.le_of_ble_eq_true rfl) dQ_insert_84 (fun H locs hP _ hS => ?_)
              replace hP := kx_u_size0 hP
              replace hw : kx_wf (sI (sI (sI (sI (sI s1 5 3 (kI s1 5 2)) 7 3 (kI (sI s1 5 3 (kI s1 5 2)) 7 2)) 5 2 rank) 7 2 value) 9 0 ((kI (sI (sI (sI (sI s1 5 3 (kI s1 5 2)) 7 3 (kI (sI s1 5 3 (kI s1 5 2)) 7 2)) 5 2 rank) 7 2 value) 9 0) + 1)) := kx_wf_q (q := 0) (v := kI (sI (sI (sI (sI s1 5 3 (kI s1 5 2)) 7 3 (kI (sI s1 5 3 (kI s1 5 2)) 7 2)) 5 2 rank) 7 2 value) 9 0 + 1) hw ⟨4, by decide, by rw [show kI (sI (sI (sI (sI s1 5 3 (kI s1 5 2)) 7 3 (kI (sI s1 5 3 (kI s1 5 2)) 7 2)) 5 2 rank) 7 2 value) 9 0 = kI s1 9 0 from rfl, z_3]; decide⟩
              exact kk_vret hx hb hr hlocks hP hK hS ⟨hf.symm, hw⟩ dQ_insert_87
            · rw [if_neg c_26] at hf
              refine lv_aload_n hx hb dQ_insert_29 rfl (lv_at hl 1 rfl) ?_
              refine va_get (D := (dC, dI)) (ci := 0) (v := .ref (ad 7)) (C := R_Q) (T := T_Q) (N := 3) hx hb hts uw_Q hown hK hP 5 rfl rfl 0 (by decide) (hts _ (List.mem_cons_of_mem _ wd_93)) (fun _ h9 => h9) rfl dQ_insert_30 ?_
              refine lv_iload_n hx hb dQ_insert_33 rfl (lv_at hl 0 rfl) ?_
              refine lv_aload_n hx hb dQ_insert_34 rfl (lv_at hl 1 rfl) ?_
              refine va_get (D := (dC, dI)) (ci := 0) (v := .ref (ad 7)) (C := R_Q) (T := T_Q) (N := 3) hx hb hts uw_Q hown hK hP 5 rfl rfl 0 (by decide) (hts _ (List.mem_cons_of_mem _ wd_93)) (fun _ h9 => h9) rfl dQ_insert_35 ?_
              refine lv_iload_n hx hb dQ_insert_38 rfl (lv_at hl 0 rfl) ?_
              refine lv_iconst (v := 1) hx hb dQ_insert_39 (by decide) ?_
              refine lv_isub hx hb dQ_insert_40 ?_
              refine lv_topi (fun z9 e9 => ?_)
              obtain rfl : z9 = 1 := e9.trans (by decide)
              refine va_iald hx hb hK hP 7 4 rfl rfl (kk_inl (by decide)) dQ_insert_41 ?_
              rw [kk_c1]
              refine va_iast hx hb hK hP (kx_D hj) hS 7 4 rfl rfl (kk_inl (by decide)) dQ_insert_42 (fun H locs hP _ hS => ?_)
              rw [kk_c2] at hP
              replace hP := kx_u_a5 hP
              replace hw := kx_wf_I (f := 5) (i := 2) (v := kI (sI (sI s1 5 3 (kI s1 5 2)) 7 3 (kI (sI s1 5 3 (kI s1 5 2)) 7 2)) 5 1) hw (by decide)
              refine lv_aload_n hx hb dQ_insert_43 rfl (lv_at hl 1 rfl) ?_
              refine va_get (D := (dC, dI)) (ci := 0) (v := .ref (ad 9)) (C := R_Q) (T := T_Q) (N := 3) hx hb hts uw_Q hown hK hP 5 rfl rfl 1 (by decide) (hts _ (List.mem_cons_of_mem _ wd_94)) (fun _ h9 => h9) rfl dQ_insert_44 ?_
              refine lv_iload_n hx hb dQ_insert_47 rfl (lv_at hl 0 rfl) ?_
              refine lv_aload_n hx hb dQ_insert_48 rfl (lv_at hl 1 rfl) ?_
              refine va_get (D := (dC, dI)) (ci := 0) (v := .ref (ad 9)) (C := R_Q) (T := T_Q) (N := 3) hx hb hts uw_Q hown hK hP 5 rfl rfl 1 (by decide) (hts _ (List.mem_cons_of_mem _ wd_94)) (fun _ h9 => h9) rfl dQ_insert_49 ?_
              refine lv_iload_n hx hb dQ_insert_52 rfl (lv_at hl 0 rfl) ?_
              refine lv_iconst (v := 1) hx hb dQ_insert_53 (by decide) ?_
              refine lv_isub hx hb dQ_insert_54 ?_
              refine lv_topi (fun z9 e9 => ?_)
              obtain rfl : z9 = 1 := e9.trans (by decide)
              refine va_iald hx hb hK hP 9 6 rfl rfl (kk_inl (by decide)) dQ_insert_55 ?_
              rw [kk_c1]
              refine va_iast hx hb hK hP (kx_D hj) hS 9 6 rfl rfl (kk_inl (by decide)) dQ_insert_56 (fun H locs hP _ hS => ?_)
              rw [kk_c2] at hP
              replace hP := kx_u_a7 hP
              replace hw := kx_wf_I (f := 7) (i := 2) (v := kI (sI (sI (sI s1 5 3 (kI s1 5 2)) 7 3 (kI (sI s1 5 3 (kI s1 5 2)) 7 2)) 5 2 (kI (sI (sI s1 5 3 (kI s1 5 2)) 7 3 (kI (sI s1 5 3 (kI s1 5 2)) 7 2)) 5 1)) 7 1) hw (by decide)
              refine lv_iinc (v := 1) (lv' := [(3, .int 1), (0, .ref (ad 5)), (1, .int rank), (2, .int value)]) hx hb dQ_insert_57 hl (k := 0) rfl (by decide) (by decide) rfl (fun ls hl => ?_)
              refine lv_goto (tgt := 13) hx hb dQ_insert_60 (by decide) ?_
              refine lv_iload_n hx hb dQ_insert_13 rfl (lv_at hl 0 rfl) ?_
              refine lv_if_le (tgt := 63) hx hb dQ_insert_14 (by decide) (fun c9 => absurd c9 (by decide)) (fun _ => ?_)
              refine lv_aload_n hx hb dQ_insert_17 rfl (lv_at hl 1 rfl) ?_
              refine va_get (D := (dC, dI)) (ci := 0) (v := .ref (ad 7)) (C := R_Q) (T := T_Q) (N := 3) hx hb hts uw_Q hown hK hP 5 rfl rfl 0 (by decide) (hts _ (List.mem_cons_of_mem _ wd_93)) (fun _ h9 => h9) rfl dQ_insert_18 ?_
              refine lv_iload_n hx hb dQ_insert_21 rfl (lv_at hl 0 rfl) ?_
              refine lv_iconst (v := 1) hx hb dQ_insert_22 (by decide) ?_
              refine lv_isub hx hb dQ_insert_23 ?_
              refine lv_topi (fun z9 e9 => ?_)
              obtain rfl : z9 = 0 := e9.trans (by decide)
              refine va_iald hx hb hK hP 7 4 rfl rfl (kk_inl (by decide)) dQ_insert_24 ?_
              rw [kk_c0]
              refine lv_iload_n hx hb dQ_insert_25 rfl (lv_at hl 2 rfl) ?_
              refine lv_icmp_ge (tgt := 63) hx hb dQ_insert_26 (by decide) (fun c_26 => ?_) (fun c_26 => ?_)
              · rw [if_pos c_26] at hf
                refine lv_aload_n hx hb dQ_insert_63 rfl (lv_at hl 1 rfl) ?_
                refine va_get (D := (dC, dI)) (ci := 0) (v := .ref (ad 7)) (C := R_Q) (T := T_Q) (N := 3) hx hb hts uw_Q hown hK hP 5 rfl rfl 0 (by decide) (hts _ (List.mem_cons_of_mem _ wd_93)) (fun _ h9 => h9) rfl dQ_insert_64 ?_
                refine lv_iload_n hx hb dQ_insert_67 rfl (lv_at hl 0 rfl) ?_
                refine lv_iload_n hx hb dQ_insert_68 rfl (lv_at hl 2 rfl) ?_
                refine va_iast hx hb hK hP (kx_D hj) hS 7 4 rfl rfl (kk_inl (by decide)) dQ_insert_69 (fun H locs hP _ hS => ?_)
                rw [kk_c1] at hP
                replace hP := kx_u_a5 hP
                replace hw := kx_wf_I (f := 5) (i := 1) (v := rank) hw (by decide)
                refine lv_aload_n hx hb dQ_insert_70 rfl (lv_at hl 1 rfl) ?_
                refine va_get (D := (dC, dI)) (ci := 0) (v := .ref (ad 9)) (C := R_Q) (T := T_Q) (N := 3) hx hb hts uw_Q hown hK hP 5 rfl rfl 1 (by decide) (hts _ (List.mem_cons_of_mem _ wd_94)) (fun _ h9 => h9) rfl dQ_insert_71 ?_
                refine lv_iload_n hx hb dQ_insert_74 rfl (lv_at hl 0 rfl) ?_
                refine lv_iload_n hx hb dQ_insert_75 rfl (lv_at hl 3 rfl) ?_
                refine va_iast hx hb hK hP (kx_D hj) hS 9 6 rfl rfl (kk_inl (by decide)) dQ_insert_76 (fun H locs hP _ hS => ?_)
                rw [kk_c1] at hP
                replace hP := kx_u_a7 hP
                replace hw := kx_wf_I (f := 7) (i := 1) (v := value) hw (by decide)
                refine lv_aload_n hx hb dQ_insert_77 rfl (lv_at hl 1 rfl) ?_
                refine lv_dup hx hb dQ_insert_78 rfl ?_
                refine va_get (D := (dC, dI)) (ci := 0) (v := .int (kI (sI (sI (sI (sI (sI (sI s1 5 3 (kI s1 5 2)) 7 3 (kI (sI s1 5 3 (kI s1 5 2)) 7 2)) 5 2 (kI (sI (sI s1 5 3 (kI s1 5 2)) 7 3 (kI (sI s1 5 3 (kI s1 5 2)) 7 2)) 5 1)) 7 2 (kI (sI (sI (sI s1 5 3 (kI s1 5 2)) 7 3 (kI (sI s1 5 3 (kI s1 5 2)) 7 2)) 5 2 (kI (sI (sI s1 5 3 (kI s1 5 2)) 7 3 (kI (sI s1 5 3 (kI s1 5 2)) 7 2)) 5 1)) 7 1)) 5 1 rank) 7 1 value) 9 0)) (C := R_Q) (T := T_Q) (N := 3) hx hb hts uw_Q hown hK hP 5 rfl rfl 2 (by decide) (hts _ (List.mem_cons_of_mem _ wd_95)) (fun _ h9 => h9) rfl dQ_insert_79 ?_
                refine lv_iconst (v := 1) hx hb dQ_insert_82 (by decide) ?_
                refine lv_iadd hx hb dQ_insert_83 ?_
                refine va_put (D := (dC, dI)) (ci := 0) (v := .int ((kI (sI (sI (sI (sI (sI (sI s1 5 3 (kI s1 5 2)) 7 3 (kI (sI s1 5 3 (kI s1 5 2)) 7 2)) 5 2 (kI (sI (sI s1 5 3 (kI s1 5 2)) 7 3 (kI (sI s1 5 3 (kI s1 5 2)) 7 2)) 5 1)) 7 2 (kI (sI (sI (sI s1 5 3 (kI s1 5 2)) 7 3 (kI (sI s1 5 3 (kI s1 5 2)) 7 2)) 5 2 (kI (sI (sI s1 5 3 (kI s1 5 2)) 7 3 (kI (sI s1 5 3 (kI s1 5 2)) 7 2)) 5 1)) 7 1)) 5 1 rank) 7 1 value) 9 0) + 1)) (ty := .int) (C := R_Q) (T := T_Q) (N := 3) hx hb hts uw_Q ty_Q ty_Q_ok nm_Q hown hK hP (kx_D hj) hS 5 rfl rfl 2 (by decide) (hts _ (List.mem_cons_of_mem _ wd_95)) (fun _ h9 => h9) rfl (by decide +kernel) rfl rfl (Nat.le_of_ble_eq_true rfl) dQ_insert_84 (fun H locs hP _ hS => ?_)
                replace hP := kx_u_size0 hP
                replace hw : kx_wf (sI (sI (sI (sI (sI (sI (sI s1 5 3 (kI s1 5 2)) 7 3 (kI (sI s1 5 3 (kI s1 5 2)) 7 2)) 5 2 (kI (sI (sI s1 5 3 (kI s1 5 2)) 7 3 (kI (sI s1 5 3 (kI s1 5 2)) 7 2)) 5 1)) 7 2 (kI (sI (sI (sI s1 5 3 (kI s1 5 2)) 7 3 (kI (sI s1 5 3 (kI s1 5 2)) 7 2)) 5 2 (kI (sI (sI s1 5 3 (kI s1 5 2)) 7 3 (kI (sI s1 5 3 (kI s1 5 2)) 7 2)) 5 1)) 7 1)) 5 1 rank) 7 1 value) 9 0 ((kI (sI (sI (sI (sI (sI (sI s1 5 3 (kI s1 5 2)) 7 3 (kI (sI s1 5 3 (kI s1 5 2)) 7 2)) 5 2 (kI (sI (sI s1 5 3 (kI s1 5 2)) 7 3 (kI (sI s1 5 3 (kI s1 5 2)) 7 2)) 5 1)) 7 2 (kI (sI (sI (sI s1 5 3 (kI s1 5 2)) 7 3 (kI (sI s1 5 3 (kI s1 5 2)) 7 2)) 5 2 (kI (sI (sI s1 5 3 (kI s1 5 2)) 7 3 (kI (sI s1 5 3 (kI s1 5 2)) 7 2)) 5 1)) 7 1)) 5 1 rank) 7 1 value) 9 0) + 1)) := kx_wf_q (q := 0) (v := kI (sI (sI (sI (sI (sI (sI s1 5 3 (kI s1 5 2)) 7 3 (kI (sI s1 5 3 (kI s1 5 2)) 7 2)) 5 2 (kI (sI (sI s1 5 3 (kI s1 5 2)) 7 3 (kI (sI s1 5 3 (kI s1 5 2)) 7 2)) 5 1)) 7 2 (kI (sI (sI (sI s1 5 3 (kI s1 5 2)) 7 3 (kI (sI s1 5 3 (kI s1 5 2)) 7 2)) 5 2 (kI (sI (sI s1 5 3 (kI s1 5 2)) 7 3 (kI (sI s1 5 3 (kI s1 5 2)) 7 2)) 5 1)) 7 1)) 5 1 rank) 7 1 value) 9 0 + 1) hw ⟨4, by decide, by rw [show kI (sI (sI (sI (sI (sI (sI s1 5 3 (kI s1 5 2)) 7 3 (kI (sI s1 5 3 (kI s1 5 2)) 7 2)) 5 2 (kI (sI (sI s1 5 3 (kI s1 5 2)) 7 3 (kI (sI s1 5 3 (kI s1 5 2)) 7 2)) 5 1)) 7 2 (kI (sI (sI (sI s1 5 3 (kI s1 5 2)) 7 3 (kI (sI s1 5 3 (kI s1 5 2)) 7 2)) 5 2 (kI (sI (sI s1 5 3 (kI s1 5 2)) 7 3 (kI (sI s1 5 3 (kI s1 5 2)) 7 2)) 5 1)) 7 1)) 5 1 rank) 7 1 value) 9 0 = kI s1 9 0 from rfl, z_3]; decide⟩
                exact kk_vret hx hb hr hlocks hP hK hS ⟨hf.symm, hw⟩ dQ_insert_87
              · rw [if_neg c_26] at hf
                refine lv_aload_n hx hb dQ_insert_29 rfl (lv_at hl 1 rfl) ?_
                refine va_get (D := (dC, dI)) (ci := 0) (v := .ref (ad 7)) (C := R_Q) (T := T_Q) (N := 3) hx hb hts uw_Q hown hK hP 5 rfl rfl 0 (by decide) (hts _ (List.mem_cons_of_mem _ wd_93)) (fun _ h9 => h9) rfl dQ_insert_30 ?_
                refine lv_iload_n hx hb dQ_insert_33 rfl (lv_at hl 0 rfl) ?_
                refine lv_aload_n hx hb dQ_insert_34 rfl (lv_at hl 1 rfl) ?_
                refine va_get (D := (dC, dI)) (ci := 0) (v := .ref (ad 7)) (C := R_Q) (T := T_Q) (N := 3) hx hb hts uw_Q hown hK hP 5 rfl rfl 0 (by decide) (hts _ (List.mem_cons_of_mem _ wd_93)) (fun _ h9 => h9) rfl dQ_insert_35 ?_
                refine lv_iload_n hx hb dQ_insert_38 rfl (lv_at hl 0 rfl) ?_
                refine lv_iconst (v := 1) hx hb dQ_insert_39 (by decide) ?_
                refine lv_isub hx hb dQ_insert_40 ?_
                refine lv_topi (fun z9 e9 => ?_)
                obtain rfl : z9 = 0 := e9.trans (by decide)
                refine va_iald hx hb hK hP 7 4 rfl rfl (kk_inl (by decide)) dQ_insert_41 ?_
                rw [kk_c0]
                refine va_iast hx hb hK hP (kx_D hj) hS 7 4 rfl rfl (kk_inl (by decide)) dQ_insert_42 (fun H locs hP _ hS => ?_)
                rw [kk_c1] at hP
                replace hP := kx_u_a5 hP
                replace hw := kx_wf_I (f := 5) (i := 1) (v := kI (sI (sI (sI (sI s1 5 3 (kI s1 5 2)) 7 3 (kI (sI s1 5 3 (kI s1 5 2)) 7 2)) 5 2 (kI (sI (sI s1 5 3 (kI s1 5 2)) 7 3 (kI (sI s1 5 3 (kI s1 5 2)) 7 2)) 5 1)) 7 2 (kI (sI (sI (sI s1 5 3 (kI s1 5 2)) 7 3 (kI (sI s1 5 3 (kI s1 5 2)) 7 2)) 5 2 (kI (sI (sI s1 5 3 (kI s1 5 2)) 7 3 (kI (sI s1 5 3 (kI s1 5 2)) 7 2)) 5 1)) 7 1)) 5 0) hw (by decide)
                refine lv_aload_n hx hb dQ_insert_43 rfl (lv_at hl 1 rfl) ?_
                refine va_get (D := (dC, dI)) (ci := 0) (v := .ref (ad 9)) (C := R_Q) (T := T_Q) (N := 3) hx hb hts uw_Q hown hK hP 5 rfl rfl 1 (by decide) (hts _ (List.mem_cons_of_mem _ wd_94)) (fun _ h9 => h9) rfl dQ_insert_44 ?_
                refine lv_iload_n hx hb dQ_insert_47 rfl (lv_at hl 0 rfl) ?_
                refine lv_aload_n hx hb dQ_insert_48 rfl (lv_at hl 1 rfl) ?_
                refine va_get (D := (dC, dI)) (ci := 0) (v := .ref (ad 9)) (C := R_Q) (T := T_Q) (N := 3) hx hb hts uw_Q hown hK hP 5 rfl rfl 1 (by decide) (hts _ (List.mem_cons_of_mem _ wd_94)) (fun _ h9 => h9) rfl dQ_insert_49 ?_
                refine lv_iload_n hx hb dQ_insert_52 rfl (lv_at hl 0 rfl) ?_
                refine lv_iconst (v := 1) hx hb dQ_insert_53 (by decide) ?_
                refine lv_isub hx hb dQ_insert_54 ?_
                refine lv_topi (fun z9 e9 => ?_)
                obtain rfl : z9 = 0 := e9.trans (by decide)
                refine va_iald hx hb hK hP 9 6 rfl rfl (kk_inl (by decide)) dQ_insert_55 ?_
                rw [kk_c0]
                refine va_iast hx hb hK hP (kx_D hj) hS 9 6 rfl rfl (kk_inl (by decide)) dQ_insert_56 (fun H locs hP _ hS => ?_)
                rw [kk_c1] at hP
                replace hP := kx_u_a7 hP
                replace hw := kx_wf_I (f := 7) (i := 1) (v := kI (sI (sI (sI (sI (sI s1 5 3 (kI s1 5 2)) 7 3 (kI (sI s1 5 3 (kI s1 5 2)) 7 2)) 5 2 (kI (sI (sI s1 5 3 (kI s1 5 2)) 7 3 (kI (sI s1 5 3 (kI s1 5 2)) 7 2)) 5 1)) 7 2 (kI (sI (sI (sI s1 5 3 (kI s1 5 2)) 7 3 (kI (sI s1 5 3 (kI s1 5 2)) 7 2)) 5 2 (kI (sI (sI s1 5 3 (kI s1 5 2)) 7 3 (kI (sI s1 5 3 (kI s1 5 2)) 7 2)) 5 1)) 7 1)) 5 1 (kI (sI (sI (sI (sI s1 5 3 (kI s1 5 2)) 7 3 (kI (sI s1 5 3 (kI s1 5 2)) 7 2)) 5 2 (kI (sI (sI s1 5 3 (kI s1 5 2)) 7 3 (kI (sI s1 5 3 (kI s1 5 2)) 7 2)) 5 1)) 7 2 (kI (sI (sI (sI s1 5 3 (kI s1 5 2)) 7 3 (kI (sI s1 5 3 (kI s1 5 2)) 7 2)) 5 2 (kI (sI (sI s1 5 3 (kI s1 5 2)) 7 3 (kI (sI s1 5 3 (kI s1 5 2)) 7 2)) 5 1)) 7 1)) 5 0)) 7 0) hw (by decide)
                refine lv_iinc (v := 0) (lv' := [(3, .int 0), (0, .ref (ad 5)), (1, .int rank), (2, .int value)]) hx hb dQ_insert_57 hl (k := 0) rfl (by decide) (by decide) rfl (fun ls hl => ?_)
                refine lv_goto (tgt := 13) hx hb dQ_insert_60 (by decide) ?_
                refine lv_iload_n hx hb dQ_insert_13 rfl (lv_at hl 0 rfl) ?_
                refine lv_if_le (tgt := 63) hx hb dQ_insert_14 (by decide) (fun _ => ?_) (fun c9 => absurd (by decide) c9)
                refine lv_aload_n hx hb dQ_insert_63 rfl (lv_at hl 1 rfl) ?_
                refine va_get (D := (dC, dI)) (ci := 0) (v := .ref (ad 7)) (C := R_Q) (T := T_Q) (N := 3) hx hb hts uw_Q hown hK hP 5 rfl rfl 0 (by decide) (hts _ (List.mem_cons_of_mem _ wd_93)) (fun _ h9 => h9) rfl dQ_insert_64 ?_
                refine lv_iload_n hx hb dQ_insert_67 rfl (lv_at hl 0 rfl) ?_
                refine lv_iload_n hx hb dQ_insert_68 rfl (lv_at hl 2 rfl) ?_
                refine va_iast hx hb hK hP (kx_D hj) hS 7 4 rfl rfl (kk_inl (by decide)) dQ_insert_69 (fun H locs hP _ hS => ?_)
                rw [kk_c0] at hP
                replace hP := kx_u_a5 hP
                replace hw := kx_wf_I (f := 5) (i := 0) (v := rank) hw (by decide)
                refine lv_aload_n hx hb dQ_insert_70 rfl (lv_at hl 1 rfl) ?_
                refine va_get (D := (dC, dI)) (ci := 0) (v := .ref (ad 9)) (C := R_Q) (T := T_Q) (N := 3) hx hb hts uw_Q hown hK hP 5 rfl rfl 1 (by decide) (hts _ (List.mem_cons_of_mem _ wd_94)) (fun _ h9 => h9) rfl dQ_insert_71 ?_
                refine lv_iload_n hx hb dQ_insert_74 rfl (lv_at hl 0 rfl) ?_
                refine lv_iload_n hx hb dQ_insert_75 rfl (lv_at hl 3 rfl) ?_
                refine va_iast hx hb hK hP (kx_D hj) hS 9 6 rfl rfl (kk_inl (by decide)) dQ_insert_76 (fun H locs hP _ hS => ?_)
                rw [kk_c0] at hP
                replace hP := kx_u_a7 hP
                replace hw := kx_wf_I (f := 7) (i := 0) (v := value) hw (by decide)
                refine lv_aload_n hx hb dQ_insert_77 rfl (lv_at hl 1 rfl) ?_
                refine lv_dup hx hb dQ_insert_78 rfl ?_
                refine va_get (D := (dC, dI)) (ci := 0) (v := .int (kI (sI (sI (sI (sI (sI (sI (sI (sI s1 5 3 (kI s1 5 2)) 7 3 (kI (sI s1 5 3 (kI s1 5 2)) 7 2)) 5 2 (kI (sI (sI s1 5 3 (kI s1 5 2)) 7 3 (kI (sI s1 5 3 (kI s1 5 2)) 7 2)) 5 1)) 7 2 (kI (sI (sI (sI s1 5 3 (kI s1 5 2)) 7 3 (kI (sI s1 5 3 (kI s1 5 2)) 7 2)) 5 2 (kI (sI (sI s1 5 3 (kI s1 5 2)) 7 3 (kI (sI s1 5 3 (kI s1 5 2)) 7 2)) 5 1)) 7 1)) 5 1 (kI (sI (sI (sI (sI s1 5 3 (kI s1 5 2)) 7 3 (kI (sI s1 5 3 (kI s1 5 2)) 7 2)) 5 2 (kI (sI (sI s1 5 3 (kI s1 5 2)) 7 3 (kI (sI s1 5 3 (kI s1 5 2)) 7 2)) 5 1)) 7 2 (kI (sI (sI (sI s1 5 3 (kI s1 5 2)) 7 3 (kI (sI s1 5 3 (kI s1 5 2)) 7 2)) 5 2 (kI (sI (sI s1 5 3 (kI s1 5 2)) 7 3 (kI (sI s1 5 3 (kI s1 5 2)) 7 2)) 5 1)) 7 1)) 5 0)) 7 1 (kI (sI (sI (sI (sI (sI s1 5 3 (kI s1 5 2)) 7 3 (kI (sI s1 5 3 (kI s1 5 2)) 7 2)) 5 2 (kI (sI (sI s1 5 3 (kI s1 5 2)) 7 3 (kI (sI s1 5 3 (kI s1 5 2)) 7 2)) 5 1)) 7 2 (kI (sI (sI (sI s1 5 3 (kI s1 5 2)) 7 3 (kI (sI s1 5 3 (kI s1 5 2)) 7 2)) 5 2 (kI (sI (sI s1 5 3 (kI s1 5 2)) 7 3 (kI (sI s1 5 3 (kI s1 5 2)) 7 2)) 5 1)) 7 1)) 5 1 (kI (sI (sI (sI (sI s1 5 3 (kI s1 5 2)) 7 3 (kI (sI s1 5 3 (kI s1 5 2)) 7 2)) 5 2 (kI (sI (sI s1 5 3 (kI s1 5 2)) 7 3 (kI (sI s1 5 3 (kI s1 5 2)) 7 2)) 5 1)) 7 2 (kI (sI (sI (sI s1 5 3 (kI s1 5 2)) 7 3 (kI (sI s1 5 3 (kI s1 5 2)) 7 2)) 5 2 (kI (sI (sI s1 5 3 (kI s1 5 2)) 7 3 (kI (sI s1 5 3 (kI s1 5 2)) 7 2)) 5 1)) 7 1)) 5 0)) 7 0)) 5 0 rank) 7 0 value) 9 0)) (C := R_Q) (T := T_Q) (N := 3) hx hb hts uw_Q hown hK hP 5 rfl rfl 2 (by decide) (hts _ (List.mem_cons_of_mem _ wd_95)) (fun _ h9 => h9) rfl dQ_insert_79 ?_
                refine lv_iconst (v := 1) hx hb dQ_insert_82 (by decide) ?_
                refine lv_iadd hx hb dQ_insert_83 ?_
                refine va_put (D := (dC, dI)) (ci := 0) (v := .int ((kI (sI (sI (sI (sI (sI (sI (sI (sI s1 5 3 (kI s1 5 2)) 7 3 (kI (sI s1 5 3 (kI s1 5 2)) 7 2)) 5 2 (kI (sI (sI s1 5 3 (kI s1 5 2)) 7 3 (kI (sI s1 5 3 (kI s1 5 2)) 7 2)) 5 1)) 7 2 (kI (sI (sI (sI s1 5 3 (kI s1 5 2)) 7 3 (kI (sI s1 5 3 (kI s1 5 2)) 7 2)) 5 2 (kI (sI (sI s1 5 3 (kI s1 5 2)) 7 3 (kI (sI s1 5 3 (kI s1 5 2)) 7 2)) 5 1)) 7 1)) 5 1 (kI (sI (sI (sI (sI s1 5 3 (kI s1 5 2)) 7 3 (kI (sI s1 5 3 (kI s1 5 2)) 7 2)) 5 2 (kI (sI (sI s1 5 3 (kI s1 5 2)) 7 3 (kI (sI s1 5 3 (kI s1 5 2)) 7 2)) 5 1)) 7 2 (kI (sI (sI (sI s1 5 3 (kI s1 5 2)) 7 3 (kI (sI s1 5 3 (kI s1 5 2)) 7 2)) 5 2 (kI (sI (sI s1 5 3 (kI s1 5 2)) 7 3 (kI (sI s1 5 3 (kI s1 5 2)) 7 2)) 5 1)) 7 1)) 5 0)) 7 1 (kI (sI (sI (sI (sI (sI s1 5 3 (kI s1 5 2)) 7 3 (kI (sI s1 5 3 (kI s1 5 2)) 7 2)) 5 2 (kI (sI (sI s1 5 3 (kI s1 5 2)) 7 3 (kI (sI s1 5 3 (kI s1 5 2)) 7 2)) 5 1)) 7 2 (kI (sI (sI (sI s1 5 3 (kI s1 5 2)) 7 3 (kI (sI s1 5 3 (kI s1 5 2)) 7 2)) 5 2 (kI (sI (sI s1 5 3 (kI s1 5 2)) 7 3 (kI (sI s1 5 3 (kI s1 5 2)) 7 2)) 5 1)) 7 1)) 5 1 (kI (sI (sI (sI (sI s1 5 3 (kI s1 5 2)) 7 3 (kI (sI s1 5 3 (kI s1 5 2)) 7 2)) 5 2 (kI (sI (sI s1 5 3 (kI s1 5 2)) 7 3 (kI (sI s1 5 3 (kI s1 5 2)) 7 2)) 5 1)) 7 2 (kI (sI (sI (sI s1 5 3 (kI s1 5 2)) 7 3 (kI (sI s1 5 3 (kI s1 5 2)) 7 2)) 5 2 (kI (sI (sI s1 5 3 (kI s1 5 2)) 7 3 (kI (sI s1 5 3 (kI s1 5 2)) 7 2)) 5 1)) 7 1)) 5 0)) 7 0)) 5 0 rank) 7 0 value) 9 0) + 1)) (ty := .int) (C := R_Q) (T := T_Q) (N := 3) hx hb hts uw_Q ty_Q ty_Q_ok nm_Q hown hK hP (kx_D hj) hS 5 rfl rfl 2 (by decide) (hts _ (List.mem_cons_of_mem _ wd_95)) (fun _ h9 => h9) rfl (by decide +kernel) rfl rfl (Nat.le_of_ble_eq_true rfl) dQ_insert_84 (fun H locs hP _ hS => ?_)
                replace hP := kx_u_size0 hP
                replace hw : kx_wf (sI (sI (sI (sI (sI (sI (sI (sI (sI s1 5 3 (kI s1 5 2)) 7 3 (kI (sI s1 5 3 (kI s1 5 2)) 7 2)) 5 2 (kI (sI (sI s1 5 3 (kI s1 5 2)) 7 3 (kI (sI s1 5 3 (kI s1 5 2)) 7 2)) 5 1)) 7 2 (kI (sI (sI (sI s1 5 3 (kI s1 5 2)) 7 3 (kI (sI s1 5 3 (kI s1 5 2)) 7 2)) 5 2 (kI (sI (sI s1 5 3 (kI s1 5 2)) 7 3 (kI (sI s1 5 3 (kI s1 5 2)) 7 2)) 5 1)) 7 1)) 5 1 (kI (sI (sI (sI (sI s1 5 3 (kI s1 5 2)) 7 3 (kI (sI s1 5 3 (kI s1 5 2)) 7 2)) 5 2 (kI (sI (sI s1 5 3 (kI s1 5 2)) 7 3 (kI (sI s1 5 3 (kI s1 5 2)) 7 2)) 5 1)) 7 2 (kI (sI (sI (sI s1 5 3 (kI s1 5 2)) 7 3 (kI (sI s1 5 3 (kI s1 5 2)) 7 2)) 5 2 (kI (sI (sI s1 5 3 (kI s1 5 2)) 7 3 (kI (sI s1 5 3 (kI s1 5 2)) 7 2)) 5 1)) 7 1)) 5 0)) 7 1 (kI (sI (sI (sI (sI (sI s1 5 3 (kI s1 5 2)) 7 3 (kI (sI s1 5 3 (kI s1 5 2)) 7 2)) 5 2 (kI (sI (sI s1 5 3 (kI s1 5 2)) 7 3 (kI (sI s1 5 3 (kI s1 5 2)) 7 2)) 5 1)) 7 2 (kI (sI (sI (sI s1 5 3 (kI s1 5 2)) 7 3 (kI (sI s1 5 3 (kI s1 5 2)) 7 2)) 5 2 (kI (sI (sI s1 5 3 (kI s1 5 2)) 7 3 (kI (sI s1 5 3 (kI s1 5 2)) 7 2)) 5 1)) 7 1)) 5 1 (kI (sI (sI (sI (sI s1 5 3 (kI s1 5 2)) 7 3 (kI (sI s1 5 3 (kI s1 5 2)) 7 2)) 5 2 (kI (sI (sI s1 5 3 (kI s1 5 2)) 7 3 (kI (sI s1 5 3 (kI s1 5 2)) 7 2)) 5 1)) 7 2 (kI (sI (sI (sI s1 5 3 (kI s1 5 2)) 7 3 (kI (sI s1 5 3 (kI s1 5 2)) 7 2)) 5 2 (kI (sI (sI s1 5 3 (kI s1 5 2)) 7 3 (kI (sI s1 5 3 (kI s1 5 2)) 7 2)) 5 1)) 7 1)) 5 0)) 7 0)) 5 0 rank) 7 0 value) 9 0 ((kI (sI (sI (sI (sI (sI (sI (sI (sI s1 5 3 (kI s1 5 2)) 7 3 (kI (sI s1 5 3 (kI s1 5 2)) 7 2)) 5 2 (kI (sI (sI s1 5 3 (kI s1 5 2)) 7 3 (kI (sI s1 5 3 (kI s1 5 2)) 7 2)) 5 1)) 7 2 (kI (sI (sI (sI s1 5 3 (kI s1 5 2)) 7 3 (kI (sI s1 5 3 (kI s1 5 2)) 7 2)) 5 2 (kI (sI (sI s1 5 3 (kI s1 5 2)) 7 3 (kI (sI s1 5 3 (kI s1 5 2)) 7 2)) 5 1)) 7 1)) 5 1 (kI (sI (sI (sI (sI s1 5 3 (kI s1 5 2)) 7 3 (kI (sI s1 5 3 (kI s1 5 2)) 7 2)) 5 2 (kI (sI (sI s1 5 3 (kI s1 5 2)) 7 3 (kI (sI s1 5 3 (kI s1 5 2)) 7 2)) 5 1)) 7 2 (kI (sI (sI (sI s1 5 3 (kI s1 5 2)) 7 3 (kI (sI s1 5 3 (kI s1 5 2)) 7 2)) 5 2 (kI (sI (sI s1 5 3 (kI s1 5 2)) 7 3 (kI (sI s1 5 3 (kI s1 5 2)) 7 2)) 5 1)) 7 1)) 5 0)) 7 1 (kI (sI (sI (sI (sI (sI s1 5 3 (kI s1 5 2)) 7 3 (kI (sI s1 5 3 (kI s1 5 2)) 7 2)) 5 2 (kI (sI (sI s1 5 3 (kI s1 5 2)) 7 3 (kI (sI s1 5 3 (kI s1 5 2)) 7 2)) 5 1)) 7 2 (kI (sI (sI (sI s1 5 3 (kI s1 5 2)) 7 3 (kI (sI s1 5 3 (kI s1 5 2)) 7 2)) 5 2 (kI (sI (sI s1 5 3 (kI s1 5 2)) 7 3 (kI (sI s1 5 3 (kI s1 5 2)) 7 2)) 5 1)) 7 1)) 5 1 (kI (sI (sI (sI (sI s1 5 3 (kI s1 5 2)) 7 3 (kI (sI s1 5 3 (kI s1 5 2)) 7 2)) 5 2 (kI (sI (sI s1 5 3 (kI s1 5 2)) 7 3 (kI (sI s1 5 3 (kI s1 5 2)) 7 2)) 5 1)) 7 2 (kI (sI (sI (sI s1 5 3 (kI s1 5 2)) 7 3 (kI (sI s1 5 3 (kI s1 5 2)) 7 2)) 5 2 (kI (sI (sI s1 5 3 (kI s1 5 2)) 7 3 (kI (sI s1 5 3 (kI s1 5 2)) 7 2)) 5 1)) 7 1)) 5 0)) 7 0)) 5 0 rank) 7 0 value) 9 0) + 1)) := kx_wf_q (q := 0) (v := kI (sI (sI (sI (sI (sI (sI (sI (sI s1 5 3 (kI s1 5 2)) 7 3 (kI (sI s1 5 3 (kI s1 5 2)) 7 2)) 5 2 (kI (sI (sI s1 5 3 (kI s1 5 2)) 7 3 (kI (sI s1 5 3 (kI s1 5 2)) 7 2)) 5 1)) 7 2 (kI (sI (sI (sI s1 5 3 (kI s1 5 2)) 7 3 (kI (sI s1 5 3 (kI s1 5 2)) 7 2)) 5 2 (kI (sI (sI s1 5 3 (kI s1 5 2)) 7 3 (kI (sI s1 5 3 (kI s1 5 2)) 7 2)) 5 1)) 7 1)) 5 1 (kI (sI (sI (sI (sI s1 5 3 (kI s1 5 2)) 7 3 (kI (sI s1 5 3 (kI s1 5 2)) 7 2)) 5 2 (kI (sI (sI s1 5 3 (kI s1 5 2)) 7 3 (kI (sI s1 5 3 (kI s1 5 2)) 7 2)) 5 1)) 7 2 (kI (sI (sI (sI s1 5 3 (kI s1 5 2)) 7 3 (kI (sI s1 5 3 (kI s1 5 2)) 7 2)) 5 2 (kI (sI (sI s1 5 3 (kI s1 5 2)) 7 3 (kI (sI s1 5 3 (kI s1 5 2)) 7 2)) 5 1)) 7 1)) 5 0)) 7 1 (kI (sI (sI (sI (sI (sI s1 5 3 (kI s1 5 2)) 7 3 (kI (sI s1 5 3 (kI s1 5 2)) 7 2)) 5 2 (kI (sI (sI s1 5 3 (kI s1 5 2)) 7 3 (kI (sI s1 5 3 (kI s1 5 2)) 7 2)) 5 1)) 7 2 (kI (sI (sI (sI s1 5 3 (kI s1 5 2)) 7 3 (kI (sI s1 5 3 (kI s1 5 2)) 7 2)) 5 2 (kI (sI (sI s1 5 3 (kI s1 5 2)) 7 3 (kI (sI s1 5 3 (kI s1 5 2)) 7 2)) 5 1)) 7 1)) 5 1 (kI (sI (sI (sI (sI s1 5 3 (kI s1 5 2)) 7 3 (kI (sI s1 5 3 (kI s1 5 2)) 7 2)) 5 2 (kI (sI (sI s1 5 3 (kI s1 5 2)) 7 3 (kI (sI s1 5 3 (kI s1 5 2)) 7 2)) 5 1)) 7 2 (kI (sI (sI (sI s1 5 3 (kI s1 5 2)) 7 3 (kI (sI s1 5 3 (kI s1 5 2)) 7 2)) 5 2 (kI (sI (sI s1 5 3 (kI s1 5 2)) 7 3 (kI (sI s1 5 3 (kI s1 5 2)) 7 2)) 5 1)) 7 1)) 5 0)) 7 0)) 5 0 rank) 7 0 value) 9 0 + 1) hw ⟨4, by decide, by rw [show kI (sI (sI (sI (sI (sI (sI (sI (sI s1 5 3 (kI s1 5 2)) 7 3 (kI (sI s1 5 3 (kI s1 5 2)) 7 2)) 5 2 (kI (sI (sI s1 5 3 (kI s1 5 2)) 7 3 (kI (sI s1 5 3 (kI s1 5 2)) 7 2)) 5 1)) 7 2 (kI (sI (sI (sI s1 5 3 (kI s1 5 2)) 7 3 (kI (sI s1 5 3 (kI s1 5 2)) 7 2)) 5 2 (kI (sI (sI s1 5 3 (kI s1 5 2)) 7 3 (kI (sI s1 5 3 (kI s1 5 2)) 7 2)) 5 1)) 7 1)) 5 1 (kI (sI (sI (sI (sI s1 5 3 (kI s1 5 2)) 7 3 (kI (sI s1 5 3 (kI s1 5 2)) 7 2)) 5 2 (kI (sI (sI s1 5 3 (kI s1 5 2)) 7 3 (kI (sI s1 5 3 (kI s1 5 2)) 7 2)) 5 1)) 7 2 (kI (sI (sI (sI s1 5 3 (kI s1 5 2)) 7 3 (kI (sI s1 5 3 (kI s1 5 2)) 7 2)) 5 2 (kI (sI (sI s1 5 3 (kI s1 5 2)) 7 3 (kI (sI s1 5 3 (kI s1 5 2)) 7 2)) 5 1)) 7 1)) 5 0)) 7 1 (kI (sI (sI (sI (sI (sI s1 5 3 (kI s1 5 2)) 7 3 (kI (sI s1 5 3 (kI s1 5 2)) 7 2)) 5 2 (kI (sI (sI s1 5 3 (kI s1 5 2)) 7 3 (kI (sI s1 5 3 (kI s1 5 2)) 7 2)) 5 1)) 7 2 (kI (sI (sI (sI s1 5 3 (kI s1 5 2)) 7 3 (kI (sI s1 5 3 (kI s1 5 2)) 7 2)) 5 2 (kI (sI (sI s1 5 3 (kI s1 5 2)) 7 3 (kI (sI s1 5 3 (kI s1 5 2)) 7 2)) 5 1)) 7 1)) 5 1 (kI (sI (sI (sI (sI s1 5 3 (kI s1 5 2)) 7 3 (kI (sI s1 5 3 (kI s1 5 2)) 7 2)) 5 2 (kI (sI (sI s1 5 3 (kI s1 5 2)) 7 3 (kI (sI s1 5 3 (kI s1 5 2)) 7 2)) 5 1)) 7 2 (kI (sI (sI (sI s1 5 3 (kI s1 5 2)) 7 3 (kI (sI s1 5 3 (kI s1 5 2)) 7 2)) 5 2 (kI (sI (sI s1 5 3 (kI s1 5 2)) 7 3 (kI (sI s1 5 3 (kI s1 5 2)) 7 2)) 5 1)) 7 1)) 5 0)) 7 0)) 5 0 rank) 7 0 value) 9 0 = kI s1 9 0 from rfl, z_3]; decide⟩
                exact kk_vret hx hb hr hlocks hP hK hS ⟨hf.symm, hw⟩ dQ_insert_87
  · rw [if_neg c_4] at hf
    exact kk_vret hx hb hr hlocks hP hK hS ⟨hf.symm, hw⟩ dQ_insert_7
set_option maxHeartbeats 4000000 in
set_option maxRecDepth 100000 in
theorem xc_insert_1 (l : Launch) (dC : Nat → ClassId) (dI : Nat → Nat → Nat) (ad : Nat → Nat) (cs : Nat → ClassId) (hj : kx_inj ad) (σ : kx_S) (hw : kx_wf σ) (rank : Int32) (value : Int32) : Met l y_Q_insert ws_Q_insert ({ frames := 1, cells := 0, slots := 0, locals := 20 }) (kk_Pc (dC, dI) vwCl (kx_t cs) (kx_w ad cs σ) [.ref (ad 6), .int rank, .int value]) (va_Qv (kx_pv (xf_insert_1 σ rank value)) (kk_B (dC, dI) vwCl (kx_t cs) (kx_w ad cs)) (kx_A ad)) 0 0 (kx_A ad) := by
  refine Met.ofW (cc := b_Q_insert) (maxL := 4) (ret := none) (by decide) rfl ?_
  intro p e s m args below meth c s₁ B hml hv
  obtain ⟨rfl, hP, hK⟩ := hv
  have hx := B.exec
  have hb := B.bytes
  have hr := B.returns
  have hts := atoms_spec (ws := ws_Q_insert) B.pre
  have hown : s.vm.findClass R_Q = some m.cls := findClass_of_methodNamed B.named
  have hlocks := B.notSynchronized
  have hS : va_S (kx_A ad) s.heap s.heap [] := va_S.rf
  generalize hf : xf_insert_1 σ rank value = out
  have hl := lv_entry ([.ref (ad 6), .int rank, .int value]) (n := 4) (Nat.le_of_ble_eq_true rfl)
  rw [lg_entry_eq]
  generalize (lg_sl ([.ref (ad 6), .int rank, .int value]) ++ List.replicate (4 - (lg_sl ([.ref (ad 6), .int rank, .int value])).length) Slot.unset).toArray = ls at hl ⊢
  have hl : lv_has ls 4 [(0, .ref (ad 6)), (1, .int rank), (2, .int value)] := hl
  rw [xf_insert_1] at hf
  refine lv_aload_n hx hb dQ_insert_0 rfl (lv_at hl 0 rfl) ?_
  refine kk_ci (w := kx_w ad cs) (As := []) (rest := []) ⟨hx, hb, hml, hown, hts⟩ (xc_isFull_1 l dC dI ad cs hj σ hw  ) (cwV 0 hts gv_Q_22 rfl rfl rfl (by decide +kernel) ⟨Nat.le_of_ble_eq_true rfl, Nat.le_of_ble_eq_true rfl⟩) (va_recv hK hP (ci := 0) (q0 := 6) rfl rfl) hP hK hS (fun _ h9 => h9) rfl hl.1 rfl (Nat.le_of_ble_eq_true rfl) dQ_insert_1 ⟨Nat.zero_le _, Nat.zero_le _⟩ (fun r1 s1 H locs hq hP hS => ?_)
  obtain ⟨h1, hw⟩ := hq
  rw [kk_b_eq h1] at hf
  refine lv_if_eq (tgt := 8) hx hb dQ_insert_4 (by decide) (fun c_4 => ?_) (fun c_4 => ?_)
  · rw [if_pos c_4] at hf
    rcases Classical.em ((kI s1 9 1) = 0) with z_0 | z_0
    · rw [if_pos z_0] at hf
      refine lv_aload_n hx hb dQ_insert_8 rfl (lv_at hl 0 rfl) ?_
      refine va_get (D := (dC, dI)) (ci := 0) (v := .int (kI s1 9 1)) (C := R_Q) (T := T_Q) (N := 3) hx hb hts uw_Q hown hK hP 6 rfl rfl 2 (by decide) (hts _ (List.mem_cons_of_mem _ wd_95)) (fun _ h9 => h9) rfl dQ_insert_9 ?_
      rw [show kI s1 9 1 = 0 from (show (kI s1 9 1) = _ from rfl).trans (by rw [z_0])]
      refine lv_istore_n (lv' := [(3, .int 0), (0, .ref (ad 6)), (1, .int rank), (2, .int value)]) hx hb dQ_insert_12 rfl hl (by decide) rfl (fun ls hl => ?_)
      refine lv_iload_n hx hb dQ_insert_13 rfl (lv_at hl 0 rfl) ?_
      refine lv_if_le (tgt := 63) hx hb dQ_insert_14 (by decide) (fun _ => ?_) (fun c9 => absurd (by decide) c9)
      refine lv_aload_n hx hb dQ_insert_63 rfl (lv_at hl 1 rfl) ?_
      refine va_get (D := (dC, dI)) (ci := 0) (v := .ref (ad 8)) (C := R_Q) (T := T_Q) (N := 3) hx hb hts uw_Q hown hK hP 6 rfl rfl 0 (by decide) (hts _ (List.mem_cons_of_mem _ wd_93)) (fun _ h9 => h9) rfl dQ_insert_64 ?_
      refine lv_iload_n hx hb dQ_insert_67 rfl (lv_at hl 0 rfl) ?_
      refine lv_iload_n hx hb dQ_insert_68 rfl (lv_at hl 2 rfl) ?_
      refine va_iast hx hb hK hP (kx_D hj) hS 8 5 rfl rfl (kk_inl (by decide)) dQ_insert_69 (fun H locs hP _ hS => ?_)
      rw [kk_c0] at hP
      replace hP := kx_u_a6 hP
      replace hw := kx_wf_I (f := 6) (i := 0) (v := rank) hw (by decide)
      refine lv_aload_n hx hb dQ_insert_70 rfl (lv_at hl 1 rfl) ?_
      refine va_get (D := (dC, dI)) (ci := 0) (v := .ref (ad 10)) (C := R_Q) (T := T_Q) (N := 3) hx hb hts uw_Q hown hK hP 6 rfl rfl 1 (by decide) (hts _ (List.mem_cons_of_mem _ wd_94)) (fun _ h9 => h9) rfl dQ_insert_71 ?_
      refine lv_iload_n hx hb dQ_insert_74 rfl (lv_at hl 0 rfl) ?_
      refine lv_iload_n hx hb dQ_insert_75 rfl (lv_at hl 3 rfl) ?_
      refine va_iast hx hb hK hP (kx_D hj) hS 10 7 rfl rfl (kk_inl (by decide)) dQ_insert_76 (fun H locs hP _ hS => ?_)
      rw [kk_c0] at hP
      replace hP := kx_u_a8 hP
      replace hw := kx_wf_I (f := 8) (i := 0) (v := value) hw (by decide)
      refine lv_aload_n hx hb dQ_insert_77 rfl (lv_at hl 1 rfl) ?_
      refine lv_dup hx hb dQ_insert_78 rfl ?_
      refine va_get (D := (dC, dI)) (ci := 0) (v := .int (kI (sI (sI s1 6 0 rank) 8 0 value) 9 1)) (C := R_Q) (T := T_Q) (N := 3) hx hb hts uw_Q hown hK hP 6 rfl rfl 2 (by decide) (hts _ (List.mem_cons_of_mem _ wd_95)) (fun _ h9 => h9) rfl dQ_insert_79 ?_
      refine lv_iconst (v := 1) hx hb dQ_insert_82 (by decide) ?_
      refine lv_iadd hx hb dQ_insert_83 ?_
      refine va_put (D := (dC, dI)) (ci := 0) (v := .int ((kI (sI (sI s1 6 0 rank) 8 0 value) 9 1) + 1)) (ty := .int) (C := R_Q) (T := T_Q) (N := 3) hx hb hts uw_Q ty_Q ty_Q_ok nm_Q hown hK hP (kx_D hj) hS 6 rfl rfl 2 (by decide) (hts _ (List.mem_cons_of_mem _ wd_95)) (fun _ h9 => h9) rfl (by decide +kernel) rfl rfl (Nat.le_of_ble_eq_true rfl) dQ_insert_84 (fun H locs hP _ hS => ?_)
      replace hP := kx_u_size1 hP
      replace hw : kx_wf (sI (sI (sI s1 6 0 rank) 8 0 value) 9 1 ((kI (sI (sI s1 6 0 rank) 8 0 value) 9 1) + 1)) := kx_wf_q (q := 1) (v := kI (sI (sI s1 6 0 rank) 8 0 value) 9 1 + 1) hw ⟨1, by decide, by rw [show kI (sI (sI s1 6 0 rank) 8 0 value) 9 1 = kI s1 9 1 from rfl, z_0]; decide⟩
      exact kk_vret hx hb hr hlocks hP hK hS ⟨hf.symm, hw⟩ dQ_insert_87
    · rw [if_neg z_0] at hf
      rcases Classical.em ((kI s1 9 1) = 1) with z_1 | z_1
      · rw [if_pos z_1] at hf
        refine lv_aload_n hx hb dQ_insert_8 rfl (lv_at hl 0 rfl) ?_
        refine va_get (D := (dC, dI)) (ci := 0) (v := .int (kI s1 9 1)) (C := R_Q) (T := T_Q) (N := 3) hx hb hts uw_Q hown hK hP 6 rfl rfl 2 (by decide) (hts _ (List.mem_cons_of_mem _ wd_95)) (fun _ h9 => h9) rfl dQ_insert_9 ?_
        rw [show kI s1 9 1 = 1 from (show (kI s1 9 1) = _ from rfl).trans (by rw [z_1])]
        refine lv_istore_n (lv' := [(3, .int 1), (0, .ref (ad 6)), (1, .int rank), (2, .int value)]) hx hb dQ_insert_12 rfl hl (by decide) rfl (fun ls hl => ?_)
        refine lv_iload_n hx hb dQ_insert_13 rfl (lv_at hl 0 rfl) ?_
        refine lv_if_le (tgt := 63) hx hb dQ_insert_14 (by decide) (fun c9 => absurd c9 (by decide)) (fun _ => ?_)
        refine lv_aload_n hx hb dQ_insert_17 rfl (lv_at hl 1 rfl) ?_
        refine va_get (D := (dC, dI)) (ci := 0) (v := .ref (ad 8)) (C := R_Q) (T := T_Q) (N := 3) hx hb hts uw_Q hown hK hP 6 rfl rfl 0 (by decide) (hts _ (List.mem_cons_of_mem _ wd_93)) (fun _ h9 => h9) rfl dQ_insert_18 ?_
        refine lv_iload_n hx hb dQ_insert_21 rfl (lv_at hl 0 rfl) ?_
        refine lv_iconst (v := 1) hx hb dQ_insert_22 (by decide) ?_
        refine lv_isub hx hb dQ_insert_23 ?_
        refine lv_topi (fun z9 e9 => ?_)
        obtain rfl : z9 = 0 := e9.trans (by decide)
        refine va_iald hx hb hK hP 8 5 rfl rfl (kk_inl (by decide)) dQ_insert_24 ?_
        rw [kk_c0]
        refine lv_iload_n hx hb dQ_insert_25 rfl (lv_at hl 2 rfl) ?_
        refine lv_icmp_ge (tgt := 63) hx hb dQ_insert_26 (by decide) (fun c_26 => ?_) (fun c_26 => ?_)
        · rw [if_pos c_26] at hf
          refine lv_aload_n hx hb dQ_insert_63 rfl (lv_at hl 1 rfl) ?_
          refine va_get (D := (dC, dI)) (ci := 0) (v := .ref (ad 8)) (C := R_Q) (T := T_Q) (N := 3) hx hb hts uw_Q hown hK hP 6 rfl rfl 0 (by decide) (hts _ (List.mem_cons_of_mem _ wd_93)) (fun _ h9 => h9) rfl dQ_insert_64 ?_
          refine lv_iload_n hx hb dQ_insert_67 rfl (lv_at hl 0 rfl) ?_
          refine lv_iload_n hx hb dQ_insert_68 rfl (lv_at hl 2 rfl) ?_
          refine va_iast hx hb hK hP (kx_D hj) hS 8 5 rfl rfl (kk_inl (by decide)) dQ_insert_69 (fun H locs hP _ hS => ?_)
          rw [kk_c1] at hP
          replace hP := kx_u_a6 hP
          replace hw := kx_wf_I (f := 6) (i := 1) (v := rank) hw (by decide)
          refine lv_aload_n hx hb dQ_insert_70 rfl (lv_at hl 1 rfl) ?_
          refine va_get (D := (dC, dI)) (ci := 0) (v := .ref (ad 10)) (C := R_Q) (T := T_Q) (N := 3) hx hb hts uw_Q hown hK hP 6 rfl rfl 1 (by decide) (hts _ (List.mem_cons_of_mem _ wd_94)) (fun _ h9 => h9) rfl dQ_insert_71 ?_
          refine lv_iload_n hx hb dQ_insert_74 rfl (lv_at hl 0 rfl) ?_
          refine lv_iload_n hx hb dQ_insert_75 rfl (lv_at hl 3 rfl) ?_
          refine va_iast hx hb hK hP (kx_D hj) hS 10 7 rfl rfl (kk_inl (by decide)) dQ_insert_76 (fun H locs hP _ hS => ?_)
          rw [kk_c1] at hP
          replace hP := kx_u_a8 hP
          replace hw := kx_wf_I (f := 8) (i := 1) (v := value) hw (by decide)
          refine lv_aload_n hx hb dQ_insert_77 rfl (lv_at hl 1 rfl) ?_
          refine lv_dup hx hb dQ_insert_78 rfl ?_
          refine va_get (D := (dC, dI)) (ci := 0) (v := .int (kI (sI (sI s1 6 1 rank) 8 1 value) 9 1)) (C := R_Q) (T := T_Q) (N := 3) hx hb hts uw_Q hown hK hP 6 rfl rfl 2 (by decide) (hts _ (List.mem_cons_of_mem _ wd_95)) (fun _ h9 => h9) rfl dQ_insert_79 ?_
          refine lv_iconst (v := 1) hx hb dQ_insert_82 (by decide) ?_
          refine lv_iadd hx hb dQ_insert_83 ?_
          refine va_put (D := (dC, dI)) (ci := 0) (v := .int ((kI (sI (sI s1 6 1 rank) 8 1 value) 9 1) + 1)) (ty := .int) (C := R_Q) (T := T_Q) (N := 3) hx hb hts uw_Q ty_Q ty_Q_ok nm_Q hown hK hP (kx_D hj) hS 6 rfl rfl 2 (by decide) (hts _ (List.mem_cons_of_mem _ wd_95)) (fun _ h9 => h9) rfl (by decide +kernel) rfl rfl (Nat.le_of_ble_eq_true rfl) dQ_insert_84 (fun H locs hP _ hS => ?_)
          replace hP := kx_u_size1 hP
          replace hw : kx_wf (sI (sI (sI s1 6 1 rank) 8 1 value) 9 1 ((kI (sI (sI s1 6 1 rank) 8 1 value) 9 1) + 1)) := kx_wf_q (q := 1) (v := kI (sI (sI s1 6 1 rank) 8 1 value) 9 1 + 1) hw ⟨2, by decide, by rw [show kI (sI (sI s1 6 1 rank) 8 1 value) 9 1 = kI s1 9 1 from rfl, z_1]; decide⟩
          exact kk_vret hx hb hr hlocks hP hK hS ⟨hf.symm, hw⟩ dQ_insert_87
        · rw [if_neg c_26] at hf
          refine lv_aload_n hx hb dQ_insert_29 rfl (lv_at hl 1 rfl) ?_
          refine va_get (D := (dC, dI)) (ci := 0) (v := .ref (ad 8)) (C := R_Q) (T := T_Q) (N := 3) hx hb hts uw_Q hown hK hP 6 rfl rfl 0 (by decide) (hts _ (List.mem_cons_of_mem _ wd_93)) (fun _ h9 => h9) rfl dQ_insert_30 ?_
          refine lv_iload_n hx hb dQ_insert_33 rfl (lv_at hl 0 rfl) ?_
          refine lv_aload_n hx hb dQ_insert_34 rfl (lv_at hl 1 rfl) ?_
          refine va_get (D := (dC, dI)) (ci := 0) (v := .ref (ad 8)) (C := R_Q) (T := T_Q) (N := 3) hx hb hts uw_Q hown hK hP 6 rfl rfl 0 (by decide) (hts _ (List.mem_cons_of_mem _ wd_93)) (fun _ h9 => h9) rfl dQ_insert_35 ?_
          refine lv_iload_n hx hb dQ_insert_38 rfl (lv_at hl 0 rfl) ?_
          refine lv_iconst (v := 1) hx hb dQ_insert_39 (by decide) ?_
          refine lv_isub hx hb dQ_insert_40 ?_
          refine lv_topi (fun z9 e9 => ?_)
          obtain rfl : z9 = 0 := e9.trans (by decide)
          refine va_iald hx hb hK hP 8 5 rfl rfl (kk_inl (by decide)) dQ_insert_41 ?_
          rw [kk_c0]
          refine va_iast hx hb hK hP (kx_D hj) hS 8 5 rfl rfl (kk_inl (by decide)) dQ_insert_42 (fun H locs hP _ hS => ?_)
          rw [kk_c1] at hP
          replace hP := kx_u_a6 hP
          replace hw := kx_wf_I (f := 6) (i := 1) (v := kI s1 6 0) hw (by decide)
          refine lv_aload_n hx hb dQ_insert_43 rfl (lv_at hl 1 rfl) ?_
          refine va_get (D := (dC, dI)) (ci := 0) (v := .ref (ad 10)) (C := R_Q) (T := T_Q) (N := 3) hx hb hts uw_Q hown hK hP 6 rfl rfl 1 (by decide) (hts _ (List.mem_cons_of_mem _ wd_94)) (fun _ h9 => h9) rfl dQ_insert_44 ?_
          refine lv_iload_n hx hb dQ_insert_47 rfl (lv_at hl 0 rfl) ?_
          refine lv_aload_n hx hb dQ_insert_48 rfl (lv_at hl 1 rfl) ?_
          refine va_get (D := (dC, dI)) (ci := 0) (v := .ref (ad 10)) (C := R_Q) (T := T_Q) (N := 3) hx hb hts uw_Q hown hK hP 6 rfl rfl 1 (by decide) (hts _ (List.mem_cons_of_mem _ wd_94)) (fun _ h9 => h9) rfl dQ_insert_49 ?_
          refine lv_iload_n hx hb dQ_insert_52 rfl (lv_at hl 0 rfl) ?_
          refine lv_iconst (v := 1) hx hb dQ_insert_53 (by decide) ?_
          refine lv_isub hx hb dQ_insert_54 ?_
          refine lv_topi (fun z9 e9 => ?_)
          obtain rfl : z9 = 0 := e9.trans (by decide)
          refine va_iald hx hb hK hP 10 7 rfl rfl (kk_inl (by decide)) dQ_insert_55 ?_
          rw [kk_c0]
          refine va_iast hx hb hK hP (kx_D hj) hS 10 7 rfl rfl (kk_inl (by decide)) dQ_insert_56 (fun H locs hP _ hS => ?_)
          rw [kk_c1] at hP
          replace hP := kx_u_a8 hP
          replace hw := kx_wf_I (f := 8) (i := 1) (v := kI (sI s1 6 1 (kI s1 6 0)) 8 0) hw (by decide)
          refine lv_iinc (v := 0) (lv' := [(3, .int 0), (0, .ref (ad 6)), (1, .int rank), (2, .int value)]) hx hb dQ_insert_57 hl (k := 0) rfl (by decide) (by decide) rfl (fun ls hl => ?_)
          refine lv_goto (tgt := 13) hx hb dQ_insert_60 (by decide) ?_
          refine lv_iload_n hx hb dQ_insert_13 rfl (lv_at hl 0 rfl) ?_
          refine lv_if_le (tgt := 63) hx hb dQ_insert_14 (by decide) (fun _ => ?_) (fun c9 => absurd (by decide) c9)
          refine lv_aload_n hx hb dQ_insert_63 rfl (lv_at hl 1 rfl) ?_
          refine va_get (D := (dC, dI)) (ci := 0) (v := .ref (ad 8)) (C := R_Q) (T := T_Q) (N := 3) hx hb hts uw_Q hown hK hP 6 rfl rfl 0 (by decide) (hts _ (List.mem_cons_of_mem _ wd_93)) (fun _ h9 => h9) rfl dQ_insert_64 ?_
          refine lv_iload_n hx hb dQ_insert_67 rfl (lv_at hl 0 rfl) ?_
          refine lv_iload_n hx hb dQ_insert_68 rfl (lv_at hl 2 rfl) ?_
          refine va_iast hx hb hK hP (kx_D hj) hS 8 5 rfl rfl (kk_inl (by decide)) dQ_insert_69 (fun H locs hP _ hS => ?_)
          rw [kk_c0] at hP
          replace hP := kx_u_a6 hP
          replace hw := kx_wf_I (f := 6) (i := 0) (v := rank) hw (by decide)
          refine lv_aload_n hx hb dQ_insert_70 rfl (lv_at hl 1 rfl) ?_
          refine va_get (D := (dC, dI)) (ci := 0) (v := .ref (ad 10)) (C := R_Q) (T := T_Q) (N := 3) hx hb hts uw_Q hown hK hP 6 rfl rfl 1 (by decide) (hts _ (List.mem_cons_of_mem _ wd_94)) (fun _ h9 => h9) rfl dQ_insert_71 ?_
          refine lv_iload_n hx hb dQ_insert_74 rfl (lv_at hl 0 rfl) ?_
          refine lv_iload_n hx hb dQ_insert_75 rfl (lv_at hl 3 rfl) ?_
          refine va_iast hx hb hK hP (kx_D hj) hS 10 7 rfl rfl (kk_inl (by decide)) dQ_insert_76 (fun H locs hP _ hS => ?_)
          rw [kk_c0] at hP
          replace hP := kx_u_a8 hP
          replace hw := kx_wf_I (f := 8) (i := 0) (v := value) hw (by decide)
          refine lv_aload_n hx hb dQ_insert_77 rfl (lv_at hl 1 rfl) ?_
          refine lv_dup hx hb dQ_insert_78 rfl ?_
          refine va_get (D := (dC, dI)) (ci := 0) (v := .int (kI (sI (sI (sI (sI s1 6 1 (kI s1 6 0)) 8 1 (kI (sI s1 6 1 (kI s1 6 0)) 8 0)) 6 0 rank) 8 0 value) 9 1)) (C := R_Q) (T := T_Q) (N := 3) hx hb hts uw_Q hown hK hP 6 rfl rfl 2 (by decide) (hts _ (List.mem_cons_of_mem _ wd_95)) (fun _ h9 => h9) rfl dQ_insert_79 ?_
          refine lv_iconst (v := 1) hx hb dQ_insert_82 (by decide) ?_
          refine lv_iadd hx hb dQ_insert_83 ?_
          refine va_put (D := (dC, dI)) (ci := 0) (v := .int ((kI (sI (sI (sI (sI s1 6 1 (kI s1 6 0)) 8 1 (kI (sI s1 6 1 (kI s1 6 0)) 8 0)) 6 0 rank) 8 0 value) 9 1) + 1)) (ty := .int) (C := R_Q) (T := T_Q) (N := 3) hx hb hts uw_Q ty_Q ty_Q_ok nm_Q hown hK hP (kx_D hj) hS 6 rfl rfl 2 (by decide) (hts _ (List.mem_cons_of_mem _ wd_95)) (fun _ h9 => h9) rfl (by decide +kernel) rfl rfl (Nat.le_of_ble_eq_true rfl) dQ_insert_84 (fun H locs hP _ hS => ?_)
          replace hP := kx_u_size1 hP
          replace hw : kx_wf (sI (sI (sI (sI (sI s1 6 1 (kI s1 6 0)) 8 1 (kI (sI s1 6 1 (kI s1 6 0)) 8 0)) 6 0 rank) 8 0 value) 9 1 ((kI (sI (sI (sI (sI s1 6 1 (kI s1 6 0)) 8 1 (kI (sI s1 6 1 (kI s1 6 0)) 8 0)) 6 0 rank) 8 0 value) 9 1) + 1)) := kx_wf_q (q := 1) (v := kI (sI (sI (sI (sI s1 6 1 (kI s1 6 0)) 8 1 (kI (sI s1 6 1 (kI s1 6 0)) 8 0)) 6 0 rank) 8 0 value) 9 1 + 1) hw ⟨2, by decide, by rw [show kI (sI (sI (sI (sI s1 6 1 (kI s1 6 0)) 8 1 (kI (sI s1 6 1 (kI s1 6 0)) 8 0)) 6 0 rank) 8 0 value) 9 1 = kI s1 9 1 from rfl, z_1]; decide⟩
          exact kk_vret hx hb hr hlocks hP hK hS ⟨hf.symm, hw⟩ dQ_insert_87
      · rw [if_neg z_1] at hf
        rcases Classical.em ((kI s1 9 1) = 2) with z_2 | z_2
        · rw [if_pos z_2] at hf
          refine lv_aload_n hx hb dQ_insert_8 rfl (lv_at hl 0 rfl) ?_
          refine va_get (D := (dC, dI)) (ci := 0) (v := .int (kI s1 9 1)) (C := R_Q) (T := T_Q) (N := 3) hx hb hts uw_Q hown hK hP 6 rfl rfl 2 (by decide) (hts _ (List.mem_cons_of_mem _ wd_95)) (fun _ h9 => h9) rfl dQ_insert_9 ?_
          rw [show kI s1 9 1 = 2 from (show (kI s1 9 1) = _ from rfl).trans (by rw [z_2])]
          refine lv_istore_n (lv' := [(3, .int 2), (0, .ref (ad 6)), (1, .int rank), (2, .int value)]) hx hb dQ_insert_12 rfl hl (by decide) rfl (fun ls hl => ?_)
          refine lv_iload_n hx hb dQ_insert_13 rfl (lv_at hl 0 rfl) ?_
          refine lv_if_le (tgt := 63) hx hb dQ_insert_14 (by decide) (fun c9 => absurd c9 (by decide)) (fun _ => ?_)
          refine lv_aload_n hx hb dQ_insert_17 rfl (lv_at hl 1 rfl) ?_
          refine va_get (D := (dC, dI)) (ci := 0) (v := .ref (ad 8)) (C := R_Q) (T := T_Q) (N := 3) hx hb hts uw_Q hown hK hP 6 rfl rfl 0 (by decide) (hts _ (List.mem_cons_of_mem _ wd_93)) (fun _ h9 => h9) rfl dQ_insert_18 ?_
          refine lv_iload_n hx hb dQ_insert_21 rfl (lv_at hl 0 rfl) ?_
          refine lv_iconst (v := 1) hx hb dQ_insert_22 (by decide) ?_
          refine lv_isub hx hb dQ_insert_23 ?_
          refine lv_topi (fun z9 e9 => ?_)
          obtain rfl : z9 = 1 := e9.trans (by decide)
          refine va_iald hx hb hK hP 8 5 rfl rfl (kk_inl (by decide)) dQ_insert_24 ?_
          rw [kk_c1]
          refine lv_iload_n hx hb dQ_insert_25 rfl (lv_at hl 2 rfl) ?_
          refine lv_icmp_ge (tgt := 63) hx hb dQ_insert_26 (by decide) (fun c_26 => ?_) (fun c_26 => ?_)
          · rw [if_pos c_26] at hf
            refine lv_aload_n hx hb dQ_insert_63 rfl (lv_at hl 1 rfl) ?_
            refine va_get (D := (dC, dI)) (ci := 0) (v := .ref (ad 8)) (C := R_Q) (T := T_Q) (N := 3) hx hb hts uw_Q hown hK hP 6 rfl rfl 0 (by decide) (hts _ (List.mem_cons_of_mem _ wd_93)) (fun _ h9 => h9) rfl dQ_insert_64 ?_
            refine lv_iload_n hx hb dQ_insert_67 rfl (lv_at hl 0 rfl) ?_
            refine lv_iload_n hx hb dQ_insert_68 rfl (lv_at hl 2 rfl) ?_
            refine va_iast hx hb hK hP (kx_D hj) hS 8 5 rfl rfl (kk_inl (by decide)) dQ_insert_69 (fun H locs hP _ hS => ?_)
            rw [kk_c2] at hP
            replace hP := kx_u_a6 hP
            replace hw := kx_wf_I (f := 6) (i := 2) (v := rank) hw (by decide)
            refine lv_aload_n hx hb dQ_insert_70 rfl (lv_at hl 1 rfl) ?_
            refine va_get (D := (dC, dI)) (ci := 0) (v := .ref (ad 10)) (C := R_Q) (T := T_Q) (N := 3) hx hb hts uw_Q hown hK hP 6 rfl rfl 1 (by decide) (hts _ (List.mem_cons_of_mem _ wd_94)) (fun _ h9 => h9) rfl dQ_insert_71 ?_
            refine lv_iload_n hx hb dQ_insert_74 rfl (lv_at hl 0 rfl) ?_
            refine lv_iload_n hx hb dQ_insert_75 rfl (lv_at hl 3 rfl) ?_
            refine va_iast hx hb hK hP (kx_D hj) hS 10 7 rfl rfl (kk_inl (by decide)) dQ_insert_76 (fun H locs hP _ hS => ?_)
            rw [kk_c2] at hP
            replace hP := kx_u_a8 hP
            replace hw := kx_wf_I (f := 8) (i := 2) (v := value) hw (by decide)
            refine lv_aload_n hx hb dQ_insert_77 rfl (lv_at hl 1 rfl) ?_
            refine lv_dup hx hb dQ_insert_78 rfl ?_
            refine va_get (D := (dC, dI)) (ci := 0) (v := .int (kI (sI (sI s1 6 2 rank) 8 2 value) 9 1)) (C := R_Q) (T := T_Q) (N := 3) hx hb hts uw_Q hown hK hP 6 rfl rfl 2 (by decide) (hts _ (List.mem_cons_of_mem _ wd_95)) (fun _ h9 => h9) rfl dQ_insert_79 ?_
            refine lv_iconst (v := 1) hx hb dQ_insert_82 (by decide) ?_
            refine lv_iadd hx hb dQ_insert_83 ?_
            refine va_put (D := (dC, dI)) (ci := 0) (v := .int ((kI (sI (sI s1 6 2 rank) 8 2 value) 9 1) + 1)) (ty := .int) (C := R_Q) (T := T_Q) (N := 3) hx hb hts uw_Q ty_Q ty_Q_ok nm_Q hown hK hP (kx_D hj) hS 6 rfl rfl 2 (by decide) (hts _ (List.mem_cons_of_mem _ wd_95)) (fun _ h9 => h9) rfl (by decide +kernel) rfl rfl (Nat.le_of_ble_eq_true rfl) dQ_insert_84 (fun H locs hP _ hS => ?_)
            replace hP := kx_u_size1 hP
            replace hw : kx_wf (sI (sI (sI s1 6 2 rank) 8 2 value) 9 1 ((kI (sI (sI s1 6 2 rank) 8 2 value) 9 1) + 1)) := kx_wf_q (q := 1) (v := kI (sI (sI s1 6 2 rank) 8 2 value) 9 1 + 1) hw ⟨3, by decide, by rw [show kI (sI (sI s1 6 2 rank) 8 2 value) 9 1 = kI s1 9 1 from rfl, z_2]; decide⟩
            exact kk_vret hx hb hr hlocks hP hK hS ⟨hf.symm, hw⟩ dQ_insert_87
          · rw [if_neg c_26] at hf
            refine lv_aload_n hx hb dQ_insert_29 rfl (lv_at hl 1 rfl) ?_
            refine va_get (D := (dC, dI)) (ci := 0) (v := .ref (ad 8)) (C := R_Q) (T := T_Q) (N := 3) hx hb hts uw_Q hown hK hP 6 rfl rfl 0 (by decide) (hts _ (List.mem_cons_of_mem _ wd_93)) (fun _ h9 => h9) rfl dQ_insert_30 ?_
            refine lv_iload_n hx hb dQ_insert_33 rfl (lv_at hl 0 rfl) ?_
            refine lv_aload_n hx hb dQ_insert_34 rfl (lv_at hl 1 rfl) ?_
            refine va_get (D := (dC, dI)) (ci := 0) (v := .ref (ad 8)) (C := R_Q) (T := T_Q) (N := 3) hx hb hts uw_Q hown hK hP 6 rfl rfl 0 (by decide) (hts _ (List.mem_cons_of_mem _ wd_93)) (fun _ h9 => h9) rfl dQ_insert_35 ?_
            refine lv_iload_n hx hb dQ_insert_38 rfl (lv_at hl 0 rfl) ?_
            refine lv_iconst (v := 1) hx hb dQ_insert_39 (by decide) ?_
            refine lv_isub hx hb dQ_insert_40 ?_
            refine lv_topi (fun z9 e9 => ?_)
            obtain rfl : z9 = 1 := e9.trans (by decide)
            refine va_iald hx hb hK hP 8 5 rfl rfl (kk_inl (by decide)) dQ_insert_41 ?_
            rw [kk_c1]
            refine va_iast hx hb hK hP (kx_D hj) hS 8 5 rfl rfl (kk_inl (by decide)) dQ_insert_42 (fun H locs hP _ hS => ?_)
            rw [kk_c2] at hP
            replace hP := kx_u_a6 hP
            replace hw := kx_wf_I (f := 6) (i := 2) (v := kI s1 6 1) hw (by decide)
            refine lv_aload_n hx hb dQ_insert_43 rfl (lv_at hl 1 rfl) ?_
            refine va_get (D := (dC, dI)) (ci := 0) (v := .ref (ad 10)) (C := R_Q) (T := T_Q) (N := 3) hx hb hts uw_Q hown hK hP 6 rfl rfl 1 (by decide) (hts _ (List.mem_cons_of_mem _ wd_94)) (fun _ h9 => h9) rfl dQ_insert_44 ?_
            refine lv_iload_n hx hb dQ_insert_47 rfl (lv_at hl 0 rfl) ?_
            refine lv_aload_n hx hb dQ_insert_48 rfl (lv_at hl 1 rfl) ?_
            refine va_get (D := (dC, dI)) (ci := 0) (v := .ref (ad 10)) (C := R_Q) (T := T_Q) (N := 3) hx hb hts uw_Q hown hK hP 6 rfl rfl 1 (by decide) (hts _ (List.mem_cons_of_mem _ wd_94)) (fun _ h9 => h9) rfl dQ_insert_49 ?_
            refine lv_iload_n hx hb dQ_insert_52 rfl (lv_at hl 0 rfl) ?_
            refine lv_iconst (v := 1) hx hb dQ_insert_53 (by decide) ?_
            refine lv_isub hx hb dQ_insert_54 ?_
            refine lv_topi (fun z9 e9 => ?_)
            obtain rfl : z9 = 1 := e9.trans (by decide)
            refine va_iald hx hb hK hP 10 7 rfl rfl (kk_inl (by decide)) dQ_insert_55 ?_
            rw [kk_c1]
            refine va_iast hx hb hK hP (kx_D hj) hS 10 7 rfl rfl (kk_inl (by decide)) dQ_insert_56 (fun H locs hP _ hS => ?_)
            rw [kk_c2] at hP
            replace hP := kx_u_a8 hP
            replace hw := kx_wf_I (f := 8) (i := 2) (v := kI (sI s1 6 2 (kI s1 6 1)) 8 1) hw (by decide)
            refine lv_iinc (v := 1) (lv' := [(3, .int 1), (0, .ref (ad 6)), (1, .int rank), (2, .int value)]) hx hb dQ_insert_57 hl (k := 0) rfl (by decide) (by decide) rfl (fun ls hl => ?_)
            refine lv_goto (tgt := 13) hx hb dQ_insert_60 (by decide) ?_
            refine lv_iload_n hx hb dQ_insert_13 rfl (lv_at hl 0 rfl) ?_
            refine lv_if_le (tgt := 63) hx hb dQ_insert_14 (by decide) (fun c9 => absurd c9 (by decide)) (fun _ => ?_)
            refine lv_aload_n hx hb dQ_insert_17 rfl (lv_at hl 1 rfl) ?_
            refine va_get (D := (dC, dI)) (ci := 0) (v := .ref (ad 8)) (C := R_Q) (T := T_Q) (N := 3) hx hb hts uw_Q hown hK hP 6 rfl rfl 0 (by decide) (hts _ (List.mem_cons_of_mem _ wd_93)) (fun _ h9 => h9) rfl dQ_insert_18 ?_
            refine lv_iload_n hx hb dQ_insert_21 rfl (lv_at hl 0 rfl) ?_
            refine lv_iconst (v := 1) hx hb dQ_insert_22 (by decide) ?_
            refine lv_isub hx hb dQ_insert_23 ?_
            refine lv_topi (fun z9 e9 => ?_)
            obtain rfl : z9 = 0 := e9.trans (by decide)
            refine va_iald hx hb hK hP 8 5 rfl rfl (kk_inl (by decide)) dQ_insert_24 ?_
            rw [kk_c0]
            refine lv_iload_n hx hb dQ_insert_25 rfl (lv_at hl 2 rfl) ?_
            refine lv_icmp_ge (tgt := 63) hx hb dQ_insert_26 (by decide) (fun c_26 => ?_) (fun c_26 => ?_)
            · rw [if_pos c_26] at hf
              refine lv_aload_n hx hb dQ_insert_63 rfl (lv_at hl 1 rfl) ?_
              refine va_get (D := (dC, dI)) (ci := 0) (v := .ref (ad 8)) (C := R_Q) (T := T_Q) (N := 3) hx hb hts uw_Q hown hK hP 6 rfl rfl 0 (by decide) (hts _ (List.mem_cons_of_mem _ wd_93)) (fun _ h9 => h9) rfl dQ_insert_64 ?_
              refine lv_iload_n hx hb dQ_insert_67 rfl (lv_at hl 0 rfl) ?_
              refine lv_iload_n hx hb dQ_insert_68 rfl (lv_at hl 2 rfl) ?_
              refine va_iast hx hb hK hP (kx_D hj) hS 8 5 rfl rfl (kk_inl (by decide)) dQ_insert_69 (fun H locs hP _ hS => ?_)
              rw [kk_c1] at hP
              replace hP := kx_u_a6 hP
              replace hw := kx_wf_I (f := 6) (i := 1) (v := rank) hw (by decide)
              refine lv_aload_n hx hb dQ_insert_70 rfl (lv_at hl 1 rfl) ?_
              refine va_get (D := (dC, dI)) (ci := 0) (v := .ref (ad 10)) (C := R_Q) (T := T_Q) (N := 3) hx hb hts uw_Q hown hK hP 6 rfl rfl 1 (by decide) (hts _ (List.mem_cons_of_mem _ wd_94)) (fun _ h9 => h9) rfl dQ_insert_71 ?_
              refine lv_iload_n hx hb dQ_insert_74 rfl (lv_at hl 0 rfl) ?_
              refine lv_iload_n hx hb dQ_insert_75 rfl (lv_at hl 3 rfl) ?_
              refine va_iast hx hb hK hP (kx_D hj) hS 10 7 rfl rfl (kk_inl (by decide)) dQ_insert_76 (fun H locs hP _ hS => ?_)
              rw [kk_c1] at hP
              replace hP := kx_u_a8 hP
              replace hw := kx_wf_I (f := 8) (i := 1) (v := value) hw (by decide)
              refine lv_aload_n hx hb dQ_insert_77 rfl (lv_at hl 1 rfl) ?_
              refine lv_dup hx hb dQ_insert_78 rfl ?_
              refine va_get (D := (dC, dI)) (ci := 0) (v := .int (kI (sI (sI (sI (sI s1 6 2 (kI s1 6 1)) 8 2 (kI (sI s1 6 2 (kI s1 6 1)) 8 1)) 6 1 rank) 8 1 value) 9 1)) (C := R_Q) (T := T_Q) (N := 3) hx hb hts uw_Q hown hK hP 6 rfl rfl 2 (by decide) (hts _ (List.mem_cons_of_mem _ wd_95)) (fun _ h9 => h9) rfl dQ_insert_79 ?_
              refine lv_iconst (v := 1) hx hb dQ_insert_82 (by decide) ?_
              refine lv_iadd hx hb dQ_insert_83 ?_
              refine va_put (D := (dC, dI)) (ci := 0) (v := .int ((kI (sI (sI (sI (sI s1 6 2 (kI s1 6 1)) 8 2 (kI (sI s1 6 2 (kI s1 6 1)) 8 1)) 6 1 rank) 8 1 value) 9 1) + 1)) (ty := .int) (C := R_Q) (T := T_Q) (N := 3) hx hb hts uw_Q ty_Q ty_Q_ok nm_Q hown hK hP (kx_D hj) hS 6 rfl rfl 2 (by decide) (hts _ (List.mem_cons_of_mem _ wd_95)) (fun _ h9 => h9) rfl (by decide +kernel) rfl rfl (Nat.le_of_ble_eq_true rfl) dQ_insert_84 (fun H locs hP _ hS => ?_)
              replace hP := kx_u_size1 hP
              replace hw : kx_wf (sI (sI (sI (sI (sI s1 6 2 (kI s1 6 1)) 8 2 (kI (sI s1 6 2 (kI s1 6 1)) 8 1)) 6 1 rank) 8 1 value) 9 1 ((kI (sI (sI (sI (sI s1 6 2 (kI s1 6 1)) 8 2 (kI (sI s1 6 2 (kI s1 6 1)) 8 1)) 6 1 rank) 8 1 value) 9 1) + 1)) := kx_wf_q (q := 1) (v := kI (sI (sI (sI (sI s1 6 2 (kI s1 6 1)) 8 2 (kI (sI s1 6 2 (kI s1 6 1)) 8 1)) 6 1 rank) 8 1 value) 9 1 + 1) hw ⟨3, by decide, by rw [show kI (sI (sI (sI (sI s1 6 2 (kI s1 6 1)) 8 2 (kI (sI s1 6 2 (kI s1 6 1)) 8 1)) 6 1 rank) 8 1 value) 9 1 = kI s1 9 1 from rfl, z_2]; decide⟩
              exact kk_vret hx hb hr hlocks hP hK hS ⟨hf.symm, hw⟩ dQ_insert_87
            · rw [if_neg c_26] at hf
              refine lv_aload_n hx hb dQ_insert_29 rfl (lv_at hl 1 rfl) ?_
              refine va_get (D := (dC, dI)) (ci := 0) (v := .ref (ad 8)) (C := R_Q) (T := T_Q) (N := 3) hx hb hts uw_Q hown hK hP 6 rfl rfl 0 (by decide) (hts _ (List.mem_cons_of_mem _ wd_93)) (fun _ h9 => h9) rfl dQ_insert_30 ?_
              refine lv_iload_n hx hb dQ_insert_33 rfl (lv_at hl 0 rfl) ?_
              refine lv_aload_n hx hb dQ_insert_34 rfl (lv_at hl 1 rfl) ?_
              refine va_get (D := (dC, dI)) (ci := 0) (v := .ref (ad 8)) (C := R_Q) (T := T_Q) (N := 3) hx hb hts uw_Q hown hK hP 6 rfl rfl 0 (by decide) (hts _ (List.mem_cons_of_mem _ wd_93)) (fun _ h9 => h9) rfl dQ_insert_35 ?_
              refine lv_iload_n hx hb dQ_insert_38 rfl (lv_at hl 0 rfl) ?_
              refine lv_iconst (v := 1) hx hb dQ_insert_39 (by decide) ?_
              refine lv_isub hx hb dQ_insert_40 ?_
              refine lv_topi (fun z9 e9 => ?_)
              obtain rfl : z9 = 0 := e9.trans (by decide)
              refine va_iald hx hb hK hP 8 5 rfl rfl (kk_inl (by decide)) dQ_insert_41 ?_
              rw [kk_c0]
              refine va_iast hx hb hK hP (kx_D hj) hS 8 5 rfl rfl (kk_inl (by decide)) dQ_insert_42 (fun H locs hP _ hS => ?_)
              rw [kk_c1] at hP
              replace hP := kx_u_a6 hP
              replace hw := kx_wf_I (f := 6) (i := 1) (v := kI (sI (sI s1 6 2 (kI s1 6 1)) 8 2 (kI (sI s1 6 2 (kI s1 6 1)) 8 1)) 6 0) hw (by decide)
              refine lv_aload_n hx hb dQ_insert_43 rfl (lv_at hl 1 rfl) ?_
              refine va_get (D := (dC, dI)) (ci := 0) (v := .ref (ad 10)) (C := R_Q) (T := T_Q) (N := 3) hx hb hts uw_Q hown hK hP 6 rfl rfl 1 (by decide) (hts _ (List.mem_cons_of_mem _ wd_94)) (fun _ h9 => h9) rfl dQ_insert_44 ?_
              refine lv_iload_n hx hb dQ_insert_47 rfl (lv_at hl 0 rfl) ?_
              refine lv_aload_n hx hb dQ_insert_48 rfl (lv_at hl 1 rfl) ?_
              refine va_get (D := (dC, dI)) (ci := 0) (v := .ref (ad 10)) (C := R_Q) (T := T_Q) (N := 3) hx hb hts uw_Q hown hK hP 6 rfl rfl 1 (by decide) (hts _ (List.mem_cons_of_mem _ wd_94)) (fun _ h9 => h9) rfl dQ_insert_49 ?_
              refine lv_iload_n hx hb dQ_insert_52 rfl (lv_at hl 0 rfl) ?_
              refine lv_iconst (v := 1) hx hb dQ_insert_53 (by decide) ?_
              refine lv_isub hx hb dQ_insert_54 ?_
              refine lv_topi (fun z9 e9 => ?_)
              obtain rfl : z9 = 0 := e9.trans (by decide)
              refine va_iald hx hb hK hP 10 7 rfl rfl (kk_inl (by decide)) dQ_insert_55 ?_
              rw [kk_c0]
              refine va_iast hx hb hK hP (kx_D hj) hS 10 7 rfl rfl (kk_inl (by decide)) dQ_insert_56 (fun H locs hP _ hS => ?_)
              rw [kk_c1] at hP
              replace hP := kx_u_a8 hP
              replace hw := kx_wf_I (f := 8) (i := 1) (v := kI (sI (sI (sI s1 6 2 (kI s1 6 1)) 8 2 (kI (sI s1 6 2 (kI s1 6 1)) 8 1)) 6 1 (kI (sI (sI s1 6 2 (kI s1 6 1)) 8 2 (kI (sI s1 6 2 (kI s1 6 1)) 8 1)) 6 0)) 8 0) hw (by decide)
              refine lv_iinc (v := 0) (lv' := [(3, .int 0), (0, .ref (ad 6)), (1, .int rank), (2, .int value)]) hx hb dQ_insert_57 hl (k := 0) rfl (by decide) (by decide) rfl (fun ls hl => ?_)
              refine lv_goto (tgt := 13) hx hb dQ_insert_60 (by decide) ?_
              refine lv_iload_n hx hb dQ_insert_13 rfl (lv_at hl 0 rfl) ?_
              refine lv_if_le (tgt := 63) hx hb dQ_insert_14 (by decide) (fun _ => ?_) (fun c9 => absurd (by decide) c9)
              refine lv_aload_n hx hb dQ_insert_63 rfl (lv_at hl 1 rfl) ?_
              refine va_get (D := (dC, dI)) (ci := 0) (v := .ref (ad 8)) (C := R_Q) (T := T_Q) (N := 3) hx hb hts uw_Q hown hK hP 6 rfl rfl 0 (by decide) (hts _ (List.mem_cons_of_mem _ wd_93)) (fun _ h9 => h9) rfl dQ_insert_64 ?_
              refine lv_iload_n hx hb dQ_insert_67 rfl (lv_at hl 0 rfl) ?_
              refine lv_iload_n hx hb dQ_insert_68 rfl (lv_at hl 2 rfl) ?_
              refine va_iast hx hb hK hP (kx_D hj) hS 8 5 rfl rfl (kk_inl (by decide)) dQ_insert_69 (fun H locs hP _ hS => ?_)
              rw [kk_c0] at hP
              replace hP := kx_u_a6 hP
              replace hw := kx_wf_I (f := 6) (i := 0) (v := rank) hw (by decide)
              refine lv_aload_n hx hb dQ_insert_70 rfl (lv_at hl 1 rfl) ?_
              refine va_get (D := (dC, dI)) (ci := 0) (v := .ref (ad 10)) (C := R_Q) (T := T_Q) (N := 3) hx hb hts uw_Q hown hK hP 6 rfl rfl 1 (by decide) (hts _ (List.mem_cons_of_mem _ wd_94)) (fun _ h9 => h9) rfl dQ_insert_71 ?_
              refine lv_iload_n hx hb dQ_insert_74 rfl (lv_at hl 0 rfl) ?_
              refine lv_iload_n hx hb dQ_insert_75 rfl (lv_at hl 3 rfl) ?_
              refine va_iast hx hb hK hP (kx_D hj) hS 10 7 rfl rfl (kk_inl (by decide)) dQ_insert_76 (fun H locs hP _ hS => ?_)
              rw [kk_c0] at hP
              replace hP := kx_u_a8 hP
              replace hw := kx_wf_I (f := 8) (i := 0) (v := value) hw (by decide)
              refine lv_aload_n hx hb dQ_insert_77 rfl (lv_at hl 1 rfl) ?_
              refine lv_dup hx hb dQ_insert_78 rfl ?_
              refine va_get (D := (dC, dI)) (ci := 0) (v := .int (kI (sI (sI (sI (sI (sI (sI s1 6 2 (kI s1 6 1)) 8 2 (kI (sI s1 6 2 (kI s1 6 1)) 8 1)) 6 1 (kI (sI (sI s1 6 2 (kI s1 6 1)) 8 2 (kI (sI s1 6 2 (kI s1 6 1)) 8 1)) 6 0)) 8 1 (kI (sI (sI (sI s1 6 2 (kI s1 6 1)) 8 2 (kI (sI s1 6 2 (kI s1 6 1)) 8 1)) 6 1 (kI (sI (sI s1 6 2 (kI s1 6 1)) 8 2 (kI (sI s1 6 2 (kI s1 6 1)) 8 1)) 6 0)) 8 0)) 6 0 rank) 8 0 value) 9 1)) (C := R_Q) (T := T_Q) (N := 3) hx hb hts uw_Q hown hK hP 6 rfl rfl 2 (by decide) (hts _ (List.mem_cons_of_mem _ wd_95)) (fun _ h9 => h9) rfl dQ_insert_79 ?_
              refine lv_iconst (v := 1) hx hb dQ_insert_82 (by decide) ?_
              refine lv_iadd hx hb dQ_insert_83 ?_
              refine va_put (D := (dC, dI)) (ci := 0) (v := .int ((kI (sI (sI (sI (sI (sI (sI s1 6 2 (kI s1 6 1)) 8 2 (kI (sI s1 6 2 (kI s1 6 1)) 8 1)) 6 1 (kI (sI (sI s1 6 2 (kI s1 6 1)) 8 2 (kI (sI s1 6 2 (kI s1 6 1)) 8 1)) 6 0)) 8 1 (kI (sI (sI (sI s1 6 2 (kI s1 6 1)) 8 2 (kI (sI s1 6 2 (kI s1 6 1)) 8 1)) 6 1 (kI (sI (sI s1 6 2 (kI s1 6 1)) 8 2 (kI (sI s1 6 2 (kI s1 6 1)) 8 1)) 6 0)) 8 0)) 6 0 rank) 8 0 value) 9 1) + 1)) (ty := .int) (C := R_Q) (T := T_Q) (N := 3) hx hb hts uw_Q ty_Q ty_Q_ok nm_Q hown hK hP (kx_D hj) hS 6 rfl rfl 2 (by decide) (hts _ (List.mem_cons_of_mem _ wd_95)) (fun _ h9 => h9) rfl (by decide +kernel) rfl rfl (Nat.le_of_ble_eq_true rfl) dQ_insert_84 (fun H locs hP _ hS => ?_)
              replace hP := kx_u_size1 hP
              replace hw : kx_wf (sI (sI (sI (sI (sI (sI (sI s1 6 2 (kI s1 6 1)) 8 2 (kI (sI s1 6 2 (kI s1 6 1)) 8 1)) 6 1 (kI (sI (sI s1 6 2 (kI s1 6 1)) 8 2 (kI (sI s1 6 2 (kI s1 6 1)) 8 1)) 6 0)) 8 1 (kI (sI (sI (sI s1 6 2 (kI s1 6 1)) 8 2 (kI (sI s1 6 2 (kI s1 6 1)) 8 1)) 6 1 (kI (sI (sI s1 6 2 (kI s1 6 1)) 8 2 (kI (sI s1 6 2 (kI s1 6 1)) 8 1)) 6 0)) 8 0)) 6 0 rank) 8 0 value) 9 1 ((kI (sI (sI (sI (sI (sI (sI s1 6 2 (kI s1 6 1)) 8 2 (kI (sI s1 6 2 (kI s1 6 1)) 8 1)) 6 1 (kI (sI (sI s1 6 2 (kI s1 6 1)) 8 2 (kI (sI s1 6 2 (kI s1 6 1)) 8 1)) 6 0)) 8 1 (kI (sI (sI (sI s1 6 2 (kI s1 6 1)) 8 2 (kI (sI s1 6 2 (kI s1 6 1)) 8 1)) 6 1 (kI (sI (sI s1 6 2 (kI s1 6 1)) 8 2 (kI (sI s1 6 2 (kI s1 6 1)) 8 1)) 6 0)) 8 0)) 6 0 rank) 8 0 value) 9 1) + 1)) := kx_wf_q (q := 1) (v := kI (sI (sI (sI (sI (sI (sI s1 6 2 (kI s1 6 1)) 8 2 (kI (sI s1 6 2 (kI s1 6 1)) 8 1)) 6 1 (kI (sI (sI s1 6 2 (kI s1 6 1)) 8 2 (kI (sI s1 6 2 (kI s1 6 1)) 8 1)) 6 0)) 8 1 (kI (sI (sI (sI s1 6 2 (kI s1 6 1)) 8 2 (kI (sI s1 6 2 (kI s1 6 1)) 8 1)) 6 1 (kI (sI (sI s1 6 2 (kI s1 6 1)) 8 2 (kI (sI s1 6 2 (kI s1 6 1)) 8 1)) 6 0)) 8 0)) 6 0 rank) 8 0 value) 9 1 + 1) hw ⟨3, by decide, by rw [show kI (sI (sI (sI (sI (sI (sI s1 6 2 (kI s1 6 1)) 8 2 (kI (sI s1 6 2 (kI s1 6 1)) 8 1)) 6 1 (kI (sI (sI s1 6 2 (kI s1 6 1)) 8 2 (kI (sI s1 6 2 (kI s1 6 1)) 8 1)) 6 0)) 8 1 (kI (sI (sI (sI s1 6 2 (kI s1 6 1)) 8 2 (kI (sI s1 6 2 (kI s1 6 1)) 8 1)) 6 1 (kI (sI (sI s1 6 2 (kI s1 6 1)) 8 2 (kI (sI s1 6 2 (kI s1 6 1)) 8 1)) 6 0)) 8 0)) 6 0 rank) 8 0 value) 9 1 = kI s1 9 1 from rfl, z_2]; decide⟩
              exact kk_vret hx hb hr hlocks hP hK hS ⟨hf.symm, hw⟩ dQ_insert_87
        · rw [if_neg z_2] at hf
          have z_3 : (kI s1 9 1) = 3 := kx_sz3 (hw.2.2 1 (by decide)) z_0 z_1 z_2 (kx_nfull_1 h1 c_4)
          refine lv_aload_n hx hb dQ_insert_8 rfl (lv_at hl 0 rfl) ?_
          refine va_get (D := (dC, dI)) (ci := 0) (v := .int (kI s1 9 1)) (C := R_Q) (T := T_Q) (N := 3) hx hb hts uw_Q hown hK hP 6 rfl rfl 2 (by decide) (hts _ (List.mem_cons_of_mem _ wd_95)) (fun _ h9 => h9) rfl dQ_insert_9 ?_
          rw [show kI s1 9 1 = 3 from (show (kI s1 9 1) = _ from rfl).trans (by rw [z_3])]
          refine lv_istore_n (lv' := [(3, .int 3), (0, .ref (ad 6)), (1, .int rank), (2, .int value)]) hx hb dQ_insert_12 rfl hl (by decide) rfl (fun ls hl => ?_)
          refine lv_iload_n hx hb dQ_insert_13 rfl (lv_at hl 0 rfl) ?_
          refine lv_if_le (tgt := 63) hx hb dQ_insert_14 (by decide) (fun c9 => absurd c9 (by decide)) (fun _ => ?_)
          refine lv_aload_n hx hb dQ_insert_17 rfl (lv_at hl 1 rfl) ?_
          refine va_get (D := (dC, dI)) (ci := 0) (v := .ref (ad 8)) (C := R_Q) (T := T_Q) (N := 3) hx hb hts uw_Q hown hK hP 6 rfl rfl 0 (by decide) (hts _ (List.mem_cons_of_mem _ wd_93)) (fun _ h9 => h9) rfl dQ_insert_18 ?_
          refine lv_iload_n hx hb dQ_insert_21 rfl (lv_at hl 0 rfl) ?_
          refine lv_iconst (v := 1) hx hb dQ_insert_22 (by decide) ?_
          refine lv_isub hx hb dQ_insert_23 ?_
          refine lv_topi (fun z9 e9 => ?_)
          obtain rfl : z9 = 2 := e9.trans (by decide)
          refine va_iald hx hb hK hP 8 5 rfl rfl (kk_inl (by decide)) dQ_insert_24 ?_
          rw [kk_c2]
          refine lv_iload_n hx hb dQ_insert_25 rfl (lv_at hl 2 rfl) ?_
          refine lv_icmp_ge (tgt := 63) hx hb dQ_insert_26 (by decide) (fun c_26 => ?_) (fun c_26 => ?_)
          · rw [if_pos c_26] at hf
            refine lv_aload_n hx hb dQ_insert_63 rfl (lv_at hl 1 rfl) ?_
            refine va_get (D := (dC, dI)) (ci := 0) (v := .ref (ad 8)) (C := R_Q) (T := T_Q) (N := 3) hx hb hts uw_Q hown hK hP 6 rfl rfl 0 (by decide) (hts _ (List.mem_cons_of_mem _ wd_93)) (fun _ h9 => h9) rfl dQ_insert_64 ?_
            refine lv_iload_n hx hb dQ_insert_67 rfl (lv_at hl 0 rfl) ?_
            refine lv_iload_n hx hb dQ_insert_68 rfl (lv_at hl 2 rfl) ?_
            refine va_iast hx hb hK hP (kx_D hj) hS 8 5 rfl rfl (kk_inl (by decide)) dQ_insert_69 (fun H locs hP _ hS => ?_)
            rw [kk_c3] at hP
            replace hP := kx_u_a6 hP
            replace hw := kx_wf_I (f := 6) (i := 3) (v := rank) hw (by decide)
            refine lv_aload_n hx hb dQ_insert_70 rfl (lv_at hl 1 rfl) ?_
            refine va_get (D := (dC, dI)) (ci := 0) (v := .ref (ad 10)) (C := R_Q) (T := T_Q) (N := 3) hx hb hts uw_Q hown hK hP 6 rfl rfl 1 (by decide) (hts _ (List.mem_cons_of_mem _ wd_94)) (fun _ h9 => h9) rfl dQ_insert_71 ?_
            refine lv_iload_n hx hb dQ_insert_74 rfl (lv_at hl 0 rfl) ?_
            refine lv_iload_n hx hb dQ_insert_75 rfl (lv_at hl 3 rfl) ?_
            refine va_iast hx hb hK hP (kx_D hj) hS 10 7 rfl rfl (kk_inl (by decide)) dQ_insert_76 (fun H locs hP _ hS => ?_)
            rw [kk_c3] at hP
            replace hP := kx_u_a8 hP
            replace hw := kx_wf_I (f := 8) (i := 3) (v := value) hw (by decide)
            refine lv_aload_n hx hb dQ_insert_77 rfl (lv_at hl 1 rfl) ?_
            refine lv_dup hx hb dQ_insert_78 rfl ?_
            refine va_get (D := (dC, dI)) (ci := 0) (v := .int (kI (sI (sI s1 6 3 rank) 8 3 value) 9 1)) (C := R_Q) (T := T_Q) (N := 3) hx hb hts uw_Q hown hK hP 6 rfl rfl 2 (by decide) (hts _ (List.mem_cons_of_mem _ wd_95)) (fun _ h9 => h9) rfl dQ_insert_79 ?_
            refine lv_iconst (v := 1) hx hb dQ_insert_82 (by decide) ?_
            refine lv_iadd hx hb dQ_insert_83 ?_
            refine va_put (D := (dC, dI)) (ci := 0) (v := .int ((kI (sI (sI s1 6 3 rank) 8 3 value) 9 1) + 1)) (ty := .int) (C := R_Q) (T := T_Q) (N := 3) hx hb hts uw_Q ty_Q ty_Q_ok nm_Q hown hK hP (kx_D hj) hS 6 rfl rfl 2 (by decide) (hts _ (List.mem_cons_of_mem _ wd_95)) (fun _ h9 => h9) rfl (by decide +kernel) rfl rfl (Nat.le_of_ble_eq_true rfl) dQ_insert_84 (fun H locs hP _ hS => ?_)
            replace hP := kx_u_size1 hP
            replace hw : kx_wf (sI (sI (sI s1 6 3 rank) 8 3 value) 9 1 ((kI (sI (sI s1 6 3 rank) 8 3 value) 9 1) + 1)) := kx_wf_q (q := 1) (v := kI (sI (sI s1 6 3 rank) 8 3 value) 9 1 + 1) hw ⟨4, by decide, by rw [show kI (sI (sI s1 6 3 rank) 8 3 value) 9 1 = kI s1 9 1 from rfl, z_3]; decide⟩
            exact kk_vret hx hb hr hlocks hP hK hS ⟨hf.symm, hw⟩ dQ_insert_87
          · rw [if_neg c_26] at hf
            refine lv_aload_n hx hb dQ_insert_29 rfl (lv_at hl 1 rfl) ?_
            refine va_get (D := (dC, dI)) (ci := 0) (v := .ref (ad 8)) (C := R_Q) (T := T_Q) (N := 3) hx hb hts uw_Q hown hK hP 6 rfl rfl 0 (by decide) (hts _ (List.mem_cons_of_mem _ wd_93)) (fun _ h9 => h9) rfl dQ_insert_30 ?_
            refine lv_iload_n hx hb dQ_insert_33 rfl (lv_at hl 0 rfl) ?_
            refine lv_aload_n hx hb dQ_insert_34 rfl (lv_at hl 1 rfl) ?_
            refine va_get (D := (dC, dI)) (ci := 0) (v := .ref (ad 8)) (C := R_Q) (T := T_Q) (N := 3) hx hb hts uw_Q hown hK hP 6 rfl rfl 0 (by decide) (hts _ (List.mem_cons_of_mem _ wd_93)) (fun _ h9 => h9) rfl dQ_insert_35 ?_
            refine lv_iload_n hx hb dQ_insert_38 rfl (lv_at hl 0 rfl) ?_
            refine lv_iconst (v := 1) hx hb dQ_insert_39 (by decide) ?_
            refine lv_isub hx hb dQ_insert_40 ?_
            refine lv_topi (fun z9 e9 => ?_)
            obtain rfl : z9 = 2 := e9.trans (by decide)
            refine va_iald hx hb hK hP 8 5 rfl rfl (kk_inl (by decide)) dQ_insert_41 ?_
            rw [kk_c2]
            refine va_iast hx hb hK hP (kx_D hj) hS 8 5 rfl rfl (kk_inl (by decide)) dQ_insert_42 (fun H locs hP _ hS => ?_)
            rw [kk_c3] at hP
            replace hP := kx_u_a6 hP
            replace hw := kx_wf_I (f := 6) (i := 3) (v := kI s1 6 2) hw (by decide)
            refine lv_aload_n hx hb dQ_insert_43 rfl (lv_at hl 1 rfl) ?_
            refine va_get (D := (dC, dI)) (ci := 0) (v := .ref (ad 10)) (C := R_Q) (T := T_Q) (N := 3) hx hb hts uw_Q hown hK hP 6 rfl rfl 1 (by decide) (hts _ (List.mem_cons_of_mem _ wd_94)) (fun _ h9 => h9) rfl dQ_insert_44 ?_
            refine lv_iload_n hx hb dQ_insert_47 rfl (lv_at hl 0 rfl) ?_
            refine lv_aload_n hx hb dQ_insert_48 rfl (lv_at hl 1 rfl) ?_
            refine va_get (D := (dC, dI)) (ci := 0) (v := .ref (ad 10)) (C := R_Q) (T := T_Q) (N := 3) hx hb hts uw_Q hown hK hP 6 rfl rfl 1 (by decide) (hts _ (List.mem_cons_of_mem _ wd_94)) (fun _ h9 => h9) rfl dQ_insert_49 ?_
            refine lv_iload_n hx hb dQ_insert_52 rfl (lv_at hl 0 rfl) ?_
            refine lv_iconst (v := 1) hx hb dQ_insert_53 (by decide) ?_
            refine lv_isub hx hb dQ_insert_54 ?_
            refine lv_topi (fun z9 e9 => ?_)
            obtain rfl : z9 = 2 := e9.trans (by decide)
            refine va_iald hx hb hK hP 10 7 rfl rfl (kk_inl (by decide)) dQ_insert_55 ?_
            rw [kk_c2]
            refine va_iast hx hb hK hP (kx_D hj) hS 10 7 rfl rfl (kk_inl (by decide)) dQ_insert_56 (fun H locs hP _ hS => ?_)
            rw [kk_c3] at hP
            replace hP := kx_u_a8 hP
            replace hw := kx_wf_I (f := 8) (i := 3) (v := kI (sI s1 6 3 (kI s1 6 2)) 8 2) hw (by decide)
            refine lv_iinc (v := 2) (lv' := [(3, .int 2), (0, .ref (ad 6)), (1, .int rank), (2, .int value)]) hx hb dQ_insert_57 hl (k := 0) rfl (by decide) (by decide) rfl (fun ls hl => ?_)
            refine lv_goto (tgt := 13) hx hb dQ_insert_60 (by decide) ?_
            refine lv_iload_n hx hb dQ_insert_13 rfl (lv_at hl 0 rfl) ?_
            refine lv_if_le (tgt := 63) hx hb dQ_insert_14 (by decide) (fun c9 => absurd c9 (by decide)) (fun _ => ?_)
            refine lv_aload_n hx hb dQ_insert_17 rfl (lv_at hl 1 rfl) ?_
            refine va_get (D := (dC, dI)) (ci := 0) (v := .ref (ad 8)) (C := R_Q) (T := T_Q) (N := 3) hx hb hts uw_Q hown hK hP 6 rfl rfl 0 (by decide) (hts _ (List.mem_cons_of_mem _ wd_93)) (fun _ h9 => h9) rfl dQ_insert_18 ?_
            refine lv_iload_n hx hb dQ_insert_21 rfl (lv_at hl 0 rfl) ?_
            refine lv_iconst (v := 1) hx hb dQ_insert_22 (by decide) ?_
            refine lv_isub hx hb dQ_insert_23 ?_
            refine lv_topi (fun z9 e9 => ?_)
            obtain rfl : z9 = 1 := e9.trans (by decide)
            refine va_iald hx hb hK hP 8 5 rfl rfl (kk_inl (by decide)) dQ_insert_24 ?_
            rw [kk_c1]
            refine lv_iload_n hx hb dQ_insert_25 rfl (lv_at hl 2 rfl) ?_
            refine lv_icmp_ge (tgt := 63) hx hb dQ_insert_26 (by decide) (fun c_26 => ?_) (fun c_26 => ?_)
            · rw [if_pos c_26] at hf
              refine lv_aload_n hx hb dQ_insert_63 rfl (lv_at hl 1 rfl) ?_
              refine va_get (D := (dC, dI)) (ci := 0) (v := .ref (ad 8)) (C := R_Q) (T := T_Q) (N := 3) hx hb hts uw_Q hown hK hP 6 rfl rfl 0 (by decide) (hts _ (List.mem_cons_of_mem _ wd_93)) (fun _ h9 => h9) rfl dQ_insert_64 ?_
              refine lv_iload_n hx hb dQ_insert_67 rfl (lv_at hl 0 rfl) ?_
              refine lv_iload_n hx hb dQ_insert_68 rfl (lv_at hl 2 rfl) ?_
              refine va_iast hx hb hK hP (kx_D hj) hS 8 5 rfl rfl (kk_inl (by decide)) dQ_insert_69 (fun H locs hP _ hS => ?_)
              rw [kk_c2] at hP
              replace hP := kx_u_a6 hP
              replace hw := kx_wf_I (f := 6) (i := 2) (v := rank) hw (by decide)
              refine lv_aload_n hx hb dQ_insert_70 rfl (lv_at hl 1 rfl) ?_
              refine va_get (D := (dC, dI)) (ci := 0) (v := .ref (ad 10)) (C := R_Q) (T := T_Q) (N := 3) hx hb hts uw_Q hown hK hP 6 rfl rfl 1 (by decide) (hts _ (List.mem_cons_of_mem _ wd_94)) (fun _ h9 => h9) rfl dQ_insert_71 ?_
              refine lv_iload_n hx hb dQ_insert_74 rfl (lv_at hl 0 rfl) ?_
              refine lv_iload_n hx hb dQ_insert_75 rfl (lv_at hl 3 rfl) ?_
              refine va_iast hx hb hK hP (kx_D hj) hS 10 7 rfl rfl (kk_inl (by decide)) dQ_insert_76 (fun H locs hP _ hS => ?_)
              rw [kk_c2] at hP
              replace hP := kx_u_a8 hP
              replace hw := kx_wf_I (f := 8) (i := 2) (v := value) hw (by decide)
              refine lv_aload_n hx hb dQ_insert_77 rfl (lv_at hl 1 rfl) ?_
              refine lv_dup hx hb dQ_insert_78 rfl ?_
              refine va_get (D := (dC, dI)) (ci := 0) (v := .int (kI (sI (sI (sI (sI s1 6 3 (kI s1 6 2)) 8 3 (kI (sI s1 6 3 (kI s1 6 2)) 8 2)) 6 2 rank) 8 2 value) 9 1)) (C := R_Q) (T := T_Q) (N := 3) hx hb hts uw_Q hown hK hP 6 rfl rfl 2 (by decide) (hts _ (List.mem_cons_of_mem _ wd_95)) (fun _ h9 => h9) rfl dQ_insert_79 ?_
              refine lv_iconst (v := 1) hx hb dQ_insert_82 (by decide) ?_
              refine lv_iadd hx hb dQ_insert_83 ?_
              refine va_put (D := (dC, dI)) (ci := 0) (v := .int ((kI (sI (sI (sI (sI s1 6 3 (kI s1 6 2)) 8 3 (kI (sI s1 6 3 (kI s1 6 2)) 8 2)) 6 2 rank) 8 2 value) 9 1) + 1)) (ty := .int) (C := R_Q) (T := T_Q) (N := 3) hx hb hts uw_Q ty_Q ty_Q_ok nm_Q hown hK hP (kx_D hj) hS 6 rfl rfl 2 (by decide) (hts _ (List.mem_cons_of_mem _ wd_95)) (fun _ h9 => h9) rfl (by decide +kernel) rfl rfl (Nat.le_of_ble_eq_true rfl) dQ_insert_84 (fun H locs hP _ hS => ?_)
              replace hP := kx_u_size1 hP
              replace hw : kx_wf (sI (sI (sI (sI (sI s1 6 3 (kI s1 6 2)) 8 3 (kI (sI s1 6 3 (kI s1 6 2)) 8 2)) 6 2 rank) 8 2 value) 9 1 ((kI (sI (sI (sI (sI s1 6 3 (kI s1 6 2)) 8 3 (kI (sI s1 6 3 (kI s1 6 2)) 8 2)) 6 2 rank) 8 2 value) 9 1) + 1)) := kx_wf_q (q := 1) (v := kI (sI (sI (sI (sI s1 6 3 (kI s1 6 2)) 8 3 (kI (sI s1 6 3 (kI s1 6 2)) 8 2)) 6 2 rank) 8 2 value) 9 1 + 1) hw ⟨4, by decide, by rw [show kI (sI (sI (sI (sI s1 6 3 (kI s1 6 2)) 8 3 (kI (sI s1 6 3 (kI s1 6 2)) 8 2)) 6 2 rank) 8 2 value) 9 1 = kI s1 9 1 from rfl, z_3]; decide⟩
              exact kk_vret hx hb hr hlocks hP hK hS ⟨hf.symm, hw⟩ dQ_insert_87
            · rw [if_neg c_26] at hf
              refine lv_aload_n hx hb dQ_insert_29 rfl (lv_at hl 1 rfl) ?_
              refine va_get (D := (dC, dI)) (ci := 0) (v := .ref (ad 8)) (C := R_Q) (T := T_Q) (N := 3) hx hb hts uw_Q hown hK hP 6 rfl rfl 0 (by decide) (hts _ (List.mem_cons_of_mem _ wd_93)) (fun _ h9 => h9) rfl dQ_insert_30 ?_
              refine lv_iload_n hx hb dQ_insert_33 rfl (lv_at hl 0 rfl) ?_
              refine lv_aload_n hx hb dQ_insert_34 rfl (lv_at hl 1 rfl) ?_
              refine va_get (D := (dC, dI)) (ci := 0) (v := .ref (ad 8)) (C := R_Q) (T := T_Q) (N := 3) hx hb hts uw_Q hown hK hP 6 rfl rfl 0 (by decide) (hts _ (List.mem_cons_of_mem _ wd_93)) (fun _ h9 => h9) rfl dQ_insert_35 ?_
              refine lv_iload_n hx hb dQ_insert_38 rfl (lv_at hl 0 rfl) ?_
              refine lv_iconst (v := 1) hx hb dQ_insert_39 (by decide) ?_
              refine lv_isub hx hb dQ_insert_40 ?_
              refine lv_topi (fun z9 e9 => ?_)
              obtain rfl : z9 = 1 := e9.trans (by decide)
              refine va_iald hx hb hK hP 8 5 rfl rfl (kk_inl (by decide)) dQ_insert_41 ?_
              rw [kk_c1]
              refine va_iast hx hb hK hP (kx_D hj) hS 8 5 rfl rfl (kk_inl (by decide)) dQ_insert_42 (fun H locs hP _ hS => ?_)
              rw [kk_c2] at hP
              replace hP := kx_u_a6 hP
              replace hw := kx_wf_I (f := 6) (i := 2) (v := kI (sI (sI s1 6 3 (kI s1 6 2)) 8 3 (kI (sI s1 6 3 (kI s1 6 2)) 8 2)) 6 1) hw (by decide)
              refine lv_aload_n hx hb dQ_insert_43 rfl (lv_at hl 1 rfl) ?_
              refine va_get (D := (dC, dI)) (ci := 0) (v := .ref (ad 10)) (C := R_Q) (T := T_Q) (N := 3) hx hb hts uw_Q hown hK hP 6 rfl rfl 1 (by decide) (hts _ (List.mem_cons_of_mem _ wd_94)) (fun _ h9 => h9) rfl dQ_insert_44 ?_
              refine lv_iload_n hx hb dQ_insert_47 rfl (lv_at hl 0 rfl) ?_
              refine lv_aload_n hx hb dQ_insert_48 rfl (lv_at hl 1 rfl) ?_
              refine va_get (D := (dC, dI)) (ci := 0) (v := .ref (ad 10)) (C := R_Q) (T := T_Q) (N := 3) hx hb hts uw_Q hown hK hP 6 rfl rfl 1 (by decide) (hts _ (List.mem_cons_of_mem _ wd_94)) (fun _ h9 => h9) rfl dQ_insert_49 ?_
              refine lv_iload_n hx hb dQ_insert_52 rfl (lv_at hl 0 rfl) ?_
              refine lv_iconst (v := 1) hx hb dQ_insert_53 (by decide) ?_
              refine lv_isub hx hb dQ_insert_54 ?_
              refine lv_topi (fun z9 e9 => ?_)
              obtain rfl : z9 = 1 := e9.trans (by decide)
              refine va_iald hx hb hK hP 10 7 rfl rfl (kk_inl (by decide)) dQ_insert_55 ?_
              rw [kk_c1]
              refine va_iast hx hb hK hP (kx_D hj) hS 10 7 rfl rfl (kk_inl (by decide)) dQ_insert_56 (fun H locs hP _ hS => ?_)
              rw [kk_c2] at hP
              replace hP := kx_u_a8 hP
              replace hw := kx_wf_I (f := 8) (i := 2) (v := kI (sI (sI (sI s1 6 3 (kI s1 6 2)) 8 3 (kI (sI s1 6 3 (kI s1 6 2)) 8 2)) 6 2 (kI (sI (sI s1 6 3 (kI s1 6 2)) 8 3 (kI (sI s1 6 3 (kI s1 6 2)) 8 2)) 6 1)) 8 1) hw (by decide)
              refine lv_iinc (v := 1) (lv' := [(3, .int 1), (0, .ref (ad 6)), (1, .int rank), (2, .int value)]) hx hb dQ_insert_57 hl (k := 0) rfl (by decide) (by decide) rfl (fun ls hl => ?_)
              refine lv_goto (tgt := 13) hx hb dQ_insert_60 (by decide) ?_
              refine lv_iload_n hx hb dQ_insert_13 rfl (lv_at hl 0 rfl) ?_
              refine lv_if_le (tgt := 63) hx hb dQ_insert_14 (by decide) (fun c9 => absurd c9 (by decide)) (fun _ => ?_)
              refine lv_aload_n hx hb dQ_insert_17 rfl (lv_at hl 1 rfl) ?_
              refine va_get (D := (dC, dI)) (ci := 0) (v := .ref (ad 8)) (C := R_Q) (T := T_Q) (N := 3) hx hb hts uw_Q hown hK hP 6 rfl rfl 0 (by decide) (hts _ (List.mem_cons_of_mem _ wd_93)) (fun _ h9 => h9) rfl dQ_insert_18 ?_
              refine lv_iload_n hx hb dQ_insert_21 rfl (lv_at hl 0 rfl) ?_
              refine lv_iconst (v := 1) hx hb dQ_insert_22 (by decide) ?_
              refine lv_isub hx hb dQ_insert_23 ?_
              refine lv_topi (fun z9 e9 => ?_)
              obtain rfl : z9 = 0 := e9.trans (by decide)
              refine va_iald hx hb hK hP 8 5 rfl rfl (kk_inl (by decide)) dQ_insert_24 ?_
              rw [kk_c0]
              refine lv_iload_n hx hb dQ_insert_25 rfl (lv_at hl 2 rfl) ?_
              refine lv_icmp_ge (tgt := 63) hx hb dQ_insert_26 (by decide) (fun c_26 => ?_) (fun c_26 => ?_)
              · rw [if_pos c_26] at hf
                refine lv_aload_n hx hb dQ_insert_63 rfl (lv_at hl 1 rfl) ?_
                refine va_get (D := (dC, dI)) (ci := 0) (v := .ref (ad 8)) (C := R_Q) (T := T_Q) (N := 3) hx hb hts uw_Q hown hK hP 6 rfl rfl 0 (by decide) (hts _ (List.mem_cons_of_mem _ wd_93)) (fun _ h9 => h9) rfl dQ_insert_64 ?_
                refine lv_iload_n hx hb dQ_insert_67 rfl (lv_at hl 0 rfl) ?_
                refine lv_iload_n hx hb dQ_insert_68 rfl (lv_at hl 2 rfl) ?_
                refine va_iast hx hb hK hP (kx_D hj) hS 8 5 rfl rfl (kk_inl (by decide)) dQ_insert_69 (fun H locs hP _ hS => ?_)
                rw [kk_c1] at hP
                replace hP := kx_u_a6 hP
                replace hw := kx_wf_I (f := 6) (i := 1) (v := rank) hw (by decide)
                refine lv_aload_n hx hb dQ_insert_70 rfl (lv_at hl 1 rfl) ?_
                refine va_get (D := (dC, dI)) (ci := 0) (v := .ref (ad 10)) (C := R_Q) (T := T_Q) (N := 3) hx hb hts uw_Q hown hK hP 6 rfl rfl 1 (by decide) (hts _ (List.mem_cons_of_mem _ wd_94)) (fun _ h9 => h9) rfl dQ_insert_71 ?_
                refine lv_iload_n hx hb dQ_insert_74 rfl (lv_at hl 0 rfl) ?_
                refine lv_iload_n hx hb dQ_insert_75 rfl (lv_at hl 3 rfl) ?_
                refine va_iast hx hb hK hP (kx_D hj) hS 10 7 rfl rfl (kk_inl (by decide)) dQ_insert_76 (fun H locs hP _ hS => ?_)
                rw [kk_c1] at hP
                replace hP := kx_u_a8 hP
                replace hw := kx_wf_I (f := 8) (i := 1) (v := value) hw (by decide)
                refine lv_aload_n hx hb dQ_insert_77 rfl (lv_at hl 1 rfl) ?_
                refine lv_dup hx hb dQ_insert_78 rfl ?_
                refine va_get (D := (dC, dI)) (ci := 0) (v := .int (kI (sI (sI (sI (sI (sI (sI s1 6 3 (kI s1 6 2)) 8 3 (kI (sI s1 6 3 (kI s1 6 2)) 8 2)) 6 2 (kI (sI (sI s1 6 3 (kI s1 6 2)) 8 3 (kI (sI s1 6 3 (kI s1 6 2)) 8 2)) 6 1)) 8 2 (kI (sI (sI (sI s1 6 3 (kI s1 6 2)) 8 3 (kI (sI s1 6 3 (kI s1 6 2)) 8 2)) 6 2 (kI (sI (sI s1 6 3 (kI s1 6 2)) 8 3 (kI (sI s1 6 3 (kI s1 6 2)) 8 2)) 6 1)) 8 1)) 6 1 rank) 8 1 value) 9 1)) (C := R_Q) (T := T_Q) (N := 3) hx hb hts uw_Q hown hK hP 6 rfl rfl 2 (by decide) (hts _ (List.mem_cons_of_mem _ wd_95)) (fun _ h9 => h9) rfl dQ_insert_79 ?_
                refine lv_iconst (v := 1) hx hb dQ_insert_82 (by decide) ?_
                refine lv_iadd hx hb dQ_insert_83 ?_
                refine va_put (D := (dC, dI)) (ci := 0) (v := .int ((kI (sI (sI (sI (sI (sI (sI s1 6 3 (kI s1 6 2)) 8 3 (kI (sI s1 6 3 (kI s1 6 2)) 8 2)) 6 2 (kI (sI (sI s1 6 3 (kI s1 6 2)) 8 3 (kI (sI s1 6 3 (kI s1 6 2)) 8 2)) 6 1)) 8 2 (kI (sI (sI (sI s1 6 3 (kI s1 6 2)) 8 3 (kI (sI s1 6 3 (kI s1 6 2)) 8 2)) 6 2 (kI (sI (sI s1 6 3 (kI s1 6 2)) 8 3 (kI (sI s1 6 3 (kI s1 6 2)) 8 2)) 6 1)) 8 1)) 6 1 rank) 8 1 value) 9 1) + 1)) (ty := .int) (C := R_Q) (T := T_Q) (N := 3) hx hb hts uw_Q ty_Q ty_Q_ok nm_Q hown hK hP (kx_D hj) hS 6 rfl rfl 2 (by decide) (hts _ (List.mem_cons_of_mem _ wd_95)) (fun _ h9 => h9) rfl (by decide +kernel) rfl rfl (Nat.le_of_ble_eq_true rfl) dQ_insert_84 (fun H locs hP _ hS => ?_)
                replace hP := kx_u_size1 hP
                replace hw : kx_wf (sI (sI (sI (sI (sI (sI (sI s1 6 3 (kI s1 6 2)) 8 3 (kI (sI s1 6 3 (kI s1 6 2)) 8 2)) 6 2 (kI (sI (sI s1 6 3 (kI s1 6 2)) 8 3 (kI (sI s1 6 3 (kI s1 6 2)) 8 2)) 6 1)) 8 2 (kI (sI (sI (sI s1 6 3 (kI s1 6 2)) 8 3 (kI (sI s1 6 3 (kI s1 6 2)) 8 2)) 6 2 (kI (sI (sI s1 6 3 (kI s1 6 2)) 8 3 (kI (sI s1 6 3 (kI s1 6 2)) 8 2)) 6 1)) 8 1)) 6 1 rank) 8 1 value) 9 1 ((kI (sI (sI (sI (sI (sI (sI s1 6 3 (kI s1 6 2)) 8 3 (kI (sI s1 6 3 (kI s1 6 2)) 8 2)) 6 2 (kI (sI (sI s1 6 3 (kI s1 6 2)) 8 3 (kI (sI s1 6 3 (kI s1 6 2)) 8 2)) 6 1)) 8 2 (kI (sI (sI (sI s1 6 3 (kI s1 6 2)) 8 3 (kI (sI s1 6 3 (kI s1 6 2)) 8 2)) 6 2 (kI (sI (sI s1 6 3 (kI s1 6 2)) 8 3 (kI (sI s1 6 3 (kI s1 6 2)) 8 2)) 6 1)) 8 1)) 6 1 rank) 8 1 value) 9 1) + 1)) := kx_wf_q (q := 1) (v := kI (sI (sI (sI (sI (sI (sI s1 6 3 (kI s1 6 2)) 8 3 (kI (sI s1 6 3 (kI s1 6 2)) 8 2)) 6 2 (kI (sI (sI s1 6 3 (kI s1 6 2)) 8 3 (kI (sI s1 6 3 (kI s1 6 2)) 8 2)) 6 1)) 8 2 (kI (sI (sI (sI s1 6 3 (kI s1 6 2)) 8 3 (kI (sI s1 6 3 (kI s1 6 2)) 8 2)) 6 2 (kI (sI (sI s1 6 3 (kI s1 6 2)) 8 3 (kI (sI s1 6 3 (kI s1 6 2)) 8 2)) 6 1)) 8 1)) 6 1 rank) 8 1 value) 9 1 + 1) hw ⟨4, by decide, by rw [show kI (sI (sI (sI (sI (sI (sI s1 6 3 (kI s1 6 2)) 8 3 (kI (sI s1 6 3 (kI s1 6 2)) 8 2)) 6 2 (kI (sI (sI s1 6 3 (kI s1 6 2)) 8 3 (kI (sI s1 6 3 (kI s1 6 2)) 8 2)) 6 1)) 8 2 (kI (sI (sI (sI s1 6 3 (kI s1 6 2)) 8 3 (kI (sI s1 6 3 (kI s1 6 2)) 8 2)) 6 2 (kI (sI (sI s1 6 3 (kI s1 6 2)) 8 3 (kI (sI s1 6 3 (kI s1 6 2)) 8 2)) 6 1)) 8 1)) 6 1 rank) 8 1 value) 9 1 = kI s1 9 1 from rfl, z_3]; decide⟩
                exact kk_vret hx hb hr hlocks hP hK hS ⟨hf.symm, hw⟩ dQ_insert_87
              · rw [if_neg c_26] at hf
                refine lv_aload_n hx hb dQ_insert_29 rfl (lv_at hl 1 rfl) ?_
                refine va_get (D := (dC, dI)) (ci := 0) (v := .ref (ad 8)) (C := R_Q) (T := T_Q) (N := 3) hx hb hts uw_Q hown hK hP 6 rfl rfl 0 (by decide) (hts _ (List.mem_cons_of_mem _ wd_93)) (fun _ h9 => h9) rfl dQ_insert_30 ?_
                refine lv_iload_n hx hb dQ_insert_33 rfl (lv_at hl 0 rfl) ?_
                refine lv_aload_n hx hb dQ_insert_34 rfl (lv_at hl 1 rfl) ?_
                refine va_get (D := (dC, dI)) (ci := 0) (v := .ref (ad 8)) (C := R_Q) (T := T_Q) (N := 3) hx hb hts uw_Q hown hK hP 6 rfl rfl 0 (by decide) (hts _ (List.mem_cons_of_mem _ wd_93)) (fun _ h9 => h9) rfl dQ_insert_35 ?_
                refine lv_iload_n hx hb dQ_insert_38 rfl (lv_at hl 0 rfl) ?_
                refine lv_iconst (v := 1) hx hb dQ_insert_39 (by decide) ?_
                refine lv_isub hx hb dQ_insert_40 ?_
                refine lv_topi (fun z9 e9 => ?_)
                obtain rfl : z9 = 0 := e9.trans (by decide)
                refine va_iald hx hb hK hP 8 5 rfl rfl (kk_inl (by decide)) dQ_insert_41 ?_
                rw [kk_c0]
                refine va_iast hx hb hK hP (kx_D hj) hS 8 5 rfl rfl (kk_inl (by decide)) dQ_insert_42 (fun H locs hP _ hS => ?_)
                rw [kk_c1] at hP
                replace hP := kx_u_a6 hP
                replace hw := kx_wf_I (f := 6) (i := 1) (v := kI (sI (sI (sI (sI s1 6 3 (kI s1 6 2)) 8 3 (kI (sI s1 6 3 (kI s1 6 2)) 8 2)) 6 2 (kI (sI (sI s1 6 3 (kI s1 6 2)) 8 3 (kI (sI s1 6 3 (kI s1 6 2)) 8 2)) 6 1)) 8 2 (kI (sI (sI (sI s1 6 3 (kI s1 6 2)) 8 3 (kI (sI s1 6 3 (kI s1 6 2)) 8 2)) 6 2 (kI (sI (sI s1 6 3 (kI s1 6 2)) 8 3 (kI (sI s1 6 3 (kI s1 6 2)) 8 2)) 6 1)) 8 1)) 6 0) hw (by decide)
                refine lv_aload_n hx hb dQ_insert_43 rfl (lv_at hl 1 rfl) ?_
                refine va_get (D := (dC, dI)) (ci := 0) (v := .ref (ad 10)) (C := R_Q) (T := T_Q) (N := 3) hx hb hts uw_Q hown hK hP 6 rfl rfl 1 (by decide) (hts _ (List.mem_cons_of_mem _ wd_94)) (fun _ h9 => h9) rfl dQ_insert_44 ?_
                refine lv_iload_n hx hb dQ_insert_47 rfl (lv_at hl 0 rfl) ?_
                refine lv_aload_n hx hb dQ_insert_48 rfl (lv_at hl 1 rfl) ?_
                refine va_get (D := (dC, dI)) (ci := 0) (v := .ref (ad 10)) (C := R_Q) (T := T_Q) (N := 3) hx hb hts uw_Q hown hK hP 6 rfl rfl 1 (by decide) (hts _ (List.mem_cons_of_mem _ wd_94)) (fun _ h9 => h9) rfl dQ_insert_49 ?_
                refine lv_iload_n hx hb dQ_insert_52 rfl (lv_at hl 0 rfl) ?_
                refine lv_iconst (v := 1) hx hb dQ_insert_53 (by decide) ?_
                refine lv_isub hx hb dQ_insert_54 ?_
                refine lv_topi (fun z9 e9 => ?_)
                obtain rfl : z9 = 0 := e9.trans (by decide)
                refine va_iald hx hb hK hP 10 7 rfl rfl (kk_inl (by decide)) dQ_insert_55 ?_
                rw [kk_c0]
                refine va_iast hx hb hK hP (kx_D hj) hS 10 7 rfl rfl (kk_inl (by decide)) dQ_insert_56 (fun H locs hP _ hS => ?_)
                rw [kk_c1] at hP
                replace hP := kx_u_a8 hP
                replace hw := kx_wf_I (f := 8) (i := 1) (v := kI (sI (sI (sI (sI (sI s1 6 3 (kI s1 6 2)) 8 3 (kI (sI s1 6 3 (kI s1 6 2)) 8 2)) 6 2 (kI (sI (sI s1 6 3 (kI s1 6 2)) 8 3 (kI (sI s1 6 3 (kI s1 6 2)) 8 2)) 6 1)) 8 2 (kI (sI (sI (sI s1 6 3 (kI s1 6 2)) 8 3 (kI (sI s1 6 3 (kI s1 6 2)) 8 2)) 6 2 (kI (sI (sI s1 6 3 (kI s1 6 2)) 8 3 (kI (sI s1 6 3 (kI s1 6 2)) 8 2)) 6 1)) 8 1)) 6 1 (kI (sI (sI (sI (sI s1 6 3 (kI s1 6 2)) 8 3 (kI (sI s1 6 3 (kI s1 6 2)) 8 2)) 6 2 (kI (sI (sI s1 6 3 (kI s1 6 2)) 8 3 (kI (sI s1 6 3 (kI s1 6 2)) 8 2)) 6 1)) 8 2 (kI (sI (sI (sI s1 6 3 (kI s1 6 2)) 8 3 (kI (sI s1 6 3 (kI s1 6 2)) 8 2)) 6 2 (kI (sI (sI s1 6 3 (kI s1 6 2)) 8 3 (kI (sI s1 6 3 (kI s1 6 2)) 8 2)) 6 1)) 8 1)) 6 0)) 8 0) hw (by decide)
                refine lv_iinc (v := 0) (lv' := [(3, .int 0), (0, .ref (ad 6)), (1, .int rank), (2, .int value)]) hx hb dQ_insert_57 hl (k := 0) rfl (by decide) (by decide) rfl (fun ls hl => ?_)
                refine lv_goto (tgt := 13) hx hb dQ_insert_60 (by decide) ?_
                refine lv_iload_n hx hb dQ_insert_13 rfl (lv_at hl 0 rfl) ?_
                refine lv_if_le (tgt := 63) hx hb dQ_insert_14 (by decide) (fun _ => ?_) (fun c9 => absurd (by decide) c9)
                refine lv_aload_n hx hb dQ_insert_63 rfl (lv_at hl 1 rfl) ?_
                refine va_get (D := (dC, dI)) (ci := 0) (v := .ref (ad 8)) (C := R_Q) (T := T_Q) (N := 3) hx hb hts uw_Q hown hK hP 6 rfl rfl 0 (by decide) (hts _ (List.mem_cons_of_mem _ wd_93)) (fun _ h9 => h9) rfl dQ_insert_64 ?_
                refine lv_iload_n hx hb dQ_insert_67 rfl (lv_at hl 0 rfl) ?_
                refine lv_iload_n hx hb dQ_insert_68 rfl (lv_at hl 2 rfl) ?_
                refine va_iast hx hb hK hP (kx_D hj) hS 8 5 rfl rfl (kk_inl (by decide)) dQ_insert_69 (fun H locs hP _ hS => ?_)
                rw [kk_c0] at hP
                replace hP := kx_u_a6 hP
                replace hw := kx_wf_I (f := 6) (i := 0) (v := rank) hw (by decide)
                refine lv_aload_n hx hb dQ_insert_70 rfl (lv_at hl 1 rfl) ?_
                refine va_get (D := (dC, dI)) (ci := 0) (v := .ref (ad 10)) (C := R_Q) (T := T_Q) (N := 3) hx hb hts uw_Q hown hK hP 6 rfl rfl 1 (by decide) (hts _ (List.mem_cons_of_mem _ wd_94)) (fun _ h9 => h9) rfl dQ_insert_71 ?_
                refine lv_iload_n hx hb dQ_insert_74 rfl (lv_at hl 0 rfl) ?_
                refine lv_iload_n hx hb dQ_insert_75 rfl (lv_at hl 3 rfl) ?_
                refine va_iast hx hb hK hP (kx_D hj) hS 10 7 rfl rfl (kk_inl (by decide)) dQ_insert_76 (fun H locs hP _ hS => ?_)
                rw [kk_c0] at hP
                replace hP := kx_u_a8 hP
                replace hw := kx_wf_I (f := 8) (i := 0) (v := value) hw (by decide)
                refine lv_aload_n hx hb dQ_insert_77 rfl (lv_at hl 1 rfl) ?_
                refine lv_dup hx hb dQ_insert_78 rfl ?_
                refine va_get (D := (dC, dI)) (ci := 0) (v := .int (kI (sI (sI (sI (sI (sI (sI (sI (sI s1 6 3 (kI s1 6 2)) 8 3 (kI (sI s1 6 3 (kI s1 6 2)) 8 2)) 6 2 (kI (sI (sI s1 6 3 (kI s1 6 2)) 8 3 (kI (sI s1 6 3 (kI s1 6 2)) 8 2)) 6 1)) 8 2 (kI (sI (sI (sI s1 6 3 (kI s1 6 2)) 8 3 (kI (sI s1 6 3 (kI s1 6 2)) 8 2)) 6 2 (kI (sI (sI s1 6 3 (kI s1 6 2)) 8 3 (kI (sI s1 6 3 (kI s1 6 2)) 8 2)) 6 1)) 8 1)) 6 1 (kI (sI (sI (sI (sI s1 6 3 (kI s1 6 2)) 8 3 (kI (sI s1 6 3 (kI s1 6 2)) 8 2)) 6 2 (kI (sI (sI s1 6 3 (kI s1 6 2)) 8 3 (kI (sI s1 6 3 (kI s1 6 2)) 8 2)) 6 1)) 8 2 (kI (sI (sI (sI s1 6 3 (kI s1 6 2)) 8 3 (kI (sI s1 6 3 (kI s1 6 2)) 8 2)) 6 2 (kI (sI (sI s1 6 3 (kI s1 6 2)) 8 3 (kI (sI s1 6 3 (kI s1 6 2)) 8 2)) 6 1)) 8 1)) 6 0)) 8 1 (kI (sI (sI (sI (sI (sI s1 6 3 (kI s1 6 2)) 8 3 (kI (sI s1 6 3 (kI s1 6 2)) 8 2)) 6 2 (kI (sI (sI s1 6 3 (kI s1 6 2)) 8 3 (kI (sI s1 6 3 (kI s1 6 2)) 8 2)) 6 1)) 8 2 (kI (sI (sI (sI s1 6 3 (kI s1 6 2)) 8 3 (kI (sI s1 6 3 (kI s1 6 2)) 8 2)) 6 2 (kI (sI (sI s1 6 3 (kI s1 6 2)) 8 3 (kI (sI s1 6 3 (kI s1 6 2)) 8 2)) 6 1)) 8 1)) 6 1 (kI (sI (sI (sI (sI s1 6 3 (kI s1 6 2)) 8 3 (kI (sI s1 6 3 (kI s1 6 2)) 8 2)) 6 2 (kI (sI (sI s1 6 3 (kI s1 6 2)) 8 3 (kI (sI s1 6 3 (kI s1 6 2)) 8 2)) 6 1)) 8 2 (kI (sI (sI (sI s1 6 3 (kI s1 6 2)) 8 3 (kI (sI s1 6 3 (kI s1 6 2)) 8 2)) 6 2 (kI (sI (sI s1 6 3 (kI s1 6 2)) 8 3 (kI (sI s1 6 3 (kI s1 6 2)) 8 2)) 6 1)) 8 1)) 6 0)) 8 0)) 6 0 rank) 8 0 value) 9 1)) (C := R_Q) (T := T_Q) (N := 3) hx hb hts uw_Q hown hK hP 6 rfl rfl 2 (by decide) (hts _ (List.mem_cons_of_mem _ wd_95)) (fun _ h9 => h9) rfl dQ_insert_79 ?_
                refine lv_iconst (v := 1) hx hb dQ_insert_82 (by decide) ?_
                refine lv_iadd hx hb dQ_insert_83 ?_
                refine va_put (D := (dC, dI)) (ci := 0) (v := .int ((kI (sI (sI (sI (sI (sI (sI (sI (sI s1 6 3 (kI s1 6 2)) 8 3 (kI (sI s1 6 3 (kI s1 6 2)) 8 2)) 6 2 (kI (sI (sI s1 6 3 (kI s1 6 2)) 8 3 (kI (sI s1 6 3 (kI s1 6 2)) 8 2)) 6 1)) 8 2 (kI (sI (sI (sI s1 6 3 (kI s1 6 2)) 8 3 (kI (sI s1 6 3 (kI s1 6 2)) 8 2)) 6 2 (kI (sI (sI s1 6 3 (kI s1 6 2)) 8 3 (kI (sI s1 6 3 (kI s1 6 2)) 8 2)) 6 1)) 8 1)) 6 1 (kI (sI (sI (sI (sI s1 6 3 (kI s1 6 2)) 8 3 (kI (sI s1 6 3 (kI s1 6 2)) 8 2)) 6 2 (kI (sI (sI s1 6 3 (kI s1 6 2)) 8 3 (kI (sI s1 6 3 (kI s1 6 2)) 8 2)) 6 1)) 8 2 (kI (sI (sI (sI s1 6 3 (kI s1 6 2)) 8 3 (kI (sI s1 6 3 (kI s1 6 2)) 8 2)) 6 2 (kI (sI (sI s1 6 3 (kI s1 6 2)) 8 3 (kI (sI s1 6 3 (kI s1 6 2)) 8 2)) 6 1)) 8 1)) 6 0)) 8 1 (kI (sI (sI (sI (sI (sI s1 6 3 (kI s1 6 2)) 8 3 (kI (sI s1 6 3 (kI s1 6 2)) 8 2)) 6 2 (kI (sI (sI s1 6 3 (kI s1 6 2)) 8 3 (kI (sI s1 6 3 (kI s1 6 2)) 8 2)) 6 1)) 8 2 (kI (sI (sI (sI s1 6 3 (kI s1 6 2)) 8 3 (kI (sI s1 6 3 (kI s1 6 2)) 8 2)) 6 2 (kI (sI (sI s1 6 3 (kI s1 6 2)) 8 3 (kI (sI s1 6 3 (kI s1 6 2)) 8 2)) 6 1)) 8 1)) 6 1 (kI (sI (sI (sI (sI s1 6 3 (kI s1 6 2)) 8 3 (kI (sI s1 6 3 (kI s1 6 2)) 8 2)) 6 2 (kI (sI (sI s1 6 3 (kI s1 6 2)) 8 3 (kI (sI s1 6 3 (kI s1 6 2)) 8 2)) 6 1)) 8 2 (kI (sI (sI (sI s1 6 3 (kI s1 6 2)) 8 3 (kI (sI s1 6 3 (kI s1 6 2)) 8 2)) 6 2 (kI (sI (sI s1 6 3 (kI s1 6 2)) 8 3 (kI (sI s1 6 3 (kI s1 6 2)) 8 2)) 6 1)) 8 1)) 6 0)) 8 0)) 6 0 rank) 8 0 value) 9 1) + 1)) (ty := .int) (C := R_Q) (T := T_Q) (N := 3) hx hb hts uw_Q ty_Q ty_Q_ok nm_Q hown hK hP (kx_D hj) hS 6 rfl rfl 2 (by decide) (hts _ (List.mem_cons_of_mem _ wd_95)) (fun _ h9 => h9) rfl (by decide +kernel) rfl rfl (Nat.le_of_ble_eq_true rfl) dQ_insert_84 (fun H locs hP _ hS => ?_)
                replace hP := kx_u_size1 hP
                replace hw : kx_wf (sI (sI (sI (sI (sI (sI (sI (sI (sI s1 6 3 (kI s1 6 2)) 8 3 (kI (sI s1 6 3 (kI s1 6 2)) 8 2)) 6 2 (kI (sI (sI s1 6 3 (kI s1 6 2)) 8 3 (kI (sI s1 6 3 (kI s1 6 2)) 8 2)) 6 1)) 8 2 (kI (sI (sI (sI s1 6 3 (kI s1 6 2)) 8 3 (kI (sI s1 6 3 (kI s1 6 2)) 8 2)) 6 2 (kI (sI (sI s1 6 3 (kI s1 6 2)) 8 3 (kI (sI s1 6 3 (kI s1 6 2)) 8 2)) 6 1)) 8 1)) 6 1 (kI (sI (sI (sI (sI s1 6 3 (kI s1 6 2)) 8 3 (kI (sI s1 6 3 (kI s1 6 2)) 8 2)) 6 2 (kI (sI (sI s1 6 3 (kI s1 6 2)) 8 3 (kI (sI s1 6 3 (kI s1 6 2)) 8 2)) 6 1)) 8 2 (kI (sI (sI (sI s1 6 3 (kI s1 6 2)) 8 3 (kI (sI s1 6 3 (kI s1 6 2)) 8 2)) 6 2 (kI (sI (sI s1 6 3 (kI s1 6 2)) 8 3 (kI (sI s1 6 3 (kI s1 6 2)) 8 2)) 6 1)) 8 1)) 6 0)) 8 1 (kI (sI (sI (sI (sI (sI s1 6 3 (kI s1 6 2)) 8 3 (kI (sI s1 6 3 (kI s1 6 2)) 8 2)) 6 2 (kI (sI (sI s1 6 3 (kI s1 6 2)) 8 3 (kI (sI s1 6 3 (kI s1 6 2)) 8 2)) 6 1)) 8 2 (kI (sI (sI (sI s1 6 3 (kI s1 6 2)) 8 3 (kI (sI s1 6 3 (kI s1 6 2)) 8 2)) 6 2 (kI (sI (sI s1 6 3 (kI s1 6 2)) 8 3 (kI (sI s1 6 3 (kI s1 6 2)) 8 2)) 6 1)) 8 1)) 6 1 (kI (sI (sI (sI (sI s1 6 3 (kI s1 6 2)) 8 3 (kI (sI s1 6 3 (kI s1 6 2)) 8 2)) 6 2 (kI (sI (sI s1 6 3 (kI s1 6 2)) 8 3 (kI (sI s1 6 3 (kI s1 6 2)) 8 2)) 6 1)) 8 2 (kI (sI (sI (sI s1 6 3 (kI s1 6 2)) 8 3 (kI (sI s1 6 3 (kI s1 6 2)) 8 2)) 6 2 (kI (sI (sI s1 6 3 (kI s1 6 2)) 8 3 (kI (sI s1 6 3 (kI s1 6 2)) 8 2)) 6 1)) 8 1)) 6 0)) 8 0)) 6 0 rank) 8 0 value) 9 1 ((kI (sI (sI (sI (sI (sI (sI (sI (sI s1 6 3 (kI s1 6 2)) 8 3 (kI (sI s1 6 3 (kI s1 6 2)) 8 2)) 6 2 (kI (sI (sI s1 6 3 (kI s1 6 2)) 8 3 (kI (sI s1 6 3 (kI s1 6 2)) 8 2)) 6 1)) 8 2 (kI (sI (sI (sI s1 6 3 (kI s1 6 2)) 8 3 (kI (sI s1 6 3 (kI s1 6 2)) 8 2)) 6 2 (kI (sI (sI s1 6 3 (kI s1 6 2)) 8 3 (kI (sI s1 6 3 (kI s1 6 2)) 8 2)) 6 1)) 8 1)) 6 1 (kI (sI (sI (sI (sI s1 6 3 (kI s1 6 2)) 8 3 (kI (sI s1 6 3 (kI s1 6 2)) 8 2)) 6 2 (kI (sI (sI s1 6 3 (kI s1 6 2)) 8 3 (kI (sI s1 6 3 (kI s1 6 2)) 8 2)) 6 1)) 8 2 (kI (sI (sI (sI s1 6 3 (kI s1 6 2)) 8 3 (kI (sI s1 6 3 (kI s1 6 2)) 8 2)) 6 2 (kI (sI (sI s1 6 3 (kI s1 6 2)) 8 3 (kI (sI s1 6 3 (kI s1 6 2)) 8 2)) 6 1)) 8 1)) 6 0)) 8 1 (kI (sI (sI (sI (sI (sI s1 6 3 (kI s1 6 2)) 8 3 (kI (sI s1 6 3 (kI s1 6 2)) 8 2)) 6 2 (kI (sI (sI s1 6 3 (kI s1 6 2)) 8 3 (kI (sI s1 6 3 (kI s1 6 2)) 8 2)) 6 1)) 8 2 (kI (sI (sI (sI s1 6 3 (kI s1 6 2)) 8 3 (kI (sI s1 6 3 (kI s1 6 2)) 8 2)) 6 2 (kI (sI (sI s1 6 3 (kI s1 6 2)) 8 3 (kI (sI s1 6 3 (kI s1 6 2)) 8 2)) 6 1)) 8 1)) 6 1 (kI (sI (sI (sI (sI s1 6 3 (kI s1 6 2)) 8 3 (kI (sI s1 6 3 (kI s1 6 2)) 8 2)) 6 2 (kI (sI (sI s1 6 3 (kI s1 6 2)) 8 3 (kI (sI s1 6 3 (kI s1 6 2)) 8 2)) 6 1)) 8 2 (kI (sI (sI (sI s1 6 3 (kI s1 6 2)) 8 3 (kI (sI s1 6 3 (kI s1 6 2)) 8 2)) 6 2 (kI (sI (sI s1 6 3 (kI s1 6 2)) 8 3 (kI (sI s1 6 3 (kI s1 6 2)) 8 2)) 6 1)) 8 1)) 6 0)) 8 0)) 6 0 rank) 8 0 value) 9 1) + 1)) := kx_wf_q (q := 1) (v := kI (sI (sI (sI (sI (sI (sI (sI (sI s1 6 3 (kI s1 6 2)) 8 3 (kI (sI s1 6 3 (kI s1 6 2)) 8 2)) 6 2 (kI (sI (sI s1 6 3 (kI s1 6 2)) 8 3 (kI (sI s1 6 3 (kI s1 6 2)) 8 2)) 6 1)) 8 2 (kI (sI (sI (sI s1 6 3 (kI s1 6 2)) 8 3 (kI (sI s1 6 3 (kI s1 6 2)) 8 2)) 6 2 (kI (sI (sI s1 6 3 (kI s1 6 2)) 8 3 (kI (sI s1 6 3 (kI s1 6 2)) 8 2)) 6 1)) 8 1)) 6 1 (kI (sI (sI (sI (sI s1 6 3 (kI s1 6 2)) 8 3 (kI (sI s1 6 3 (kI s1 6 2)) 8 2)) 6 2 (kI (sI (sI s1 6 3 (kI s1 6 2)) 8 3 (kI (sI s1 6 3 (kI s1 6 2)) 8 2)) 6 1)) 8 2 (kI (sI (sI (sI s1 6 3 (kI s1 6 2)) 8 3 (kI (sI s1 6 3 (kI s1 6 2)) 8 2)) 6 2 (kI (sI (sI s1 6 3 (kI s1 6 2)) 8 3 (kI (sI s1 6 3 (kI s1 6 2)) 8 2)) 6 1)) 8 1)) 6 0)) 8 1 (kI (sI (sI (sI (sI (sI s1 6 3 (kI s1 6 2)) 8 3 (kI (sI s1 6 3 (kI s1 6 2)) 8 2)) 6 2 (kI (sI (sI s1 6 3 (kI s1 6 2)) 8 3 (kI (sI s1 6 3 (kI s1 6 2)) 8 2)) 6 1)) 8 2 (kI (sI (sI (sI s1 6 3 (kI s1 6 2)) 8 3 (kI (sI s1 6 3 (kI s1 6 2)) 8 2)) 6 2 (kI (sI (sI s1 6 3 (kI s1 6 2)) 8 3 (kI (sI s1 6 3 (kI s1 6 2)) 8 2)) 6 1)) 8 1)) 6 1 (kI (sI (sI (sI (sI s1 6 3 (kI s1 6 2)) 8 3 (kI (sI s1 6 3 (kI s1 6 2)) 8 2)) 6 2 (kI (sI (sI s1 6 3 (kI s1 6 2)) 8 3 (kI (sI s1 6 3 (kI s1 6 2)) 8 2)) 6 1)) 8 2 (kI (sI (sI (sI s1 6 3 (kI s1 6 2)) 8 3 (kI (sI s1 6 3 (kI s1 6 2)) 8 2)) 6 2 (kI (sI (sI s1 6 3 (kI s1 6 2)) 8 3 (kI (sI s1 6 3 (kI s1 6 2)) 8 2)) 6 1)) 8 1)) 6 0)) 8 0)) 6 0 rank) 8 0 value) 9 1 + 1) hw ⟨4, by decide, by rw [show kI (sI (sI (sI (sI (sI (sI (sI (sI s1 6 3 (kI s1 6 2)) 8 3 (kI (sI s1 6 3 (kI s1 6 2)) 8 2)) 6 2 (kI (sI (sI s1 6 3 (kI s1 6 2)) 8 3 (kI (sI s1 6 3 (kI s1 6 2)) 8 2)) 6 1)) 8 2 (kI (sI (sI (sI s1 6 3 (kI s1 6 2)) 8 3 (kI (sI s1 6 3 (kI s1 6 2)) 8 2)) 6 2 (kI (sI (sI s1 6 3 (kI s1 6 2)) 8 3 (kI (sI s1 6 3 (kI s1 6 2)) 8 2)) 6 1)) 8 1)) 6 1 (kI (sI (sI (sI (sI s1 6 3 (kI s1 6 2)) 8 3 (kI (sI s1 6 3 (kI s1 6 2)) 8 2)) 6 2 (kI (sI (sI s1 6 3 (kI s1 6 2)) 8 3 (kI (sI s1 6 3 (kI s1 6 2)) 8 2)) 6 1)) 8 2 (kI (sI (sI (sI s1 6 3 (kI s1 6 2)) 8 3 (kI (sI s1 6 3 (kI s1 6 2)) 8 2)) 6 2 (kI (sI (sI s1 6 3 (kI s1 6 2)) 8 3 (kI (sI s1 6 3 (kI s1 6 2)) 8 2)) 6 1)) 8 1)) 6 0)) 8 1 (kI (sI (sI (sI (sI (sI s1 6 3 (kI s1 6 2)) 8 3 (kI (sI s1 6 3 (kI s1 6 2)) 8 2)) 6 2 (kI (sI (sI s1 6 3 (kI s1 6 2)) 8 3 (kI (sI s1 6 3 (kI s1 6 2)) 8 2)) 6 1)) 8 2 (kI (sI (sI (sI s1 6 3 (kI s1 6 2)) 8 3 (kI (sI s1 6 3 (kI s1 6 2)) 8 2)) 6 2 (kI (sI (sI s1 6 3 (kI s1 6 2)) 8 3 (kI (sI s1 6 3 (kI s1 6 2)) 8 2)) 6 1)) 8 1)) 6 1 (kI (sI (sI (sI (sI s1 6 3 (kI s1 6 2)) 8 3 (kI (sI s1 6 3 (kI s1 6 2)) 8 2)) 6 2 (kI (sI (sI s1 6 3 (kI s1 6 2)) 8 3 (kI (sI s1 6 3 (kI s1 6 2)) 8 2)) 6 1)) 8 2 (kI (sI (sI (sI s1 6 3 (kI s1 6 2)) 8 3 (kI (sI s1 6 3 (kI s1 6 2)) 8 2)) 6 2 (kI (sI (sI s1 6 3 (kI s1 6 2)) 8 3 (kI (sI s1 6 3 (kI s1 6 2)) 8 2)) 6 1)) 8 1)) 6 0)) 8 0)) 6 0 rank) 8 0 value) 9 1 = kI s1 9 1 from rfl, z_3]; decide⟩
                exact kk_vret hx hb hr hlocks hP hK hS ⟨hf.symm, hw⟩ dQ_insert_87
  · rw [if_neg c_4] at hf
    exact kk_vret hx hb hr hlocks hP hK hS ⟨hf.symm, hw⟩ dQ_insert_7
theorem xc_insert (l : Launch) (dC : Nat → ClassId) (dI : Nat → Nat → Nat) (ad : Nat → Nat) (cs : Nat → ClassId) (hj : kx_inj ad) (σ : kx_S) (hw : kx_wf σ) (q : Nat) (rank : Int32) (value : Int32) (hq : q < 2) : Met l y_Q_insert ws_Q_insert ({ frames := 1, cells := 0, slots := 0, locals := 20 }) (kk_Pc (dC, dI) vwCl (kx_t cs) (kx_w ad cs σ) [.ref (kx_qa ad q), .int rank, .int value]) (va_Qv (kx_pv (xf_insert σ q rank value)) (kk_B (dC, dI) vwCl (kx_t cs) (kx_w ad cs)) (kx_A ad)) 0 0 (kx_A ad) := by
  rcases (show q = 0 ∨ q = 1 by omega) with rfl | rfl
  · exact xc_insert_0 l dC dI ad cs hj σ hw rank value
  · exact xc_insert_1 l dC dI ad cs hj σ hw rank value
