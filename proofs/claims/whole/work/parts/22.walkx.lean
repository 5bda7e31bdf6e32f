set_option maxHeartbeats 4000000 in
set_option maxRecDepth 100000 in
theorem xc_removeFirst_0 (l : Launch) (dC : Nat → ClassId) (dI : Nat → Nat → Nat) (ad : Nat → Nat) (cs : Nat → ClassId) (hj : kx_inj ad) (σ : kx_S) (hw : kx_wf σ)  : Met l y_Q_removeFirst ws_Q_removeFirst ({ frames := 1, cells := 0, slots := 0, locals := 20 }) (kk_Pc (dC, dI) vwCl (kx_t cs) (kx_w ad cs σ) [.ref (ad 5)]) (va_Qi (kx_pi (xf_removeFirst_0 σ)) (kk_B (dC, dI) vwCl (kx_t cs) (kx_w ad cs)) (kx_A ad)) 0 0 (kx_A ad) := by
  refine Met.ofW (cc := b_Q_removeFirst) (maxL := 3) (ret := (some .int)) (by decide) rfl ?_
  intro p e s m args below meth c s₁ B hml hv
  obtain ⟨rfl, hP, hK⟩ := hv
  have hx := B.exec
  have hb := B.bytes
  have hr := B.returns
  have hts := atoms_spec (ws := ws_Q_removeFirst) B.pre
  have hown : s.vm.findClass R_Q = some m.cls := findClass_of_methodNamed B.named
  have hlocks := B.notSynchronized
  have hS : va_S (kx_A ad) s.heap s.heap [] := va_S.rf
  generalize hf : xf_removeFirst_0 σ = out
  have hl := lv_entry ([.ref (ad 5)]) (n := 3) (Nat.le_of_ble_eq_true rfl)
  rw [lg_entry_eq]
  generalize (lg_sl ([.ref (ad 5)]) ++ List.replicate (3 - (lg_sl ([.ref (ad 5)])).length) Slot.unset).toArray = ls at hl ⊢
  have hl : lv_has ls 3 [(0, .ref (ad 5))] := hl
  rw [xf_removeFirst_0] at hf
  refine lv_aload_n hx hb dQ_removeFirst_0 rfl (lv_at hl 0 rfl) ?_
  refine kk_ci (w := kx_w ad cs) (As := []) (rest := []) ⟨hx, hb, hml, hown, hts⟩ (xc_isEmpty_0 l dC dI ad cs hj σ hw  ) (cwV 0 hts gv_Q_26 rfl rfl rfl (by decide +kernel) ⟨Nat.le_of_ble_eq_true rfl, Nat.le_of_ble_eq_true rfl⟩) (va_recv hK hP (ci := 0) (q0 := 5) rfl rfl) hP hK hS (fun _ h9 => h9) rfl hl.1 rfl (Nat.le_of_ble_eq_true rfl) dQ_removeFirst_1 ⟨Nat.zero_le _, Nat.zero_le _⟩ (fun r1 s1 H locs hq hP hS => ?_)
  obtain ⟨h1, hw⟩ := hq
  rw [kk_b_eq h1] at hf
  refine lv_if_eq (tgt := 9) hx hb dQ_removeFirst_4 (by decide) (fun c_4 => ?_) (fun c_4 => ?_)
  · rw [if_pos c_4] at hf
    rcases Classical.em ((kI s1 9 0) = 1) with z_1 | z_1
    · rw [if_pos z_1] at hf
      refine lv_aload_n hx hb dQ_removeFirst_9 rfl (lv_at hl 0 rfl) ?_
      refine va_get (D := (dC, dI)) (ci := 0) (v := .ref (ad 9)) (C := R_Q) (T := T_Q) (N := 3) hx hb hts uw_Q hown hK hP 5 rfl rfl 1 (by decide) (hts _ (List.mem_cons_of_mem _ wd_94)) (fun _ h9 => h9) rfl dQ_removeFirst_10 ?_
      refine lv_iconst (v := 0) hx hb dQ_removeFirst_13 (by decide) ?_
      refine va_iald hx hb hK hP 9 6 rfl rfl (kk_inl (by decide)) dQ_removeFirst_14 ?_
      rw [kk_c0]
      refine lv_istore_n (lv' := [(1, .int (kI s1 7 0)), (0, .ref (ad 5))]) hx hb dQ_removeFirst_15 rfl hl (by decide) rfl (fun ls hl => ?_)
      refine lv_aload_n hx hb dQ_removeFirst_16 rfl (lv_at hl 1 rfl) ?_
      refine lv_dup hx hb dQ_removeFirst_17 rfl ?_
      refine va_get (D := (dC, dI)) (ci := 0) (v := .int (kI s1 9 0)) (C := R_Q) (T := T_Q) (N := 3) hx hb hts uw_Q hown hK hP 5 rfl rfl 2 (by decide) (hts _ (List.mem_cons_of_mem _ wd_95)) (fun _ h9 => h9) rfl dQ_removeFirst_18 ?_
      refine lv_iconst (v := 1) hx hb dQ_removeFirst_21 (by decide) ?_
      refine lv_isub hx hb dQ_removeFirst_22 ?_
      refine va_put (D := (dC, dI)) (ci := 0) (v := .int ((kI s1 9 0) - 1)) (ty := .int) (C := R_Q) (T := T_Q) (N := 3) hx hb hts uw_Q ty_Q ty_Q_ok nm_Q hown hK hP (kx_D hj) hS 5 rfl rfl 2 (by decide) (hts _ (List.mem_cons_of_mem _ wd_95)) (fun _ h9 => h9) rfl (by decide +kernel) rfl rfl (Nat.le_of_ble_eq_true rfl) dQ_removeFirst_23 (fun H locs hP _ hS => ?_)
      replace hP := kx_u_size0 hP
      replace hw : kx_wf (sI s1 9 0 ((kI s1 9 0) - 1)) := kx_wf_q (q := 0) (v := kI s1 9 0 - 1) hw ⟨0, by decide, by rw [z_1]; decide⟩
      refine lv_iconst (v := 0) hx hb dQ_removeFirst_26 (by decide) ?_
      refine lv_istore_n (lv' := [(2, .int 0), (1, .int (kI s1 7 0)), (0, .ref (ad 5))]) hx hb dQ_removeFirst_27 rfl hl (by decide) rfl (fun ls hl => ?_)
      refine lv_iload_n hx hb dQ_removeFirst_28 rfl (lv_at hl 0 rfl) ?_
      refine lv_aload_n hx hb dQ_removeFirst_29 rfl (lv_at hl 2 rfl) ?_
      refine va_get (D := (dC, dI)) (ci := 0) (v := .int (kI (sI s1 9 0 ((kI s1 9 0) - 1)) 9 0)) (C := R_Q) (T := T_Q) (N := 3) hx hb hts uw_Q hown hK hP 5 rfl rfl 2 (by decide) (hts _ (List.mem_cons_of_mem _ wd_95)) (fun _ h9 => h9) rfl dQ_removeFirst_30 ?_
      rw [show kI (sI s1 9 0 ((kI s1 9 0) - 1)) 9 0 = 0 from (show (kI (sI s1 9 0 ((kI s1 9 0) - 1)) 9 0) = kI s1 9 0 - 1 from rfl).trans (by rw [z_1]; decide)]
      refine lv_icmp_ge (tgt := 70) hx hb dQ_removeFirst_33 (by decide) (fun _ => ?_) (fun c9 => absurd (by decide) c9)
      refine lv_iload_n hx hb dQ_removeFirst_70 rfl (lv_at hl 1 rfl) ?_
      exact kk_iret hx hb hr hlocks hP hK hS ⟨hf.symm, hw⟩ dQ_removeFirst_71
    · rw [if_neg z_1] at hf
      rcases Classical.em ((kI s1 9 0) = 2) with z_2 | z_2
      · rw [if_pos z_2] at hf
        refine lv_aload_n hx hb dQ_removeFirst_9 rfl (lv_at hl 0 rfl) ?_
        refine va_get (D := (dC, dI)) (ci := 0) (v := .ref (ad 9)) (C := R_Q) (T := T_Q) (N := 3) hx hb hts uw_Q hown hK hP 5 rfl rfl 1 (by decide) (hts _ (List.mem_cons_of_mem _ wd_94)) (fun _ h9 => h9) rfl dQ_removeFirst_10 ?_
        refine lv_iconst (v := 0) hx hb dQ_removeFirst_13 (by decide) ?_
        refine va_iald hx hb hK hP 9 6 rfl rfl (kk_inl (by decide)) dQ_removeFirst_14 ?_
        rw [kk_c0]
        refine lv_istore_n (lv' := [(1, .int (kI s1 7 0)), (0, .ref (ad 5))]) hx hb dQ_removeFirst_15 rfl hl (by decide) rfl (fun ls hl => ?_)
        refine lv_aload_n hx hb dQ_removeFirst_16 rfl (lv_at hl 1 rfl) ?_
        refine lv_dup hx hb dQ_removeFirst_17 rfl ?_
        refine va_get (D := (dC, dI)) (ci := 0) (v := .int (kI s1 9 0)) (C := R_Q) (T := T_Q) (N := 3) hx hb hts uw_Q hown hK hP 5 rfl rfl 2 (by decide) (hts _ (List.mem_cons_of_mem _ wd_95)) (fun _ h9 => h9) rfl dQ_removeFirst_18 ?_
        refine lv_iconst (v := 1) hx hb dQ_removeFirst_21 (by decide) ?_
        refine lv_isub hx hb dQ_removeFirst_22 ?_
        refine va_put (D := (dC, dI)) (ci := 0) (v := .int ((kI s1 9 0) - 1)) (ty := .int) (C := R_Q) (T := T_Q) (N := 3) hx hb hts uw_Q ty_Q ty_Q_ok nm_Q hown hK hP (kx_D hj) hS 5 rfl rfl 2 (by decide) (hts _ (List.mem_cons_of_mem _ wd_95)) (fun _ h9 => h9) rfl (by decide +kernel) rfl rfl (Nat.le_of_ble_eq_true rfl) dQ_removeFirst_23 (fun H locs hP _ hS => ?_)
        replace hP := kx_u_size0 hP
        replace hw : kx_wf (sI s1 9 0 ((kI s1 9 0) - 1)) := kx_wf_q (q := 0) (v := kI s1 9 0 - 1) hw ⟨1, by decide, by rw [z_2]; decide⟩
        refine lv_iconst (v := 0) hx hb dQ_removeFirst_26 (by decide) ?_
        refine lv_istore_n (lv' := [(2, .int 0), (1, .int (kI s1 7 0)), (0, .ref (ad 5))]) hx hb dQ_removeFirst_27 rfl hl (by decide) rfl (fun ls hl => ?_)
        refine lv_iload_n hx hb dQ_removeFirst_28 rfl (lv_at hl 0 rfl) ?_
        refine lv_aload_n hx hb dQ_removeFirst_29 rfl (lv_at hl 2 rfl) ?_
        refine va_get (D := (dC, dI)) (ci := 0) (v := .int (kI (sI s1 9 0 ((kI s1 9 0) - 1)) 9 0)) (C := R_Q) (T := T_Q) (N := 3) hx hb hts uw_Q hown hK hP 5 rfl rfl 2 (by decide) (hts _ (List.mem_cons_of_mem _ wd_95)) (fun _ h9 => h9) rfl dQ_removeFirst_30 ?_
        rw [show kI (sI s1 9 0 ((kI s1 9 0) - 1)) 9 0 = 1 from (show (kI (sI s1 9 0 ((kI s1 9 0) - 1)) 9 0) = kI s1 9 0 - 1 from rfl).trans (by rw [z_2]; decide)]
        refine lv_icmp_ge (tgt := 70) hx hb dQ_removeFirst_33 (by decide) (fun c9 => absurd c9 (by decide)) (fun _ => ?_)
        refine lv_aload_n hx hb dQ_removeFirst_36 rfl (lv_at hl 2 rfl) ?_
        refine va_get (D := (dC, dI)) (ci := 0) (v := .ref (ad 7)) (C := R_Q) (T := T_Q) (N := 3) hx hb hts uw_Q hown hK hP 5 rfl rfl 0 (by decide) (hts _ (List.mem_cons_of_mem _ wd_93)) (fun _ h9 => h9) rfl dQ_removeFirst_37 ?_
        refine lv_iload_n hx hb dQ_removeFirst_40 rfl (lv_at hl 0 rfl) ?_
        refine lv_aload_n hx hb dQ_removeFirst_41 rfl (lv_at hl 2 rfl) ?_
        refine va_get (D := (dC, dI)) (ci := 0) (v := .ref (ad 7)) (C := R_Q) (T := T_Q) (N := 3) hx hb hts uw_Q hown hK hP 5 rfl rfl 0 (by decide) (hts _ (List.mem_cons_of_mem _ wd_93)) (fun _ h9 => h9) rfl dQ_removeFirst_42 ?_
        refine lv_iload_n hx hb dQ_removeFirst_45 rfl (lv_at hl 0 rfl) ?_
        refine lv_iconst (v := 1) hx hb dQ_removeFirst_46 (by decide) ?_
        refine lv_iadd hx hb dQ_removeFirst_47 ?_
        refine lv_topi (fun z9 e9 => ?_)
        obtain rfl : z9 = 1 := e9.trans (by decide)
        refine va_iald hx hb hK hP 7 4 rfl rfl (kk_inl (by decide)) dQ_removeFirst_48 ?_
        rw [kk_c1]
        refine va_iast hx hb hK hP (kx_D hj) hS 7 4 rfl rfl (kk_inl (by decide)) dQ_removeFirst_49 (fun H locs hP _ hS => ?_)
        rw [kk_c0] at hP
        replace hP := kx_u_a5 hP
        replace hw := kx_wf_I (f := 5) (i := 0) (v := kI (sI s1 9 0 ((kI s1 9 0) - 1)) 5 1) hw (by decide)
        refine lv_aload_n hx hb dQ_removeFirst_50 rfl (lv_at hl 2 rfl) ?_
        refine va_get (D := (dC, dI)) (ci := 0) (v := .ref (ad 9)) (C := R_Q) (T := T_Q) (N := 3) hx hb hts uw_Q hown hK hP 5 rfl rfl 1 (by decide) (hts _ (List.mem_cons_of_mem _ wd_94)) (fun _ h9 => h9) rfl dQ_removeFirst_51 ?_
        refine lv_iload_n hx hb dQ_removeFirst_54 rfl (lv_at hl 0 rfl) ?_
        refine lv_aload_n hx hb dQ_removeFirst_55 rfl (lv_at hl 2 rfl) ?_
        refine va_get (D := (dC, dI)) (ci := 0) (v := .ref (ad 9)) (C := R_Q) (T := T_Q) (N := 3) hx hb hts uw_Q hown hK hP 5 rfl rfl 1 (by decide) (hts _ (List.mem_cons_of_mem _ wd_94)) (fun _ h9 => h9) rfl dQ_removeFirst_56 ?_
        refine lv_iload_n hx hb dQ_removeFirst_59 rfl (lv_at hl 0 rfl) ?_
        refine lv_iconst (v := 1) hx hb dQ_removeFirst_60 (by decide) ?_
        refine lv_iadd hx hb dQ_removeFirst_61 ?_
        refine lv_topi (fun z9 e9 => ?_)
        obtain rfl : z9 = 1 := e9.trans (by decide)
        refine va_iald hx hb hK hP 9 6 rfl rfl (kk_inl (by decide)) dQ_removeFirst_62 ?_
        rw [kk_c1]
        refine va_iast hx hb hK hP (kx_D hj) hS 9 6 rfl rfl (kk_inl (by decide)) dQ_removeFirst_63 (fun H locs hP _ hS => ?_)
        rw [kk_c0] at hP
        replace hP := kx_u_a7 hP
        replace hw := kx_wf_I (f := 7) (i := 0) (v := kI (sI (sI s1 9 0 ((kI s1 9 0) - 1)) 5 0 (kI (sI s1 9 0 ((kI s1 9 0) - 1)) 5 1)) 7 1) hw (by decide)
        refine lv_iinc (v := 1) (lv' := [(2, .int 1), (1, .int (kI s1 7 0)), (0, .ref (ad 5))]) hx hb dQ_removeFirst_64 hl (k := 0) rfl (by decide) (by decide) rfl (fun ls hl => ?_)
        refine lv_goto (tgt := 28) hx hb dQ_removeFirst_67 (by decide) ?_
        refine lv_iload_n hx hb dQ_removeFirst_28 rfl (lv_at hl 0 rfl) ?_
        refine lv_aload_n hx hb dQ_removeFirst_29 rfl (lv_at hl 2 rfl) ?_
        refine va_get (D := (dC, dI)) (ci := 0) (v := .int (kI (sI (sI (sI s1 9 0 ((kI s1 9 0) - 1)) 5 0 (kI (sI s1 9 0 ((kI s1 9 0) - 1)) 5 1)) 7 0 (kI (sI (sI s1 9 0 ((kI s1 9 0) - 1)) 5 0 (kI (sI s1 9 0 ((kI s1 9 0) - 1)) 5 1)) 7 1)) 9 0)) (C := R_Q) (T := T_Q) (N := 3) hx hb hts uw_Q hown hK hP 5 rfl rfl 2 (by decide) (hts _ (List.mem_cons_of_mem _ wd_95)) (fun _ h9 => h9) rfl dQ_removeFirst_30 ?_
        rw [show kI (sI (sI (sI s1 9 0 ((kI s1 9 0) - 1)) 5 0 (kI (sI s1 9 0 ((kI s1 9 0) - 1)) 5 1)) 7 0 (kI (sI (sI s1 9 0 ((kI s1 9 0) - 1)) 5 0 (kI (sI s1 9 0 ((kI s1 9 0) - 1)) 5 1)) 7 1)) 9 0 = 1 from (show (kI (sI (sI (sI s1 9 0 ((kI s1 9 0) - 1)) 5 0 (kI (sI s1 9 0 ((kI s1 9 0) - 1)) 5 1)) 7 0 (kI (sI (sI s1 9 0 ((kI s1 9 0) - 1)) 5 0 (kI (sI s1 9 0 ((kI s1 9 0) - 1)) 5 1)) 7 1)) 9 0) = kI s1 9 0 - 1 from rfl).trans (by rw [z_2]; decide)]
        refine lv_icmp_ge (tgt := 70) hx hb dQ_removeFirst_33 (by decide) (fun _ => ?_) (fun c9 => absurd (by decide) c9)
        refine lv_iload_n hx hb dQ_removeFirst_70 rfl (lv_at hl 1 rfl) ?_
        exact kk_iret hx hb hr hlocks hP hK hS ⟨hf.symm, hw⟩ dQ_removeFirst_71
      · rw [if_neg z_2] at hf
        rcases Classical.em ((kI s1 9 0) = 3) with z_3 | z_3
        · rw [if_pos z_3] at hf
          refine lv_aload_n hx hb dQ_removeFirst_9 rfl (lv_at hl 0 rfl) ?_
          refine va_get (D := (dC, dI)) (ci := 0) (v := .ref (ad 9)) (C := R_Q) (T := T_Q) (N := 3) hx hb hts uw_Q hown hK hP 5 rfl rfl 1 (by decide) (hts _ (List.mem_cons_of_mem _ wd_94)) (fun _ h9 => h9) rfl dQ_removeFirst_10 ?_
          refine lv_iconst (v := 0) hx hb dQ_removeFirst_13 (by decide) ?_
          refine va_iald hx hb hK hP 9 6 rfl rfl (kk_inl (by decide)) dQ_removeFirst_14 ?_
          rw [kk_c0]
          refine lv_istore_n (lv' := [(1, .int (kI s1 7 0)), (0, .ref (ad 5))]) hx hb dQ_removeFirst_15 rfl hl (by decide) rfl (fun ls hl => ?_)
          refine lv_aload_n hx hb dQ_removeFirst_16 rfl (lv_at hl 1 rfl) ?_
          refine lv_dup hx hb dQ_removeFirst_17 rfl ?_
          refine va_get (D := (dC, dI)) (ci := 0) (v := .int (kI s1 9 0)) (C := R_Q) (T := T_Q) (N := 3) hx hb hts uw_Q hown hK hP 5 rfl rfl 2 (by decide) (hts _ (List.mem_cons_of_mem _ wd_95)) (fun _ h9 => h9) rfl dQ_removeFirst_18 ?_
          refine lv_iconst (v := 1) hx hb dQ_removeFirst_21 (by decide) ?_
          refine lv_isub hx hb dQ_removeFirst_22 ?_
          refine va_put (D := (dC, dI)) (ci := 0) (v := .int ((kI s1 9 0) - 1)) (ty := .int) (C := R_Q) (T := T_Q) (N := 3) hx hb hts uw_Q ty_Q ty_Q_ok nm_Q hown hK hP (kx_D hj) hS 5 rfl rfl 2 (by decide) (hts _ (List.mem_cons_of_mem _ wd_95)) (fun _ h9 => h9) rfl (by decide +kernel) rfl rfl (Nat.le_of_ble_eq_true rfl) dQ_removeFirst_23 (fun H locs hP _ hS => ?_)
          replace hP := kx_u_size0 hP
          replace hw : kx_wf (sI s1 9 0 ((kI s1 9 0) - 1)) := kx_wf_q (q := 0) (v := kI s1 9 0 - 1) hw ⟨2, by decide, by rw [z_3]; decide⟩
          refine lv_iconst (v := 0) hx hb dQ_removeFirst_26 (by decide) ?_
          refine lv_istore_n (lv' := [(2, .int 0), (1, .int (kI s1 7 0)), (0, .ref (ad 5))]) hx hb dQ_removeFirst_27 rfl hl (by decide) rfl (fun ls hl => ?_)
          refine lv_iload_n hx hb dQ_removeFirst_28 rfl (lv_at hl 0 rfl) ?_
          refine lv_aload_n hx hb dQ_removeFirst_29 rfl (lv_at hl 2 rfl) ?_
          refine va_get (D := (dC, dI)) (ci := 0) (v := .int (kI (sI s1 9 0 ((kI s1 9 0) - 1)) 9 0)) (C := R_Q) (T := T_Q) (N := 3) hx hb hts uw_Q hown hK hP 5 rfl rfl 2 (by decide) (hts _ (List.mem_cons_of_mem _ wd_95)) (fun _ h9 => h9) rfl dQ_removeFirst_30 ?_
          rw [show kI (sI s1 9 0 ((kI s1 9 0) - 1)) 9 0 = 2 from (show (kI (sI s1 9 0 ((kI s1 9 0) - 1)) 9 0) = kI s1 9 0 - 1 from rfl).trans (by rw [z_3]; decide)]
          refine lv_icmp_ge (tgt := 70) hx hb dQ_removeFirst_33 (by decide) (fun c9 => absurd c9 (by decide)) (fun _ => ?_)
          refine lv_aload_n hx hb dQ_removeFirst_36 rfl (lv_at hl 2 rfl) ?_
          refine va_get (D := (dC, dI)) (ci := 0) (v := .ref (ad 7)) (C := R_Q) (T := T_Q) (N := 3) hx hb hts uw_Q hown hK hP 5 rfl rfl 0 (by decide) (hts _ (List.mem_cons_of_mem _ wd_93)) (fun _ h9 => h9) rfl dQ_removeFirst_37 ?_
          refine lv_iload_n hx hb dQ_removeFirst_40 rfl (lv_at hl 0 rfl) ?_
          refine lv_aload_n hx hb dQ_removeFirst_41 rfl (lv_at hl 2 rfl) ?_
          refine va_get (D := (dC, dI)) (ci := 0) (v := .ref (ad 7)) (C := R_Q) (T := T_Q) (N := 3) hx hb hts uw_Q hown hK hP 5 rfl rfl 0 (by decide) (hts _ (List.mem_cons_of_mem _ wd_93)) (fun _ h9 => h9) rfl dQ_removeFirst_42 ?_
          refine lv_iload_n hx hb dQ_removeFirst_45 rfl (lv_at hl 0 rfl) ?_
          refine lv_iconst (v := 1) hx hb dQ_removeFirst_46 (by decide) ?_
          refine lv_iadd hx hb dQ_removeFirst_47 ?_
          refine lv_topi (fun z9 e9 => ?_)
          obtain rfl : z9 = 1 := e9.trans (by decide)
          refine va_iald hx hb hK hP 7 4 rfl rfl (kk_inl (by decide)) dQ_removeFirst_48 ?_
          rw [kk_c1]
          refine va_iast hx hb hK hP (kx_D hj) hS 7 4 rfl rfl (kk_inl (by decide)) dQ_removeFirst_49 (fun H locs hP _ hS => ?_)
          rw [kk_c0] at hP
          replace hP := kx_u_a5 hP
          replace hw := kx_wf_I (f := 5) (i := 0) (v := kI (sI s1 9 0 ((kI s1 9 0) - 1)) 5 1) hw (by decide)
          refine lv_aload_n hx hb dQ_removeFirst_50 rfl (lv_at hl 2 rfl) ?_
          refine va_get (D := (dC, dI)) (ci := 0) (v := .ref (ad 9)) (C := R_Q) (T := T_Q) (N := 3) hx hb hts uw_Q hown hK hP 5 rfl rfl 1 (by decide) (hts _ (List.mem_cons_of_mem _ wd_94)) (fun _ h9 => h9) rfl dQ_removeFirst_51 ?_
          refine lv_iload_n hx hb dQ_removeFirst_54 rfl (lv_at hl 0 rfl) ?_
          refine lv_aload_n hx hb dQ_removeFirst_55 rfl (lv_at hl 2 rfl) ?_
          refine va_get (D := (dC, dI)) (ci := 0) (v := .ref (ad 9)) (C := R_Q) (T := T_Q) (N := 3) hx hb hts uw_Q hown hK hP 5 rfl rfl 1 (by decide) (hts _ (List.mem_cons_of_mem _ wd_94)) (fun _ h9 => h9) rfl dQ_removeFirst_56 ?_
          refine lv_iload_n hx hb dQ_removeFirst_59 rfl (lv_at hl 0 rfl) ?_
          refine lv_iconst (v := 1) hx hb dQ_removeFirst_60 (by decide) ?_
          refine lv_iadd hx hb dQ_removeFirst_61 ?_
          refine lv_topi (fun z9 e9 => ?_)
          obtain rfl : z9 = 1 := e9.trans (by decide)
          refine va_iald hx hb hK hP 9 6 rfl rfl (kk_inl (by decide)) dQ_removeFirst_62 ?_
          rw [kk_c1]
          refine va_iast hx hb hK hP (kx_D hj) hS 9 6 rfl rfl (kk_inl (by decide)) dQ_removeFirst_63 (fun H locs hP _ hS => ?_)
          rw [kk_c0] at hP
          replace hP := kx_u_a7 hP
          replace hw := kx_wf_I (f := 7) (i := 0) (v := kI (sI (sI s1 9 0 ((kI s1 9 0) - 1)) 5 0 (kI (sI s1 9 0 ((kI s1 9 0) - 1)) 5 1)) 7 1) hw (by decide)
          refine lv_iinc (v := 1) (lv' := [(2, .int 1), (1, .int (kI s1 7 0)), (0, .ref (ad 5))]) hx hb dQ_removeFirst_64 hl (k := 0) rfl (by decide) (by decide) rfl (fun ls hl => ?_)
          refine lv_goto (tgt := 28) hx hb dQ_removeFirst_67 (by decide) ?_
          refine lv_iload_n hx hb dQ_removeFirst_28 rfl (lv_at hl 0 rfl) ?_
          refine lv_aload_n hx hb dQ_removeFirst_29 rfl (lv_at hl 2 rfl) ?_
          refine va_get (D := (dC, dI)) (ci := 0) (v := .int (kI (sI (sI (sI s1 9 0 ((kI s1 9 0) - 1)) 5 0 (kI (sI s1 9 0 ((kI s1 9 0) - 1)) 5 1)) 7 0 (kI (sI (sI s1 9 0 ((kI s1 9 0) - 1)) 5 0 (kI (sI s1 9 0 ((kI s1 9 0) - 1)) 5 1)) 7 1)) 9 0)) (C := R_Q) (T := T_Q) (N := 3) hx hb hts uw_Q hown hK hP 5 rfl rfl 2 (by decide) (hts _ (List.mem_cons_of_mem _ wd_95)) (fun _ h9 => h9) rfl dQ_removeFirst_30 ?_
          rw [show kI (sI (sI (sI s1 9 0 ((kI s1 9 0) - 1)) 5 0 (kI (sI s1 9 0 ((kI s1 9 0) - 1)) 5 1)) 7 0 (kI (sI (sI s1 9 0 ((kI s1 9 0) - 1)) 5 0 (kI (sI s1 9 0 ((kI s1 9 0) - 1)) 5 1)) 7 1)) 9 0 = 2 from (show (kI (sI (sI (sI s1 9 0 ((kI s1 9 0) - 1)) 5 0 (kI (sI s1 9 0 ((kI s1 9 0) - 1)) 5 1)) 7 0 (kI (sI (sI s1 9 0 ((kI s1 9 0) - 1)) 5 0 (kI (sI s1 9 0 ((kI s1 9 0) - 1)) 5 1)) 7 1)) 9 0) = kI s1 9 0 - 1 from rfl).trans (by rw [z_3]; decide)]
          refine lv_icmp_ge (tgt := 70) hx hb dQ_removeFirst_33 (by decide) (fun c9 => absurd c9 (by decide)) (fun _ => ?_)
          refine lv_aload_n hx hb dQ_removeFirst_36 rfl (lv_at hl 2 rfl) ?_
          refine va_get (D := (dC, dI)) (ci := 0) (v := .ref (ad 7)) (C := R_Q) (T := T_Q) (N := 3) hx hb hts uw_Q hown hK hP 5 rfl rfl 0 (by decide) (hts _ (List.mem_cons_of_mem _ wd_93)) (fun _ h9 => h9) rfl dQ_removeFirst_37 ?_
          refine lv_iload_n hx hb dQ_removeFirst_40 rfl (lv_at hl 0 rfl) ?_
          refine lv_aload_n hx hb dQ_removeFirst_41 rfl (lv_at hl 2 rfl) ?_
          refine va_get (D := (dC, dI)) (ci := 0) (v := .ref (ad 7)) (C := R_Q) (T := T_Q) (N := 3) hx hb hts uw_Q hown hK hP 5 rfl rfl 0 (by decide) (hts _ (List.mem_cons_of_mem _ wd_93)) (fun _ h9 => h9) rfl dQ_removeFirst_42 ?_
          refine lv_iload_n hx hb dQ_removeFirst_45 rfl (lv_at hl 0 rfl) ?_
          refine lv_iconst (v := 1) hx hb dQ_removeFirst_46 (by decide) ?_
          refine lv_iadd hx hb dQ_removeFirst_47 ?_
          refine lv_topi (fun z9 e9 => ?_)
          obtain rfl : z9 = 2 := e9.trans (by decide)
          refine va_iald hx hb hK hP 7 4 rfl rfl (kk_inl (by decide)) dQ_removeFirst_48 ?_
          rw [kk_c2]
          refine va_iast hx hb hK hP (kx_D hj) hS 7 4 rfl rfl (kk_inl (by decide)) dQ_removeFirst_49 (fun H locs hP _ hS => ?_)
          rw [kk_c1] at hP
          replace hP := kx_u_a5 hP
          replace hw := kx_wf_I (f := 5) (i := 1) (v := kI (sI (sI (sI s1 9 0 ((kI s1 9 0) - 1)) 5 0 (kI (sI s1 9 0 ((kI s1 9 0) - 1)) 5 1)) 7 0 (kI (sI (sI s1 9 0 ((kI s1 9 0) - 1)) 5 0 (kI (sI s1 9 0 ((kI s1 9 0) - 1)) 5 1)) 7 1)) 5 2) hw (by decide)
          refine lv_aload_n hx hb dQ_removeFirst_50 rfl (lv_at hl 2 rfl) ?_
          refine va_get (D := (dC, dI)) (ci := 0) (v := .ref (ad 9)) (C := R_Q) (T := T_Q) (N := 3) hx hb hts uw_Q hown hK hP 5 rfl rfl 1 (by decide) (hts _ (List.mem_cons_of_mem _ wd_94)) (fun _ h9 => h9) rfl dQ_removeFirst_51 ?_
          refine lv_iload_n hx hb dQ_removeFirst_54 rfl (lv_at hl 0 rfl) ?_
          refine lv_aload_n hx hb dQ_removeFirst_55 rfl (lv_at hl 2 rfl) ?_
          refine va_get (D := (dC, dI)) (ci := 0) (v := .ref (ad 9)) (C := R_Q) (T := T_Q) (N := 3) hx hb hts uw_Q hown hK hP 5 rfl rfl 1 (by decide) (hts _ (List.mem_cons_of_mem _ wd_94)) (fun _ h9 => h9) rfl dQ_removeFirst_56 ?_
          refine lv_iload_n hx hb dQ_removeFirst_59 rfl (lv_at hl 0 rfl) ?_
          refine lv_iconst (v := 1) hx hb dQ_removeFirst_60 (by decide) ?_
          refine lv_iadd hx hb dQ_removeFirst_61 ?_
          refine lv_topi (fun z9 e9 => ?_)
          obtain rfl : z9 = 2 := e9.trans (by decide)
          refine va_iald hx hb hK hP 9 6 rfl rfl (kk_inl (by decide)) dQ_removeFirst_62 ?_
          rw [kk_c2]
          refine va_iast hx hb hK hP (kx_D hj) hS 9 6 rfl rfl (kk_inl (by decide)) dQ_removeFirst_63 (fun H locs hP _ hS => ?_)
          rw [kk_c1] at hP
          replace hP := kx_u_a7 hP
          replace hw := kx_wf_I (f := 7) (i := 1) (v := kI (sI (sI (sI (sI s1 9 0 ((kI s1 9 0) - 1)) 5 0 (kI (sI s1 9 0 ((kI s1 9 0) - 1)) 5 1)) 7 0 (kI (sI (sI s1 9 0 ((kI s1 9 0) - 1)) 5 0 (kI (sI s1 9 0 ((kI s1 9 0) - 1)) 5 1)) 7 1)) 5 1 (kI (sI (sI (sI s1 9 0 ((kI s1 9 0) - 1)) 5 0 (kI (sI s1 9 0 ((kI s1 9 0) - 1)) 5 1)) 7 0 (kI (sI (sI s1 9 0 ((kI s1 9 0) - 1)) 5 0 (kI (sI s1 9 0 ((kI s1 9 0) - 1)) 5 1)) 7 1)) 5 2)) 7 2) hw (by decide)
          refine lv_iinc (v := 2) (lv' := [(2, .int 2), (1, .int (kI s1 7 0)), (0, .ref (ad 5))]) hx hb dQ_removeFirst_64 hl (k := 0) rfl (by decide) (by decide) rfl (fun ls hl => ?_)
          refine lv_goto (tgt := 28) hx hb dQ_removeFirst_67 (by decide) ?_
          refine lv_iload_n hx hb dQ_removeFirst_28 rfl (lv_at hl 0 rfl) ?_
          refine lv_aload_n hx hb dQ_removeFirst_29 rfl (lv_at hl 2 rfl) ?_
          refine va_get (D := (dC, dI)) (ci := 0) (v := .int (kI (sI (sI (sI (sI (sI s1 9 0 ((kI s1 9 0) - 1)) 5 0 (kI (sI s1 9 0 ((kI s1 9 0) - 1)) 5 1)) 7 0 (kI (sI (sI s1 9 0 ((kI s1 9 0) - 1)) 5 0 (kI (sI s1 9 0 ((kI s1 9 0) - 1)) 5 1)) 7 1)) 5 1 (kI (sI (sI (sI s1 9 0 ((kI s1 9 0) - 1)) 5 0 (kI (sI s1 9 0 ((kI s1 9 0) - 1)) 5 1)) 7 0 (kI (sI (sI s1 9 0 ((kI s1 9 0) - 1)) 5 0 (kI (sI s1 9 0 ((kI s1 9 0) - 1)) 5 1)) 7 1)) 5 2)) 7 1 (kI (sI (sI (sI (sI s1 9 0 ((kI s1 9 0) - 1)) 5 0 (kI (sI s1 9 0 ((kI s1 9 0) - 1)) 5 1)) 7 0 (kI (sI (sI s1 9 0 ((kI s1 9 0) - 1)) 5 0 (kI (sI s1 9 0 ((kI s1 9 0) - 1)) 5 1)) 7 1)) 5 1 (kI (sI (sI (sI s1 9 0 ((kI s1 9 0) - 1)) 5 0 (kI (sI s1 9 0 ((kI s1 9 0) - 1)) 5 1)) 7 0 (kI (sI (sI s1 9 0 ((kI s1 9 0) - 1)) 5 0 (kI (sI s1 9 0 ((kI s1 9 0) - 1)) 5 1)) 7 1)) 5 2)) 7 2)) 9 0)) (C := R_Q) (T := T_Q) (N := 3) hx hb hts uw_Q hown hK hP 5 rfl rfl 2 (by decide) (hts _ (List.mem_cons_of_mem _ wd_95)) (fun _ h9 => h9) rfl dQ_removeFirst_30 ?_
          rw [show kI (sI (sI (sI (sI (sI s1 9 0 ((kI s1 9 0) - 1)) 5 0 (kI (sI s1 9 0 ((kI s1 9 0) - 1)) 5 1)) 7 0 (kI (sI (sI s1 9 0 ((kI s1 9 0) - 1)) 5 0 (kI (sI s1 9 0 ((kI s1 9 0) - 1)) 5 1)) 7 1)) 5 1 (kI (sI (sI (sI s1 9 0 ((kI s1 9 0) - 1)) 5 0 (kI (sI s1 9 0 ((kI s1 9 0) - 1)) 5 1)) 7 0 (kI (sI (sI s1 9 0 ((kI s1 9 0) - 1)) 5 0 (kI (sI s1 9 0 ((kI s1 9 0) - 1)) 5 1)) 7 1)) 5 2)) 7 1 (kI (sI (sI (sI (sI s1 9 0 ((kI s1 9 0) - 1)) 5 0 (kI (sI s1 9 0 ((kI s1 9 0) - 1)) 5 1)) 7 0 (kI (sI (sI s1 9 0 ((kI s1 9 0) - 1)) 5 0 (kI (sI s1 9 0 ((kI s1 9 0) - 1)) 5 1)) 7 1)) 5 1 (kI (sI (sI (sI s1 9 0 ((kI s1 9 0) - 1)) 5 0 (kI (sI s1 9 0 ((kI s1 9 0) - 1)) 5 1)) 7 0 (kI (sI (sI s1 9 0 ((kI s1 9 0) - 1)) 5 0 (kI (sI s1 9 0 ((kI s1 9 0) - 1)) 5 1)) 7 1)) 5 2)) 7 2)) 9 0 = 2 from (show (kI (sI (sI (sI (sI (sI s1 9 0 ((kI s1 9 0) - 1)) 5 0 (kI (sI s1 9 0 ((kI s1 9 0) - 1)) 5 1)) 7 0 (kI (sI (sI s1 9 0 ((kI s1 9 0) - 1)) 5 0 (kI (sI s1 9 0 ((kI s1 9 0) - 1)) 5 1)) 7 1)) 5 1 (kI (sI (sI (sI s1 9 0 ((kI s1 9 0) - 1)) 5 0 (kI (sI s1 9 0 ((kI s1 9 0) - 1)) 5 1)) 7 0 (kI (sI (sI s1 9 0 ((kI s1 9 0) - 1)) 5 0 (kI (sI s1 9 0 ((kI s1 9 0) - 1)) 5 1)) 7 1)) 5 2)) 7 1 (kI (sI (sI (sI (sI s1 9 0 ((kI s1 9 0) - 1)) 5 0 (kI (sI s1 9 0 ((kI s1 9 0) - 1)) 5 1)) 7 0 (kI (sI (sI s1 9 0 ((kI s1 9 0) - 1)) 5 0 (kI (sI s1 9 0 ((kI s1 9 0) - 1)) 5 1)) 7 1)) 5 1 (kI (sI (sI (sI s1 9 0 ((kI s1 9 0) - 1)) 5 0 (kI (sI s1 9 0 ((kI s1 9 0) - 1)) 5 1)) 7 0 (kI (sI (sI s1 9 0 ((kI s1 9 0) - 1)) 5 0 (kI (sI s1 9 0 ((kI s1 9 0) - 1)) 5 1)) 7 1)) 5 2)) 7 2)) 9 0) = kI s1 9 0 - 1 from rfl).trans (by rw [z_3]; decide)]
          refine lv_icmp_ge (tgt := 70) hx hb dQ_removeFirst_33 (by decide) (fun _ => ?_) (fun c9 => absurd (by decide) c9)
          refine lv_iload_n hx hb dQ_removeFirst_70 rfl (lv_at hl 1 rfl) ?_
          exact kk_iret hx hb hr hlocks hP hK hS ⟨hf.symm, hw⟩ dQ_removeFirst_71
        · rw [if_neg z_3] at hf
          have z_4 : (kI s1 9 0) = 4 := kx_sz4 (hw.2.2 0 (by decide)) z_1 z_2 z_3 (kx_nempty_0 h1 c_4)
          refine lv_aload_n hx hb dQ_removeFirst_9 rfl (lv_at hl 0 rfl) ?_
          refine va_get (D := (dC, dI)) (ci := 0) (v := .ref (ad 9)) (C := R_Q) (T := T_Q) (N := 3) hx hb hts uw_Q hown hK hP 5 rfl rfl 1 (by decide) (hts _ (List.mem_cons_of_mem _ wd_94)) (fun _ h9 => h9) rfl dQ_removeFirst_10 ?_
          refine lv_iconst (v := 0) hx hb dQ_removeFirst_13 (by decide) ?_
          refine va_iald hx hb hK hP 9 6 rfl rfl (kk_inl (by decide)) dQ_removeFirst_14 ?_
          rw [kk_c0]
          refine lv_istore_n (lv' := [(1, .int (kI s1 7 0)), (0, .ref (ad 5))]) hx hb dQ_removeFirst_15 rfl hl (by decide) rfl (fun ls hl => ?_)
          refine lv_aload_n hx hb dQ_removeFirst_16 rfl (lv_at hl 1 rfl) ?_
          refine lv_dup hx hb dQ_removeFirst_17 rfl ?_
          refine va_get (D := (dC, dI)) (ci := 0) (v := .int (kI s1 9 0)) (C := R_Q) (T := T_Q) (N := 3) hx hb hts uw_Q hown hK hP 5 rfl rfl 2 (by decide) (hts _ (List.mem_cons_of_mem _ wd_95)) (fun _ h9 => h9) rfl dQ_removeFirst_18 ?_
          refine lv_iconst (v := 1) hx hb dQ_removeFirst_21 (by decide) ?_
          refine lv_isub hx hb dQ_removeFirst_22 ?_
          refine va_put (D := (dC, dI)) (ci := 0) (v := .int ((kI s1 9 0) - 1)) (ty := .int) (C := R_Q) (T := T_Q) (N := 3) hx hb hts uw_Q ty_Q ty_Q_ok nm_Q hown hK hP (kx_D hj) hS 5 rfl rfl 2 (by decide) (hts _ (List.mem_cons_of_mem _ wd_95)) (fun _ h9 => h9) rfl (by decide +kernel) rfl rfl (Nat.le_of_ble_eq_true rfl) dQ_removeFirst_23 (fun H locs hP _ hS => ?_)
          replace hP := kx_u_size0 hP
          replace hw : kx_wf (sI s1 9 0 ((kI s1 9 0) - 1)) := kx_wf_q (q := 0) (v := kI s1 9 0 - 1) hw ⟨3, by decide, by rw [z_4]; decide⟩
          refine lv_iconst (v := 0) hx hb dQ_removeFirst_26 (by decide) ?_
          refine lv_istore_n (lv' := [(2, .int 0), (1, .int (kI s1 7 0)), (0, .ref (ad 5))]) hx hb dQ_removeFirst_27 rfl hl (by decide) rfl (fun ls hl => ?_)
          refine lv_iload_n hx hb dQ_removeFirst_28 rfl (lv_at hl 0 rfl) ?_
          refine lv_aload_n hx hb dQ_removeFirst_29 rfl (lv_at hl 2 rfl) ?_
          refine va_get (D := (dC, dI)) (ci := 0) (v := .int (kI (sI s1 9 0 ((kI s1 9 0) - 1)) 9 0)) (C := R_Q) (T := T_Q) (N := 3) hx hb hts uw_Q hown hK hP 5 rfl rfl 2 (by decide) (hts _ (List.mem_cons_of_mem _ wd_95)) (fun _ h9 => h9) rfl dQ_removeFirst_30 ?_
          rw [show kI (sI s1 9 0 ((kI s1 9 0) - 1)) 9 0 = 3 from (show (kI (sI s1 9 0 ((kI s1 9 0) - 1)) 9 0) = kI s1 9 0 - 1 from rfl).trans (by rw [z_4]; decide)]
          refine lv_icmp_ge (tgt := 70) hx hb dQ_removeFirst_33 (by decide) (fun c9 => absurd c9 (by decide)) (fun _ => ?_)
          refine lv_aload_n hx hb dQ_removeFirst_36 rfl (lv_at hl 2 rfl) ?_
          refine va_get (D := (dC, dI)) (ci := 0) (v := .ref (ad 7)) (C := R_Q) (T := T_Q) (N := 3) hx hb hts uw_Q hown hK hP 5 rfl rfl 0 (by decide) (hts _ (List.mem_cons_of_mem _ wd_93)) (fun _ h9 => h9) rfl dQ_removeFirst_37 ?_
          refine lv_iload_n hx hb dQ_removeFirst_40 rfl (lv_at hl 0 rfl) ?_
          refine lv_aload_n hx hb dQ_removeFirst_41 rfl (lv_at hl 2 rfl) ?_
          refine va_get (D := (dC, dI)) (ci := 0) (v := .ref (ad 7)) (C := R_Q) (T := T_Q) (N := 3) hx hb hts uw_Q hown hK hP 5 rfl rfl 0 (by decide) (hts _ (List.mem_cons_of_mem _ wd_93)) (fun _ h9 => h9) rfl dQ_removeFirst_42 ?_
          refine lv_iload_n hx hb dQ_removeFirst_45 rfl (lv_at hl 0 rfl) ?_
          refine lv_iconst (v := 1) hx hb dQ_removeFirst_46 (by decide) ?_
          refine lv_iadd hx hb dQ_removeFirst_47 ?_
          refine lv_topi (fun z9 e9 => ?_)
          obtain rfl : z9 = 1 := e9.trans (by decide)
          refine va_iald hx hb hK hP 7 4 rfl rfl (kk_inl (by decide)) dQ_removeFirst_48 ?_
          rw [kk_c1]
          refine va_iast hx hb hK hP (kx_D hj) hS 7 4 rfl rfl (kk_inl (by decide)) dQ_removeFirst_49 (fun H locs hP _ hS => ?_)
          rw [kk_c0] at hP
          replace hP := kx_u_a5 hP
          replace hw := kx_wf_I (f := 5) (i := 0) (v := kI (sI s1 9 0 ((kI s1 9 0) - 1)) 5 1) hw (by decide)
          refine lv_aload_n hx hb dQ_removeFirst_50 rfl (lv_at hl 2 rfl) ?_
          refine va_get (D := (dC, dI)) (ci := 0) (v := .ref (ad 9)) (C := R_Q) (T := T_Q) (N := 3) hx hb hts uw_Q hown hK hP 5 rfl rfl 1 (by decide) (hts _ (List.mem_cons_of_mem _ wd_94)) (fun _ h9 => h9) rfl dQ_removeFirst_51 ?_
          refine lv_iload_n hx hb dQ_removeFirst_54 rfl (lv_at hl 0 rfl) ?_
          refine lv_aload_n hx hb dQ_removeFirst_55 rfl (lv_at hl 2 rfl) ?_
          refine va_get (D := (dC, dI)) (ci := 0) (v := .ref (ad 9)) (C := R_Q) (T := T_Q) (N := 3) hx hb hts uw_Q hown hK hP 5 rfl rfl 1 (by decide) (hts _ (List.mem_cons_of_mem _ wd_94)) (fun _ h9 => h9) rfl dQ_removeFirst_56 ?_
          refine lv_iload_n hx hb dQ_removeFirst_59 rfl (lv_at hl 0 rfl) ?_
          refine lv_iconst (v := 1) hx hb dQ_removeFirst_60 (by decide) ?_
          refine lv_iadd hx hb dQ_removeFirst_61 ?_
          refine lv_topi (fun z9 e9 => ?_)
          obtain rfl : z9 = 1 := e9.trans (by decide)
          refine va_iald hx hb hK hP 9 6 rfl rfl (kk_inl (by decide)) dQ_removeFirst_62 ?_
          rw [kk_c1]
          refine va_iast hx hb hK hP (kx_D hj) hS 9 6 rfl rfl (kk_inl (by decide)) dQ_removeFirst_63 (fun H locs hP _ hS => ?_)
          rw [kk_c0] at hP
          replace hP := kx_u_a7 hP
          replace hw := kx_wf_I (f := 7) (i := 0) (v := kI (sI (sI s1 9 0 ((kI s1 9 0) - 1)) 5 0 (kI (sI s1 9 0 ((kI s1 9 0) - 1)) 5 1)) 7 1) hw (by decide)
          refine lv_iinc (v := 1) (lv' := [(2, .int 1), (1, .int (kI s1 7 0)), (0, .ref (ad 5))]) hx hb dQ_removeFirst_64 hl (k := 0) rfl (by decide) (by decide) rfl (fun ls hl => ?_)
          refine lv_goto (tgt := 28) hx hb dQ_removeFirst_67 (by decide) ?_
          refine lv_iload_n hx hb dQ_removeFirst_28 rfl (lv_at hl 0 rfl) ?_
          refine lv_aload_n hx hb dQ_removeFirst_29 rfl (lv_at hl 2 rfl) ?_
          refine va_get (D := (dC, dI)) (ci := 0) (v := .int (kI (sI (sI (sI s1 9 0 ((kI s1 9 0) - 1)) 5 0 (kI (sI s1 9 0 ((kI s1 9 0) - 1)) 5 1)) 7 0 (kI (sI (sI s1 9 0 ((kI s1 9 0) - 1)) 5 0 (kI (sI s1 9 0 ((kI s1 9 0) - 1)) 5 1)) 7 1)) 9 0)) (C := R_Q) (T := T_Q) (N := 3) hx hb hts uw_Q hown hK hP 5 rfl rfl 2 (by decide) (hts _ (List.mem_cons_of_mem _ wd_95)) (fun _ h9 => h9) rfl dQ_removeFirst_30 ?_
          rw [show kI (sI (sI (sI s1 9 0 ((kI s1 9 0) - 1)) 5 0 (kI (sI s1 9 0 ((kI s1 9 0) - 1)) 5 1)) 7 0 (kI (sI (sI s1 9 0 ((kI s1 9 0) - 1)) 5 0 (kI (sI s1 9 0 ((kI s1 9 0) - 1)) 5 1)) 7 1)) 9 0 = 3 from (show (kI (sI (sI (sI s1 9 0 ((kI s1 9 0) - 1)) 5 0 (kI (sI s1 9 0 ((kI s1 9 0) - 1)) 5 1)) 7 0 (kI (sI (sI s1 9 0 ((kI s1 9 0) - 1)) 5 0 (kI (sI s1 9 0 ((kI s1 9 0) - 1)) 5 1)) 7 1)) 9 0) = kI s1 9 0 - 1 from rfl).trans (by rw [z_4]; decide)]
          refine lv_icmp_ge (tgt := 70) hx hb dQ_removeFirst_33 (by decide) (fun c9 => absurd c9 (by decide)) (fun _ => ?_)
          refine lv_aload_n hx hb dQ_removeFirst_36 rfl (lv_at hl 2 rfl) ?_
          refine va_get (D := (dC, dI)) (ci := 0) (v := .ref (ad 7)) (C := R_Q) (T := T_Q) (N := 3) hx hb hts uw_Q hown hK hP 5 rfl rfl 0 (by decide) (hts _ (List.mem_cons_of_mem _ wd_93)) (fun _ h9 => h9) rfl dQ_removeFirst_37 ?_
          refine lv_iload_n hx hb dQ_removeFirst_40 rfl (lv_at hl 0 rfl) ?_
          refine lv_aload_n hx hb dQ_removeFirst_41 rfl (lv_at hl 2 rfl) ?_
          refine va_get (D := (dC, dI)) (ci := 0) (v := .ref (ad 7)) (C := R_Q) (T := T_Q) (N := 3) hx hb hts uw_Q hown hK hP 5 rfl rfl 0 (by decide) (hts _ (List.mem_cons_of_mem _ wd_93)) (fun _ h9 => h9) rfl dQ_removeFirst_42 ?_
          refine lv_iload_n hx hb dQ_removeFirst_45 rfl (lv_at hl 0 rfl) ?_
          refine lv_iconst (v := 1) hx hb dQ_removeFirst_46 (by decide) ?_
          refine lv_iadd hx hb dQ_removeFirst_47 ?_
          refine lv_topi (fun z9 e9 => ?_)
          obtain rfl : z9 = 2 := e9.trans (by decide)
          refine va_iald hx hb hK hP 7 4 rfl rfl (kk_inl (by decide)) dQ_removeFirst_48 ?_
          rw [kk_c2]
          refine va_iast hx hb hK hP (kx_D hj) hS 7 4 rfl rfl (kk_inl (by decide)) dQ_removeFirst_49 (fun H locs hP _ hS => ?_)
          rw [kk_c1] at hP
          replace hP := kx_u_a5 hP
          replace hw := kx_wf_I (f := 5) (i := 1) (v := kI (sI (sI (sI s1 9 0 ((kI s1 9 0) - 1)) 5 0 (kI (sI s1 9 0 ((kI s1 9 0) - 1)) 5 1)) 7 0 (kI (sI (sI s1 9 0 ((kI s1 9 0) - 1)) 5 0 (kI (sI s1 9 0 ((kI s1 9 0) - 1)) 5 1)) 7 1)) 5 2) hw (by decide)
          refine lv_aload_n hx hb dQ_removeFirst_50 rfl (lv_at hl 2 rfl) ?_
          refine va_get (D := (dC, dI)) (ci := 0) (v := .ref (ad 9)) (C := R_Q) (T := T_Q) (N := 3) hx hb hts uw_Q hown hK hP 5 rfl rfl 1 (by decide) (hts _ (List.mem_cons_of_mem _ wd_94)) (fun _ h9 => h9) rfl dQ_removeFirst_51 ?_
          refine lv_iload_n hx hb dQ_removeFirst_54 rfl (lv_at hl 0 rfl) ?_
          refine lv_aload_n hx hb dQ_removeFirst_55 rfl (lv_at hl 2 rfl) ?_
          refine va_get (D := (dC, dI)) (ci := 0) (v := .ref (ad 9)) (C := R_Q) (T := T_Q) (N := 3) hx hb hts uw_Q hown hK hP 5 rfl rfl 1 (by decide) (hts _ (List.mem_cons_of_mem _ wd_94)) (fun _ h9 => h9) rfl dQ_removeFirst_56 ?_
          refine lv_iload_n hx hb dQ_removeFirst_59 rfl (lv_at hl 0 rfl) ?_
          refine lv_iconst (v := 1) hx hb dQ_removeFirst_60 (by decide) ?_
          refine lv_iadd hx hb dQ_removeFirst_61 ?_
          refine lv_topi (fun z9 e9 => ?_)
          obtain rfl : z9 = 2 := e9.trans (by decide)
          refine va_iald hx hb hK hP 9 6 rfl rfl (kk_inl (by decide)) dQ_removeFirst_62 ?_
          rw [kk_c2]
          refine va_iast hx hb hK hP (kx_D hj) hS 9 6 rfl rfl (kk_inl (by decide)) dQ_removeFirst_63 (fun H locs hP _ hS => ?_)
          rw [kk_c1] at hP
          replace hP := kx_u_a7 hP
          replace hw := kx_wf_I (f := 7) (i := 1) (v := kI (sI (sI (sI (sI s1 9 0 ((kI s1 9 0) - 1)) 5 0 (kI (sI s1 9 0 ((kI s1 9 0) - 1)) 5 1)) 7 0 (kI (sI (sI s1 9 0 ((kI s1 9 0) - 1)) 5 0 (kI (sI s1 9 0 ((kI s1 9 0) - 1)) 5 1)) 7 1)) 5 1 (kI (sI (sI (sI s1 9 0 ((kI s1 9 0) - 1)) 5 0 (kI (sI s1 9 0 ((kI s1 9 0) - 1)) 5 1)) 7 0 (kI (sI (sI s1 9 0 ((kI s1 9 0) - 1)) 5 0 (kI (sI s1 9 0 ((kI s1 9 0) - 1)) 5 1)) 7 1)) 5 2)) 7 2) hw (by decide)
          refine lv_iinc (v := 2) (lv' := [(2, .int 2), (1, .int (kI s1 7 0)), (0, .ref (ad 5))]) hx hb dQ_removeFirst_64 hl (k := 0) rfl (by decide) (by decide) rfl (fun ls hl => ?_)
          refine lv_goto (tgt := 28) hx hb dQ_removeFirst_67 (by decide) ?_
          refine lv_iload_n hx hb dQ_removeFirst_28 rfl (lv_at hl 0 rfl) ?_
          refine lv_aload_n hx hb dQ_removeFirst_29 rfl (lv_at hl 2 rfl) ?_
          refine va_get (D := (dC, dI)) (ci := 0) (v := .int (kI (sI (sI (sI (sI (sI s1 9 0 ((kI s1 9 0) - 1)) 5 0 (kI (sI s1 9 0 ((kI s1 9 0) - 1)) 5 1)) 7 0 (kI (sI (sI s1 9 0 ((kI s1 9 0) - 1)) 5 0 (kI (sI s1 9 0 ((kI s1 9 0) - 1)) 5 1)) 7 1)) 5 1 (kI (sI (sI (sI s1 9 0 ((kI s1 9 0) - 1)) 5 0 (kI (sI s1 9 0 ((kI s1 9 0) - 1)) 5 1)) 7 0 (kI (sI (sI s1 9 0 ((kI s1 9 0) - 1)) 5 0 (kI (sI s1 9 0 ((kI s1 9 0) - 1)) 5 1)) 7 1)) 5 2)) 7 1 (kI (sI (sI (sI (sI s1 9 0 ((kI s1 9 0) - 1)) 5 0 (kI (sI s1 9 0 ((kI s1 9 0) - 1)) 5 1)) 7 0 (kI (sI (sI s1 9 0 ((kI s1 9 0) - 1)) 5 0 (kI (sI s1 9 0 ((kI s1 9 0) - 1)) 5 1)) 7 1)) 5 1 (kI (sI (sI (sI s1 9 0 ((kI s1 9 0) - 1)) 5 0 (kI (sI s1 9 0 ((kI s1 9 0) - 1)) 5 1)) 7 0 (kI (sI (sI s1 9 0 ((kI s1 9 0) - 1)) 5 0 (kI (sI s1 9 0 ((kI s1 9 0) - 1)) 5 1)) 7 1)) 5 2)) 7 2)) 9 0)) (C := R_Q) (T := T_Q) (N := 3) hx hb hts uw_Q hown hK hP 5 rfl rfl 2 (by decide) (hts _ (List.mem_cons_of_mem _ wd_95)) (fun _ h9 => h9) rfl dQ_removeFirst_30 ?_
          rw [show kI (sI (sI (sI (sI (sI s1 9 0 ((kI s1 9 0) - 1)) 5 0 (kI (sI s1 9 0 ((kI s1 9 0) - 1)) 5 1)) 7 0 (kI (sI (sI s1 9 0 ((kI s1 9 0) - 1)) 5 0 (kI (sI s1 9 0 ((kI s1 9 0) - 1)) 5 1)) 7 1)) 5 1 (kI (sI (sI (sI s1 9 0 ((kI s1 9 0) - 1)) 5 0 (kI (sI s1 9 0 ((kI s1 9 0) - 1)) 5 1)) 7 0 (kI (sI (sI s1 9 0 ((kI s1 9 0) - 1)) 5 0 (kI (sI s1 9 0 ((kI s1 9 0) - 1)) 5 1)) 7 1)) 5 2)) 7 1 (kI (sI (sI (sI (sI s1 9 0 ((kI s1 9 0) - 1)) 5 0 (kI (sI s1 9 0 ((kI s1 9 0) - 1)) 5 1)) 7 0 (kI (sI (sI s1 9 0 ((kI s1 9 0) - 1)) 5 0 (kI (sI s1 9 0 ((kI s1 9 0) - 1)) 5 1)) 7 1)) 5 1 (kI (sI (sI (sI s1 9 0 ((kI s1 9 0) - 1)) 5 0 (kI (sI s1 9 0 ((kI s1 9 0) - 1)) 5 1)) 7 0 (kI (sI (sI s1 9 0 ((kI s1 9 0) - 1)) 5 0 (kI (sI s1 9 0 ((kI s1 9 0) - 1)) 5 1)) 7 1)) 5 2)) 7 2)) 9 0 = 3 from (show (kI (sI (sI (sI (sI (sI s1 9 0 ((kI s1 9 0) - 1)) 5 0 (kI (sI s1 9 0 ((kI s1 9 0) - 1)) 5 1)) 7 0 (kI (sI (sI s1 9 0 ((kI s1 9 0) - 1)) 5 0 (kI (sI s1 9 0 ((kI s1 9 0) - 1)) 5 1)) 7 1)) 5 1 (kI (sI (sI (sI s1 9 0 ((kI s1 9 0) - 1)) 5 0 (kI (sI s1 9 0 ((kI s1 9 0) - 1)) 5 1)) 7 0 (kI (sI (sI s1 9 0 ((kI s1 9 0) - 1)) 5 0 (kI (sI s1 9 0 ((kI s1 9 0) - 1)) 5 1)) 7 1)) 5 2)) 7 1 (kI (sI (sI (sI (sI s1 9 0 ((kI s1 9 0) - 1)) 5 0 (kI (sI s1 9 0 ((kI s1 9 0) - 1)) 5 1)) 7 0 (kI (sI (sI s1 9 0 ((kI s1 9 0) - 1)) 5 0 (kI (sI s1 9 0 ((kI s1 9 0) - 1)) 5 1)) 7 1)) 5 1 (kI (sI (sI (sI s1 9 0 ((kI s1 9 0) - 1)) 5 0 (kI (sI s1 9 0 ((kI s1 9 0) - 1)) 5 1)) 7 0 (kI (sI (sI s1 9 0 ((kI s1 9 0) - 1)) 5 0 (kI (sI s1 9 0 ((kI s1 9 0) - 1)) 5 1)) 7 1)) 5 2)) 7 2)) 9 0) = kI s1 9 0 - 1 from rfl).trans (by rw [z_4]; decide)]
          refine lv_icmp_ge (tgt := 70) hx hb dQ_removeFirst_33 (by decide) (fun c9 => absurd c9 (by decide)) (fun _ => ?_)
          refine lv_aload_n hx hb dQ_removeFirst_36 rfl (lv_at hl 2 rfl) ?_
          refine va_get (D := (dC, dI)) (ci := 0) (v := .ref (ad 7)) (C := R_Q) (T := T_Q) (N := 3) hx hb hts uw_Q hown hK hP 5 rfl rfl 0 (by decide) (hts _ (List.mem_cons_of_mem _ wd_93)) (fun _ h9 => h9) rfl dQ_removeFirst_37 ?_
          refine lv_iload_n hx hb dQ_removeFirst_40 rfl (lv_at hl 0 rfl) ?_
          refine lv_aload_n hx hb dQ_removeFirst_41 rfl (lv_at hl 2 rfl) ?_
          refine va_get (D := (dC, dI)) (ci := 0) (v := .ref (ad 7)) (C := R_Q) (T := T_Q) (N := 3) hx hb hts uw_Q hown hK hP 5 rfl rfl 0 (by decide) (hts _ (List.mem_cons_of_mem _ wd_93)) (fun _ h9 => h9) rfl dQ_removeFirst_42 ?_
          refine lv_iload_n hx hb dQ_removeFirst_45 rfl (lv_at hl 0 rfl) ?_
          refine lv_iconst (v := 1) hx hb dQ_removeFirst_46 (by decide) ?_
          refine lv_iadd hx hb dQ_removeFirst_47 ?_
          refine lv_topi (fun z9 e9 => ?_)
          obtain rfl : z9 = 3 := e9.trans (by decide)
          refine va_iald hx hb hK hP 7 4 rfl rfl (kk_inl (by decide)) dQ_removeFirst_48 ?_
          rw [kk_c3]
          refine va_iast hx hb hK hP (kx_D hj) hS 7 4 rfl rfl (kk_inl (by decide)) dQ_removeFirst_49 (fun H locs hP _ hS => ?_)
          rw [kk_c2] at hP
          replace hP := kx_u_a5 hP
          replace hw := kx_wf_I (f := 5) (i := 2) (v := kI (sI (sI (sI (sI (sI s1 9 0 ((kI s1 9 0) - 1)) 5 0 (kI (sI s1 9 0 ((kI s1 9 0) - 1)) 5 1)) 7 0 (kI (sI (sI s1 9 0 ((kI s1 9 0) - 1)) 5 0 (kI (sI s1 9 0 ((kI s1 9 0) - 1)) 5 1)) 7 1)) 5 1 (kI (sI (sI (sI s1 9 0 ((kI s1 9 0) - 1)) 5 0 (kI (sI s1 9 0 ((kI s1 9 0) - 1)) 5 1)) 7 0 (kI (sI (sI s1 9 0 ((kI s1 9 0) - 1)) 5 0 (kI (sI s1 9 0 ((kI s1 9 0) - 1)) 5 1)) 7 1)) 5 2)) 7 1 (kI (sI (sI (sI (sI s1 9 0 ((kI s1 9 0) - 1)) 5 0 (kI (sI s1 9 0 ((kI s1 9 0) - 1)) 5 1)) 7 0 (kI (sI (sI s1 9 0 ((kI s1 9 0) - 1)) 5 0 (kI (sI s1 9 0 ((kI s1 9 0) - 1)) 5 1)) 7 1)) 5 1 (kI (sI (sI (sI s1 9 0 ((kI s1 9 0) - 1)) 5 0 (kI (sI s1 9 0 ((kI s1 9 0) - 1)) 5 1)) 7 0 (kI (sI (sI s1 9 0 ((kI s1 9 0) - 1)) 5 0 (kI (sI s1 9 0 ((kI s1 9 0) - 1)) 5 1)) 7 1)) 5 2)) 7 2)) 5 3) hw (by decide)
          refine lv_aload_n hx hb dQ_removeFirst_50 rfl (lv_at hl 2 rfl) ?_
          refine va_get (D := (dC, dI)) (ci := 0) (v := .ref (ad 9)) (C := R_Q) (T := T_Q) (N := 3) hx hb hts uw_Q hown hK hP 5 rfl rfl 1 (by decide) (hts _ (List.mem_cons_of_mem _ wd_94)) (fun _ h9 => h9) rfl dQ_removeFirst_51 ?_
          refine lv_iload_n hx hb dQ_removeFirst_54 rfl (lv_at hl 0 rfl) ?_
          refine lv_aload_n hx hb dQ_removeFirst_55 rfl (lv_at hl 2 rfl) ?_
          refine va_get (D := (dC, dI)) (ci := 0) (v := .ref (ad 9)) (C := R_Q) (T := T_Q) (N := 3) hx hb hts uw_Q hown hK hP 5 rfl rfl 1 (by decide) (hts _ (List.mem_cons_of_mem _ wd_94)) (fun _ h9 => h9) rfl dQ_removeFirst_56 ?_
          refine lv_iload_n hx hb dQ_removeFirst_59 rfl (lv_at hl 0 rfl) ?_
          refine lv_iconst (v := 1) hx hb dQ_removeFirst_60 (by decide) ?_
          refine lv_iadd hx hb dQ_removeFirst_61 ?_
          refine lv_topi (fun z9 e9 => ?_)
          obtain rfl : z9 = 3 := e9.trans (by decide)
          refine va_iald hx hb hK hP 9 6 rfl rfl (kk_inl (by decide)) dQ_removeFirst_62 ?_
          rw [kk_c3]
          refine va_iast hx hb hK hP (kx_D hj) hS 9 6 rfl rfl (kk_inl (by decide)) dQ_removeFirst_63 (fun H locs hP _ hS => ?_)
          rw [kk_c2] at hP
          replace hP := kx_u_a7 hP
          replace hw := kx_wf_I (f := 7) (i := 2) (v := kI (sI (sI (sI (sI (sI (sI s1 9 0 ((kI s1 9 0) - 1)) 5 0 (kI (sI s1 9 0 ((kI s1 9 0) - 1)) 5 1)) 7 0 (kI (sI (sI s1 9 0 ((kI s1 9 0) - 1)) 5 0 (kI (sI s1 9 0 ((kI s1 9 0) - 1)) 5 1)) 7 1)) 5 1 (kI (sI (sI (sI s1 9 0 ((kI s1 9 0) - 1)) 5 0 (kI (sI s1 9 0 ((kI s1 9 0) - 1)) 5 1)) 7 0 (kI (sI (sI s1 9 0 ((kI s1 9 0) - 1)) 5 0 (kI (sI s1 9 0 ((kI s1 9 0) - 1)) 5 1)) 7 1)) 5 2)) 7 1 (kI (sI (sI (sI (sI s1 9 0 ((kI s1 9 0) - 1)) 5 0 (kI (sI s1 9 0 ((kI s1 9 0) - 1)) 5 1)) 7 0 (kI (sI (sI s1 9 0 ((kI s1 9 0) - 1)) 5 0 (kI (sI s1 9 0 ((kI s1 9 0) - 1)) 5 1)) 7 1)) 5 1 (kI (sI (sI (sI s1 9 0 ((kI s1 9 0) - 1)) 5 0 (kI (sI s1 9 0 ((kI s1 9 0) - 1)) 5 1)) 7 0 (kI (sI (sI s1 9 0 ((kI s1 9 0) - 1)) 5 0 (kI (sI s1 9 0 ((kI s1 9 0) - 1)) 5 1)) 7 1)) 5 2)) 7 2)) 5 2 (kI (sI (sI (sI (sI (sI s1 9 0 ((kI s1 9 0) - 1)) 5 0 (kI (sI s1 9 0 ((kI s1 9 0) - 1)) 5 1)) 7 0 (kI (sI (sI s1 9 0 ((kI s1 9 0) - 1)) 5 0 (kI (sI s1 9 0 ((kI s1 9 0) - 1)) 5 1)) 7 1)) 5 1 (kI (sI (sI (sI s1 9 0 ((kI s1 9 0) - 1)) 5 0 (kI (sI s1 9 0 ((kI s1 9 0) - 1)) 5 1)) 7 0 (kI (sI (sI s1 9 0 ((kI s1 9 0) - 1)) 5 0 (kI (sI s1 9 0 ((kI s1 9 0) - 1)) 5 1)) 7 1)) 5 2)) 7 1 (kI (sI (sI (sI (sI s1 9 0 ((kI s1 9 0) - 1)) 5 0 (kI (sI s1 9 0 ((kI s1 9 0) - 1)) 5 1)) 7 0 (kI (sI (sI s1 9 0 ((kI s1 9 0) - 1)) 5 0 (kI (sI s1 9 0 ((kI s1 9 0) - 1)) 5 1)) 7 1)) 5 1 (kI (sI (sI (sI s1 9 0 ((kI s1 9 0) - 1)) 5 0 (kI (sI s1 9 0 ((kI s1 9 0) - 1)) 5 1)) 7 0 (kI (sI (sI s1 9 0 ((kI s1 9 0) - 1)) 5 0 (kI (sI s1 9 0 ((kI s1 9 0) - 1)) 5 1)) 7 1)) 5 2)) 7 2)) 5 3)) 7 3) hw (by decide)
          refine lv_iinc (v := 3) (lv' := [(2, .int 3), (1, .int (kI s1 7 0)), (0, .ref (ad 5))]) hx hb dQ_removeFirst_64 hl (k := 0) rfl (by decide) (by decide) rfl (fun ls hl => ?_)
          refine lv_goto (tgt := 28) hx hb dQ_removeFirst_67 (by decide) ?_
          refine lv_iload_n hx hb dQ_removeFirst_28 rfl (lv_at hl 0 rfl) ?_
          refine lv_aload_n hx hb dQ_removeFirst_29 rfl (lv_at hl 2 rfl) ?_
          refine va_get (D := (dC, dI)) (ci := 0) (v := .int (kI (sI (sI (sI (sI (sI (sI (sI s1 9 0 ((kI s1 9 0) - 1)) 5 0 (kI (sI s1 9 0 ((kI s1 9 0) - 1)) 5 1)) 7 0 (kI (sI (sI s1 9 0 ((kI s1 9 0) - 1)) 5 0 (kI (sI s1 9 0 ((kI s1 9 0) - 1)) 5 1)) 7 1)) 5 1 (kI (sI (sI (sI s1 9 0 ((kI s1 9 0) - 1)) 5 0 (kI (sI s1 9 0 ((kI s1 9 0) - 1)) 5 1)) 7 0 (kI (sI (sI s1 9 0 ((kI s1 9 0) - 1)) 5 0 (kI (sI s1 9 0 ((kI s1 9 0) - 1)) 5 1)) 7 1)) 5 2)) 7 1 (kI (sI (sI (sI (sI s1 9 0 ((kI s1 9 0) - 1)) 5 0 (kI (sI s1 9 0 ((kI s1 9 0) - 1)) 5 1)) 7 0 (kI (sI (sI s1 9 0 ((kI s1 9 0) - 1)) 5 0 (kI (sI s1 9 0 ((kI s1 9 0) - 1)) 5 1)) 7 1)) 5 1 (kI (sI (sI (sI s1 9 0 ((kI s1 9 0) - 1)) 5 0 (kI (sI s1 9 0 ((kI s1 9 0) - 1)) 5 1)) 7 0 (kI (sI (sI s1 9 0 ((kI s1 9 0) - 1)) 5 0 (kI (sI s1 9 0 ((kI s1 9 0) - 1)) 5 1)) 7 1)) 5 2)) 7 2)) 5 2 (kI (sI (sI (sI (sI (sI s1 9 0 ((kI s1 9 0) - 1)) 5 0 (kI (sI s1 9 0 ((kI s1 9 0) - 1)) 5 1)) 7 0 (kI (sI (sI s1 9 0 ((kI s1 9 0) - 1)) 5 0 (kI (sI s1 9 0 ((kI s1 9 0) - 1)) 5 1)) 7 1)) 5 1 (kI (sI (sI (sI s1 9 0 ((kI s1 9 0) - 1)) 5 0 (kI (sI s1 9 0 ((kI s1 9 0) - 1)) 5 1)) 7 0 (kI (sI (sI s1 9 0 ((kI s1 9 0) - 1)) 5 0 (kI (sI s1 9 0 ((kI s1 9 0) - 1)) 5 1)) 7 1)) 5 2)) 7 1 (kI (sI (sI (sI (sI s1 9 0 ((kI s1 9 0) - 1)) 5 0 (kI (sI s1 9 0 ((kI s1 9 0) - 1)) 5 1)) 7 0 (kI (sI (sI s1 9 0 ((kI s1 9 0) - 1)) 5 0 (kI (sI s1 9 0 ((kI s1 9 0) - 1)) 5 1)) 7 1)) 5 1 (kI (sI (sI (sI s1 9 0 ((kI s1 9 0) - 1)) 5 0 (kI (sI s1 9 0 ((kI s1 9 0) - 1)) 5 1)) 7 0 (kI (sI (sI s1 9 0 ((kI s1 9 0) - 1)) 5 0 (kI (sI s1 9 0 ((kI s1 9 0) - 1)) 5 1)) 7 1)) 5 2)) 7 2)) 5 3)) 7 2 (kI (sI (sI (sI (sI (sI (sI s1 9 0 ((kI s1 9 0) - 1)) 5 0 (kI (sI s1 9 0 ((kI s1 9 0) - 1)) 5 1)) 7 0 (kI (sI (sI s1 9 0 ((kI s1 9 0) - 1)) 5 0 (kI (sI s1 9 0 ((kI s1 9 0) - 1)) 5 1)) 7 1)) 5 1 (kI (sI (sI (sI s1 9 0 ((kI s1 9 0) - 1)) 5 0 (kI (sI s1 9 0 ((kI s1 9 0) - 1)) 5 1)) 7 0 (kI (sI (sI s1 9 0 ((kI s1 9 0) - 1)) 5 0 (kI (sI s1 9 0 ((kI s1 9 0) - 1)) 5 1)) 7 1)) 5 2)) 7 1 (kI (sI (sI (sI (sI s1 9 0 ((kI s1 9 0) - 1)) 5 0 (kI (sI s1 9 0 ((kI s1 9 0) - 1)) 5 1)) 7 0 (kI (sI (sI s1 9 0 ((kI s1 9 0) - 1)) 5 0 (kI (sI s1 9 0 ((kI s1 9 0) - 1)) 5 1)) 7 1)) 5 1 (kI (sI (sI (sI s1 9 0 ((kI s1 9 0) - 1)) 5 0 (kI (sI s1 9 0 ((kI s1 9 0) - 1)) 5 1)) 7 0 (kI (sI (sI s1 9 0 ((kI s1 9 0) - 1)) 5 0 (kI (sI s1 9 0 ((kI s1 9 0) - 1)) 5 1)) 7 1)) 5 2)) 7 2)) 5 2 (kI (sI (sI (sI (sI (sI s1 9 0 ((kI s1 9 0) - 1)) 5 0 (kI (sI s1 9 0 ((kI s1 9 0) - 1)) 5 1)) 7 0 (kI (sI (sI s1 9 0 ((kI s1 9 0) - 1)) 5 0 (kI (sI s1 9 0 ((kI s1 9 0) - 1)) 5 1)) 7 1)) 5 1 (kI (sI (sI (sI s1 9 0 ((kI s1 9 0) - 1)) 5 0 (kI (sI s1 9 0 ((kI s1 9 0) - 1)) 5 1)) 7 0 (kI (sI (sI s1 9 0 ((kI s1 9 0) - 1)) 5 0 (kI (sI s1 9 0 ((kI s1 9 0) - 1)) 5 1)) 7 1)) 5 2)) 7 1 (kI (sI (sI (sI (sI s1 9 0 ((kI s1 9 0) - 1)) 5 0 (kI (sI s1 9 0 ((kI s1 9 0) - 1)) 5 1)) 7 0 (kI (sI (sI s1 9 0 ((kI s1 9 0) - 1)) 5 0 (kI (sI s1 9 0 ((kI s1 9 0) - 1)) 5 1)) 7 1)) 5 1 (kI (sI (sI (sI s1 9 0 ((kI s1 9 0) - 1)) 5 0 (kI (sI s1 9 0 ((kI s1 9 0) - 1)) 5 1)) 7 0 (kI (sI (sI s1 9 0 ((kI s1 9 0) - 1)) 5 0 (kI (sI s1 9 0 ((kI s1 9 0) - 1)) 5 1)) 7 1)) 5 2)) 7 2)) 5 3)) 7 3)) 9 0)) (C := R_Q) (T := T_Q) (N := 3) hx hb hts uw_Q hown hK hP 5 rfl rfl 2 (by decide) (hts _ (List.mem_cons_of_mem _ wd_95)) (fun _ h9 => h9) rfl dQ_removeFirst_30 ?_
          rw [show kI (sI (sI (sI (sI (sI (sI (sI s1 9 0 ((kI s1 9 0) - 1)) 5 0 (kI (sI s1 9 0 ((kI s1 9 0) - 1)) 5 1)) 7 0 (kI (sI (sI s1 9 0 ((kI s1 9 0) - 1)) 5 0 (kI (sI s1 9 0 ((kI s1 9 0) - 1)) 5 1)) 7 1)) 5 1 (kI (sI (sI (sI s1 9 0 ((kI s1 9 0) - 1)) 5 0 (kI (sI s1 9 0 ((kI s1 9 0) - 1)) 5 1)) 7 0 (kI (sI (sI s1 9 0 ((kI s1 9 0) - 1)) 5 0 (kI (sI s1 9 0 ((kI s1 9 0) - 1)) 5 1)) 7 1)) 5 2)) 7 1 (kI (sI (sI (sI (sI s1 9 0 ((kI s1 9 0) - 1)) 5 0 (kI (sI s1 9 0 ((kI s1 9 0) - 1)) 5 1)) 7 0 (kI (sI (sI s1 9 0 ((kI s1 9 0) - 1)) 5 0 (kI (sI s1 9 0 ((kI s1 9 0) - 1)) 5 1)) 7 1)) 5 1 (kI (sI (sI (sI s1 9 0 ((kI s1 9 0) - 1)) 5 0 (kI (sI s1 9 0 ((kI s1 9 0) - 1)) 5 1)) 7 0 (kI (sI (sI s1 9 0 ((kI s1 9 0) - 1)) 5 0 (kI (sI s1 9 0 ((kI s1 9 0) - 1)) 5 1)) 7 1)) 5 2)) 7 2)) 5 2 (kI (sI (sI (sI (sI (sI s1 9 0 ((kI s1 9 0) - 1)) 5 0 (kI (sI s1 9 0 ((kI s1 9 0) - 1)) 5 1)) 7 0 (kI (sI (sI s1 9 0 ((kI s1 9 0) - 1)) 5 0 (kI (sI s1 9 0 ((kI s1 9 0) - 1)) 5 1)) 7 1)) 5 1 (kI (sI (sI (sI s1 9 0 ((kI s1 9 0) - 1)) 5 0 (kI (sI s1 9 0 ((kI s1 9 0) - 1)) 5 1)) 7 0 (kI (sI (sI s1 9 0 ((kI s1 9 0) - 1)) 5 0 (kI (sI s1 9 0 ((kI s1 9 0) - 1)) 5 1)) 7 1)) 5 2)) 7 1 (kI (sI (sI (sI (sI s1 9 0 ((kI s1 9 0) - 1)) 5 0 (kI (sI s1 9 0 ((kI s1 9 0) - 1)) 5 1)) 7 0 (kI (sI (sI s1 9 0 ((kI s1 9 0) - 1)) 5 0 (kI (sI s1 9 0 ((kI s1 9 0) - 1)) 5 1)) 7 1)) 5 1 (kI (sI (sI (sI s1 9 0 ((kI s1 9 0) - 1)) 5 0 (kI (sI s1 9 0 ((kI s1 9 0) - 1)) 5 1)) 7 0 (kI (sI (sI s1 9 0 ((kI s1 9 0) - 1)) 5 0 (kI (sI s1 9 0 ((kI s1 9 0) - 1)) 5 1)) 7 1)) 5 2)) 7 2)) 5 3)) 7 2 (kI (sI (sI (sI (sI (sI (sI s1 9 0 ((kI s1 9 0) - 1)) 5 0 (kI (sI s1 9 0 ((kI s1 9 0) - 1)) 5 1)) 7 0 (kI (sI (sI s1 9 0 ((kI s1 9 0) - 1)) 5 0 (kI (sI s1 9 0 ((kI s1 9 0) - 1)) 5 1)) 7 1)) 5 1 (kI (sI (sI (sI s1 9 0 ((kI s1 9 0) - 1)) 5 0 (kI (sI s1 9 0 ((kI s1 9 0) - 1)) 5 1)) 7 0 (kI (sI (sI s1 9 0 ((kI s1 9 0) - 1)) 5 0 (kI (sI s1 9 0 ((kI s1 9 0) - 1)) 5 1)) 7 1)) 5 2)) 7 1 (kI (sI (sI (sI (sI s1 9 0 ((kI s1 9 0) - 1)) 5 0 (kI (sI s1 9 0 ((kI s1 9 0) - 1)) 5 1)) 7 0 (kI (sI (sI s1 9 0 ((kI s1 9 0) - 1)) 5 0 (kI (sI s1 9 0 ((kI s1 9 0) - 1)) 5 1)) 7 1)) 5 1 (kI (sI (sI (sI s1 9 0 ((kI s1 9 0) - 1)) 5 0 (kI (sI s1 9 0 ((kI s1 9 0) - 1)) 5 1)) 7 0 (kI (sI (sI s1 9 0 ((kI s1 9 0) - 1)) 5 0 (kI (sI s1 9 0 ((kI s1 9 0) - 1)) 5 1)) 7 1)) 5 2)) 7 2)) 5 2 (kI (sI (sI (sI (sI (sI s1 9 0 ((kI s1 9 0) - 1)) 5 0 (kI (sI s1 9 0 ((kI s1 9 0) - 1)) 5 1)) 7 0 (kI (sI (sI s1 9 0 ((kI s1 9 0) - 1)) 5 0 (kI (sI s1 9 0 ((kI s1 9 0) - 1)) 5 1)) 7 1)) 5 1 (kI (sI (sI (sI s1 9 0 ((kI s1 9 0) - 1)) 5 0 (kI (sI s1 9 0 ((kI s1 9 0) - 1)) 5 1)) 7 0 (kI (sI (sI s1 9 0 ((kI s1 9 0) - 1)) 5 0 (kI (sI s1 9 0 ((kI s1 9 0) - 1)) 5 1)) 7 1)) 5 2)) 7 1 (kI (sI (sI (sI (sI s1 9 0 ((kI s1 9 0) - 1)) 5 0 (kI (sI s1 9 0 ((kI s1 9 0) - 1)) 5 1)) 7 0 (kI (sI (sI s1 9 0 ((kI s1 9 0) - 1)) 5 0 (kI (sI s1 9 0 ((kI s1 9 0) - 1)) 5 1)) 7 1)) 5 1 (kI (sI (sI (sI s1 9 0 ((kI s1 9 0) - 1)) 5 0 (kI (sI s1 9 0 ((kI s1 9 0) - 1)) 5 1)) 7 0 (kI (sI (sI s1 9 0 ((kI s1 9 0) - 1)) 5 0 (kI (sI s1 9 0 ((kI s1 9 0) - 1)) 5 1)) 7 1)) 5 2)) 7 2)) 5 3)) 7 3)) 9 0 = 3 from (show (kI (sI (sI (sI (sI (sI (sI (sI s1 9 0 ((kI s1 9 0) - 1)) 5 0 (kI (sI s1 9 0 ((kI s1 9 0) - 1)) 5 1)) 7 0 (kI (sI (sI s1 9 0 ((kI s1 9 0) - 1)) 5 0 (kI (sI s1 9 0 ((kI s1 9 0) - 1)) 5 1)) 7 1)) 5 1 (kI (sI (sI (sI s1 9 0 ((kI s1 9 0) - 1)) 5 0 (kI (sI s1 9 0 ((kI s1 9 0) - 1)) 5 1)) 7 0 (kI (sI (sI s1 9 0 ((kI s1 9 0) - 1)) 5 0 (kI (sI s1 9 0 ((kI s1 9 0) - 1)) 5 1)) 7 1)) 5 2)) 7 1 (kI (sI (sI (sI (sI s1 9 0 ((kI s1 9 0) - 1)) 5 0 (kI (sI s1 9 0 ((kI s1 9 0) - 1)) 5 1)) 7 0 (kI (sI (sI s1 9 0 ((kI s1 9 0) - 1)) 5 0 (kI (sI s1 9 0 ((kI s1 9 0) - 1)) 5 1)) 7 1)) 5 1 (kI (sI (sI (sI s1 9 0 ((kI s1 9 0) - 1)) 5 0 (kI (sI s1 9 0 ((kI s1 9 0) - 1)) 5 1)) 7 0 (kI (sI (sI s1 9 0 ((kI s1 9 0) - 1)) 5 0 (kI (sI s1 9 0 ((kI s1 9 0) - 1)) 5 1)) 7 1)) 5 2)) 7 2)) 5 2 (kI (sI (sI (sI (sI (sI s1 9 0 ((kI s1 9 0) - 1)) 5 0 (kI (sI s1 9 0 ((kI s1 9 0) - 1)) 5 1)) 7 0 (kI (sI (sI s1 9 0 ((kI s1 9 0) - 1)) 5 0 (kI (sI s1 9 0 ((kI s1 9 0) - 1)) 5 1)) 7 1)) 5 1 (kI (sI (sI (sI s1 9 0 ((kI s1 9 0) - 1)) 5 0 (kI (sI s1 9 0 ((kI s1 9 0) - 1)) 5 1)) 7 0 (kI (sI (sI s1 9 0 ((kI s1 9 0) - 1)) 5 0 (kI (sI s1 9 0 ((kI s1 9 0) - 1)) 5 1)) 7 1)) 5 2)) 7 1 (kI (sI (sI (sI (sI s1 9 0 ((kI s1 9 0) - 1)) 5 0 (kI (sI s1 9 0 ((kI s1 9 0) - 1)) 5 1)) 7 0 (kI (sI (sI s1 9 0 ((kI s1 9 0) - 1)) 5 0 (kI (sI s1 9 0 ((kI s1 9 0) - 1)) 5 1)) 7 1)) 5 1 (kI (sI (sI (sI s1 9 0 ((kI s1 9 0) - 1)) 5 0 (kI (sI s1 9 0 ((kI s1 9 0) - 1)) 5 1)) 7 0 (kI (sI (sI s1 9 0 ((kI s1 9 0) - 1)) 5 0 (kI (sI s1 9 0 ((kI s1 9 0) - 1)) 5 1)) 7 1)) 5 2)) 7 2)) 5 3)) 7 2 (kI (sI (sI (sI (sI (sI (sI s1 9 0 ((kI s1 9 0) - 1)) 5 0 (kI (sI s1 9 0 ((kI s1 9 0) - 1)) 5 1)) 7 0 (kI (sI (sI s1 9 0 ((kI s1 9 0) - 1)) 5 0 (kI (sI s1 9 0 ((kI s1 9 0) - 1)) 5 1)) 7 1)) 5 1 (kI (sI (sI (sI s1 9 0 ((kI s1 9 0) - 1)) 5 0 (kI (sI s1 9 0 ((kI s1 9 0) - 1)) 5 1)) 7 0 (kI (sI (sI s1 9 0 ((kI s1 9 0) - 1)) 5 0 (kI (sI s1 9 0 ((kI s1 9 0) - 1)) 5 1)) 7 1)) 5 2)) 7 1 (kI (sI (sI (sI (sI s1 9 0 ((kI s1 9 0) - 1)) 5 0 (kI (sI s1 9 0 ((kI s1 9 0) - 1)) 5 1)) 7 0 (kI (sI (sI s1 9 0 ((kI s1 9 0) - 1)) 5 0 (kI (sI s1 9 0 ((kI s1 9 0) - 1)) 5 1)) 7 1)) 5 1 (kI (sI (sI (sI s1 9 0 ((kI s1 9 0) - 1)) 5 0 (kI (sI s1 9 0 ((kI s1 9 0) - 1)) 5 1)) 7 0 (kI (sI (sI s1 9 0 ((kI s1 9 0) - 1)) 5 0 (kI (sI s1 9 0 ((kI s1 9 0) - 1)) 5 1)) 7 1)) 5 2)) 7 2)) 5 2 (kI (sI (sI (sI (sI (sI s1 9 0 ((kI s1 9 0) - 1)) 5 0 (kI (sI s1 9 0 ((kI s1 9 0) - 1)) 5 1)) 7 0 (kI (sI (sI s1 9 0 ((kI s1 9 0) - 1)) 5 0 (kI (sI s1 9 0 ((kI s1 9 0) - 1)) 5 1)) 7 1)) 5 1 (kI (sI (sI (sI s1 9 0 ((kI s1 9 0) - 1)) 5 0 (kI (sI s1 9 0 ((kI s1 9 0) - 1)) 5 1)) 7 0 (kI (sI (sI s1 9 0 ((kI s1 9 0) - 1)) 5 0 (kI (sI s1 9 0 ((kI s1 9 0) - 1)) 5 1)) 7 1)) 5 2)) 7 1 (kI (sI (sI (sI (sI s1 9 0 ((kI s1 9 0) - 1)) 5 0 (kI (sI s1 9 0 ((kI s1 9 0) - 1)) 5 1)) 7 0 (kI (sI (sI s1 9 0 ((kI s1 9 0) - 1)) 5 0 (kI (sI s1 9 0 ((kI s1 9 0) - 1)) 5 1)) 7 1)) 5 1 (kI (sI (sI (sI s1 9 0 ((kI s1 9 0) - 1)) 5 0 (kI (sI s1 9 0 ((kI s1 9 0) - 1)) 5 1)) 7 0 (kI (sI (sI s1 9 0 ((kI s1 9 0) - 1)) 5 0 (kI (sI s1 9 0 ((kI s1 9 0) - 1)) 5 1)) 7 1)) 5 2)) 7 2)) 5 3)) 7 3)) 9 0) = kI s1 9 0 - 1 from rfl).trans (by rw [z_4]; decide)]
          refine lv_icmp_ge (tgt := 70) hx hb dQ_removeFirst_33 (by decide) (fun _ => ?_) (fun c9 => absurd (by decide) c9)
          refine lv_iload_n hx hb dQ_removeFirst_70 rfl (lv_at hl 1 rfl) ?_
          exact kk_iret hx hb hr hlocks hP hK hS ⟨hf.symm, hw⟩ dQ_removeFirst_71
  · rw [if_neg c_4] at hf
    refine lv_iconst (v := 0) hx hb dQ_removeFirst_7 (by decide) ?_
    exact kk_iret hx hb hr hlocks hP hK hS ⟨hf.symm, hw⟩ dQ_removeFirst_8
set_option maxHeartbeats 4000000 in
set_option maxRecDepth 100000 in
theorem xc_removeFirst_1 (l : Launch) (dC : Nat → ClassId) (dI : Nat → Nat → Nat) (ad : Nat → Nat) (cs : Nat → ClassId) (hj : kx_inj ad) (σ : kx_S) (hw : kx_wf σ)  : Met l y_Q_removeFirst ws_Q_removeFirst ({ frames := 1, cells := 0, slots := 0, locals := 20 }) (kk_Pc (dC, dI) vwCl (kx_t cs) (kx_w ad cs σ) [.ref (ad 6)]) (va_Qi (kx_pi (xf_removeFirst_1 σ)) (kk_B (dC, dI) vwCl (kx_t cs) (kx_w ad cs)) (kx_A ad)) 0 0 (kx_A ad) := by
  refine Met.ofW (cc := b_Q_removeFirst) (maxL := 3) (ret := (some .int)) (by decide) rfl ?_
  intro p e s m args below meth c s₁ B hml hv
  obtain ⟨rfl, hP, hK⟩ := hv
  have hx := B.exec
  have hb := B.bytes
  have hr := B.returns
  have hts := atoms_spec (ws := ws_Q_removeFirst) B.pre
  have hown : s.vm.findClass R_Q = some m.cls := findClass_of_methodNamed B.named
  have hlocks := B.notSynchronized
  have hS : va_S (kx_A ad) s.heap s.heap [] := va_S.rf
  generalize hf : xf_removeFirst_1 σ = out
  have hl := lv_entry ([.ref (ad 6)]) (n := 3) (Nat.le_of_ble_eq_true rfl)
  rw [lg_entry_eq]
  generalize (lg_sl ([.ref (ad 6)]) ++ List.replicate (3 - (lg_sl ([.ref (ad 6)])).length) Slot.unset).toArray = ls at hl ⊢
  have hl : lv_has ls 3 [(0, .ref (ad 6))] := hl
  rw [xf_removeFirst_1] at hf
  refine lv_aload_n hx hb dQ_removeFirst_0 rfl (lv_at hl 0 rfl) ?_
  refine kk_ci (w := kx_w ad cs) (As := []) (rest := []) ⟨hx, hb, hml, hown, hts⟩ (xc_isEmpty_1 l dC dI ad cs hj σ hw  ) (cwV 0 hts gv_Q_26 rfl rfl rfl (by decide +kernel) ⟨Nat.le_of_ble_eq_true rfl, Nat.le_of_ble_eq_true rfl⟩) (va_recv hK hP (ci := 0) (q0 := 6) rfl rfl) hP hK hS (fun _ h9 => h9) rfl hl.1 rfl (Nat.le_of_ble_eq_true rfl) dQ_removeFirst_1 ⟨Nat.zero_le _, Nat.zero_le _⟩ (fun r1 s1 H locs hq hP hS => ?_)
  obtain ⟨h1, hw⟩ := hq
  rw [kk_b_eq h1] at hf
  refine lv_if_eq (tgt := 9) hx hb dQ_removeFirst_4 (by decide) (fun c_4 => ?_) (fun c_4 => ?_)
  · rw [if_pos c_4] at hf
    rcases Classical.em ((kI s1 9 1) = 1) with z_1 | z_1
    · rw [if_pos z_1] at hf
      refine lv_aload_n hx hb dQ_removeFirst_9 rfl (lv_at hl 0 rfl) ?_
      refine va_get (D := (dC, dI)) (ci := 0) (v := .ref (ad 10)) (C := R_Q) (T := T_Q) (N := 3) hx hb hts uw_Q hown hK hP 6 rfl rfl 1 (by decide) (hts _ (List.mem_cons_of_mem _ wd_94)) (fun _ h9 => h9) rfl dQ_removeFirst_10 ?_
      refine lv_iconst (v := 0) hx hb dQ_removeFirst_13 (by decide) ?_
      refine va_iald hx hb hK hP 10 7 rfl rfl (kk_inl (by decide)) dQ_removeFirst_14 ?_
      rw [kk_c0]
      refine lv_istore_n (lv' := [(1, .int (kI s1 8 0)), (0, .ref (ad 6))]) hx hb dQ_removeFirst_15 rfl hl (by decide) rfl (fun ls hl => ?_)
      refine lv_aload_n hx hb dQ_removeFirst_16 rfl (lv_at hl 1 rfl) ?_
      refine lv_dup hx hb dQ_removeFirst_17 rfl ?_
      refine va_get (D := (dC, dI)) (ci := 0) (v := .int (kI s1 9 1)) (C := R_Q) (T := T_Q) (N := 3) hx hb hts uw_Q hown hK hP 6 rfl rfl 2 (by decide) (hts _ (List.mem_cons_of_mem _ wd_95)) (fun _ h9 => h9) rfl dQ_removeFirst_18 ?_
      refine lv_iconst (v := 1) hx hb dQ_removeFirst_21 (by decide) ?_
      refine lv_isub hx hb dQ_removeFirst_22 ?_
      refine va_put (D := (dC, dI)) (ci := 0) (v := .int ((kI s1 9 1) - 1)) (ty := .int) (C := R_Q) (T := T_Q) (N := 3) hx hb hts uw_Q ty_Q ty_Q_ok nm_Q hown hK hP (kx_D hj) hS 6 rfl rfl 2 (by decide) (hts _ (List.mem_cons_of_mem _ wd_95)) (fun _ h9 => h9) rfl (by decide +kernel) rfl rfl (Nat.le_of_ble_eq_true rfl) dQ_removeFirst_23 (fun H locs hP _ hS => ?_)
      replace hP := kx_u_size1 hP
      replace hw : kx_wf (sI s1 9 1 ((kI s1 9 1) - 1)) := kx_wf_q (q := 1) (v := kI s1 9 1 - 1) hw ⟨0, by decide, by rw [z_1]; decide⟩
      refine lv_iconst (v := 0) hx hb dQ_removeFirst_26 (by decide) ?_
      refine lv_istore_n (lv' := [(2, .int 0), (1, .int (kI s1 8 0)), (0, .ref (ad 6))]) hx hb dQ_removeFirst_27 rfl hl (by decide) rfl (fun ls hl => ?_)
      refine lv_iload_n hx hb dQ_removeFirst_28 rfl (lv_at hl 0 rfl) ?_
      refine lv_aload_n hx hb dQ_removeFirst_29 rfl (lv_at hl 2 rfl) ?_
      refine va_get (D := (dC, dI)) (ci := 0) (v := .int (kI (sI s1 9 1 ((kI s1 9 1) - 1)) 9 1)) (C := R_Q) (T := T_Q) (N := 3) hx hb hts uw_Q hown hK hP 6 rfl rfl 2 (by decide) (hts _ (List.mem_cons_of_mem _ wd_95)) (fun _ h9 => h9) rfl dQ_removeFirst_30 ?_
      rw [show kI (sI s1 9 1 ((kI s1 9 1) - 1)) 9 1 = 0 from (show (kI (sI s1 9 1 ((kI s1 9 1) - 1)) 9 1) = kI s1 9 1 - 1 from rfl).trans (by rw [z_1]; decide)]
      refine lv_icmp_ge (tgt := 70) hx hb dQ_removeFirst_33 (by decide) (fun _ => ?_) (fun c9 => absurd (by decide) c9)
      refine lv_iload_n hx hb dQ_removeFirst_70 rfl (lv_at hl 1 rfl) ?_
      exact kk_iret hx hb hr hlocks hP hK hS ⟨hf.symm, hw⟩ dQ_removeFirst_71
    · rw [if_neg z_1] at hf
      rcases Classical.em ((kI s1 9 1) = 2) with z_2 | z_2
      · rw [if_pos z_2] at hf
        refine lv_aload_n hx hb dQ_removeFirst_9 rfl (lv_at hl 0 rfl) ?_
        refine va_get (D := (dC, dI)) (ci := 0) (v := .ref (ad 10)) (C := R_Q) (T := T_Q) (N := 3) hx hb hts uw_Q hown hK hP 6 rfl rfl 1 (by decide) (hts _ (List.mem_cons_of_mem _ wd_94)) (fun _ h9 => h9) rfl dQ_removeFirst_10 ?_
        refine lv_iconst (v := 0) hx hb dQ_removeFirst_13 (by decide) ?_
        refine va_iald hx hb hK hP 10 7 rfl rfl (kk_inl (by decide)) dQ_removeFirst_14 ?_
        rw [kk_c0]
        refine lv_istore_n (lv' := [(1, .int (kI s1 8 0)), (0, .ref (ad 6))]) hx hb dQ_removeFirst_15 rfl hl (by decide) rfl (fun ls hl => ?_)
        refine lv_aload_n hx hb dQ_removeFirst_16 rfl (lv_at hl 1 rfl) ?_
        refine lv_dup hx hb dQ_removeFirst_17 rfl ?_
        refine va_get (D := (dC, dI)) (ci := 0) (v := .int (kI s1 9 1)) (C := R_Q) (T := T_Q) (N := 3) hx hb hts uw_Q hown hK hP 6 rfl rfl 2 (by decide) (hts _ (List.mem_cons_of_mem _ wd_95)) (fun _ h9 => h9) rfl dQ_removeFirst_18 ?_
        refine lv_iconst (v := 1) hx hb dQ_removeFirst_21 (by decide) ?_
        refine lv_isub hx hb dQ_removeFirst_22 ?_
        refine va_put (D := (dC, dI)) (ci := 0) (v := .int ((kI s1 9 1) - 1)) (ty := .int) (C := R_Q) (T := T_Q) (N := 3) hx hb hts uw_Q ty_Q ty_Q_ok nm_Q hown hK hP (kx_D hj) hS 6 rfl rfl 2 (by decide) (hts _ (List.mem_cons_of_mem _ wd_95)) (fun _ h9 => h9) rfl (by decide +kernel) rfl rfl (Nat.le_of_ble_eq_true rfl) dQ_removeFirst_23 (fun H locs hP _ hS => ?_)
        replace hP := kx_u_size1 hP
        replace hw : kx_wf (sI s1 9 1 ((kI s1 9 1) - 1)) := kx_wf_q (q := 1) (v := kI s1 9 1 - 1) hw ⟨1, by decide, by rw [z_2]; decide⟩
        refine lv_iconst (v := 0) hx hb dQ_removeFirst_26 (by decide) ?_
        refine lv_istore_n (lv' := [(2, .int 0), (1, .int (kI s1 8 0)), (0, .ref (ad 6))]) hx hb dQ_removeFirst_27 rfl hl (by decide) rfl (fun ls hl => ?_)
        refine lv_iload_n hx hb dQ_removeFirst_28 rfl (lv_at hl 0 rfl) ?_
        refine lv_aload_n hx hb dQ_removeFirst_29 rfl (lv_at hl 2 rfl) ?_
        refine va_get (D := (dC, dI)) (ci := 0) (v := .int (kI (sI s1 9 1 ((kI s1 9 1) - 1)) 9 1)) (C := R_Q) (T := T_Q) (N := 3) hx hb hts uw_Q hown hK hP 6 rfl rfl 2 (by decide) (hts _ (List.mem_cons_of_mem _ wd_95)) (fun _ h9 => h9) rfl dQ_removeFirst_30 ?_
        rw [show kI (sI s1 9 1 ((kI s1 9 1) - 1)) 9 1 = 1 from (show (kI (sI s1 9 1 ((kI s1 9 1) - 1)) 9 1) = kI s1 9 1 - 1 from rfl).trans (by rw [z_2]; decide)]
        refine lv_icmp_ge (tgt := 70) hx hb dQ_removeFirst_33 (by decide) (fun c9 => absurd c9 (by decide)) (fun _ => ?_)
        refine lv_aload_n hx hb dQ_removeFirst_36 rfl (lv_at hl 2 rfl) ?_
        refine va_get (D := (dC, dI)) (ci := 0) (v := .ref (ad 8)) (C := R_Q) (T := T_Q) (N := 3) hx hb hts uw_Q hown hK hP 6 rfl rfl 0 (by decide) (hts _ (List.mem_cons_of_mem _ wd_93)) (fun _ h9 => h9) rfl dQ_removeFirst_37 ?_
        refine lv_iload_n hx hb dQ_removeFirst_40 rfl (lv_at hl 0 rfl) ?_
        refine lv_aload_n hx hb dQ_removeFirst_41 rfl (lv_at hl 2 rfl) ?_
        refine va_get (D := (dC, dI)) (ci := 0) (v := .ref (ad 8)) (C := R_Q) (T := T_Q) (N := 3) hx hb hts uw_Q hown hK hP 6 rfl rfl 0 (by decide) (hts _ (List.mem_cons_of_mem _ wd_93)) (fun _ h9 => h9) rfl dQ_removeFirst_42 ?_
        refine lv_iload_n hx hb dQ_removeFirst_45 rfl (lv_at hl 0 rfl) ?_
        refine lv_iconst (v := 1) hx hb dQ_removeFirst_46 (by decide) ?_
        refine lv_iadd hx hb dQ_removeFirst_47 ?_
        refine lv_topi (fun z9 e9 => ?_)
        obtain rfl : z9 = 1 := e9.trans (by decide)
        refine va_iald hx hb hK hP 8 5 rfl rfl (kk_inl (by decide)) dQ_removeFirst_48 ?_
        rw [kk_c1]
        refine va_iast hx hb hK hP (kx_D hj) hS 8 5 rfl rfl (kk_inl (by decide)) dQ_removeFirst_49 (fun H locs hP _ hS => ?_)
        rw [kk_c0] at hP
        replace hP := kx_u_a6 hP
        replace hw := kx_wf_I (f := 6) (i := 0) (v := kI (sI s1 9 1 ((kI s1 9 1) - 1)) 6 1) hw (by decide)
        refine lv_aload_n hx hb dQ_removeFirst_50 rfl (lv_at hl 2 rfl) ?_
        refine va_get (D := (dC, dI)) (ci := 0) (v := .ref (ad 10)) (C := R_Q) (T := T_Q) (N := 3) hx hb hts uw_Q hown hK hP 6 rfl rfl 1 (by decide) (hts _ (List.mem_cons_of_mem _ wd_94)) (fun _ h9 => h9) rfl dQ_removeFirst_51 ?_
        refine lv_iload_n hx hb dQ_removeFirst_54 rfl (lv_at hl 0 rfl) ?_
        refine lv_aload_n hx hb dQ_removeFirst_55 rfl (lv_at hl 2 rfl) ?_
        refine va_get (D := (dC, dI)) (ci := 0) (v := .ref (ad 10)) (C := R_Q) (T := T_Q) (N := 3) hx hb hts uw_Q hown hK hP 6 rfl rfl 1 (by decide) (hts _ (List.mem_cons_of_mem _ wd_94)) (fun _ h9 => h9) rfl dQ_removeFirst_56 ?_
        refine lv_iload_n hx hb dQ_removeFirst_59 rfl (lv_at hl 0 rfl) ?_
        refine lv_iconst (v := 1) hx hb dQ_removeFirst_60 (by decide) ?_
        refine lv_iadd hx hb dQ_removeFirst_61 ?_
        refine lv_topi (fun z9 e9 => ?_)
        obtain rfl : z9 = 1 := e9.trans (by decide)
        refine va_iald hx hb hK hP 10 7 rfl rfl (kk_inl (by decide)) dQ_removeFirst_62 ?_
        rw [kk_c1]
        refine va_iast hx hb hK hP (kx_D hj) hS 10 7 rfl rfl (kk_inl (by decide)) dQ_removeFirst_63 (fun H locs hP _ hS => ?_)
        rw [kk_c0] at hP
        replace hP := kx_u_a8 hP
        replace hw := kx_wf_I (f := 8) (i := 0) (v := kI (sI (sI s1 9 1 ((kI s1 9 1) - 1)) 6 0 (kI (sI s1 9 1 ((kI s1 9 1) - 1)) 6 1)) 8 1) hw (by decide)
        refine lv_iinc (v := 1) (lv' := [(2, .int 1), (1, .int (kI s1 8 0)), (0, .ref (ad 6))]) hx hb dQ_removeFirst_64 hl (k := 0) rfl (by decide) (by decide) rfl (fun ls hl => ?_)
        refine lv_goto (tgt := 28) hx hb dQ_removeFirst_67 (by decide) ?_
        refine lv_iload_n hx hb dQ_removeFirst_28 rfl (lv_at hl 0 rfl) ?_
        refine lv_aload_n hx hb dQ_removeFirst_29 rfl (lv_at hl 2 rfl) ?_
        refine va_get (D := (dC, dI)) (ci := 0) (v := .int (kI (sI (sI (sI s1 9 1 ((kI s1 9 1) - 1)) 6 0 (kI (sI s1 9 1 ((kI s1 9 1) - 1)) 6 1)) 8 0 (kI (sI (sI s1 9 1 ((kI s1 9 1) - 1)) 6 0 (kI (sI s1 9 1 ((kI s1 9 1) - 1)) 6 1)) 8 1)) 9 1)) (C := R_Q) (T := T_Q) (N := 3) hx hb hts uw_Q hown hK hP 6 rfl rfl 2 (by decide) (hts _ (List.mem_cons_of_mem _ wd_95)) (fun _ h9 => h9) rfl dQ_removeFirst_30 ?_
        rw [show kI (sI (sI (sI s1 9 1 ((kI s1 9 1) - 1)) 6 0 (kI (sI s1 9 1 ((kI s1 9 1) - 1)) 6 1)) 8 0 (kI (sI (sI s1 9 1 ((kI s1 9 1) - 1)) 6 0 (kI (sI s1 9 1 ((kI s1 9 1) - 1)) 6 1)) 8 1)) 9 1 = 1 from (show (kI (sI (sI (sI s1 9 1 ((kI s1 9 1) - 1)) 6 0 (kI (sI s1 9 1 ((kI s1 9 1) - 1)) 6 1)) 8 0 (kI (sI (sI s1 9 1 ((kI s1 9 1) - 1)) 6 0 (kI (sI s1 9 1 ((kI s1 9 1) - 1)) 6 1)) 8 1)) 9 1) = kI s1 9 1 - 1 from rfl).trans (by rw [z_2]; decide)]
        refine lv_icmp_ge (tgt := 70) hx hb dQ_removeFirst_33 (by decide) (fun _ => ?_) (fun c9 => absurd (by decide) c9)
        refine lv_iload_n hx hb dQ_removeFirst_70 rfl (lv_at hl 1 rfl) ?_
        exact kk_iret hx hb hr hlocks hP hK hS ⟨hf.symm, hw⟩ dQ_removeFirst_71
      · rw [if_neg z_2] at hf
        rcases Classical.em ((kI s1 9 1) = 3) with z_3 | z_3
        · rw [if_pos z_3] at hf
          refine lv_aload_n hx hb dQ_removeFirst_9 rfl (lv_at hl 0 rfl) ?_
          refine va_get (D := (dC, dI)) (ci := 0) (v := .ref (ad 10)) (C := R_Q) (T := T_Q) (N := 3) hx hb hts uw_Q hown hK hP 6 rfl rfl 1 (by decide) (hts _ (List.mem_cons_of_mem _ wd_94)) (fun _ h9 => h9) rfl dQ_removeFirst_10 ?_
          refine lv_iconst (v := 0) hx hb dQ_removeFirst_13 (by decide) ?_
          refine va_iald hx hb hK hP 10 7 rfl rfl (kk_inl (by decide)) dQ_removeFirst_14 ?_
          rw [kk_c0]
          refine lv_istore_n (lv' := [(1, .int (kI s1 8 0)), (0, .ref (ad 6))]) hx hb dQ_removeFirst_15 rfl hl (by decide) rfl (fun ls hl => ?_)
          refine lv_aload_n hx hb dQ_removeFirst_16 rfl (lv_at hl 1 rfl) ?_
          refine lv_dup hx hb dQ_removeFirst_17 rfl ?_
          refine va_get (D := (dC, dI)) (ci := 0) (v := .int (kI s1 9 1)) (C := R_Q) (T := T_Q) (N := 3) hx hb hts uw_Q hown hK hP 6 rfl rfl 2 (by decide) (hts _ (List.mem_cons_of_mem _ wd_95)) (fun _ h9 => h9) rfl dQ_removeFirst_18 ?_
          refine lv_iconst (v := 1) hx hb dQ_removeFirst_21 (by decide) ?_
          refine lv_isub hx hb dQ_removeFirst_22 ?_
          refine va_put (D := (dC, dI)) (ci := 0) (v := .int ((kI s1 9 1) - 1)) (ty := .int) (C := R_Q) (T := T_Q) (N := 3) hx hb hts uw_Q ty_Q ty_Q_ok nm_Q hown hK hP (kx_D hj) hS 6 rfl rfl 2 (by decide) (hts _ (List.mem_cons_of_mem _ wd_95)) (fun _ h9 => h9) rfl (by decide +kernel) rfl rfl (Nat.le_of_ble_eq_true rfl) dQ_removeFirst_23 (fun H locs hP _ hS => ?_)
          replace hP := kx_u_size1 hP
          replace hw : kx_wf (sI s1 9 1 ((kI s1 9 1) - 1)) := kx_wf_q (q := 1) (v := kI s1 9 1 - 1) hw ⟨2, by decide, by rw [z_3]; decide⟩
          refine lv_iconst (v := 0) hx hb dQ_removeFirst_26 (by decide) ?_
          refine lv_istore_n (lv' := [(2, .int 0), (1, .int (kI s1 8 0)), (0, .ref (ad 6))]) hx hb dQ_removeFirst_27 rfl hl (by decide) rfl (fun ls hl => ?_)
          refine lv_iload_n hx hb dQ_removeFirst_28 rfl (lv_at hl 0 rfl) ?_
          refine lv_aload_n hx hb dQ_removeFirst_29 rfl (lv_at hl 2 rfl) ?_
          refine va_get (D := (dC, dI)) (ci := 0) (v := .int (kI (sI s1 9 1 ((kI s1 9 1) - 1)) 9 1)) (C := R_Q) (T := T_Q) (N := 3) hx hb hts uw_Q hown hK hP 6 rfl rfl 2 (by decide) (hts _ (List.mem_cons_of_mem _ wd_95)) (fun _ h9 => h9) rfl dQ_removeFirst_30 ?_
          rw [show kI (sI s1 9 1 ((kI s1 9 1) - 1)) 9 1 = 2 from (show (kI (sI s1 9 1 ((kI s1 9 1) - 1)) 9 1) = kI s1 9 1 - 1 from rfl).trans (by rw [z_3]; decide)]
          refine lv_icmp_ge (tgt := 70) hx hb dQ_removeFirst_33 (by decide) (fun c9 => absurd c9 (by decide)) (fun _ => ?_)
          refine lv_aload_n hx hb dQ_removeFirst_36 rfl (lv_at hl 2 rfl) ?_
          refine va_get (D := (dC, dI)) (ci := 0) (v := .ref (ad 8)) (C := R_Q) (T := T_Q) (N := 3) hx hb hts uw_Q hown hK hP 6 rfl rfl 0 (by decide) (hts _ (List.mem_cons_of_mem _ wd_93)) (fun _ h9 => h9) rfl dQ_removeFirst_37 ?_
          refine lv_iload_n hx hb dQ_removeFirst_40 rfl (lv_at hl 0 rfl) ?_
          refine lv_aload_n hx hb dQ_removeFirst_41 rfl (lv_at hl 2 rfl) ?_
          refine va_get (D := (dC, dI)) (ci := 0) (v := .ref (ad 8)) (C := R_Q) (T := T_Q) (N := 3) hx hb hts uw_Q hown hK hP 6 rfl rfl 0 (by decide) (hts _ (List.mem_cons_of_mem _ wd_93)) (fun _ h9 => h9) rfl dQ_removeFirst_42 ?_
          refine lv_iload_n hx hb dQ_removeFirst_45 rfl (lv_at hl 0 rfl) ?_
          refine lv_iconst (v := 1) hx hb dQ_removeFirst_46 (by decide) ?_
          refine lv_iadd hx hb dQ_removeFirst_47 ?_
          refine lv_topi (fun z9 e9 => ?_)
          obtain rfl : z9 = 1 := e9.trans (by decide)
          refine va_iald hx hb hK hP 8 5 rfl rfl (kk_inl (by decide)) dQ_removeFirst_48 ?_
          rw [kk_c1]
          refine va_iast hx hb hK hP (kx_D hj) hS 8 5 rfl rfl (kk_inl (by decide)) dQ_removeFirst_49 (fun H locs hP _ hS => ?_)
          rw [kk_c0] at hP
          replace hP := kx_u_a6 hP
          replace hw := kx_wf_I (f := 6) (i := 0) (v := kI (sI s1 9 1 ((kI s1 9 1) - 1)) 6 1) hw (by decide)
          refine lv_aload_n hx hb dQ_removeFirst_50 rfl (lv_at hl 2 rfl) ?_
          refine va_get (D := (dC, dI)) (ci := 0) (v := .ref (ad 10)) (C := R_Q) (T := T_Q) (N := 3) hx hb hts uw_Q hown hK hP 6 rfl rfl 1 (by decide) (hts _ (List.mem_cons_of_mem _ wd_94)) (fun _ h9 => h9) rfl dQ_removeFirst_51 ?_
          refine lv_iload_n hx hb dQ_removeFirst_54 rfl (lv_at hl 0 rfl) ?_
          refine lv_aload_n hx hb dQ_removeFirst_55 rfl (lv_at hl 2 rfl) ?_
          refine va_get (D := (dC, dI)) (ci := 0) (v := .ref (ad 10)) (C := R_Q) (T := T_Q) (N := 3) hx hb hts uw_Q hown hK hP 6 rfl rfl 1 (by decide) (hts _ (List.mem_cons_of_mem _ wd_94)) (fun _ h9 => h9) rfl dQ_removeFirst_56 ?_
          refine lv_iload_n hx hb dQ_removeFirst_59 rfl (lv_at hl 0 rfl) ?_
          refine lv_iconst (v := 1) hx hb dQ_removeFirst_60 (by decide) ?_
          refine lv_iadd hx hb dQ_removeFirst_61 ?_
          refine lv_topi (fun z9 e9 => ?_)
          obtain rfl : z9 = 1 := e9.trans (by decide)
          refine va_iald hx hb hK hP 10 7 rfl rfl (kk_inl (by decide)) dQ_removeFirst_62 ?_
          rw [kk_c1]
          refine va_iast hx hb hK hP (kx_D hj) hS 10 7 rfl rfl (kk_inl (by decide)) dQ_removeFirst_63 (fun H locs hP _ hS => ?_)
          rw [kk_c0] at hP
          replace hP := kx_u_a8 hP
          replace hw := kx_wf_I (f := 8) (i := 0) (v := kI (sI (sI s1 9 1 ((kI s1 9 1) - 1)) 6 0 (kI (sI s1 9 1 ((kI s1 9 1) - 1)) 6 1)) 8 1) hw (by decide)
          refine lv_iinc (v := 1) (lv' := [(2, .int 1), (1, .int (kI s1 8 0)), (0, .ref (ad 6))]) hx hb dQ_removeFirst_64 hl (k := 0) rfl (by decide) (by decide) rfl (fun ls hl => ?_)
          refine lv_goto (tgt := 28) hx hb dQ_removeFirst_67 (by decide) ?_
          refine lv_iload_n hx hb dQ_removeFirst_28 rfl (lv_at hl 0 rfl) ?_
          refine lv_aload_n hx hb dQ_removeFirst_29 rfl (lv_at hl 2 rfl) ?_
          refine va_get (D := (dC, dI)) (ci := 0) (v := .int (kI (sI (sI (sI s1 9 1 ((kI s1 9 1) - 1)) 6 0 (kI (sI s1 9 1 ((kI s1 9 1) - 1)) 6 1)) 8 0 (kI (sI (sI s1 9 1 ((kI s1 9 1) - 1)) 6 0 (kI (sI s1 9 1 ((kI s1 9 1) - 1)) 6 1)) 8 1)) 9 1)) (C := R_Q) (T := T_Q) (N := 3) hx hb hts uw_Q hown hK hP 6 rfl rfl 2 (by decide) (hts _ (List.mem_cons_of_mem _ wd_95)) (fun _ h9 => h9) rfl dQ_removeFirst_30 ?_
          rw [show kI (sI (sI (sI s1 9 1 ((kI s1 9 1) - 1)) 6 0 (kI (sI s1 9 1 ((kI s1 9 1) - 1)) 6 1)) 8 0 (kI (sI (sI s1 9 1 ((kI s1 9 1) - 1)) 6 0 (kI (sI s1 9 1 ((kI s1 9 1) - 1)) 6 1)) 8 1)) 9 1 = 2 from (show (kI (sI (sI (sI s1 9 1 ((kI s1 9 1) - 1)) 6 0 (kI (sI s1 9 1 ((kI s1 9 1) - 1)) 6 1)) 8 0 (kI (sI (sI s1 9 1 ((kI s1 9 1) - 1)) 6 0 (kI (sI s1 9 1 ((kI s1 9 1) - 1)) 6 1)) 8 1)) 9 1) = kI s1 9 1 - 1 from rfl).trans (by rw [z_3]; decide)]
          refine lv_icmp_ge (tgt := 70) hx hb dQ_removeFirst_33 (by decide) (fun c9 => absurd c9 (by decide)) (fun _ => ?_)
          refine lv_aload_n hx hb dQ_removeFirst_36 rfl (lv_at hl 2 rfl) ?_
          refine va_get (D := (dC, dI)) (ci := 0) (v := .ref (ad 8)) (C := R_Q) (T := T_Q) (N := 3) hx hb hts uw_Q hown hK hP 6 rfl rfl 0 (by decide) (hts _ (List.mem_cons_of_mem _ wd_93)) (fun _ h9 => h9) rfl dQ_removeFirst_37 ?_
          refine lv_iload_n hx hb dQ_removeFirst_40 rfl (lv_at hl 0 rfl) ?_
          refine lv_aload_n hx hb dQ_removeFirst_41 rfl (lv_at hl 2 rfl) ?_
          refine va_get (D := (dC, dI)) (ci := 0) (v := .ref (ad 8)) (C := R_Q) (T := T_Q) (N := 3) hx hb hts uw_Q hown hK hP 6 rfl rfl 0 (by decide) (hts _ (List.mem_cons_of_mem _ wd_93)) (fun _ h9 => h9) rfl dQ_removeFirst_42 ?_
          refine lv_iload_n hx hb dQ_removeFirst_45 rfl (lv_at hl 0 rfl) ?_
          refine lv_iconst (v := 1) hx hb dQ_removeFirst_46 (by decide) ?_
          refine lv_iadd hx hb dQ_removeFirst_47 ?_
          refine lv_topi (fun z9 e9 => ?_)
          obtain rfl : z9 = 2 := e9.trans (by decide)
          refine va_iald hx hb hK hP 8 5 rfl rfl (kk_inl (by decide)) dQ_removeFirst_48 ?_
          rw [kk_c2]
          refine va_iast hx hb hK hP (kx_D hj) hS 8 5 rfl rfl (kk_inl (by decide)) dQ_removeFirst_49 (fun H locs hP _ hS => ?_)
          rw [kk_c1] at hP
          replace hP := kx_u_a6 hP
          replace hw := kx_wf_I (f := 6) (i := 1) (v := kI (sI (sI (sI s1 9 1 ((kI s1 9 1) - 1)) 6 0 (kI (sI s1 9 1 ((kI s1 9 1) - 1)) 6 1)) 8 0 (kI (sI (sI s1 9 1 ((kI s1 9 1) - 1)) 6 0 (kI (sI s1 9 1 ((kI s1 9 1) - 1)) 6 1)) 8 1)) 6 2) hw (by decide)
          refine lv_aload_n hx hb dQ_removeFirst_50 rfl (lv_at hl 2 rfl) ?_
          refine va_get (D := (dC, dI)) (ci := 0) (v := .ref (ad 10)) (C := R_Q) (T := T_Q) (N := 3) hx hb hts uw_Q hown hK hP 6 rfl rfl 1 (by decide) (hts _ (List.mem_cons_of_mem _ wd_94)) (fun _ h9 => h9) rfl dQ_removeFirst_51 ?_
          refine lv_iload_n hx hb dQ_removeFirst_54 rfl (lv_at hl 0 rfl) ?_
          refine lv_aload_n hx hb dQ_removeFirst_55 rfl (lv_at hl 2 rfl) ?_
          refine va_get (D := (dC, dI)) (ci := 0) (v := .ref (ad 10)) (C := R_Q) (T := T_Q) (N := 3) hx hb hts uw_Q hown hK hP 6 rfl rfl 1 (by decide) (hts _ (List.mem_cons_of_mem _ wd_94)) (fun _ h9 => h9) rfl dQ_removeFirst_56 ?_
          refine lv_iload_n hx hb dQ_removeFirst_59 rfl (lv_at hl 0 rfl) ?_
          refine lv_iconst (v := 1) hx hb dQ_removeFirst_60 (by decide) ?_
          refine lv_iadd hx hb dQ_removeFirst_61 ?_
          refine lv_topi (fun z9 e9 => ?_)
          obtain rfl : z9 = 2 := e9.trans (by decide)
          refine va_iald hx hb hK hP 10 7 rfl rfl (kk_inl (by decide)) dQ_removeFirst_62 ?_
          rw [kk_c2]
          refine va_iast hx hb hK hP (kx_D hj) hS 10 7 rfl rfl (kk_inl (by decide)) dQ_removeFirst_63 (fun H locs hP _ hS => ?_)
          rw [kk_c1] at hP
          replace hP := kx_u_a8 hP
          replace hw := kx_wf_I (f := 8) (i := 1) (v := kI (sI (sI (sI (sI s1 9 1 ((kI s1 9 1) - 1)) 6 0 (kI (sI s1 9 1 ((kI s1 9 1) - 1)) 6 1)) 8 0 (kI (sI (sI s1 9 1 ((kI s1 9 1) - 1)) 6 0 (kI (sI s1 9 1 ((kI s1 9 1) - 1)) 6 1)) 8 1)) 6 1 (kI (sI (sI (sI s1 9 1 ((kI s1 9 1) - 1)) 6 0 (kI (sI s1 9 1 ((kI s1 9 1) - 1)) 6 1)) 8 0 (kI (sI (sI s1 9 1 ((kI s1 9 1) - 1)) 6 0 (kI (sI s1 9 1 ((kI s1 9 1) - 1)) 6 1)) 8 1)) 6 2)) 8 2) hw (by decide)
          refine lv_iinc (v := 2) (lv' := [(2, .int 2), (1, .int (kI s1 8 0)), (0, .ref (ad 6))]) hx hb dQ_removeFirst_64 hl (k := 0) rfl (by decide) (by decide) rfl (fun ls hl => ?_)
          refine lv_goto (tgt := 28) hx hb dQ_removeFirst_67 (by decide) ?_
          refine lv_iload_n hx hb dQ_removeFirst_28 rfl (lv_at hl 0 rfl) ?_
          refine lv_aload_n hx hb dQ_removeFirst_29 rfl (lv_at hl 2 rfl) ?_
          refine va_get (D := (dC, dI)) (ci := 0) (v := .int (kI (sI (sI (sI (sI (sI s1 9 1 ((kI s1 9 1) - 1)) 6 0 (kI (sI s1 9 1 ((kI s1 9 1) - 1)) 6 1)) 8 0 (kI (sI (sI s1 9 1 ((kI s1 9 1) - 1)) 6 0 (kI (sI s1 9 1 ((kI s1 9 1) - 1)) 6 1)) 8 1)) 6 1 (kI (sI (sI (sI s1 9 1 ((kI s1 9 1) - 1)) 6 0 (kI (sI s1 9 1 ((kI s1 9 1) - 1)) 6 1)) 8 0 (kI (sI (sI s1 9 1 ((kI s1 9 1) - 1)) 6 0 (kI (sI s1 9 1 ((kI s1 9 1) - 1)) 6 1)) 8 1)) 6 2)) 8 1 (kI (sI (sI (sI (sI s1 9 1 ((kI s1 9 1) - 1)) 6 0 (kI (sI s1 9 1 ((kI s1 9 1) - 1)) 6 1)) 8 0 (kI (sI (sI s1 9 1 ((kI s1 9 1) - 1)) 6 0 (kI (sI s1 9 1 ((kI s1 9 1) - 1)) 6 1)) 8 1)) 6 1 (kI (sI (sI (sI s1 9 1 ((kI s1 9 1) - 1)) 6 0 (kI (sI s1 9 1 ((kI s1 9 1) - 1)) 6 1)) 8 0 (kI (sI (sI s1 9 1 ((kI s1 9 1) - 1)) 6 0 (kI (sI s1 9 1 ((kI s1 9 1) - 1)) 6 1)) 8 1)) 6 2)) 8 2)) 9 1)) (C := R_Q) (T := T_Q) (N := 3) hx hb hts uw_Q hown hK hP 6 rfl rfl 2 (by decide) (hts _ (List.mem_cons_of_mem _ wd_95)) (fun _ h9 => h9) rfl dQ_removeFirst_30 ?_
          rw [show kI (sI (sI (sI (sI (sI s1 9 1 ((kI s1 9 1) - 1)) 6 0 (kI (sI s1 9 1 ((kI s1 9 1) - 1)) 6 1)) 8 0 (kI (sI (sI s1 9 1 ((kI s1 9 1) - 1)) 6 0 (kI (sI s1 9 1 ((kI s1 9 1) - 1)) 6 1)) 8 1)) 6 1 (kI (sI (sI (sI s1 9 1 ((kI s1 9 1) - 1)) 6 0 (kI (sI s1 9 1 ((kI s1 9 1) - 1)) 6 1)) 8 0 (kI (sI (sI s1 9 1 ((kI s1 9 1) - 1)) 6 0 (kI (sI s1 9 1 ((kI s1 9 1) - 1)) 6 1)) 8 1)) 6 2)) 8 1 (kI (sI (sI (sI (sI s1 9 1 ((kI s1 9 1) - 1)) 6 0 (kI (sI s1 9 1 ((kI s1 9 1) - 1)) 6 1)) 8 0 (kI (sI (sI s1 9 1 ((kI s1 9 1) - 1)) 6 0 (kI (sI s1 9 1 ((kI s1 9 1) - 1)) 6 1)) 8 1)) 6 1 (kI (sI (sI (sI s1 9 1 ((kI s1 9 1) - 1)) 6 0 (kI (sI s1 9 1 ((kI s1 9 1) - 1)) 6 1)) 8 0 (kI (sI (sI s1 9 1 ((kI s1 9 1) - 1)) 6 0 (kI (sI s1 9 1 ((kI s1 9 1) - 1)) 6 1)) 8 1)) 6 2)) 8 2)) 9 1 = 2 from (show (kI (sI (sI (sI (sI (sI s1 9 1 ((kI s1 9 1) - 1)) 6 0 (kI (sI s1 9 1 ((kI s1 9 1) - 1)) 6 1)) 8 0 (kI (sI (sI s1 9 1 ((kI s1 9 1) - 1)) 6 0 (kI (sI s1 9 1 ((kI s1 9 1) - 1)) 6 1)) 8 1)) 6 1 (kI (sI (sI (sI s1 9 1 ((kI s1 9 1) - 1)) 6 0 (kI (sI s1 9 1 ((kI s1 9 1) - 1)) 6 1)) 8 0 (kI (sI (sI s1 9 1 ((kI s1 9 1) - 1)) 6 0 (kI (sI s1 9 1 ((kI s1 9 1) - 1)) 6 1)) 8 1)) 6 2)) 8 1 (kI (sI (sI (sI (sI s1 9 1 ((kI s1 9 1) - 1)) 6 0 (kI (sI s1 9 1 ((kI s1 9 1) - 1)) 6 1)) 8 0 (kI (sI (sI s1 9 1 ((kI s1 9 1) - 1)) 6 0 (kI (sI s1 9 1 ((kI s1 9 1) - 1)) 6 1)) 8 1)) 6 1 (kI (sI (sI (sI s1 9 1 ((kI s1 9 1) - 1)) 6 0 (kI (sI s1 9 1 ((kI s1 9 1) - 1)) 6 1)) 8 0 (kI (sI (sI s1 9 1 ((kI s1 9 1) - 1)) 6 0 (kI (sI s1 9 1 ((kI s1 9 1) - 1)) 6 1)) 8 1)) 6 2)) 8 2)) 9 1) = kI s1 9 1 - 1 from rfl).trans (by rw [z_3]; decide)]
          refine lv_icmp_ge (tgt := 70) hx hb dQ_removeFirst_33 (by decide) (fun _ => ?_) (fun c9 => absurd (by decide) c9)
          refine lv_iload_n hx hb dQ_removeFirst_70 rfl (lv_at hl 1 rfl) ?_
          exact kk_iret hx hb hr hlocks hP hK hS ⟨hf.symm, hw⟩ dQ_removeFirst_71
        · rw [if_neg z_3] at hf
          have z_4 : (kI s1 9 1) = 4 := kx_sz4 (hw.2.2 1 (by decide)) z_1 z_2 z_3 (kx_nempty_1 h1 c_4)
          refine lv_aload_n hx hb dQ_removeFirst_9 rfl (lv_at hl 0 rfl) ?_
          refine va_get (D := (dC, dI)) (ci := 0) (v := .ref (ad 10)) (C := R_Q) (T := T_Q) (N := 3) hx hb hts uw_Q hown hK hP 6 rfl rfl 1 (by decide) (hts _ (List.mem_cons_of_mem _ wd_94)) (fun _ h9 => h9) rfl dQ_removeFirst_10 ?_
          refine lv_iconst (v := 0) hx hb dQ_removeFirst_13 (by decide) ?_
          refine va_iald hx hb hK hP 10 7 rfl rfl (kk_inl (by decide)) dQ_removeFirst_14 ?_
          rw [kk_c0]
          refine lv_istore_n (lv' := [(1, .int (kI s1 8 0)), (0, .ref (ad 6))]) hx hb dQ_removeFirst_15 rfl hl (by decide) rfl (fun ls hl => ?_)
          refine lv_aload_n hx hb dQ_removeFirst_16 rfl (lv_at hl 1 rfl) ?_
          refine lv_dup hx hb dQ_removeFirst_17 rfl ?_
          refine va_get (D := (dC, dI)) (ci := 0) (v := .int (kI s1 9 1)) (C := R_Q) (T := T_Q) (N := 3) hx hb hts uw_Q hown hK hP 6 rfl rfl 2 (by decide) (hts _ (List.mem_cons_of_mem _ wd_95)) (fun _ h9 => h9) rfl dQ_removeFirst_18 ?_
          refine lv_iconst (v := 1) hx hb dQ_removeFirst_21 (by decide) ?_
          refine lv_isub hx hb dQ_removeFirst_22 ?_
          refine va_put (D := (dC, dI)) (ci := 0) (v := .int ((kI s1 9 1) - 1)) (ty := .int) (C := R_Q) (T := T_Q) (N := 3) hx hb hts uw_Q ty_Q ty_Q_ok nm_Q hown hK hP (kx_D hj) hS 6 rfl rfl 2 (by decide) (hts _ (List.mem_cons_of_mem _ wd_95)) (fun _ h9 => h9) rfl (by decide +kernel) rfl rfl (Nat.le_of_ble_eq_true rfl) dQ_removeFirst_23 (fun H locs hP _ hS => ?_)
          replace hP := kx_u_size1 hP
          replace hw : kx_wf (sI s1 9 1 ((kI s1 9 1) - 1)) := kx_wf_q (q := 1) (v := kI s1 9 1 - 1) hw ⟨3, by decide, by rw [z_4]; decide⟩
          refine lv_iconst (v := 0) hx hb dQ_removeFirst_26 (by decide) ?_
          refine lv_istore_n (lv' := [(2, .int 0), (1, .int (kI s1 8 0)), (0, .ref (ad 6))]) hx hb dQ_removeFirst_27 rfl hl (by decide) rfl (fun ls hl => ?_)
          refine lv_iload_n hx hb dQ_removeFirst_28 rfl (lv_at hl 0 rfl) ?_
          refine lv_aload_n hx hb dQ_removeFirst_29 rfl (lv_at hl 2 rfl) ?_
          refine va_get (D := (dC, dI)) (ci := 0) (v := .int (kI (sI s1 9 1 ((kI s1 9 1) - 1)) 9 1)) (C := R_Q) (T := T_Q) (N := 3) hx hb hts uw_Q hown hK hP 6 rfl rfl 2 (by decide) (hts _ (List.mem_cons_of_mem _ wd_95)) (fun _ h9 => h9) rfl dQ_removeFirst_30 ?_
          rw [show kI (sI s1 9 1 ((kI s1 9 1) - 1)) 9 1 = 3 from (show (kI (sI s1 9 1 ((kI s1 9 1) - 1)) 9 1) = kI s1 9 1 - 1 from rfl).trans (by rw [z_4]; decide)]
          refine lv_icmp_ge (tgt := 70) hx hb dQ_removeFirst_33 (by decide) (fun c9 => absurd c9 (by decide)) (fun _ => ?_)
          refine lv_aload_n hx hb dQ_removeFirst_36 rfl (lv_at hl 2 rfl) ?_
          refine va_get (D := (dC, dI)) (ci := 0) (v := .ref (ad 8)) (C := R_Q) (T := T_Q) (N := 3) hx hb hts uw_Q hown hK hP 6 rfl rfl 0 (by decide) (hts _ (List.mem_cons_of_mem _ wd_93)) (fun _ h9 => h9) rfl dQ_removeFirst_37 ?_
          refine lv_iload_n hx hb dQ_removeFirst_40 rfl (lv_at hl 0 rfl) ?_
          refine lv_aload_n hx hb dQ_removeFirst_41 rfl (lv_at hl 2 rfl) ?_
          refine va_get (D := (dC, dI)) (ci := 0) (v := .ref (ad 8)) (C := R_Q) (T := T_Q) (N := 3) hx hb hts uw_Q hown hK hP 6 rfl rfl 0 (by decide) (hts _ (List.mem_cons_of_mem _ wd_93)) (fun _ h9 => h9) rfl dQ_removeFirst_42 ?_
          refine lv_iload_n hx hb dQ_removeFirst_45 rfl (lv_at hl 0 rfl) ?_
          refine lv_iconst (v := 1) hx hb dQ_removeFirst_46 (by decide) ?_
          refine lv_iadd hx hb dQ_removeFirst_47 ?_
          refine lv_topi (fun z9 e9 => ?_)
          obtain rfl : z9 = 1 := e9.trans (by decide)
          refine va_iald hx hb hK hP 8 5 rfl rfl (kk_inl (by decide)) dQ_removeFirst_48 ?_
          rw [kk_c1]
          refine va_iast hx hb hK hP (kx_D hj) hS 8 5 rfl rfl (kk_inl (by decide)) dQ_removeFirst_49 (fun H locs hP _ hS => ?_)
          rw [kk_c0] at hP
          replace hP := kx_u_a6 hP
          replace hw := kx_wf_I (f := 6) (i := 0) (v := kI (sI s1 9 1 ((kI s1 9 1) - 1)) 6 1) hw (by decide)
          refine lv_aload_n hx hb dQ_removeFirst_50 rfl (lv_at hl 2 rfl) ?_
          refine va_get (D := (dC, dI)) (ci := 0) (v := .ref (ad 10)) (C := R_Q) (T := T_Q) (N := 3) hx hb hts uw_Q hown hK hP 6 rfl rfl 1 (by decide) (hts _ (List.mem_cons_of_mem _ wd_94)) (fun _ h9 => h9) rfl dQ_removeFirst_51 ?_
          refine lv_iload_n hx hb dQ_removeFirst_54 rfl (lv_at hl 0 rfl) ?_
          refine lv_aload_n hx hb dQ_removeFirst_55 rfl (lv_at hl 2 rfl) ?_
          refine va_get (D := (dC, dI)) (ci := 0) (v := .ref (ad 10)) (C := R_Q) (T := T_Q) (N := 3) hx hb hts uw_Q hown hK hP 6 rfl rfl 1 (by decide) (hts _ (List.mem_cons_of_mem _ wd_94)) (fun _ h9 => h9) rfl dQ_removeFirst_56 ?_
          refine lv_iload_n hx hb dQ_removeFirst_59 rfl (lv_at hl 0 rfl) ?_
          refine lv_iconst (v := 1) hx hb dQ_removeFirst_60 (by decide) ?_
          refine lv_iadd hx hb dQ_removeFirst_61 ?_
          refine lv_topi (fun z9 e9 => ?_)
          obtain rfl : z9 = 1 := e9.trans (by decide)
          refine va_iald hx hb hK hP 10 7 rfl rfl (kk_inl (by decide)) dQ_removeFirst_62 ?_
          rw [kk_c1]
          refine va_iast hx hb hK hP (kx_D hj) hS 10 7 rfl rfl (kk_inl (by decide)) dQ_removeFirst_63 (fun H locs hP _ hS => ?_)
          rw [kk_c0] at hP
          replace hP := kx_u_a8 hP
          replace hw := kx_wf_I (f := 8) (i := 0) (v := kI (sI (sI s1 9 1 ((kI s1 9 1) - 1)) 6 0 (kI (sI s1 9 1 ((kI s1 9 1) - 1)) 6 1)) 8 1) hw (by decide)
          refine lv_iinc (v := 1) (lv' := [(2, .int 1), (1, .int (kI s1 8 0)), (0, .ref (ad 6))]) hx hb dQ_removeFirst_64 hl (k := 0) rfl (by decide) (by decide) rfl (fun ls hl => ?_)
          refine lv_goto (tgt := 28) hx hb dQ_removeFirst_67 (by decide) ?_
          refine lv_iload_n hx hb dQ_removeFirst_28 rfl (lv_at hl 0 rfl) ?_
          refine lv_aload_n hx hb dQ_removeFirst_29 rfl (lv_at hl 2 rfl) ?_
          refine va_get (D := (dC, dI)) (ci := 0) (v := .int (kI (sI (sI (sI s1 9 1 ((kI s1 9 1) - 1)) 6 0 (kI (sI s1 9 1 ((kI s1 9 1) - 1)) 6 1)) 8 0 (kI (sI (sI s1 9 1 ((kI s1 9 1) - 1)) 6 0 (kI (sI s1 9 1 ((kI s1 9 1) - 1)) 6 1)) 8 1)) 9 1)) (C := R_Q) (T := T_Q) (N := 3) hx hb hts uw_Q hown hK hP 6 rfl rfl 2 (by decide) (hts _ (List.mem_cons_of_mem _ wd_95)) (fun _ h9 => h9) rfl dQ_removeFirst_30 ?_
          rw [show kI (sI (sI (sI s1 9 1 ((kI s1 9 1) - 1)) 6 0 (kI (sI s1 9 1 ((kI s1 9 1) - 1)) 6 1)) 8 0 (kI (sI (sI s1 9 1 ((kI s1 9 1) - 1)) 6 0 (kI (sI s1 9 1 ((kI s1 9 1) - 1)) 6 1)) 8 1)) 9 1 = 3 from (show (kI (sI (sI (sI s1 9 1 ((kI s1 9 1) - 1)) 6 0 (kI (sI s1 9 1 ((kI s1 9 1) - 1)) 6 1)) 8 0 (kI (sI (sI s1 9 1 ((kI s1 9 1) - 1)) 6 0 (kI (sI s1 9 1 ((kI s1 9 1) - 1)) 6 1)) 8 1)) 9 1) = kI s1 9 1 - 1 from rfl).trans (by rw [z_4]; decide)]
          refine lv_icmp_ge (tgt := 70) hx hb dQ_removeFirst_33 (by decide) (fun c9 => absurd c9 (by decide)) (fun _ => ?_)
          refine lv_aload_n hx hb dQ_removeFirst_36 rfl (lv_at hl 2 rfl) ?_
          refine va_get (D := (dC, dI)) (ci := 0) (v := .ref (ad 8)) (C := R_Q) (T := T_Q) (N := 3) hx hb hts uw_Q hown hK hP 6 rfl rfl 0 (by decide) (hts _ (List.mem_cons_of_mem _ wd_93)) (fun _ h9 => h9) rfl dQ_removeFirst_37 ?_
          refine lv_iload_n hx hb dQ_removeFirst_40 rfl (lv_at hl 0 rfl) ?_
          refine lv_aload_n hx hb dQ_removeFirst_41 rfl (lv_at hl 2 rfl) ?_
          refine va_get (D := (dC, dI)) (ci := 0) (v := .ref (ad 8)) (C := R_Q) (T := T_Q) (N := 3) hx hb hts uw_Q hown hK hP 6 rfl rfl 0 (by decide) (hts _ (List.mem_cons_of_mem _ wd_93)) (fun _ h9 => h9) rfl dQ_removeFirst_42 ?_
          refine lv_iload_n hx hb dQ_removeFirst_45 rfl (lv_at hl 0 rfl) ?_
          refine lv_iconst (v := 1) hx hb dQ_removeFirst_46 (by decide) ?_
          refine lv_iadd hx hb dQ_removeFirst_47 ?_
          refine lv_topi (fun z9 e9 => ?_)
          obtain rfl : z9 = 2 := e9.trans (by decide)
          refine va_iald hx hb hK hP 8 5 rfl rfl (kk_inl (by decide)) dQ_removeFirst_48 ?_
          rw [kk_c2]
          refine va_iast hx hb hK hP (kx_D hj) hS 8 5 rfl rfl (kk_inl (by decide)) dQ_removeFirst_49 (fun H locs hP _ hS => ?_)
          rw [kk_c1] at hP
          replace hP := kx_u_a6 hP
          replace hw := kx_wf_I (f := 6) (i := 1) (v := kI (sI (sI (sI s1 9 1 ((kI s1 9 1) - 1)) 6 0 (kI (sI s1 9 1 ((kI s1 9 1) - 1)) 6 1)) 8 0 (kI (sI (sI s1 9 1 ((kI s1 9 1) - 1)) 6 0 (kI (sI s1 9 1 ((kI s1 9 1) - 1)) 6 1)) 8 1)) 6 2) hw (by decide)
          refine lv_aload_n hx hb dQ_removeFirst_50 rfl (lv_at hl 2 rfl) ?_
          refine va_get (D := (dC, dI)) (ci := 0) (v := .ref (ad 10)) (C := R_Q) (T := T_Q) (N := 3) hx hb hts uw_Q hown hK hP 6 rfl rfl 1 (by decide) (hts _ (List.mem_cons_of_mem _ wd_94)) (fun _ h9 => h9) rfl dQ_removeFirst_51 ?_
          refine lv_iload_n hx hb dQ_removeFirst_54 rfl (lv_at hl 0 rfl) ?_
          refine lv_aload_n hx hb dQ_removeFirst_55 rfl (lv_at hl 2 rfl) ?_
          refine va_get (D := (dC, dI)) (ci := 0) (v := .ref (ad 10)) (C := R_Q) (T := T_Q) (N := 3) hx hb hts uw_Q hown hK hP 6 rfl rfl 1 (by decide) (hts _ (List.mem_cons_of_mem _ wd_94)) (fun _ h9 => h9) rfl dQ_removeFirst_56 ?_
          refine lv_iload_n hx hb dQ_removeFirst_59 rfl (lv_at hl 0 rfl) ?_
          refine lv_iconst (v := 1) hx hb dQ_removeFirst_60 (by decide) ?_
          refine lv_iadd hx hb dQ_removeFirst_61 ?_
          refine lv_topi (fun z9 e9 => ?_)
          obtain rfl : z9 = 2 := e9.trans (by decide)
          refine va_iald hx hb hK hP 10 7 rfl rfl (kk_inl (by decide)) dQ_removeFirst_62 ?_
          rw [kk_c2]
          refine va_iast hx hb hK hP (kx_D hj) hS 10 7 rfl rfl (kk_inl (by decide)) dQ_removeFirst_63 (fun H locs hP _ hS => ?_)
          rw [kk_c1] at hP
          replace hP := kx_u_a8 hP
          replace hw := kx_wf_I (f := 8) (i := 1) (v := kI (sI (sI (sI (sI s1 9 1 ((kI s1 9 1) - 1)) 6 0 (kI (sI s1 9 1 ((kI s1 9 1) - 1)) 6 1)) 8 0 (kI (sI (sI s1 9 1 ((kI s1 9 1) - 1)) 6 0 (kI (sI s1 9 1 ((kI s1 9 1) - 1)) 6 1)) 8 1)) 6 1 (kI (sI (sI (sI s1 9 1 ((kI s1 9 1) - 1)) 6 0 (kI (sI s1 9 1 ((kI s1 9 1) - 1)) 6 1)) 8 0 (kI (sI (sI s1 9 1 ((kI s1 9 1) - 1)) 6 0 (kI (sI s1 9 1 ((kI s1 9 1) - 1)) 6 1)) 8 1)) 6 2)) 8 2) hw (by decide)
          refine lv_iinc (v := 2) (lv' := [(2, .int 2), (1, .int (kI s1 8 0)), (0, .ref (ad 6))]) hx hb dQ_removeFirst_64 hl (k := 0) rfl (by decide) (by decide) rfl (fun ls hl => ?_)
          refine lv_goto (tgt := 28) hx hb dQ_removeFirst_67 (by decide) ?_
          refine lv_iload_n hx hb dQ_removeFirst_28 rfl (lv_at hl 0 rfl) ?_
          refine lv_aload_n hx hb dQ_removeFirst_29 rfl (lv_at hl 2 rfl) ?_
          refine va_get (D := (dC, dI)) (ci := 0) (v := .int (kI (sI (sI (sI (sI (sI s1 9 1 ((kI s1 9 1) - 1)) 6 0 (kI (sI s1 9 1 ((kI s1 9 1) - 1)) 6 1)) 8 0 (kI (sI (sI s1 9 1 ((kI s1 9 1) - 1)) 6 0 (kI (sI s1 9 1 ((kI s1 9 1) - 1)) 6 1)) 8 1)) 6 1 (kI (sI (sI (sI s1 9 1 ((kI s1 9 1) - 1)) 6 0 (kI (sI s1 9 1 ((kI s1 9 1) - 1)) 6 1)) 8 0 (kI (sI (sI s1 9 1 ((kI s1 9 1) - 1)) 6 0 (kI (sI s1 9 1 ((kI s1 9 1) - 1)) 6 1)) 8 1)) 6 2)) 8 1 (kI (sI (sI (sI (sI s1 9 1 ((kI s1 9 1) - 1)) 6 0 (kI (sI s1 9 1 ((kI s1 9 1) - 1)) 6 1)) 8 0 (kI (sI (sI s1 9 1 ((kI s1 9 1) - 1)) 6 0 (kI (sI s1 9 1 ((kI s1 9 1) - 1)) 6 1)) 8 1)) 6 1 (kI (sI (sI (sI s1 9 1 ((kI s1 9 1) - 1)) 6 0 (kI (sI s1 9 1 ((kI s1 9 1) - 1)) 6 1)) 8 0 (kI (sI (sI s1 9 1 ((kI s1 9 1) - 1)) 6 0 (kI (sI s1 9 1 ((kI s1 9 1) - 1)) 6 1)) 8 1)) 6 2)) 8 2)) 9 1)) (C := R_Q) (T := T_Q) (N := 3) hx hb hts uw_Q hown hK hP 6 rfl rfl 2 (by decide) (hts _ (List.mem_cons_of_mem _ wd_95)) (fun _ h9 => h9) rfl dQ_removeFirst_30 ?_
          rw [show kI (sI (sI (sI (sI (sI s1 9 1 ((kI s1 9 1) - 1)) 6 0 (kI (sI s1 9 1 ((kI s1 9 1) - 1)) 6 1)) 8 0 (kI (sI (sI s1 9 1 ((kI s1 9 1) - 1)) 6 0 (kI (sI s1 9 1 ((kI s1 9 1) - 1)) 6 1)) 8 1)) 6 1 (kI (sI (sI (sI s1 9 1 ((kI s1 9 1) - 1)) 6 0 (kI (sI s1 9 1 ((kI s1 9 1) - 1)) 6 1)) 8 0 (kI (sI (sI s1 9 1 ((kI s1 9 1) - 1)) 6 0 (kI (sI s1 9 1 ((kI s1 9 1) - 1)) 6 1)) 8 1)) 6 2)) 8 1 (kI (sI (sI (sI (sI s1 9 1 ((kI s1 9 1) - 1)) 6 0 (kI (sI s1 9 1 ((kI s1 9 1) - 1)) 6 1)) 8 0 (kI (sI (sI s1 9 1 ((kI s1 9 1) - 1)) 6 0 (kI (sI s1 9 1 ((kI s1 9 1) - 1)) 6 1)) 8 1)) 6 1 (kI (sI (sI (sI s1 9 1 ((kI s1 9 1) - 1)) 6 0 (kI (sI s1 9 1 ((kI s1 9 1) - 1)) 6 1)) 8 0 (kI (sI (sI s1 9 1 ((kI s1 9 1) - 1)) 6 0 (kI (sI s1 9 1 ((kI s1 9 1) - 1)) 6 1)) 8 1)) 6 2)) 8 2)) 9 1 = 3 from (show (kI (sI (sI (sI (sI (sI s1 9 1 ((kI s1 9 1) - 1)) 6 0 (kI (sI s1 9 1 ((kI s1 9 1) - 1)) 6 1)) 8 0 (kI (sI (sI s1 9 1 ((kI s1 9 1) - 1)) 6 0 (kI (sI s1 9 1 ((kI s1 9 1) - 1)) 6 1)) 8 1)) 6 1 (kI (sI (sI (sI s1 9 1 ((kI s1 9 1) - 1)) 6 0 (kI (sI s1 9 1 ((kI s1 9 1) - 1)) 6 1)) 8 0 (kI (sI (sI s1 9 1 ((kI s1 9 1) - 1)) 6 0 (kI (sI s1 9 1 ((kI s1 9 1) - 1)) 6 1)) 8 1)) 6 2)) 8 1 (kI (sI (sI (sI (sI s1 9 1 ((kI s1 9 1) - 1)) 6 0 (kI (sI s1 9 1 ((kI s1 9 1) - 1)) 6 1)) 8 0 (kI (sI (sI s1 9 1 ((kI s1 9 1) - 1)) 6 0 (kI (sI s1 9 1 ((kI s1 9 1) - 1)) 6 1)) 8 1)) 6 1 (kI (sI (sI (sI s1 9 1 ((kI s1 9 1) - 1)) 6 0 (kI (sI s1 9 1 ((kI s1 9 1) - 1)) 6 1)) 8 0 (kI (sI (sI s1 9 1 ((kI s1 9 1) - 1)) 6 0 (kI (sI s1 9 1 ((kI s1 9 1) - 1)) 6 1)) 8 1)) 6 2)) 8 2)) 9 1) = kI s1 9 1 - 1 from rfl).trans (by rw [z_4]; decide)]
          refine lv_icmp_ge (tgt := 70) hx hb dQ_removeFirst_33 (by decide) (fun c9 => absurd c9 (by decide)) (fun _ => ?_)
          refine lv_aload_n hx hb dQ_removeFirst_36 rfl (lv_at hl 2 rfl) ?_
          refine va_get (D := (dC, dI)) (ci := 0) (v := .ref (ad 8)) (C := R_Q) (T := T_Q) (N := 3) hx hb hts uw_Q hown hK hP 6 rfl rfl 0 (by decide) (hts _ (List.mem_cons_of_mem _ wd_93)) (fun _ h9 => h9) rfl dQ_removeFirst_37 ?_
          refine lv_iload_n hx hb dQ_removeFirst_40 rfl (lv_at hl 0 rfl) ?_
          refine lv_aload_n hx hb dQ_removeFirst_41 rfl (lv_at hl 2 rfl) ?_
          refine va_get (D := (dC, dI)) (ci := 0) (v := .ref (ad 8)) (C := R_Q) (T := T_Q) (N := 3) hx hb hts uw_Q hown hK hP 6 rfl rfl 0 (by decide) (hts _ (List.mem_cons_of_mem _ wd_93)) (fun _ h9 => h9) rfl dQ_removeFirst_42 ?_
          refine lv_iload_n hx hb dQ_removeFirst_45 rfl (lv_at hl 0 rfl) ?_
          refine lv_iconst (v := 1) hx hb dQ_removeFirst_46 (by decide) ?_
          refine lv_iadd hx hb dQ_removeFirst_47 ?_
          refine lv_topi (fun z9 e9 => ?_)
          obtain rfl : z9 = 3 := e9.trans (by decide)
          refine va_iald hx hb hK hP 8 5 rfl rfl (kk_inl (by decide)) dQ_removeFirst_48 ?_
          rw [kk_c3]
          refine va_iast hx hb hK hP (kx_D hj) hS 8 5 rfl rfl (kk_inl (by decide)) dQ_removeFirst_49 (fun H locs hP _ hS => ?_)
          rw [kk_c2] at hP
          replace hP := kx_u_a6 hP
          replace hw := kx_wf_I (f := 6) (i := 2) (v := kI (sI (sI (sI (sI (sI s1 9 1 ((kI s1 9 1) - 1)) 6 0 (kI (sI s1 9 1 ((kI s1 9 1) - 1)) 6 1)) 8 0 (kI (sI (sI s1 9 1 ((kI s1 9 1) - 1)) 6 0 (kI (sI s1 9 1 ((kI s1 9 1) - 1)) 6 1)) 8 1)) 6 1 (kI (sI (sI (sI s1 9 1 ((kI s1 9 1) - 1)) 6 0 (kI (sI s1 9 1 ((kI s1 9 1) - 1)) 6 1)) 8 0 (kI (sI (sI s1 9 1 ((kI s1 9 1) - 1)) 6 0 (kI (sI s1 9 1 ((kI s1 9 1) - 1)) 6 1)) 8 1)) 6 2)) 8 1 (kI (sI (sI (sI (sI s1 9 1 ((kI s1 9 1) - 1)) 6 0 (kI (sI s1 9 1 ((kI s1 9 1) - 1)) 6 1)) 8 0 (kI (sI (sI s1 9 1 ((kI s1 9 1) - 1)) 6 0 (kI (sI s1 9 1 ((kI s1 9 1) - 1)) 6 1)) 8 1)) 6 1 (kI (sI (sI (sI s1 9 1 ((kI s1 9 1) - 1)) 6 0 (kI (sI s1 9 1 ((kI s1 9 1) - 1)) 6 1)) 8 0 (kI (sI (sI s1 9 1 ((kI s1 9 1) - 1)) 6 0 (kI (sI s1 9 1 ((kI s1 9 1) - 1)) 6 1)) 8 1)) 6 2)) 8 2)) 6 3) hw (by decide)
          refine lv_aload_n hx hb dQ_removeFirst_50 rfl (lv_at hl 2 rfl) ?_
          refine va_get (D := (dC, dI)) (ci := 0) (v := .ref (ad 10)) (C := R_Q) (T := T_Q) (N := 3) hx hb hts uw_Q hown hK hP 6 rfl rfl 1 (by decide) (hts _ (List.mem_cons_of_mem _ wd_94)) (fun _ h9 => h9) rfl dQ_removeFirst_51 ?_
          refine lv_iload_n hx hb dQ_removeFirst_54 rfl (lv_at hl 0 rfl) ?_
          refine lv_aload_n hx hb dQ_removeFirst_55 rfl (lv_at hl 2 rfl) ?_
          refine va_get (D := (dC, dI)) (ci := 0) (v := .ref (ad 10)) (C := R_Q) (T := T_Q) (N := 3) hx hb hts uw_Q hown hK hP 6 rfl rfl 1 (by decide) (hts _ (List.mem_cons_of_mem _ wd_94)) (fun _ h9 => h9) rfl dQ_removeFirst_56 ?_
          refine lv_iload_n hx hb dQ_removeFirst_59 rfl (lv_at hl 0 rfl) ?_
          refine lv_iconst (v := 1) hx hb dQ_removeFirst_60 (by decide) ?_
          refine lv_iadd hx hb dQ_removeFirst_61 ?_
          refine lv_topi (fun z9 e9 => ?_)
          obtain rfl : z9 = 3 := e9.trans (by decide)
          refine va_iald hx hb hK hP 10 7 rfl rfl (kk_inl (by decide)) dQ_removeFirst_62 ?_
          rw [kk_c3]
          refine va_iast hx hb hK hP (kx_D hj) hS 10 7 rfl rfl (kk_inl (by decide)) dQ_removeFirst_63 (fun H locs hP _ hS => ?_)
          rw [kk_c2] at hP
          replace hP := kx_u_a8 hP
          replace hw := kx_wf_I (f := 8) (i := 2) (v := kI (sI (sI (sI (sI (sI (sI s1 9 1 ((kI s1 9 1) - 1)) 6 0 (kI (sI s1 9 1 ((kI s1 9 1) - 1)) 6 1)) 8 0 (kI (sI (sI s1 9 1 ((kI s1 9 1) - 1)) 6 0 (kI (sI s1 9 1 ((kI s1 9 1) - 1)) 6 1)) 8 1)) 6 1 (kI (sI (sI (sI s1 9 1 ((kI s1 9 1) - 1)) 6 0 (kI (sI s1 9 1 ((kI s1 9 1) - 1)) 6 1)) 8 0 (kI (sI (sI s1 9 1 ((kI s1 9 1) - 1)) 6 0 (kI (sI s1 9 1 ((kI s1 9 1) - 1)) 6 1)) 8 1)) 6 2)) 8 1 (kI (sI (sI (sI (sI s1 9 1 ((kI s1 9 1) - 1)) 6 0 (kI (sI s1 9 1 ((kI s1 9 1) - 1)) 6 1)) 8 0 (kI (sI (sI s1 9 1 ((kI s1 9 1) - 1)) 6 0 (kI (sI s1 9 1 ((kI s1 9 1) - 1)) 6 1)) 8 1)) 6 1 (kI (sI (sI (sI s1 9 1 ((kI s1 9 1) - 1)) 6 0 (kI (sI s1 9 1 ((kI s1 9 1) - 1)) 6 1)) 8 0 (kI (sI (sI s1 9 1 ((kI s1 9 1) - 1)) 6 0 (kI (sI s1 9 1 ((kI s1 9 1) - 1)) 6 1)) 8 1)) 6 2)) 8 2)) 6 2 (kI (sI (sI (sI (sI (sI s1 9 1 ((kI s1 9 1) - 1)) 6 0 (kI (sI s1 9 1 ((kI s1 9 1) - 1)) 6 1)) 8 0 (kI (sI (sI s1 9 1 ((kI s1 9 1) - 1)) 6 0 (kI (sI s1 9 1 ((kI s1 9 1) - 1)) 6 1)) 8 1)) 6 1 (kI (sI (sI (sI s1 9 1 ((kI s1 9 1) - 1)) 6 0 (kI (sI s1 9 1 ((kI s1 9 1) - 1)) 6 1)) 8 0 (kI (sI (sI s1 9 1 ((kI s1 9 1) - 1)) 6 0 (kI (sI s1 9 1 ((kI s1 9 1) - 1)) 6 1)) 8 1)) 6 2)) 8 1 (kI (sI (sI (sI (sI s1 9 1 ((kI s1 9 1) - 1)) 6 0 (kI (sI s1 9 1 ((kI s1 9 1) - 1)) 6 1)) 8 0 (kI (sI (sI s1 9 1 ((kI s1 9 1) - 1)) 6 0 (kI (sI s1 9 1 ((kI s1 9 1) - 1)) 6 1)) 8 1)) 6 1 (kI (sI (sI (sI s1 9 1 ((kI s1 9 1) - 1)) 6 0 (kI (sI s1 9 1 ((kI s1 9 1) - 1)) 6 1)) 8 0 (kI (sI (sI s1 9 1 ((kI s1 9 1) - 1)) 6 0 (kI (sI s1 9 1 ((kI s1 9 1) - 1)) 6 1)) 8 1)) 6 2)) 8 2)) 6 3)) 8 3) hw (by decide)
          refine lv_iinc (v := 3) (lv' := [(2, .int 3), (1, .int (kI s1 8 0)), (0, .ref (ad 6))]) hx hb dQ_removeFirst_64 hl (k := 0) rfl (by decide) (by decide) rfl (fun ls hl => ?_)
          refine lv_goto (tgt := 28) hx hb dQ_removeFirst_67 (by decide) ?_
          refine lv_iload_n hx hb dQ_removeFirst_28 rfl (lv_at hl 0 rfl) ?_
          refine lv_aload_n hx hb dQ_removeFirst_29 rfl (lv_at hl 2 rfl) ?_
          refine va_get (D := (dC, dI)) (ci := 0) (v := .int (kI (sI (sI (sI (sI (sI (sI (sI s1 9 1 ((kI s1 9 1) - 1)) 6 0 (kI (sI s1 9 1 ((kI s1 9 1) - 1)) 6 1)) 8 0 (kI (sI (sI s1 9 1 ((kI s1 9 1) - 1)) 6 0 (kI (sI s1 9 1 ((kI s1 9 1) - 1)) 6 1)) 8 1)) 6 1 (kI (sI (sI (sI s1 9 1 ((kI s1 9 1) - 1)) 6 0 (kI (sI s1 9 1 ((kI s1 9 1) - 1)) 6 1)) 8 0 (kI (sI (sI s1 9 1 ((kI s1 9 1) - 1)) 6 0 (kI (sI s1 9 1 ((kI s1 9 1) - 1)) 6 1)) 8 1)) 6 2)) 8 1 (kI (sI (sI (sI (sI s1 9 1 ((kI s1 9 1) - 1)) 6 0 (kI (sI s1 9 1 ((kI s1 9 1) - 1)) 6 1)) 8 0 (kI (sI (sI s1 9 1 ((kI s1 9 1) - 1)) 6 0 (kI (sI s1 9 1 ((kI s1 9 1) - 1)) 6 1)) 8 1)) 6 1 (kI (sI (sI (sI s1 9 1 ((kI s1 9 1) - 1)) 6 0 (kI (sI s1 9 1 ((kI s1 9 1) - 1)) 6 1)) 8 0 (kI (sI (sI s1 9 1 ((kI s1 9 1) - 1)) 6 0 (kI (sI s1 9 1 ((kI s1 9 1) - 1)) 6 1)) 8 1)) 6 2)) 8 2)) 6 2 (kI (sI (sI (sI (sI (sI s1 9 1 ((kI s1 9 1) - 1)) 6 0 (kI (sI s1 9 1 ((kI s1 9 1) - 1)) 6 1)) 8 0 (kI (sI (sI s1 9 1 ((kI s1 9 1) - 1)) 6 0 (kI (sI s1 9 1 ((kI s1 9 1) - 1)) 6 1)) 8 1)) 6 1 (kI (sI (sI (sI s1 9 1 ((kI s1 9 1) - 1)) 6 0 (kI (sI s1 9 1 ((kI s1 9 1) - 1)) 6 1)) 8 0 (kI (sI (sI s1 9 1 ((kI s1 9 1) - 1)) 6 0 (kI (sI s1 9 1 ((kI s1 9 1) - 1)) 6 1)) 8 1)) 6 2)) 8 1 (kI (sI (sI (sI (sI s1 9 1 ((kI s1 9 1) - 1)) 6 0 (kI (sI s1 9 1 ((kI s1 9 1) - 1)) 6 1)) 8 0 (kI (sI (sI s1 9 1 ((kI s1 9 1) - 1)) 6 0 (kI (sI s1 9 1 ((kI s1 9 1) - 1)) 6 1)) 8 1)) 6 1 (kI (sI (sI (sI s1 9 1 ((kI s1 9 1) - 1)) 6 0 (kI (sI s1 9 1 ((kI s1 9 1) - 1)) 6 1)) 8 0 (kI (sI (sI s1 9 1 ((kI s1 9 1) - 1)) 6 0 (kI (sI s1 9 1 ((kI s1 9 1) - 1)) 6 1)) 8 1)) 6 2)) 8 2)) 6 3)) 8 2 (kI (sI (sI (sI (sI (sI (sI s1 9 1 ((kI s1 9 1) - 1)) 6 0 (kI (sI s1 9 1 ((kI s1 9 1) - 1)) 6 1)) 8 0 (kI (sI (sI s1 9 1 ((kI s1 9 1) - 1)) 6 0 (kI (sI s1 9 1 ((kI s1 9 1) - 1)) 6 1)) 8 1)) 6 1 (kI (sI (sI (sI s1 9 1 ((kI s1 9 1) - 1)) 6 0 (kI (sI s1 9 1 ((kI s1 9 1) - 1)) 6 1)) 8 0 (kI (sI (sI s1 9 1 ((kI s1 9 1) - 1)) 6 0 (kI (sI s1 9 1 ((kI s1 9 1) - 1)) 6 1)) 8 1)) 6 2)) 8 1 (kI (sI (sI (sI (sI s1 9 1 ((kI s1 9 1) - 1)) 6 0 (kI (sI s1 9 1 ((kI s1 9 1) - 1)) 6 1)) 8 0 (kI (sI (sI s1 9 1 ((kI s1 9 1) - 1)) 6 0 (kI (sI s1 9 1 ((kI s1 9 1) - 1)) 6 1)) 8 1)) 6 1 (kI (sI (sI (sI s1 9 1 ((kI s1 9 1) - 1)) 6 0 (kI (sI s1 9 1 ((kI s1 9 1) - 1)) 6 1)) 8 0 (kI (sI (sI s1 9 1 ((kI s1 9 1) - 1)) 6 0 (kI (sI s1 9 1 ((kI s1 9 1) - 1)) 6 1)) 8 1)) 6 2)) 8 2)) 6 2 (kI (sI (sI (sI (sI (sI s1 9 1 ((kI s1 9 1) - 1)) 6 0 (kI (sI s1 9 1 ((kI s1 9 1) - 1)) 6 1)) 8 0 (kI (sI (sI s1 9 1 ((kI s1 9 1) - 1)) 6 0 (kI (sI s1 9 1 ((kI s1 9 1) - 1)) 6 1)) 8 1)) 6 1 (kI (sI (sI (sI s1 9 1 ((kI s1 9 1) - 1)) 6 0 (kI (sI s1 9 1 ((kI s1 9 1) - 1)) 6 1)) 8 0 (kI (sI (sI s1 9 1 ((kI s1 9 1) - 1)) 6 0 (kI (sI s1 9 1 ((kI s1 9 1) - 1)) 6 1)) 8 1)) 6 2)) 8 1 (kI (sI (sI (sI (sI s1 9 1 ((kI s1 9 1) - 1)) 6 0 (kI (sI s1 9 1 ((kI s1 9 1) - 1)) 6 1)) 8 0 (kI (sI (sI s1 9 1 ((kI s1 9 1) - 1)) 6 0 (kI (sI s1 9 1 ((kI s1 9 1) - 1)) 6 1)) 8 1)) 6 1 (kI (sI (sI (sI s1 9 1 ((kI s1 9 1) - 1)) 6 0 (kI (sI s1 9 1 ((kI s1 9 1) - 1)) 6 1)) 8 0 (kI (sI (sI s1 9 1 ((kI s1 9 1) - 1)) 6 0 (kI (sI s1 9 1 ((kI s1 9 1) - 1)) 6 1)) 8 1)) 6 2)) 8 2)) 6 3)) 8 3)) 9 1)) (C := R_Q) (T := T_Q) (N := 3) hx hb hts uw_Q hown hK hP 6 rfl rfl 2 (by decide) (hts _ (List.mem_cons_of_mem _ wd_95)) (fun _ h9 => h9) rfl dQ_removeFirst_30 ?_
          rw [show kI (sI (sI (sI (sI (sI (sI (sI s1 9 1 ((kI s1 9 1) - 1)) 6 0 (kI (sI s1 9 1 ((kI s1 9 1) - 1)) 6 1)) 8 0 (kI (sI (sI s1 9 1 ((kI s1 9 1) - 1)) 6 0 (kI (sI s1 9 1 ((kI s1 9 1) - 1)) 6 1)) 8 1)) 6 1 (kI (sI (sI (sI s1 9 1 ((kI s1 9 1) - 1)) 6 0 (kI (sI s1 9 1 ((kI s1 9 1) - 1)) 6 1)) 8 0 (kI (sI (sI s1 9 1 ((kI s1 9 1) - 1)) 6 0 (kI (sI s1 9 1 ((kI s1 9 1) - 1)) 6 1)) 8 1)) 6 2)) 8 1 (kI (sI (sI (sI (sI s1 9 1 ((kI s1 9 1) - 1)) 6 0 (kI (sI s1 9 1 ((kI s1 9 1) - 1)) 6 1)) 8 0 (kI (sI (sI s1 9 1 ((kI s1 9 1) - 1)) 6 0 (kI (sI s1 9 1 ((kI s1 9 1) - 1)) 6 1)) 8 1)) 6 1 (kI (sI (sI (sI s1 9 1 ((kI s1 9 1) - 1)) 6 0 (kI (sI s1 9 1 ((kI s1 9 1) - 1)) 6 1)) 8 0 (kI (sI (sI s1 9 1 ((kI s1 9 1) - 1)) 6 0 (kI (sI s1 9 1 ((kI s1 9 1) - 1)) 6 1)) 8 1)) 6 2)) 8 2)) 6 2 (kI (sI (sI (sI (sI (sI s1 9 1 ((kI s1 9 1) - 1)) 6 0 (kI (sI s1 9 1 ((kI s1 9 1) - 1)) 6 1)) 8 0 (kI (sI (sI s1 9 1 ((kI s1 9 1) - 1)) 6 0 (kI (sI s1 9 1 ((kI s1 9 1) - 1)) 6 1)) 8 1)) 6 1 (kI (sI (sI (sI s1 9 1 ((kI s1 9 1) - 1)) 6 0 (kI (sI s1 9 1 ((kI s1 9 1) - 1)) 6 1)) 8 0 (kI (sI (sI s1 9 1 ((kI s1 9 1) - 1)) 6 0 (kI (sI s1 9 1 ((kI s1 9 1) - 1)) 6 1)) 8 1)) 6 2)) 8 1 (kI (sI (sI (sI (sI s1 9 1 ((kI s1 9 1) - 1)) 6 0 (kI (sI s1 9 1 ((kI s1 9 1) - 1)) 6 1)) 8 0 (kI (sI (sI s1 9 1 ((kI s1 9 1) - 1)) 6 0 (kI (sI s1 9 1 ((kI s1 9 1) - 1)) 6 1)) 8 1)) 6 1 (kI (sI (sI (sI s1 9 1 ((kI s1 9 1) - 1)) 6 0 (kI (sI s1 9 1 ((kI s1 9 1) - 1)) 6 1)) 8 0 (kI (sI (sI s1 9 1 ((kI s1 9 1) - 1)) 6 0 (kI (sI s1 9 1 ((kI s1 9 1) - 1)) 6 1)) 8 1)) 6 2)) 8 2)) 6 3)) 8 2 (kI (sI (sI (sI (sI (sI (sI s1 9 1 ((kI s1 9 1) - 1)) 6 0 (kI (sI s1 9 1 ((kI s1 9 1) - 1)) 6 1)) 8 0 (kI (sI (sI s1 9 1 ((kI s1 9 1) - 1)) 6 0 (kI (sI s1 9 1 ((kI s1 9 1) - 1)) 6 1)) 8 1)) 6 1 (kI (sI (sI (sI s1 9 1 ((kI s1 9 1) - 1)) 6 0 (kI (sI s1 9 1 ((kI s1 9 1) - 1)) 6 1)) 8 0 (kI (sI (sI s1 9 1 ((kI s1 9 1) - 1)) 6 0 (kI (sI s1 9 1 ((kI s1 9 1) - 1)) 6 1)) 8 1)) 6 2)) 8 1 (kI (sI (sI (sI (sI s1 9 1 ((kI s1 9 1) - 1)) 6 0 (kI (sI s1 9 1 ((kI s1 9 1) - 1)) 6 1)) 8 0 (kI (sI (sI s1 9 1 ((kI s1 9 1) - 1)) 6 0 (kI (sI s1 9 1 ((kI s1 9 1) - 1)) 6 1)) 8 1)) 6 1 (kI (sI (sI (sI s1 9 1 ((kI s1 9 1) - 1)) 6 0 (kI (sI s1 9 1 ((kI s1 9 1) - 1)) 6 1)) 8 0 (kI (sI (sI s1 9 1 ((kI s1 9 1) - 1)) 6 0 (kI (sI s1 9 1 ((kI s1 9 1) - 1)) 6 1)) 8 1)) 6 2)) 8 2)) 6 2 (kI (sI (sI (sI (sI (sI s1 9 1 ((kI s1 9 1) - 1)) 6 0 (kI (sI s1 9 1 ((kI s1 9 1) - 1)) 6 1)) 8 0 (kI (sI (sI s1 9 1 ((kI s1 9 1) - 1)) 6 0 (kI (sI s1 9 1 ((kI s1 9 1) - 1)) 6 1)) 8 1)) 6 1 (kI (sI (sI (sI s1 9 1 ((kI s1 9 1) - 1)) 6 0 (kI (sI s1 9 1 ((kI s1 9 1) - 1)) 6 1)) 8 0 (kI (sI (sI s1 9 1 ((kI s1 9 1) - 1)) 6 0 (kI (sI s1 9 1 ((kI s1 9 1) - 1)) 6 1)) 8 1)) 6 2)) 8 1 (kI (sI (sI (sI (sI s1 9 1 ((kI s1 9 1) - 1)) 6 0 (kI (sI s1 9 1 ((kI s1 9 1) - 1)) 6 1)) 8 0 (kI (sI (sI s1 9 1 ((kI s1 9 1) - 1)) 6 0 (kI (sI s1 9 1 ((kI s1 9 1) - 1)) 6 1)) 8 1)) 6 1 (kI (sI (sI (sI s1 9 1 ((kI s1 9 1) - 1)) 6 0 (kI (sI s1 9 1 ((kI s1 9 1) - 1)) 6 1)) 8 0 (kI (sI (sI s1 9 1 ((kI s1 9 1) - 1)) 6 0 (kI (sI s1 9 1 ((kI s1 9 1) - 1)) 6 1)) 8 1)) 6 2)) 8 2)) 6 3)) 8 3)) 9 1 = 3 from (show (kI (sI (sI (sI (sI (sI (sI (sI s1 9 1 ((kI s1 9 1) - 1)) 6 0 (kI (sI s1 9 1 ((kI s1 9 1) - 1)) 6 1)) 8 0 (kI (sI (sI s1 9 1 ((kI s1 9 1) - 1)) 6 0 (kI (sI s1 9 1 ((kI s1 9 1) - 1)) 6 1)) 8 1)) 6 1 (kI (sI (sI (sI s1 9 1 ((kI s1 9 1) - 1)) 6 0 (kI (sI s1 9 1 ((kI s1 9 1) - 1)) 6 1)) 8 0 (kI (sI (sI s1 9 1 ((kI s1 9 1) - 1)) 6 0 (kI (sI s1 9 1 ((kI s1 9 1) - 1)) 6 1)) 8 1)) 6 2)) 8 1 (kI (sI (sI (sI (sI s1 9 1 ((kI s1 9 1) - 1)) 6 0 (kI (sI s1 9 1 ((kI s1 9 1) - 1)) 6 1)) 8 0 (kI (sI (sI s1 9 1 ((kI s1 9 1) - 1)) 6 0 (kI (sI s1 9 1 ((kI s1 9 1) - 1)) 6 1)) 8 1)) 6 1 (kI (sI (sI (sI s1 9 1 ((kI s1 9 1) - 1)) 6 0 (kI (sI s1 9 1 ((kI s1 9 1) - 1)) 6 1)) 8 0 (kI (sI (sI s1 9 1 ((kI s1 9 1) - 1)) 6 0 (kI (sI s1 9 1 ((kI s1 9 1) - 1)) 6 1)) 8 1)) 6 2)) 8 2)) 6 2 (kI (sI (sI (sI (sI (sI s1 9 1 ((kI s1 9 1) - 1)) 6 0 (kI (sI s1 9 1 ((kI s1 9 1) - 1)) 6 1)) 8 0 (kI (sI (sI s1 9 1 ((kI s1 9 1) - 1)) 6 0 (kI (sI s1 9 1 ((kI s1 9 1) - 1)) 6 1)) 8 1)) 6 1 (kI (sI (sI (sI s1 9 1 ((kI s1 9 1) - 1)) 6 0 (kI (sI s1 9 1 ((kI s1 9 1) - 1)) 6 1)) 8 0 (kI (sI (sI s1 9 1 ((kI s1 9 1) - 1)) 6 0 (kI (sI s1 9 1 ((kI s1 9 1) - 1)) 6 1)) 8 1)) 6 2)) 8 1 (kI (sI (sI (sI (sI s1 9 1 ((kI s1 9 1) - 1)) 6 0 (kI (sI s1 9 1 ((kI s1 9 1) - 1)) 6 1)) 8 0 (kI (sI (sI s1 9 1 ((kI s1 9 1) - 1)) 6 0 (kI (sI s1 9 1 ((kI s1 9 1) - 1)) 6 1)) 8 1)) 6 1 (kI (sI (sI (sI s1 9 1 ((kI s1 9 1) - 1)) 6 0 (kI (sI s1 9 1 ((kI s1 9 1) - 1)) 6 1)) 8 0 (kI (sI (sI s1 9 1 ((kI s1 9 1) - 1)) 6 0 (kI (sI s1 9 1 ((kI s1 9 1) - 1)) 6 1)) 8 1)) 6 2)) 8 2)) 6 3)) 8 2 (kI (sI (sI (sI (sI (sI (sI s1 9 1 ((kI s1 9 1) - 1)) 6 0 (kI (sI s1 9 1 ((kI s1 9 1) - 1)) 6 1)) 8 0 (kI (sI (sI s1 9 1 ((kI s1 9 1) - 1)) 6 0 (kI (sI s1 9 1 ((kI s1 9 1) - 1)) 6 1)) 8 1)) 6 1 (kI (sI (sI (sI s1 9 1 ((kI s1 9 1) - 1)) 6 0 (kI (sI s1 9 1 ((kI s1 9 1) - 1)) 6 1)) 8 0 (kI (sI (sI s1 9 1 ((kI s1 9 1) - 1)) 6 0 (kI (sI s1 9 1 ((kI s1 9 1) - 1)) 6 1)) 8 1)) 6 2)) 8 1 (kI (sI (sI (sI (sI s1 9 1 ((kI s1 9 1) - 1)) 6 0 (kI (sI s1 9 1 ((kI s1 9 1) - 1)) 6 1)) 8 0 (kI (sI (sI s1 9 1 ((kI s1 9 1) - 1)) 6 0 (kI (sI s1 9 1 ((kI s1 9 1) - 1)) 6 1)) 8 1)) 6 1 (kI (sI (sI (sI s1 9 1 ((kI s1 9 1) - 1)) 6 0 (kI (sI s1 9 1 ((kI s1 9 1) - 1)) 6 1)) 8 0 (kI (sI (sI s1 9 1 ((kI s1 9 1) - 1)) 6 0 (kI (sI s1 9 1 ((kI s1 9 1) - 1)) 6 1)) 8 1)) 6 2)) 8 2)) 6 2 (kI (sI (sI (sI (sI (sI s1 9 1 ((kI s1 9 1) - 1)) 6 0 (kI (sI s1 9 1 ((kI s1 9 1) - 1)) 6 1)) 8 0 (kI (sI (sI s1 9 1 ((kI s1 9 1) - 1)) 6 0 (kI (sI s1 9 1 ((kI s1 9 1) - 1)) 6 1)) 8 1)) 6 1 (kI (sI (sI (sI s1 9 1 ((kI s1 9 1) - 1)) 6 0 (kI (sI s1 9 1 ((kI s1 9 1) - 1)) 6 1)) 8 0 (kI (sI (sI s1 9 1 ((kI s1 9 1) - 1)) 6 0 (kI (sI s1 9 1 ((kI s1 9 1) - 1)) 6 1)) 8 1)) 6 2)) 8 1 (kI (sI (sI (sI (sI s1 9 1 ((kI s1 9 1) - 1)) 6 0 (kI (sI s1 9 1 ((kI s1 9 1) - 1)) 6 1)) 8 0 (kI (sI (sI s1 9 1 ((kI s1 9 1) - 1)) 6 0 (kI (sI s1 9 1 ((kI s1 9 1) - 1)) 6 1)) 8 1)) 6 1 (kI (sI (sI (sI s1 9 1 ((kI s1 9 1) - 1)) 6 0 (kI (sI s1 9 1 ((kI s1 9 1) - 1)) 6 1)) 8 0 (kI (sI (sI s1 9 1 ((kI s1 9 1) - 1)) 6 0 (kI (sI s1 9 1 ((kI s1 9 1) - 1)) 6 1)) 8 1)) 6 2)) 8 2)) 6 3)) 8 3)) 9 1) = kI s1 9 1 - 1 from rfl).trans (by rw [z_4]; decide)]
          refine lv_icmp_ge (tgt := 70) hx hb dQ_removeFirst_33 (by decide) (fun _ => ?_) (fun c9 => absurd (by decide) c9)
          refine lv_iload_n hx hb dQ_removeFirst_70 rfl (lv_at hl 1 rfl) ?_
          exact kk_iret hx hb hr hlocks hP hK hS ⟨hf.symm, hw⟩ dQ_removeFirst_71
  · rw [if_neg c_4] at hf
    refine lv_iconst (v := 0) hx hb dQ_removeFirst_7 (by decide) ?_
    exact kk_iret hx hb hr hlocks hP hK hS ⟨hf.symm, hw⟩ dQ_removeFirst_8
theorem xc_removeFirst (l : Launch) (dC : Nat → ClassId) (dI : Nat → Nat → Nat) (ad : Nat → Nat) (cs : Nat → ClassId) (hj : kx_inj ad) (σ : kx_S) (hw : kx_wf σ) (q : Nat)  (hq : q < 2) : Met l y_Q_removeFirst ws_Q_removeFirst ({ frames := 1, cells := 0, slots := 0, locals := 20 }) (kk_Pc (dC, dI) vwCl (kx_t cs) (kx_w ad cs σ) [.ref (kx_qa ad q)]) (va_Qi (kx_pi (xf_removeFirst σ q )) (kk_B (dC, dI) vwCl (kx_t cs) (kx_w ad cs)) (kx_A ad)) 0 0 (kx_A ad) := by
  rcases (show q = 0 ∨ q = 1 by omega) with rfl | rfl
  · exact xc_removeFirst_0 l dC dI ad cs hj σ hw 
  · exact xc_removeFirst_1 l dC dI ad cs hj σ hw 
