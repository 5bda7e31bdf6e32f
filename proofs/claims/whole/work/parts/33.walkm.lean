set_option maxHeartbeats 4000000 in
set_option maxRecDepth 100000 in
theorem mc_comeIn (l : Launch) (dC : Nat → ClassId) (dI : Nat → Nat → Nat) (ad : Nat → Nat) (cs : Nat → ClassId) (hj : km_inj ad) (μ : km_S) (hw : km_wf μ) (q : Int32) (rank : Int32) (value : Int32) (hq : vp_in q 2) (hmes : ∃ j, j < 4 ∧ mI μ 19 q.toNatClampNeg = nI j) : Met l y_M_comeIn ws_M_comeIn ({ frames := 0, cells := 0, slots := 0, locals := 0 }) (kk_Pc (dC, dI) vwCl (km_t cs) (km_w ad cs μ) [.ref (ad 0), .int q, .int rank, .int value]) (va_Qv (km_pv (mf_comeIn μ q rank value)) (kk_B (dC, dI) vwCl (km_t cs) (km_w ad cs)) (km_A ad)) 0 0 (km_A ad) := by
  refine Met.ofW (cc := b_M_comeIn) (maxL := 5) (ret := none) (by decide) rfl ?_
  intro p e s m args below meth c s₁ B hml hv
  obtain ⟨rfl, hP, hK⟩ := hv
  have hx := B.exec
  have hb := B.bytes
  have hr := B.returns
  have hts := atoms_spec (ws := ws_M_comeIn) B.pre
  have hown : s.vm.findClass R_M = some m.cls := findClass_of_methodNamed B.named
  have hlocks := B.notSynchronized
  have hS : va_S (km_A ad) s.heap s.heap [] := va_S.rf
  generalize hf : mf_comeIn μ q rank value = out
  have hl := lv_entry ([.ref (ad 0), .int q, .int rank, .int value]) (n := 5) (Nat.le_of_ble_eq_true rfl)
  rw [lg_entry_eq]
  generalize (lg_sl ([.ref (ad 0), .int q, .int rank, .int value]) ++ List.replicate (5 - (lg_sl ([.ref (ad 0), .int q, .int rank, .int value])).length) Slot.unset).toArray = ls at hl ⊢
  have hl : lv_has ls 5 [(0, .ref (ad 0)), (1, .int q), (2, .int rank), (3, .int value)] := hl
  rw [mf_comeIn] at hf
  have hq9 : vp_in q 2 := hq
  rcases Classical.em (q = 0) with c_q | c_q
  · rw [if_pos c_q] at hf
    subst c_q
    rw [kk_c0] at hmes
    rcases Classical.em ((mI μ 19 0) = 0) with z_0 | z_0
    · rw [if_pos z_0] at hf
      refine lv_iload_n hx hb dM_comeIn_0 rfl (lv_at hl 1 rfl) ?_
      refine lv_iconst (v := 4) hx hb dM_comeIn_1 (by decide) ?_
      refine lv_imul hx hb dM_comeIn_2 ?_
      refine lv_topi (fun z9 e9 => ?_)
      obtain rfl : z9 = 0 := e9.trans (by decide)
      refine lv_aload_n hx hb dM_comeIn_3 rfl (lv_at hl 0 rfl) ?_
      refine va_get (D := (dC, dI)) (ci := 3) (v := .ref (ad 16)) (C := R_M) (T := T_M) (N := 23) hx hb hts uw_M hown hK hP 0 rfl rfl 19 (by decide) (hts _ (List.mem_cons_of_mem _ wd_350)) (fun _ h9 => h9) rfl dM_comeIn_4 ?_
      refine lv_iload_n hx hb dM_comeIn_7 rfl (lv_at hl 1 rfl) ?_
      refine va_iald hx hb hK hP 16 15 rfl rfl (kk_inl (by decide)) dM_comeIn_8 ?_
      rw [kk_c0]
      rw [show mI μ 19 0 = 0 from (show (mI μ 19 0) = _ from rfl).trans z_0]
      refine lv_iadd hx hb dM_comeIn_9 ?_
      refine lv_topi (fun z9 e9 => ?_)
      obtain rfl : z9 = 0 := e9.trans (by decide)
      refine lv_istore (lv' := [(4, .int 0), (0, .ref (ad 0)), (1, .int 0), (2, .int rank), (3, .int value)]) hx hb dM_comeIn_10 hl (by decide) rfl (fun ls hl => ?_)
      refine lv_iload hx hb dM_comeIn_12 (lv_at hl 0 rfl) ?_
      refine lv_iload_n hx hb dM_comeIn_14 rfl (lv_at hl 2 rfl) ?_
      refine lv_iconst (v := 4) hx hb dM_comeIn_15 (by decide) ?_
      refine lv_imul hx hb dM_comeIn_16 ?_
      refine lv_topi (fun z9 e9 => ?_)
      obtain rfl : z9 = 0 := e9.trans (by decide)
      refine lv_icmp_le (tgt := 71) hx hb dM_comeIn_17 (by decide) (fun _ => ?_) (fun c9 => absurd (by decide) c9)
      refine lv_aload_n hx hb dM_comeIn_71 rfl (lv_at hl 1 rfl) ?_
      refine va_get (D := (dC, dI)) (ci := 3) (v := .ref (ad 17)) (C := R_M) (T := T_M) (N := 23) hx hb hts uw_M hown hK hP 0 rfl rfl 20 (by decide) (hts _ (List.mem_cons_of_mem _ wd_351)) (fun _ h9 => h9) rfl dM_comeIn_72 ?_
      refine lv_iload hx hb dM_comeIn_75 (lv_at hl 0 rfl) ?_
      refine lv_iload_n hx hb dM_comeIn_77 rfl (lv_at hl 3 rfl) ?_
      refine va_iast hx hb hK hP (km_D hj) hS 17 16 rfl rfl (kk_inl (by decide)) dM_comeIn_78 (fun H locs hP _ hS => ?_)
      rw [kk_c0] at hP
      replace hP := km_u_messageRank hP
      replace hw := km_wf_I (f := 20) (i := 0) (v := rank) hw (by decide)
      refine lv_aload_n hx hb dM_comeIn_79 rfl (lv_at hl 1 rfl) ?_
      refine va_get (D := (dC, dI)) (ci := 3) (v := .ref (ad 18)) (C := R_M) (T := T_M) (N := 23) hx hb hts uw_M hown hK hP 0 rfl rfl 21 (by decide) (hts _ (List.mem_cons_of_mem _ wd_352)) (fun _ h9 => h9) rfl dM_comeIn_80 ?_
      refine lv_iload hx hb dM_comeIn_83 (lv_at hl 0 rfl) ?_
      refine lv_iload_n hx hb dM_comeIn_85 rfl (lv_at hl 4 rfl) ?_
      refine va_iast hx hb hK hP (km_D hj) hS 18 17 rfl rfl (kk_inl (by decide)) dM_comeIn_86 (fun H locs hP _ hS => ?_)
      rw [kk_c0] at hP
      replace hP := km_u_messageValue hP
      replace hw := km_wf_I (f := 21) (i := 0) (v := value) hw (by decide)
      refine lv_aload_n hx hb dM_comeIn_87 rfl (lv_at hl 1 rfl) ?_
      refine va_get (D := (dC, dI)) (ci := 3) (v := .ref (ad 16)) (C := R_M) (T := T_M) (N := 23) hx hb hts uw_M hown hK hP 0 rfl rfl 19 (by decide) (hts _ (List.mem_cons_of_mem _ wd_350)) (fun _ h9 => h9) rfl dM_comeIn_88 ?_
      refine lv_iload_n hx hb dM_comeIn_91 rfl (lv_at hl 2 rfl) ?_
      refine lv_dup2_11 hx hb dM_comeIn_92 rfl rfl ?_
      refine va_iald hx hb hK hP 16 15 rfl rfl (kk_inl (by decide)) dM_comeIn_93 ?_
      rw [kk_c0]
      refine lv_iconst (v := 1) hx hb dM_comeIn_94 (by decide) ?_
      refine lv_iadd hx hb dM_comeIn_95 ?_
      refine va_iast hx hb hK hP (km_D hj) hS 16 15 rfl rfl (kk_inl (by decide)) dM_comeIn_96 (fun H locs hP _ hS => ?_)
      rw [kk_c0] at hP
      replace hP := km_u_messages hP
      replace hw : km_wf (sM (sM (sM μ 20 0 rank) 21 0 value) 19 0 ((mI (sM (sM μ 20 0 rank) 21 0 value) 19 0) + 1)) := km_wf_q (v := mI (sM (sM μ 20 0 rank) 21 0 value) 19 0 + 1) hw ⟨1, by decide, by rw [show mI (sM (sM μ 20 0 rank) 21 0 value) 19 0 = mI μ 19 0 from rfl, z_0]; decide⟩
      exact kk_vret hx hb hr hlocks hP hK hS ⟨hf.symm, hw⟩ dM_comeIn_97
    · rw [if_neg z_0] at hf
      rcases Classical.em ((mI μ 19 0) = 1) with z_1 | z_1
      · rw [if_pos z_1] at hf
        refine lv_iload_n hx hb dM_comeIn_0 rfl (lv_at hl 1 rfl) ?_
        refine lv_iconst (v := 4) hx hb dM_comeIn_1 (by decide) ?_
        refine lv_imul hx hb dM_comeIn_2 ?_
        refine lv_topi (fun z9 e9 => ?_)
        obtain rfl : z9 = 0 := e9.trans (by decide)
        refine lv_aload_n hx hb dM_comeIn_3 rfl (lv_at hl 0 rfl) ?_
        refine va_get (D := (dC, dI)) (ci := 3) (v := .ref (ad 16)) (C := R_M) (T := T_M) (N := 23) hx hb hts uw_M hown hK hP 0 rfl rfl 19 (by decide) (hts _ (List.mem_cons_of_mem _ wd_350)) (fun _ h9 => h9) rfl dM_comeIn_4 ?_
        refine lv_iload_n hx hb dM_comeIn_7 rfl (lv_at hl 1 rfl) ?_
        refine va_iald hx hb hK hP 16 15 rfl rfl (kk_inl (by decide)) dM_comeIn_8 ?_
        rw [kk_c0]
        rw [show mI μ 19 0 = 1 from (show (mI μ 19 0) = _ from rfl).trans z_1]
        refine lv_iadd hx hb dM_comeIn_9 ?_
        refine lv_topi (fun z9 e9 => ?_)
        obtain rfl : z9 = 1 := e9.trans (by decide)
        refine lv_istore (lv' := [(4, .int 1), (0, .ref (ad 0)), (1, .int 0), (2, .int rank), (3, .int value)]) hx hb dM_comeIn_10 hl (by decide) rfl (fun ls hl => ?_)
        refine lv_iload hx hb dM_comeIn_12 (lv_at hl 0 rfl) ?_
        refine lv_iload_n hx hb dM_comeIn_14 rfl (lv_at hl 2 rfl) ?_
        refine lv_iconst (v := 4) hx hb dM_comeIn_15 (by decide) ?_
        refine lv_imul hx hb dM_comeIn_16 ?_
        refine lv_topi (fun z9 e9 => ?_)
        obtain rfl : z9 = 0 := e9.trans (by decide)
        refine lv_icmp_le (tgt := 71) hx hb dM_comeIn_17 (by decide) (fun c9 => absurd c9 (by decide)) (fun _ => ?_)
        refine lv_aload_n hx hb dM_comeIn_20 rfl (lv_at hl 1 rfl) ?_
        refine va_get (D := (dC, dI)) (ci := 3) (v := .ref (ad 17)) (C := R_M) (T := T_M) (N := 23) hx hb hts uw_M hown hK hP 0 rfl rfl 20 (by decide) (hts _ (List.mem_cons_of_mem _ wd_351)) (fun _ h9 => h9) rfl dM_comeIn_21 ?_
        refine lv_iload hx hb dM_comeIn_24 (lv_at hl 0 rfl) ?_
        refine lv_iconst (v := 1) hx hb dM_comeIn_26 (by decide) ?_
        refine lv_isub hx hb dM_comeIn_27 ?_
        refine lv_topi (fun z9 e9 => ?_)
        obtain rfl : z9 = 0 := e9.trans (by decide)
        refine va_iald hx hb hK hP 17 16 rfl rfl (kk_inl (by decide)) dM_comeIn_28 ?_
        rw [kk_c0]
        refine lv_iload_n hx hb dM_comeIn_29 rfl (lv_at hl 3 rfl) ?_
        refine lv_icmp_ge (tgt := 71) hx hb dM_comeIn_30 (by decide) (fun c_30 => ?_) (fun c_30 => ?_)
        · rw [if_pos c_30] at hf
          refine lv_aload_n hx hb dM_comeIn_71 rfl (lv_at hl 1 rfl) ?_
          refine va_get (D := (dC, dI)) (ci := 3) (v := .ref (ad 17)) (C := R_M) (T := T_M) (N := 23) hx hb hts uw_M hown hK hP 0 rfl rfl 20 (by decide) (hts _ (List.mem_cons_of_mem _ wd_351)) (fun _ h9 => h9) rfl dM_comeIn_72 ?_
          refine lv_iload hx hb dM_comeIn_75 (lv_at hl 0 rfl) ?_
          refine lv_iload_n hx hb dM_comeIn_77 rfl (lv_at hl 3 rfl) ?_
          refine va_iast hx hb hK hP (km_D hj) hS 17 16 rfl rfl (kk_inl (by decide)) dM_comeIn_78 (fun H locs hP _ hS => ?_)
          rw [kk_c1] at hP
          replace hP := km_u_messageRank hP
          replace hw := km_wf_I (f := 20) (i := 1) (v := rank) hw (by decide)
          refine lv_aload_n hx hb dM_comeIn_79 rfl (lv_at hl 1 rfl) ?_
          refine va_get (D := (dC, dI)) (ci := 3) (v := .ref (ad 18)) (C := R_M) (T := T_M) (N := 23) hx hb hts uw_M hown hK hP 0 rfl rfl 21 (by decide) (hts _ (List.mem_cons_of_mem _ wd_352)) (fun _ h9 => h9) rfl dM_comeIn_80 ?_
          refine lv_iload hx hb dM_comeIn_83 (lv_at hl 0 rfl) ?_
          refine lv_iload_n hx hb dM_comeIn_85 rfl (lv_at hl 4 rfl) ?_
          refine va_iast hx hb hK hP (km_D hj) hS 18 17 rfl rfl (kk_inl (by decide)) dM_comeIn_86 (fun H locs hP _ hS => ?_)
          rw [kk_c1] at hP
          replace hP := km_u_messageValue hP
          replace hw := km_wf_I (f := 21) (i := 1) (v := value) hw (by decide)
          refine lv_aload_n hx hb dM_comeIn_87 rfl (lv_at hl 1 rfl) ?_
          refine va_get (D := (dC, dI)) (ci := 3) (v := .ref (ad 16)) (C := R_M) (T := T_M) (N := 23) hx hb hts uw_M hown hK hP 0 rfl rfl 19 (by decide) (hts _ (List.mem_cons_of_mem _ wd_350)) (fun _ h9 => h9) rfl dM_comeIn_88 ?_
          refine lv_iload_n hx hb dM_comeIn_91 rfl (lv_at hl 2 rfl) ?_
          refine lv_dup2_11 hx hb dM_comeIn_92 rfl rfl ?_
          refine va_iald hx hb hK hP 16 15 rfl rfl (kk_inl (by decide)) dM_comeIn_93 ?_
          rw [kk_c0]
          refine lv_iconst (v := 1) hx hb dM_comeIn_94 (by decide) ?_
          refine lv_iadd hx hb dM_comeIn_95 ?_
          refine va_iast hx hb hK hP (km_D hj) hS 16 15 rfl rfl (kk_inl (by decide)) dM_comeIn_96 (fun H locs hP _ hS => ?_)
          rw [kk_c0] at hP
          replace hP := km_u_messages hP
          replace hw : km_wf (sM (sM (sM μ 20 1 rank) 21 1 value) 19 0 ((mI (sM (sM μ 20 1 rank) 21 1 value) 19 0) + 1)) := km_wf_q (v := mI (sM (sM μ 20 1 rank) 21 1 value) 19 0 + 1) hw ⟨2, by decide, by rw [show mI (sM (sM μ 20 1 rank) 21 1 value) 19 0 = mI μ 19 0 from rfl, z_1]; decide⟩
          exact kk_vret hx hb hr hlocks hP hK hS ⟨hf.symm, hw⟩ dM_comeIn_97
        · rw [if_neg c_30] at hf
          refine lv_aload_n hx hb dM_comeIn_33 rfl (lv_at hl 1 rfl) ?_
          refine va_get (D := (dC, dI)) (ci := 3) (v := .ref (ad 17)) (C := R_M) (T := T_M) (N := 23) hx hb hts uw_M hown hK hP 0 rfl rfl 20 (by decide) (hts _ (List.mem_cons_of_mem _ wd_351)) (fun _ h9 => h9) rfl dM_comeIn_34 ?_
          refine lv_iload hx hb dM_comeIn_37 (lv_at hl 0 rfl) ?_
          refine lv_aload_n hx hb dM_comeIn_39 rfl (lv_at hl 1 rfl) ?_
          refine va_get (D := (dC, dI)) (ci := 3) (v := .ref (ad 17)) (C := R_M) (T := T_M) (N := 23) hx hb hts uw_M hown hK hP 0 rfl rfl 20 (by decide) (hts _ (List.mem_cons_of_mem _ wd_351)) (fun _ h9 => h9) rfl dM_comeIn_40 ?_
          refine lv_iload hx hb dM_comeIn_43 (lv_at hl 0 rfl) ?_
          refine lv_iconst (v := 1) hx hb dM_comeIn_45 (by decide) ?_
          refine lv_isub hx hb dM_comeIn_46 ?_
          refine lv_topi (fun z9 e9 => ?_)
          obtain rfl : z9 = 0 := e9.trans (by decide)
          refine va_iald hx hb hK hP 17 16 rfl rfl (kk_inl (by decide)) dM_comeIn_47 ?_
          rw [kk_c0]
          refine va_iast hx hb hK hP (km_D hj) hS 17 16 rfl rfl (kk_inl (by decide)) dM_comeIn_48 (fun H locs hP _ hS => ?_)
          rw [kk_c1] at hP
          replace hP := km_u_messageRank hP
          replace hw := km_wf_I (f := 20) (i := 1) (v := mI μ 20 0) hw (by decide)
          refine lv_aload_n hx hb dM_comeIn_49 rfl (lv_at hl 1 rfl) ?_
          refine va_get (D := (dC, dI)) (ci := 3) (v := .ref (ad 18)) (C := R_M) (T := T_M) (N := 23) hx hb hts uw_M hown hK hP 0 rfl rfl 21 (by decide) (hts _ (List.mem_cons_of_mem _ wd_352)) (fun _ h9 => h9) rfl dM_comeIn_50 ?_
          refine lv_iload hx hb dM_comeIn_53 (lv_at hl 0 rfl) ?_
          refine lv_aload_n hx hb dM_comeIn_55 rfl (lv_at hl 1 rfl) ?_
          refine va_get (D := (dC, dI)) (ci := 3) (v := .ref (ad 18)) (C := R_M) (T := T_M) (N := 23) hx hb hts uw_M hown hK hP 0 rfl rfl 21 (by decide) (hts _ (List.mem_cons_of_mem _ wd_352)) (fun _ h9 => h9) rfl dM_comeIn_56 ?_
          refine lv_iload hx hb dM_comeIn_59 (lv_at hl 0 rfl) ?_
          refine lv_iconst (v := 1) hx hb dM_comeIn_61 (by decide) ?_
          refine lv_isub hx hb dM_comeIn_62 ?_
          refine lv_topi (fun z9 e9 => ?_)
          obtain rfl : z9 = 0 := e9.trans (by decide)
          refine va_iald hx hb hK hP 18 17 rfl rfl (kk_inl (by decide)) dM_comeIn_63 ?_
          rw [kk_c0]
          refine va_iast hx hb hK hP (km_D hj) hS 18 17 rfl rfl (kk_inl (by decide)) dM_comeIn_64 (fun H locs hP _ hS => ?_)
          rw [kk_c1] at hP
          replace hP := km_u_messageValue hP
          replace hw := km_wf_I (f := 21) (i := 1) (v := mI (sM μ 20 1 (mI μ 20 0)) 21 0) hw (by decide)
          refine lv_iinc (v := 0) (lv' := [(4, .int 0), (0, .ref (ad 0)), (1, .int 0), (2, .int rank), (3, .int value)]) hx hb dM_comeIn_65 hl (k := 0) rfl (by decide) (by decide) rfl (fun ls hl => ?_)
          refine lv_goto (tgt := 12) hx hb dM_comeIn_68 (by decide) ?_
          refine lv_iload hx hb dM_comeIn_12 (lv_at hl 0 rfl) ?_
          refine lv_iload_n hx hb dM_comeIn_14 rfl (lv_at hl 2 rfl) ?_
          refine lv_iconst (v := 4) hx hb dM_comeIn_15 (by decide) ?_
          refine lv_imul hx hb dM_comeIn_16 ?_
          refine lv_topi (fun z9 e9 => ?_)
          obtain rfl : z9 = 0 := e9.trans (by decide)
          refine lv_icmp_le (tgt := 71) hx hb dM_comeIn_17 (by decide) (fun _ => ?_) (fun c9 => absurd (by decide) c9)
          refine lv_aload_n hx hb dM_comeIn_71 rfl (lv_at hl 1 rfl) ?_
          refine va_get (D := (dC, dI)) (ci := 3) (v := .ref (ad 17)) (C := R_M) (T := T_M) (N := 23) hx hb hts uw_M hown hK hP 0 rfl rfl 20 (by decide) (hts _ (List.mem_cons_of_mem _ wd_351)) (fun _ h9 => h9) rfl dM_comeIn_72 ?_
          refine lv_iload hx hb dM_comeIn_75 (lv_at hl 0 rfl) ?_
          refine lv_iload_n hx hb dM_comeIn_77 rfl (lv_at hl 3 rfl) ?_
          refine va_iast hx hb hK hP (km_D hj) hS 17 16 rfl rfl (kk_inl (by decide)) dM_comeIn_78 (fun H locs hP _ hS => ?_)
          rw [kk_c0] at hP
          replace hP := km_u_messageRank hP
          replace hw := km_wf_I (f := 20) (i := 0) (v := rank) hw (by decide)
          refine lv_aload_n hx hb dM_comeIn_79 rfl (lv_at hl 1 rfl) ?_
          refine va_get (D := (dC, dI)) (ci := 3) (v := .ref (ad 18)) (C := R_M) (T := T_M) (N := 23) hx hb hts uw_M hown hK hP 0 rfl rfl 21 (by decide) (hts _ (List.mem_cons_of_mem _ wd_352)) (fun _ h9 => h9) rfl dM_comeIn_80 ?_
          refine lv_iload hx hb dM_comeIn_83 (lv_at hl 0 rfl) ?_
          refine lv_iload_n hx hb dM_comeIn_85 rfl (lv_at hl 4 rfl) ?_
          refine va_iast hx hb hK hP (km_D hj) hS 18 17 rfl rfl (kk_inl (by decide)) dM_comeIn_86 (fun H locs hP _ hS => ?_)
          rw [kk_c0] at hP
          replace hP := km_u_messageValue hP
          replace hw := km_wf_I (f := 21) (i := 0) (v := value) hw (by decide)
          refine lv_aload_n hx hb dM_comeIn_87 rfl (lv_at hl 1 rfl) ?_
          refine va_get (D := (dC, dI)) (ci := 3) (v := .ref (ad 16)) (C := R_M) (T := T_M) (N := 23) hx hb hts uw_M hown hK hP 0 rfl rfl 19 (by decide) (hts _ (List.mem_cons_of_mem _ wd_350)) (fun _ h9 => h9) rfl dM_comeIn_88 ?_
          refine lv_iload_n hx hb dM_comeIn_91 rfl (lv_at hl 2 rfl) ?_
          refine lv_dup2_11 hx hb dM_comeIn_92 rfl rfl ?_
          refine va_iald hx hb hK hP 16 15 rfl rfl (kk_inl (by decide)) dM_comeIn_93 ?_
          rw [kk_c0]
          refine lv_iconst (v := 1) hx hb dM_comeIn_94 (by decide) ?_
          refine lv_iadd hx hb dM_comeIn_95 ?_
          refine va_iast hx hb hK hP (km_D hj) hS 16 15 rfl rfl (kk_inl (by decide)) dM_comeIn_96 (fun H locs hP _ hS => ?_)
          rw [kk_c0] at hP
          replace hP := km_u_messages hP
          replace hw : km_wf (sM (sM (sM (sM (sM μ 20 1 (mI μ 20 0)) 21 1 (mI (sM μ 20 1 (mI μ 20 0)) 21 0)) 20 0 rank) 21 0 value) 19 0 ((mI (sM (sM (sM (sM μ 20 1 (mI μ 20 0)) 21 1 (mI (sM μ 20 1 (mI μ 20 0)) 21 0)) 20 0 rank) 21 0 value) 19 0) + 1)) := km_wf_q (v := mI (sM (sM (sM (sM μ 20 1 (mI μ 20 0)) 21 1 (mI (sM μ 20 1 (mI μ 20 0)) 21 0)) 20 0 rank) 21 0 value) 19 0 + 1) hw ⟨2, by decide, by rw [show mI (sM (sM (sM (sM μ 20 1 (mI μ 20 0)) 21 1 (mI (sM μ 20 1 (mI μ 20 0)) 21 0)) 20 0 rank) 21 0 value) 19 0 = mI μ 19 0 from rfl, z_1]; decide⟩
          exact kk_vret hx hb hr hlocks hP hK hS ⟨hf.symm, hw⟩ dM_comeIn_97
      · rw [if_neg z_1] at hf
        rcases Classical.em ((mI μ 19 0) = 2) with z_2 | z_2
        · rw [if_pos z_2] at hf
          refine lv_iload_n hx hb dM_comeIn_0 rfl (lv_at hl 1 rfl) ?_
          refine lv_iconst (v := 4) hx hb dM_comeIn_1 (by decide) ?_
          refine lv_imul hx hb dM_comeIn_2 ?_
          refine lv_topi (fun z9 e9 => ?_)
          obtain rfl : z9 = 0 := e9.trans (by decide)
          refine lv_aload_n hx hb dM_comeIn_3 rfl (lv_at hl 0 rfl) ?_
          refine va_get (D := (dC, dI)) (ci := 3) (v := .ref (ad 16)) (C := R_M) (T := T_M) (N := 23) hx hb hts uw_M hown hK hP 0 rfl rfl 19 (by decide) (hts _ (List.mem_cons_of_mem _ wd_350)) (fun _ h9 => h9) rfl dM_comeIn_4 ?_
          refine lv_iload_n hx hb dM_comeIn_7 rfl (lv_at hl 1 rfl) ?_
          refine va_iald hx hb hK hP 16 15 rfl rfl (kk_inl (by decide)) dM_comeIn_8 ?_
          rw [kk_c0]
          rw [show mI μ 19 0 = 2 from (show (mI μ 19 0) = _ from rfl).trans z_2]
          refine lv_iadd hx hb dM_comeIn_9 ?_
          refine lv_topi (fun z9 e9 => ?_)
          obtain rfl : z9 = 2 := e9.trans (by decide)
          refine lv_istore (lv' := [(4, .int 2), (0, .ref (ad 0)), (1, .int 0), (2, .int rank), (3, .int value)]) hx hb dM_comeIn_10 hl (by decide) rfl (fun ls hl => ?_)
          refine lv_iload hx hb dM_comeIn_12 (lv_at hl 0 rfl) ?_
          refine lv_iload_n hx hb dM_comeIn_14 rfl (lv_at hl 2 rfl) ?_
          refine lv_iconst (v := 4) hx hb dM_comeIn_15 (by decide) ?_
          refine lv_imul hx hb dM_comeIn_16 ?_
          refine lv_topi (fun z9 e9 => ?_)
          obtain rfl : z9 = 0 := e9.trans (by decide)
          refine lv_icmp_le (tgt := 71) hx hb dM_comeIn_17 (by decide) (fun c9 => absurd c9 (by decide)) (fun _ => ?_)
          refine lv_aload_n hx hb dM_comeIn_20 rfl (lv_at hl 1 rfl) ?_
          refine va_get (D := (dC, dI)) (ci := 3) (v := .ref (ad 17)) (C := R_M) (T := T_M) (N := 23) hx hb hts uw_M hown hK hP 0 rfl rfl 20 (by decide) (hts _ (List.mem_cons_of_mem _ wd_351)) (fun _ h9 => h9) rfl dM_comeIn_21 ?_
          refine lv_iload hx hb dM_comeIn_24 (lv_at hl 0 rfl) ?_
          refine lv_iconst (v := 1) hx hb dM_comeIn_26 (by decide) ?_
          refine lv_isub hx hb dM_comeIn_27 ?_
          refine lv_topi (fun z9 e9 => ?_)
          obtain rfl : z9 = 1 := e9.trans (by decide)
          refine va_iald hx hb hK hP 17 16 rfl rfl (kk_inl (by decide)) dM_comeIn_28 ?_
          rw [kk_c1]
          refine lv_iload_n hx hb dM_comeIn_29 rfl (lv_at hl 3 rfl) ?_
          refine lv_icmp_ge (tgt := 71) hx hb dM_comeIn_30 (by decide) (fun c_30 => ?_) (fun c_30 => ?_)
          · rw [if_pos c_30] at hf
            refine lv_aload_n hx hb dM_comeIn_71 rfl (lv_at hl 1 rfl) ?_
            refine va_get (D := (dC, dI)) (ci := 3) (v := .ref (ad 17)) (C := R_M) (T := T_M) (N := 23) hx hb hts uw_M hown hK hP 0 rfl rfl 20 (by decide) (hts _ (List.mem_cons_of_mem _ wd_351)) (fun _ h9 => h9) rfl dM_comeIn_72 ?_
            refine lv_iload hx hb dM_comeIn_75 (lv_at hl 0 rfl) ?_
            refine lv_iload_n hx hb dM_comeIn_77 rfl (lv_at hl 3 rfl) ?_
            refine va_iast hx hb hK hP (km_D hj) hS 17 16 rfl rfl (kk_inl (by decide)) dM_comeIn_78 (fun H locs hP _ hS => ?_)
            rw [kk_c2] at hP
            replace hP := km_u_messageRank hP
            replace hw := km_wf_I (f := 20) (i := 2) (v := rank) hw (by decide)
            refine lv_aload_n hx hb dM_comeIn_79 rfl (lv_at hl 1 rfl) ?_
            refine va_get (D := (dC, dI)) (ci := 3) (v := .ref (ad 18)) (C := R_M) (T := T_M) (N := 23) hx hb hts uw_M hown hK hP 0 rfl rfl 21 (by decide) (hts _ (List.mem_cons_of_mem _ wd_352)) (fun _ h9 => h9) rfl dM_comeIn_80 ?_
            refine lv_iload hx hb dM_comeIn_83 (lv_at hl 0 rfl) ?_
            refine lv_iload_n hx hb dM_comeIn_85 rfl (lv_at hl 4 rfl) ?_
            refine va_iast hx hb hK hP (km_D hj) hS 18 17 rfl rfl (kk_inl (by decide)) dM_comeIn_86 (fun H locs hP _ hS => ?_)
            rw [kk_c2] at hP
            replace hP := km_u_messageValue hP
            replace hw := km_wf_I (f := 21) (i := 2) (v := value) hw (by decide)
            refine lv_aload_n hx hb dM_comeIn_87 rfl (lv_at hl 1 rfl) ?_
            refine va_get (D := (dC, dI)) (ci := 3) (v := .ref (ad 16)) (C := R_M) (T := T_M) (N := 23) hx hb hts uw_M hown hK hP 0 rfl rfl 19 (by decide) (hts _ (List.mem_cons_of_mem _ wd_350)) (fun _ h9 => h9) rfl dM_comeIn_88 ?_
            refine lv_iload_n hx hb dM_comeIn_91 rfl (lv_at hl 2 rfl) ?_
            refine lv_dup2_11 hx hb dM_comeIn_92 rfl rfl ?_
            refine va_iald hx hb hK hP 16 15 rfl rfl (kk_inl (by decide)) dM_comeIn_93 ?_
            rw [kk_c0]
            refine lv_iconst (v := 1) hx hb dM_comeIn_94 (by decide) ?_
            refine lv_iadd hx hb dM_comeIn_95 ?_
            refine va_iast hx hb hK hP (km_D hj) hS 16 15 rfl rfl (kk_inl (by decide)) dM_comeIn_96 (fun H locs hP _ hS => ?_)
            rw [kk_c0] at hP
            replace hP := km_u_messages hP
            replace hw : km_wf (sM (sM (sM μ 20 2 rank) 21 2 value) 19 0 ((mI (sM (sM μ 20 2 rank) 21 2 value) 19 0) + 1)) := km_wf_q (v := mI (sM (sM μ 20 2 rank) 21 2 value) 19 0 + 1) hw ⟨3, by decide, by rw [show mI (sM (sM μ 20 2 rank) 21 2 value) 19 0 = mI μ 19 0 from rfl, z_2]; decide⟩
            exact kk_vret hx hb hr hlocks hP hK hS ⟨hf.symm, hw⟩ dM_comeIn_97
          · rw [if_neg c_30] at hf
            refine lv_aload_n hx hb dM_comeIn_33 rfl (lv_at hl 1 rfl) ?_
            refine va_get (D := (dC, dI)) (ci := 3) (v := .ref (ad 17)) (C := R_M) (T := T_M) (N := 23) hx hb hts uw_M hown hK hP 0 rfl rfl 20 (by decide) (hts _ (List.mem_cons_of_mem _ wd_351)) (fun _ h9 => h9) rfl dM_comeIn_34 ?_
            refine lv_iload hx hb dM_comeIn_37 (lv_at hl 0 rfl) ?_
            refine lv_aload_n hx hb dM_comeIn_39 rfl (lv_at hl 1 rfl) ?_
            refine va_get (D := (dC, dI)) (ci := 3) (v := .ref (ad 17)) (C := R_M) (T := T_M) (N := 23) hx hb hts uw_M hown hK hP 0 rfl rfl 20 (by decide) (hts _ (List.mem_cons_of_mem _ wd_351)) (fun _ h9 => h9) rfl dM_comeIn_40 ?_
            refine lv_iload hx hb dM_comeIn_43 (lv_at hl 0 rfl) ?_
            refine lv_iconst (v := 1) hx hb dM_comeIn_45 (by decide) ?_
            refine lv_isub hx hb dM_comeIn_46 ?_
            refine lv_topi (fun z9 e9 => ?_)
            obtain rfl : z9 = 1 := e9.trans (by decide)
            refine va_iald hx hb hK hP 17 16 rfl rfl (kk_inl (by decide)) dM_comeIn_47 ?_
            rw [kk_c1]
            refine va_iast hx hb hK hP (km_D hj) hS 17 16 rfl rfl (kk_inl (by decide)) dM_comeIn_48 (fun H locs hP _ hS => ?_)
            rw [kk_c2] at hP
            replace hP := km_u_messageRank hP
            replace hw := km_wf_I (f := 20) (i := 2) (v := mI μ 20 1) hw (by decide)
            refine lv_aload_n hx hb dM_comeIn_49 rfl (lv_at hl 1 rfl) ?_
            refine va_get (D := (dC, dI)) (ci := 3) (v := .ref (ad 18)) (C := R_M) (T := T_M) (N := 23) hx hb hts uw_M hown hK hP 0 rfl rfl 21 (by decide) (hts _ (List.mem_cons_of_mem _ wd_352)) (fun _ h9 => h9) rfl dM_comeIn_50 ?_
            refine lv_iload hx hb dM_comeIn_53 (lv_at hl 0 rfl) ?_
            refine lv_aload_n hx hb dM_comeIn_55 rfl (lv_at hl 1 rfl) ?_
            refine va_get (D := (dC, dI)) (ci := 3) (v := .ref (ad 18)) (C := R_M) (T := T_M) (N := 23) hx hb hts uw_M hown hK hP 0 rfl rfl 21 (by decide) (hts _ (List.mem_cons_of_mem _ wd_352)) (fun _ h9 => h9) rfl dM_comeIn_56 ?_
            refine lv_iload hx hb dM_comeIn_59 (lv_at hl 0 rfl) ?_
            refine lv_iconst (v := 1) hx hb dM_comeIn_61 (by decide) ?_
            refine lv_isub hx hb dM_comeIn_62 ?_
            refine lv_topi (fun z9 e9 => ?_)
            obtain rfl : z9 = 1 := e9.trans (by decide)
            refine va_iald hx hb hK hP 18 17 rfl rfl (kk_inl (by decide)) dM_comeIn_63 ?_
            rw [kk_c1]
            refine va_iast hx hb hK hP (km_D hj) hS 18 17 rfl rfl (kk_inl (by decide)) dM_comeIn_64 (fun H locs hP _ hS => ?_)
            rw [kk_c2] at hP
            replace hP := km_u_messageValue hP
            replace hw := km_wf_I (f := 21) (i := 2) (v := mI (sM μ 20 2 (mI μ 20 1)) 21 1) hw (by decide)
            refine lv_iinc (v := 1) (lv' := [(4, .int 1), (0, .ref (ad 0)), (1, .int 0), (2, .int rank), (3, .int value)]) hx hb dM_comeIn_65 hl (k := 0) rfl (by decide) (by decide) rfl (fun ls hl => ?_)
            refine lv_goto (tgt := 12) hx hb dM_comeIn_68 (by decide) ?_
            refine lv_iload hx hb dM_comeIn_12 (lv_at hl 0 rfl) ?_
            refine lv_iload_n hx hb dM_comeIn_14 rfl (lv_at hl 2 rfl) ?_
            refine lv_iconst (v := 4) hx hb dM_comeIn_15 (by decide) ?_
            refine lv_imul hx hb dM_comeIn_16 ?_
            refine lv_topi (fun z9 e9 => ?_)
            obtain rfl : z9 = 0 := e9.trans (by decide)
            refine lv_icmp_le (tgt := 71) hx hb dM_comeIn_17 (by decide) (fun c9 => absurd c9 (by decide)) (fun _ => ?_)
            refine lv_aload_n hx hb dM_comeIn_20 rfl (lv_at hl 1 rfl) ?_
            refine va_get (D := (dC, dI)) (ci := 3) (v := .ref (ad 17)) (C := R_M) (T := T_M) (N := 23) hx hb hts uw_M hown hK hP 0 rfl rfl 20 (by decide) (hts _ (List.mem_cons_of_mem _ wd_351)) (fun _ h9 => h9) rfl dM_comeIn_21 ?_
            refine lv_iload hx hb dM_comeIn_24 (lv_at hl 0 rfl) ?_
            refine lv_iconst (v := 1) hx hb dM_comeIn_26 (by decide) ?_
            refine lv_isub hx hb dM_comeIn_27 ?_
            refine lv_topi (fun z9 e9 => ?_)
            obtain rfl : z9 = 0 := e9.trans (by decide)
            refine va_iald hx hb hK hP 17 16 rfl rfl (kk_inl (by decide)) dM_comeIn_28 ?_
            rw [kk_c0]
            refine lv_iload_n hx hb dM_comeIn_29 rfl (lv_at hl 3 rfl) ?_
            refine lv_icmp_ge (tgt := 71) hx hb dM_comeIn_30 (by decide) (fun c_30 => ?_) (fun c_30 => ?_)
            · rw [if_pos c_30] at hf
              refine lv_aload_n hx hb dM_comeIn_71 rfl (lv_at hl 1 rfl) ?_
              refine va_get (D := (dC, dI)) (ci := 3) (v := .ref (ad 17)) (C := R_M) (T := T_M) (N := 23) hx hb hts uw_M hown hK hP 0 rfl rfl 20 (by decide) (hts _ (List.mem_cons_of_mem _ wd_351)) (fun _ h9 => h9) rfl dM_comeIn_72 ?_
              refine lv_iload hx hb dM_comeIn_75 (lv_at hl 0 rfl) ?_
              refine lv_iload_n hx hb dM_comeIn_77 rfl (lv_at hl 3 rfl) ?_
              refine va_iast hx hb hK hP (km_D hj) hS 17 16 rfl rfl (kk_inl (by decide)) dM_comeIn_78 (fun H locs hP _ hS => ?_)
              rw [kk_c1] at hP
              replace hP := km_u_messageRank hP
              replace hw := km_wf_I (f := 20) (i := 1) (v := rank) hw (by decide)
              refine lv_aload_n hx hb dM_comeIn_79 rfl (lv_at hl 1 rfl) ?_
              refine va_get (D := (dC, dI)) (ci := 3) (v := .ref (ad 18)) (C := R_M) (T := T_M) (N := 23) hx hb hts uw_M hown hK hP 0 rfl rfl 21 (by decide) (hts _ (List.mem_cons_of_mem _ wd_352)) (fun _ h9 => h9) rfl dM_comeIn_80 ?_
              refine lv_iload hx hb dM_comeIn_83 (lv_at hl 0 rfl) ?_
              refine lv_iload_n hx hb dM_comeIn_85 rfl (lv_at hl 4 rfl) ?_
              refine va_iast hx hb hK hP (km_D hj) hS 18 17 rfl rfl (kk_inl (by decide)) dM_comeIn_86 (fun H locs hP _ hS => ?_)
              rw [kk_c1] at hP
              replace hP := km_u_messageValue hP
              replace hw := km_wf_I (f := 21) (i := 1) (v := value) hw (by decide)
              refine lv_aload_n hx hb dM_comeIn_87 rfl (lv_at hl 1 rfl) ?_
              refine va_get (D := (dC, dI)) (ci := 3) (v := .ref (ad 16)) (C := R_M) (T := T_M) (N := 23) hx hb hts uw_M hown hK hP 0 rfl rfl 19 (by decide) (hts _ (List.mem_cons_of_mem _ wd_350)) (fun _ h9 => h9) rfl dM_comeIn_88 ?_
              refine lv_iload_n hx hb dM_comeIn_91 rfl (lv_at hl 2 rfl) ?_
              refine lv_dup2_11 hx hb dM_comeIn_92 rfl rfl ?_
              refine va_iald hx hb hK hP 16 15 rfl rfl (kk_inl (by decide)) dM_comeIn_93 ?_
              rw [kk_c0]
              refine lv_iconst (v := 1) hx hb dM_comeIn_94 (by decide) ?_
              refine lv_iadd hx hb dM_comeIn_95 ?_
              refine va_iast hx hb hK hP (km_D hj) hS 16 15 rfl rfl (kk_inl (by decide)) dM_comeIn_96 (fun H locs hP _ hS => ?_)
              rw [kk_c0] at hP
              replace hP := km_u_messages hP
              replace hw : km_wf (sM (sM (sM (sM (sM μ 20 2 (mI μ 20 1)) 21 2 (mI (sM μ 20 2 (mI μ 20 1)) 21 1)) 20 1 rank) 21 1 value) 19 0 ((mI (sM (sM (sM (sM μ 20 2 (mI μ 20 1)) 21 2 (mI (sM μ 20 2 (mI μ 20 1)) 21 1)) 20 1 rank) 21 1 value) 19 0) + 1)) := km_wf_q (v := mI (sM (sM (sM (sM μ 20 2 (mI μ 20 1)) 21 2 (mI (sM μ 20 2 (mI μ 20 1)) 21 1)) 20 1 rank) 21 1 value) 19 0 + 1) hw ⟨3, by decide, by rw [show mI (sM (sM (sM (sM μ 20 2 (mI μ 20 1)) 21 2 (mI (sM μ 20 2 (mI μ 20 1)) 21 1)) 20 1 rank) 21 1 value) 19 0 = mI μ 19 0 from rfl, z_2]; decide⟩
              exact kk_vret hx hb hr hlocks hP hK hS ⟨hf.symm, hw⟩ dM_comeIn_97
            · rw [if_neg c_30] at hf
              refine lv_aload_n hx hb dM_comeIn_33 rfl (lv_at hl 1 rfl) ?_
              refine va_get (D := (dC, dI)) (ci := 3) (v := .ref (ad 17)) (C := R_M) (T := T_M) (N := 23) hx hb hts uw_M hown hK hP 0 rfl rfl 20 (by decide) (hts _ (List.mem_cons_of_mem _ wd_351)) (fun _ h9 => h9) rfl dM_comeIn_34 ?_
              refine lv_iload hx hb dM_comeIn_37 (lv_at hl 0 rfl) ?_
              refine lv_aload_n hx hb dM_comeIn_39 rfl (lv_at hl 1 rfl) ?_
              refine va_get (D := (dC, dI)) (ci := 3) (v := .ref (ad 17)) (C := R_M) (T := T_M) (N := 23) hx hb hts uw_M hown hK hP 0 rfl rfl 20 (by decide) (hts _ (List.mem_cons_of_mem _ wd_351)) (fun _ h9 => h9) rfl dM_comeIn_40 ?_
              refine lv_iload hx hb dM_comeIn_43 (lv_at hl 0 rfl) ?_
              refine lv_iconst (v := 1) hx hb dM_comeIn_45 (by decide) ?_
              refine lv_isub hx hb dM_comeIn_46 ?_
              refine lv_topi (fun z9 e9 => ?_)
              obtain rfl : z9 = 0 := e9.trans (by decide)
              refine va_iald hx hb hK hP 17 16 rfl rfl (kk_inl (by decide)) dM_comeIn_47 ?_
              rw [kk_c0]
              refine va_iast hx hb hK hP (km_D hj) hS 17 16 rfl rfl (kk_inl (by decide)) dM_comeIn_48 (fun H locs hP _ hS => ?_)
              rw [kk_c1] at hP
              replace hP := km_u_messageRank hP
              replace hw := km_wf_I (f := 20) (i := 1) (v := mI (sM (sM μ 20 2 (mI μ 20 1)) 21 2 (mI (sM μ 20 2 (mI μ 20 1)) 21 1)) 20 0) hw (by decide)
              refine lv_aload_n hx hb dM_comeIn_49 rfl (lv_at hl 1 rfl) ?_
              refine va_get (D := (dC, dI)) (ci := 3) (v := .ref (ad 18)) (C := R_M) (T := T_M) (N := 23) hx hb hts uw_M hown hK hP 0 rfl rfl 21 (by decide) (hts _ (List.mem_cons_of_mem _ wd_352)) (fun _ h9 => h9) rfl dM_comeIn_50 ?_
              refine lv_iload hx hb dM_comeIn_53 (lv_at hl 0 rfl) ?_
              refine lv_aload_n hx hb dM_comeIn_55 rfl (lv_at hl 1 rfl) ?_
              refine va_get (D := (dC, dI)) (ci := 3) (v := .ref (ad 18)) (C := R_M) (T := T_M) (N := 23) hx hb hts uw_M hown hK hP 0 rfl rfl 21 (by decide) (hts _ (List.mem_cons_of_mem _ wd_352)) (fun _ h9 => h9) rfl dM_comeIn_56 ?_
              refine lv_iload hx hb dM_comeIn_59 (lv_at hl 0 rfl) ?_
              refine lv_iconst (v := 1) hx hb dM_comeIn_61 (by decide) ?_
              refine lv_isub hx hb dM_comeIn_62 ?_
              refine lv_topi (fun z9 e9 => ?_)
              obtain rfl : z9 = 0 := e9.trans (by decide)
              refine va_iald hx hb hK hP 18 17 rfl rfl (kk_inl (by decide)) dM_comeIn_63 ?_
              rw [kk_c0]
              refine va_iast hx hb hK hP (km_D hj) hS 18 17 rfl rfl (kk_inl (by decide)) dM_comeIn_64 (fun H locs hP _ hS => ?_)
              rw [kk_c1] at hP
              replace hP := km_u_messageValue hP
              replace hw := km_wf_I (f := 21) (i := 1) (v := mI (sM (sM (sM μ 20 2 (mI μ 20 1)) 21 2 (mI (sM μ 20 2 (mI μ 20 1)) 21 1)) 20 1 (mI (sM (sM μ 20 2 (mI μ 20 1)) 21 2 (mI (sM μ 20 2 (mI μ 20 1)) 21 1)) 20 0)) 21 0) hw (by decide)
              refine lv_iinc (v := 0) (lv' := [(4, .int 0), (0, .ref (ad 0)), (1, .int 0), (2, .int rank), (3, .int value)]) hx hb dM_comeIn_65 hl (k := 0) rfl (by decide) (by decide) rfl (fun ls hl => ?_)
              refine lv_goto (tgt := 12) hx hb dM_comeIn_68 (by decide) ?_
              refine lv_iload hx hb dM_comeIn_12 (lv_at hl 0 rfl) ?_
              refine lv_iload_n hx hb dM_comeIn_14 rfl (lv_at hl 2 rfl) ?_
              refine lv_iconst (v := 4) hx hb dM_comeIn_15 (by decide) ?_
              refine lv_imul hx hb dM_comeIn_16 ?_
              refine lv_topi (fun z9 e9 => ?_)
              obtain rfl : z9 = 0 := e9.trans (by decide)
              refine lv_icmp_le (tgt := 71) hx hb dM_comeIn_17 (by decide) (fun _ => ?_) (fun c9 => absurd (by decide) c9)
              refine lv_aload_n hx hb dM_comeIn_71 rfl (lv_at hl 1 rfl) ?_
              refine va_get (D := (dC, dI)) (ci := 3) (v := .ref (ad 17)) (C := R_M) (T := T_M) (N := 23) hx hb hts uw_M hown hK hP 0 rfl rfl 20 (by decide) (hts _ (List.mem_cons_of_mem _ wd_351)) (fun _ h9 => h9) rfl dM_comeIn_72 ?_
              refine lv_iload hx hb dM_comeIn_75 (lv_at hl 0 rfl) ?_
              refine lv_iload_n hx hb dM_comeIn_77 rfl (lv_at hl 3 rfl) ?_
              refine va_iast hx hb hK hP (km_D hj) hS 17 16 rfl rfl (kk_inl (by decide)) dM_comeIn_78 (fun H locs hP _ hS => ?_)
              rw [kk_c0] at hP
              replace hP := km_u_messageRank hP
              replace hw := km_wf_I (f := 20) (i := 0) (v := rank) hw (by decide)
              refine lv_aload_n hx hb dM_comeIn_79 rfl (lv_at hl 1 rfl) ?_
              refine va_get (D := (dC, dI)) (ci := 3) (v := .ref (ad 18)) (C := R_M) (T := T_M) (N := 23) hx hb hts uw_M hown hK hP 0 rfl rfl 21 (by decide) (hts _ (List.mem_cons_of_mem _ wd_352)) (fun _ h9 => h9) rfl dM_comeIn_80 ?_
              refine lv_iload hx hb dM_comeIn_83 (lv_at hl 0 rfl) ?_
              refine lv_iload_n hx hb dM_comeIn_85 rfl (lv_at hl 4 rfl) ?_
              refine va_iast hx hb hK hP (km_D hj) hS 18 17 rfl rfl (kk_inl (by decide)) dM_comeIn_86 (fun H locs hP _ hS => ?_)
              rw [kk_c0] at hP
              replace hP := km_u_messageValue hP
              replace hw := km_wf_I (f := 21) (i := 0) (v := value) hw (by decide)
              refine lv_aload_n hx hb dM_comeIn_87 rfl (lv_at hl 1 rfl) ?_
              refine va_get (D := (dC, dI)) (ci := 3) (v := .ref (ad 16)) (C := R_M) (T := T_M) (N := 23) hx hb hts uw_M hown hK hP 0 rfl rfl 19 (by decide) (hts _ (List.mem_cons_of_mem _ wd_350)) (fun _ h9 => h9) rfl dM_comeIn_88 ?_
              refine lv_iload_n hx hb dM_comeIn_91 rfl (lv_at hl 2 rfl) ?_
              refine lv_dup2_11 hx hb dM_comeIn_92 rfl rfl ?_
              refine va_iald hx hb hK hP 16 15 rfl rfl (kk_inl (by decide)) dM_comeIn_93 ?_
              rw [kk_c0]
              refine lv_iconst (v := 1) hx hb dM_comeIn_94 (by decide) ?_
              refine lv_iadd hx hb dM_comeIn_95 ?_
              refine va_iast hx hb hK hP (km_D hj) hS 16 15 rfl rfl (kk_inl (by decide)) dM_comeIn_96 (fun H locs hP _ hS => ?_)
              rw [kk_c0] at hP
              replace hP := km_u_messages hP
              replace hw : km_wf (sM (sM (sM (sM (sM (sM (sM μ 20 2 (mI μ 20 1)) 21 2 (mI (sM μ 20 2 (mI μ 20 1)) 21 1)) 20 1 (mI (sM (sM μ 20 2 (mI μ 20 1)) 21 2 (mI (sM μ 20 2 (mI μ 20 1)) 21 1)) 20 0)) 21 1 (mI (sM (sM (sM μ 20 2 (mI μ 20 1)) 21 2 (mI (sM μ 20 2 (mI μ 20 1)) 21 1)) 20 1 (mI (sM (sM μ 20 2 (mI μ 20 1)) 21 2 (mI (sM μ 20 2 (mI μ 20 1)) 21 1)) 20 0)) 21 0)) 20 0 rank) 21 0 value) 19 0 ((mI (sM (sM (sM (sM (sM (sM μ 20 2 (mI μ 20 1)) 21 2 (mI (sM μ 20 2 (mI μ 20 1)) 21 1)) 20 1 (mI (sM (sM μ 20 2 (mI μ 20 1)) 21 2 (mI (sM μ 20 2 (mI μ 20 1)) 21 1)) 20 0)) 21 1 (mI (sM (sM (sM μ 20 2 (mI μ 20 1)) 21 2 (mI (sM μ 20 2 (mI μ 20 1)) 21 1)) 20 1 (mI (sM (sM μ 20 2 (mI μ 20 1)) 21 2 (mI (sM μ 20 2 (mI μ 20 1)) 21 1)) 20 0)) 21 0)) 20 0 rank) 21 0 value) 19 0) + 1)) := km_wf_q (v := mI (sM (sM (sM (sM (sM (sM μ 20 2 (mI μ 20 1)) 21 2 (mI (sM μ 20 2 (mI μ 20 1)) 21 1)) 20 1 (mI (sM (sM μ 20 2 (mI μ 20 1)) 21 2 (mI (sM μ 20 2 (mI μ 20 1)) 21 1)) 20 0)) 21 1 (mI (sM (sM (sM μ 20 2 (mI μ 20 1)) 21 2 (mI (sM μ 20 2 (mI μ 20 1)) 21 1)) 20 1 (mI (sM (sM μ 20 2 (mI μ 20 1)) 21 2 (mI (sM μ 20 2 (mI μ 20 1)) 21 1)) 20 0)) 21 0)) 20 0 rank) 21 0 value) 19 0 + 1) hw ⟨3, by decide, by rw [show mI (sM (sM (sM (sM (sM (sM μ 20 2 (mI μ 20 1)) 21 2 (mI (sM μ 20 2 (mI μ 20 1)) 21 1)) 20 1 (mI (sM (sM μ 20 2 (mI μ 20 1)) 21 2 (mI (sM μ 20 2 (mI μ 20 1)) 21 1)) 20 0)) 21 1 (mI (sM (sM (sM μ 20 2 (mI μ 20 1)) 21 2 (mI (sM μ 20 2 (mI μ 20 1)) 21 1)) 20 1 (mI (sM (sM μ 20 2 (mI μ 20 1)) 21 2 (mI (sM μ 20 2 (mI μ 20 1)) 21 1)) 20 0)) 21 0)) 20 0 rank) 21 0 value) 19 0 = mI μ 19 0 from rfl, z_2]; decide⟩
              exact kk_vret hx hb hr hlocks hP hK hS ⟨hf.symm, hw⟩ dM_comeIn_97
        · rw [if_neg z_2] at hf
          have z_3 : (mI μ 19 0) = 3 := km_sz3 (hmes) z_0 z_1 z_2
          refine lv_iload_n hx hb dM_comeIn_0 rfl (lv_at hl 1 rfl) ?_
          refine lv_iconst (v := 4) hx hb dM_comeIn_1 (by decide) ?_
          refine lv_imul hx hb dM_comeIn_2 ?_
          refine lv_topi (fun z9 e9 => ?_)
          obtain rfl : z9 = 0 := e9.trans (by decide)
          refine lv_aload_n hx hb dM_comeIn_3 rfl (lv_at hl 0 rfl) ?_
          refine va_get (D := (dC, dI)) (ci := 3) (v := .ref (ad 16)) (C := R_M) (T := T_M) (N := 23) hx hb hts uw_M hown hK hP 0 rfl rfl 19 (by decide) (hts _ (List.mem_cons_of_mem _ wd_350)) (fun _ h9 => h9) rfl dM_comeIn_4 ?_
          refine lv_iload_n hx hb dM_comeIn_7 rfl (lv_at hl 1 rfl) ?_
          refine va_iald hx hb hK hP 16 15 rfl rfl (kk_inl (by decide)) dM_comeIn_8 ?_
          rw [kk_c0]
          rw [show mI μ 19 0 = 3 from (show (mI μ 19 0) = _ from rfl).trans z_3]
          refine lv_iadd hx hb dM_comeIn_9 ?_
          refine lv_topi (fun z9 e9 => ?_)
          obtain rfl : z9 = 3 := e9.trans (by decide)
          refine lv_istore (lv' := [(4, .int 3), (0, .ref (ad 0)), (1, .int 0), (2, .int rank), (3, .int value)]) hx hb dM_comeIn_10 hl (by decide) rfl (fun ls hl => ?_)
          refine lv_iload hx hb dM_comeIn_12 (lv_at hl 0 rfl) ?_
          refine lv_iload_n hx hb dM_comeIn_14 rfl (lv_at hl 2 rfl) ?_
          refine lv_iconst (v := 4) hx hb dM_comeIn_15 (by decide) ?_
          refine lv_imul hx hb dM_comeIn_16 ?_
          refine lv_topi (fun z9 e9 => ?_)
          obtain rfl : z9 = 0 := e9.trans (by decide)
          refine lv_icmp_le (tgt := 71) hx hb dM_comeIn_17 (by decide) (fun c9 => absurd c9 (by decide)) (fun _ => ?_)
          refine lv_aload_n hx hb dM_comeIn_20 rfl (lv_at hl 1 rfl) ?_
          refine va_get (D := (dC, dI)) (ci := 3) (v := .ref (ad 17)) (C := R_M) (T := T_M) (N := 23) hx hb hts uw_M hown hK hP 0 rfl rfl 20 (by decide) (hts _ (List.mem_cons_of_mem _ wd_351)) (fun _ h9 => h9) rfl dM_comeIn_21 ?_
          refine lv_iload hx hb dM_comeIn_24 (lv_at hl 0 rfl) ?_
          refine lv_iconst (v := 1) hx hb dM_comeIn_26 (by decide) ?_
          refine lv_isub hx hb dM_comeIn_27 ?_
          refine lv_topi (fun z9 e9 => ?_)
          obtain rfl : z9 = 2 := e9.trans (by decide)
          refine va_iald hx hb hK hP 17 16 rfl rfl (kk_inl (by decide)) dM_comeIn_28 ?_
          rw [kk_c2]
          refine lv_iload_n hx hb dM_comeIn_29 rfl (lv_at hl 3 rfl) ?_
          refine lv_icmp_ge (tgt := 71) hx hb dM_comeIn_30 (by decide) (fun c_30 => ?_) (fun c_30 => ?_)
          · rw [if_pos c_30] at hf
            refine lv_aload_n hx hb dM_comeIn_71 rfl (lv_at hl 1 rfl) ?_
            refine va_get (D := (dC, dI)) (ci := 3) (v := .ref (ad 17)) (C := R_M) (T := T_M) (N := 23) hx hb hts uw_M hown hK hP 0 rfl rfl 20 (by decide) (hts _ (List.mem_cons_of_mem _ wd_351)) (fun _ h9 => h9) rfl dM_comeIn_72 ?_
            refine lv_iload hx hb dM_comeIn_75 (lv_at hl 0 rfl) ?_
            refine lv_iload_n hx hb dM_comeIn_77 rfl (lv_at hl 3 rfl) ?_
            refine va_iast hx hb hK hP (km_D hj) hS 17 16 rfl rfl (kk_inl (by decide)) dM_comeIn_78 (fun H locs hP _ hS => ?_)
            rw [kk_c3] at hP
            replace hP := km_u_messageRank hP
            replace hw := km_wf_I (f := 20) (i := 3) (v := rank) hw (by decide)
            refine lv_aload_n hx hb dM_comeIn_79 rfl (lv_at hl 1 rfl) ?_
            refine va_get (D := (dC, dI)) (ci := 3) (v := .ref (ad 18)) (C := R_M) (T := T_M) (N := 23) hx hb hts uw_M hown hK hP 0 rfl rfl 21 (by decide) (hts _ (List.mem_cons_of_mem _ wd_352)) (fun _ h9 => h9) rfl dM_comeIn_80 ?_
            refine lv_iload hx hb dM_comeIn_83 (lv_at hl 0 rfl) ?_
            refine lv_iload_n hx hb dM_comeIn_85 rfl (lv_at hl 4 rfl) ?_
            refine va_iast hx hb hK hP (km_D hj) hS 18 17 rfl rfl (kk_inl (by decide)) dM_comeIn_86 (fun H locs hP _ hS => ?_)
            rw [kk_c3] at hP
            replace hP := km_u_messageValue hP
            replace hw := km_wf_I (f := 21) (i := 3) (v := value) hw (by decide)
            refine lv_aload_n hx hb dM_comeIn_87 rfl (lv_at hl 1 rfl) ?_
            refine va_get (D := (dC, dI)) (ci := 3) (v := .ref (ad 16)) (C := R_M) (T := T_M) (N := 23) hx hb hts uw_M hown hK hP 0 rfl rfl 19 (by decide) (hts _ (List.mem_cons_of_mem _ wd_350)) (fun _ h9 => h9) rfl dM_comeIn_88 ?_
            refine lv_iload_n hx hb dM_comeIn_91 rfl (lv_at hl 2 rfl) ?_
            refine lv_dup2_11 hx hb dM_comeIn_92 rfl rfl ?_
            refine va_iald hx hb hK hP 16 15 rfl rfl (kk_inl (by decide)) dM_comeIn_93 ?_
            rw [kk_c0]
            refine lv_iconst (v := 1) hx hb dM_comeIn_94 (by decide) ?_
            refine lv_iadd hx hb dM_comeIn_95 ?_
            refine va_iast hx hb hK hP (km_D hj) hS 16 15 rfl rfl (kk_inl (by decide)) dM_comeIn_96 (fun H locs hP _ hS => ?_)
            rw [kk_c0] at hP
            replace hP := km_u_messages hP
            replace hw : km_wf (sM (sM (sM μ 20 3 rank) 21 3 value) 19 0 ((mI (sM (sM μ 20 3 rank) 21 3 value) 19 0) + 1)) := km_wf_q (v := mI (sM (sM μ 20 3 rank) 21 3 value) 19 0 + 1) hw ⟨4, by decide, by rw [show mI (sM (sM μ 20 3 rank) 21 3 value) 19 0 = mI μ 19 0 from rfl, z_3]; decide⟩
            exact kk_vret hx hb hr hlocks hP hK hS ⟨hf.symm, hw⟩ dM_comeIn_97
          · rw [if_neg c_30] at hf
            refine lv_aload_n hx hb dM_comeIn_33 rfl (lv_at hl 1 rfl) ?_
            refine va_get (D := (dC, dI)) (ci := 3) (v := .ref (ad 17)) (C := R_M) (T := T_M) (N := 23) hx hb hts uw_M hown hK hP 0 rfl rfl 20 (by decide) (hts _ (List.mem_cons_of_mem _ wd_351)) (fun _ h9 => h9) rfl dM_comeIn_34 ?_
            refine lv_iload hx hb dM_comeIn_37 (lv_at hl 0 rfl) ?_
            refine lv_aload_n hx hb dM_comeIn_39 rfl (lv_at hl 1 rfl) ?_
            refine va_get (D := (dC, dI)) (ci := 3) (v := .ref (ad 17)) (C := R_M) (T := T_M) (N := 23) hx hb hts uw_M hown hK hP 0 rfl rfl 20 (by decide) (hts _ (List.mem_cons_of_mem _ wd_351)) (fun _ h9 => h9) rfl dM_comeIn_40 ?_
            refine lv_iload hx hb dM_comeIn_43 (lv_at hl 0 rfl) ?_
            refine lv_iconst (v := 1) hx hb dM_comeIn_45 (by decide) ?_
            refine lv_isub hx hb dM_comeIn_46 ?_
            refine lv_topi (fun z9 e9 => ?_)
            obtain rfl : z9 = 2 := e9.trans (by decide)
            refine va_iald hx hb hK hP 17 16 rfl rfl (kk_inl (by decide)) dM_comeIn_47 ?_
            rw [kk_c2]
            refine va_iast hx hb hK hP (km_D hj) hS 17 16 rfl rfl (kk_inl (by decide)) dM_comeIn_48 (fun H locs hP _ hS => ?_)
            rw [kk_c3] at hP
            replace hP := km_u_messageRank hP
            replace hw := km_wf_I (f := 20) (i := 3) (v := mI μ 20 2) hw (by decide)
            refine lv_aload_n hx hb dM_comeIn_49 rfl (lv_at hl 1 rfl) ?_
            refine va_get (D := (dC, dI)) (ci := 3) (v := .ref (ad 18)) (C := R_M) (T := T_M) (N := 23) hx hb hts uw_M hown hK hP 0 rfl rfl 21 (by decide) (hts _ (List.mem_cons_of_mem _ wd_352)) (fun _ h9 => h9) rfl dM_comeIn_50 ?_
            refine lv_iload hx hb dM_comeIn_53 (lv_at hl 0 rfl) ?_
            refine lv_aload_n hx hb dM_comeIn_55 rfl (lv_at hl 1 rfl) ?_
            refine va_get (D := (dC, dI)) (ci := 3) (v := .ref (ad 18)) (C := R_M) (T := T_M) (N := 23) hx hb hts uw_M hown hK hP 0 rfl rfl 21 (by decide) (hts _ (List.mem_cons_of_mem _ wd_352)) (fun _ h9 => h9) rfl dM_comeIn_56 ?_
            refine lv_iload hx hb dM_comeIn_59 (lv_at hl 0 rfl) ?_
            refine lv_iconst (v := 1) hx hb dM_comeIn_61 (by decide) ?_
            refine lv_isub hx hb dM_comeIn_62 ?_
            refine lv_topi (fun z9 e9 => ?_)
            obtain rfl : z9 = 2 := e9.trans (by decide)
            refine va_iald hx hb hK hP 18 17 rfl rfl (kk_inl (by decide)) dM_comeIn_63 ?_
            rw [kk_c2]
            refine va_iast hx hb hK hP (km_D hj) hS 18 17 rfl rfl (kk_inl (by decide)) dM_comeIn_64 (fun H locs hP _ hS => ?_)
            rw [kk_c3] at hP
            replace hP := km_u_messageValue hP
            replace hw := km_wf_I (f := 21) (i := 3) (v := mI (sM μ 20 3 (mI μ 20 2)) 21 2) hw (by decide)
            refine lv_iinc (v := 2) (lv' := [(4, .int 2), (0, .ref (ad 0)), (1, .int 0), (2, .int rank), (3, .int value)]) hx hb dM_comeIn_65 hl (k := 0) rfl (by decide) (by decide) rfl (fun ls hl => ?_)
            refine lv_goto (tgt := 12) hx hb dM_comeIn_68 (by decide) ?_
            refine lv_iload hx hb dM_comeIn_12 (lv_at hl 0 rfl) ?_
            refine lv_iload_n hx hb dM_comeIn_14 rfl (lv_at hl 2 rfl) ?_
            refine lv_iconst (v := 4) hx hb dM_comeIn_15 (by decide) ?_
            refine lv_imul hx hb dM_comeIn_16 ?_
            refine lv_topi (fun z9 e9 => ?_)
            obtain rfl : z9 = 0 := e9.trans (by decide)
            refine lv_icmp_le (tgt := 71) hx hb dM_comeIn_17 (by decide) (fun c9 => absurd c9 (by decide)) (fun _ => ?_)
            refine lv_aload_n hx hb dM_comeIn_20 rfl (lv_at hl 1 rfl) ?_
            refine va_get (D := (dC, dI)) (ci := 3) (v := .ref (ad 17)) (C := R_M) (T := T_M) (N := 23) hx hb hts uw_M hown hK hP 0 rfl rfl 20 (by decide) (hts _ (List.mem_cons_of_mem _ wd_351)) (fun _ h9 => h9) rfl dM_comeIn_21 ?_
            refine lv_iload hx hb dM_comeIn_24 (lv_at hl 0 rfl) ?_
            refine lv_iconst (v := 1) hx hb dM_comeIn_26 (by decide) ?_
            refine lv_isub hx hb dM_comeIn_27 ?_
            refine lv_topi (fun z9 e9 => ?_)
            obtain rfl : z9 = 1 := e9.trans (by decide)
            refine va_iald hx hb hK hP 17 16 rfl rfl (kk_inl (by decide)) dM_comeIn_28 ?_
            rw [kk_c1]
            refine lv_iload_n hx hb dM_comeIn_29 rfl (lv_at hl 3 rfl) ?_
            refine lv_icmp_ge (tgt := 71) hx hb dM_comeIn_30 (by decide) (fun c_30 => ?_) (fun c_30 => ?_)
            · rw [if_pos c_30] at hf
              refine lv_aload_n hx hb dM_comeIn_71 rfl (lv_at hl 1 rfl) ?_
              refine va_get (D := (dC, dI)) (ci := 3) (v := .ref (ad 17)) (C := R_M) (T := T_M) (N := 23) hx hb hts uw_M hown hK hP 0 rfl rfl 20 (by decide) (hts _ (List.mem_cons_of_mem _ wd_351)) (fun _ h9 => h9) rfl dM_comeIn_72 ?_
              refine lv_iload hx hb dM_comeIn_75 (lv_at hl 0 rfl) ?_
              refine lv_iload_n hx hb dM_comeIn_77 rfl (lv_at hl 3 rfl) ?_
              refine va_iast hx hb hK hP (km_D hj) hS 17 16 rfl rfl (kk_inl (by decide)) dM_comeIn_78 (fun H locs hP _ hS => ?_)
              rw [kk_c2] at hP
              replace hP := km_u_messageRank hP
              replace hw := km_wf_I (f := 20) (i := 2) (v := rank) hw (by decide)
              refine lv_aload_n hx hb dM_comeIn_79 rfl (lv_at hl 1 rfl) ?_
              refine va_get (D := (dC, dI)) (ci := 3) (v := .ref (ad 18)) (C := R_M) (T := T_M) (N := 23) hx hb hts uw_M hown hK hP 0 rfl rfl 21 (by decide) (hts _ (List.mem_cons_of_mem _ wd_352)) (fun _ h9 => h9) rfl dM_comeIn_80 ?_
              refine lv_iload hx hb dM_comeIn_83 (lv_at hl 0 rfl) ?_
              refine lv_iload_n hx hb dM_comeIn_85 rfl (lv_at hl 4 rfl) ?_
              refine va_iast hx hb hK hP (km_D hj) hS 18 17 rfl rfl (kk_inl (by decide)) dM_comeIn_86 (fun H locs hP _ hS => ?_)
              rw [kk_c2] at hP
              replace hP := km_u_messageValue hP
              replace hw := km_wf_I (f := 21) (i := 2) (v := value) hw (by decide)
              refine lv_aload_n hx hb dM_comeIn_87 rfl (lv_at hl 1 rfl) ?_
              refine va_get (D := (dC, dI)) (ci := 3) (v := .ref (ad 16)) (C := R_M) (T := T_M) (N := 23) hx hb hts uw_M hown hK hP 0 rfl rfl 19 (by decide) (hts _ (List.mem_cons_of_mem _ wd_350)) (fun _ h9 => h9) rfl dM_comeIn_88 ?_
              refine lv_iload_n hx hb dM_comeIn_91 rfl (lv_at hl 2 rfl) ?_
              refine lv_dup2_11 hx hb dM_comeIn_92 rfl rfl ?_
              refine va_iald hx hb hK hP 16 15 rfl rfl (kk_inl (by decide)) dM_comeIn_93 ?_
              rw [kk_c0]
              refine lv_iconst (v := 1) hx hb dM_comeIn_94 (by decide) ?_
              refine lv_iadd hx hb dM_comeIn_95 ?_
              refine va_iast hx hb hK hP (km_D hj) hS 16 15 rfl rfl (kk_inl (by decide)) dM_comeIn_96 (fun H locs hP _ hS => ?_)
              rw [kk_c0] at hP
              replace hP := km_u_messages hP
              replace hw : km_wf (sM (sM (sM (sM (sM μ 20 3 (mI μ 20 2)) 21 3 (mI (sM μ 20 3 (mI μ 20 2)) 21 2)) 20 2 rank) 21 2 value) 19 0 ((mI (sM (sM (sM (sM μ 20 3 (mI μ 20 2)) 21 3 (mI (sM μ 20 3 (mI μ 20 2)) 21 2)) 20 2 rank) 21 2 value) 19 0) + 1)) := km_wf_q (v := mI (sM (sM (sM (sM μ 20 3 (mI μ 20 2)) 21 3 (mI (sM μ 20 3 (mI μ 20 2)) 21 2)) 20 2 rank) 21 2 value) 19 0 + 1) hw ⟨4, by decide, by rw [show mI (sM (sM (sM (sM μ 20 3 (mI μ 20 2)) 21 3 (mI (sM μ 20 3 (mI μ 20 2)) 21 2)) 20 2 rank) 21 2 value) 19 0 = mI μ 19 0 from rfl, z_3]; decide⟩
              exact kk_vret hx hb hr hlocks hP hK hS ⟨hf.symm, hw⟩ dM_comeIn_97
            · rw [if_neg c_30] at hf
              refine lv_aload_n hx hb dM_comeIn_33 rfl (lv_at hl 1 rfl) ?_
              refine va_get (D := (dC, dI)) (ci := 3) (v := .ref (ad 17)) (C := R_M) (T := T_M) (N := 23) hx hb hts uw_M hown hK hP 0 rfl rfl 20 (by decide) (hts _ (List.mem_cons_of_mem _ wd_351)) (fun _ h9 => h9) rfl dM_comeIn_34 ?_
              refine lv_iload hx hb dM_comeIn_37 (lv_at hl 0 rfl) ?_
              refine lv_aload_n hx hb dM_comeIn_39 rfl (lv_at hl 1 rfl) ?_
              refine va_get (D := (dC, dI)) (ci := 3) (v := .ref (ad 17)) (C := R_M) (T := T_M) (N := 23) hx hb hts uw_M hown hK hP 0 rfl rfl 20 (by decide) (hts _ (List.mem_cons_of_mem _ wd_351)) (fun _ h9 => h9) rfl dM_comeIn_40 ?_
              refine lv_iload hx hb dM_comeIn_43 (lv_at hl 0 rfl) ?_
              refine lv_iconst (v := 1) hx hb dM_comeIn_45 (by decide) ?_
              refine lv_isub hx hb dM_comeIn_46 ?_
              refine lv_topi (fun z9 e9 => ?_)
              obtain rfl : z9 = 1 := e9.trans (by decide)
              refine va_iald hx hb hK hP 17 16 rfl rfl (kk_inl (by decide)) dM_comeIn_47 ?_
              rw [kk_c1]
              refine va_iast hx hb hK hP (km_D hj) hS 17 16 rfl rfl (kk_inl (by decide)) dM_comeIn_48 (fun H locs hP _ hS => ?_)
              rw [kk_c2] at hP
              replace hP := km_u_messageRank hP
              replace hw := km_wf_I (f := 20) (i := 2) (v := mI (sM (sM μ 20 3 (mI μ 20 2)) 21 3 (mI (sM μ 20 3 (mI μ 20 2)) 21 2)) 20 1) hw (by decide)
              refine lv_aload_n hx hb dM_comeIn_49 rfl (lv_at hl 1 rfl) ?_
              refine va_get (D := (dC, dI)) (ci := 3) (v := .ref (ad 18)) (C := R_M) (T := T_M) (N := 23) hx hb hts uw_M hown hK hP 0 rfl rfl 21 (by decide) (hts _ (List.mem_cons_of_mem _ wd_352)) (fun _ h9 => h9) rfl dM_comeIn_50 ?_
              refine lv_iload hx hb dM_comeIn_53 (lv_at hl 0 rfl) ?_
              refine lv_aload_n hx hb dM_comeIn_55 rfl (lv_at hl 1 rfl) ?_
              refine va_get (D := (dC, dI)) (ci := 3) (v := .ref (ad 18)) (C := R_M) (T := T_M) (N := 23) hx hb hts uw_M hown hK hP 0 rfl rfl 21 (by decide) (hts _ (List.mem_cons_of_mem _ wd_352)) (fun _ h9 => h9) rfl dM_comeIn_56 ?_
              refine lv_iload hx hb dM_comeIn_59 (lv_at hl 0 rfl) ?_
              refine lv_iconst (v := 1) hx hb dM_comeIn_61 (by decide) ?_
              refine lv_isub hx hb dM_comeIn_62 ?_
              refine lv_topi (fun z9 e9 => ?_)
              obtain rfl : z9 = 1 := e9.trans (by decide)
              refine va_iald hx hb hK hP 18 17 rfl rfl (kk_inl (by decide)) dM_comeIn_63 ?_
              rw [kk_c1]
              refine va_iast hx hb hK hP (km_D hj) hS 18 17 rfl rfl (kk_inl (by decide)) dM_comeIn_64 (fun H locs hP _ hS => ?_)
              rw [kk_c2] at hP
              replace hP := km_u_messageValue hP
              replace hw := km_wf_I (f := 21) (i := 2) (v := mI (sM (sM (sM μ 20 3 (mI μ 20 2)) 21 3 (mI (sM μ 20 3 (mI μ 20 2)) 21 2)) 20 2 (mI (sM (sM μ 20 3 (mI μ 20 2)) 21 3 (mI (sM μ 20 3 (mI μ 20 2)) 21 2)) 20 1)) 21 1) hw (by decide)
              refine lv_iinc (v := 1) (lv' := [(4, .int 1), (0, .ref (ad 0)), (1, .int 0), (2, .int rank), (3, .int value)]) hx hb dM_comeIn_65 hl (k := 0) rfl (by decide) (by decide) rfl (fun ls hl => ?_)
              refine lv_goto (tgt := 12) hx hb dM_comeIn_68 (by decide) ?_
              refine lv_iload hx hb dM_comeIn_12 (lv_at hl 0 rfl) ?_
              refine lv_iload_n hx hb dM_comeIn_14 rfl (lv_at hl 2 rfl) ?_
              refine lv_iconst (v := 4) hx hb dM_comeIn_15 (by decide) ?_
              refine lv_imul hx hb dM_comeIn_16 ?_
              refine lv_topi (fun z9 e9 => ?_)
              obtain rfl : z9 = 0 := e9.trans (by decide)
              refine lv_icmp_le (tgt := 71) hx hb dM_comeIn_17 (by decide) (fun c9 => absurd c9 (by decide)) (fun _ => ?_)
              refine lv_aload_n hx hb dM_comeIn_20 rfl (lv_at hl 1 rfl) ?_
              refine va_get (D := (dC, dI)) (ci := 3) (v := .ref (ad 17)) (C := R_M) (T := T_M) (N := 23) hx hb hts uw_M hown hK hP 0 rfl rfl 20 (by decide) (hts _ (List.mem_cons_of_mem _ wd_351)) (fun _ h9 => h9) rfl dM_comeIn_21 ?_
              refine lv_iload hx hb dM_comeIn_24 (lv_at hl 0 rfl) ?_
              refine lv_iconst (v := 1) hx hb dM_comeIn_26 (by decide) ?_
              refine lv_isub hx hb dM_comeIn_27 ?_
              refine lv_topi (fun z9 e9 => ?_)
              obtain rfl : z9 = 0 := e9.trans (by decide)
              refine va_iald hx hb hK hP 17 16 rfl rfl (kk_inl (by decide)) dM_comeIn_28 ?_
              rw [kk_c0]
              refine lv_iload_n hx hb dM_comeIn_29 rfl (lv_at hl 3 rfl) ?_
              refine lv_icmp_ge (tgt := 71) hx hb dM_comeIn_30 (by decide) (fun c_30 => ?_) (fun c_30 => ?_)
              · rw [if_pos c_30] at hf
                refine lv_aload_n hx hb dM_comeIn_71 rfl (lv_at hl 1 rfl) ?_
                refine va_get (D := (dC, dI)) (ci := 3) (v := .ref (ad 17)) (C := R_M) (T := T_M) (N := 23) hx hb hts uw_M hown hK hP 0 rfl rfl 20 (by decide) (hts _ (List.mem_cons_of_mem _ wd_351)) (fun _ h9 => h9) rfl dM_comeIn_72 ?_
                refine lv_iload hx hb dM_comeIn_75 (lv_at hl 0 rfl) ?_
                refine lv_iload_n hx hb dM_comeIn_77 rfl (lv_at hl 3 rfl) ?_
                refine va_iast hx hb hK hP (km_D hj) hS 17 16 rfl rfl (kk_inl (by decide)) dM_comeIn_78 (fun H locs hP _ hS => ?_)
                rw [kk_c1] at hP
                replace hP := km_u_messageRank hP
                replace hw := km_wf_I (f := 20) (i := 1) (v := rank) hw (by decide)
                refine lv_aload_n hx hb dM_comeIn_79 rfl (lv_at hl 1 rfl) ?_
                refine va_get (D := (dC, dI)) (ci := 3) (v := .ref (ad 18)) (C := R_M) (T := T_M) (N := 23) hx hb hts uw_M hown hK hP 0 rfl rfl 21 (by decide) (hts _ (List.mem_cons_of_mem _ wd_352)) (fun _ h9 => h9) rfl dM_comeIn_80 ?_
                refine lv_iload hx hb dM_comeIn_83 (lv_at hl 0 rfl) ?_
                refine lv_iload_n hx hb dM_comeIn_85 rfl (lv_at hl 4 rfl) ?_
                refine va_iast hx hb hK hP (km_D hj) hS 18 17 rfl rfl (kk_inl (by decide)) dM_comeIn_86 (fun H locs hP _ hS => ?_)
                rw [kk_c1] at hP
                replace hP := km_u_messageValue hP
                replace hw := km_wf_I (f := 21) (i := 1) (v := value) hw (by decide)
                refine lv_aload_n hx hb dM_comeIn_87 rfl (lv_at hl 1 rfl) ?_
                refine va_get (D := (dC, dI)) (ci := 3) (v := .ref (ad 16)) (C := R_M) (T := T_M) (N := 23) hx hb hts uw_M hown hK hP 0 rfl rfl 19 (by decide) (hts _ (List.mem_cons_of_mem _ wd_350)) (fun _ h9 => h9) rfl dM_comeIn_88 ?_
                refine lv_iload_n hx hb dM_comeIn_91 rfl (lv_at hl 2 rfl) ?_
                refine lv_dup2_11 hx hb dM_comeIn_92 rfl rfl ?_
                refine va_iald hx hb hK hP 16 15 rfl rfl (kk_inl (by decide)) dM_comeIn_93 ?_
                rw [kk_c0]
                refine lv_iconst (v := 1) hx hb dM_comeIn_94 (by decide) ?_
                refine lv_iadd hx hb dM_comeIn_95 ?_
                refine va_iast hx hb hK hP (km_D hj) hS 16 15 rfl rfl (kk_inl (by decide)) dM_comeIn_96 (fun H locs hP _ hS => ?_)
                rw [kk_c0] at hP
                replace hP := km_u_messages hP
                replace hw : km_wf (sM (sM (sM (sM (sM (sM (sM μ 20 3 (mI μ 20 2)) 21 3 (mI (sM μ 20 3 (mI μ 20 2)) 21 2)) 20 2 (mI (sM (sM μ 20 3 (mI μ 20 2)) 21 3 (mI (sM μ 20 3 (mI μ 20 2)) 21 2)) 20 1)) 21 2 (mI (sM (sM (sM μ 20 3 (mI μ 20 2)) 21 3 (mI (sM μ 20 3 (mI μ 20 2)) 21 2)) 20 2 (mI (sM (sM μ 20 3 (mI μ 20 2)) 21 3 (mI (sM μ 20 3 (mI μ 20 2)) 21 2)) 20 1)) 21 1)) 20 1 rank) 21 1 value) 19 0 ((mI (sM (sM (sM (sM (sM (sM μ 20 3 (mI μ 20 2)) 21 3 (mI (sM μ 20 3 (mI μ 20 2)) 21 2)) 20 2 (mI (sM (sM μ 20 3 (mI μ 20 2)) 21 3 (mI (sM μ 20 3 (mI μ 20 2)) 21 2)) 20 1)) 21 2 (mI (sM (sM (sM μ 20 3 (mI μ 20 2)) 21 3 (mI (sM μ 20 3 (mI μ 20 2)) 21 2)) 20 2 (mI (sM (sM μ 20 3 (mI μ 20 2)) 21 3 (mI (sM μ 20 3 (mI μ 20 2)) 21 2)) 20 1)) 21 1)) 20 1 rank) 21 1 value) 19 0) + 1)) := km_wf_q (v := mI (sM (sM (sM (sM (sM (sM μ 20 3 (mI μ 20 2)) 21 3 (mI (sM μ 20 3 (mI μ 20 2)) 21 2)) 20 2 (mI (sM (sM μ 20 3 (mI μ 20 2)) 21 3 (mI (sM μ 20 3 (mI μ 20 2)) 21 2)) 20 1)) 21 2 (mI (sM (sM (sM μ 20 3 (mI μ 20 2)) 21 3 (mI (sM μ 20 3 (mI μ 20 2)) 21 2)) 20 2 (mI (sM (sM μ 20 3 (mI μ 20 2)) 21 3 (mI (sM μ 20 3 (mI μ 20 2)) 21 2)) 20 1)) 21 1)) 20 1 rank) 21 1 value) 19 0 + 1) hw ⟨4, by decide, by rw [show mI (sM (sM (sM (sM (sM (sM μ 20 3 (mI μ 20 2)) 21 3 (mI (sM μ 20 3 (mI μ 20 2)) 21 2)) 20 2 (mI (sM (sM μ 20 3 (mI μ 20 2)) 21 3 (mI (sM μ 20 3 (mI μ 20 2)) 21 2)) 20 1)) 21 2 (mI (sM (sM (sM μ 20 3 (mI μ 20 2)) 21 3 (mI (sM μ 20 3 (mI μ 20 2)) 21 2)) 20 2 (mI (sM (sM μ 20 3 (mI μ 20 2)) 21 3 (mI (sM μ 20 3 (mI μ 20 2)) 21 2)) 20 1)) 21 1)) 20 1 rank) 21 1 value) 19 0 = mI μ 19 0 from rfl, z_3]; decide⟩
                exact kk_vret hx hb hr hlocks hP hK hS ⟨hf.symm, hw⟩ dM_comeIn_97
              · rw [if_neg c_30] at hf
                refine lv_aload_n hx hb dM_comeIn_33 rfl (lv_at hl 1 rfl) ?_
                refine va_get (D := (dC, dI)) (ci := 3) (v := .ref (ad 17)) (C := R_M) (T := T_M) (N := 23) hx hb hts uw_M hown hK hP 0 rfl rfl 20 (by decide) (hts _ (List.mem_cons_of_mem _ wd_351)) (fun _ h9 => h9) rfl dM_comeIn_34 ?_
                refine lv_iload hx hb dM_comeIn_37 (lv_at hl 0 rfl) ?_
                refine lv_aload_n hx hb dM_comeIn_39 rfl (lv_at hl 1 rfl) ?_
                refine va_get (D := (dC, dI)) (ci := 3) (v := .ref (ad 17)) (C := R_M) (T := T_M) (N := 23) hx hb hts uw_M hown hK hP 0 rfl rfl 20 (by decide) (hts _ (List.mem_cons_of_mem _ wd_351)) (fun _ h9 => h9) rfl dM_comeIn_40 ?_
                refine lv_iload hx hb dM_comeIn_43 (lv_at hl 0 rfl) ?_
                refine lv_iconst (v := 1) hx hb dM_comeIn_45 (by decide) ?_
                refine lv_isub hx hb dM_comeIn_46 ?_
                refine lv_topi (fun z9 e9 => ?_)
                obtain rfl : z9 = 0 := e9.trans (by decide)
                refine va_iald hx hb hK hP 17 16 rfl rfl (kk_inl (by decide)) dM_comeIn_47 ?_
                rw [kk_c0]
                refine va_iast hx hb hK hP (km_D hj) hS 17 16 rfl rfl (kk_inl (by decide)) dM_comeIn_48 (fun H locs hP _ hS => ?_)
                rw [kk_c1] at hP
                replace hP := km_u_messageRank hP
                replace hw := km_wf_I (f := 20) (i := 1) (v := mI (sM (sM (sM (sM μ 20 3 (mI μ 20 2)) 21 3 (mI (sM μ 20 3 (mI μ 20 2)) 21 2)) 20 2 (mI (sM (sM μ 20 3 (mI μ 20 2)) 21 3 (mI (sM μ 20 3 (mI μ 20 2)) 21 2)) 20 1)) 21 2 (mI (sM (sM (sM μ 20 3 (mI μ 20 2)) 21 3 (mI (sM μ 20 3 (mI μ 20 2)) 21 2)) 20 2 (mI (sM (sM μ 20 3 (mI μ 20 2)) 21 3 (mI (sM μ 20 3 (mI μ 20 2)) 21 2)) 20 1)) 21 1)) 20 0) hw (by decide)
                refine lv_aload_n hx hb dM_comeIn_49 rfl (lv_at hl 1 rfl) ?_
                refine va_get (D := (dC, dI)) (ci := 3) (v := .ref (ad 18)) (C := R_M) (T := T_M) (N := 23) hx hb hts uw_M hown hK hP 0 rfl rfl 21 (by decide) (hts _ (List.mem_cons_of_mem _ wd_352)) (fun _ h9 => h9) rfl dM_comeIn_50 ?_
                refine lv_iload hx hb dM_comeIn_53 (lv_at hl 0 rfl) ?_
                refine lv_aload_n hx hb dM_comeIn_55 rfl (lv_at hl 1 rfl) ?_
                refine va_get (D := (dC, dI)) (ci := 3) (v := .ref (ad 18)) (C := R_M) (T := T_M) (N := 23) hx hb hts uw_M hown hK hP 0 rfl rfl 21 (by decide) (hts _ (List.mem_cons_of_mem _ wd_352)) (fun _ h9 => h9) rfl dM_comeIn_56 ?_
                refine lv_iload hx hb dM_comeIn_59 (lv_at hl 0 rfl) ?_
                refine lv_iconst (v := 1) hx hb dM_comeIn_61 (by decide) ?_
                refine lv_isub hx hb dM_comeIn_62 ?_
                refine lv_topi (fun z9 e9 => ?_)
                obtain rfl : z9 = 0 := e9.trans (by decide)
                refine va_iald hx hb hK hP 18 17 rfl rfl (kk_inl (by decide)) dM_comeIn_63 ?_
                rw [kk_c0]
                refine va_iast hx hb hK hP (km_D hj) hS 18 17 rfl rfl (kk_inl (by decide)) dM_comeIn_64 (fun H locs hP _ hS => ?_)
                rw [kk_c1] at hP
                replace hP := km_u_messageValue hP
                replace hw := km_wf_I (f := 21) (i := 1) (v := mI (sM (sM (sM (sM (sM μ 20 3 (mI μ 20 2)) 21 3 (mI (sM μ 20 3 (mI μ 20 2)) 21 2)) 20 2 (mI (sM (sM μ 20 3 (mI μ 20 2)) 21 3 (mI (sM μ 20 3 (mI μ 20 2)) 21 2)) 20 1)) 21 2 (mI (sM (sM (sM μ 20 3 (mI μ 20 2)) 21 3 (mI (sM μ 20 3 (mI μ 20 2)) 21 2)) 20 2 (mI (sM (sM μ 20 3 (mI μ 20 2)) 21 3 (mI (sM μ 20 3 (mI μ 20 2)) 21 2)) 20 1)) 21 1)) 20 1 (mI (sM (sM (sM (sM μ 20 3 (mI μ 20 2)) 21 3 (mI (sM μ 20 3 (mI μ 20 2)) 21 2)) 20 2 (mI (sM (sM μ 20 3 (mI μ 20 2)) 21 3 (mI (sM μ 20 3 (mI μ 20 2)) 21 2)) 20 1)) 21 2 (mI (sM (sM (sM μ 20 3 (mI μ 20 2)) 21 3 (mI (sM μ 20 3 (mI μ 20 2)) 21 2)) 20 2 (mI (sM (sM μ 20 3 (mI μ 20 2)) 21 3 (mI (sM μ 20 3 (mI μ 20 2)) 21 2)) 20 1)) 21 1)) 20 0)) 21 0) hw (by decide)
                refine lv_iinc (v := 0) (lv' := [(4, .int 0), (0, .ref (ad 0)), (1, .int 0), (2, .int rank), (3, .int value)]) hx hb dM_comeIn_65 hl (k := 0) rfl (by decide) (by decide) rfl (fun ls hl => ?_)
                refine lv_goto (tgt := 12) hx hb dM_comeIn_68 (by decide) ?_
                refine lv_iload hx hb dM_comeIn_12 (lv_at hl 0 rfl) ?_
                refine lv_iload_n hx hb dM_comeIn_14 rfl (lv_at hl 2 rfl) ?_
                refine lv_iconst (v := 4) hx hb dM_comeIn_15 (by decide) ?_
                refine lv_imul hx hb dM_comeIn_16 ?_
                refine lv_topi (fun z9 e9 => ?_)
                obtain rfl : z9 = 0 := e9.trans (by decide)
                refine lv_icmp_le (tgt := 71) hx hb dM_comeIn_17 (by decide) (fun _ => ?_) (fun c9 => absurd (by decide) c9)
                refine lv_aload_n hx hb dM_comeIn_71 rfl (lv_at hl 1 rfl) ?_
                refine va_get (D := (dC, dI)) (ci := 3) (v := .ref (ad 17)) (C := R_M) (T := T_M) (N := 23) hx hb hts uw_M hown hK hP 0 rfl rfl 20 (by decide) (hts _ (List.mem_cons_of_mem _ wd_351)) (fun _ h9 => h9) rfl dM_comeIn_72 ?_
                refine lv_iload hx hb dM_comeIn_75 (lv_at hl 0 rfl) ?_
                refine lv_iload_n hx hb dM_comeIn_77 rfl (lv_at hl 3 rfl) ?_
                refine va_iast hx hb hK hP (km_D hj) hS 17 16 rfl rfl (kk_inl (by decide)) dM_comeIn_78 (fun H locs hP _ hS => ?_)
                rw [kk_c0] at hP
                replace hP := km_u_messageRank hP
                replace hw := km_wf_I (f := 20) (i := 0) (v := rank) hw (by decide)
                refine lv_aload_n hx hb dM_comeIn_79 rfl (lv_at hl 1 rfl) ?_
                refine va_get (D := (dC, dI)) (ci := 3) (v := .ref (ad 18)) (C := R_M) (T := T_M) (N := 23) hx hb hts uw_M hown hK hP 0 rfl rfl 21 (by decide) (hts _ (List.mem_cons_of_mem _ wd_352)) (fun _ h9 => h9) rfl dM_comeIn_80 ?_
                refine lv_iload hx hb dM_comeIn_83 (lv_at hl 0 rfl) ?_
                refine lv_iload_n hx hb dM_comeIn_85 rfl (lv_at hl 4 rfl) ?_
                refine va_iast hx hb hK hP (km_D hj) hS 18 17 rfl rfl (kk_inl (by decide)) dM_comeIn_86 (fun H locs hP _ hS => ?_)
                rw [kk_c0] at hP
                replace hP := km_u_messageValue hP
                replace hw := km_wf_I (f := 21) (i := 0) (v := value) hw (by decide)
                refine lv_aload_n hx hb dM_comeIn_87 rfl (lv_at hl 1 rfl) ?_
                refine va_get (D := (dC, dI)) (ci := 3) (v := .ref (ad 16)) (C := R_M) (T := T_M) (N := 23) hx hb hts uw_M hown hK hP 0 rfl rfl 19 (by decide) (hts _ (List.mem_cons_of_mem _ wd_350)) (fun _ h9 => h9) rfl dM_comeIn_88 ?_
                refine lv_iload_n hx hb dM_comeIn_91 rfl (lv_at hl 2 rfl) ?_
                refine lv_dup2_11 hx hb dM_comeIn_92 rfl rfl ?_
                refine va_iald hx hb hK hP 16 15 rfl rfl (kk_inl (by decide)) dM_comeIn_93 ?_
                rw [kk_c0]
                refine lv_iconst (v := 1) hx hb dM_comeIn_94 (by decide) ?_
                refine lv_iadd hx hb dM_comeIn_95 ?_
                refine va_iast hx hb hK hP (km_D hj) hS 16 15 rfl rfl (kk_inl (by decide)) dM_comeIn_96 (fun H locs hP _ hS => ?_)
                rw [kk_c0] at hP
                replace hP := km_u_messages hP
                replace hw : km_wf (sM (sM (sM (sM (sM (sM (sM (sM (sM μ 20 3 (mI μ 20 2)) 21 3 (mI (sM μ 20 3 (mI μ 20 2)) 21 2)) 20 2 (mI (sM (sM μ 20 3 (mI μ 20 2)) 21 3 (mI (sM μ 20 3 (mI μ 20 2)) 21 2)) 20 1)) 21 2 (mI (sM (sM (sM μ 20 3 (mI μ 20 2)) 21 3 (mI (sM μ 20 3 (mI μ 20 2)) 21 2)) 20 2 (mI (sM (sM μ 20 3 (mI μ 20 2)) 21 3 (mI (sM μ 20 3 (mI μ 20 2)) 21 2)) 20 1)) 21 1)) 20 1 (mI (sM (sM (sM (sM μ 20 3 (mI μ 20 2)) 21 3 (mI (sM μ 20 3 (mI μ 20 2)) 21 2)) 20 2 (mI (sM (sM μ 20 3 (mI μ 20 2)) 21 3 (mI (sM μ 20 3 (mI μ 20 2)) 21 2)) 20 1)) 21 2 (mI (sM (sM (sM μ 20 3 (mI μ 20 2)) 21 3 (mI (sM μ 20 3 (mI μ 20 2)) 21 2)) 20 2 (mI (sM (sM μ 20 3 (mI μ 20 2)) 21 3 (mI (sM μ 20 3 (mI μ 20 2)) 21 2)) 20 1)) 21 1)) 20 0)) 21 1 (mI (sM (sM (sM (sM (sM μ 20 3 (mI μ 20 2)) 21 3 (mI (sM μ 20 3 (mI μ 20 2)) 21 2)) 20 2 (mI (sM (sM μ 20 3 (mI μ 20 2)) 21 3 (mI (sM μ 20 3 (mI μ 20 2)) 21 2)) 20 1)) 21 2 (mI (sM (sM (sM μ 20 3 (mI μ 20 2)) 21 3 (mI (sM μ 20 3 (mI μ 20 2)) 21 2)) 20 2 (mI (sM (sM μ 20 3 (mI μ 20 2)) 21 3 (mI (sM μ 20 3 (mI μ 20 2)) 21 2)) 20 1)) 21 1)) 20 1 (mI (sM (sM (sM (sM μ 20 3 (mI μ 20 2)) 21 3 (mI (sM μ 20 3 (mI μ 20 2)) 21 2)) 20 2 (mI (sM (sM μ 20 3 (mI μ 20 2)) 21 3 (mI (sM μ 20 3 (mI μ 20 2)) 21 2)) 20 1)) 21 2 (mI (sM (sM (sM μ 20 3 (mI μ 20 2)) 21 3 (mI (sM μ 20 3 (mI μ 20 2)) 21 2)) 20 2 (mI (sM (sM μ 20 3 (mI μ 20 2)) 21 3 (mI (sM μ 20 3 (mI μ 20 2)) 21 2)) 20 1)) 21 1)) 20 0)) 21 0)) 20 0 rank) 21 0 value) 19 0 ((mI (sM (sM (sM (sM (sM (sM (sM (sM μ 20 3 (mI μ 20 2)) 21 3 (mI (sM μ 20 3 (mI μ 20 2)) 21 2)) 20 2 (mI (sM (sM μ 20 3 (mI μ 20 2)) 21 3 (mI (sM μ 20 3 (mI μ 20 2)) 21 2)) 20 1)) 21 2 (mI (sM (sM (sM μ 20 3 (mI μ 20 2)) 21 3 (mI (sM μ 20 3 (mI μ 20 2)) 21 2)) 20 2 (mI (sM (sM μ 20 3 (mI μ 20 2)) 21 3 (mI (sM μ 20 3 (mI μ 20 2)) 21 2)) 20 1)) 21 1)) 20 1 (mI (sM (sM (sM (sM μ 20 3 (mI μ 20 2)) 21 3 (mI (sM μ 20 3 (mI μ 20 2)) 21 2)) 20 2 (mI (sM (sM μ 20 3 (mI μ 20 2)) 21 3 (mI (sM μ 20 3 (mI μ 20 2)) 21 2)) 20 1)) 21 2 (mI (sM (sM (sM μ 20 3 (mI μ 20 2)) 21 3 (mI (sM μ 20 3 (mI μ 20 2)) 21 2)) 20 2 (mI (sM (sM μ 20 3 (mI μ 20 2)) 21 3 (mI (sM μ 20 3 (mI μ 20 2)) 21 2)) 20 1)) 21 1)) 20 0)) 21 1 (mI (sM (sM (sM (sM (sM μ 20 3 (mI μ 20 2)) 21 3 (mI (sM μ 20 3 (mI μ 20 2)) 21 2)) 20 2 (mI (sM (sM μ 20 3 (mI μ 20 2)) 21 3 (mI (sM μ 20 3 (mI μ 20 2)) 21 2)) 20 1)) 21 2 (mI (sM (sM (sM μ 20 3 (mI μ 20 2)) 21 3 (mI (sM μ 20 3 (mI μ 20 2)) 21 2)) 20 2 (mI (sM (sM μ 20 3 (mI μ 20 2)) 21 3 (mI (sM μ 20 3 (mI μ 20 2)) 21 2)) 20 1)) 21 1)) 20 1 (mI (sM (sM (sM (sM μ 20 3 (mI μ 20 2)) 21 3 (mI (sM μ 20 3 (mI μ 20 2)) 21 2)) 20 2 (mI (sM (sM μ 20 3 (mI μ 20 2)) 21 3 (mI (sM μ 20 3 (mI μ 20 2)) 21 2)) 20 1)) 21 2 (mI (sM (sM (sM μ 20 3 (mI μ 20 2)) 21 3 (mI (sM μ 20 3 (mI μ 20 2)) 21 2)) 20 2 (mI (sM (sM μ 20 3 (mI μ 20 2)) 21 3 (mI (sM μ 20 3 (mI μ 20 2)) 21 2)) 20 1)) 21 1)) 20 0)) 21 0)) 20 0 rank) 21 0 value) 19 0) + 1)) := km_wf_q (v := mI (sM (sM (sM (sM (sM (sM (sM (sM μ 20 3 (mI μ 20 2)) 21 3 (mI (sM μ 20 3 (mI μ 20 2)) 21 2)) 20 2 (mI (sM (sM μ 20 3 (mI μ 20 2)) 21 3 (mI (sM μ 20 3 (mI μ 20 2)) 21 2)) 20 1)) 21 2 (mI (sM (sM (sM μ 20 3 (mI μ 20 2)) 21 3 (mI (sM μ 20 3 (mI μ 20 2)) 21 2)) 20 2 (mI (sM (sM μ 20 3 (mI μ 20 2)) 21 3 (mI (sM μ 20 3 (mI μ 20 2)) 21 2)) 20 1)) 21 1)) 20 1 (mI (sM (sM (sM (sM μ 20 3 (mI μ 20 2)) 21 3 (mI (sM μ 20 3 (mI μ 20 2)) 21 2)) 20 2 (mI (sM (sM μ 20 3 (mI μ 20 2)) 21 3 (mI (sM μ 20 3 (mI μ 20 2)) 21 2)) 20 1)) 21 2 (mI (sM (sM (sM μ 20 3 (mI μ 20 2)) 21 3 (mI (sM μ 20 3 (mI μ 20 2)) 21 2)) 20 2 (mI (sM (sM μ 20 3 (mI μ 20 2)) 21 3 (mI (sM μ 20 3 (mI μ 20 2)) 21 2)) 20 1)) 21 1)) 20 0)) 21 1 (mI (sM (sM (sM (sM (sM μ 20 3 (mI μ 20 2)) 21 3 (mI (sM μ 20 3 (mI μ 20 2)) 21 2)) 20 2 (mI (sM (sM μ 20 3 (mI μ 20 2)) 21 3 (mI (sM μ 20 3 (mI μ 20 2)) 21 2)) 20 1)) 21 2 (mI (sM (sM (sM μ 20 3 (mI μ 20 2)) 21 3 (mI (sM μ 20 3 (mI μ 20 2)) 21 2)) 20 2 (mI (sM (sM μ 20 3 (mI μ 20 2)) 21 3 (mI (sM μ 20 3 (mI μ 20 2)) 21 2)) 20 1)) 21 1)) 20 1 (mI (sM (sM (sM (sM μ 20 3 (mI μ 20 2)) 21 3 (mI (sM μ 20 3 (mI μ 20 2)) 21 2)) 20 2 (mI (sM (sM μ 20 3 (mI μ 20 2)) 21 3 (mI (sM μ 20 3 (mI μ 20 2)) 21 2)) 20 1)) 21 2 (mI (sM (sM (sM μ 20 3 (mI μ 20 2)) 21 3 (mI (sM μ 20 3 (mI μ 20 2)) 21 2)) 20 2 (mI (sM (sM μ 20 3 (mI μ 20 2)) 21 3 (mI (sM μ 20 3 (mI μ 20 2)) 21 2)) 20 1)) 21 1)) 20 0)) 21 0)) 20 0 rank) 21 0 value) 19 0 + 1) hw ⟨4, by decide, by rw [show mI (sM (sM (sM (sM (sM (sM (sM (sM μ 20 3 (mI μ 20 2)) 21 3 (mI (sM μ 20 3 (mI μ 20 2)) 21 2)) 20 2 (mI (sM (sM μ 20 3 (mI μ 20 2)) 21 3 (mI (sM μ 20 3 (mI μ 20 2)) 21 2)) 20 1)) 21 2 (mI (sM (sM (sM μ 20 3 (mI μ 20 2)) 21 3 (mI (sM μ 20 3 (mI μ 20 2)) 21 2)) 20 2 (mI (sM (sM μ 20 3 (mI μ 20 2)) 21 3 (mI (sM μ 20 3 (mI μ 20 2)) 21 2)) 20 1)) 21 1)) 20 1 (mI (sM (sM (sM (sM μ 20 3 (mI μ 20 2)) 21 3 (mI (sM μ 20 3 (mI μ 20 2)) 21 2)) 20 2 (mI (sM (sM μ 20 3 (mI μ 20 2)) 21 3 (mI (sM μ 20 3 (mI μ 20 2)) 21 2)) 20 1)) 21 2 (mI (sM (sM (sM μ 20 3 (mI μ 20 2)) 21 3 (mI (sM μ 20 3 (mI μ 20 2)) 21 2)) 20 2 (mI (sM (sM μ 20 3 (mI μ 20 2)) 21 3 (mI (sM μ 20 3 (mI μ 20 2)) 21 2)) 20 1)) 21 1)) 20 0)) 21 1 (mI (sM (sM (sM (sM (sM μ 20 3 (mI μ 20 2)) 21 3 (mI (sM μ 20 3 (mI μ 20 2)) 21 2)) 20 2 (mI (sM (sM μ 20 3 (mI μ 20 2)) 21 3 (mI (sM μ 20 3 (mI μ 20 2)) 21 2)) 20 1)) 21 2 (mI (sM (sM (sM μ 20 3 (mI μ 20 2)) 21 3 (mI (sM μ 20 3 (mI μ 20 2)) 21 2)) 20 2 (mI (sM (sM μ 20 3 (mI μ 20 2)) 21 3 (mI (sM μ 20 3 (mI μ 20 2)) 21 2)) 20 1)) 21 1)) 20 1 (mI (sM (sM (sM (sM μ 20 3 (mI μ 20 2)) 21 3 (mI (sM μ 20 3 (mI μ 20 2)) 21 2)) 20 2 (mI (sM (sM μ 20 3 (mI μ 20 2)) 21 3 (mI (sM μ 20 3 (mI μ 20 2)) 21 2)) 20 1)) 21 2 (mI (sM (sM (sM μ 20 3 (mI μ 20 2)) 21 3 (mI (sM μ 20 3 (mI μ 20 2)) 21 2)) 20 2 (mI (sM (sM μ 20 3 (mI μ 20 2)) 21 3 (mI (sM μ 20 3 (mI μ 20 2)) 21 2)) 20 1)) 21 1)) 20 0)) 21 0)) 20 0 rank) 21 0 value) 19 0 = mI μ 19 0 from rfl, z_3]; decide⟩
                exact kk_vret hx hb hr hlocks hP hK hS ⟨hf.symm, hw⟩ dM_comeIn_97
  · rw [if_neg c_q] at hf
    obtain rfl : q = 1 := kk_q1 hq9 c_q
    rw [kk_c1] at hmes
    rcases Classical.em ((mI μ 19 1) = 0) with z_0 | z_0
    · rw [if_pos z_0] at hf
      refine lv_iload_n hx hb dM_comeIn_0 rfl (lv_at hl 1 rfl) ?_
      refine lv_iconst (v := 4) hx hb dM_comeIn_1 (by decide) ?_
      refine lv_imul hx hb dM_comeIn_2 ?_
      refine lv_topi (fun z9 e9 => ?_)
      obtain rfl : z9 = 4 := e9.trans (by decide)
      refine lv_aload_n hx hb dM_comeIn_3 rfl (lv_at hl 0 rfl) ?_
      refine va_get (D := (dC, dI)) (ci := 3) (v := .ref (ad 16)) (C := R_M) (T := T_M) (N := 23) hx hb hts uw_M hown hK hP 0 rfl rfl 19 (by decide) (hts _ (List.mem_cons_of_mem _ wd_350)) (fun _ h9 => h9) rfl dM_comeIn_4 ?_
      refine lv_iload_n hx hb dM_comeIn_7 rfl (lv_at hl 1 rfl) ?_
      refine va_iald hx hb hK hP 16 15 rfl rfl (kk_inl (by decide)) dM_comeIn_8 ?_
      rw [kk_c1]
      rw [show mI μ 19 1 = 0 from (show (mI μ 19 1) = _ from rfl).trans z_0]
      refine lv_iadd hx hb dM_comeIn_9 ?_
      refine lv_topi (fun z9 e9 => ?_)
      obtain rfl : z9 = 4 := e9.trans (by decide)
      refine lv_istore (lv' := [(4, .int 4), (0, .ref (ad 0)), (1, .int 1), (2, .int rank), (3, .int value)]) hx hb dM_comeIn_10 hl (by decide) rfl (fun ls hl => ?_)
      refine lv_iload hx hb dM_comeIn_12 (lv_at hl 0 rfl) ?_
      refine lv_iload_n hx hb dM_comeIn_14 rfl (lv_at hl 2 rfl) ?_
      refine lv_iconst (v := 4) hx hb dM_comeIn_15 (by decide) ?_
      refine lv_imul hx hb dM_comeIn_16 ?_
      refine lv_topi (fun z9 e9 => ?_)
      obtain rfl : z9 = 4 := e9.trans (by decide)
      refine lv_icmp_le (tgt := 71) hx hb dM_comeIn_17 (by decide) (fun _ => ?_) (fun c9 => absurd (by decide) c9)
      refine lv_aload_n hx hb dM_comeIn_71 rfl (lv_at hl 1 rfl) ?_
      refine va_get (D := (dC, dI)) (ci := 3) (v := .ref (ad 17)) (C := R_M) (T := T_M) (N := 23) hx hb hts uw_M hown hK hP 0 rfl rfl 20 (by decide) (hts _ (List.mem_cons_of_mem _ wd_351)) (fun _ h9 => h9) rfl dM_comeIn_72 ?_
      refine lv_iload hx hb dM_comeIn_75 (lv_at hl 0 rfl) ?_
      refine lv_iload_n hx hb dM_comeIn_77 rfl (lv_at hl 3 rfl) ?_
      refine va_iast hx hb hK hP (km_D hj) hS 17 16 rfl rfl (kk_inl (by decide)) dM_comeIn_78 (fun H locs hP _ hS => ?_)
      rw [kk_c4] at hP
      replace hP := km_u_messageRank hP
      replace hw := km_wf_I (f := 20) (i := 4) (v := rank) hw (by decide)
      refine lv_aload_n hx hb dM_comeIn_79 rfl (lv_at hl 1 rfl) ?_
      refine va_get (D := (dC, dI)) (ci := 3) (v := .ref (ad 18)) (C := R_M) (T := T_M) (N := 23) hx hb hts uw_M hown hK hP 0 rfl rfl 21 (by decide) (hts _ (List.mem_cons_of_mem _ wd_352)) (fun _ h9 => h9) rfl dM_comeIn_80 ?_
      refine lv_iload hx hb dM_comeIn_83 (lv_at hl 0 rfl) ?_
      refine lv_iload_n hx hb dM_comeIn_85 rfl (lv_at hl 4 rfl) ?_
      refine va_iast hx hb hK hP (km_D hj) hS 18 17 rfl rfl (kk_inl (by decide)) dM_comeIn_86 (fun H locs hP _ hS => ?_)
      rw [kk_c4] at hP
      replace hP := km_u_messageValue hP
      replace hw := km_wf_I (f := 21) (i := 4) (v := value) hw (by decide)
      refine lv_aload_n hx hb dM_comeIn_87 rfl (lv_at hl 1 rfl) ?_
      refine va_get (D := (dC, dI)) (ci := 3) (v := .ref (ad 16)) (C := R_M) (T := T_M) (N := 23) hx hb hts uw_M hown hK hP 0 rfl rfl 19 (by decide) (hts _ (List.mem_cons_of_mem _ wd_350)) (fun _ h9 => h9) rfl dM_comeIn_88 ?_
      refine lv_iload_n hx hb dM_comeIn_91 rfl (lv_at hl 2 rfl) ?_
      refine lv_dup2_11 hx hb dM_comeIn_92 rfl rfl ?_
      refine va_iald hx hb hK hP 16 15 rfl rfl (kk_inl (by decide)) dM_comeIn_93 ?_
      rw [kk_c1]
      refine lv_iconst (v := 1) hx hb dM_comeIn_94 (by decide) ?_
      refine lv_iadd hx hb dM_comeIn_95 ?_
      refine va_iast hx hb hK hP (km_D hj) hS 16 15 rfl rfl (kk_inl (by decide)) dM_comeIn_96 (fun H locs hP _ hS => ?_)
      rw [kk_c1] at hP
      replace hP := km_u_messages hP
      replace hw : km_wf (sM (sM (sM μ 20 4 rank) 21 4 value) 19 1 ((mI (sM (sM μ 20 4 rank) 21 4 value) 19 1) + 1)) := km_wf_q (v := mI (sM (sM μ 20 4 rank) 21 4 value) 19 1 + 1) hw ⟨1, by decide, by rw [show mI (sM (sM μ 20 4 rank) 21 4 value) 19 1 = mI μ 19 1 from rfl, z_0]; decide⟩
      exact kk_vret hx hb hr hlocks hP hK hS ⟨hf.symm, hw⟩ dM_comeIn_97
    · rw [if_neg z_0] at hf
      rcases Classical.em ((mI μ 19 1) = 1) with z_1 | z_1
      · rw [if_pos z_1] at hf
        refine lv_iload_n hx hb dM_comeIn_0 rfl (lv_at hl 1 rfl) ?_
        refine lv_iconst (v := 4) hx hb dM_comeIn_1 (by decide) ?_
        refine lv_imul hx hb dM_comeIn_2 ?_
        refine lv_topi (fun z9 e9 => ?_)
        obtain rfl : z9 = 4 := e9.trans (by decide)
        refine lv_aload_n hx hb dM_comeIn_3 rfl (lv_at hl 0 rfl) ?_
        refine va_get (D := (dC, dI)) (ci := 3) (v := .ref (ad 16)) (C := R_M) (T := T_M) (N := 23) hx hb hts uw_M hown hK hP 0 rfl rfl 19 (by decide) (hts _ (List.mem_cons_of_mem _ wd_350)) (fun _ h9 => h9) rfl dM_comeIn_4 ?_
        refine lv_iload_n hx hb dM_comeIn_7 rfl (lv_at hl 1 rfl) ?_
        refine va_iald hx hb hK hP 16 15 rfl rfl (kk_inl (by decide)) dM_comeIn_8 ?_
        rw [kk_c1]
        rw [show mI μ 19 1 = 1 from (show (mI μ 19 1) = _ from rfl).trans z_1]
        refine lv_iadd hx hb dM_comeIn_9 ?_
        refine lv_topi (fun z9 e9 => ?_)
        obtain rfl : z9 = 5 := e9.trans (by decide)
        refine lv_istore (lv' := [(4, .int 5), (0, .ref (ad 0)), (1, .int 1), (2, .int rank), (3, .int value)]) hx hb dM_comeIn_10 hl (by decide) rfl (fun ls hl => ?_)
        refine lv_iload hx hb dM_comeIn_12 (lv_at hl 0 rfl) ?_
        refine lv_iload_n hx hb dM_comeIn_14 rfl (lv_at hl 2 rfl) ?_
        refine lv_iconst (v := 4) hx hb dM_comeIn_15 (by decide) ?_
        refine lv_imul hx hb dM_comeIn_16 ?_
        refine lv_topi (fun z9 e9 => ?_)
        obtain rfl : z9 = 4 := e9.trans (by decide)
        refine lv_icmp_le (tgt := 71) hx hb dM_comeIn_17 (by decide) (fun c9 => absurd c9 (by decide)) (fun _ => ?_)
        refine lv_aload_n hx hb dM_comeIn_20 rfl (lv_at hl 1 rfl) ?_
        refine va_get (D := (dC, dI)) (ci := 3) (v := .ref (ad 17)) (C := R_M) (T := T_M) (N := 23) hx hb hts uw_M hown hK hP 0 rfl rfl 20 (by decide) (hts _ (List.mem_cons_of_mem _ wd_351)) (fun _ h9 => h9) rfl dM_comeIn_21 ?_
        refine lv_iload hx hb dM_comeIn_24 (lv_at hl 0 rfl) ?_
        refine lv_iconst (v := 1) hx hb dM_comeIn_26 (by decide) ?_
        refine lv_isub hx hb dM_comeIn_27 ?_
        refine lv_topi (fun z9 e9 => ?_)
        obtain rfl : z9 = 4 := e9.trans (by decide)
        refine va_iald hx hb hK hP 17 16 rfl rfl (kk_inl (by decide)) dM_comeIn_28 ?_
        rw [kk_c4]
        refine lv_iload_n hx hb dM_comeIn_29 rfl (lv_at hl 3 rfl) ?_
        refine lv_icmp_ge (tgt := 71) hx hb dM_comeIn_30 (by decide) (fun c_30 => ?_) (fun c_30 => ?_)
        · rw [if_pos c_30] at hf
          refine lv_aload_n hx hb dM_comeIn_71 rfl (lv_at hl 1 rfl) ?_
          refine va_get (D := (dC, dI)) (ci := 3) (v := .ref (ad 17)) (C := R_M) (T := T_M) (N := 23) hx hb hts uw_M hown hK hP 0 rfl rfl 20 (by decide) (hts _ (List.mem_cons_of_mem _ wd_351)) (fun _ h9 => h9) rfl dM_comeIn_72 ?_
          refine lv_iload hx hb dM_comeIn_75 (lv_at hl 0 rfl) ?_
          refine lv_iload_n hx hb dM_comeIn_77 rfl (lv_at hl 3 rfl) ?_
          refine va_iast hx hb hK hP (km_D hj) hS 17 16 rfl rfl (kk_inl (by decide)) dM_comeIn_78 (fun H locs hP _ hS => ?_)
          rw [kk_c5] at hP
          replace hP := km_u_messageRank hP
          replace hw := km_wf_I (f := 20) (i := 5) (v := rank) hw (by decide)
          refine lv_aload_n hx hb dM_comeIn_79 rfl (lv_at hl 1 rfl) ?_
          refine va_get (D := (dC, dI)) (ci := 3) (v := .ref (ad 18)) (C := R_M) (T := T_M) (N := 23) hx hb hts uw_M hown hK hP 0 rfl rfl 21 (by decide) (hts _ (List.mem_cons_of_mem _ wd_352)) (fun _ h9 => h9) rfl dM_comeIn_80 ?_
          refine lv_iload hx hb dM_comeIn_83 (lv_at hl 0 rfl) ?_
          refine lv_iload_n hx hb dM_comeIn_85 rfl (lv_at hl 4 rfl) ?_
          refine va_iast hx hb hK hP (km_D hj) hS 18 17 rfl rfl (kk_inl (by decide)) dM_comeIn_86 (fun H locs hP _ hS => ?_)
          rw [kk_c5] at hP
          replace hP := km_u_messageValue hP
          replace hw := km_wf_I (f := 21) (i := 5) (v := value) hw (by decide)
          refine lv_aload_n hx hb dM_comeIn_87 rfl (lv_at hl 1 rfl) ?_
          refine va_get (D := (dC, dI)) (ci := 3) (v := .ref (ad 16)) (C := R_M) (T := T_M) (N := 23) hx hb hts uw_M hown hK hP 0 rfl rfl 19 (by decide) (hts _ (List.mem_cons_of_mem _ wd_350)) (fun _ h9 => h9) rfl dM_comeIn_88 ?_
          refine lv_iload_n hx hb dM_comeIn_91 rfl (lv_at hl 2 rfl) ?_
          refine lv_dup2_11 hx hb dM_comeIn_92 rfl rfl ?_
          refine va_iald hx hb hK hP 16 15 rfl rfl (kk_inl (by decide)) dM_comeIn_93 ?_
          rw [kk_c1]
          refine lv_iconst (v := 1) hx hb dM_comeIn_94 (by decide) ?_
          refine lv_iadd hx hb dM_comeIn_95 ?_
          refine va_iast hx hb hK hP (km_D hj) hS 16 15 rfl rfl (kk_inl (by decide)) dM_comeIn_96 (fun H locs hP _ hS => ?_)
          rw [kk_c1] at hP
          replace hP := km_u_messages hP
          replace hw : km_wf (sM (sM (sM μ 20 5 rank) 21 5 value) 19 1 ((mI (sM (sM μ 20 5 rank) 21 5 value) 19 1) + 1)) := km_wf_q (v := mI (sM (sM μ 20 5 rank) 21 5 value) 19 1 + 1) hw ⟨2, by decide, by rw [show mI (sM (sM μ 20 5 rank) 21 5 value) 19 1 = mI μ 19 1 from rfl, z_1]; decide⟩
          exact kk_vret hx hb hr hlocks hP hK hS ⟨hf.symm, hw⟩ dM_comeIn_97
        · rw [if_neg c_30] at hf
          refine lv_aload_n hx hb dM_comeIn_33 rfl (lv_at hl 1 rfl) ?_
          refine va_get (D := (dC, dI)) (ci := 3) (v := .ref (ad 17)) (C := R_M) (T := T_M) (N := 23) hx hb hts uw_M hown hK hP 0 rfl rfl 20 (by decide) (hts _ (List.mem_cons_of_mem _ wd_351)) (fun _ h9 => h9) rfl dM_comeIn_34 ?_
          refine lv_iload hx hb dM_comeIn_37 (lv_at hl 0 rfl) ?_
          refine lv_aload_n hx hb dM_comeIn_39 rfl (lv_at hl 1 rfl) ?_
          refine va_get (D := (dC, dI)) (ci := 3) (v := .ref (ad 17)) (C := R_M) (T := T_M) (N := 23) hx hb hts uw_M hown hK hP 0 rfl rfl 20 (by decide) (hts _ (List.mem_cons_of_mem _ wd_351)) (fun _ h9 => h9) rfl dM_comeIn_40 ?_
          refine lv_iload hx hb dM_comeIn_43 (lv_at hl 0 rfl) ?_
          refine lv_iconst (v := 1) hx hb dM_comeIn_45 (by decide) ?_
          refine lv_isub hx hb dM_comeIn_46 ?_
          refine lv_topi (fun z9 e9 => ?_)
          obtain rfl : z9 = 4 := e9.trans (by decide)
          refine va_iald hx hb hK hP 17 16 rfl rfl (kk_inl (by decide)) dM_comeIn_47 ?_
          rw [kk_c4]
          refine va_iast hx hb hK hP (km_D hj) hS 17 16 rfl rfl (kk_inl (by decide)) dM_comeIn_48 (fun H locs hP _ hS => ?_)
          rw [kk_c5] at hP
          replace hP := km_u_messageRank hP
          replace hw := km_wf_I (f := 20) (i := 5) (v := mI μ 20 4) hw (by decide)
          refine lv_aload_n hx hb dM_comeIn_49 rfl (lv_at hl 1 rfl) ?_
          refine va_get (D := (dC, dI)) (ci := 3) (v := .ref (ad 18)) (C := R_M) (T := T_M) (N := 23) hx hb hts uw_M hown hK hP 0 rfl rfl 21 (by decide) (hts _ (List.mem_cons_of_mem _ wd_352)) (fun _ h9 => h9) rfl dM_comeIn_50 ?_
          refine lv_iload hx hb dM_comeIn_53 (lv_at hl 0 rfl) ?_
          refine lv_aload_n hx hb dM_comeIn_55 rfl (lv_at hl 1 rfl) ?_
          refine va_get (D := (dC, dI)) (ci := 3) (v := .ref (ad 18)) (C := R_M) (T := T_M) (N := 23) hx hb hts uw_M hown hK hP 0 rfl rfl 21 (by decide) (hts _ (List.mem_cons_of_mem _ wd_352)) (fun _ h9 => h9) rfl dM_comeIn_56 ?_
          refine lv_iload hx hb dM_comeIn_59 (lv_at hl 0 rfl) ?_
          refine lv_iconst (v := 1) hx hb dM_comeIn_61 (by decide) ?_
          refine lv_isub hx hb dM_comeIn_62 ?_
          refine lv_topi (fun z9 e9 => ?_)
          obtain rfl : z9 = 4 := e9.trans (by decide)
          refine va_iald hx hb hK hP 18 17 rfl rfl (kk_inl (by decide)) dM_comeIn_63 ?_
          rw [kk_c4]
          refine va_iast hx hb hK hP (km_D hj) hS 18 17 rfl rfl (kk_inl (by decide)) dM_comeIn_64 (fun H locs hP _ hS => ?_)
          rw [kk_c5] at hP
          replace hP := km_u_messageValue hP
          replace hw := km_wf_I (f := 21) (i := 5) (v := mI (sM μ 20 5 (mI μ 20 4)) 21 4) hw (by decide)
          refine lv_iinc (v := 4) (lv' := [(4, .int 4), (0, .ref (ad 0)), (1, .int 1), (2, .int rank), (3, .int value)]) hx hb dM_comeIn_65 hl (k := 0) rfl (by decide) (by decide) rfl (fun ls hl => ?_)
          refine lv_goto (tgt := 12) hx hb dM_comeIn_68 (by decide) ?_
          refine lv_iload hx hb dM_comeIn_12 (lv_at hl 0 rfl) ?_
          refine lv_iload_n hx hb dM_comeIn_14 rfl (lv_at hl 2 rfl) ?_
          refine lv_iconst (v := 4) hx hb dM_comeIn_15 (by decide) ?_
          refine lv_imul hx hb dM_comeIn_16 ?_
          refine lv_topi (fun z9 e9 => ?_)
          obtain rfl : z9 = 4 := e9.trans (by decide)
          refine lv_icmp_le (tgt := 71) hx hb dM_comeIn_17 (by decide) (fun _ => ?_) (fun c9 => absurd (by decide) c9)
          refine lv_aload_n hx hb dM_comeIn_71 rfl (lv_at hl 1 rfl) ?_
          refine va_get (D := (dC, dI)) (ci := 3) (v := .ref (ad 17)) (C := R_M) (T := T_M) (N := 23) hx hb hts uw_M hown hK hP 0 rfl rfl 20 (by decide) (hts _ (List.mem_cons_of_mem _ wd_351)) (fun _ h9 => h9) rfl dM_comeIn_72 ?_
          refine lv_iload hx hb dM_comeIn_75 (lv_at hl 0 rfl) ?_
          refine lv_iload_n hx hb dM_comeIn_77 rfl (lv_at hl 3 rfl) ?_
          refine va_iast hx hb hK hP (km_D hj) hS 17 16 rfl rfl (kk_inl (by decide)) dM_comeIn_78 (fun H locs hP _ hS => ?_)
          rw [kk_c4] at hP
          replace hP := km_u_messageRank hP
          replace hw := km_wf_I (f := 20) (i := 4) (v := rank) hw (by decide)
          refine lv_aload_n hx hb dM_comeIn_79 rfl (lv_at hl 1 rfl) ?_
          refine va_get (D := (dC, dI)) (ci := 3) (v := .ref (ad 18)) (C := R_M) (T := T_M) (N := 23) hx hb hts uw_M hown hK hP 0 rfl rfl 21 (by decide) (hts _ (List.mem_cons_of_mem _ wd_352)) (fun _ h9 => h9) rfl dM_comeIn_80 ?_
          refine lv_iload hx hb dM_comeIn_83 (lv_at hl 0 rfl) ?_
          refine lv_iload_n hx hb dM_comeIn_85 rfl (lv_at hl 4 rfl) ?_
          refine va_iast hx hb hK hP (km_D hj) hS 18 17 rfl rfl (kk_inl (by decide)) dM_comeIn_86 (fun H locs hP _ hS => ?_)
          rw [kk_c4] at hP
          replace hP := km_u_messageValue hP
          replace hw := km_wf_I (f := 21) (i := 4) (v := value) hw (by decide)
          refine lv_aload_n hx hb dM_comeIn_87 rfl (lv_at hl 1 rfl) ?_
          refine va_get (D := (dC, dI)) (ci := 3) (v := .ref (ad 16)) (C := R_M) (T := T_M) (N := 23) hx hb hts uw_M hown hK hP 0 rfl rfl 19 (by decide) (hts _ (List.mem_cons_of_mem _ wd_350)) (fun _ h9 => h9) rfl dM_comeIn_88 ?_
          refine lv_iload_n hx hb dM_comeIn_91 rfl (lv_at hl 2 rfl) ?_
          refine lv_dup2_11 hx hb dM_comeIn_92 rfl rfl ?_
          refine va_iald hx hb hK hP 16 15 rfl rfl (kk_inl (by decide)) dM_comeIn_93 ?_
          rw [kk_c1]
          refine lv_iconst (v := 1) hx hb dM_comeIn_94 (by decide) ?_
          refine lv_iadd hx hb dM_comeIn_95 ?_
          refine va_iast hx hb hK hP (km_D hj) hS 16 15 rfl rfl (kk_inl (by decide)) dM_comeIn_96 (fun H locs hP _ hS => ?_)
          rw [kk_c1] at hP
          replace hP := km_u_messages hP
          replace hw : km_wf (sM (sM (sM (sM (sM μ 20 5 (mI μ 20 4)) 21 5 (mI (sM μ 20 5 (mI μ 20 4)) 21 4)) 20 4 rank) 21 4 value) 19 1 ((mI (sM (sM (sM (sM μ 20 5 (mI μ 20 4)) 21 5 (mI (sM μ 20 5 (mI μ 20 4)) 21 4)) 20 4 rank) 21 4 value) 19 1) + 1)) := km_wf_q (v := mI (sM (sM (sM (sM μ 20 5 (mI μ 20 4)) 21 5 (mI (sM μ 20 5 (mI μ 20 4)) 21 4)) 20 4 rank) 21 4 value) 19 1 + 1) hw ⟨2, by decide, by rw [show mI (sM (sM (sM (sM μ 20 5 (mI μ 20 4)) 21 5 (mI (sM μ 20 5 (mI μ 20 4)) 21 4)) 20 4 rank) 21 4 value) 19 1 = mI μ 19 1 from rfl, z_1]; decide⟩
          exact kk_vret hx hb hr hlocks hP hK hS ⟨hf.symm, hw⟩ dM_comeIn_97
      · rw [if_neg z_1] at hf
        rcases Classical.em ((mI μ 19 1) = 2) with z_2 | z_2
        · rw [if_pos z_2] at hf
          refine lv_iload_n hx hb dM_comeIn_0 rfl (lv_at hl 1 rfl) ?_
          refine lv_iconst (v := 4) hx hb dM_comeIn_1 (by decide) ?_
          refine lv_imul hx hb dM_comeIn_2 ?_
          refine lv_topi (fun z9 e9 => ?_)
          obtain rfl : z9 = 4 := e9.trans (by decide)
          refine lv_aload_n hx hb dM_comeIn_3 rfl (lv_at hl 0 rfl) ?_
          refine va_get (D := (dC, dI)) (ci := 3) (v := .ref (ad 16)) (C := R_M) (T := T_M) (N := 23) hx hb hts uw_M hown hK hP 0 rfl rfl 19 (by decide) (hts _ (List.mem_cons_of_mem _ wd_350)) (fun _ h9 => h9) rfl dM_comeIn_4 ?_
          refine lv_iload_n hx hb dM_comeIn_7 rfl (lv_at hl 1 rfl) ?_
          refine va_iald hx hb hK hP 16 15 rfl rfl (kk_inl (by decide)) dM_comeIn_8 ?_
          rw [kk_c1]
          rw [show mI μ 19 1 = 2 from (show (mI μ 19 1) = _ from rfl).trans z_2]
          refine lv_iadd hx hb dM_comeIn_9 ?_
          refine lv_topi (fun z9 e9 => ?_)
          obtain rfl : z9 = 6 := e9.trans (by decide)
          refine lv_istore (lv' := [(4, .int 6), (0, .ref (ad 0)), (1, .int 1), (2, .int rank), (3, .int value)]) hx hb dM_comeIn_10 hl (by decide) rfl (fun ls hl => ?_)
          refine lv_iload hx hb dM_comeIn_12 (lv_at hl 0 rfl) ?_
          refine lv_iload_n hx hb dM_comeIn_14 rfl (lv_at hl 2 rfl) ?_
          refine lv_iconst (v := 4) hx hb dM_comeIn_15 (by decide) ?_
          refine lv_imul hx hb dM_comeIn_16 ?_
          refine lv_topi (fun z9 e9 => ?_)
          obtain rfl : z9 = 4 := e9.trans (by decide)
          refine lv_icmp_le (tgt := 71) hx hb dM_comeIn_17 (by decide) (fun c9 => absurd c9 (by decide)) (fun _ => ?_)
          refine lv_aload_n hx hb dM_comeIn_20 rfl (lv_at hl 1 rfl) ?_
          refine va_get (D := (dC, dI)) (ci := 3) (v := .ref (ad 17)) (C := R_M) (T := T_M) (N := 23) hx hb hts uw_M hown hK hP 0 rfl rfl 20 (by decide) (hts _ (List.mem_cons_of_mem _ wd_351)) (fun _ h9 => h9) rfl dM_comeIn_21 ?_
          refine lv_iload hx hb dM_comeIn_24 (lv_at hl 0 rfl) ?_
          refine lv_iconst (v := 1) hx hb dM_comeIn_26 (by decide) ?_
          refine lv_isub hx hb dM_comeIn_27 ?_
          refine lv_topi (fun z9 e9 => ?_)
          obtain rfl : z9 = 5 := e9.trans (by decide)
          refine va_iald hx hb hK hP 17 16 rfl rfl (kk_inl (by decide)) dM_comeIn_28 ?_
          rw [kk_c5]
          refine lv_iload_n hx hb dM_comeIn_29 rfl (lv_at hl 3 rfl) ?_
          refine lv_icmp_ge (tgt := 71) hx hb dM_comeIn_30 (by decide) (fun c_30 => ?_) (fun c_30 => ?_)
          · rw [if_pos c_30] at hf
            refine lv_aload_n hx hb dM_comeIn_71 rfl (lv_at hl 1 rfl) ?_
            refine va_get (D := (dC, dI)) (ci := 3) (v := .ref (ad 17)) (C := R_M) (T := T_M) (N := 23) hx hb hts uw_M hown hK hP 0 rfl rfl 20 (by decide) (hts _ (List.mem_cons_of_mem _ wd_351)) (fun _ h9 => h9) rfl dM_comeIn_72 ?_
            refine lv_iload hx hb dM_comeIn_75 (lv_at hl 0 rfl) ?_
            refine lv_iload_n hx hb dM_comeIn_77 rfl (lv_at hl 3 rfl) ?_
            refine va_iast hx hb hK hP (km_D hj) hS 17 16 rfl rfl (kk_inl (by decide)) dM_comeIn_78 (fun H locs hP _ hS => ?_)
            rw [kk_c6] at hP
            replace hP := km_u_messageRank hP
            replace hw := km_wf_I (f := 20) (i := 6) (v := rank) hw (by decide)
            refine lv_aload_n hx hb dM_comeIn_79 rfl (lv_at hl 1 rfl) ?_
            refine va_get (D := (dC, dI)) (ci := 3) (v := .ref (ad 18)) (C := R_M) (T := T_M) (N := 23) hx hb hts uw_M hown hK hP 0 rfl rfl 21 (by decide) (hts _ (List.mem_cons_of_mem _ wd_352)) (fun _ h9 => h9) rfl dM_comeIn_80 ?_
            refine lv_iload hx hb dM_comeIn_83 (lv_at hl 0 rfl) ?_
            refine lv_iload_n hx hb dM_comeIn_85 rfl (lv_at hl 4 rfl) ?_
            refine va_iast hx hb hK hP (km_D hj) hS 18 17 rfl rfl (kk_inl (by decide)) dM_comeIn_86 (fun H locs hP _ hS => ?_)
            rw [kk_c6] at hP
            replace hP := km_u_messageValue hP
            replace hw := km_wf_I (f := 21) (i := 6) (v := value) hw (by decide)
            refine lv_aload_n hx hb dM_comeIn_87 rfl (lv_at hl 1 rfl) ?_
            refine va_get (D := (dC, dI)) (ci := 3) (v := .ref (ad 16)) (C := R_M) (T := T_M) (N := 23) hx hb hts uw_M hown hK hP 0 rfl rfl 19 (by decide) (hts _ (List.mem_cons_of_mem _ wd_350)) (fun _ h9 => h9) rfl dM_comeIn_88 ?_
            refine lv_iload_n hx hb dM_comeIn_91 rfl (lv_at hl 2 rfl) ?_
            refine lv_dup2_11 hx hb dM_comeIn_92 rfl rfl ?_
            refine va_iald hx hb hK hP 16 15 rfl rfl (kk_inl (by decide)) dM_comeIn_93 ?_
            rw [kk_c1]
            refine lv_iconst (v := 1) hx hb dM_comeIn_94 (by decide) ?_
            refine lv_iadd hx hb dM_comeIn_95 ?_
            refine va_iast hx hb hK hP (km_D hj) hS 16 15 rfl rfl (kk_inl (by decide)) dM_comeIn_96 (fun H locs hP _ hS => ?_)
            rw [kk_c1] at hP
            replace hP := km_u_messages hP
            replace hw : km_wf (sM (sM (sM μ 20 6 rank) 21 6 value) 19 1 ((mI (sM (sM μ 20 6 rank) 21 6 value) 19 1) + 1)) := km_wf_q (v := mI (sM (sM μ 20 6 rank) 21 6 value) 19 1 + 1) hw ⟨3, by decide, by rw [show mI (sM (sM μ 20 6 rank) 21 6 value) 19 1 = mI μ 19 1 from rfl, z_2]; decide⟩
            exact kk_vret hx hb hr hlocks hP hK hS ⟨hf.symm, hw⟩ dM_comeIn_97
          · rw [if_neg c_30] at hf
            refine lv_aload_n hx hb dM_comeIn_33 rfl (lv_at hl 1 rfl) ?_
            refine va_get (D := (dC, dI)) (ci := 3) (v := .ref (ad 17)) (C := R_M) (T := T_M) (N := 23) hx hb hts uw_M hown hK hP 0 rfl rfl 20 (by decide) (hts _ (List.mem_cons_of_mem _ wd_351)) (fun _ h9 => h9) rfl dM_comeIn_34 ?_
            refine lv_iload hx hb dM_comeIn_37 (lv_at hl 0 rfl) ?_
            refine lv_aload_n hx hb dM_comeIn_39 rfl (lv_at hl 1 rfl) ?_
            refine va_get (D := (dC, dI)) (ci := 3) (v := .ref (ad 17)) (C := R_M) (T := T_M) (N := 23) hx hb hts uw_M hown hK hP 0 rfl rfl 20 (by decide) (hts _ (List.mem_cons_of_mem _ wd_351)) (fun _ h9 => h9) rfl dM_comeIn_40 ?_
            refine lv_iload hx hb dM_comeIn_43 (lv_at hl 0 rfl) ?_
            refine lv_iconst (v := 1) hx hb dM_comeIn_45 (by decide) ?_
            refine lv_isub hx hb dM_comeIn_46 ?_
            refine lv_topi (fun z9 e9 => ?_)
            obtain rfl : z9 = 5 := e9.trans (by decide)
            refine va_iald hx hb hK hP 17 16 rfl rfl (kk_inl (by decide)) dM_comeIn_47 ?_
            rw [kk_c5]
            refine va_iast hx hb hK hP (km_D hj) hS 17 16 rfl rfl (kk_inl (by decide)) dM_comeIn_48 (fun H locs hP _ hS => ?_)
            rw [kk_c6] at hP
            replace hP := km_u_messageRank hP
            replace hw := km_wf_I (f := 20) (i := 6) (v := mI μ 20 5) hw (by decide)
            refine lv_aload_n hx hb dM_comeIn_49 rfl (lv_at hl 1 rfl) ?_
            refine va_get (D := (dC, dI)) (ci := 3) (v := .ref (ad 18)) (C := R_M) (T := T_M) (N := 23) hx hb hts uw_M hown hK hP 0 rfl rfl 21 (by decide) (hts _ (List.mem_cons_of_mem _ wd_352)) (fun _ h9 => h9) rfl dM_comeIn_50 ?_
            refine lv_iload hx hb dM_comeIn_53 (lv_at hl 0 rfl) ?_
            refine lv_aload_n hx hb dM_comeIn_55 rfl (lv_at hl 1 rfl) ?_
            refine va_get (D := (dC, dI)) (ci := 3) (v := .ref (ad 18)) (C := R_M) (T := T_M) (N := 23) hx hb hts uw_M hown hK hP 0 rfl rfl 21 (by decide) (hts _ (List.mem_cons_of_mem _ wd_352)) (fun _ h9 => h9) rfl dM_comeIn_56 ?_
            refine lv_iload hx hb dM_comeIn_59 (lv_at hl 0 rfl) ?_
            refine lv_iconst (v := 1) hx hb dM_comeIn_61 (by decide) ?_
            refine lv_isub hx hb dM_comeIn_62 ?_
            refine lv_topi (fun z9 e9 => ?_)
            obtain rfl : z9 = 5 := e9.trans (by decide)
            refine va_iald hx hb hK hP 18 17 rfl rfl (kk_inl (by decide)) dM_comeIn_63 ?_
            rw [kk_c5]
            refine va_iast hx hb hK hP (km_D hj) hS 18 17 rfl rfl (kk_inl (by decide)) dM_comeIn_64 (fun H locs hP _ hS => ?_)
            rw [kk_c6] at hP
            replace hP := km_u_messageValue hP
            replace hw := km_wf_I (f := 21) (i := 6) (v := mI (sM μ 20 6 (mI μ 20 5)) 21 5) hw (by decide)
            refine lv_iinc (v := 5) (lv' := [(4, .int 5), (0, .ref (ad 0)), (1, .int 1), (2, .int rank), (3, .int value)]) hx hb dM_comeIn_65 hl (k := 0) rfl (by decide) (by decide) rfl (fun ls hl => ?_)
            refine lv_goto (tgt := 12) hx hb dM_comeIn_68 (by decide) ?_
            refine lv_iload hx hb dM_comeIn_12 (lv_at hl 0 rfl) ?_
            refine lv_iload_n hx hb dM_comeIn_14 rfl (lv_at hl 2 rfl) ?_
            refine lv_iconst (v := 4) hx hb dM_comeIn_15 (by decide) ?_
            refine lv_imul hx hb dM_comeIn_16 ?_
            refine lv_topi (fun z9 e9 => ?_)
            obtain rfl : z9 = 4 := e9.trans (by decide)
            refine lv_icmp_le (tgt := 71) hx hb dM_comeIn_17 (by decide) (fun c9 => absurd c9 (by decide)) (fun _ => ?_)
            refine lv_aload_n hx hb dM_comeIn_20 rfl (lv_at hl 1 rfl) ?_
            refine va_get (D := (dC, dI)) (ci := 3) (v := .ref (ad 17)) (C := R_M) (T := T_M) (N := 23) hx hb hts uw_M hown hK hP 0 rfl rfl 20 (by decide) (hts _ (List.mem_cons_of_mem _ wd_351)) (fun _ h9 => h9) rfl dM_comeIn_21 ?_
            refine lv_iload hx hb dM_comeIn_24 (lv_at hl 0 rfl) ?_
            refine lv_iconst (v := 1) hx hb dM_comeIn_26 (by decide) ?_
            refine lv_isub hx hb dM_comeIn_27 ?_
            refine lv_topi (fun z9 e9 => ?_)
            obtain rfl : z9 = 4 := e9.trans (by decide)
            refine va_iald hx hb hK hP 17 16 rfl rfl (kk_inl (by decide)) dM_comeIn_28 ?_
            rw [kk_c4]
            refine lv_iload_n hx hb dM_comeIn_29 rfl (lv_at hl 3 rfl) ?_
            refine lv_icmp_ge (tgt := 71) hx hb dM_comeIn_30 (by decide) (fun c_30 => ?_) (fun c_30 => ?_)
            · rw [if_pos c_30] at hf
              refine lv_aload_n hx hb dM_comeIn_71 rfl (lv_at hl 1 rfl) ?_
              refine va_get (D := (dC, dI)) (ci := 3) (v := .ref (ad 17)) (C := R_M) (T := T_M) (N := 23) hx hb hts uw_M hown hK hP 0 rfl rfl 20 (by decide) (hts _ (List.mem_cons_of_mem _ wd_351)) (fun _ h9 => h9) rfl dM_comeIn_72 ?_
              refine lv_iload hx hb dM_comeIn_75 (lv_at hl 0 rfl) ?_
              refine lv_iload_n hx hb dM_comeIn_77 rfl (lv_at hl 3 rfl) ?_
              refine va_iast hx hb hK hP (km_D hj) hS 17 16 rfl rfl (kk_inl (by decide)) dM_comeIn_78 (fun H locs hP _ hS => ?_)
              rw [kk_c5] at hP
              replace hP := km_u_messageRank hP
              replace hw := km_wf_I (f := 20) (i := 5) (v := rank) hw (by decide)
              refine lv_aload_n hx hb dM_comeIn_79 rfl (lv_at hl 1 rfl) ?_
              refine va_get (D := (dC, dI)) (ci := 3) (v := .ref (ad 18)) (C := R_M) (T := T_M) (N := 23) hx hb hts uw_M hown hK hP 0 rfl rfl 21 (by decide) (hts _ (List.mem_cons_of_mem _ wd_352)) (fun _ h9 => h9) rfl dM_comeIn_80 ?_
              refine lv_iload hx hb dM_comeIn_83 (lv_at hl 0 rfl) ?_
              refine lv_iload_n hx hb dM_comeIn_85 rfl (lv_at hl 4 rfl) ?_
              refine va_iast hx hb hK hP (km_D hj) hS 18 17 rfl rfl (kk_inl (by decide)) dM_comeIn_86 (fun H locs hP _ hS => ?_)
              rw [kk_c5] at hP
              replace hP := km_u_messageValue hP
              replace hw := km_wf_I (f := 21) (i := 5) (v := value) hw (by decide)
              refine lv_aload_n hx hb dM_comeIn_87 rfl (lv_at hl 1 rfl) ?_
              refine va_get (D := (dC, dI)) (ci := 3) (v := .ref (ad 16)) (C := R_M) (T := T_M) (N := 23) hx hb hts uw_M hown hK hP 0 rfl rfl 19 (by decide) (hts _ (List.mem_cons_of_mem _ wd_350)) (fun _ h9 => h9) rfl dM_comeIn_88 ?_
              refine lv_iload_n hx hb dM_comeIn_91 rfl (lv_at hl 2 rfl) ?_
              refine lv_dup2_11 hx hb dM_comeIn_92 rfl rfl ?_
              refine va_iald hx hb hK hP 16 15 rfl rfl (kk_inl (by decide)) dM_comeIn_93 ?_
              rw [kk_c1]
              refine lv_iconst (v := 1) hx hb dM_comeIn_94 (by decide) ?_
              refine lv_iadd hx hb dM_comeIn_95 ?_
              refine va_iast hx hb hK hP (km_D hj) hS 16 15 rfl rfl (kk_inl (by decide)) dM_comeIn_96 (fun H locs hP _ hS => ?_)
              rw [kk_c1] at hP
              replace hP := km_u_messages hP
              replace hw : km_wf (sM (sM (sM (sM (sM μ 20 6 (mI μ 20 5)) 21 6 (mI (sM μ 20 6 (mI μ 20 5)) 21 5)) 20 5 rank) 21 5 value) 19 1 ((mI (sM (sM (sM (sM μ 20 6 (mI μ 20 5)) 21 6 (mI (sM μ 20 6 (mI μ 20 5)) 21 5)) 20 5 rank) 21 5 value) 19 1) + 1)) := km_wf_q (v := mI (sM (sM (sM (sM μ 20 6 (mI μ 20 5)) 21 6 (mI (sM μ 20 6 (mI μ 20 5)) 21 5)) 20 5 rank) 21 5 value) 19 1 + 1) hw ⟨3, by decide, by rw [show mI (sM (sM (sM (sM μ 20 6 (mI μ 20 5)) 21 6 (mI (sM μ 20 6 (mI μ 20 5)) 21 5)) 20 5 rank) 21 5 value) 19 1 = mI μ 19 1 from rfl, z_2]; decide⟩
              exact kk_vret hx hb hr hlocks hP hK hS ⟨hf.symm, hw⟩ dM_comeIn_97
            · rw [if_neg c_30] at hf
              refine lv_aload_n hx hb dM_comeIn_33 rfl (lv_at hl 1 rfl) ?_
              refine va_get (D := (dC, dI)) (ci := 3) (v := .ref (ad 17)) (C := R_M) (T := T_M) (N := 23) hx hb hts uw_M hown hK hP 0 rfl rfl 20 (by decide) (hts _ (List.mem_cons_of_mem _ wd_351)) (fun _ h9 => h9) rfl dM_comeIn_34 ?_
              refine lv_iload hx hb dM_comeIn_37 (lv_at hl 0 rfl) ?_
              refine lv_aload_n hx hb dM_comeIn_39 rfl (lv_at hl 1 rfl) ?_
              refine va_get (D := (dC, dI)) (ci := 3) (v := .ref (ad 17)) (C := R_M) (T := T_M) (N := 23) hx hb hts uw_M hown hK hP 0 rfl rfl 20 (by decide) (hts _ (List.mem_cons_of_mem _ wd_351)) (fun _ h9 => h9) rfl dM_comeIn_40 ?_
              refine lv_iload hx hb dM_comeIn_43 (lv_at hl 0 rfl) ?_
              refine lv_iconst (v := 1) hx hb dM_comeIn_45 (by decide) ?_
              refine lv_isub hx hb dM_comeIn_46 ?_
              refine lv_topi (fun z9 e9 => ?_)
              obtain rfl : z9 = 4 := e9.trans (by decide)
              refine va_iald hx hb hK hP 17 16 rfl rfl (kk_inl (by decide)) dM_comeIn_47 ?_
              rw [kk_c4]
              refine va_iast hx hb hK hP (km_D hj) hS 17 16 rfl rfl (kk_inl (by decide)) dM_comeIn_48 (fun H locs hP _ hS => ?_)
              rw [kk_c5] at hP
              replace hP := km_u_messageRank hP
              replace hw := km_wf_I (f := 20) (i := 5) (v := mI (sM (sM μ 20 6 (mI μ 20 5)) 21 6 (mI (sM μ 20 6 (mI μ 20 5)) 21 5)) 20 4) hw (by decide)
              refine lv_aload_n hx hb dM_comeIn_49 rfl (lv_at hl 1 rfl) ?_
              refine va_get (D := (dC, dI)) (ci := 3) (v := .ref (ad 18)) (C := R_M) (T := T_M) (N := 23) hx hb hts uw_M hown hK hP 0 rfl rfl 21 (by decide) (hts _ (List.mem_cons_of_mem _ wd_352)) (fun _ h9 => h9) rfl dM_comeIn_50 ?_
              refine lv_iload hx hb dM_comeIn_53 (lv_at hl 0 rfl) ?_
              refine lv_aload_n hx hb dM_comeIn_55 rfl (lv_at hl 1 rfl) ?_
              refine va_get (D := (dC, dI)) (ci := 3) (v := .ref (ad 18)) (C := R_M) (T := T_M) (N := 23) hx hb hts uw_M hown hK hP 0 rfl rfl 21 (by decide) (hts _ (List.mem_cons_of_mem _ wd_352)) (fun _ h9 => h9) rfl dM_comeIn_56 ?_
              refine lv_iload hx hb dM_comeIn_59 (lv_at hl 0 rfl) ?_
              refine lv_iconst (v := 1) hx hb dM_comeIn_61 (by decide) ?_
              refine lv_isub hx hb dM_comeIn_62 ?_
              refine lv_topi (fun z9 e9 => ?_)
              obtain rfl : z9 = 4 := e9.trans (by decide)
              refine va_iald hx hb hK hP 18 17 rfl rfl (kk_inl (by decide)) dM_comeIn_63 ?_
              rw [kk_c4]
              refine va_iast hx hb hK hP (km_D hj) hS 18 17 rfl rfl (kk_inl (by decide)) dM_comeIn_64 (fun H locs hP _ hS => ?_)
              rw [kk_c5] at hP
              replace hP := km_u_messageValue hP
              replace hw := km_wf_I (f := 21) (i := 5) (v := mI (sM (sM (sM μ 20 6 (mI μ 20 5)) 21 6 (mI (sM μ 20 6 (mI μ 20 5)) 21 5)) 20 5 (mI (sM (sM μ 20 6 (mI μ 20 5)) 21 6 (mI (sM μ 20 6 (mI μ 20 5)) 21 5)) 20 4)) 21 4) hw (by decide)
              refine lv_iinc (v := 4) (lv' := [(4, .int 4), (0, .ref (ad 0)), (1, .int 1), (2, .int rank), (3, .int value)]) hx hb dM_comeIn_65 hl (k := 0) rfl (by decide) (by decide) rfl (fun ls hl => ?_)
              refine lv_goto (tgt := 12) hx hb dM_comeIn_68 (by decide) ?_
              refine lv_iload hx hb dM_comeIn_12 (lv_at hl 0 rfl) ?_
              refine lv_iload_n hx hb dM_comeIn_14 rfl (lv_at hl 2 rfl) ?_
              refine lv_iconst (v := 4) hx hb dM_comeIn_15 (by decide) ?_
              refine lv_imul hx hb dM_comeIn_16 ?_
              refine lv_topi (fun z9 e9 => ?_)
              obtain rfl : z9 = 4 := e9.trans (by decide)
              refine lv_icmp_le (tgt := 71) hx hb dM_comeIn_17 (by decide) (fun _ => ?_) (fun c9 => absurd (by decide) c9)
              refine lv_aload_n hx hb dM_comeIn_71 rfl (lv_at hl 1 rfl) ?_
              refine va_get (D := (dC, dI)) (ci := 3) (v := .ref (ad 17)) (C := R_M) (T := T_M) (N := 23) hx hb hts uw_M hown hK hP 0 rfl rfl 20 (by decide) (hts _ (List.mem_cons_of_mem _ wd_351)) (fun _ h9 => h9) rfl dM_comeIn_72 ?_
              refine lv_iload hx hb dM_comeIn_75 (lv_at hl 0 rfl) ?_
              refine lv_iload_n hx hb dM_comeIn_77 rfl (lv_at hl 3 rfl) ?_
              refine va_iast hx hb hK hP (km_D hj) hS 17 16 rfl rfl (kk_inl (by decide)) dM_comeIn_78 (fun H locs hP _ hS => ?_)
              rw [kk_c4] at hP
              replace hP := km_u_messageRank hP
              replace hw := km_wf_I (f := 20) (i := 4) (v := rank) hw (by decide)
              refine lv_aload_n hx hb dM_comeIn_79 rfl (lv_at hl 1 rfl) ?_
              refine va_get (D := (dC, dI)) (ci := 3) (v := .ref (ad 18)) (C := R_M) (T := T_M) (N := 23) hx hb hts uw_M hown hK hP 0 rfl rfl 21 (by decide) (hts _ (List.mem_cons_of_mem _ wd_352)) (fun _ h9 => h9) rfl dM_comeIn_80 ?_
              refine lv_iload hx hb dM_comeIn_83 (lv_at hl 0 rfl) ?_
              refine lv_iload_n hx hb dM_comeIn_85 rfl (lv_at hl 4 rfl) ?_
              refine va_iast hx hb hK hP (km_D hj) hS 18 17 rfl rfl (kk_inl (by decide)) dM_comeIn_86 (fun H locs hP _ hS => ?_)
              rw [kk_c4] at hP
              replace hP := km_u_messageValue hP
              replace hw := km_wf_I (f := 21) (i := 4) (v := value) hw (by decide)
              refine lv_aload_n hx hb dM_comeIn_87 rfl (lv_at hl 1 rfl) ?_
              refine va_get (D := (dC, dI)) (ci := 3) (v := .ref (ad 16)) (C := R_M) (T := T_M) (N := 23) hx hb hts uw_M hown hK hP 0 rfl rfl 19 (by decide) (hts _ (List.mem_cons_of_mem _ wd_350)) (fun _ h9 => h9) rfl dM_comeIn_88 ?_
              refine lv_iload_n hx hb dM_comeIn_91 rfl (lv_at hl 2 rfl) ?_
              refine lv_dup2_11 hx hb dM_comeIn_92 rfl rfl ?_
              refine va_iald hx hb hK hP 16 15 rfl rfl (kk_inl (by decide)) dM_comeIn_93 ?_
              rw [kk_c1]
              refine lv_iconst (v := 1) hx hb dM_comeIn_94 (by decide) ?_
              refine lv_iadd hx hb dM_comeIn_95 ?_
              refine va_iast hx hb hK hP (km_D hj) hS 16 15 rfl rfl (kk_inl (by decide)) dM_comeIn_96 (fun H locs hP _ hS => ?_)
              rw [kk_c1] at hP
              replace hP := km_u_messages hP
              replace hw : km_wf (sM (sM (sM (sM (sM (sM (sM μ 20 6 (mI μ 20 5)) 21 6 (mI (sM μ 20 6 (mI μ 20 5)) 21 5)) 20 5 (mI (sM (sM μ 20 6 (mI μ 20 5)) 21 6 (mI (sM μ 20 6 (mI μ 20 5)) 21 5)) 20 4)) 21 5 (mI (sM (sM (sM μ 20 6 (mI μ 20 5)) 21 6 (mI (sM μ 20 6 (mI μ 20 5)) 21 5)) 20 5 (mI (sM (sM μ 20 6 (mI μ 20 5)) 21 6 (mI (sM μ 20 6 (mI μ 20 5)) 21 5)) 20 4)) 21 4)) 20 4 rank) 21 4 value) 19 1 ((mI (sM (sM (sM (sM (sM (sM μ 20 6 (mI μ 20 5)) 21 6 (mI (sM μ 20 6 (mI μ 20 5)) 21 5)) 20 5 (mI (sM (sM μ 20 6 (mI μ 20 5)) 21 6 (mI (sM μ 20 6 (mI μ 20 5)) 21 5)) 20 4)) 21 5 (mI (sM (sM (sM μ 20 6 (mI μ 20 5)) 21 6 (mI (sM μ 20 6 (mI μ 20 5)) 21 5)) 20 5 (mI (sM (sM μ 20 6 (mI μ 20 5)) 21 6 (mI (sM μ 20 6 (mI μ 20 5)) 21 5)) 20 4)) 21 4)) 20 4 rank) 21 4 value) 19 1) + 1)) := km_wf_q (v := mI (sM (sM (sM (sM (sM (sM μ 20 6 (mI μ 20 5)) 21 6 (mI (sM μ 20 6 (mI μ 20 5)) 21 5)) 20 5 (mI (sM (sM μ 20 6 (mI μ 20 5)) 21 6 (mI (sM μ 20 6 (mI μ 20 5)) 21 5)) 20 4)) 21 5 (mI (sM (sM (sM μ 20 6 (mI μ 20 5)) 21 6 (mI (sM μ 20 6 (mI μ 20 5)) 21 5)) 20 5 (mI (sM (sM μ 20 6 (mI μ 20 5)) 21 6 (mI (sM μ 20 6 (mI μ 20 5)) 21 5)) 20 4)) 21 4)) 20 4 rank) 21 4 value) 19 1 + 1) hw ⟨3, by decide, by rw [show mI (sM (sM (sM (sM (sM (sM μ 20 6 (mI μ 20 5)) 21 6 (mI (sM μ 20 6 (mI μ 20 5)) 21 5)) 20 5 (mI (sM (sM μ 20 6 (mI μ 20 5)) 21 6 (mI (sM μ 20 6 (mI μ 20 5)) 21 5)) 20 4)) 21 5 (mI (sM (sM (sM μ 20 6 (mI μ 20 5)) 21 6 (mI (sM μ 20 6 (mI μ 20 5)) 21 5)) 20 5 (mI (sM (sM μ 20 6 (mI μ 20 5)) 21 6 (mI (sM μ 20 6 (mI μ 20 5)) 21 5)) 20 4)) 21 4)) 20 4 rank) 21 4 value) 19 1 = mI μ 19 1 from rfl, z_2]; decide⟩
              exact kk_vret hx hb hr hlocks hP hK hS ⟨hf.symm, hw⟩ dM_comeIn_97
        · rw [if_neg z_2] at hf
          have z_3 : (mI μ 19 1) = 3 := km_sz3 (hmes) z_0 z_1 z_2
          refine lv_iload_n hx hb dM_comeIn_0 rfl (lv_at hl 1 rfl) ?_
          refine lv_iconst (v := 4) hx hb dM_comeIn_1 (by decide) ?_
          refine lv_imul hx hb dM_comeIn_2 ?_
          refine lv_topi (fun z9 e9 => ?_)
          obtain rfl : z9 = 4 := e9.trans (by decide)
          refine lv_aload_n hx hb dM_comeIn_3 rfl (lv_at hl 0 rfl) ?_
          refine va_get (D := (dC, dI)) (ci := 3) (v := .ref (ad 16)) (C := R_M) (T := T_M) (N := 23) hx hb hts uw_M hown hK hP 0 rfl rfl 19 (by decide) (hts _ (List.mem_cons_of_mem _ wd_350)) (fun _ h9 => h9) rfl dM_comeIn_4 ?_
          refine lv_iload_n hx hb dM_comeIn_7 rfl (lv_at hl 1 rfl) ?_
          refine va_iald hx hb hK hP 16 15 rfl rfl (kk_inl (by decide)) dM_comeIn_8 ?_
          rw [kk_c1]
          rw [show mI μ 19 1 = 3 from (show (mI μ 19 1) = _ from rfl).trans z_3]
          refine lv_iadd hx hb dM_comeIn_9 ?_
          refine lv_topi (fun z9 e9 => ?_)
          obtain rfl : z9 = 7 := e9.trans (by decide)
          refine lv_istore (lv' := [(4, .int 7), (0, .ref (ad 0)), (1, .int 1), (2, .int rank), (3, .int value)]) hx hb dM_comeIn_10 hl (by decide) rfl (fun ls hl => ?_)
          refine lv_iload hx hb dM_comeIn_12 (lv_at hl 0 rfl) ?_
          refine lv_iload_n hx hb dM_comeIn_14 rfl (lv_at hl 2 rfl) ?_
          refine lv_iconst (v := 4) hx hb dM_comeIn_15 (by decide) ?_
          refine lv_imul hx hb dM_comeIn_16 ?_
          refine lv_topi (fun z9 e9 => ?_)
          obtain rfl : z9 = 4 := e9.trans (by decide)
          refine lv_icmp_le (tgt := 71) hx hb dM_comeIn_17 (by decide) (fun c9 => absurd c9 (by decide)) (fun _ => ?_)
          refine lv_aload_n hx hb dM_comeIn_20 rfl (lv_at hl 1 rfl) ?_
          refine va_get (D := (dC, dI)) (ci := 3) (v := .ref (ad 17)) (C := R_M) (T := T_M) (N := 23) hx hb hts uw_M hown hK hP 0 rfl rfl 20 (by decide) (hts _ (List.mem_cons_of_mem _ wd_351)) (fun _ h9 => h9) rfl dM_comeIn_21 ?_
          refine lv_iload hx hb dM_comeIn_24 (lv_at hl 0 rfl) ?_
          refine lv_iconst (v := 1) hx hb dM_comeIn_26 (by decide) ?_
          refine lv_isub hx hb dM_comeIn_27 ?_
          refine lv_topi (fun z9 e9 => ?_)
          obtain rfl : z9 = 6 := e9.trans (by decide)
          refine va_iald hx hb hK hP 17 16 rfl rfl (kk_inl (by decide)) dM_comeIn_28 ?_
          rw [kk_c6]
          refine lv_iload_n hx hb dM_comeIn_29 rfl (lv_at hl 3 rfl) ?_
          refine lv_icmp_ge (tgt := 71) hx hb dM_comeIn_30 (by decide) (fun c_30 => ?_) (fun c_30 => ?_)
          · rw [if_pos c_30] at hf
            refine lv_aload_n hx hb dM_comeIn_71 rfl (lv_at hl 1 rfl) ?_
            refine va_get (D := (dC, dI)) (ci := 3) (v := .ref (ad 17)) (C := R_M) (T := T_M) (N := 23) hx hb hts uw_M hown hK hP 0 rfl rfl 20 (by decide) (hts _ (List.mem_cons_of_mem _ wd_351)) (fun _ h9 => h9) rfl dM_comeIn_72 ?_
            refine lv_iload hx hb dM_comeIn_75 (lv_at hl 0 rfl) ?_
            refine lv_iload_n hx hb dM_comeIn_77 rfl (lv_at hl 3 rfl) ?_
            refine va_iast hx hb hK hP (km_D hj) hS 17 16 rfl rfl (kk_inl (by decide)) dM_comeIn_78 (fun H locs hP _ hS => ?_)
            rw [kk_c7] at hP
            replace hP := km_u_messageRank hP
            replace hw := km_wf_I (f := 20) (i := 7) (v := rank) hw (by decide)
            refine lv_aload_n hx hb dM_comeIn_79 rfl (lv_at hl 1 rfl) ?_
            refine va_get (D := (dC, dI)) (ci := 3) (v := .ref (ad 18)) (C := R_M) (T := T_M) (N := 23) hx hb hts uw_M hown hK hP 0 rfl rfl 21 (by decide) (hts _ (List.mem_cons_of_mem _ wd_352)) (fun _ h9 => h9) rfl dM_comeIn_80 ?_
            refine lv_iload hx hb dM_comeIn_83 (lv_at hl 0 rfl) ?_
            refine lv_iload_n hx hb dM_comeIn_85 rfl (lv_at hl 4 rfl) ?_
            refine va_iast hx hb hK hP (km_D hj) hS 18 17 rfl rfl (kk_inl (by decide)) dM_comeIn_86 (fun H locs hP _ hS => ?_)
            rw [kk_c7] at hP
            replace hP := km_u_messageValue hP
            replace hw := km_wf_I (f := 21) (i := 7) (v := value) hw (by decide)
            refine lv_aload_n hx hb dM_comeIn_87 rfl (lv_at hl 1 rfl) ?_
            refine va_get (D := (dC, dI)) (ci := 3) (v := .ref (ad 16)) (C := R_M) (T := T_M) (N := 23) hx hb hts uw_M hown hK hP 0 rfl rfl 19 (by decide) (hts _ (List.mem_cons_of_mem _ wd_350)) (fun _ h9 => h9) rfl dM_comeIn_88 ?_
            refine lv_iload_n hx hb dM_comeIn_91 rfl (lv_at hl 2 rfl) ?_
            refine lv_dup2_11 hx hb dM_comeIn_92 rfl rfl ?_
            refine va_iald hx hb hK hP 16 15 rfl rfl (kk_inl (by decide)) dM_comeIn_93 ?_
            rw [kk_c1]
            refine lv_iconst (v := 1) hx hb dM_comeIn_94 (by decide) ?_
            refine lv_iadd hx hb dM_comeIn_95 ?_
            refine va_iast hx hb hK hP (km_D hj) hS 16 15 rfl rfl (kk_inl (by decide)) dM_comeIn_96 (fun H locs hP _ hS => ?_)
            rw [kk_c1] at hP
            replace hP := km_u_messages hP
            replace hw : km_wf (sM (sM (sM μ 20 7 rank) 21 7 value) 19 1 ((mI (sM (sM μ 20 7 rank) 21 7 value) 19 1) + 1)) := km_wf_q (v := mI (sM (sM μ 20 7 rank) 21 7 value) 19 1 + 1) hw ⟨4, by decide, by rw [show mI (sM (sM μ 20 7 rank) 21 7 value) 19 1 = mI μ 19 1 from rfl, z_3]; decide⟩
            exact kk_vret hx hb hr hlocks hP hK hS ⟨hf.symm, hw⟩ dM_comeIn_97
          · rw [if_neg c_30] at hf
            refine lv_aload_n hx hb dM_comeIn_33 rfl (lv_at hl 1 rfl) ?_
            refine va_get (D := (dC, dI)) (ci := 3) (v := .ref (ad 17)) (C := R_M) (T := T_M) (N := 23) hx hb hts uw_M hown hK hP 0 rfl rfl 20 (by decide) (hts _ (List.mem_cons_of_mem _ wd_351)) (fun _ h9 => h9) rfl dM_comeIn_34 ?_
            refine lv_iload hx hb dM_comeIn_37 (lv_at hl 0 rfl) ?_
            refine lv_aload_n hx hb dM_comeIn_39 rfl (lv_at hl 1 rfl) ?_
            refine va_get (D := (dC, dI)) (ci := 3) (v := .ref (ad 17)) (C := R_M) (T := T_M) (N := 23) hx hb hts uw_M hown hK hP 0 rfl rfl 20 (by decide) (hts _ (List.mem_cons_of_mem _ wd_351)) (fun _ h9 => h9) rfl dM_comeIn_40 ?_
            refine lv_iload hx hb dM_comeIn_43 (lv_at hl 0 rfl) ?_
            refine lv_iconst (v := 1) hx hb dM_comeIn_45 (by decide) ?_
            refine lv_isub hx hb dM_comeIn_46 ?_
            refine lv_topi (fun z9 e9 => ?_)
            obtain rfl : z9 = 6 := e9.trans (by decide)
            refine va_iald hx hb hK hP 17 16 rfl rfl (kk_inl (by decide)) dM_comeIn_47 ?_
            rw [kk_c6]
            refine va_iast hx hb hK hP (km_D hj) hS 17 16 rfl rfl (kk_inl (by decide)) dM_comeIn_48 (fun H locs hP _ hS => ?_)
            rw [kk_c7] at hP
            replace hP := km_u_messageRank hP
            replace hw := km_wf_I (f := 20) (i := 7) (v := mI μ 20 6) hw (by decide)
            refine lv_aload_n hx hb dM_comeIn_49 rfl (lv_at hl 1 rfl) ?_
            refine va_get (D := (dC, dI)) (ci := 3) (v := .ref (ad 18)) (C := R_M) (T := T_M) (N := 23) hx hb hts uw_M hown hK hP 0 rfl rfl 21 (by decide) (hts _ (List.mem_cons_of_mem _ wd_352)) (fun _ h9 => h9) rfl dM_comeIn_50 ?_
            refine lv_iload hx hb dM_comeIn_53 (lv_at hl 0 rfl) ?_
            refine lv_aload_n hx hb dM_comeIn_55 rfl (lv_at hl 1 rfl) ?_
            refine va_get (D := (dC, dI)) (ci := 3) (v := .ref (ad 18)) (C := R_M) (T := T_M) (N := 23) hx hb hts uw_M hown hK hP 0 rfl rfl 21 (by decide) (hts _ (List.mem_cons_of_mem _ wd_352)) (fun _ h9 => h9) rfl dM_comeIn_56 ?_
            refine lv_iload hx hb dM_comeIn_59 (lv_at hl 0 rfl) ?_
            refine lv_iconst (v := 1) hx hb dM_comeIn_61 (by decide) ?_
            refine lv_isub hx hb dM_comeIn_62 ?_
            refine lv_topi (fun z9 e9 => ?_)
            obtain rfl : z9 = 6 := e9.trans (by decide)
            refine va_iald hx hb hK hP 18 17 rfl rfl (kk_inl (by decide)) dM_comeIn_63 ?_
            rw [kk_c6]
            refine va_iast hx hb hK hP (km_D hj) hS 18 17 rfl rfl (kk_inl (by decide)) dM_comeIn_64 (fun H locs hP _ hS => ?_)
            rw [kk_c7] at hP
            replace hP := km_u_messageValue hP
            replace hw := km_wf_I (f := 21) (i := 7) (v := mI (sM μ 20 7 (mI μ 20 6)) 21 6) hw (by decide)
            refine lv_iinc (v := 6) (lv' := [(4, .int 6), (0, .ref (ad 0)), (1, .int 1), (2, .int rank), (3, .int value)]) hx hb dM_comeIn_65 hl (k := 0) rfl (by decide) (by decide) rfl (fun ls hl => ?_)
            refine lv_goto (tgt := 12) hx hb dM_comeIn_68 (by decide) ?_
            refine lv_iload hx hb dM_comeIn_12 (lv_at hl 0 rfl) ?_
            refine lv_iload_n hx hb dM_comeIn_14 rfl (lv_at hl 2 rfl) ?_
            refine lv_iconst (v := 4) hx hb dM_comeIn_15 (by decide) ?_
            refine lv_imul hx hb dM_comeIn_16 ?_
            refine lv_topi (fun z9 e9 => ?_)
            obtain rfl : z9 = 4 := e9.trans (by decide)
            refine lv_icmp_le (tgt := 71) hx hb dM_comeIn_17 (by decide) (fun c9 => absurd c9 (by decide)) (fun _ => ?_)
            refine lv_aload_n hx hb dM_comeIn_20 rfl (lv_at hl 1 rfl) ?_
            refine va_get (D := (dC, dI)) (ci := 3) (v := .ref (ad 17)) (C := R_M) (T := T_M) (N := 23) hx hb hts uw_M hown hK hP 0 rfl rfl 20 (by decide) (hts _ (List.mem_cons_of_mem _ wd_351)) (fun _ h9 => h9) rfl dM_comeIn_21 ?_
            refine lv_iload hx hb dM_comeIn_24 (lv_at hl 0 rfl) ?_
            refine lv_iconst (v := 1) hx hb dM_comeIn_26 (by decide) ?_
            refine lv_isub hx hb dM_comeIn_27 ?_
            refine lv_topi (fun z9 e9 => ?_)
            obtain rfl : z9 = 5 := e9.trans (by decide)
            refine va_iald hx hb hK hP 17 16 rfl rfl (kk_inl (by decide)) dM_comeIn_28 ?_
            rw [kk_c5]
            refine lv_iload_n hx hb dM_comeIn_29 rfl (lv_at hl 3 rfl) ?_
            refine lv_icmp_ge (tgt := 71) hx hb dM_comeIn_30 (by decide) (fun c_30 => ?_) (fun c_30 => ?_)
            · rw [if_pos c_30] at hf
              refine lv_aload_n hx hb dM_comeIn_71 rfl (lv_at hl 1 rfl) ?_
              refine va_get (D := (dC, dI)) (ci := 3) (v := .ref (ad 17)) (C := R_M) (T := T_M) (N := 23) hx hb hts uw_M hown hK hP 0 rfl rfl 20 (by decide) (hts _ (List.mem_cons_of_mem _ wd_351)) (fun _ h9 => h9) rfl dM_comeIn_72 ?_
              refine lv_iload hx hb dM_comeIn_75 (lv_at hl 0 rfl) ?_
              refine lv_iload_n hx hb dM_comeIn_77 rfl (lv_at hl 3 rfl) ?_
              refine va_iast hx hb hK hP (km_D hj) hS 17 16 rfl rfl (kk_inl (by decide)) dM_comeIn_78 (fun H locs hP _ hS => ?_)
              rw [kk_c6] at hP
              replace hP := km_u_messageRank hP
              replace hw := km_wf_I (f := 20) (i := 6) (v := rank) hw (by decide)
              refine lv_aload_n hx hb dM_comeIn_79 rfl (lv_at hl 1 rfl) ?_
              refine va_get (D := (dC, dI)) (ci := 3) (v := .ref (ad 18)) (C := R_M) (T := T_M) (N := 23) hx hb hts uw_M hown hK hP 0 rfl rfl 21 (by decide) (hts _ (List.mem_cons_of_mem _ wd_352)) (fun _ h9 => h9) rfl dM_comeIn_80 ?_
              refine lv_iload hx hb dM_comeIn_83 (lv_at hl 0 rfl) ?_
              refine lv_iload_n hx hb dM_comeIn_85 rfl (lv_at hl 4 rfl) ?_
              refine va_iast hx hb hK hP (km_D hj) hS 18 17 rfl rfl (kk_inl (by decide)) dM_comeIn_86 (fun H locs hP _ hS => ?_)
              rw [kk_c6] at hP
              replace hP := km_u_messageValue hP
              replace hw := km_wf_I (f := 21) (i := 6) (v := value) hw (by decide)
              refine lv_aload_n hx hb dM_comeIn_87 rfl (lv_at hl 1 rfl) ?_
              refine va_get (D := (dC, dI)) (ci := 3) (v := .ref (ad 16)) (C := R_M) (T := T_M) (N := 23) hx hb hts uw_M hown hK hP 0 rfl rfl 19 (by decide) (hts _ (List.mem_cons_of_mem _ wd_350)) (fun _ h9 => h9) rfl dM_comeIn_88 ?_
              refine lv_iload_n hx hb dM_comeIn_91 rfl (lv_at hl 2 rfl) ?_
              refine lv_dup2_11 hx hb dM_comeIn_92 rfl rfl ?_
              refine va_iald hx hb hK hP 16 15 rfl rfl (kk_inl (by decide)) dM_comeIn_93 ?_
              rw [kk_c1]
              refine lv_iconst (v := 1) hx hb dM_comeIn_94 (by decide) ?_
              refine lv_iadd hx hb dM_comeIn_95 ?_
              refine va_iast hx hb hK hP (km_D hj) hS 16 15 rfl rfl (kk_inl (by decide)) dM_comeIn_96 (fun H locs hP _ hS => ?_)
              rw [kk_c1] at hP
              replace hP := km_u_messages hP
              replace hw : km_wf (sM (sM (sM (sM (sM μ 20 7 (mI μ 20 6)) 21 7 (mI (sM μ 20 7 (mI μ 20 6)) 21 6)) 20 6 rank) 21 6 value) 19 1 ((mI (sM (sM (sM (sM μ 20 7 (mI μ 20 6)) 21 7 (mI (sM μ 20 7 (mI μ 20 6)) 21 6)) 20 6 rank) 21 6 value) 19 1) + 1)) := km_wf_q (v := mI (sM (sM (sM (sM μ 20 7 (mI μ 20 6)) 21 7 (mI (sM μ 20 7 (mI μ 20 6)) 21 6)) 20 6 rank) 21 6 value) 19 1 + 1) hw ⟨4, by decide, by rw [show mI (sM (sM (sM (sM μ 20 7 (mI μ 20 6)) 21 7 (mI (sM μ 20 7 (mI μ 20 6)) 21 6)) 20 6 rank) 21 6 value) 19 1 = mI μ 19 1 from rfl, z_3]; decide⟩
              exact kk_vret hx hb hr hlocks hP hK hS ⟨hf.symm, hw⟩ dM_comeIn_97
            · rw [if_neg c_30] at hf
              refine lv_aload_n hx hb dM_comeIn_33 rfl (lv_at hl 1 rfl) ?_
              refine va_get (D := (dC, dI)) (ci := 3) (v := .ref (ad 17)) (C := R_M) (T := T_M) (N := 23) hx hb hts uw_M hown hK hP 0 rfl rfl 20 (by decide) (hts _ (List.mem_cons_of_mem _ wd_351)) (fun _ h9 => h9) rfl dM_comeIn_34 ?_
              refine lv_iload hx hb dM_comeIn_37 (lv_at hl 0 rfl) ?_
              refine lv_aload_n hx hb dM_comeIn_39 rfl (lv_at hl 1 rfl) ?_
              refine va_get (D := (dC, dI)) (ci := 3) (v := .ref (ad 17)) (C := R_M) (T := T_M) (N := 23) hx hb hts uw_M hown hK hP 0 rfl rfl 20 (by decide) (hts _ (List.mem_cons_of_mem _ wd_351)) (fun _ h9 => h9) rfl dM_comeIn_40 ?_
              refine lv_iload hx hb dM_comeIn_43 (lv_at hl 0 rfl) ?_
              refine lv_iconst (v := 1) hx hb dM_comeIn_45 (by decide) ?_
              refine lv_isub hx hb dM_comeIn_46 ?_
              refine lv_topi (fun z9 e9 => ?_)
              obtain rfl : z9 = 5 := e9.trans (by decide)
              refine va_iald hx hb hK hP 17 16 rfl rfl (kk_inl (by decide)) dM_comeIn_47 ?_
              rw [kk_c5]
              refine va_iast hx hb hK hP (km_D hj) hS 17 16 rfl rfl (kk_inl (by decide)) dM_comeIn_48 (fun H locs hP _ hS => ?_)
              rw [kk_c6] at hP
              replace hP := km_u_messageRank hP
              replace hw := km_wf_I (f := 20) (i := 6) (v := mI (sM (sM μ 20 7 (mI μ 20 6)) 21 7 (mI (sM μ 20 7 (mI μ 20 6)) 21 6)) 20 5) hw (by decide)
              refine lv_aload_n hx hb dM_comeIn_49 rfl (lv_at hl 1 rfl) ?_
              refine va_get (D := (dC, dI)) (ci := 3) (v := .ref (ad 18)) (C := R_M) (T := T_M) (N := 23) hx hb hts uw_M hown hK hP 0 rfl rfl 21 (by decide) (hts _ (List.mem_cons_of_mem _ wd_352)) (fun _ h9 => h9) rfl dM_comeIn_50 ?_
              refine lv_iload hx hb dM_comeIn_53 (lv_at hl 0 rfl) ?_
              refine lv_aload_n hx hb dM_comeIn_55 rfl (lv_at hl 1 rfl) ?_
              refine va_get (D := (dC, dI)) (ci := 3) (v := .ref (ad 18)) (C := R_M) (T := T_M) (N := 23) hx hb hts uw_M hown hK hP 0 rfl rfl 21 (by decide) (hts _ (List.mem_cons_of_mem _ wd_352)) (fun _ h9 => h9) rfl dM_comeIn_56 ?_
              refine lv_iload hx hb dM_comeIn_59 (lv_at hl 0 rfl) ?_
              refine lv_iconst (v := 1) hx hb dM_comeIn_61 (by decide) ?_
              refine lv_isub hx hb dM_comeIn_62 ?_
              refine lv_topi (fun z9 e9 => ?_)
              obtain rfl : z9 = 5 := e9.trans (by decide)
              refine va_iald hx hb hK hP 18 17 rfl rfl (kk_inl (by decide)) dM_comeIn_63 ?_
              rw [kk_c5]
              refine va_iast hx hb hK hP (km_D hj) hS 18 17 rfl rfl (kk_inl (by decide)) dM_comeIn_64 (fun H locs hP _ hS => ?_)
              rw [kk_c6] at hP
              replace hP := km_u_messageValue hP
              replace hw := km_wf_I (f := 21) (i := 6) (v := mI (sM (sM (sM μ 20 7 (mI μ 20 6)) 21 7 (mI (sM μ 20 7 (mI μ 20 6)) 21 6)) 20 6 (mI (sM (sM μ 20 7 (mI μ 20 6)) 21 7 (mI (sM μ 20 7 (mI μ 20 6)) 21 6)) 20 5)) 21 5) hw (by decide)
              refine lv_iinc (v := 5) (lv' := [(4, .int 5), (0, .ref (ad 0)), (1, .int 1), (2, .int rank), (3, .int value)]) hx hb dM_comeIn_65 hl (k := 0) rfl (by decide) (by decide) rfl (fun ls hl => ?_)
              refine lv_goto (tgt := 12) hx hb dM_comeIn_68 (by decide) ?_
              refine lv_iload hx hb dM_comeIn_12 (lv_at hl 0 rfl) ?_
              refine lv_iload_n hx hb dM_comeIn_14 rfl (lv_at hl 2 rfl) ?_
              refine lv_iconst (v := 4) hx hb dM_comeIn_15 (by decide) ?_
              refine lv_imul hx hb dM_comeIn_16 ?_
              refine lv_topi (fun z9 e9 => ?_)
              obtain rfl : z9 = 4 := e9.trans (by decide)
              refine lv_icmp_le (tgt := 71) hx hb dM_comeIn_17 (by decide) (fun c9 => absurd c9 (by decide)) (fun _ => ?_)
              refine lv_aload_n hx hb dM_comeIn_20 rfl (lv_at hl 1 rfl) ?_
              refine va_get (D := (dC, dI)) (ci := 3) (v := .ref (ad 17)) (C := R_M) (T := T_M) (N := 23) hx hb hts uw_M hown hK hP 0 rfl rfl 20 (by decide) (hts _ (List.mem_cons_of_mem _ wd_351)) (fun _ h9 => h9) rfl dM_comeIn_21 ?_
              refine lv_iload hx hb dM_comeIn_24 (lv_at hl 0 rfl) ?_
              refine lv_iconst (v := 1) hx hb dM_comeIn_26 (by decide) ?_
              refine lv_isub hx hb dM_comeIn_27 ?_
              refine lv_topi (fun z9 e9 => ?_)
              obtain rfl : z9 = 4 := e9.trans (by decide)
              refine va_iald hx hb hK hP 17 16 rfl rfl (kk_inl (by decide)) dM_comeIn_28 ?_
              rw [kk_c4]
              refine lv_iload_n hx hb dM_comeIn_29 rfl (lv_at hl 3 rfl) ?_
              refine lv_icmp_ge (tgt := 71) hx hb dM_comeIn_30 (by decide) (fun c_30 => ?_) (fun c_30 => ?_)
              · rw [if_pos c_30] at hf
                refine lv_aload_n hx hb dM_comeIn_71 rfl (lv_at hl 1 rfl) ?_
                refine va_get (D := (dC, dI)) (ci := 3) (v := .ref (ad 17)) (C := R_M) (T := T_M) (N := 23) hx hb hts uw_M hown hK hP 0 rfl rfl 20 (by decide) (hts _ (List.mem_cons_of_mem _ wd_351)) (fun _ h9 => h9) rfl dM_comeIn_72 ?_
                refine lv_iload hx hb dM_comeIn_75 (lv_at hl 0 rfl) ?_
                refine lv_iload_n hx hb dM_comeIn_77 rfl (lv_at hl 3 rfl) ?_
                refine va_iast hx hb hK hP (km_D hj) hS 17 16 rfl rfl (kk_inl (by decide)) dM_comeIn_78 (fun H locs hP _ hS => ?_)
                rw [kk_c5] at hP
                replace hP := km_u_messageRank hP
                replace hw := km_wf_I (f := 20) (i := 5) (v := rank) hw (by decide)
                refine lv_aload_n hx hb dM_comeIn_79 rfl (lv_at hl 1 rfl) ?_
                refine va_get (D := (dC, dI)) (ci := 3) (v := .ref (ad 18)) (C := R_M) (T := T_M) (N := 23) hx hb hts uw_M hown hK hP 0 rfl rfl 21 (by decide) (hts _ (List.mem_cons_of_mem _ wd_352)) (fun _ h9 => h9) rfl dM_comeIn_80 ?_
                refine lv_iload hx hb dM_comeIn_83 (lv_at hl 0 rfl) ?_
                refine lv_iload_n hx hb dM_comeIn_85 rfl (lv_at hl 4 rfl) ?_
                refine va_iast hx hb hK hP (km_D hj) hS 18 17 rfl rfl (kk_inl (by decide)) dM_comeIn_86 (fun H locs hP _ hS => ?_)
                rw [kk_c5] at hP
                replace hP := km_u_messageValue hP
                replace hw := km_wf_I (f := 21) (i := 5) (v := value) hw (by decide)
                refine lv_aload_n hx hb dM_comeIn_87 rfl (lv_at hl 1 rfl) ?_
                refine va_get (D := (dC, dI)) (ci := 3) (v := .ref (ad 16)) (C := R_M) (T := T_M) (N := 23) hx hb hts uw_M hown hK hP 0 rfl rfl 19 (by decide) (hts _ (List.mem_cons_of_mem _ wd_350)) (fun _ h9 => h9) rfl dM_comeIn_88 ?_
                refine lv_iload_n hx hb dM_comeIn_91 rfl (lv_at hl 2 rfl) ?_
                refine lv_dup2_11 hx hb dM_comeIn_92 rfl rfl ?_
                refine va_iald hx hb hK hP 16 15 rfl rfl (kk_inl (by decide)) dM_comeIn_93 ?_
                rw [kk_c1]
                refine lv_iconst (v := 1) hx hb dM_comeIn_94 (by decide) ?_
                refine lv_iadd hx hb dM_comeIn_95 ?_
                refine va_iast hx hb hK hP (km_D hj) hS 16 15 rfl rfl (kk_inl (by decide)) dM_comeIn_96 (fun H locs hP _ hS => ?_)
                rw [kk_c1] at hP
                replace hP := km_u_messages hP
                replace hw : km_wf (sM (sM (sM (sM (sM (sM (sM μ 20 7 (mI μ 20 6)) 21 7 (mI (sM μ 20 7 (mI μ 20 6)) 21 6)) 20 6 (mI (sM (sM μ 20 7 (mI μ 20 6)) 21 7 (mI (sM μ 20 7 (mI μ 20 6)) 21 6)) 20 5)) 21 6 (mI (sM (sM (sM μ 20 7 (mI μ 20 6)) 21 7 (mI (sM μ 20 7 (mI μ 20 6)) 21 6)) 20 6 (mI (sM (sM μ 20 7 (mI μ 20 6)) 21 7 (mI (sM μ 20 7 (mI μ 20 6)) 21 6)) 20 5)) 21 5)) 20 5 rank) 21 5 value) 19 1 ((mI (sM (sM (sM (sM (sM (sM μ 20 7 (mI μ 20 6)) 21 7 (mI (sM μ 20 7 (mI μ 20 6)) 21 6)) 20 6 (mI (sM (sM μ 20 7 (mI μ 20 6)) 21 7 (mI (sM μ 20 7 (mI μ 20 6)) 21 6)) 20 5)) 21 6 (mI (sM (sM (sM μ 20 7 (mI μ 20 6)) 21 7 (mI (sM μ 20 7 (mI μ 20 6)) 21 6)) 20 6 (mI (sM (sM μ 20 7 (mI μ 20 6)) 21 7 (mI (sM μ 20 7 (mI μ 20 6)) 21 6)) 20 5)) 21 5)) 20 5 rank) 21 5 value) 19 1) + 1)) := km_wf_q (v := mI (sM (sM (sM (sM (sM (sM μ 20 7 (mI μ 20 6)) 21 7 (mI (sM μ 20 7 (mI μ 20 6)) 21 6)) 20 6 (mI (sM (sM μ 20 7 (mI μ 20 6)) 21 7 (mI (sM μ 20 7 (mI μ 20 6)) 21 6)) 20 5)) 21 6 (mI (sM (sM (sM μ 20 7 (mI μ 20 6)) 21 7 (mI (sM μ 20 7 (mI μ 20 6)) 21 6)) 20 6 (mI (sM (sM μ 20 7 (mI μ 20 6)) 21 7 (mI (sM μ 20 7 (mI μ 20 6)) 21 6)) 20 5)) 21 5)) 20 5 rank) 21 5 value) 19 1 + 1) hw ⟨4, by decide, by rw [show mI (sM (sM (sM (sM (sM (sM μ 20 7 (mI μ 20 6)) 21 7 (mI (sM μ 20 7 (mI μ 20 6)) 21 6)) 20 6 (mI (sM (sM μ 20 7 (mI μ 20 6)) 21 7 (mI (sM μ 20 7 (mI μ 20 6)) 21 6)) 20 5)) 21 6 (mI (sM (sM (sM μ 20 7 (mI μ 20 6)) 21 7 (mI (sM μ 20 7 (mI μ 20 6)) 21 6)) 20 6 (mI (sM (sM μ 20 7 (mI μ 20 6)) 21 7 (mI (sM μ 20 7 (mI μ 20 6)) 21 6)) 20 5)) 21 5)) 20 5 rank) 21 5 value) 19 1 = mI μ 19 1 from rfl, z_3]; decide⟩
                exact kk_vret hx hb hr hlocks hP hK hS ⟨hf.symm, hw⟩ dM_comeIn_97
              · rw [if_neg c_30] at hf
                refine lv_aload_n hx hb dM_comeIn_33 rfl (lv_at hl 1 rfl) ?_
                refine va_get (D := (dC, dI)) (ci := 3) (v := .ref (ad 17)) (C := R_M) (T := T_M) (N := 23) hx hb hts uw_M hown hK hP 0 rfl rfl 20 (by decide) (hts _ (List.mem_cons_of_mem _ wd_351)) (fun _ h9 => h9) rfl dM_comeIn_34 ?_
                refine lv_iload hx hb dM_comeIn_37 (lv_at hl 0 rfl) ?_
                refine lv_aload_n hx hb dM_comeIn_39 rfl (lv_at hl 1 rfl) ?_
                refine va_get (D := (dC, dI)) (ci := 3) (v := .ref (ad 17)) (C := R_M) (T := T_M) (N := 23) hx hb hts uw_M hown hK hP 0 rfl rfl 20 (by decide) (hts _ (List.mem_cons_of_mem _ wd_351)) (fun _ h9 => h9) rfl dM_comeIn_40 ?_
                refine lv_iload hx hb dM_comeIn_43 (lv_at hl 0 rfl) ?_
                refine lv_iconst (v := 1) hx hb dM_comeIn_45 (by decide) ?_
                refine lv_isub hx hb dM_comeIn_46 ?_
                refine lv_topi (fun z9 e9 => ?_)
                obtain rfl : z9 = 4 := e9.trans (by decide)
                refine va_iald hx hb hK hP 17 16 rfl rfl (kk_inl (by decide)) dM_comeIn_47 ?_
                rw [kk_c4]
                refine va_iast hx hb hK hP (km_D hj) hS 17 16 rfl rfl (kk_inl (by decide)) dM_comeIn_48 (fun H locs hP _ hS => ?_)
                rw [kk_c5] at hP
                replace hP := km_u_messageRank hP
                replace hw := km_wf_I (f := 20) (i := 5) (v := mI (sM (sM (sM (sM μ 20 7 (mI μ 20 6)) 21 7 (mI (sM μ 20 7 (mI μ 20 6)) 21 6)) 20 6 (mI (sM (sM μ 20 7 (mI μ 20 6)) 21 7 (mI (sM μ 20 7 (mI μ 20 6)) 21 6)) 20 5)) 21 6 (mI (sM (sM (sM μ 20 7 (mI μ 20 6)) 21 7 (mI (sM μ 20 7 (mI μ 20 6)) 21 6)) 20 6 (mI (sM (sM μ 20 7 (mI μ 20 6)) 21 7 (mI (sM μ 20 7 (mI μ 20 6)) 21 6)) 20 5)) 21 5)) 20 4) hw (by decide)
                refine lv_aload_n hx hb dM_comeIn_49 rfl (lv_at hl 1 rfl) ?_
                refine va_get (D := (dC, dI)) (ci := 3) (v := .ref (ad 18)) (C := R_M) (T := T_M) (N := 23) hx hb hts uw_M hown hK hP 0 rfl rfl 21 (by decide) (hts _ (List.mem_cons_of_mem _ wd_352)) (fun _ h9 => h9) rfl dM_comeIn_50 ?_
                refine lv_iload hx hb dM_comeIn_53 (lv_at hl 0 rfl) ?_
                refine lv_aload_n hx hb dM_comeIn_55 rfl (lv_at hl 1 rfl) ?_
                refine va_get (D := (dC, dI)) (ci := 3) (v := .ref (ad 18)) (C := R_M) (T := T_M) (N := 23) hx hb hts uw_M hown hK hP 0 rfl rfl 21 (by decide) (hts _ (List.mem_cons_of_mem _ wd_352)) (fun _ h9 => h9) rfl dM_comeIn_56 ?_
                refine lv_iload hx hb dM_comeIn_59 (lv_at hl 0 rfl) ?_
                refine lv_iconst (v := 1) hx hb dM_comeIn_61 (by decide) ?_
                refine lv_isub hx hb dM_comeIn_62 ?_
                refine lv_topi (fun z9 e9 => ?_)
                obtain rfl : z9 = 4 := e9.trans (by decide)
                refine va_iald hx hb hK hP 18 17 rfl rfl (kk_inl (by decide)) dM_comeIn_63 ?_
                rw [kk_c4]
                refine va_iast hx hb hK hP (km_D hj) hS 18 17 rfl rfl (kk_inl (by decide)) dM_comeIn_64 (fun H locs hP _ hS => ?_)
                rw [kk_c5] at hP
                replace hP := km_u_messageValue hP
                replace hw := km_wf_I (f := 21) (i := 5) (v := mI (sM (sM (sM (sM (sM μ 20 7 (mI μ 20 6)) 21 7 (mI (sM μ 20 7 (mI μ 20 6)) 21 6)) 20 6 (mI (sM (sM μ 20 7 (mI μ 20 6)) 21 7 (mI (sM μ 20 7 (mI μ 20 6)) 21 6)) 20 5)) 21 6 (mI (sM (sM (sM μ 20 7 (mI μ 20 6)) 21 7 (mI (sM μ 20 7 (mI μ 20 6)) 21 6)) 20 6 (mI (sM (sM μ 20 7 (mI μ 20 6)) 21 7 (mI (sM μ 20 7 (mI μ 20 6)) 21 6)) 20 5)) 21 5)) 20 5 (mI (sM (sM (sM (sM μ 20 7 (mI μ 20 6)) 21 7 (mI (sM μ 20 7 (mI μ 20 6)) 21 6)) 20 6 (mI (sM (sM μ 20 7 (mI μ 20 6)) 21 7 (mI (sM μ 20 7 (mI μ 20 6)) 21 6)) 20 5)) 21 6 (mI (sM (sM (sM μ 20 7 (mI μ 20 6)) 21 7 (mI (sM μ 20 7 (mI μ 20 6)) 21 6)) 20 6 (mI (sM (sM μ 20 7 (mI μ 20 6)) 21 7 (mI (sM μ 20 7 (mI μ 20 6)) 21 6)) 20 5)) 21 5)) 20 4)) 21 4) hw (by decide)
                refine lv_iinc (v := 4) (lv' := [(4, .int 4), (0, .ref (ad 0)), (1, .int 1), (2, .int rank), (3, .int value)]) hx hb dM_comeIn_65 hl (k := 0) rfl (by decide) (by decide) rfl (fun ls hl => ?_)
                refine lv_goto (tgt := 12) hx hb dM_comeIn_68 (by decide) ?_
                refine lv_iload hx hb dM_comeIn_12 (lv_at hl 0 rfl) ?_
                refine lv_iload_n hx hb dM_comeIn_14 rfl (lv_at hl 2 rfl) ?_
                refine lv_iconst (v := 4) hx hb dM_comeIn_15 (by decide) ?_
                refine lv_imul hx hb dM_comeIn_16 ?_
                refine lv_topi (fun z9 e9 => ?_)
                obtain rfl : z9 = 4 := e9.trans (by decide)
                refine lv_icmp_le (tgt := 71) hx hb dM_comeIn_17 (by decide) (fun _ => ?_) (fun c9 => absurd (by decide) c9)
                refine lv_aload_n hx hb dM_comeIn_71 rfl (lv_at hl 1 rfl) ?_
                refine va_get (D := (dC, dI)) (ci := 3) (v := .ref (ad 17)) (C := R_M) (T := T_M) (N := 23) hx hb hts uw_M hown hK hP 0 rfl rfl 20 (by decide) (hts _ (List.mem_cons_of_mem _ wd_351)) (fun _ h9 => h9) rfl dM_comeIn_72 ?_
                refine lv_iload hx hb dM_comeIn_75 (lv_at hl 0 rfl) ?_
                refine lv_iload_n hx hb dM_comeIn_77 rfl (lv_at hl 3 rfl) ?_
                refine va_iast hx hb hK hP (km_D hj) hS 17 16 rfl rfl (kk_inl (by decide)) dM_comeIn_78 (fun H locs hP _ hS => ?_)
                rw [kk_c4] at hP
                replace hP := km_u_messageRank hP
                replace hw := km_wf_I (f := 20) (i := 4) (v := rank) hw (by decide)
                refine lv_aload_n hx hb dM_comeIn_79 rfl (lv_at hl 1 rfl) ?_
                refine va_get (D := (dC, dI)) (ci := 3) (v := .ref (ad 18)) (C := R_M) (T := T_M) (N := 23) hx hb hts uw_M hown hK hP 0 rfl rfl 21 (by decide) (hts _ (List.mem_cons_of_mem _ wd_352)) (fun _ h9 => h9) rfl dM_comeIn_80 ?_
                refine lv_iload hx hb dM_comeIn_83 (lv_at hl 0 rfl) ?_
                refine lv_iload_n hx hb dM_comeIn_85 rfl (lv_at hl 4 rfl) ?_
                refine va_iast hx hb hK hP (km_D hj) hS 18 17 rfl rfl (kk_inl (by decide)) dM_comeIn_86 (fun H locs hP _ hS => ?_)
                rw [kk_c4] at hP
                replace hP := km_u_messageValue hP
                replace hw := km_wf_I (f := 21) (i := 4) (v := value) hw (by decide)
                refine lv_aload_n hx hb dM_comeIn_87 rfl (lv_at hl 1 rfl) ?_
                refine va_get (D := (dC, dI)) (ci := 3) (v := .ref (ad 16)) (C := R_M) (T := T_M) (N := 23) hx hb hts uw_M hown hK hP 0 rfl rfl 19 (by decide) (hts _ (List.mem_cons_of_mem _ wd_350)) (fun _ h9 => h9) rfl dM_comeIn_88 ?_
                refine lv_iload_n hx hb dM_comeIn_91 rfl (lv_at hl 2 rfl) ?_
                refine lv_dup2_11 hx hb dM_comeIn_92 rfl rfl ?_
                refine va_iald hx hb hK hP 16 15 rfl rfl (kk_inl (by decide)) dM_comeIn_93 ?_
                rw [kk_c1]
                refine lv_iconst (v := 1) hx hb dM_comeIn_94 (by decide) ?_
                refine lv_iadd hx hb dM_comeIn_95 ?_
                refine va_iast hx hb hK hP (km_D hj) hS 16 15 rfl rfl (kk_inl (by decide)) dM_comeIn_96 (fun H locs hP _ hS => ?_)
                rw [kk_c1] at hP
                replace hP := km_u_messages hP
                replace hw : km_wf (sM (sM (sM (sM (sM (sM (sM (sM (sM μ 20 7 (mI μ 20 6)) 21 7 (mI (sM μ 20 7 (mI μ 20 6)) 21 6)) 20 6 (mI (sM (sM μ 20 7 (mI μ 20 6)) 21 7 (mI (sM μ 20 7 (mI μ 20 6)) 21 6)) 20 5)) 21 6 (mI (sM (sM (sM μ 20 7 (mI μ 20 6)) 21 7 (mI (sM μ 20 7 (mI μ 20 6)) 21 6)) 20 6 (mI (sM (sM μ 20 7 (mI μ 20 6)) 21 7 (mI (sM μ 20 7 (mI μ 20 6)) 21 6)) 20 5)) 21 5)) 20 5 (mI (sM (sM (sM (sM μ 20 7 (mI μ 20 6)) 21 7 (mI (sM μ 20 7 (mI μ 20 6)) 21 6)) 20 6 (mI (sM (sM μ 20 7 (mI μ 20 6)) 21 7 (mI (sM μ 20 7 (mI μ 20 6)) 21 6)) 20 5)) 21 6 (mI (sM (sM (sM μ 20 7 (mI μ 20 6)) 21 7 (mI (sM μ 20 7 (mI μ 20 6)) 21 6)) 20 6 (mI (sM (sM μ 20 7 (mI μ 20 6)) 21 7 (mI (sM μ 20 7 (mI μ 20 6)) 21 6)) 20 5)) 21 5)) 20 4)) 21 5 (mI (sM (sM (sM (sM (sM μ 20 7 (mI μ 20 6)) 21 7 (mI (sM μ 20 7 (mI μ 20 6)) 21 6)) 20 6 (mI (sM (sM μ 20 7 (mI μ 20 6)) 21 7 (mI (sM μ 20 7 (mI μ 20 6)) 21 6)) 20 5)) 21 6 (mI (sM (sM (sM μ 20 7 (mI μ 20 6)) 21 7 (mI (sM μ 20 7 (mI μ 20 6)) 21 6)) 20 6 (mI (sM (sM μ 20 7 (mI μ 20 6)) 21 7 (mI (sM μ 20 7 (mI μ 20 6)) 21 6)) 20 5)) 21 5)) 20 5 (mI (sM (sM (sM (sM μ 20 7 (mI μ 20 6)) 21 7 (mI (sM μ 20 7 (mI μ 20 6)) 21 6)) 20 6 (mI (sM (sM μ 20 7 (mI μ 20 6)) 21 7 (mI (sM μ 20 7 (mI μ 20 6)) 21 6)) 20 5)) 21 6 (mI (sM (sM (sM μ 20 7 (mI μ 20 6)) 21 7 (mI (sM μ 20 7 (mI μ 20 6)) 21 6)) 20 6 (mI (sM (sM μ 20 7 (mI μ 20 6)) 21 7 (mI (sM μ 20 7 (mI μ 20 6)) 21 6)) 20 5)) 21 5)) 20 4)) 21 4)) 20 4 rank) 21 4 value) 19 1 ((mI (sM (sM (sM (sM (sM (sM (sM (sM μ 20 7 (mI μ 20 6)) 21 7 (mI (sM μ 20 7 (mI μ 20 6)) 21 6)) 20 6 (mI (sM (sM μ 20 7 (mI μ 20 6)) 21 7 (mI (sM μ 20 7 (mI μ 20 6)) 21 6)) 20 5)) 21 6 (mI (sM (sM (sM μ 20 7 (mI μ 20 6)) 21 7 (mI (sM μ 20 7 (mI μ 20 6)) 21 6)) 20 6 (mI (sM (sM μ 20 7 (mI μ 20 6)) 21 7 (mI (sM μ 20 7 (mI μ 20 6)) 21 6)) 20 5)) 21 5)) 20 5 (mI (sM (sM (sM (sM μ 20 7 (mI μ 20 6)) 21 7 (mI (sM μ 20 7 (mI μ 20 6)) 21 6)) 20 6 (mI (sM (sM μ 20 7 (mI μ 20 6)) 21 7 (mI (sM μ 20 7 (mI μ 20 6)) 21 6)) 20 5)) 21 6 (mI (sM (sM (sM μ 20 7 (mI μ 20 6)) 21 7 (mI (sM μ 20 7 (mI μ 20 6)) 21 6)) 20 6 (mI (sM (sM μ 20 7 (mI μ 20 6)) 21 7 (mI (sM μ 20 7 (mI μ 20 6)) 21 6)) 20 5)) 21 5)) 20 4)) 21 5 (mI (sM (sM (sM (sM (sM μ 20 7 (mI μ 20 6)) 21 7 (mI (sM μ 20 7 (mI μ 20 6)) 21 6)) 20 6 (mI (sM (sM μ 20 7 (mI μ 20 6)) 21 7 (mI (sM μ 20 7 (mI μ 20 6)) 21 6)) 20 5)) 21 6 (mI (sM (sM (sM μ 20 7 (mI μ 20 6)) 21 7 (mI (sM μ 20 7 (mI μ 20 6)) 21 6)) 20 6 (mI (sM (sM μ 20 7 (mI μ 20 6)) 21 7 (mI (sM μ 20 7 (mI μ 20 6)) 21 6)) 20 5)) 21 5)) 20 5 (mI (sM (sM (sM (sM μ 20 7 (mI μ 20 6)) 21 7 (mI (sM μ 20 7 (mI μ 20 6)) 21 6)) 20 6 (mI (sM (sM μ 20 7 (mI μ 20 6)) 21 7 (mI (sM μ 20 7 (mI μ 20 6)) 21 6)) 20 5)) 21 6 (mI (sM (sM (sM μ 20 7 (mI μ 20 6)) 21 7 (mI (sM μ 20 7 (mI μ 20 6)) 21 6)) 20 6 (mI (sM (sM μ 20 7 (mI μ 20 6)) 21 7 (mI (sM μ 20 7 (mI μ 20 6)) 21 6)) 20 5)) 21 5)) 20 4)) 21 4)) 20 4 rank) 21 4 value) 19 1) + 1)) := km_wf_q (v := mI (sM (sM (sM (sM (sM (sM (sM (sM μ 20 7 (mI μ 20 6)) 21 7 (mI (sM μ 20 7 (mI μ 20 6)) 21 6)) 20 6 (mI (sM (sM μ 20 7 (mI μ 20 6)) 21 7 (mI (sM μ 20 7 (mI μ 20 6)) 21 6)) 20 5)) 21 6 (mI (sM (sM (sM μ 20 7 (mI μ 20 6)) 21 7 (mI (sM μ 20 7 (mI μ 20 6)) 21 6)) 20 6 (mI (sM (sM μ 20 7 (mI μ 20 6)) 21 7 (mI (sM μ 20 7 (mI μ 20 6)) 21 6)) 20 5)) 21 5)) 20 5 (mI (sM (sM (sM (sM μ 20 7 (mI μ 20 6)) 21 7 (mI (sM μ 20 7 (mI μ 20 6)) 21 6)) 20 6 (mI (sM (sM μ 20 7 (mI μ 20 6)) 21 7 (mI (sM μ 20 7 (mI μ 20 6)) 21 6)) 20 5)) 21 6 (mI (sM (sM (sM μ 20 7 (mI μ 20 6)) 21 7 (mI (sM μ 20 7 (mI μ 20 6)) 21 6)) 20 6 (mI (sM (sM μ 20 7 (mI μ 20 6)) 21 7 (mI (sM μ 20 7 (mI μ 20 6)) 21 6)) 20 5)) 21 5)) 20 4)) 21 5 (mI (sM (sM (sM (sM (sM μ 20 7 (mI μ 20 6)) 21 7 (mI (sM μ 20 7 (mI μ 20 6)) 21 6)) 20 6 (mI (sM (sM μ 20 7 (mI μ 20 6)) 21 7 (mI (sM μ 20 7 (mI μ 20 6)) 21 6)) 20 5)) 21 6 (mI (sM (sM (sM μ 20 7 (mI μ 20 6)) 21 7 (mI (sM μ 20 7 (mI μ 20 6)) 21 6)) 20 6 (mI (sM (sM μ 20 7 (mI μ 20 6)) 21 7 (mI (sM μ 20 7 (mI μ 20 6)) 21 6)) 20 5)) 21 5)) 20 5 (mI (sM (sM (sM (sM μ 20 7 (mI μ 20 6)) 21 7 (mI (sM μ 20 7 (mI μ 20 6)) 21 6)) 20 6 (mI (sM (sM μ 20 7 (mI μ 20 6)) 21 7 (mI (sM μ 20 7 (mI μ 20 6)) 21 6)) 20 5)) 21 6 (mI (sM (sM (sM μ 20 7 (mI μ 20 6)) 21 7 (mI (sM μ 20 7 (mI μ 20 6)) 21 6)) 20 6 (mI (sM (sM μ 20 7 (mI μ 20 6)) 21 7 (mI (sM μ 20 7 (mI μ 20 6)) 21 6)) 20 5)) 21 5)) 20 4)) 21 4)) 20 4 rank) 21 4 value) 19 1 + 1) hw ⟨4, by decide, by rw [show mI (sM (sM (sM (sM (sM (sM (sM (sM μ 20 7 (mI μ 20 6)) 21 7 (mI (sM μ 20 7 (mI μ 20 6)) 21 6)) 20 6 (mI (sM (sM μ 20 7 (mI μ 20 6)) 21 7 (mI (sM μ 20 7 (mI μ 20 6)) 21 6)) 20 5)) 21 6 (mI (sM (sM (sM μ 20 7 (mI μ 20 6)) 21 7 (mI (sM μ 20 7 (mI μ 20 6)) 21 6)) 20 6 (mI (sM (sM μ 20 7 (mI μ 20 6)) 21 7 (mI (sM μ 20 7 (mI μ 20 6)) 21 6)) 20 5)) 21 5)) 20 5 (mI (sM (sM (sM (sM μ 20 7 (mI μ 20 6)) 21 7 (mI (sM μ 20 7 (mI μ 20 6)) 21 6)) 20 6 (mI (sM (sM μ 20 7 (mI μ 20 6)) 21 7 (mI (sM μ 20 7 (mI μ 20 6)) 21 6)) 20 5)) 21 6 (mI (sM (sM (sM μ 20 7 (mI μ 20 6)) 21 7 (mI (sM μ 20 7 (mI μ 20 6)) 21 6)) 20 6 (mI (sM (sM μ 20 7 (mI μ 20 6)) 21 7 (mI (sM μ 20 7 (mI μ 20 6)) 21 6)) 20 5)) 21 5)) 20 4)) 21 5 (mI (sM (sM (sM (sM (sM μ 20 7 (mI μ 20 6)) 21 7 (mI (sM μ 20 7 (mI μ 20 6)) 21 6)) 20 6 (mI (sM (sM μ 20 7 (mI μ 20 6)) 21 7 (mI (sM μ 20 7 (mI μ 20 6)) 21 6)) 20 5)) 21 6 (mI (sM (sM (sM μ 20 7 (mI μ 20 6)) 21 7 (mI (sM μ 20 7 (mI μ 20 6)) 21 6)) 20 6 (mI (sM (sM μ 20 7 (mI μ 20 6)) 21 7 (mI (sM μ 20 7 (mI μ 20 6)) 21 6)) 20 5)) 21 5)) 20 5 (mI (sM (sM (sM (sM μ 20 7 (mI μ 20 6)) 21 7 (mI (sM μ 20 7 (mI μ 20 6)) 21 6)) 20 6 (mI (sM (sM μ 20 7 (mI μ 20 6)) 21 7 (mI (sM μ 20 7 (mI μ 20 6)) 21 6)) 20 5)) 21 6 (mI (sM (sM (sM μ 20 7 (mI μ 20 6)) 21 7 (mI (sM μ 20 7 (mI μ 20 6)) 21 6)) 20 6 (mI (sM (sM μ 20 7 (mI μ 20 6)) 21 7 (mI (sM μ 20 7 (mI μ 20 6)) 21 6)) 20 5)) 21 5)) 20 4)) 21 4)) 20 4 rank) 21 4 value) 19 1 = mI μ 19 1 from rfl, z_3]; decide⟩
                exact kk_vret hx hb hr hlocks hP hK hS ⟨hf.symm, hw⟩ dM_comeIn_97
