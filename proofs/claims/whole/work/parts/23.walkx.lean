set_option maxHeartbeats 4000000 in
set_option maxRecDepth 100000 in
theorem xc_deadlineAfter (l : Launch) (dC : Nat → ClassId) (dI : Nat → Nat → Nat) (ad : Nat → Nat) (cs : Nat → ClassId) (hj : kx_inj ad) (σ : kx_S) (hw : kx_wf σ) (n1 : Int32) : Met l y_X_deadlineAfter ws_X_deadlineAfter ({ frames := 0, cells := 0, slots := 0, locals := 0 }) (kk_Pc (dC, dI) vwCl (kx_t cs) (kx_w ad cs σ) [.ref (ad 0), .int n1]) (va_Ql (kx_pl (xf_deadlineAfter σ n1)) (kk_B (dC, dI) vwCl (kx_t cs) (kx_w ad cs)) (kx_A ad)) 0 0 (kx_A ad) := by
  refine Met.ofW (cc := b_X_deadlineAfter) (maxL := 2) (ret := (some .long)) (by decide) rfl ?_
  intro p e s m args below meth c s₁ B hml hv
  obtain ⟨rfl, hP, hK⟩ := hv
  have hx := B.exec
  have hb := B.bytes
  have hr := B.returns
  have hts := atoms_spec (ws := ws_X_deadlineAfter) B.pre
  have hown : s.vm.findClass R_X = some m.cls := findClass_of_methodNamed B.named
  have hlocks := B.notSynchronized
  have hS : va_S (kx_A ad) s.heap s.heap [] := va_S.rf
  generalize hf : xf_deadlineAfter σ n1 = out
  have hl := lv_entry ([.ref (ad 0), .int n1]) (n := 2) (Nat.le_of_ble_eq_true rfl)
  rw [lg_entry_eq]
  generalize (lg_sl ([.ref (ad 0), .int n1]) ++ List.replicate (2 - (lg_sl ([.ref (ad 0), .int n1])).length) Slot.unset).toArray = ls at hl ⊢
  have hl : lv_has ls 2 [(0, .ref (ad 0)), (1, .int n1)] := hl
  rw [xf_deadlineAfter] at hf
  refine lv_iload_n hx hb dX_deadlineAfter_0 rfl (lv_at hl 1 rfl) ?_
  refine lv_if_ne (tgt := 10) hx hb dX_deadlineAfter_1 (by decide) (fun c_1 => ?_) (fun c_1 => ?_)
  · rw [if_neg c_1] at hf
    refine lv_aload_n hx hb dX_deadlineAfter_10 rfl (lv_at hl 0 rfl) ?_
    refine va_get (D := (dC, dI)) (ci := 2) (v := .int (kI σ 2 0)) (C := R_X) (T := T_X) (N := 8) hx hb hts uw_X hown hK hP 0 rfl rfl 6 (by decide) (hts _ (List.mem_cons_of_mem _ wd_110)) (fun _ h9 => h9) rfl dX_deadlineAfter_11 ?_
    refine lv_i2l hx hb dX_deadlineAfter_14 rfl ?_
    refine lv_iload_n hx hb dX_deadlineAfter_15 rfl (lv_at hl 1 rfl) ?_
    refine lv_i2l hx hb dX_deadlineAfter_16 rfl ?_
    refine lv_ladd hx hb dX_deadlineAfter_17 ?_
    exact kk_lret hx hb hr hlocks hP hK hS ⟨hf.symm, hw⟩ dX_deadlineAfter_18
  · rw [if_pos c_1] at hf
    refine lv_ldc2 (v := 1000000000000) hx hb hown (hts _ (List.mem_cons_of_mem _ wd_144)) dX_deadlineAfter_4 ?_
    refine lv_goto (tgt := 18) hx hb dX_deadlineAfter_7 (by decide) ?_
    exact kk_lret hx hb hr hlocks hP hK hS ⟨hf.symm, hw⟩ dX_deadlineAfter_18
set_option maxHeartbeats 4000000 in
set_option maxRecDepth 100000 in
theorem xc_heirOf (l : Launch) (dC : Nat → ClassId) (dI : Nat → Nat → Nat) (ad : Nat → Nat) (cs : Nat → ClassId) (hj : kx_inj ad) (σ : kx_S) (hw : kx_wf σ) (t : Nat) (ht : t < 8) : Met l y_X_heirOf ws_X_heirOf ({ frames := 0, cells := 0, slots := 0, locals := 0 }) (kk_Pc (dC, dI) vwCl (kx_t cs) (kx_w ad cs σ) [.ref (ad 0), .ref (kx_ta ad t)]) (va_Qi (kx_ph (xf_heirOf σ t)) (kk_B (dC, dI) vwCl (kx_t cs) (kx_w ad cs)) (kx_A ad)) 0 0 (kx_A ad) := by
  refine Met.ofW (cc := b_X_heirOf) (maxL := 3) (ret := (some .int)) (by decide) rfl ?_
  intro p e s m args below meth c s₁ B hml hv
  obtain ⟨rfl, hP, hK⟩ := hv
  have hx := B.exec
  have hb := B.bytes
  have hr := B.returns
  have hts := atoms_spec (ws := ws_X_heirOf) B.pre
  have hown : s.vm.findClass R_X = some m.cls := findClass_of_methodNamed B.named
  have hlocks := B.notSynchronized
  have hS : va_S (kx_A ad) s.heap s.heap [] := va_S.rf
  generalize hf : xf_heirOf σ t = out
  have hl := lv_entry ([.ref (ad 0), .ref (kx_ta ad t)]) (n := 3) (Nat.le_of_ble_eq_true rfl)
  rw [lg_entry_eq]
  generalize (lg_sl ([.ref (ad 0), .ref (kx_ta ad t)]) ++ List.replicate (3 - (lg_sl ([.ref (ad 0), .ref (kx_ta ad t)])).length) Slot.unset).toArray = ls at hl ⊢
  have hl : lv_has ls 3 [(0, .ref (ad 0)), (1, .ref (kx_ta ad t))] := hl
  rw [xf_heirOf] at hf
  refine lv_iconst (v := 1) hx hb dX_heirOf_0 (by decide) ?_
  refine lv_istore_n (lv' := [(2, .int 1), (0, .ref (ad 0)), (1, .ref (kx_ta ad t))]) hx hb dX_heirOf_1 rfl hl (by decide) rfl (fun ls hl => ?_)
  refine lv_iload_n hx hb dX_heirOf_2 rfl (lv_at hl 0 rfl) ?_
  refine lv_iconst (v := 2) hx hb dX_heirOf_3 (by decide) ?_
  refine lv_icmp_gt (tgt := 31) hx hb dX_heirOf_4 (by decide) (fun c9 => absurd c9 (by decide)) (fun _ => ?_)
  refine lv_aload_n hx hb dX_heirOf_7 rfl (lv_at hl 2 rfl) ?_
  refine va_get (D := (dC, dI)) (ci := 1) (v := .int (kI σ 16 t)) (C := R_T) (T := T_T) (N := 14) hx hb hts uw_T hown hK hP (11 + t) (kx_wT ht) rfl 8 (by decide) (hts _ (List.mem_cons_of_mem _ wd_47)) (fun _ h9 => h9) rfl dX_heirOf_8 ?_
  refine lv_bipush (v := 10) hx hb dX_heirOf_11 (by decide) ?_
  refine lv_iload_n hx hb dX_heirOf_13 rfl (lv_at hl 0 rfl) ?_
  refine lv_iadd hx hb dX_heirOf_14 ?_
  refine lv_topi (fun z9 e9 => ?_)
  obtain rfl : z9 = 11 := e9.trans (by decide)
  refine lv_icmp_ne (tgt := 25) hx hb dX_heirOf_15 (by decide) (fun c_15 => ?_) (fun c_15 => ?_)
  · rw [if_neg c_15] at hf
    refine lv_iinc (v := 2) (lv' := [(2, .int 2), (0, .ref (ad 0)), (1, .ref (kx_ta ad t))]) hx hb dX_heirOf_25 hl (k := 0) rfl (by decide) (by decide) rfl (fun ls hl => ?_)
    refine lv_goto (tgt := 2) hx hb dX_heirOf_28 (by decide) ?_
    refine lv_iload_n hx hb dX_heirOf_2 rfl (lv_at hl 0 rfl) ?_
    refine lv_iconst (v := 2) hx hb dX_heirOf_3 (by decide) ?_
    refine lv_icmp_gt (tgt := 31) hx hb dX_heirOf_4 (by decide) (fun c9 => absurd c9 (by decide)) (fun _ => ?_)
    refine lv_aload_n hx hb dX_heirOf_7 rfl (lv_at hl 2 rfl) ?_
    refine va_get (D := (dC, dI)) (ci := 1) (v := .int (kI σ 16 t)) (C := R_T) (T := T_T) (N := 14) hx hb hts uw_T hown hK hP (11 + t) (kx_wT ht) rfl 8 (by decide) (hts _ (List.mem_cons_of_mem _ wd_47)) (fun _ h9 => h9) rfl dX_heirOf_8 ?_
    refine lv_bipush (v := 10) hx hb dX_heirOf_11 (by decide) ?_
    refine lv_iload_n hx hb dX_heirOf_13 rfl (lv_at hl 0 rfl) ?_
    refine lv_iadd hx hb dX_heirOf_14 ?_
    refine lv_topi (fun z9 e9 => ?_)
    obtain rfl : z9 = 12 := e9.trans (by decide)
    refine lv_icmp_ne (tgt := 25) hx hb dX_heirOf_15 (by decide) (fun c_15 => ?_) (fun c_15 => ?_)
    · rw [if_neg c_15] at hf
      refine lv_iinc (v := 3) (lv' := [(2, .int 3), (0, .ref (ad 0)), (1, .ref (kx_ta ad t))]) hx hb dX_heirOf_25 hl (k := 0) rfl (by decide) (by decide) rfl (fun ls hl => ?_)
      refine lv_goto (tgt := 2) hx hb dX_heirOf_28 (by decide) ?_
      refine lv_iload_n hx hb dX_heirOf_2 rfl (lv_at hl 0 rfl) ?_
      refine lv_iconst (v := 2) hx hb dX_heirOf_3 (by decide) ?_
      refine lv_icmp_gt (tgt := 31) hx hb dX_heirOf_4 (by decide) (fun _ => ?_) (fun c9 => absurd (by decide) c9)
      refine lv_iconst (v := (-1)) hx hb dX_heirOf_31 (by decide) ?_
      exact kk_iret hx hb hr hlocks hP hK hS ⟨hf.symm, hw, Or.inl rfl⟩ dX_heirOf_32
    · rw [if_pos c_15] at hf
      refine lv_aload_n hx hb dX_heirOf_18 rfl (lv_at hl 1 rfl) ?_
      refine va_get (D := (dC, dI)) (ci := 2) (v := .ref (ad 2)) (C := R_X) (T := T_X) (N := 8) hx hb hts uw_X hown hK hP 0 rfl rfl 3 (by decide) (hts _ (List.mem_cons_of_mem _ wd_107)) (fun _ h9 => h9) rfl dX_heirOf_19 ?_
      refine lv_iload_n hx hb dX_heirOf_22 rfl (lv_at hl 0 rfl) ?_
      refine va_iald hx hb hK hP 2 1 rfl rfl (kk_inl (by decide)) dX_heirOf_23 ?_
      rw [kk_c2]
      exact kk_iret hx hb hr hlocks hP hK hS ⟨hf.symm, hw, kx_own hw (by decide)⟩ dX_heirOf_24
  · rw [if_pos c_15] at hf
    refine lv_aload_n hx hb dX_heirOf_18 rfl (lv_at hl 1 rfl) ?_
    refine va_get (D := (dC, dI)) (ci := 2) (v := .ref (ad 2)) (C := R_X) (T := T_X) (N := 8) hx hb hts uw_X hown hK hP 0 rfl rfl 3 (by decide) (hts _ (List.mem_cons_of_mem _ wd_107)) (fun _ h9 => h9) rfl dX_heirOf_19 ?_
    refine lv_iload_n hx hb dX_heirOf_22 rfl (lv_at hl 0 rfl) ?_
    refine va_iald hx hb hK hP 2 1 rfl rfl (kk_inl (by decide)) dX_heirOf_23 ?_
    rw [kk_c1]
    exact kk_iret hx hb hr hlocks hP hK hS ⟨hf.symm, hw, kx_own hw (by decide)⟩ dX_heirOf_24
set_option maxHeartbeats 4000000 in
set_option maxRecDepth 100000 in
theorem xc_inheritOnce (l : Launch) (dC : Nat → ClassId) (dI : Nat → Nat → Nat) (ad : Nat → Nat) (cs : Nat → ClassId) (hj : kx_inj ad) (σ : kx_S) (hw : kx_wf σ)  : Met l y_X_inheritOnce ws_X_inheritOnce ({ frames := 1, cells := 0, slots := 0, locals := 22 }) (kk_Pc (dC, dI) vwCl (kx_t cs) (kx_w ad cs σ) [.ref (ad 0)]) (va_Qi (kx_pi (xf_inheritOnce σ)) (kk_B (dC, dI) vwCl (kx_t cs) (kx_w ad cs)) (kx_A ad)) 0 0 (kx_A ad) := by
  refine Met.ofW (cc := b_X_inheritOnce) (maxL := 7) (ret := (some .boolean)) (by decide) rfl ?_
  intro p e s m args below meth c s₁ B hml hv
  obtain ⟨rfl, hP, hK⟩ := hv
  have hx := B.exec
  have hb := B.bytes
  have hr := B.returns
  have hts := atoms_spec (ws := ws_X_inheritOnce) B.pre
  have hown : s.vm.findClass R_X = some m.cls := findClass_of_methodNamed B.named
  have hlocks := B.notSynchronized
  have hS : va_S (kx_A ad) s.heap s.heap [] := va_S.rf
  generalize hf : xf_inheritOnce σ = out
  have hl := lv_entry ([.ref (ad 0)]) (n := 7) (Nat.le_of_ble_eq_true rfl)
  rw [lg_entry_eq]
  generalize (lg_sl ([.ref (ad 0)]) ++ List.replicate (7 - (lg_sl ([.ref (ad 0)])).length) Slot.unset).toArray = ls at hl ⊢
  have hl : lv_has ls 7 [(0, .ref (ad 0))] := hl
  rw [xf_inheritOnce] at hf
  have loop13 : ∀ (n k : Nat) (raised : Int32) (σ : kx_S) (H : Heap) (locs : List Loc) (ls : Array Slot), n + k = 8 → kx_wf σ → (raised = 0 ∨ raised = 1) → xf_inheritOnce_L13 n k raised σ = out → va_P (dC, dI) vwCl (kx_w ad cs σ) H → va_S (kx_A ad) s.heap H locs → lv_has ls 7 [(4, .int (nI k)), (1, .int raised), (0, .ref (ad 0)), (2, .ref (ad 1)), (3, .int 8)] → W p l e (headSpec ws_X_inheritOnce ({ frames := 1, cells := 0, slots := 0, locals := 22 })).room s m ([.ref (ad 0)] : List Value).toArray below meth c H locs 0 0 (MQ below (va_Qi (kx_pi out) (kk_B (dC, dI) vwCl (kx_t cs) (kx_w ad cs)) (kx_A ad)) ([.ref (ad 0)] : List Value).toArray s 0 0 (kx_A ad)) (F0 m 13 ls []) := by
    clear hf hl hP hS hw
    intro n
    induction n with
    | zero =>
      intro k raised σ H locs ls hnk hw hra hf hP hS hl
      have hk : k = 8 := by omega
      rw [xf_inheritOnce_L13] at hf
      have hl : lv_has ls 7 [(4, .int (nI k)), (1, .int raised), (0, .ref (ad 0)), (2, .ref (ad 1)), (3, .int 8)] := hl
      refine lv_iload hx hb dX_inheritOnce_13 (lv_at hl 0 rfl) ?_
      refine lv_iload_n hx hb dX_inheritOnce_15 rfl (lv_at hl 4 rfl) ?_
      refine lv_icmp_ge (tgt := 80) hx hb dX_inheritOnce_16 (by decide) (fun _ => ?_) (fun c9 => absurd (by rw [hk]; decide) c9)
      refine lv_iload_n hx hb dX_inheritOnce_80 rfl (lv_at hl 1 rfl) ?_
      exact kk_zret hx hb hr hlocks (kk_nb hra) hP hK hS ⟨hf.symm, hw⟩ dX_inheritOnce_81
    | succ n ih =>
      intro k raised σ H locs ls hnk hw hra hf hP hS hl
      have hk : k < 8 := by omega
      rw [xf_inheritOnce_L13] at hf
      have hl : lv_has ls 7 [(4, .int (nI k)), (1, .int raised), (0, .ref (ad 0)), (2, .ref (ad 1)), (3, .int 8)] := hl
      refine lv_iload hx hb dX_inheritOnce_13 (lv_at hl 0 rfl) ?_
      refine lv_iload_n hx hb dX_inheritOnce_15 rfl (lv_at hl 4 rfl) ?_
      refine lv_icmp_ge (tgt := 80) hx hb dX_inheritOnce_16 (by decide) (fun c9 => absurd c9 (kk_stay hk (by decide))) (fun _ => ?_)
      refine lv_aload_n hx hb dX_inheritOnce_19 rfl (lv_at hl 3 rfl) ?_
      refine lv_iload hx hb dX_inheritOnce_20 (lv_at hl 0 rfl) ?_
      refine kx_ldTk hx hb hK hP hk dX_inheritOnce_22 ?_
      refine lv_astore (lv' := [(5, .ref (kx_ta ad k)), (4, .int (nI k)), (1, .int raised), (0, .ref (ad 0)), (2, .ref (ad 1)), (3, .int 8)]) hx hb dX_inheritOnce_23 hl (by decide) rfl (fun ls hl => ?_)
      refine lv_aload_n hx hb dX_inheritOnce_25 rfl (lv_at hl 3 rfl) ?_
      refine lv_aload hx hb dX_inheritOnce_26 (lv_at hl 0 rfl) ?_
      refine kk_ci (w := kx_w ad cs) (As := [.ref (kx_ta ad k)]) (rest := []) ⟨hx, hb, hml, hown, hts⟩ (xc_heirOf l dC dI ad cs hj σ hw k hk) (cwV 1 hts gv_X_188 rfl rfl rfl (by decide +kernel) ⟨Nat.le_of_ble_eq_true rfl, Nat.le_of_ble_eq_true rfl⟩) (va_recv hK hP (ci := 2) (q0 := 0) rfl rfl) hP hK hS (fun _ h9 => h9) rfl hl.1 rfl (Nat.le_of_ble_eq_true rfl) dX_inheritOnce_28 ⟨Nat.zero_le _, Nat.zero_le _⟩ (fun r1 s1 H locs hq hP hS => ?_)
      obtain ⟨h1, hw, hx1⟩ := hq
      rw [kk_b_eq h1] at hf
      refine lv_istore (lv' := [(6, .int r1), (5, .ref (kx_ta ad k)), (4, .int (nI k)), (1, .int raised), (0, .ref (ad 0)), (2, .ref (ad 1)), (3, .int 8)]) hx hb dX_inheritOnce_31 hl (by decide) rfl (fun ls hl => ?_)
      refine lv_iload hx hb dX_inheritOnce_33 (lv_at hl 0 rfl) ?_
      refine lv_iconst (v := (-1)) hx hb dX_inheritOnce_35 (by decide) ?_
      refine lv_icmp_eq (tgt := 74) hx hb dX_inheritOnce_36 (by decide) (fun c_36 => ?_) (fun c_36 => ?_)
      · rw [if_pos c_36] at hf
        refine lv_iinc (v := nI (k + 1)) (lv' := [(4, .int (nI (k + 1))), (6, .int r1), (5, .ref (kx_ta ad k)), (1, .int raised), (0, .ref (ad 0)), (2, .ref (ad 1)), (3, .int 8)]) hx hb dX_inheritOnce_74 hl (k := 2) rfl (nI_1 _) (by decide) rfl (fun ls hl => ?_)
        refine lv_goto (tgt := 13) hx hb dX_inheritOnce_77 (by decide) ?_
        exact ih (k + 1) raised _ _ _ ls (by omega) hw hra hf hP hS (lv_sub hl [0, 3, 4, 5, 6] rfl)
      · rw [if_neg c_36] at hf
        refine lv_aload_n hx hb dX_inheritOnce_39 rfl (lv_at hl 4 rfl) ?_
        refine va_get (D := (dC, dI)) (ci := 2) (v := .ref (ad 1)) (C := R_X) (T := T_X) (N := 8) hx hb hts uw_X hown hK hP 0 rfl rfl 2 (by decide) (hts _ (List.mem_cons_of_mem _ wd_106)) (fun _ h9 => h9) rfl dX_inheritOnce_40 ?_
        refine lv_iload hx hb dX_inheritOnce_43 (lv_at hl 0 rfl) ?_
        have hi_45 : vp_in r1 8 := (hx1.resolve_left c_36)
        have ht_45 : r1.toNatClampNeg < 8 := kx_lt hi_45
        refine kx_ldT hx hb hK hP hi_45 dX_inheritOnce_45 ?_
        refine va_get (D := (dC, dI)) (ci := 1) (v := .int (kI s1 12 r1.toNatClampNeg)) (C := R_T) (T := T_T) (N := 14) hx hb hts uw_T hown hK hP (11 + r1.toNatClampNeg) (kx_wT ht_45) rfl 3 (by decide) (hts _ (List.mem_cons_of_mem _ wd_37)) (fun _ h9 => h9) rfl dX_inheritOnce_46 ?_
        refine lv_aload hx hb dX_inheritOnce_49 (lv_at hl 1 rfl) ?_
        refine va_get (D := (dC, dI)) (ci := 1) (v := .int (kI s1 12 k)) (C := R_T) (T := T_T) (N := 14) hx hb hts uw_T hown hK hP (11 + k) (kx_wT hk) rfl 3 (by decide) (hts _ (List.mem_cons_of_mem _ wd_37)) (fun _ h9 => h9) rfl dX_inheritOnce_51 ?_
        refine lv_icmp_ge (tgt := 74) hx hb dX_inheritOnce_54 (by decide) (fun c_54 => ?_) (fun c_54 => ?_)
        · rw [if_pos c_54] at hf
          refine lv_iinc (v := nI (k + 1)) (lv' := [(4, .int (nI (k + 1))), (6, .int r1), (5, .ref (kx_ta ad k)), (1, .int raised), (0, .ref (ad 0)), (2, .ref (ad 1)), (3, .int 8)]) hx hb dX_inheritOnce_74 hl (k := 2) rfl (nI_1 _) (by decide) rfl (fun ls hl => ?_)
          refine lv_goto (tgt := 13) hx hb dX_inheritOnce_77 (by decide) ?_
          exact ih (k + 1) raised _ _ _ ls (by omega) hw hra hf hP hS (lv_sub hl [0, 3, 4, 5, 6] rfl)
        · rw [if_neg c_54] at hf
          refine lv_aload_n hx hb dX_inheritOnce_57 rfl (lv_at hl 4 rfl) ?_
          refine va_get (D := (dC, dI)) (ci := 2) (v := .ref (ad 1)) (C := R_X) (T := T_X) (N := 8) hx hb hts uw_X hown hK hP 0 rfl rfl 2 (by decide) (hts _ (List.mem_cons_of_mem _ wd_106)) (fun _ h9 => h9) rfl dX_inheritOnce_58 ?_
          refine lv_iload hx hb dX_inheritOnce_61 (lv_at hl 0 rfl) ?_
          have hi_63 : vp_in r1 8 := (hx1.resolve_left c_36)
          have ht_63 : r1.toNatClampNeg < 8 := kx_lt hi_63
          refine kx_ldT hx hb hK hP hi_63 dX_inheritOnce_63 ?_
          refine lv_aload hx hb dX_inheritOnce_64 (lv_at hl 1 rfl) ?_
          refine va_get (D := (dC, dI)) (ci := 1) (v := .int (kI s1 12 k)) (C := R_T) (T := T_T) (N := 14) hx hb hts uw_T hown hK hP (11 + k) (kx_wT hk) rfl 3 (by decide) (hts _ (List.mem_cons_of_mem _ wd_37)) (fun _ h9 => h9) rfl dX_inheritOnce_66 ?_
          refine va_put (D := (dC, dI)) (ci := 1) (v := .int (kI s1 12 k)) (ty := .int) (C := R_T) (T := T_T) (N := 14) hx hb hts uw_T ty_T ty_T_ok nm_T hown hK hP (kx_D hj) hS (11 + r1.toNatClampNeg) (kx_wT ht_63) rfl 3 (by decide) (hts _ (List.mem_cons_of_mem _ wd_37)) (fun _ h9 => h9) rfl (by decide +kernel) rfl rfl (Nat.le_of_ble_eq_true rfl) dX_inheritOnce_69 (fun H locs hP _ hS => ?_)
          replace hP := kx_u_effective ht_63 hP
          replace hw := kx_wf_I (f := 12) (i := r1.toNatClampNeg) (v := kI s1 12 k) hw (by decide)
          refine lv_iconst (v := 1) hx hb dX_inheritOnce_72 (by decide) ?_
          refine lv_istore_n (lv' := [(1, .int 1), (6, .int r1), (5, .ref (kx_ta ad k)), (4, .int (nI k)), (0, .ref (ad 0)), (2, .ref (ad 1)), (3, .int 8)]) hx hb dX_inheritOnce_73 rfl hl (by decide) rfl (fun ls hl => ?_)
          refine lv_iinc (v := nI (k + 1)) (lv' := [(4, .int (nI (k + 1))), (1, .int 1), (6, .int r1), (5, .ref (kx_ta ad k)), (0, .ref (ad 0)), (2, .ref (ad 1)), (3, .int 8)]) hx hb dX_inheritOnce_74 hl (k := 3) rfl (nI_1 _) (by decide) rfl (fun ls hl => ?_)
          refine lv_goto (tgt := 13) hx hb dX_inheritOnce_77 (by decide) ?_
          exact ih (k + 1) 1 _ _ _ ls (by omega) hw (Or.inr rfl) hf hP hS (lv_sub hl [0, 1, 4, 5, 6] rfl)
  refine lv_iconst (v := 0) hx hb dX_inheritOnce_0 (by decide) ?_
  refine lv_istore_n (lv' := [(1, .int 0), (0, .ref (ad 0))]) hx hb dX_inheritOnce_1 rfl hl (by decide) rfl (fun ls hl => ?_)
  refine lv_aload_n hx hb dX_inheritOnce_2 rfl (lv_at hl 1 rfl) ?_
  refine va_get (D := (dC, dI)) (ci := 2) (v := .ref (ad 1)) (C := R_X) (T := T_X) (N := 8) hx hb hts uw_X hown hK hP 0 rfl rfl 2 (by decide) (hts _ (List.mem_cons_of_mem _ wd_106)) (fun _ h9 => h9) rfl dX_inheritOnce_3 ?_
  refine lv_astore_n (lv' := [(2, .ref (ad 1)), (1, .int 0), (0, .ref (ad 0))]) hx hb dX_inheritOnce_6 rfl hl (by decide) rfl (fun ls hl => ?_)
  refine lv_aload_n hx hb dX_inheritOnce_7 rfl (lv_at hl 0 rfl) ?_
  refine va_alen (v := 8) hx hb hK hP 1 0 rfl rfl rfl dX_inheritOnce_8 ?_
  refine lv_istore_n (lv' := [(3, .int 8), (2, .ref (ad 1)), (1, .int 0), (0, .ref (ad 0))]) hx hb dX_inheritOnce_9 rfl hl (by decide) rfl (fun ls hl => ?_)
  refine lv_iconst (v := 0) hx hb dX_inheritOnce_10 (by decide) ?_
  refine lv_istore (lv' := [(4, .int 0), (3, .int 8), (2, .ref (ad 1)), (1, .int 0), (0, .ref (ad 0))]) hx hb dX_inheritOnce_11 hl (by decide) rfl (fun ls hl => ?_)
  exact loop13 8 0 0 _ _ _ ls (by omega) hw (Or.inl rfl) hf hP hS (lv_sub hl [0, 3, 4, 2, 1] rfl)
set_option maxHeartbeats 4000000 in
set_option maxRecDepth 100000 in
theorem xc_work (l : Launch) (dC : Nat → ClassId) (dI : Nat → Nat → Nat) (ad : Nat → Nat) (cs : Nat → ClassId) (hj : kx_inj ad) (σ : kx_S) (hw : kx_wf σ)  : Met l y_X_workOutEffective ws_X_workOutEffective ({ frames := 2, cells := 0, slots := 0, locals := 48 }) (kk_Pc (dC, dI) vwCl (kx_t cs) (kx_w ad cs σ) [.ref (ad 0)]) (va_Qv (kx_pv (xf_work σ)) (kk_B (dC, dI) vwCl (kx_t cs) (kx_w ad cs)) (kx_A ad)) 0 0 (kx_A ad) := by
  refine Met.ofW (cc := b_X_workOutEffective) (maxL := 5) (ret := none) (by decide) rfl ?_
  intro p e s m args below meth c s₁ B hml hv
  obtain ⟨rfl, hP, hK⟩ := hv
  have hx := B.exec
  have hb := B.bytes
  have hr := B.returns
  have hts := atoms_spec (ws := ws_X_workOutEffective) B.pre
  have hown : s.vm.findClass R_X = some m.cls := findClass_of_methodNamed B.named
  have hlocks := B.notSynchronized
  have hS : va_S (kx_A ad) s.heap s.heap [] := va_S.rf
  generalize hf : xf_work σ = out
  have hl := lv_entry ([.ref (ad 0)]) (n := 5) (Nat.le_of_ble_eq_true rfl)
  rw [lg_entry_eq]
  generalize (lg_sl ([.ref (ad 0)]) ++ List.replicate (5 - (lg_sl ([.ref (ad 0)])).length) Slot.unset).toArray = ls at hl ⊢
  have hl : lv_has ls 5 [(0, .ref (ad 0))] := hl
  rw [xf_work] at hf
  have loop69 : ∀ (n k : Nat) (raised : Int32) (σ : kx_S) (H : Heap) (locs : List Loc) (ls : Array Slot), n + k = 8 → kx_wf σ → xf_work_L69 n k raised σ = out → va_P (dC, dI) vwCl (kx_w ad cs σ) H → va_S (kx_A ad) s.heap H locs → lv_has ls 5 [(2, .int (nI k)), (1, .int raised), (0, .ref (ad 0))] → W p l e (headSpec ws_X_workOutEffective ({ frames := 2, cells := 0, slots := 0, locals := 48 })).room s m ([.ref (ad 0)] : List Value).toArray below meth c H locs 0 0 (MQ below (va_Qv (kx_pv out) (kk_B (dC, dI) vwCl (kx_t cs) (kx_w ad cs)) (kx_A ad)) ([.ref (ad 0)] : List Value).toArray s 0 0 (kx_A ad)) (F0 m 69 ls []) := by
    clear hf hl hP hS hw
    intro n
    induction n with
    | zero =>
      intro k raised σ H locs ls hnk hw hf hP hS hl
      have hk : k = 8 := by omega
      rw [xf_work_L69] at hf
      have hl : lv_has ls 5 [(2, .int (nI k)), (1, .int raised), (0, .ref (ad 0))] := hl
      refine lv_iload_n hx hb dX_workOutEffective_69 rfl (lv_at hl 0 rfl) ?_
      refine lv_bipush (v := 8) hx hb dX_workOutEffective_70 (by decide) ?_
      refine lv_icmp_ge (tgt := 90) hx hb dX_workOutEffective_72 (by decide) (fun _ => ?_) (fun c9 => absurd (by rw [hk]; decide) c9)
      exact kk_vret hx hb hr hlocks hP hK hS ⟨hf.symm, hw⟩ dX_workOutEffective_90
    | succ n ih =>
      intro k raised σ H locs ls hnk hw hf hP hS hl
      have hk : k < 8 := by omega
      rw [xf_work_L69] at hf
      have hl : lv_has ls 5 [(2, .int (nI k)), (1, .int raised), (0, .ref (ad 0))] := hl
      refine lv_iload_n hx hb dX_workOutEffective_69 rfl (lv_at hl 0 rfl) ?_
      refine lv_bipush (v := 8) hx hb dX_workOutEffective_70 (by decide) ?_
      refine lv_icmp_ge (tgt := 90) hx hb dX_workOutEffective_72 (by decide) (fun c9 => absurd c9 (kk_stay hk (by decide))) (fun _ => ?_)
      refine lv_iload_n hx hb dX_workOutEffective_75 rfl (lv_at hl 1 rfl) ?_
      refine lv_if_eq (tgt := 90) hx hb dX_workOutEffective_76 (by decide) (fun c_76 => ?_) (fun c_76 => ?_)
      · rw [if_pos c_76] at hf
        exact kk_vret hx hb hr hlocks hP hK hS ⟨hf.symm, hw⟩ dX_workOutEffective_90
      · rw [if_neg c_76] at hf
        refine lv_aload_n hx hb dX_workOutEffective_79 rfl (lv_at hl 2 rfl) ?_
        refine kk_ci (w := kx_w ad cs) (As := []) (rest := []) ⟨hx, hb, hml, hown, hts⟩ (xc_inheritOnce l dC dI ad cs hj σ hw  ) (cwV 0 hts gv_X_185 rfl rfl rfl (by decide +kernel) ⟨Nat.le_of_ble_eq_true rfl, Nat.le_of_ble_eq_true rfl⟩) (va_recv hK hP (ci := 2) (q0 := 0) rfl rfl) hP hK hS (fun _ h9 => h9) rfl hl.1 rfl (Nat.le_of_ble_eq_true rfl) dX_workOutEffective_80 ⟨Nat.zero_le _, Nat.zero_le _⟩ (fun r1 s1 H locs hq hP hS => ?_)
        obtain ⟨h1, hw⟩ := hq
        rw [kk_b_eq h1] at hf
        refine lv_istore_n (lv' := [(1, .int r1), (2, .int (nI k)), (0, .ref (ad 0))]) hx hb dX_workOutEffective_83 rfl hl (by decide) rfl (fun ls hl => ?_)
        refine lv_iinc (v := nI (k + 1)) (lv' := [(2, .int (nI (k + 1))), (1, .int r1), (0, .ref (ad 0))]) hx hb dX_workOutEffective_84 hl (k := 1) rfl (nI_1 _) (by decide) rfl (fun ls hl => ?_)
        refine lv_goto (tgt := 69) hx hb dX_workOutEffective_87 (by decide) ?_
        exact ih (k + 1) r1 _ _ _ ls (by omega) hw  hf hP hS (lv_sub hl [0, 1, 2] rfl)
  have loop10 : ∀ (n k : Nat) (σ : kx_S) (H : Heap) (locs : List Loc) (ls : Array Slot), n + k = 8 → kx_wf σ → xf_work_L10 n k  σ = out → va_P (dC, dI) vwCl (kx_w ad cs σ) H → va_S (kx_A ad) s.heap H locs → lv_has ls 5 [(3, .int (nI k)), (0, .ref (ad 0)), (1, .ref (ad 1)), (2, .int 8)] → W p l e (headSpec ws_X_workOutEffective ({ frames := 2, cells := 0, slots := 0, locals := 48 })).room s m ([.ref (ad 0)] : List Value).toArray below meth c H locs 0 0 (MQ below (va_Qv (kx_pv out) (kk_B (dC, dI) vwCl (kx_t cs) (kx_w ad cs)) (kx_A ad)) ([.ref (ad 0)] : List Value).toArray s 0 0 (kx_A ad)) (F0 m 10 ls []) := by
    clear hf hl hP hS hw
    intro n
    induction n with
    | zero =>
      intro k σ H locs ls hnk hw hf hP hS hl
      have hk : k = 8 := by omega
      rw [xf_work_L10] at hf
      have hl : lv_has ls 5 [(3, .int (nI k)), (0, .ref (ad 0)), (1, .ref (ad 1)), (2, .int 8)] := hl
      refine lv_iload_n hx hb dX_workOutEffective_10 rfl (lv_at hl 0 rfl) ?_
      refine lv_iload_n hx hb dX_workOutEffective_11 rfl (lv_at hl 3 rfl) ?_
      refine lv_icmp_ge (tgt := 65) hx hb dX_workOutEffective_12 (by decide) (fun _ => ?_) (fun c9 => absurd (by rw [hk]; decide) c9)
      refine lv_iconst (v := 1) hx hb dX_workOutEffective_65 (by decide) ?_
      refine lv_istore_n (lv' := [(1, .int 1), (3, .int (nI k)), (0, .ref (ad 0)), (2, .int 8)]) hx hb dX_workOutEffective_66 rfl hl (by decide) rfl (fun ls hl => ?_)
      refine lv_iconst (v := 0) hx hb dX_workOutEffective_67 (by decide) ?_
      refine lv_istore_n (lv' := [(2, .int 0), (1, .int 1), (3, .int (nI k)), (0, .ref (ad 0))]) hx hb dX_workOutEffective_68 rfl hl (by decide) rfl (fun ls hl => ?_)
      exact loop69 8 0 1 _ _ _ ls (by omega) hw  hf hP hS (lv_sub hl [0, 1, 3] rfl)
    | succ n ih =>
      intro k σ H locs ls hnk hw hf hP hS hl
      have hk : k < 8 := by omega
      rw [xf_work_L10] at hf
      have hl : lv_has ls 5 [(3, .int (nI k)), (0, .ref (ad 0)), (1, .ref (ad 1)), (2, .int 8)] := hl
      refine lv_iload_n hx hb dX_workOutEffective_10 rfl (lv_at hl 0 rfl) ?_
      refine lv_iload_n hx hb dX_workOutEffective_11 rfl (lv_at hl 3 rfl) ?_
      refine lv_icmp_ge (tgt := 65) hx hb dX_workOutEffective_12 (by decide) (fun c9 => absurd c9 (kk_stay hk (by decide))) (fun _ => ?_)
      refine lv_aload_n hx hb dX_workOutEffective_15 rfl (lv_at hl 2 rfl) ?_
      refine lv_iload_n hx hb dX_workOutEffective_16 rfl (lv_at hl 0 rfl) ?_
      refine kx_ldTk hx hb hK hP hk dX_workOutEffective_17 ?_
      refine lv_astore (lv' := [(4, .ref (kx_ta ad k)), (3, .int (nI k)), (0, .ref (ad 0)), (1, .ref (ad 1)), (2, .int 8)]) hx hb dX_workOutEffective_18 hl (by decide) rfl (fun ls hl => ?_)
      refine lv_aload hx hb dX_workOutEffective_20 (lv_at hl 0 rfl) ?_
      refine lv_aload_n hx hb dX_workOutEffective_22 rfl (lv_at hl 2 rfl) ?_
      refine va_get (D := (dC, dI)) (ci := 2) (v := .ref (ad 2)) (C := R_X) (T := T_X) (N := 8) hx hb hts uw_X hown hK hP 0 rfl rfl 3 (by decide) (hts _ (List.mem_cons_of_mem _ wd_107)) (fun _ h9 => h9) rfl dX_workOutEffective_23 ?_
      refine lv_iconst (v := 3) hx hb dX_workOutEffective_26 (by decide) ?_
      refine va_iald hx hb hK hP 2 1 rfl rfl (kk_inl (by decide)) dX_workOutEffective_27 ?_
      rw [kk_c3]
      refine lv_aload hx hb dX_workOutEffective_28 (lv_at hl 0 rfl) ?_
      refine va_get (D := (dC, dI)) (ci := 1) (v := .int (nI k)) (C := R_T) (T := T_T) (N := 14) hx hb hts uw_T hown hK hP (11 + k) (kx_wT hk) rfl 0 (by decide) (hts _ (List.mem_cons_of_mem _ wd_31)) (fun _ h9 => h9) rfl dX_workOutEffective_30 ?_
      refine lv_icmp_ne (tgt := 51) hx hb dX_workOutEffective_33 (by decide) (fun c_33 => ?_) (fun c_33 => ?_)
      · rw [if_neg c_33] at hf
        refine lv_aload hx hb dX_workOutEffective_51 (lv_at hl 0 rfl) ?_
        refine va_get (D := (dC, dI)) (ci := 1) (v := .int (kI σ 11 k)) (C := R_T) (T := T_T) (N := 14) hx hb hts uw_T hown hK hP (11 + k) (kx_wT hk) rfl 2 (by decide) (hts _ (List.mem_cons_of_mem _ wd_35)) (fun _ h9 => h9) rfl dX_workOutEffective_53 ?_
        refine va_put (D := (dC, dI)) (ci := 1) (v := .int (kI σ 11 k)) (ty := .int) (C := R_T) (T := T_T) (N := 14) hx hb hts uw_T ty_T ty_T_ok nm_T hown hK hP (kx_D hj) hS (11 + k) (kx_wT hk) rfl 3 (by decide) (hts _ (List.mem_cons_of_mem _ wd_37)) (fun _ h9 => h9) rfl (by decide +kernel) rfl rfl (Nat.le_of_ble_eq_true rfl) dX_workOutEffective_56 (fun H locs hP _ hS => ?_)
        replace hP := kx_u_effective hk hP
        replace hw := kx_wf_I (f := 12) (i := k) (v := kI σ 11 k) hw (by decide)
        refine lv_iinc (v := nI (k + 1)) (lv' := [(3, .int (nI (k + 1))), (4, .ref (kx_ta ad k)), (0, .ref (ad 0)), (1, .ref (ad 1)), (2, .int 8)]) hx hb dX_workOutEffective_59 hl (k := 1) rfl (nI_1 _) (by decide) rfl (fun ls hl => ?_)
        refine lv_goto (tgt := 10) hx hb dX_workOutEffective_62 (by decide) ?_
        exact ih (k + 1)  _ _ _ ls (by omega) hw  hf hP hS (lv_sub hl [0, 2, 3, 4] rfl)
      · rw [if_pos c_33] at hf
        refine lv_aload hx hb dX_workOutEffective_36 (lv_at hl 0 rfl) ?_
        refine va_get (D := (dC, dI)) (ci := 1) (v := .int (kI σ 11 k)) (C := R_T) (T := T_T) (N := 14) hx hb hts uw_T hown hK hP (11 + k) (kx_wT hk) rfl 2 (by decide) (hts _ (List.mem_cons_of_mem _ wd_35)) (fun _ h9 => h9) rfl dX_workOutEffective_38 ?_
        refine lv_aload_n hx hb dX_workOutEffective_41 rfl (lv_at hl 2 rfl) ?_
        refine va_get (D := (dC, dI)) (ci := 2) (v := .int (kI σ 1 0)) (C := R_X) (T := T_X) (N := 8) hx hb hts uw_X hown hK hP 0 rfl rfl 1 (by decide) (hts _ (List.mem_cons_of_mem _ wd_105)) (fun _ h9 => h9) rfl dX_workOutEffective_42 ?_
        refine va_mmax hx hb (hml.trans hl.1.symm) hown (hts _ (List.mem_cons_of_mem _ wd_21)) (hts _ (List.mem_cons_of_mem _ wd_22)) (hts _ (List.mem_cons_of_mem _ wd_2)) (hts _ (List.mem_cons_of_mem _ wd_23)) (Nat.le_of_ble_eq_true rfl) (Nat.le_of_ble_eq_true rfl) (Nat.zero_le _) (Nat.zero_le _) dX_workOutEffective_45 ?_
        refine lv_goto (tgt := 56) hx hb dX_workOutEffective_48 (by decide) ?_
        refine va_put (D := (dC, dI)) (ci := 1) (v := .int (if kI σ 11 k < kI σ 1 0 then kI σ 1 0 else kI σ 11 k)) (ty := .int) (C := R_T) (T := T_T) (N := 14) hx hb hts uw_T ty_T ty_T_ok nm_T hown hK hP (kx_D hj) hS (11 + k) (kx_wT hk) rfl 3 (by decide) (hts _ (List.mem_cons_of_mem _ wd_37)) (fun _ h9 => h9) rfl (by decide +kernel) rfl rfl (Nat.le_of_ble_eq_true rfl) dX_workOutEffective_56 (fun H locs hP _ hS => ?_)
        replace hP := kx_u_effective hk hP
        replace hw := kx_wf_I (f := 12) (i := k) (v := if kI σ 11 k < kI σ 1 0 then kI σ 1 0 else kI σ 11 k) hw (by decide)
        refine lv_iinc (v := nI (k + 1)) (lv' := [(3, .int (nI (k + 1))), (4, .ref (kx_ta ad k)), (0, .ref (ad 0)), (1, .ref (ad 1)), (2, .int 8)]) hx hb dX_workOutEffective_59 hl (k := 1) rfl (nI_1 _) (by decide) rfl (fun ls hl => ?_)
        refine lv_goto (tgt := 10) hx hb dX_workOutEffective_62 (by decide) ?_
        exact ih (k + 1)  _ _ _ ls (by omega) hw  hf hP hS (lv_sub hl [0, 2, 3, 4] rfl)
  refine lv_aload_n hx hb dX_workOutEffective_0 rfl (lv_at hl 0 rfl) ?_
  refine va_get (D := (dC, dI)) (ci := 2) (v := .ref (ad 1)) (C := R_X) (T := T_X) (N := 8) hx hb hts uw_X hown hK hP 0 rfl rfl 2 (by decide) (hts _ (List.mem_cons_of_mem _ wd_106)) (fun _ h9 => h9) rfl dX_workOutEffective_1 ?_
  refine lv_astore_n (lv' := [(1, .ref (ad 1)), (0, .ref (ad 0))]) hx hb dX_workOutEffective_4 rfl hl (by decide) rfl (fun ls hl => ?_)
  refine lv_aload_n hx hb dX_workOutEffective_5 rfl (lv_at hl 0 rfl) ?_
  refine va_alen (v := 8) hx hb hK hP 1 0 rfl rfl rfl dX_workOutEffective_6 ?_
  refine lv_istore_n (lv' := [(2, .int 8), (1, .ref (ad 1)), (0, .ref (ad 0))]) hx hb dX_workOutEffective_7 rfl hl (by decide) rfl (fun ls hl => ?_)
  refine lv_iconst (v := 0) hx hb dX_workOutEffective_8 (by decide) ?_
  refine lv_istore_n (lv' := [(3, .int 0), (2, .int 8), (1, .ref (ad 1)), (0, .ref (ad 0))]) hx hb dX_workOutEffective_9 rfl hl (by decide) rfl (fun ls hl => ?_)
  exact loop10 8 0  _ _ _ ls (by omega) hw  hf hP hS (lv_sub hl [0, 3, 2, 1] rfl)
set_option maxHeartbeats 4000000 in
set_option maxRecDepth 100000 in
theorem xc_foremost (l : Launch) (dC : Nat → ClassId) (dI : Nat → Nat → Nat) (ad : Nat → Nat) (cs : Nat → ClassId) (hj : kx_inj ad) (σ : kx_S) (hw : kx_wf σ) (state : Int32) (thing : Int32) : Met l y_X_foremost ws_X_foremost ({ frames := 3, cells := 0, slots := 0, locals := 72 }) (kk_Pc (dC, dI) vwCl (kx_t cs) (kx_w ad cs σ) [.ref (ad 0), .int state, .int thing]) (va_Qe (kx_ta ad) (kx_po (xf_foremost σ state thing)) (kk_B (dC, dI) vwCl (kx_t cs) (kx_w ad cs)) (kx_A ad)) 0 0 (kx_A ad) := by
  refine Met.ofW (cc := b_X_foremost) (maxL := 8) (ret := (some (.object "PriorityKernel$Task"))) (by decide) rfl ?_
  intro p e s m args below meth c s₁ B hml hv
  obtain ⟨rfl, hP, hK⟩ := hv
  have hx := B.exec
  have hb := B.bytes
  have hr := B.returns
  have hts := atoms_spec (ws := ws_X_foremost) B.pre
  have hown : s.vm.findClass R_X = some m.cls := findClass_of_methodNamed B.named
  have hlocks := B.notSynchronized
  have hS : va_S (kx_A ad) s.heap s.heap [] := va_S.rf
  generalize hf : xf_foremost σ state thing = out
  have hl := lv_entry ([.ref (ad 0), .int state, .int thing]) (n := 8) (Nat.le_of_ble_eq_true rfl)
  rw [lg_entry_eq]
  generalize (lg_sl ([.ref (ad 0), .int state, .int thing]) ++ List.replicate (8 - (lg_sl ([.ref (ad 0), .int state, .int thing])).length) Slot.unset).toArray = ls at hl ⊢
  have hl : lv_has ls 8 [(0, .ref (ad 0)), (1, .int state), (2, .int thing)] := hl
  rw [xf_foremost] at hf
  have loop20 : ∀ (n k : Nat) (best : Option Nat) (σ : kx_S) (H : Heap) (locs : List Loc) (ls : Array Slot), n + k = 8 → kx_wf σ → (∀ b, best = some b → b < 8) → xf_foremost_L20 state thing n k best σ = out → va_P (dC, dI) vwCl (kx_w ad cs σ) H → va_S (kx_A ad) s.heap H locs → lv_has ls 8 [(6, .int (nI k)), (3, kk_rv (kx_ta ad) best), (0, .ref (ad 0)), (1, .int state), (2, .int thing), (4, .ref (ad 1)), (5, .int 8)] → W p l e (headSpec ws_X_foremost ({ frames := 3, cells := 0, slots := 0, locals := 72 })).room s m ([.ref (ad 0), .int state, .int thing] : List Value).toArray below meth c H locs 0 0 (MQ below (va_Qe (kx_ta ad) (kx_po out) (kk_B (dC, dI) vwCl (kx_t cs) (kx_w ad cs)) (kx_A ad)) ([.ref (ad 0), .int state, .int thing] : List Value).toArray s 0 0 (kx_A ad)) (F0 m 20 ls []) := by
    clear hf hl hP hS hw
    intro n
    induction n with
    | zero =>
      intro k best σ H locs ls hnk hw hbest hf hP hS hl
      have hk : k = 8 := by omega
      rw [xf_foremost_L20] at hf
      rcases best with _ | best_t
      · rw [kk_o_none] at hf
        have hl : lv_has ls 8 [(6, .int (nI k)), (3, .null), (0, .ref (ad 0)), (1, .int state), (2, .int thing), (4, .ref (ad 1)), (5, .int 8)] := hl
        refine lv_iload hx hb dX_foremost_20 (lv_at hl 0 rfl) ?_
        refine lv_iload hx hb dX_foremost_22 (lv_at hl 6 rfl) ?_
        refine lv_icmp_ge (tgt := 74) hx hb dX_foremost_24 (by decide) (fun _ => ?_) (fun c9 => absurd (by rw [hk]; decide) c9)
        refine lv_aload_nN hx hb dX_foremost_74 rfl (lv_at hl 1 rfl) ?_
        exact kk_nret hx hb hr hlocks hP hK hS ⟨hf.symm, hw, fun _ h9 => by cases h9⟩ dX_foremost_75
      · rw [kk_o_some] at hf
        have hbest_t : best_t < 8 := hbest best_t rfl
        have hl : lv_has ls 8 [(6, .int (nI k)), (3, .ref (kx_ta ad best_t)), (0, .ref (ad 0)), (1, .int state), (2, .int thing), (4, .ref (ad 1)), (5, .int 8)] := hl
        refine lv_iload hx hb dX_foremost_20 (lv_at hl 0 rfl) ?_
        refine lv_iload hx hb dX_foremost_22 (lv_at hl 6 rfl) ?_
        refine lv_icmp_ge (tgt := 74) hx hb dX_foremost_24 (by decide) (fun _ => ?_) (fun c9 => absurd (by rw [hk]; decide) c9)
        refine lv_aload_n hx hb dX_foremost_74 rfl (lv_at hl 1 rfl) ?_
        exact kk_aret (t := best_t) hx hb hr hlocks hP hK hS ⟨hf.symm, hw, fun _ h9 => by cases h9; exact hbest_t⟩ dX_foremost_75
    | succ n ih =>
      intro k best σ H locs ls hnk hw hbest hf hP hS hl
      have hk : k < 8 := by omega
      rw [xf_foremost_L20] at hf
      rcases best with _ | best_t
      · rw [kk_o_none] at hf
        have hl : lv_has ls 8 [(6, .int (nI k)), (3, .null), (0, .ref (ad 0)), (1, .int state), (2, .int thing), (4, .ref (ad 1)), (5, .int 8)] := hl
        refine lv_iload hx hb dX_foremost_20 (lv_at hl 0 rfl) ?_
        refine lv_iload hx hb dX_foremost_22 (lv_at hl 6 rfl) ?_
        refine lv_icmp_ge (tgt := 74) hx hb dX_foremost_24 (by decide) (fun c9 => absurd c9 (kk_stay hk (by decide))) (fun _ => ?_)
        refine lv_aload hx hb dX_foremost_27 (lv_at hl 5 rfl) ?_
        refine lv_iload hx hb dX_foremost_29 (lv_at hl 0 rfl) ?_
        refine kx_ldTk hx hb hK hP hk dX_foremost_31 ?_
        refine lv_astore (lv' := [(7, .ref (kx_ta ad k)), (6, .int (nI k)), (3, .null), (0, .ref (ad 0)), (1, .int state), (2, .int thing), (4, .ref (ad 1)), (5, .int 8)]) hx hb dX_foremost_32 hl (by decide) rfl (fun ls hl => ?_)
        refine lv_aload hx hb dX_foremost_34 (lv_at hl 0 rfl) ?_
        refine va_get (D := (dC, dI)) (ci := 1) (v := .int (kI σ 10 k)) (C := R_T) (T := T_T) (N := 14) hx hb hts uw_T hown hK hP (11 + k) (kx_wT hk) rfl 1 (by decide) (hts _ (List.mem_cons_of_mem _ wd_33)) (fun _ h9 => h9) rfl dX_foremost_36 ?_
        refine lv_iload_n hx hb dX_foremost_39 rfl (lv_at hl 4 rfl) ?_
        refine lv_icmp_ne (tgt := 68) hx hb dX_foremost_40 (by decide) (fun c_40 => ?_) (fun c_40 => ?_)
        · rw [if_neg c_40] at hf
          refine lv_iinc (v := nI (k + 1)) (lv' := [(6, .int (nI (k + 1))), (7, .ref (kx_ta ad k)), (3, .null), (0, .ref (ad 0)), (1, .int state), (2, .int thing), (4, .ref (ad 1)), (5, .int 8)]) hx hb dX_foremost_68 hl (k := 1) rfl (nI_1 _) (by decide) rfl (fun ls hl => ?_)
          refine lv_goto (tgt := 20) hx hb dX_foremost_71 (by decide) ?_
          exact ih (k + 1) none _ _ _ ls (by omega) hw (fun _ h9 => by cases h9) hf hP hS (lv_sub hl [0, 2, 3, 4, 5, 6, 7] rfl)
        · rw [if_pos c_40] at hf
          refine lv_aload hx hb dX_foremost_43 (lv_at hl 0 rfl) ?_
          refine va_get (D := (dC, dI)) (ci := 1) (v := .int (kI σ 16 k)) (C := R_T) (T := T_T) (N := 14) hx hb hts uw_T hown hK hP (11 + k) (kx_wT hk) rfl 8 (by decide) (hts _ (List.mem_cons_of_mem _ wd_47)) (fun _ h9 => h9) rfl dX_foremost_45 ?_
          refine lv_iload_n hx hb dX_foremost_48 rfl (lv_at hl 5 rfl) ?_
          refine lv_icmp_ne (tgt := 68) hx hb dX_foremost_49 (by decide) (fun c_49 => ?_) (fun c_49 => ?_)
          · rw [if_neg c_49] at hf
            refine lv_iinc (v := nI (k + 1)) (lv' := [(6, .int (nI (k + 1))), (7, .ref (kx_ta ad k)), (3, .null), (0, .ref (ad 0)), (1, .int state), (2, .int thing), (4, .ref (ad 1)), (5, .int 8)]) hx hb dX_foremost_68 hl (k := 1) rfl (nI_1 _) (by decide) rfl (fun ls hl => ?_)
            refine lv_goto (tgt := 20) hx hb dX_foremost_71 (by decide) ?_
            exact ih (k + 1) none _ _ _ ls (by omega) hw (fun _ h9 => by cases h9) hf hP hS (lv_sub hl [0, 2, 3, 4, 5, 6, 7] rfl)
          · rw [if_pos c_49] at hf
            refine lv_aload_nN hx hb dX_foremost_52 rfl (lv_at hl 2 rfl) ?_
            refine lv_ifnullN (tgt := 65) hx hb dX_foremost_53 (by decide) ?_
            refine lv_aload hx hb dX_foremost_65 (lv_at hl 0 rfl) ?_
            refine lv_astore_n (lv' := [(3, .ref (kx_ta ad k)), (7, .ref (kx_ta ad k)), (6, .int (nI k)), (0, .ref (ad 0)), (1, .int state), (2, .int thing), (4, .ref (ad 1)), (5, .int 8)]) hx hb dX_foremost_67 rfl hl (by decide) rfl (fun ls hl => ?_)
            refine lv_iinc (v := nI (k + 1)) (lv' := [(6, .int (nI (k + 1))), (3, .ref (kx_ta ad k)), (7, .ref (kx_ta ad k)), (0, .ref (ad 0)), (1, .int state), (2, .int thing), (4, .ref (ad 1)), (5, .int 8)]) hx hb dX_foremost_68 hl (k := 2) rfl (nI_1 _) (by decide) rfl (fun ls hl => ?_)
            refine lv_goto (tgt := 20) hx hb dX_foremost_71 (by decide) ?_
            exact ih (k + 1) (some k) _ _ _ ls (by omega) hw (fun _ h9 => by cases h9; exact hk) hf hP hS (lv_sub hl [0, 1, 3, 4, 5, 6, 7] rfl)
      · rw [kk_o_some] at hf
        have hbest_t : best_t < 8 := hbest best_t rfl
        have hl : lv_has ls 8 [(6, .int (nI k)), (3, .ref (kx_ta ad best_t)), (0, .ref (ad 0)), (1, .int state), (2, .int thing), (4, .ref (ad 1)), (5, .int 8)] := hl
        refine lv_iload hx hb dX_foremost_20 (lv_at hl 0 rfl) ?_
        refine lv_iload hx hb dX_foremost_22 (lv_at hl 6 rfl) ?_
        refine lv_icmp_ge (tgt := 74) hx hb dX_foremost_24 (by decide) (fun c9 => absurd c9 (kk_stay hk (by decide))) (fun _ => ?_)
        refine lv_aload hx hb dX_foremost_27 (lv_at hl 5 rfl) ?_
        refine lv_iload hx hb dX_foremost_29 (lv_at hl 0 rfl) ?_
        refine kx_ldTk hx hb hK hP hk dX_foremost_31 ?_
        refine lv_astore (lv' := [(7, .ref (kx_ta ad k)), (6, .int (nI k)), (3, .ref (kx_ta ad best_t)), (0, .ref (ad 0)), (1, .int state), (2, .int thing), (4, .ref (ad 1)), (5, .int 8)]) hx hb dX_foremost_32 hl (by decide) rfl (fun ls hl => ?_)
        refine lv_aload hx hb dX_foremost_34 (lv_at hl 0 rfl) ?_
        refine va_get (D := (dC, dI)) (ci := 1) (v := .int (kI σ 10 k)) (C := R_T) (T := T_T) (N := 14) hx hb hts uw_T hown hK hP (11 + k) (kx_wT hk) rfl 1 (by decide) (hts _ (List.mem_cons_of_mem _ wd_33)) (fun _ h9 => h9) rfl dX_foremost_36 ?_
        refine lv_iload_n hx hb dX_foremost_39 rfl (lv_at hl 4 rfl) ?_
        refine lv_icmp_ne (tgt := 68) hx hb dX_foremost_40 (by decide) (fun c_40 => ?_) (fun c_40 => ?_)
        · rw [if_neg c_40] at hf
          refine lv_iinc (v := nI (k + 1)) (lv' := [(6, .int (nI (k + 1))), (7, .ref (kx_ta ad k)), (3, .ref (kx_ta ad best_t)), (0, .ref (ad 0)), (1, .int state), (2, .int thing), (4, .ref (ad 1)), (5, .int 8)]) hx hb dX_foremost_68 hl (k := 1) rfl (nI_1 _) (by decide) rfl (fun ls hl => ?_)
          refine lv_goto (tgt := 20) hx hb dX_foremost_71 (by decide) ?_
          exact ih (k + 1) (some best_t) _ _ _ ls (by omega) hw (fun _ h9 => by cases h9; exact hbest_t) hf hP hS (lv_sub hl [0, 2, 3, 4, 5, 6, 7] rfl)
        · rw [if_pos c_40] at hf
          refine lv_aload hx hb dX_foremost_43 (lv_at hl 0 rfl) ?_
          refine va_get (D := (dC, dI)) (ci := 1) (v := .int (kI σ 16 k)) (C := R_T) (T := T_T) (N := 14) hx hb hts uw_T hown hK hP (11 + k) (kx_wT hk) rfl 8 (by decide) (hts _ (List.mem_cons_of_mem _ wd_47)) (fun _ h9 => h9) rfl dX_foremost_45 ?_
          refine lv_iload_n hx hb dX_foremost_48 rfl (lv_at hl 5 rfl) ?_
          refine lv_icmp_ne (tgt := 68) hx hb dX_foremost_49 (by decide) (fun c_49 => ?_) (fun c_49 => ?_)
          · rw [if_neg c_49] at hf
            refine lv_iinc (v := nI (k + 1)) (lv' := [(6, .int (nI (k + 1))), (7, .ref (kx_ta ad k)), (3, .ref (kx_ta ad best_t)), (0, .ref (ad 0)), (1, .int state), (2, .int thing), (4, .ref (ad 1)), (5, .int 8)]) hx hb dX_foremost_68 hl (k := 1) rfl (nI_1 _) (by decide) rfl (fun ls hl => ?_)
            refine lv_goto (tgt := 20) hx hb dX_foremost_71 (by decide) ?_
            exact ih (k + 1) (some best_t) _ _ _ ls (by omega) hw (fun _ h9 => by cases h9; exact hbest_t) hf hP hS (lv_sub hl [0, 2, 3, 4, 5, 6, 7] rfl)
          · rw [if_pos c_49] at hf
            refine lv_aload_n hx hb dX_foremost_52 rfl (lv_at hl 2 rfl) ?_
            refine lv_ifnull hx hb dX_foremost_53 ?_
            refine lv_aload hx hb dX_foremost_56 (lv_at hl 0 rfl) ?_
            refine lv_aload_n hx hb dX_foremost_58 rfl (lv_at hl 2 rfl) ?_
            refine kk_ci (w := kx_w ad cs) (As := [.ref (kx_ta ad best_t)]) (rest := []) ⟨hx, hb, hml, hown, hts⟩ (xc_isAheadOf l dC dI ad cs hj σ hw k best_t hk hbest_t) (cwV 1 hts gv_X_182 rfl rfl rfl (by decide +kernel) ⟨Nat.le_of_ble_eq_true rfl, Nat.le_of_ble_eq_true rfl⟩) (va_recv hK hP (ci := 1) (q0 := 11 + k) rfl (kx_wT hk)) hP hK hS (fun _ h9 => h9) rfl hl.1 rfl (Nat.le_of_ble_eq_true rfl) dX_foremost_59 ⟨Nat.zero_le _, Nat.zero_le _⟩ (fun r1 s1 H locs hq hP hS => ?_)
            obtain ⟨h1, hw⟩ := hq
            rw [kk_b_eq h1] at hf
            refine lv_if_eq (tgt := 68) hx hb dX_foremost_62 (by decide) (fun c_62 => ?_) (fun c_62 => ?_)
            · rw [if_pos c_62] at hf
              refine lv_iinc (v := nI (k + 1)) (lv' := [(6, .int (nI (k + 1))), (7, .ref (kx_ta ad k)), (3, .ref (kx_ta ad best_t)), (0, .ref (ad 0)), (1, .int state), (2, .int thing), (4, .ref (ad 1)), (5, .int 8)]) hx hb dX_foremost_68 hl (k := 1) rfl (nI_1 _) (by decide) rfl (fun ls hl => ?_)
              refine lv_goto (tgt := 20) hx hb dX_foremost_71 (by decide) ?_
              exact ih (k + 1) (some best_t) _ _ _ ls (by omega) hw (fun _ h9 => by cases h9; exact hbest_t) hf hP hS (lv_sub hl [0, 2, 3, 4, 5, 6, 7] rfl)
            · rw [if_neg c_62] at hf
              refine lv_aload hx hb dX_foremost_65 (lv_at hl 0 rfl) ?_
              refine lv_astore_n (lv' := [(3, .ref (kx_ta ad k)), (7, .ref (kx_ta ad k)), (6, .int (nI k)), (0, .ref (ad 0)), (1, .int state), (2, .int thing), (4, .ref (ad 1)), (5, .int 8)]) hx hb dX_foremost_67 rfl hl (by decide) rfl (fun ls hl => ?_)
              refine lv_iinc (v := nI (k + 1)) (lv' := [(6, .int (nI (k + 1))), (3, .ref (kx_ta ad k)), (7, .ref (kx_ta ad k)), (0, .ref (ad 0)), (1, .int state), (2, .int thing), (4, .ref (ad 1)), (5, .int 8)]) hx hb dX_foremost_68 hl (k := 2) rfl (nI_1 _) (by decide) rfl (fun ls hl => ?_)
              refine lv_goto (tgt := 20) hx hb dX_foremost_71 (by decide) ?_
              exact ih (k + 1) (some k) _ _ _ ls (by omega) hw (fun _ h9 => by cases h9; exact hk) hf hP hS (lv_sub hl [0, 1, 3, 4, 5, 6, 7] rfl)
  refine lv_aload_n hx hb dX_foremost_0 rfl (lv_at hl 0 rfl) ?_
  refine kk_cv (w := kx_w ad cs) (As := []) (rest := []) ⟨hx, hb, hml, hown, hts⟩ (xc_work l dC dI ad cs hj σ hw  ) (cwV 0 hts gv_X_160 rfl rfl rfl (by decide +kernel) ⟨Nat.le_of_ble_eq_true rfl, Nat.le_of_ble_eq_true rfl⟩) (va_recv hK hP (ci := 2) (q0 := 0) rfl rfl) hP hK hS (fun _ h9 => h9) rfl hl.1 rfl (Nat.le_of_ble_eq_true rfl) dX_foremost_1 ⟨Nat.zero_le _, Nat.zero_le _⟩ (fun s2 H locs hq hP hS => ?_)
  obtain ⟨h2, hw⟩ := hq
  rw [kk_v_eq h2] at hf
  refine lv_null hx hb dX_foremost_4 ?_
  refine lv_astore_nN (lv' := [(3, .null), (0, .ref (ad 0)), (1, .int state), (2, .int thing)]) hx hb dX_foremost_5 rfl hl (by decide) rfl (fun ls hl => ?_)
  refine lv_aload_n hx hb dX_foremost_6 rfl (lv_at hl 1 rfl) ?_
  refine va_get (D := (dC, dI)) (ci := 2) (v := .ref (ad 1)) (C := R_X) (T := T_X) (N := 8) hx hb hts uw_X hown hK hP 0 rfl rfl 2 (by decide) (hts _ (List.mem_cons_of_mem _ wd_106)) (fun _ h9 => h9) rfl dX_foremost_7 ?_
  refine lv_astore (lv' := [(4, .ref (ad 1)), (3, .null), (0, .ref (ad 0)), (1, .int state), (2, .int thing)]) hx hb dX_foremost_10 hl (by decide) rfl (fun ls hl => ?_)
  refine lv_aload hx hb dX_foremost_12 (lv_at hl 0 rfl) ?_
  refine va_alen (v := 8) hx hb hK hP 1 0 rfl rfl rfl dX_foremost_14 ?_
  refine lv_istore (lv' := [(5, .int 8), (4, .ref (ad 1)), (3, .null), (0, .ref (ad 0)), (1, .int state), (2, .int thing)]) hx hb dX_foremost_15 hl (by decide) rfl (fun ls hl => ?_)
  refine lv_iconst (v := 0) hx hb dX_foremost_17 (by decide) ?_
  refine lv_istore (lv' := [(6, .int 0), (5, .int 8), (4, .ref (ad 1)), (3, .null), (0, .ref (ad 0)), (1, .int state), (2, .int thing)]) hx hb dX_foremost_18 hl (by decide) rfl (fun ls hl => ?_)
  exact loop20 8 0 none _ _ _ ls (by omega) hw (fun _ h9 => by cases h9) hf hP hS (lv_sub hl [0, 3, 4, 5, 6, 2, 1] rfl)
set_option maxHeartbeats 4000000 in
set_option maxRecDepth 100000 in
theorem xc_runner (l : Launch) (dC : Nat → ClassId) (dI : Nat → Nat → Nat) (ad : Nat → Nat) (cs : Nat → ClassId) (hj : kx_inj ad) (σ : kx_S) (hw : kx_wf σ)  : Met l y_X_runner ws_X_runner ({ frames := 4, cells := 0, slots := 0, locals := 99 }) (kk_Pc (dC, dI) vwCl (kx_t cs) (kx_w ad cs σ) [.ref (ad 0)]) (va_Qe (kx_ta ad) (kx_po (xf_runner σ)) (kk_B (dC, dI) vwCl (kx_t cs) (kx_w ad cs)) (kx_A ad)) 0 0 (kx_A ad) := by
  refine Met.ofW (cc := b_X_runner) (maxL := 1) (ret := (some (.object "PriorityKernel$Task"))) (by decide) rfl ?_
  intro p e s m args below meth c s₁ B hml hv
  obtain ⟨rfl, hP, hK⟩ := hv
  have hx := B.exec
  have hb := B.bytes
  have hr := B.returns
  have hts := atoms_spec (ws := ws_X_runner) B.pre
  have hown : s.vm.findClass R_X = some m.cls := findClass_of_methodNamed B.named
  have hlocks := B.notSynchronized
  have hS : va_S (kx_A ad) s.heap s.heap [] := va_S.rf
  generalize hf : xf_runner σ = out
  have hl := lv_entry ([.ref (ad 0)]) (n := 1) (Nat.le_of_ble_eq_true rfl)
  rw [lg_entry_eq]
  generalize (lg_sl ([.ref (ad 0)]) ++ List.replicate (1 - (lg_sl ([.ref (ad 0)])).length) Slot.unset).toArray = ls at hl ⊢
  have hl : lv_has ls 1 [(0, .ref (ad 0))] := hl
  rw [xf_runner] at hf
  refine lv_aload_n hx hb dX_runner_0 rfl (lv_at hl 0 rfl) ?_
  refine lv_iconst (v := 1) hx hb dX_runner_1 (by decide) ?_
  refine lv_iconst (v := 0) hx hb dX_runner_2 (by decide) ?_
  refine kk_co (w := kx_w ad cs) (As := [.int 1, .int 0]) (rest := []) ⟨hx, hb, hml, hown, hts⟩ (xc_foremost l dC dI ad cs hj σ hw 1 0 ) (cwV 2 hts gv_X_178 rfl rfl rfl (by decide +kernel) ⟨Nat.le_of_ble_eq_true rfl, Nat.le_of_ble_eq_true rfl⟩) (va_recv hK hP (ci := 2) (q0 := 0) rfl rfl) hP hK hS (fun _ h9 => h9) rfl hl.1 rfl (Nat.le_of_ble_eq_true rfl) dX_runner_3 ⟨Nat.zero_le _, Nat.zero_le _⟩ (fun s1 H locs hq hP hS => ?_) (fun t1 s1 H locs hq hP hS => ?_)
  · obtain ⟨h1, hw, -⟩ := hq
    rw [kk_b_eq h1, kk_o_none] at hf
    exact kk_nret hx hb hr hlocks hP hK hS ⟨hf.symm, hw, fun _ h9 => by cases h9⟩ dX_runner_6
  · obtain ⟨h1, hw, h9⟩ := hq
    have ht1 : t1 < 8 := h9 t1 rfl
    rw [kk_b_eq h1, kk_o_some] at hf
    exact kk_aret (t := t1) hx hb hr hlocks hP hK hS ⟨hf.symm, hw, fun _ h9 => by cases h9; exact ht1⟩ dX_runner_6
set_option maxHeartbeats 4000000 in
set_option maxRecDepth 100000 in
theorem xc_firstWaiter (l : Launch) (dC : Nat → ClassId) (dI : Nat → Nat → Nat) (ad : Nat → Nat) (cs : Nat → ClassId) (hj : kx_inj ad) (σ : kx_S) (hw : kx_wf σ) (thing : Int32) : Met l y_X_firstWaiter ws_X_firstWaiter ({ frames := 4, cells := 0, slots := 0, locals := 99 }) (kk_Pc (dC, dI) vwCl (kx_t cs) (kx_w ad cs σ) [.ref (ad 0), .int thing]) (va_Qe (kx_ta ad) (kx_po (xf_firstWaiter σ thing)) (kk_B (dC, dI) vwCl (kx_t cs) (kx_w ad cs)) (kx_A ad)) 0 0 (kx_A ad) := by
  refine Met.ofW (cc := b_X_firstWaiter) (maxL := 2) (ret := (some (.object "PriorityKernel$Task"))) (by decide) rfl ?_
  intro p e s m args below meth c s₁ B hml hv
  obtain ⟨rfl, hP, hK⟩ := hv
  have hx := B.exec
  have hb := B.bytes
  have hr := B.returns
  have hts := atoms_spec (ws := ws_X_firstWaiter) B.pre
  have hown : s.vm.findClass R_X = some m.cls := findClass_of_methodNamed B.named
  have hlocks := B.notSynchronized
  have hS : va_S (kx_A ad) s.heap s.heap [] := va_S.rf
  generalize hf : xf_firstWaiter σ thing = out
  have hl := lv_entry ([.ref (ad 0), .int thing]) (n := 2) (Nat.le_of_ble_eq_true rfl)
  rw [lg_entry_eq]
  generalize (lg_sl ([.ref (ad 0), .int thing]) ++ List.replicate (2 - (lg_sl ([.ref (ad 0), .int thing])).length) Slot.unset).toArray = ls at hl ⊢
  have hl : lv_has ls 2 [(0, .ref (ad 0)), (1, .int thing)] := hl
  rw [xf_firstWaiter] at hf
  refine lv_aload_n hx hb dX_firstWaiter_0 rfl (lv_at hl 0 rfl) ?_
  refine lv_iconst (v := 2) hx hb dX_firstWaiter_1 (by decide) ?_
  refine lv_iload_n hx hb dX_firstWaiter_2 rfl (lv_at hl 1 rfl) ?_
  refine kk_co (w := kx_w ad cs) (As := [.int 2, .int thing]) (rest := []) ⟨hx, hb, hml, hown, hts⟩ (xc_foremost l dC dI ad cs hj σ hw 2 thing ) (cwV 2 hts gv_X_178 rfl rfl rfl (by decide +kernel) ⟨Nat.le_of_ble_eq_true rfl, Nat.le_of_ble_eq_true rfl⟩) (va_recv hK hP (ci := 2) (q0 := 0) rfl rfl) hP hK hS (fun _ h9 => h9) rfl hl.1 rfl (Nat.le_of_ble_eq_true rfl) dX_firstWaiter_3 ⟨Nat.zero_le _, Nat.zero_le _⟩ (fun s1 H locs hq hP hS => ?_) (fun t1 s1 H locs hq hP hS => ?_)
  · obtain ⟨h1, hw, -⟩ := hq
    rw [kk_b_eq h1, kk_o_none] at hf
    exact kk_nret hx hb hr hlocks hP hK hS ⟨hf.symm, hw, fun _ h9 => by cases h9⟩ dX_firstWaiter_6
  · obtain ⟨h1, hw, h9⟩ := hq
    have ht1 : t1 < 8 := h9 t1 rfl
    rw [kk_b_eq h1, kk_o_some] at hf
    exact kk_aret (t := t1) hx hb hr hlocks hP hK hS ⟨hf.symm, hw, fun _ h9 => by cases h9; exact ht1⟩ dX_firstWaiter_6
set_option maxHeartbeats 4000000 in
set_option maxRecDepth 100000 in
theorem xc_startTurn (l : Launch) (dC : Nat → ClassId) (dI : Nat → Nat → Nat) (ad : Nat → Nat) (cs : Nat → ClassId) (hj : kx_inj ad) (σ : kx_S) (hw : kx_wf σ) (t : Nat) (ht : t < 8) : Met l y_X_startTurn ws_X_startTurn ({ frames := 0, cells := 0, slots := 0, locals := 0 }) (kk_Pc (dC, dI) vwCl (kx_t cs) (kx_w ad cs σ) [.ref (ad 0), .ref (kx_ta ad t)]) (va_Qv (kx_pv (xf_startTurn σ t)) (kk_B (dC, dI) vwCl (kx_t cs) (kx_w ad cs)) (kx_A ad)) 0 0 (kx_A ad) := by
  refine Met.ofW (cc := b_X_startTurn) (maxL := 2) (ret := none) (by decide) rfl ?_
  intro p e s m args below meth c s₁ B hml hv
  obtain ⟨rfl, hP, hK⟩ := hv
  have hx := B.exec
  have hb := B.bytes
  have hr := B.returns
  have hts := atoms_spec (ws := ws_X_startTurn) B.pre
  have hown : s.vm.findClass R_X = some m.cls := findClass_of_methodNamed B.named
  have hlocks := B.notSynchronized
  have hS : va_S (kx_A ad) s.heap s.heap [] := va_S.rf
  generalize hf : xf_startTurn σ t = out
  have hl := lv_entry ([.ref (ad 0), .ref (kx_ta ad t)]) (n := 2) (Nat.le_of_ble_eq_true rfl)
  rw [lg_entry_eq]
  generalize (lg_sl ([.ref (ad 0), .ref (kx_ta ad t)]) ++ List.replicate (2 - (lg_sl ([.ref (ad 0), .ref (kx_ta ad t)])).length) Slot.unset).toArray = ls at hl ⊢
  have hl : lv_has ls 2 [(0, .ref (ad 0)), (1, .ref (kx_ta ad t))] := hl
  rw [xf_startTurn] at hf
  refine lv_aload_n hx hb dX_startTurn_0 rfl (lv_at hl 1 rfl) ?_
  refine lv_aload_n hx hb dX_startTurn_1 rfl (lv_at hl 0 rfl) ?_
  refine lv_dup hx hb dX_startTurn_2 rfl ?_
  refine va_get (D := (dC, dI)) (ci := 2) (v := .long (kJ σ 2 0)) (C := R_X) (T := T_X) (N := 8) hx hb hts uw_X hown hK hP 0 rfl rfl 7 (by decide) (hts _ (List.mem_cons_of_mem _ wd_111)) (fun _ h9 => h9) rfl dX_startTurn_3 ?_
  refine lv_lconst (v := 1) hx hb dX_startTurn_6 (by decide) ?_
  refine lv_ladd hx hb dX_startTurn_7 ?_
  refine lv_dup2_x1_2 hx hb dX_startTurn_8 rfl rfl ?_
  refine va_put (D := (dC, dI)) (ci := 2) (v := .long ((kJ σ 2 0) + 1)) (ty := .long) (C := R_X) (T := T_X) (N := 8) hx hb hts uw_X ty_X ty_X_ok nm_X hown hK hP (kx_D hj) hS 0 rfl rfl 7 (by decide) (hts _ (List.mem_cons_of_mem _ wd_111)) (fun _ h9 => h9) rfl (by decide +kernel) rfl rfl (Nat.le_of_ble_eq_true rfl) dX_startTurn_9 (fun H locs hP _ hS => ?_)
  replace hP := kx_u_lastMoment hP
  replace hw := kx_wf_J (f := 2) (i := 0) (v := (kJ σ 2 0) + 1) hw
  refine va_put (D := (dC, dI)) (ci := 1) (v := .long ((kJ σ 2 0) + 1)) (ty := .long) (C := R_T) (T := T_T) (N := 14) hx hb hts uw_T ty_T ty_T_ok nm_T hown hK hP (kx_D hj) hS (11 + t) (kx_wT ht) rfl 7 (by decide) (hts _ (List.mem_cons_of_mem _ wd_45)) (fun _ h9 => h9) rfl (by decide +kernel) rfl rfl (Nat.le_of_ble_eq_true rfl) dX_startTurn_12 (fun H locs hP _ hS => ?_)
  replace hP := kx_u_since ht hP
  replace hw := kx_wf_J (f := 0) (i := t) (v := (kJ σ 2 0) + 1) hw
  refine lv_aload_n hx hb dX_startTurn_15 rfl (lv_at hl 1 rfl) ?_
  refine lv_iconst (v := 0) hx hb dX_startTurn_16 (by decide) ?_
  refine va_put (D := (dC, dI)) (ci := 1) (v := .int 0) (ty := .int) (C := R_T) (T := T_T) (N := 14) hx hb hts uw_T ty_T ty_T_ok nm_T hown hK hP (kx_D hj) hS (11 + t) (kx_wT ht) rfl 5 (by decide) (hts _ (List.mem_cons_of_mem _ wd_41)) (fun _ h9 => h9) rfl (by decide +kernel) rfl rfl (Nat.le_of_ble_eq_true rfl) dX_startTurn_17 (fun H locs hP _ hS => ?_)
  replace hP := kx_u_used ht hP
  replace hw := kx_wf_I (f := 14) (i := t) (v := 0) hw (by decide)
  exact kk_vret hx hb hr hlocks hP hK hS ⟨hf.symm, hw⟩ dX_startTurn_20
