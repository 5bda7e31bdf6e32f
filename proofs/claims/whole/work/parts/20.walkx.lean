set_option maxHeartbeats 4000000 in
set_option maxRecDepth 100000 in
theorem xc_isBelow (l : Launch) (a : Int32) (b : Int32) : Met l y_X_isBelow ws_X_isBelow ({ frames := 0, cells := 0, slots := 0, locals := 0 }) (kk_P0 [.int a, .int b]) (va_Qi (fun r (_ : Unit) => r = xf_isBelow a b) (fun _ _ => True) (fun _ => False)) 0 0 (fun _ => False) := by
  refine Met.ofW (cc := b_X_isBelow) (maxL := 2) (ret := (some .boolean)) (by decide) rfl ?_
  intro p e s m args below meth c s₁ B hml hv
  obtain ⟨rfl, -⟩ := hv
  have hx := B.exec
  have hb := B.bytes
  have hr := B.returns
  have hlocks := B.notSynchronized
  generalize hf : xf_isBelow a b = out
  have hl := lv_entry ([.int a, .int b]) (n := 2) (Nat.le_of_ble_eq_true rfl)
  rw [lg_entry_eq]
  generalize (lg_sl ([.int a, .int b]) ++ List.replicate (2 - (lg_sl ([.int a, .int b])).length) Slot.unset).toArray = ls at hl ⊢
  have hl : lv_has ls 2 [(0, .int a), (1, .int b)] := hl
  rw [xf_isBelow] at hf
  refine lv_iload_n hx hb dX_isBelow_0 rfl (lv_at hl 0 rfl) ?_
  refine lv_if_lt (tgt := 13) hx hb dX_isBelow_1 (by decide) (fun c_1 => ?_) (fun c_1 => ?_)
  · rw [if_pos c_1] at hf
    refine lv_iconst (v := 0) hx hb dX_isBelow_13 (by decide) ?_
    exact kk_pret hx hb hr hlocks rfl hf dX_isBelow_14
  · rw [if_neg c_1] at hf
    refine lv_iload_n hx hb dX_isBelow_4 rfl (lv_at hl 0 rfl) ?_
    refine lv_iload_n hx hb dX_isBelow_5 rfl (lv_at hl 1 rfl) ?_
    refine lv_icmp_ge (tgt := 13) hx hb dX_isBelow_6 (by decide) (fun c_6 => ?_) (fun c_6 => ?_)
    · rw [if_pos c_6] at hf
      refine lv_iconst (v := 0) hx hb dX_isBelow_13 (by decide) ?_
      exact kk_pret hx hb hr hlocks rfl hf dX_isBelow_14
    · rw [if_neg c_6] at hf
      refine lv_iconst (v := 1) hx hb dX_isBelow_9 (by decide) ?_
      refine lv_goto (tgt := 14) hx hb dX_isBelow_10 (by decide) ?_
      exact kk_pret hx hb hr hlocks rfl hf dX_isBelow_14
set_option maxHeartbeats 4000000 in
set_option maxRecDepth 100000 in
theorem xc_isPriority (l : Launch) (a : Int32) : Met l y_X_isPriority ws_X_isPriority ({ frames := 0, cells := 0, slots := 0, locals := 0 }) (kk_P0 [.int a]) (va_Qi (fun r (_ : Unit) => r = xf_isPriority a) (fun _ _ => True) (fun _ => False)) 0 0 (fun _ => False) := by
  refine Met.ofW (cc := b_X_isPriority) (maxL := 1) (ret := (some .boolean)) (by decide) rfl ?_
  intro p e s m args below meth c s₁ B hml hv
  obtain ⟨rfl, -⟩ := hv
  have hx := B.exec
  have hb := B.bytes
  have hr := B.returns
  have hlocks := B.notSynchronized
  generalize hf : xf_isPriority a = out
  have hl := lv_entry ([.int a]) (n := 1) (Nat.le_of_ble_eq_true rfl)
  rw [lg_entry_eq]
  generalize (lg_sl ([.int a]) ++ List.replicate (1 - (lg_sl ([.int a])).length) Slot.unset).toArray = ls at hl ⊢
  have hl : lv_has ls 1 [(0, .int a)] := hl
  rw [xf_isPriority] at hf
  refine lv_iload_n hx hb dX_isPriority_0 rfl (lv_at hl 0 rfl) ?_
  refine lv_iconst (v := 1) hx hb dX_isPriority_1 (by decide) ?_
  refine lv_icmp_lt (tgt := 15) hx hb dX_isPriority_2 (by decide) (fun c_2 => ?_) (fun c_2 => ?_)
  · rw [if_pos c_2] at hf
    refine lv_iconst (v := 0) hx hb dX_isPriority_15 (by decide) ?_
    exact kk_pret hx hb hr hlocks rfl hf dX_isPriority_16
  · rw [if_neg c_2] at hf
    refine lv_iload_n hx hb dX_isPriority_5 rfl (lv_at hl 0 rfl) ?_
    refine lv_bipush (v := 31) hx hb dX_isPriority_6 (by decide) ?_
    refine lv_icmp_gt (tgt := 15) hx hb dX_isPriority_8 (by decide) (fun c_8 => ?_) (fun c_8 => ?_)
    · rw [if_pos c_8] at hf
      refine lv_iconst (v := 0) hx hb dX_isPriority_15 (by decide) ?_
      exact kk_pret hx hb hr hlocks rfl hf dX_isPriority_16
    · rw [if_neg c_8] at hf
      refine lv_iconst (v := 1) hx hb dX_isPriority_11 (by decide) ?_
      refine lv_goto (tgt := 16) hx hb dX_isPriority_12 (by decide) ?_
      exact kk_pret hx hb hr hlocks rfl hf dX_isPriority_16
set_option maxHeartbeats 4000000 in
set_option maxRecDepth 100000 in
theorem xc_isTimeout (l : Launch) (a : Int32) : Met l y_X_isTimeout ws_X_isTimeout ({ frames := 0, cells := 0, slots := 0, locals := 0 }) (kk_P0 [.int a]) (va_Qi (fun r (_ : Unit) => r = xf_isTimeout a) (fun _ _ => True) (fun _ => False)) 0 0 (fun _ => False) := by
  refine Met.ofW (cc := b_X_isTimeout) (maxL := 1) (ret := (some .boolean)) (by decide) rfl ?_
  intro p e s m args below meth c s₁ B hml hv
  obtain ⟨rfl, -⟩ := hv
  have hx := B.exec
  have hb := B.bytes
  have hr := B.returns
  have hlocks := B.notSynchronized
  generalize hf : xf_isTimeout a = out
  have hl := lv_entry ([.int a]) (n := 1) (Nat.le_of_ble_eq_true rfl)
  rw [lg_entry_eq]
  generalize (lg_sl ([.int a]) ++ List.replicate (1 - (lg_sl ([.int a])).length) Slot.unset).toArray = ls at hl ⊢
  have hl : lv_has ls 1 [(0, .int a)] := hl
  rw [xf_isTimeout] at hf
  refine lv_iload_n hx hb dX_isTimeout_0 rfl (lv_at hl 0 rfl) ?_
  refine lv_if_lt (tgt := 15) hx hb dX_isTimeout_1 (by decide) (fun c_1 => ?_) (fun c_1 => ?_)
  · rw [if_pos c_1] at hf
    refine lv_iconst (v := 0) hx hb dX_isTimeout_15 (by decide) ?_
    exact kk_pret hx hb hr hlocks rfl hf dX_isTimeout_16
  · rw [if_neg c_1] at hf
    refine lv_iload_n hx hb dX_isTimeout_4 rfl (lv_at hl 0 rfl) ?_
    refine lv_sipush (v := 1000) hx hb dX_isTimeout_5 (by decide) ?_
    refine lv_icmp_gt (tgt := 15) hx hb dX_isTimeout_8 (by decide) (fun c_8 => ?_) (fun c_8 => ?_)
    · rw [if_pos c_8] at hf
      refine lv_iconst (v := 0) hx hb dX_isTimeout_15 (by decide) ?_
      exact kk_pret hx hb hr hlocks rfl hf dX_isTimeout_16
    · rw [if_neg c_8] at hf
      refine lv_iconst (v := 1) hx hb dX_isTimeout_11 (by decide) ?_
      refine lv_goto (tgt := 16) hx hb dX_isTimeout_12 (by decide) ?_
      exact kk_pret hx hb hr hlocks rfl hf dX_isTimeout_16
set_option maxHeartbeats 4000000 in
set_option maxRecDepth 100000 in
theorem xc_isAheadOf (l : Launch) (dC : Nat → ClassId) (dI : Nat → Nat → Nat) (ad : Nat → Nat) (cs : Nat → ClassId) (hj : kx_inj ad) (σ : kx_S) (hw : kx_wf σ) (t0 : Nat) (t : Nat) (ht0 : t0 < 8) (ht : t < 8) : Met l y_T_isAheadOf ws_T_isAheadOf ({ frames := 0, cells := 0, slots := 0, locals := 0 }) (kk_Pc (dC, dI) vwCl (kx_t cs) (kx_w ad cs σ) [.ref (kx_ta ad t0), .ref (kx_ta ad t)]) (va_Qi (kx_pi (xf_isAheadOf σ t0 t)) (kk_B (dC, dI) vwCl (kx_t cs) (kx_w ad cs)) (kx_A ad)) 0 0 (kx_A ad) := by
  refine Met.ofW (cc := b_T_isAheadOf) (maxL := 2) (ret := (some .boolean)) (by decide) rfl ?_
  intro p e s m args below meth c s₁ B hml hv
  obtain ⟨rfl, hP, hK⟩ := hv
  have hx := B.exec
  have hb := B.bytes
  have hr := B.returns
  have hts := atoms_spec (ws := ws_T_isAheadOf) B.pre
  have hown : s.vm.findClass R_T = some m.cls := findClass_of_methodNamed B.named
  have hlocks := B.notSynchronized
  have hS : va_S (kx_A ad) s.heap s.heap [] := va_S.rf
  generalize hf : xf_isAheadOf σ t0 t = out
  have hl := lv_entry ([.ref (kx_ta ad t0), .ref (kx_ta ad t)]) (n := 2) (Nat.le_of_ble_eq_true rfl)
  rw [lg_entry_eq]
  generalize (lg_sl ([.ref (kx_ta ad t0), .ref (kx_ta ad t)]) ++ List.replicate (2 - (lg_sl ([.ref (kx_ta ad t0), .ref (kx_ta ad t)])).length) Slot.unset).toArray = ls at hl ⊢
  have hl : lv_has ls 2 [(0, .ref (kx_ta ad t0)), (1, .ref (kx_ta ad t))] := hl
  rw [xf_isAheadOf] at hf
  refine lv_aload_n hx hb dT_isAheadOf_0 rfl (lv_at hl 0 rfl) ?_
  refine va_get (D := (dC, dI)) (ci := 1) (v := .int (kI σ 12 t0)) (C := R_T) (T := T_T) (N := 14) hx hb hts uw_T hown hK hP (11 + t0) (kx_wT ht0) rfl 3 (by decide) (hts _ (List.mem_cons_of_mem _ wd_36)) (fun _ h9 => h9) rfl dT_isAheadOf_1 ?_
  refine lv_aload_n hx hb dT_isAheadOf_4 rfl (lv_at hl 1 rfl) ?_
  refine va_get (D := (dC, dI)) (ci := 1) (v := .int (kI σ 12 t)) (C := R_T) (T := T_T) (N := 14) hx hb hts uw_T hown hK hP (11 + t) (kx_wT ht) rfl 3 (by decide) (hts _ (List.mem_cons_of_mem _ wd_36)) (fun _ h9 => h9) rfl dT_isAheadOf_5 ?_
  refine lv_icmp_gt (tgt := 34) hx hb dT_isAheadOf_8 (by decide) (fun c_8 => ?_) (fun c_8 => ?_)
  · rw [if_pos c_8] at hf
    refine lv_iconst (v := 1) hx hb dT_isAheadOf_34 (by decide) ?_
    refine lv_goto (tgt := 39) hx hb dT_isAheadOf_35 (by decide) ?_
    exact kk_zret hx hb hr hlocks rfl hP hK hS ⟨hf.symm, hw⟩ dT_isAheadOf_39
  · rw [if_neg c_8] at hf
    refine lv_aload_n hx hb dT_isAheadOf_11 rfl (lv_at hl 0 rfl) ?_
    refine va_get (D := (dC, dI)) (ci := 1) (v := .int (kI σ 12 t0)) (C := R_T) (T := T_T) (N := 14) hx hb hts uw_T hown hK hP (11 + t0) (kx_wT ht0) rfl 3 (by decide) (hts _ (List.mem_cons_of_mem _ wd_36)) (fun _ h9 => h9) rfl dT_isAheadOf_12 ?_
    refine lv_aload_n hx hb dT_isAheadOf_15 rfl (lv_at hl 1 rfl) ?_
    refine va_get (D := (dC, dI)) (ci := 1) (v := .int (kI σ 12 t)) (C := R_T) (T := T_T) (N := 14) hx hb hts uw_T hown hK hP (11 + t) (kx_wT ht) rfl 3 (by decide) (hts _ (List.mem_cons_of_mem _ wd_36)) (fun _ h9 => h9) rfl dT_isAheadOf_16 ?_
    refine lv_icmp_ne (tgt := 38) hx hb dT_isAheadOf_19 (by decide) (fun c_19 => ?_) (fun c_19 => ?_)
    · rw [if_neg c_19] at hf
      refine lv_iconst (v := 0) hx hb dT_isAheadOf_38 (by decide) ?_
      exact kk_zret hx hb hr hlocks rfl hP hK hS ⟨hf.symm, hw⟩ dT_isAheadOf_39
    · rw [if_pos c_19] at hf
      refine lv_aload_n hx hb dT_isAheadOf_22 rfl (lv_at hl 0 rfl) ?_
      refine va_get (D := (dC, dI)) (ci := 1) (v := .long (kJ σ 0 t0)) (C := R_T) (T := T_T) (N := 14) hx hb hts uw_T hown hK hP (11 + t0) (kx_wT ht0) rfl 7 (by decide) (hts _ (List.mem_cons_of_mem _ wd_44)) (fun _ h9 => h9) rfl dT_isAheadOf_23 ?_
      refine lv_aload_n hx hb dT_isAheadOf_26 rfl (lv_at hl 1 rfl) ?_
      refine va_get (D := (dC, dI)) (ci := 1) (v := .long (kJ σ 0 t)) (C := R_T) (T := T_T) (N := 14) hx hb hts uw_T hown hK hP (11 + t) (kx_wT ht) rfl 7 (by decide) (hts _ (List.mem_cons_of_mem _ wd_44)) (fun _ h9 => h9) rfl dT_isAheadOf_27 ?_
      refine W.lcmp hx hb dT_isAheadOf_30 ?_
      refine lv_if_ge (tgt := 38) hx hb dT_isAheadOf_31 (by decide) (fun c_31 => ?_) (fun c_31 => ?_)
      · rw [if_pos c_31] at hf
        refine lv_iconst (v := 0) hx hb dT_isAheadOf_38 (by decide) ?_
        exact kk_zret hx hb hr hlocks rfl hP hK hS ⟨hf.symm, hw⟩ dT_isAheadOf_39
      · rw [if_neg c_31] at hf
        refine lv_iconst (v := 1) hx hb dT_isAheadOf_34 (by decide) ?_
        refine lv_goto (tgt := 39) hx hb dT_isAheadOf_35 (by decide) ?_
        exact kk_zret hx hb hr hlocks rfl hP hK hS ⟨hf.symm, hw⟩ dT_isAheadOf_39
set_option maxHeartbeats 4000000 in
set_option maxRecDepth 100000 in
theorem xc_isEmpty_0 (l : Launch) (dC : Nat → ClassId) (dI : Nat → Nat → Nat) (ad : Nat → Nat) (cs : Nat → ClassId) (hj : kx_inj ad) (σ : kx_S) (hw : kx_wf σ)  : Met l y_Q_isEmpty ws_Q_isEmpty ({ frames := 0, cells := 0, slots := 0, locals := 0 }) (kk_Pc (dC, dI) vwCl (kx_t cs) (kx_w ad cs σ) [.ref (ad 5)]) (va_Qi (kx_pi (xf_isEmpty_0 σ)) (kk_B (dC, dI) vwCl (kx_t cs) (kx_w ad cs)) (kx_A ad)) 0 0 (kx_A ad) := by
  refine Met.ofW (cc := b_Q_isEmpty) (maxL := 1) (ret := (some .boolean)) (by decide) rfl ?_
  intro p e s m args below meth c s₁ B hml hv
  obtain ⟨rfl, hP, hK⟩ := hv
  have hx := B.exec
  have hb := B.bytes
  have hr := B.returns
  have hts := atoms_spec (ws := ws_Q_isEmpty) B.pre
  have hown : s.vm.findClass R_Q = some m.cls := findClass_of_methodNamed B.named
  have hlocks := B.notSynchronized
  have hS : va_S (kx_A ad) s.heap s.heap [] := va_S.rf
  generalize hf : xf_isEmpty_0 σ = out
  have hl := lv_entry ([.ref (ad 5)]) (n := 1) (Nat.le_of_ble_eq_true rfl)
  rw [lg_entry_eq]
  generalize (lg_sl ([.ref (ad 5)]) ++ List.replicate (1 - (lg_sl ([.ref (ad 5)])).length) Slot.unset).toArray = ls at hl ⊢
  have hl : lv_has ls 1 [(0, .ref (ad 5))] := hl
  rw [xf_isEmpty_0] at hf
  refine lv_aload_n hx hb dQ_isEmpty_0 rfl (lv_at hl 0 rfl) ?_
  refine va_get (D := (dC, dI)) (ci := 0) (v := .int (kI σ 9 0)) (C := R_Q) (T := T_Q) (N := 3) hx hb hts uw_Q hown hK hP 5 rfl rfl 2 (by decide) (hts _ (List.mem_cons_of_mem _ wd_95)) (fun _ h9 => h9) rfl dQ_isEmpty_1 ?_
  refine lv_if_ne (tgt := 11) hx hb dQ_isEmpty_4 (by decide) (fun c_4 => ?_) (fun c_4 => ?_)
  · rw [if_neg c_4] at hf
    refine lv_iconst (v := 0) hx hb dQ_isEmpty_11 (by decide) ?_
    exact kk_zret hx hb hr hlocks rfl hP hK hS ⟨hf.symm, hw⟩ dQ_isEmpty_12
  · rw [if_pos c_4] at hf
    refine lv_iconst (v := 1) hx hb dQ_isEmpty_7 (by decide) ?_
    refine lv_goto (tgt := 12) hx hb dQ_isEmpty_8 (by decide) ?_
    exact kk_zret hx hb hr hlocks rfl hP hK hS ⟨hf.symm, hw⟩ dQ_isEmpty_12
set_option maxHeartbeats 4000000 in
set_option maxRecDepth 100000 in
theorem xc_isEmpty_1 (l : Launch) (dC : Nat → ClassId) (dI : Nat → Nat → Nat) (ad : Nat → Nat) (cs : Nat → ClassId) (hj : kx_inj ad) (σ : kx_S) (hw : kx_wf σ)  : Met l y_Q_isEmpty ws_Q_isEmpty ({ frames := 0, cells := 0, slots := 0, locals := 0 }) (kk_Pc (dC, dI) vwCl (kx_t cs) (kx_w ad cs σ) [.ref (ad 6)]) (va_Qi (kx_pi (xf_isEmpty_1 σ)) (kk_B (dC, dI) vwCl (kx_t cs) (kx_w ad cs)) (kx_A ad)) 0 0 (kx_A ad) := by
  refine Met.ofW (cc := b_Q_isEmpty) (maxL := 1) (ret := (some .boolean)) (by decide) rfl ?_
  intro p e s m args below meth c s₁ B hml hv
  obtain ⟨rfl, hP, hK⟩ := hv
  have hx := B.exec
  have hb := B.bytes
  have hr := B.returns
  have hts := atoms_spec (ws := ws_Q_isEmpty) B.pre
  have hown : s.vm.findClass R_Q = some m.cls := findClass_of_methodNamed B.named
  have hlocks := B.notSynchronized
  have hS : va_S (kx_A ad) s.heap s.heap [] := va_S.rf
  generalize hf : xf_isEmpty_1 σ = out
  have hl := lv_entry ([.ref (ad 6)]) (n := 1) (Nat.le_of_ble_eq_true rfl)
  rw [lg_entry_eq]
  generalize (lg_sl ([.ref (ad 6)]) ++ List.replicate (1 - (lg_sl ([.ref (ad 6)])).length) Slot.unset).toArray = ls at hl ⊢
  have hl : lv_has ls 1 [(0, .ref (ad 6))] := hl
  rw [xf_isEmpty_1] at hf
  refine lv_aload_n hx hb dQ_isEmpty_0 rfl (lv_at hl 0 rfl) ?_
  refine va_get (D := (dC, dI)) (ci := 0) (v := .int (kI σ 9 1)) (C := R_Q) (T := T_Q) (N := 3) hx hb hts uw_Q hown hK hP 6 rfl rfl 2 (by decide) (hts _ (List.mem_cons_of_mem _ wd_95)) (fun _ h9 => h9) rfl dQ_isEmpty_1 ?_
  refine lv_if_ne (tgt := 11) hx hb dQ_isEmpty_4 (by decide) (fun c_4 => ?_) (fun c_4 => ?_)
  · rw [if_neg c_4] at hf
    refine lv_iconst (v := 0) hx hb dQ_isEmpty_11 (by decide) ?_
    exact kk_zret hx hb hr hlocks rfl hP hK hS ⟨hf.symm, hw⟩ dQ_isEmpty_12
  · rw [if_pos c_4] at hf
    refine lv_iconst (v := 1) hx hb dQ_isEmpty_7 (by decide) ?_
    refine lv_goto (tgt := 12) hx hb dQ_isEmpty_8 (by decide) ?_
    exact kk_zret hx hb hr hlocks rfl hP hK hS ⟨hf.symm, hw⟩ dQ_isEmpty_12
theorem xc_isEmpty (l : Launch) (dC : Nat → ClassId) (dI : Nat → Nat → Nat) (ad : Nat → Nat) (cs : Nat → ClassId) (hj : kx_inj ad) (σ : kx_S) (hw : kx_wf σ) (q : Nat)  (hq : q < 2) : Met l y_Q_isEmpty ws_Q_isEmpty ({ frames := 0, cells := 0, slots := 0, locals := 0 }) (kk_Pc (dC, dI) vwCl (kx_t cs) (kx_w ad cs σ) [.ref (kx_qa ad q)]) (va_Qi (kx_pi (xf_isEmpty σ q )) (kk_B (dC, dI) vwCl (kx_t cs) (kx_w ad cs)) (kx_A ad)) 0 0 (kx_A ad) := by
  rcases (show q = 0 ∨ q = 1 by omega) with rfl | rfl
  · exact xc_isEmpty_0 l dC dI ad cs hj σ hw 
  · exact xc_isEmpty_1 l dC dI ad cs hj σ hw 
set_option maxHeartbeats 4000000 in
set_option maxRecDepth 100000 in
theorem xc_isFull_0 (l : Launch) (dC : Nat → ClassId) (dI : Nat → Nat → Nat) (ad : Nat → Nat) (cs : Nat → ClassId) (hj : kx_inj ad) (σ : kx_S) (hw : kx_wf σ)  : Met l y_Q_isFull ws_Q_isFull ({ frames := 0, cells := 0, slots := 0, locals := 0 }) (kk_Pc (dC, dI) vwCl (kx_t cs) (kx_w ad cs σ) [.ref (ad 5)]) (va_Qi (kx_pi (xf_isFull_0 σ)) (kk_B (dC, dI) vwCl (kx_t cs) (kx_w ad cs)) (kx_A ad)) 0 0 (kx_A ad) := by
  refine Met.ofW (cc := b_Q_isFull) (maxL := 1) (ret := (some .boolean)) (by decide) rfl ?_
  intro p e s m args below meth c s₁ B hml hv
  obtain ⟨rfl, hP, hK⟩ := hv
  have hx := B.exec
  have hb := B.bytes
  have hr := B.returns
  have hts := atoms_spec (ws := ws_Q_isFull) B.pre
  have hown : s.vm.findClass R_Q = some m.cls := findClass_of_methodNamed B.named
  have hlocks := B.notSynchronized
  have hS : va_S (kx_A ad) s.heap s.heap [] := va_S.rf
  generalize hf : xf_isFull_0 σ = out
  have hl := lv_entry ([.ref (ad 5)]) (n := 1) (Nat.le_of_ble_eq_true rfl)
  rw [lg_entry_eq]
  generalize (lg_sl ([.ref (ad 5)]) ++ List.replicate (1 - (lg_sl ([.ref (ad 5)])).length) Slot.unset).toArray = ls at hl ⊢
  have hl : lv_has ls 1 [(0, .ref (ad 5))] := hl
  rw [xf_isFull_0] at hf
  refine lv_aload_n hx hb dQ_isFull_0 rfl (lv_at hl 0 rfl) ?_
  refine va_get (D := (dC, dI)) (ci := 0) (v := .int (kI σ 9 0)) (C := R_Q) (T := T_Q) (N := 3) hx hb hts uw_Q hown hK hP 5 rfl rfl 2 (by decide) (hts _ (List.mem_cons_of_mem _ wd_95)) (fun _ h9 => h9) rfl dQ_isFull_1 ?_
  refine lv_iconst (v := 4) hx hb dQ_isFull_4 (by decide) ?_
  refine lv_icmp_ne (tgt := 12) hx hb dQ_isFull_5 (by decide) (fun c_5 => ?_) (fun c_5 => ?_)
  · rw [if_neg c_5] at hf
    refine lv_iconst (v := 0) hx hb dQ_isFull_12 (by decide) ?_
    exact kk_zret hx hb hr hlocks rfl hP hK hS ⟨hf.symm, hw⟩ dQ_isFull_13
  · rw [if_pos c_5] at hf
    refine lv_iconst (v := 1) hx hb dQ_isFull_8 (by decide) ?_
    refine lv_goto (tgt := 13) hx hb dQ_isFull_9 (by decide) ?_
    exact kk_zret hx hb hr hlocks rfl hP hK hS ⟨hf.symm, hw⟩ dQ_isFull_13
set_option maxHeartbeats 4000000 in
set_option maxRecDepth 100000 in
theorem xc_isFull_1 (l : Launch) (dC : Nat → ClassId) (dI : Nat → Nat → Nat) (ad : Nat → Nat) (cs : Nat → ClassId) (hj : kx_inj ad) (σ : kx_S) (hw : kx_wf σ)  : Met l y_Q_isFull ws_Q_isFull ({ frames := 0, cells := 0, slots := 0, locals := 0 }) (kk_Pc (dC, dI) vwCl (kx_t cs) (kx_w ad cs σ) [.ref (ad 6)]) (va_Qi (kx_pi (xf_isFull_1 σ)) (kk_B (dC, dI) vwCl (kx_t cs) (kx_w ad cs)) (kx_A ad)) 0 0 (kx_A ad) := by
  refine Met.ofW (cc := b_Q_isFull) (maxL := 1) (ret := (some .boolean)) (by decide) rfl ?_
  intro p e s m args below meth c s₁ B hml hv
  obtain ⟨rfl, hP, hK⟩ := hv
  have hx := B.exec
  have hb := B.bytes
  have hr := B.returns
  have hts := atoms_spec (ws := ws_Q_isFull) B.pre
  have hown : s.vm.findClass R_Q = some m.cls := findClass_of_methodNamed B.named
  have hlocks := B.notSynchronized
  have hS : va_S (kx_A ad) s.heap s.heap [] := va_S.rf
  generalize hf : xf_isFull_1 σ = out
  have hl := lv_entry ([.ref (ad 6)]) (n := 1) (Nat.le_of_ble_eq_true rfl)
  rw [lg_entry_eq]
  generalize (lg_sl ([.ref (ad 6)]) ++ List.replicate (1 - (lg_sl ([.ref (ad 6)])).length) Slot.unset).toArray = ls at hl ⊢
  have hl : lv_has ls 1 [(0, .ref (ad 6))] := hl
  rw [xf_isFull_1] at hf
  refine lv_aload_n hx hb dQ_isFull_0 rfl (lv_at hl 0 rfl) ?_
  refine va_get (D := (dC, dI)) (ci := 0) (v := .int (kI σ 9 1)) (C := R_Q) (T := T_Q) (N := 3) hx hb hts uw_Q hown hK hP 6 rfl rfl 2 (by decide) (hts _ (List.mem_cons_of_mem _ wd_95)) (fun _ h9 => h9) rfl dQ_isFull_1 ?_
  refine lv_iconst (v := 4) hx hb dQ_isFull_4 (by decide) ?_
  refine lv_icmp_ne (tgt := 12) hx hb dQ_isFull_5 (by decide) (fun c_5 => ?_) (fun c_5 => ?_)
  · rw [if_neg c_5] at hf
    refine lv_iconst (v := 0) hx hb dQ_isFull_12 (by decide) ?_
    exact kk_zret hx hb hr hlocks rfl hP hK hS ⟨hf.symm, hw⟩ dQ_isFull_13
  · rw [if_pos c_5] at hf
    refine lv_iconst (v := 1) hx hb dQ_isFull_8 (by decide) ?_
    refine lv_goto (tgt := 13) hx hb dQ_isFull_9 (by decide) ?_
    exact kk_zret hx hb hr hlocks rfl hP hK hS ⟨hf.symm, hw⟩ dQ_isFull_13
theorem xc_isFull (l : Launch) (dC : Nat → ClassId) (dI : Nat → Nat → Nat) (ad : Nat → Nat) (cs : Nat → ClassId) (hj : kx_inj ad) (σ : kx_S) (hw : kx_wf σ) (q : Nat)  (hq : q < 2) : Met l y_Q_isFull ws_Q_isFull ({ frames := 0, cells := 0, slots := 0, locals := 0 }) (kk_Pc (dC, dI) vwCl (kx_t cs) (kx_w ad cs σ) [.ref (kx_qa ad q)]) (va_Qi (kx_pi (xf_isFull σ q )) (kk_B (dC, dI) vwCl (kx_t cs) (kx_w ad cs)) (kx_A ad)) 0 0 (kx_A ad) := by
  rcases (show q = 0 ∨ q = 1 by omega) with rfl | rfl
  · exact xc_isFull_0 l dC dI ad cs hj σ hw 
  · exact xc_isFull_1 l dC dI ad cs hj σ hw 
