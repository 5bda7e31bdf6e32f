set_option maxHeartbeats 4000000 in
set_option maxRecDepth 100000 in
theorem xc_makeReady (l : Launch) (dC : Nat → ClassId) (dI : Nat → Nat → Nat) (ad : Nat → Nat) (cs : Nat → ClassId) (hj : kx_inj ad) (σ : kx_S) (hw : kx_wf σ) (t : Nat) (result : Int32) (ht : t < 8) : Met l y_X_makeReady ws_X_makeReady ({ frames := 0, cells := 0, slots := 0, locals := 0 }) (kk_Pc (dC, dI) vwCl (kx_t cs) (kx_w ad cs σ) [.ref (ad 0), .ref (kx_ta ad t), .int result]) (va_Qv (kx_pv (xf_makeReady σ t result)) (kk_B (dC, dI) vwCl (kx_t cs) (kx_w ad cs)) (kx_A ad)) 0 0 (kx_A ad) := by
  refine Met.ofW (cc := b_X_makeReady) (maxL := 3) (ret := none) (by decide) rfl ?_
  intro p e s m args below meth c s₁ B hml hv
  obtain ⟨rfl, hP, hK⟩ := hv
  have hx := B.exec
  have hb := B.bytes
  have hr := B.returns
  have hts := atoms_spec (ws := ws_X_makeReady) B.pre
  have hown : s.vm.findClass R_X = some m.cls := findClass_of_methodNamed B.named
  have hlocks := B.notSynchronized
  have hS : va_S (kx_A ad) s.heap s.heap [] := va_S.rf
  generalize hf : xf_makeReady σ t result = out
  have hl := lv_entry ([.ref (ad 0), .ref (kx_ta ad t), .int result]) (n := 3) (Nat.le_of_ble_eq_true rfl)
  rw [lg_entry_eq]
  generalize (lg_sl ([.ref (ad 0), .ref (kx_ta ad t), .int result]) ++ List.replicate (3 - (lg_sl ([.ref (ad 0), .ref (kx_ta ad t), .int result])).length) Slot.unset).toArray = ls at hl ⊢
  have hl : lv_has ls 3 [(0, .ref (ad 0)), (1, .ref (kx_ta ad t)), (2, .int result)] := hl
  rw [xf_makeReady] at hf
  refine lv_aload_n hx hb dX_makeReady_0 rfl (lv_at hl 1 rfl) ?_
  refine lv_iconst (v := 1) hx hb dX_makeReady_1 (by decide) ?_
  refine va_put (D := (dC, dI)) (ci := 1) (v := .int 1) (ty := .int) (C := R_T) (T := T_T) (N := 14) hx hb hts uw_T ty_T ty_T_ok nm_T hown hK hP (kx_D hj) hS (11 + t) (kx_wT ht) rfl 1 (by decide) (hts _ (List.mem_cons_of_mem _ wd_33)) (fun _ h9 => h9) rfl (by decide +kernel) rfl rfl (Nat.le_of_ble_eq_true rfl) dX_makeReady_2 (fun H locs hP _ hS => ?_)
  replace hP := kx_u_state ht hP
  replace hw := kx_wf_I (f := 10) (i := t) (v := 1) hw (by decide)
  refine lv_aload_n hx hb dX_makeReady_5 rfl (lv_at hl 1 rfl) ?_
  refine lv_iconst (v := 0) hx hb dX_makeReady_6 (by decide) ?_
  refine va_put (D := (dC, dI)) (ci := 1) (v := .int 0) (ty := .int) (C := R_T) (T := T_T) (N := 14) hx hb hts uw_T ty_T ty_T_ok nm_T hown hK hP (kx_D hj) hS (11 + t) (kx_wT ht) rfl 8 (by decide) (hts _ (List.mem_cons_of_mem _ wd_47)) (fun _ h9 => h9) rfl (by decide +kernel) rfl rfl (Nat.le_of_ble_eq_true rfl) dX_makeReady_7 (fun H locs hP _ hS => ?_)
  replace hP := kx_u_waitsOn ht hP
  replace hw := kx_wf_I (f := 16) (i := t) (v := 0) hw (by decide)
  refine lv_aload_n hx hb dX_makeReady_10 rfl (lv_at hl 1 rfl) ?_
  refine lv_ldc2 (v := 1000000000000) hx hb hown (hts _ (List.mem_cons_of_mem _ wd_144)) dX_makeReady_11 ?_
  refine va_put (D := (dC, dI)) (ci := 1) (v := .long 1000000000000) (ty := .long) (C := R_T) (T := T_T) (N := 14) hx hb hts uw_T ty_T ty_T_ok nm_T hown hK hP (kx_D hj) hS (11 + t) (kx_wT ht) rfl 9 (by decide) (hts _ (List.mem_cons_of_mem _ wd_49)) (fun _ h9 => h9) rfl (by decide +kernel) rfl rfl (Nat.le_of_ble_eq_true rfl) dX_makeReady_14 (fun H locs hP _ hS => ?_)
  replace hP := kx_u_deadline ht hP
  replace hw := kx_wf_J (f := 1) (i := t) (v := 1000000000000) hw
  refine lv_aload_n hx hb dX_makeReady_17 rfl (lv_at hl 1 rfl) ?_
  refine lv_iload_n hx hb dX_makeReady_18 rfl (lv_at hl 2 rfl) ?_
  refine va_put (D := (dC, dI)) (ci := 1) (v := .int result) (ty := .int) (C := R_T) (T := T_T) (N := 14) hx hb hts uw_T ty_T ty_T_ok nm_T hown hK hP (kx_D hj) hS (11 + t) (kx_wT ht) rfl 6 (by decide) (hts _ (List.mem_cons_of_mem _ wd_43)) (fun _ h9 => h9) rfl (by decide +kernel) rfl rfl (Nat.le_of_ble_eq_true rfl) dX_makeReady_19 (fun H locs hP _ hS => ?_)
  replace hP := kx_u_result ht hP
  replace hw := kx_wf_I (f := 15) (i := t) (v := result) hw (by decide)
  refine lv_aload_n hx hb dX_makeReady_22 rfl (lv_at hl 1 rfl) ?_
  refine lv_aload_n hx hb dX_makeReady_23 rfl (lv_at hl 0 rfl) ?_
  refine lv_dup hx hb dX_makeReady_24 rfl ?_
  refine va_get (D := (dC, dI)) (ci := 2) (v := .long (kJ (sI (sJ (sI (sI σ 10 t 1) 16 t 0) 1 t 1000000000000) 15 t result) 2 0)) (C := R_X) (T := T_X) (N := 8) hx hb hts uw_X hown hK hP 0 rfl rfl 7 (by decide) (hts _ (List.mem_cons_of_mem _ wd_111)) (fun _ h9 => h9) rfl dX_makeReady_25 ?_
  refine lv_lconst (v := 1) hx hb dX_makeReady_28 (by decide) ?_
  refine lv_ladd hx hb dX_makeReady_29 ?_
  refine lv_dup2_x1_2 hx hb dX_makeReady_30 rfl rfl ?_
  refine va_put (D := (dC, dI)) (ci := 2) (v := .long ((kJ (sI (sJ (sI (sI σ 10 t 1) 16 t 0) 1 t 1000000000000) 15 t result) 2 0) + 1)) (ty := .long) (C := R_X) (T := T_X) (N := 8) hx hb hts uw_X ty_X ty_X_ok nm_X hown hK hP (kx_D hj) hS 0 rfl rfl 7 (by decide) (hts _ (List.mem_cons_of_mem _ wd_111)) (fun _ h9 => h9) rfl (by decide +kernel) rfl rfl (Nat.le_of_ble_eq_true rfl) dX_makeReady_31 (fun H locs hP _ hS => ?_)
  replace hP := kx_u_lastMoment hP
  replace hw := kx_wf_J (f := 2) (i := 0) (v := (kJ (sI (sJ (sI (sI σ 10 t 1) 16 t 0) 1 t 1000000000000) 15 t result) 2 0) + 1) hw
  refine va_put (D := (dC, dI)) (ci := 1) (v := .long ((kJ (sI (sJ (sI (sI σ 10 t 1) 16 t 0) 1 t 1000000000000) 15 t result) 2 0) + 1)) (ty := .long) (C := R_T) (T := T_T) (N := 14) hx hb hts uw_T ty_T ty_T_ok nm_T hown hK hP (kx_D hj) hS (11 + t) (kx_wT ht) rfl 7 (by decide) (hts _ (List.mem_cons_of_mem _ wd_45)) (fun _ h9 => h9) rfl (by decide +kernel) rfl rfl (Nat.le_of_ble_eq_true rfl) dX_makeReady_34 (fun H locs hP _ hS => ?_)
  replace hP := kx_u_since ht hP
  replace hw := kx_wf_J (f := 0) (i := t) (v := (kJ (sI (sJ (sI (sI σ 10 t 1) 16 t 0) 1 t 1000000000000) 15 t result) 2 0) + 1) hw
  refine lv_aload_n hx hb dX_makeReady_37 rfl (lv_at hl 1 rfl) ?_
  refine lv_iconst (v := 0) hx hb dX_makeReady_38 (by decide) ?_
  refine va_put (D := (dC, dI)) (ci := 1) (v := .int 0) (ty := .int) (C := R_T) (T := T_T) (N := 14) hx hb hts uw_T ty_T ty_T_ok nm_T hown hK hP (kx_D hj) hS (11 + t) (kx_wT ht) rfl 5 (by decide) (hts _ (List.mem_cons_of_mem _ wd_41)) (fun _ h9 => h9) rfl (by decide +kernel) rfl rfl (Nat.le_of_ble_eq_true rfl) dX_makeReady_39 (fun H locs hP _ hS => ?_)
  replace hP := kx_u_used ht hP
  replace hw := kx_wf_I (f := 14) (i := t) (v := 0) hw (by decide)
  exact kk_vret hx hb hr hlocks hP hK hS ⟨hf.symm, hw⟩ dX_makeReady_42
set_option maxHeartbeats 4000000 in
set_option maxRecDepth 100000 in
theorem xc_block (l : Launch) (dC : Nat → ClassId) (dI : Nat → Nat → Nat) (ad : Nat → Nat) (cs : Nat → ClassId) (hj : kx_inj ad) (σ : kx_S) (hw : kx_wf σ) (t : Nat) (thing : Int32) (deadline : Int64) (ht : t < 8) : Met l y_X_block ws_X_block ({ frames := 0, cells := 0, slots := 0, locals := 0 }) (kk_Pc (dC, dI) vwCl (kx_t cs) (kx_w ad cs σ) [.ref (ad 0), .ref (kx_ta ad t), .int thing, .long deadline]) (va_Qv (kx_pv (xf_block σ t thing deadline)) (kk_B (dC, dI) vwCl (kx_t cs) (kx_w ad cs)) (kx_A ad)) 0 0 (kx_A ad) := by
  refine Met.ofW (cc := b_X_block) (maxL := 5) (ret := none) (by decide) rfl ?_
  intro p e s m args below meth c s₁ B hml hv
  obtain ⟨rfl, hP, hK⟩ := hv
  have hx := B.exec
  have hb := B.bytes
  have hr := B.returns
  have hts := atoms_spec (ws := ws_X_block) B.pre
  have hown : s.vm.findClass R_X = some m.cls := findClass_of_methodNamed B.named
  have hlocks := B.notSynchronized
  have hS : va_S (kx_A ad) s.heap s.heap [] := va_S.rf
  generalize hf : xf_block σ t thing deadline = out
  have hl := lv_entry ([.ref (ad 0), .ref (kx_ta ad t), .int thing, .long deadline]) (n := 5) (Nat.le_of_ble_eq_true rfl)
  rw [lg_entry_eq]
  generalize (lg_sl ([.ref (ad 0), .ref (kx_ta ad t), .int thing, .long deadline]) ++ List.replicate (5 - (lg_sl ([.ref (ad 0), .ref (kx_ta ad t), .int thing, .long deadline])).length) Slot.unset).toArray = ls at hl ⊢
  have hl : lv_has ls 5 [(0, .ref (ad 0)), (1, .ref (kx_ta ad t)), (2, .int thing), (3, .long deadline)] := hl
  rw [xf_block] at hf
  refine lv_aload_n hx hb dX_block_0 rfl (lv_at hl 1 rfl) ?_
  refine lv_iconst (v := 2) hx hb dX_block_1 (by decide) ?_
  refine va_put (D := (dC, dI)) (ci := 1) (v := .int 2) (ty := .int) (C := R_T) (T := T_T) (N := 14) hx hb hts uw_T ty_T ty_T_ok nm_T hown hK hP (kx_D hj) hS (11 + t) (kx_wT ht) rfl 1 (by decide) (hts _ (List.mem_cons_of_mem _ wd_33)) (fun _ h9 => h9) rfl (by decide +kernel) rfl rfl (Nat.le_of_ble_eq_true rfl) dX_block_2 (fun H locs hP _ hS => ?_)
  replace hP := kx_u_state ht hP
  replace hw := kx_wf_I (f := 10) (i := t) (v := 2) hw (by decide)
  refine lv_aload_n hx hb dX_block_5 rfl (lv_at hl 1 rfl) ?_
  refine lv_iload_n hx hb dX_block_6 rfl (lv_at hl 2 rfl) ?_
  refine va_put (D := (dC, dI)) (ci := 1) (v := .int thing) (ty := .int) (C := R_T) (T := T_T) (N := 14) hx hb hts uw_T ty_T ty_T_ok nm_T hown hK hP (kx_D hj) hS (11 + t) (kx_wT ht) rfl 8 (by decide) (hts _ (List.mem_cons_of_mem _ wd_47)) (fun _ h9 => h9) rfl (by decide +kernel) rfl rfl (Nat.le_of_ble_eq_true rfl) dX_block_7 (fun H locs hP _ hS => ?_)
  replace hP := kx_u_waitsOn ht hP
  replace hw := kx_wf_I (f := 16) (i := t) (v := thing) hw (by decide)
  refine lv_aload_n hx hb dX_block_10 rfl (lv_at hl 1 rfl) ?_
  refine lv_lload_n hx hb dX_block_11 rfl (lv_at hl 3 rfl) ?_
  refine va_put (D := (dC, dI)) (ci := 1) (v := .long deadline) (ty := .long) (C := R_T) (T := T_T) (N := 14) hx hb hts uw_T ty_T ty_T_ok nm_T hown hK hP (kx_D hj) hS (11 + t) (kx_wT ht) rfl 9 (by decide) (hts _ (List.mem_cons_of_mem _ wd_49)) (fun _ h9 => h9) rfl (by decide +kernel) rfl rfl (Nat.le_of_ble_eq_true rfl) dX_block_12 (fun H locs hP _ hS => ?_)
  replace hP := kx_u_deadline ht hP
  replace hw := kx_wf_J (f := 1) (i := t) (v := deadline) hw
  refine lv_aload_n hx hb dX_block_15 rfl (lv_at hl 1 rfl) ?_
  refine lv_aload_n hx hb dX_block_16 rfl (lv_at hl 0 rfl) ?_
  refine lv_dup hx hb dX_block_17 rfl ?_
  refine va_get (D := (dC, dI)) (ci := 2) (v := .long (kJ (sJ (sI (sI σ 10 t 2) 16 t thing) 1 t deadline) 2 0)) (C := R_X) (T := T_X) (N := 8) hx hb hts uw_X hown hK hP 0 rfl rfl 7 (by decide) (hts _ (List.mem_cons_of_mem _ wd_111)) (fun _ h9 => h9) rfl dX_block_18 ?_
  refine lv_lconst (v := 1) hx hb dX_block_21 (by decide) ?_
  refine lv_ladd hx hb dX_block_22 ?_
  refine lv_dup2_x1_2 hx hb dX_block_23 rfl rfl ?_
  refine va_put (D := (dC, dI)) (ci := 2) (v := .long ((kJ (sJ (sI (sI σ 10 t 2) 16 t thing) 1 t deadline) 2 0) + 1)) (ty := .long) (C := R_X) (T := T_X) (N := 8) hx hb hts uw_X ty_X ty_X_ok nm_X hown hK hP (kx_D hj) hS 0 rfl rfl 7 (by decide) (hts _ (List.mem_cons_of_mem _ wd_111)) (fun _ h9 => h9) rfl (by decide +kernel) rfl rfl (Nat.le_of_ble_eq_true rfl) dX_block_24 (fun H locs hP _ hS => ?_)
  replace hP := kx_u_lastMoment hP
  replace hw := kx_wf_J (f := 2) (i := 0) (v := (kJ (sJ (sI (sI σ 10 t 2) 16 t thing) 1 t deadline) 2 0) + 1) hw
  refine va_put (D := (dC, dI)) (ci := 1) (v := .long ((kJ (sJ (sI (sI σ 10 t 2) 16 t thing) 1 t deadline) 2 0) + 1)) (ty := .long) (C := R_T) (T := T_T) (N := 14) hx hb hts uw_T ty_T ty_T_ok nm_T hown hK hP (kx_D hj) hS (11 + t) (kx_wT ht) rfl 7 (by decide) (hts _ (List.mem_cons_of_mem _ wd_45)) (fun _ h9 => h9) rfl (by decide +kernel) rfl rfl (Nat.le_of_ble_eq_true rfl) dX_block_27 (fun H locs hP _ hS => ?_)
  replace hP := kx_u_since ht hP
  replace hw := kx_wf_J (f := 0) (i := t) (v := (kJ (sJ (sI (sI σ 10 t 2) 16 t thing) 1 t deadline) 2 0) + 1) hw
  exact kk_vret hx hb hr hlocks hP hK hS ⟨hf.symm, hw⟩ dX_block_30
set_option maxHeartbeats 4000000 in
set_option maxRecDepth 100000 in
theorem xc_makeOwner (l : Launch) (dC : Nat → ClassId) (dI : Nat → Nat → Nat) (ad : Nat → Nat) (cs : Nat → ClassId) (hj : kx_inj ad) (σ : kx_S) (hw : kx_wf σ) (t : Nat) (m1 : Int32) (ht : t < 8) (hm1 : vp_in m1 4) : Met l y_X_makeOwner ws_X_makeOwner ({ frames := 1, cells := 0, slots := 0, locals := 22 }) (kk_Pc (dC, dI) vwCl (kx_t cs) (kx_w ad cs σ) [.ref (ad 0), .ref (kx_ta ad t), .int m1]) (va_Qv (kx_pv (xf_makeOwner σ t m1)) (kk_B (dC, dI) vwCl (kx_t cs) (kx_w ad cs)) (kx_A ad)) 0 0 (kx_A ad) := by
  refine Met.ofW (cc := b_X_makeOwner) (maxL := 3) (ret := none) (by decide) rfl ?_
  intro p e s m args below meth c s₁ B hml hv
  obtain ⟨rfl, hP, hK⟩ := hv
  have hx := B.exec
  have hb := B.bytes
  have hr := B.returns
  have hts := atoms_spec (ws := ws_X_makeOwner) B.pre
  have hown : s.vm.findClass R_X = some m.cls := findClass_of_methodNamed B.named
  have hlocks := B.notSynchronized
  have hS : va_S (kx_A ad) s.heap s.heap [] := va_S.rf
  generalize hf : xf_makeOwner σ t m1 = out
  have hl := lv_entry ([.ref (ad 0), .ref (kx_ta ad t), .int m1]) (n := 3) (Nat.le_of_ble_eq_true rfl)
  rw [lg_entry_eq]
  generalize (lg_sl ([.ref (ad 0), .ref (kx_ta ad t), .int m1]) ++ List.replicate (3 - (lg_sl ([.ref (ad 0), .ref (kx_ta ad t), .int m1])).length) Slot.unset).toArray = ls at hl ⊢
  have hl : lv_has ls 3 [(0, .ref (ad 0)), (1, .ref (kx_ta ad t)), (2, .int m1)] := hl
  rw [xf_makeOwner] at hf
  refine lv_aload_n hx hb dX_makeOwner_0 rfl (lv_at hl 0 rfl) ?_
  refine va_get (D := (dC, dI)) (ci := 2) (v := .ref (ad 2)) (C := R_X) (T := T_X) (N := 8) hx hb hts uw_X hown hK hP 0 rfl rfl 3 (by decide) (hts _ (List.mem_cons_of_mem _ wd_107)) (fun _ h9 => h9) rfl dX_makeOwner_1 ?_
  refine lv_iload_n hx hb dX_makeOwner_4 rfl (lv_at hl 2 rfl) ?_
  refine lv_aload_n hx hb dX_makeOwner_5 rfl (lv_at hl 1 rfl) ?_
  refine va_get (D := (dC, dI)) (ci := 1) (v := .int (nI t)) (C := R_T) (T := T_T) (N := 14) hx hb hts uw_T hown hK hP (11 + t) (kx_wT ht) rfl 0 (by decide) (hts _ (List.mem_cons_of_mem _ wd_31)) (fun _ h9 => h9) rfl dX_makeOwner_6 ?_
  refine va_iast hx hb hK hP (kx_D hj) hS 2 1 rfl rfl hm1 dX_makeOwner_9 (fun H locs hP _ hS => ?_)
  replace hP := kx_u_a3 hP
  replace hw : kx_wf (sI σ 3 m1.toNatClampNeg (nI t)) := kx_wf_o hw (Or.inr ⟨t, ht, rfl⟩)
  refine lv_aload_n hx hb dX_makeOwner_10 rfl (lv_at hl 1 rfl) ?_
  refine va_get (D := (dC, dI)) (ci := 1) (v := .int (kI (sI σ 3 m1.toNatClampNeg (nI t)) 10 t)) (C := R_T) (T := T_T) (N := 14) hx hb hts uw_T hown hK hP (11 + t) (kx_wT ht) rfl 1 (by decide) (hts _ (List.mem_cons_of_mem _ wd_33)) (fun _ h9 => h9) rfl dX_makeOwner_11 ?_
  refine lv_iconst (v := 1) hx hb dX_makeOwner_14 (by decide) ?_
  refine lv_icmp_ne (tgt := 29) hx hb dX_makeOwner_15 (by decide) (fun c_15 => ?_) (fun c_15 => ?_)
  · rw [if_neg c_15] at hf
    refine lv_aload_n hx hb dX_makeOwner_29 rfl (lv_at hl 0 rfl) ?_
    refine lv_aload_n hx hb dX_makeOwner_30 rfl (lv_at hl 1 rfl) ?_
    refine lv_aload_n hx hb dX_makeOwner_31 rfl (lv_at hl 1 rfl) ?_
    refine va_get (D := (dC, dI)) (ci := 1) (v := .int (kI (sI σ 3 m1.toNatClampNeg (nI t)) 18 t)) (C := R_T) (T := T_T) (N := 14) hx hb hts uw_T hown hK hP (11 + t) (kx_wT ht) rfl 11 (by decide) (hts _ (List.mem_cons_of_mem _ wd_53)) (fun _ h9 => h9) rfl dX_makeOwner_32 ?_
    refine kk_cv (w := kx_w ad cs) (As := [.ref (kx_ta ad t), .int (kI (sI σ 3 m1.toNatClampNeg (nI t)) 18 t)]) (rest := []) ⟨hx, hb, hml, hown, hts⟩ (xc_makeReady l dC dI ad cs hj (sI σ 3 m1.toNatClampNeg (nI t)) hw t (kI (sI σ 3 m1.toNatClampNeg (nI t)) 18 t) ht) (cwV 2 hts gv_X_70 rfl rfl rfl (by decide +kernel) ⟨Nat.le_of_ble_eq_true rfl, Nat.le_of_ble_eq_true rfl⟩) (va_recv hK hP (ci := 2) (q0 := 0) rfl rfl) hP hK hS (fun _ h9 => h9) rfl hl.1 rfl (Nat.le_of_ble_eq_true rfl) dX_makeOwner_35 ⟨Nat.zero_le _, Nat.zero_le _⟩ (fun s1 H locs hq hP hS => ?_)
    obtain ⟨h1, hw⟩ := hq
    rw [kk_v_eq h1] at hf
    exact kk_vret hx hb hr hlocks hP hK hS ⟨hf.symm, hw⟩ dX_makeOwner_38
  · rw [if_pos c_15] at hf
    refine lv_aload_n hx hb dX_makeOwner_18 rfl (lv_at hl 1 rfl) ?_
    refine lv_aload_n hx hb dX_makeOwner_19 rfl (lv_at hl 1 rfl) ?_
    refine va_get (D := (dC, dI)) (ci := 1) (v := .int (kI (sI σ 3 m1.toNatClampNeg (nI t)) 18 t)) (C := R_T) (T := T_T) (N := 14) hx hb hts uw_T hown hK hP (11 + t) (kx_wT ht) rfl 11 (by decide) (hts _ (List.mem_cons_of_mem _ wd_53)) (fun _ h9 => h9) rfl dX_makeOwner_20 ?_
    refine va_put (D := (dC, dI)) (ci := 1) (v := .int (kI (sI σ 3 m1.toNatClampNeg (nI t)) 18 t)) (ty := .int) (C := R_T) (T := T_T) (N := 14) hx hb hts uw_T ty_T ty_T_ok nm_T hown hK hP (kx_D hj) hS (11 + t) (kx_wT ht) rfl 6 (by decide) (hts _ (List.mem_cons_of_mem _ wd_43)) (fun _ h9 => h9) rfl (by decide +kernel) rfl rfl (Nat.le_of_ble_eq_true rfl) dX_makeOwner_23 (fun H locs hP _ hS => ?_)
    replace hP := kx_u_result ht hP
    replace hw := kx_wf_I (f := 15) (i := t) (v := kI (sI σ 3 m1.toNatClampNeg (nI t)) 18 t) hw (by decide)
    refine lv_goto (tgt := 38) hx hb dX_makeOwner_26 (by decide) ?_
    exact kk_vret hx hb hr hlocks hP hK hS ⟨hf.symm, hw⟩ dX_makeOwner_38
set_option maxHeartbeats 4000000 in
set_option maxRecDepth 100000 in
theorem xc_take (l : Launch) (dC : Nat → ClassId) (dI : Nat → Nat → Nat) (ad : Nat → Nat) (cs : Nat → ClassId) (hj : kx_inj ad) (σ : kx_S) (hw : kx_wf σ) (t : Nat) (m1 : Int32) (ht : t < 8) (hm1 : vp_in m1 4) : Met l y_X_take ws_X_take ({ frames := 2, cells := 0, slots := 0, locals := 44 }) (kk_Pc (dC, dI) vwCl (kx_t cs) (kx_w ad cs σ) [.ref (ad 0), .ref (kx_ta ad t), .int m1]) (va_Qv (kx_pv (xf_take σ t m1)) (kk_B (dC, dI) vwCl (kx_t cs) (kx_w ad cs)) (kx_A ad)) 0 0 (kx_A ad) := by
  refine Met.ofW (cc := b_X_take) (maxL := 3) (ret := none) (by decide) rfl ?_
  intro p e s m args below meth c s₁ B hml hv
  obtain ⟨rfl, hP, hK⟩ := hv
  have hx := B.exec
  have hb := B.bytes
  have hr := B.returns
  have hts := atoms_spec (ws := ws_X_take) B.pre
  have hown : s.vm.findClass R_X = some m.cls := findClass_of_methodNamed B.named
  have hlocks := B.notSynchronized
  have hS : va_S (kx_A ad) s.heap s.heap [] := va_S.rf
  generalize hf : xf_take σ t m1 = out
  have hl := lv_entry ([.ref (ad 0), .ref (kx_ta ad t), .int m1]) (n := 3) (Nat.le_of_ble_eq_true rfl)
  rw [lg_entry_eq]
  generalize (lg_sl ([.ref (ad 0), .ref (kx_ta ad t), .int m1]) ++ List.replicate (3 - (lg_sl ([.ref (ad 0), .ref (kx_ta ad t), .int m1])).length) Slot.unset).toArray = ls at hl ⊢
  have hl : lv_has ls 3 [(0, .ref (ad 0)), (1, .ref (kx_ta ad t)), (2, .int m1)] := hl
  rw [xf_take] at hf
  refine lv_aload_n hx hb dX_take_0 rfl (lv_at hl 0 rfl) ?_
  refine va_get (D := (dC, dI)) (ci := 2) (v := .ref (ad 2)) (C := R_X) (T := T_X) (N := 8) hx hb hts uw_X hown hK hP 0 rfl rfl 3 (by decide) (hts _ (List.mem_cons_of_mem _ wd_107)) (fun _ h9 => h9) rfl dX_take_1 ?_
  refine lv_iload_n hx hb dX_take_4 rfl (lv_at hl 2 rfl) ?_
  refine va_iald hx hb hK hP 2 1 rfl rfl hm1 dX_take_5 ?_
  refine lv_iconst (v := (-1)) hx hb dX_take_6 (by decide) ?_
  refine lv_icmp_ne (tgt := 19) hx hb dX_take_7 (by decide) (fun c_7 => ?_) (fun c_7 => ?_)
  · rw [if_neg c_7] at hf
    refine lv_aload_n hx hb dX_take_19 rfl (lv_at hl 0 rfl) ?_
    refine lv_aload_n hx hb dX_take_20 rfl (lv_at hl 1 rfl) ?_
    refine lv_bipush (v := 10) hx hb dX_take_21 (by decide) ?_
    refine lv_iload_n hx hb dX_take_23 rfl (lv_at hl 2 rfl) ?_
    refine lv_iadd hx hb dX_take_24 ?_
    refine lv_ldc2 (v := 1000000000000) hx hb hown (hts _ (List.mem_cons_of_mem _ wd_144)) dX_take_25 ?_
    refine kk_cv (w := kx_w ad cs) (As := [.ref (kx_ta ad t), .int (10 + m1), .long 1000000000000]) (rest := []) ⟨hx, hb, hml, hown, hts⟩ (xc_block l dC dI ad cs hj σ hw t (10 + m1) 1000000000000 ht) (cwV 3 hts gv_X_113 rfl rfl rfl (by decide +kernel) ⟨Nat.le_of_ble_eq_true rfl, Nat.le_of_ble_eq_true rfl⟩) (va_recv hK hP (ci := 2) (q0 := 0) rfl rfl) hP hK hS (fun _ h9 => h9) rfl hl.1 rfl (Nat.le_of_ble_eq_true rfl) dX_take_28 ⟨Nat.zero_le _, Nat.zero_le _⟩ (fun s1 H locs hq hP hS => ?_)
    obtain ⟨h1, hw⟩ := hq
    rw [kk_v_eq h1] at hf
    exact kk_vret hx hb hr hlocks hP hK hS ⟨hf.symm, hw⟩ dX_take_31
  · rw [if_pos c_7] at hf
    refine lv_aload_n hx hb dX_take_10 rfl (lv_at hl 0 rfl) ?_
    refine lv_aload_n hx hb dX_take_11 rfl (lv_at hl 1 rfl) ?_
    refine lv_iload_n hx hb dX_take_12 rfl (lv_at hl 2 rfl) ?_
    refine kk_cv (w := kx_w ad cs) (As := [.ref (kx_ta ad t), .int m1]) (rest := []) ⟨hx, hb, hml, hown, hts⟩ (xc_makeOwner l dC dI ad cs hj σ hw t m1 ht hm1) (cwV 2 hts gv_X_195 rfl rfl rfl (by decide +kernel) ⟨Nat.le_of_ble_eq_true rfl, Nat.le_of_ble_eq_true rfl⟩) (va_recv hK hP (ci := 2) (q0 := 0) rfl rfl) hP hK hS (fun _ h9 => h9) rfl hl.1 rfl (Nat.le_of_ble_eq_true rfl) dX_take_13 ⟨Nat.zero_le _, Nat.zero_le _⟩ (fun s2 H locs hq hP hS => ?_)
    obtain ⟨h2, hw⟩ := hq
    rw [kk_v_eq h2] at hf
    refine lv_goto (tgt := 31) hx hb dX_take_16 (by decide) ?_
    exact kk_vret hx hb hr hlocks hP hK hS ⟨hf.symm, hw⟩ dX_take_31
set_option maxHeartbeats 4000000 in
set_option maxRecDepth 100000 in
theorem xc_give (l : Launch) (dC : Nat → ClassId) (dI : Nat → Nat → Nat) (ad : Nat → Nat) (cs : Nat → ClassId) (hj : kx_inj ad) (σ : kx_S) (hw : kx_wf σ) (m1 : Int32) (hm1 : vp_in m1 4) : Met l y_X_give ws_X_give ({ frames := 5, cells := 0, slots := 0, locals := 120 }) (kk_Pc (dC, dI) vwCl (kx_t cs) (kx_w ad cs σ) [.ref (ad 0), .int m1]) (va_Qv (kx_pv (xf_give σ m1)) (kk_B (dC, dI) vwCl (kx_t cs) (kx_w ad cs)) (kx_A ad)) 0 0 (kx_A ad) := by
  refine Met.ofW (cc := b_X_give) (maxL := 3) (ret := none) (by decide) rfl ?_
  intro p e s m args below meth c s₁ B hml hv
  obtain ⟨rfl, hP, hK⟩ := hv
  have hx := B.exec
  have hb := B.bytes
  have hr := B.returns
  have hts := atoms_spec (ws := ws_X_give) B.pre
  have hown : s.vm.findClass R_X = some m.cls := findClass_of_methodNamed B.named
  have hlocks := B.notSynchronized
  have hS : va_S (kx_A ad) s.heap s.heap [] := va_S.rf
  generalize hf : xf_give σ m1 = out
  have hl := lv_entry ([.ref (ad 0), .int m1]) (n := 3) (Nat.le_of_ble_eq_true rfl)
  rw [lg_entry_eq]
  generalize (lg_sl ([.ref (ad 0), .int m1]) ++ List.replicate (3 - (lg_sl ([.ref (ad 0), .int m1])).length) Slot.unset).toArray = ls at hl ⊢
  have hl : lv_has ls 3 [(0, .ref (ad 0)), (1, .int m1)] := hl
  rw [xf_give] at hf
  refine lv_aload_n hx hb dX_give_0 rfl (lv_at hl 0 rfl) ?_
  refine va_get (D := (dC, dI)) (ci := 2) (v := .ref (ad 2)) (C := R_X) (T := T_X) (N := 8) hx hb hts uw_X hown hK hP 0 rfl rfl 3 (by decide) (hts _ (List.mem_cons_of_mem _ wd_107)) (fun _ h9 => h9) rfl dX_give_1 ?_
  refine lv_iload_n hx hb dX_give_4 rfl (lv_at hl 1 rfl) ?_
  refine lv_iconst (v := (-1)) hx hb dX_give_5 (by decide) ?_
  refine va_iast hx hb hK hP (kx_D hj) hS 2 1 rfl rfl hm1 dX_give_6 (fun H locs hP _ hS => ?_)
  replace hP := kx_u_a3 hP
  replace hw : kx_wf (sI σ 3 m1.toNatClampNeg (-1)) := kx_wf_o hw (Or.inl rfl)
  refine lv_aload_n hx hb dX_give_7 rfl (lv_at hl 0 rfl) ?_
  refine lv_bipush (v := 10) hx hb dX_give_8 (by decide) ?_
  refine lv_iload_n hx hb dX_give_10 rfl (lv_at hl 1 rfl) ?_
  refine lv_iadd hx hb dX_give_11 ?_
  refine kk_co (w := kx_w ad cs) (As := [.int (10 + m1)]) (rest := []) ⟨hx, hb, hml, hown, hts⟩ (xc_firstWaiter l dC dI ad cs hj (sI σ 3 m1.toNatClampNeg (-1)) hw (10 + m1) ) (cwV 1 hts gv_X_117 rfl rfl rfl (by decide +kernel) ⟨Nat.le_of_ble_eq_true rfl, Nat.le_of_ble_eq_true rfl⟩) (va_recv hK hP (ci := 2) (q0 := 0) rfl rfl) hP hK hS (fun _ h9 => h9) rfl hl.1 rfl (Nat.le_of_ble_eq_true rfl) dX_give_12 ⟨Nat.zero_le _, Nat.zero_le _⟩ (fun s1 H locs hq hP hS => ?_) (fun t1 s1 H locs hq hP hS => ?_)
  · obtain ⟨h1, hw, -⟩ := hq
    rw [kk_b_eq h1, kk_o_none] at hf
    refine lv_astore_nN (lv' := [(2, .null), (0, .ref (ad 0)), (1, .int m1)]) hx hb dX_give_15 rfl hl (by decide) rfl (fun ls hl => ?_)
    refine lv_aload_nN hx hb dX_give_16 rfl (lv_at hl 0 rfl) ?_
    refine lv_ifnullN (tgt := 26) hx hb dX_give_17 (by decide) ?_
    exact kk_vret hx hb hr hlocks hP hK hS ⟨hf.symm, hw⟩ dX_give_26
  · obtain ⟨h1, hw, h9⟩ := hq
    have ht1 : t1 < 8 := h9 t1 rfl
    rw [kk_b_eq h1, kk_o_some] at hf
    refine lv_astore_n (lv' := [(2, .ref (kx_ta ad t1)), (0, .ref (ad 0)), (1, .int m1)]) hx hb dX_give_15 rfl hl (by decide) rfl (fun ls hl => ?_)
    refine lv_aload_n hx hb dX_give_16 rfl (lv_at hl 0 rfl) ?_
    refine lv_ifnull hx hb dX_give_17 ?_
    refine lv_aload_n hx hb dX_give_20 rfl (lv_at hl 1 rfl) ?_
    refine lv_aload_n hx hb dX_give_21 rfl (lv_at hl 0 rfl) ?_
    refine lv_iload_n hx hb dX_give_22 rfl (lv_at hl 2 rfl) ?_
    refine kk_cv (w := kx_w ad cs) (As := [.ref (kx_ta ad t1), .int m1]) (rest := []) ⟨hx, hb, hml, hown, hts⟩ (xc_makeOwner l dC dI ad cs hj s1 hw t1 m1 ht1 hm1) (cwV 2 hts gv_X_195 rfl rfl rfl (by decide +kernel) ⟨Nat.le_of_ble_eq_true rfl, Nat.le_of_ble_eq_true rfl⟩) (va_recv hK hP (ci := 2) (q0 := 0) rfl rfl) hP hK hS (fun _ h9 => h9) rfl hl.1 rfl (Nat.le_of_ble_eq_true rfl) dX_give_23 ⟨Nat.zero_le _, Nat.zero_le _⟩ (fun s2 H locs hq hP hS => ?_)
    obtain ⟨h2, hw⟩ := hq
    rw [kk_v_eq h2] at hf
    exact kk_vret hx hb hr hlocks hP hK hS ⟨hf.symm, hw⟩ dX_give_26
set_option maxHeartbeats 4000000 in
set_option maxRecDepth 100000 in
theorem xc_endAwait (l : Launch) (dC : Nat → ClassId) (dI : Nat → Nat → Nat) (ad : Nat → Nat) (cs : Nat → ClassId) (hj : kx_inj ad) (σ : kx_S) (hw : kx_wf σ) (t : Nat) (result : Int32) (ht : t < 8) : Met l y_X_endAwait ws_X_endAwait ({ frames := 3, cells := 0, slots := 0, locals := 66 }) (kk_Pc (dC, dI) vwCl (kx_t cs) (kx_w ad cs σ) [.ref (ad 0), .ref (kx_ta ad t), .int result]) (va_Qv (kx_pv (xf_endAwait σ t result)) (kk_B (dC, dI) vwCl (kx_t cs) (kx_w ad cs)) (kx_A ad)) 0 0 (kx_A ad) := by
  refine Met.ofW (cc := b_X_endAwait) (maxL := 3) (ret := none) (by decide) rfl ?_
  intro p e s m args below meth c s₁ B hml hv
  obtain ⟨rfl, hP, hK⟩ := hv
  have hx := B.exec
  have hb := B.bytes
  have hr := B.returns
  have hts := atoms_spec (ws := ws_X_endAwait) B.pre
  have hown : s.vm.findClass R_X = some m.cls := findClass_of_methodNamed B.named
  have hlocks := B.notSynchronized
  have hS : va_S (kx_A ad) s.heap s.heap [] := va_S.rf
  generalize hf : xf_endAwait σ t result = out
  have hl := lv_entry ([.ref (ad 0), .ref (kx_ta ad t), .int result]) (n := 3) (Nat.le_of_ble_eq_true rfl)
  rw [lg_entry_eq]
  generalize (lg_sl ([.ref (ad 0), .ref (kx_ta ad t), .int result]) ++ List.replicate (3 - (lg_sl ([.ref (ad 0), .ref (kx_ta ad t), .int result])).length) Slot.unset).toArray = ls at hl ⊢
  have hl : lv_has ls 3 [(0, .ref (ad 0)), (1, .ref (kx_ta ad t)), (2, .int result)] := hl
  rw [xf_endAwait] at hf
  refine lv_aload_n hx hb dX_endAwait_0 rfl (lv_at hl 1 rfl) ?_
  refine lv_iload_n hx hb dX_endAwait_1 rfl (lv_at hl 2 rfl) ?_
  refine va_put (D := (dC, dI)) (ci := 1) (v := .int result) (ty := .int) (C := R_T) (T := T_T) (N := 14) hx hb hts uw_T ty_T ty_T_ok nm_T hown hK hP (kx_D hj) hS (11 + t) (kx_wT ht) rfl 6 (by decide) (hts _ (List.mem_cons_of_mem _ wd_43)) (fun _ h9 => h9) rfl (by decide +kernel) rfl rfl (Nat.le_of_ble_eq_true rfl) dX_endAwait_2 (fun H locs hP _ hS => ?_)
  replace hP := kx_u_result ht hP
  replace hw := kx_wf_I (f := 15) (i := t) (v := result) hw (by decide)
  refine lv_aload_n hx hb dX_endAwait_5 rfl (lv_at hl 1 rfl) ?_
  refine lv_iload_n hx hb dX_endAwait_6 rfl (lv_at hl 2 rfl) ?_
  refine va_put (D := (dC, dI)) (ci := 1) (v := .int result) (ty := .int) (C := R_T) (T := T_T) (N := 14) hx hb hts uw_T ty_T ty_T_ok nm_T hown hK hP (kx_D hj) hS (11 + t) (kx_wT ht) rfl 11 (by decide) (hts _ (List.mem_cons_of_mem _ wd_53)) (fun _ h9 => h9) rfl (by decide +kernel) rfl rfl (Nat.le_of_ble_eq_true rfl) dX_endAwait_7 (fun H locs hP _ hS => ?_)
  replace hP := kx_u_resultWhenOwning ht hP
  replace hw := kx_wf_I (f := 18) (i := t) (v := result) hw (by decide)
  refine lv_aload_n hx hb dX_endAwait_10 rfl (lv_at hl 0 rfl) ?_
  refine lv_aload_n hx hb dX_endAwait_11 rfl (lv_at hl 1 rfl) ?_
  refine lv_aload_n hx hb dX_endAwait_12 rfl (lv_at hl 1 rfl) ?_
  refine va_get (D := (dC, dI)) (ci := 1) (v := .int (kI (sI (sI σ 15 t result) 18 t result) 17 t)) (C := R_T) (T := T_T) (N := 14) hx hb hts uw_T hown hK hP (11 + t) (kx_wT ht) rfl 10 (by decide) (hts _ (List.mem_cons_of_mem _ wd_51)) (fun _ h9 => h9) rfl dX_endAwait_13 ?_
  refine kk_cv (w := kx_w ad cs) (As := [.ref (kx_ta ad t), .int (kI (sI (sI σ 15 t result) 18 t result) 17 t)]) (rest := []) ⟨hx, hb, hml, hown, hts⟩ (xc_take l dC dI ad cs hj (sI (sI σ 15 t result) 18 t result) hw t (kI (sI (sI σ 15 t result) 18 t result) 17 t) ht (hw.2.1 t ht)) (cwV 2 hts gv_X_97 rfl rfl rfl (by decide +kernel) ⟨Nat.le_of_ble_eq_true rfl, Nat.le_of_ble_eq_true rfl⟩) (va_recv hK hP (ci := 2) (q0 := 0) rfl rfl) hP hK hS (fun _ h9 => h9) rfl hl.1 rfl (Nat.le_of_ble_eq_true rfl) dX_endAwait_16 ⟨Nat.zero_le _, Nat.zero_le _⟩ (fun s1 H locs hq hP hS => ?_)
  obtain ⟨h1, hw⟩ := hq
  rw [kk_v_eq h1] at hf
  exact kk_vret hx hb hr hlocks hP hK hS ⟨hf.symm, hw⟩ dX_endAwait_19
set_option maxHeartbeats 4000000 in
set_option maxRecDepth 100000 in
theorem xc_arrive (l : Launch) (dC : Nat → ClassId) (dI : Nat → Nat → Nat) (ad : Nat → Nat) (cs : Nat → ClassId) (hj : kx_inj ad) (σ : kx_S) (hw : kx_wf σ) (q : Int32) (rank : Int32) (value : Int32) (hq : vp_in q 2) : Met l y_X_arrive ws_X_arrive ({ frames := 5, cells := 0, slots := 0, locals := 120 }) (kk_Pc (dC, dI) vwCl (kx_t cs) (kx_w ad cs σ) [.ref (ad 0), .int q, .int rank, .int value]) (va_Qv (kx_pv (xf_arrive σ q rank value)) (kk_B (dC, dI) vwCl (kx_t cs) (kx_w ad cs)) (kx_A ad)) 0 0 (kx_A ad) := by
  refine Met.ofW (cc := b_X_arrive) (maxL := 5) (ret := none) (by decide) rfl ?_
  intro p e s m args below meth c s₁ B hml hv
  obtain ⟨rfl, hP, hK⟩ := hv
  have hx := B.exec
  have hb := B.bytes
  have hr := B.returns
  have hts := atoms_spec (ws := ws_X_arrive) B.pre
  have hown : s.vm.findClass R_X = some m.cls := findClass_of_methodNamed B.named
  have hlocks := B.notSynchronized
  have hS : va_S (kx_A ad) s.heap s.heap [] := va_S.rf
  generalize hf : xf_arrive σ q rank value = out
  have hl := lv_entry ([.ref (ad 0), .int q, .int rank, .int value]) (n := 5) (Nat.le_of_ble_eq_true rfl)
  rw [lg_entry_eq]
  generalize (lg_sl ([.ref (ad 0), .int q, .int rank, .int value]) ++ List.replicate (5 - (lg_sl ([.ref (ad 0), .int q, .int rank, .int value])).length) Slot.unset).toArray = ls at hl ⊢
  have hl : lv_has ls 5 [(0, .ref (ad 0)), (1, .int q), (2, .int rank), (3, .int value)] := hl
  rw [xf_arrive] at hf
  refine lv_aload_n hx hb dX_arrive_0 rfl (lv_at hl 0 rfl) ?_
  refine lv_bipush (v := 50) hx hb dX_arrive_1 (by decide) ?_
  refine lv_iload_n hx hb dX_arrive_3 rfl (lv_at hl 1 rfl) ?_
  refine lv_iadd hx hb dX_arrive_4 ?_
  refine kk_co (w := kx_w ad cs) (As := [.int (50 + q)]) (rest := []) ⟨hx, hb, hml, hown, hts⟩ (xc_firstWaiter l dC dI ad cs hj σ hw (50 + q) ) (cwV 1 hts gv_X_117 rfl rfl rfl (by decide +kernel) ⟨Nat.le_of_ble_eq_true rfl, Nat.le_of_ble_eq_true rfl⟩) (va_recv hK hP (ci := 2) (q0 := 0) rfl rfl) hP hK hS (fun _ h9 => h9) rfl hl.1 rfl (Nat.le_of_ble_eq_true rfl) dX_arrive_5 ⟨Nat.zero_le _, Nat.zero_le _⟩ (fun s1 H locs hq hP hS => ?_) (fun t1 s1 H locs hq hP hS => ?_)
  · obtain ⟨h1, hw, -⟩ := hq
    rw [kk_b_eq h1, kk_o_none] at hf
    refine lv_astoreN (lv' := [(4, .null), (0, .ref (ad 0)), (1, .int q), (2, .int rank), (3, .int value)]) hx hb dX_arrive_8 hl (by decide) rfl (fun ls hl => ?_)
    refine lv_aloadN hx hb dX_arrive_10 (lv_at hl 0 rfl) ?_
    refine lv_ifnullN (tgt := 25) hx hb dX_arrive_12 (by decide) ?_
    refine lv_aload_n hx hb dX_arrive_25 rfl (lv_at hl 1 rfl) ?_
    refine va_get (D := (dC, dI)) (ci := 2) (v := .ref (ad 4)) (C := R_X) (T := T_X) (N := 8) hx hb hts uw_X hown hK hP 0 rfl rfl 5 (by decide) (hts _ (List.mem_cons_of_mem _ wd_109)) (fun _ h9 => h9) rfl dX_arrive_26 ?_
    refine lv_iload_n hx hb dX_arrive_29 rfl (lv_at hl 2 rfl) ?_
    have hi_30 : vp_in q 2 := hq
    have hq_30 : q.toNatClampNeg < 2 := kx_lt hi_30
    refine kx_ldQ hx hb hK hP hi_30 dX_arrive_30 ?_
    refine lv_iload_n hx hb dX_arrive_31 rfl (lv_at hl 3 rfl) ?_
    refine lv_iload_n hx hb dX_arrive_32 rfl (lv_at hl 4 rfl) ?_
    refine kk_cv (w := kx_w ad cs) (As := [.int rank, .int value]) (rest := []) ⟨hx, hb, hml, hown, hts⟩ (xc_insert l dC dI ad cs hj s1 hw q.toNatClampNeg rank value hq_30) (cwV 2 hts gv_X_198 rfl rfl rfl (by decide +kernel) ⟨Nat.le_of_ble_eq_true rfl, Nat.le_of_ble_eq_true rfl⟩) (kx_recvQ hK hP hq_30) hP hK hS (fun _ h9 => h9) rfl hl.1 rfl (Nat.le_of_ble_eq_true rfl) dX_arrive_33 ⟨Nat.zero_le _, Nat.zero_le _⟩ (fun s2 H locs hq hP hS => ?_)
    obtain ⟨h2, hw⟩ := hq
    rw [kk_v_eq h2] at hf
    exact kk_vret hx hb hr hlocks hP hK hS ⟨hf.symm, hw⟩ dX_arrive_36
  · obtain ⟨h1, hw, h9⟩ := hq
    have ht1 : t1 < 8 := h9 t1 rfl
    rw [kk_b_eq h1, kk_o_some] at hf
    refine lv_astore (lv' := [(4, .ref (kx_ta ad t1)), (0, .ref (ad 0)), (1, .int q), (2, .int rank), (3, .int value)]) hx hb dX_arrive_8 hl (by decide) rfl (fun ls hl => ?_)
    refine lv_aload hx hb dX_arrive_10 (lv_at hl 0 rfl) ?_
    refine lv_ifnull hx hb dX_arrive_12 ?_
    refine lv_aload_n hx hb dX_arrive_15 rfl (lv_at hl 1 rfl) ?_
    refine lv_aload hx hb dX_arrive_16 (lv_at hl 0 rfl) ?_
    refine lv_iload_n hx hb dX_arrive_18 rfl (lv_at hl 4 rfl) ?_
    refine kk_cv (w := kx_w ad cs) (As := [.ref (kx_ta ad t1), .int value]) (rest := []) ⟨hx, hb, hml, hown, hts⟩ (xc_makeReady l dC dI ad cs hj s1 hw t1 value ht1) (cwV 2 hts gv_X_70 rfl rfl rfl (by decide +kernel) ⟨Nat.le_of_ble_eq_true rfl, Nat.le_of_ble_eq_true rfl⟩) (va_recv hK hP (ci := 2) (q0 := 0) rfl rfl) hP hK hS (fun _ h9 => h9) rfl hl.1 rfl (Nat.le_of_ble_eq_true rfl) dX_arrive_19 ⟨Nat.zero_le _, Nat.zero_le _⟩ (fun s3 H locs hq hP hS => ?_)
    obtain ⟨h3, hw⟩ := hq
    rw [kk_v_eq h3] at hf
    refine lv_goto (tgt := 36) hx hb dX_arrive_22 (by decide) ?_
    exact kk_vret hx hb hr hlocks hP hK hS ⟨hf.symm, hw⟩ dX_arrive_36
set_option maxHeartbeats 4000000 in
set_option maxRecDepth 100000 in
theorem xc_useTick (l : Launch) (dC : Nat → ClassId) (dI : Nat → Nat → Nat) (ad : Nat → Nat) (cs : Nat → ClassId) (hj : kx_inj ad) (σ : kx_S) (hw : kx_wf σ) (t : Nat) (ht : t < 8) : Met l y_X_useTick ws_X_useTick ({ frames := 1, cells := 0, slots := 0, locals := 21 }) (kk_Pc (dC, dI) vwCl (kx_t cs) (kx_w ad cs σ) [.ref (ad 0), .ref (kx_ta ad t)]) (va_Qv (kx_pv (xf_useTick σ t)) (kk_B (dC, dI) vwCl (kx_t cs) (kx_w ad cs)) (kx_A ad)) 0 0 (kx_A ad) := by
  refine Met.ofW (cc := b_X_useTick) (maxL := 2) (ret := none) (by decide) rfl ?_
  intro p e s m args below meth c s₁ B hml hv
  obtain ⟨rfl, hP, hK⟩ := hv
  have hx := B.exec
  have hb := B.bytes
  have hr := B.returns
  have hts := atoms_spec (ws := ws_X_useTick) B.pre
  have hown : s.vm.findClass R_X = some m.cls := findClass_of_methodNamed B.named
  have hlocks := B.notSynchronized
  have hS : va_S (kx_A ad) s.heap s.heap [] := va_S.rf
  generalize hf : xf_useTick σ t = out
  have hl := lv_entry ([.ref (ad 0), .ref (kx_ta ad t)]) (n := 2) (Nat.le_of_ble_eq_true rfl)
  rw [lg_entry_eq]
  generalize (lg_sl ([.ref (ad 0), .ref (kx_ta ad t)]) ++ List.replicate (2 - (lg_sl ([.ref (ad 0), .ref (kx_ta ad t)])).length) Slot.unset).toArray = ls at hl ⊢
  have hl : lv_has ls 2 [(0, .ref (ad 0)), (1, .ref (kx_ta ad t))] := hl
  rw [xf_useTick] at hf
  refine lv_aload_n hx hb dX_useTick_0 rfl (lv_at hl 1 rfl) ?_
  refine lv_dup hx hb dX_useTick_1 rfl ?_
  refine va_get (D := (dC, dI)) (ci := 1) (v := .int (kI σ 14 t)) (C := R_T) (T := T_T) (N := 14) hx hb hts uw_T hown hK hP (11 + t) (kx_wT ht) rfl 5 (by decide) (hts _ (List.mem_cons_of_mem _ wd_41)) (fun _ h9 => h9) rfl dX_useTick_2 ?_
  refine lv_iconst (v := 1) hx hb dX_useTick_5 (by decide) ?_
  refine lv_iadd hx hb dX_useTick_6 ?_
  refine va_put (D := (dC, dI)) (ci := 1) (v := .int ((kI σ 14 t) + 1)) (ty := .int) (C := R_T) (T := T_T) (N := 14) hx hb hts uw_T ty_T ty_T_ok nm_T hown hK hP (kx_D hj) hS (11 + t) (kx_wT ht) rfl 5 (by decide) (hts _ (List.mem_cons_of_mem _ wd_41)) (fun _ h9 => h9) rfl (by decide +kernel) rfl rfl (Nat.le_of_ble_eq_true rfl) dX_useTick_7 (fun H locs hP _ hS => ?_)
  replace hP := kx_u_used ht hP
  replace hw := kx_wf_I (f := 14) (i := t) (v := (kI σ 14 t) + 1) hw (by decide)
  refine lv_aload_n hx hb dX_useTick_10 rfl (lv_at hl 1 rfl) ?_
  refine va_get (D := (dC, dI)) (ci := 1) (v := .int (kI (sI σ 14 t ((kI σ 14 t) + 1)) 13 t)) (C := R_T) (T := T_T) (N := 14) hx hb hts uw_T hown hK hP (11 + t) (kx_wT ht) rfl 4 (by decide) (hts _ (List.mem_cons_of_mem _ wd_39)) (fun _ h9 => h9) rfl dX_useTick_11 ?_
  refine lv_if_eq (tgt := 33) hx hb dX_useTick_14 (by decide) (fun c_14 => ?_) (fun c_14 => ?_)
  · rw [if_pos c_14] at hf
    exact kk_vret hx hb hr hlocks hP hK hS ⟨hf.symm, hw⟩ dX_useTick_33
  · rw [if_neg c_14] at hf
    refine lv_aload_n hx hb dX_useTick_17 rfl (lv_at hl 1 rfl) ?_
    refine va_get (D := (dC, dI)) (ci := 1) (v := .int (kI (sI σ 14 t ((kI σ 14 t) + 1)) 14 t)) (C := R_T) (T := T_T) (N := 14) hx hb hts uw_T hown hK hP (11 + t) (kx_wT ht) rfl 5 (by decide) (hts _ (List.mem_cons_of_mem _ wd_41)) (fun _ h9 => h9) rfl dX_useTick_18 ?_
    refine lv_aload_n hx hb dX_useTick_21 rfl (lv_at hl 0 rfl) ?_
    refine va_get (D := (dC, dI)) (ci := 2) (v := .int (kI (sI σ 14 t ((kI σ 14 t) + 1)) 0 0)) (C := R_X) (T := T_X) (N := 8) hx hb hts uw_X hown hK hP 0 rfl rfl 0 (by decide) (hts _ (List.mem_cons_of_mem _ wd_104)) (fun _ h9 => h9) rfl dX_useTick_22 ?_
    refine lv_icmp_ne (tgt := 33) hx hb dX_useTick_25 (by decide) (fun c_25 => ?_) (fun c_25 => ?_)
    · rw [if_neg c_25] at hf
      exact kk_vret hx hb hr hlocks hP hK hS ⟨hf.symm, hw⟩ dX_useTick_33
    · rw [if_pos c_25] at hf
      refine lv_aload_n hx hb dX_useTick_28 rfl (lv_at hl 0 rfl) ?_
      refine lv_aload_n hx hb dX_useTick_29 rfl (lv_at hl 1 rfl) ?_
      refine kk_cv (w := kx_w ad cs) (As := [.ref (kx_ta ad t)]) (rest := []) ⟨hx, hb, hml, hown, hts⟩ (xc_startTurn l dC dI ad cs hj (sI σ 14 t ((kI σ 14 t) + 1)) hw t ht) (cwV 1 hts gv_X_90 rfl rfl rfl (by decide +kernel) ⟨Nat.le_of_ble_eq_true rfl, Nat.le_of_ble_eq_true rfl⟩) (va_recv hK hP (ci := 2) (q0 := 0) rfl rfl) hP hK hS (fun _ h9 => h9) rfl hl.1 rfl (Nat.le_of_ble_eq_true rfl) dX_useTick_30 ⟨Nat.zero_le _, Nat.zero_le _⟩ (fun s1 H locs hq hP hS => ?_)
      obtain ⟨h1, hw⟩ := hq
      rw [kk_v_eq h1] at hf
      exact kk_vret hx hb hr hlocks hP hK hS ⟨hf.symm, hw⟩ dX_useTick_33
set_option maxHeartbeats 4000000 in
set_option maxRecDepth 100000 in
theorem xc_endWait (l : Launch) (dC : Nat → ClassId) (dI : Nat → Nat → Nat) (ad : Nat → Nat) (cs : Nat → ClassId) (hj : kx_inj ad) (σ : kx_S) (hw : kx_wf σ) (t : Nat) (ht : t < 8) : Met l y_X_endWait ws_X_endWait ({ frames := 4, cells := 0, slots := 0, locals := 88 }) (kk_Pc (dC, dI) vwCl (kx_t cs) (kx_w ad cs σ) [.ref (ad 0), .ref (kx_ta ad t)]) (va_Qv (kx_pv (xf_endWait σ t)) (kk_B (dC, dI) vwCl (kx_t cs) (kx_w ad cs)) (kx_A ad)) 0 0 (kx_A ad) := by
  refine Met.ofW (cc := b_X_endWait) (maxL := 2) (ret := none) (by decide) rfl ?_
  intro p e s m args below meth c s₁ B hml hv
  obtain ⟨rfl, hP, hK⟩ := hv
  have hx := B.exec
  have hb := B.bytes
  have hr := B.returns
  have hts := atoms_spec (ws := ws_X_endWait) B.pre
  have hown : s.vm.findClass R_X = some m.cls := findClass_of_methodNamed B.named
  have hlocks := B.notSynchronized
  have hS : va_S (kx_A ad) s.heap s.heap [] := va_S.rf
  generalize hf : xf_endWait σ t = out
  have hl := lv_entry ([.ref (ad 0), .ref (kx_ta ad t)]) (n := 2) (Nat.le_of_ble_eq_true rfl)
  rw [lg_entry_eq]
  generalize (lg_sl ([.ref (ad 0), .ref (kx_ta ad t)]) ++ List.replicate (2 - (lg_sl ([.ref (ad 0), .ref (kx_ta ad t)])).length) Slot.unset).toArray = ls at hl ⊢
  have hl : lv_has ls 2 [(0, .ref (ad 0)), (1, .ref (kx_ta ad t))] := hl
  rw [xf_endWait] at hf
  refine lv_aload_n hx hb dX_endWait_0 rfl (lv_at hl 1 rfl) ?_
  refine va_get (D := (dC, dI)) (ci := 1) (v := .int (kI σ 16 t)) (C := R_T) (T := T_T) (N := 14) hx hb hts uw_T hown hK hP (11 + t) (kx_wT ht) rfl 8 (by decide) (hts _ (List.mem_cons_of_mem _ wd_47)) (fun _ h9 => h9) rfl dX_endWait_1 ?_
  refine lv_bipush (v := 60) hx hb dX_endWait_4 (by decide) ?_
  refine lv_icmp_ne (tgt := 18) hx hb dX_endWait_6 (by decide) (fun c_6 => ?_) (fun c_6 => ?_)
  · rw [if_neg c_6] at hf
    refine lv_aload_n hx hb dX_endWait_18 rfl (lv_at hl 1 rfl) ?_
    refine va_get (D := (dC, dI)) (ci := 1) (v := .int (kI σ 16 t)) (C := R_T) (T := T_T) (N := 14) hx hb hts uw_T hown hK hP (11 + t) (kx_wT ht) rfl 8 (by decide) (hts _ (List.mem_cons_of_mem _ wd_47)) (fun _ h9 => h9) rfl dX_endWait_19 ?_
    refine lv_bipush (v := 20) hx hb dX_endWait_22 (by decide) ?_
    refine lv_isub hx hb dX_endWait_24 ?_
    refine lv_iconst (v := 2) hx hb dX_endWait_25 (by decide) ?_
    refine kk_cs (r0 := xf_isBelow ((kI σ 16 t) - 20) 2) (w := kx_w ad cs) (As := [.int ((kI σ 16 t) - 20), .int 2]) (rest := []) ⟨hx, hb, hml, hown, hts⟩ (xc_isBelow l ((kI σ 16 t) - 20) 2) (cwS 2 hts gs_X_77 rfl rfl rfl (by decide +kernel) ⟨Nat.le_of_ble_eq_true rfl, Nat.le_of_ble_eq_true rfl⟩) hP hS rfl hl.1 rfl (Nat.le_of_ble_eq_true rfl) dX_endWait_26 ⟨Nat.zero_le _, Nat.zero_le _⟩ (fun H locs hP hS => ?_)
    refine lv_if_eq (tgt := 41) hx hb dX_endWait_29 (by decide) (fun c_29 => ?_) (fun c_29 => ?_)
    · rw [if_pos c_29] at hf
      refine lv_aload_n hx hb dX_endWait_41 rfl (lv_at hl 0 rfl) ?_
      refine lv_aload_n hx hb dX_endWait_42 rfl (lv_at hl 1 rfl) ?_
      refine lv_iconst (v := 2) hx hb dX_endWait_43 (by decide) ?_
      refine kk_cv (w := kx_w ad cs) (As := [.ref (kx_ta ad t), .int 2]) (rest := []) ⟨hx, hb, hml, hown, hts⟩ (xc_makeReady l dC dI ad cs hj σ hw t 2 ht) (cwV 2 hts gv_X_70 rfl rfl rfl (by decide +kernel) ⟨Nat.le_of_ble_eq_true rfl, Nat.le_of_ble_eq_true rfl⟩) (va_recv hK hP (ci := 2) (q0 := 0) rfl rfl) hP hK hS (fun _ h9 => h9) rfl hl.1 rfl (Nat.le_of_ble_eq_true rfl) dX_endWait_44 ⟨Nat.zero_le _, Nat.zero_le _⟩ (fun s1 H locs hq hP hS => ?_)
      obtain ⟨h1, hw⟩ := hq
      rw [kk_v_eq h1] at hf
      exact kk_vret hx hb hr hlocks hP hK hS ⟨hf.symm, hw⟩ dX_endWait_47
    · rw [if_neg c_29] at hf
      refine lv_aload_n hx hb dX_endWait_32 rfl (lv_at hl 0 rfl) ?_
      refine lv_aload_n hx hb dX_endWait_33 rfl (lv_at hl 1 rfl) ?_
      refine lv_iconst (v := 2) hx hb dX_endWait_34 (by decide) ?_
      refine kk_cv (w := kx_w ad cs) (As := [.ref (kx_ta ad t), .int 2]) (rest := []) ⟨hx, hb, hml, hown, hts⟩ (xc_endAwait l dC dI ad cs hj σ hw t 2 ht) (cwV 2 hts gv_X_121 rfl rfl rfl (by decide +kernel) ⟨Nat.le_of_ble_eq_true rfl, Nat.le_of_ble_eq_true rfl⟩) (va_recv hK hP (ci := 2) (q0 := 0) rfl rfl) hP hK hS (fun _ h9 => h9) rfl hl.1 rfl (Nat.le_of_ble_eq_true rfl) dX_endWait_35 ⟨Nat.zero_le _, Nat.zero_le _⟩ (fun s2 H locs hq hP hS => ?_)
      obtain ⟨h2, hw⟩ := hq
      rw [kk_v_eq h2] at hf
      refine lv_goto (tgt := 47) hx hb dX_endWait_38 (by decide) ?_
      exact kk_vret hx hb hr hlocks hP hK hS ⟨hf.symm, hw⟩ dX_endWait_47
  · rw [if_pos c_6] at hf
    refine lv_aload_n hx hb dX_endWait_9 rfl (lv_at hl 0 rfl) ?_
    refine lv_aload_n hx hb dX_endWait_10 rfl (lv_at hl 1 rfl) ?_
    refine lv_iconst (v := 0) hx hb dX_endWait_11 (by decide) ?_
    refine kk_cv (w := kx_w ad cs) (As := [.ref (kx_ta ad t), .int 0]) (rest := []) ⟨hx, hb, hml, hown, hts⟩ (xc_makeReady l dC dI ad cs hj σ hw t 0 ht) (cwV 2 hts gv_X_70 rfl rfl rfl (by decide +kernel) ⟨Nat.le_of_ble_eq_true rfl, Nat.le_of_ble_eq_true rfl⟩) (va_recv hK hP (ci := 2) (q0 := 0) rfl rfl) hP hK hS (fun _ h9 => h9) rfl hl.1 rfl (Nat.le_of_ble_eq_true rfl) dX_endWait_12 ⟨Nat.zero_le _, Nat.zero_le _⟩ (fun s3 H locs hq hP hS => ?_)
    obtain ⟨h3, hw⟩ := hq
    rw [kk_v_eq h3] at hf
    refine lv_goto (tgt := 47) hx hb dX_endWait_15 (by decide) ?_
    exact kk_vret hx hb hr hlocks hP hK hS ⟨hf.symm, hw⟩ dX_endWait_47
set_option maxHeartbeats 4000000 in
set_option maxRecDepth 100000 in
theorem xc_tickOnce (l : Launch) (dC : Nat → ClassId) (dI : Nat → Nat → Nat) (ad : Nat → Nat) (cs : Nat → ClassId) (hj : kx_inj ad) (σ : kx_S) (hw : kx_wf σ)  : Met l y_X_tickOnce ws_X_tickOnce ({ frames := 5, cells := 0, slots := 0, locals := 119 }) (kk_Pc (dC, dI) vwCl (kx_t cs) (kx_w ad cs σ) [.ref (ad 0)]) (va_Qv (kx_pv (xf_tickOnce σ)) (kk_B (dC, dI) vwCl (kx_t cs) (kx_w ad cs)) (kx_A ad)) 0 0 (kx_A ad) := by
  refine Met.ofW (cc := b_X_tickOnce) (maxL := 6) (ret := none) (by decide) rfl ?_
  intro p e s m args below meth c s₁ B hml hv
  obtain ⟨rfl, hP, hK⟩ := hv
  have hx := B.exec
  have hb := B.bytes
  have hr := B.returns
  have hts := atoms_spec (ws := ws_X_tickOnce) B.pre
  have hown : s.vm.findClass R_X = some m.cls := findClass_of_methodNamed B.named
  have hlocks := B.notSynchronized
  have hS : va_S (kx_A ad) s.heap s.heap [] := va_S.rf
  generalize hf : xf_tickOnce σ = out
  have hl := lv_entry ([.ref (ad 0)]) (n := 6) (Nat.le_of_ble_eq_true rfl)
  rw [lg_entry_eq]
  generalize (lg_sl ([.ref (ad 0)]) ++ List.replicate (6 - (lg_sl ([.ref (ad 0)])).length) Slot.unset).toArray = ls at hl ⊢
  have hl : lv_has ls 6 [(0, .ref (ad 0))] := hl
  rw [xf_tickOnce] at hf
  have loop35 : ∀ (n k : Nat) (σ : kx_S) (H : Heap) (locs : List Loc) (ls : Array Slot), n + k = 8 → kx_wf σ → xf_tickOnce_L35 n k  σ = out → va_P (dC, dI) vwCl (kx_w ad cs σ) H → va_S (kx_A ad) s.heap H locs → lv_has ls 6 [(4, .int (nI k)), (0, .ref (ad 0)), (2, .ref (ad 1)), (3, .int 8)] → W p l e (headSpec ws_X_tickOnce ({ frames := 5, cells := 0, slots := 0, locals := 119 })).room s m ([.ref (ad 0)] : List Value).toArray below meth c H locs 0 0 (MQ below (va_Qv (kx_pv out) (kk_B (dC, dI) vwCl (kx_t cs) (kx_w ad cs)) (kx_A ad)) ([.ref (ad 0)] : List Value).toArray s 0 0 (kx_A ad)) (F0 m 35 ls []) := by
    clear hf hl hP hS hw
    intro n
    induction n with
    | zero =>
      intro k σ H locs ls hnk hw hf hP hS hl
      have hk : k = 8 := by omega
      rw [xf_tickOnce_L35] at hf
      have hl : lv_has ls 6 [(4, .int (nI k)), (0, .ref (ad 0)), (2, .ref (ad 1)), (3, .int 8)] := hl
      refine lv_iload hx hb dX_tickOnce_35 (lv_at hl 0 rfl) ?_
      refine lv_iload_n hx hb dX_tickOnce_37 rfl (lv_at hl 3 rfl) ?_
      refine lv_icmp_ge (tgt := 73) hx hb dX_tickOnce_38 (by decide) (fun _ => ?_) (fun c9 => absurd (by rw [hk]; decide) c9)
      exact kk_vret hx hb hr hlocks hP hK hS ⟨hf.symm, hw⟩ dX_tickOnce_73
    | succ n ih =>
      intro k σ H locs ls hnk hw hf hP hS hl
      have hk : k < 8 := by omega
      rw [xf_tickOnce_L35] at hf
      have hl : lv_has ls 6 [(4, .int (nI k)), (0, .ref (ad 0)), (2, .ref (ad 1)), (3, .int 8)] := hl
      refine lv_iload hx hb dX_tickOnce_35 (lv_at hl 0 rfl) ?_
      refine lv_iload_n hx hb dX_tickOnce_37 rfl (lv_at hl 3 rfl) ?_
      refine lv_icmp_ge (tgt := 73) hx hb dX_tickOnce_38 (by decide) (fun c9 => absurd c9 (kk_stay hk (by decide))) (fun _ => ?_)
      refine lv_aload_n hx hb dX_tickOnce_41 rfl (lv_at hl 2 rfl) ?_
      refine lv_iload hx hb dX_tickOnce_42 (lv_at hl 0 rfl) ?_
      refine kx_ldTk hx hb hK hP hk dX_tickOnce_44 ?_
      refine lv_astore (lv' := [(5, .ref (kx_ta ad k)), (4, .int (nI k)), (0, .ref (ad 0)), (2, .ref (ad 1)), (3, .int 8)]) hx hb dX_tickOnce_45 hl (by decide) rfl (fun ls hl => ?_)
      refine lv_aload hx hb dX_tickOnce_47 (lv_at hl 0 rfl) ?_
      refine va_get (D := (dC, dI)) (ci := 1) (v := .long (kJ σ 1 k)) (C := R_T) (T := T_T) (N := 14) hx hb hts uw_T hown hK hP (11 + k) (kx_wT hk) rfl 9 (by decide) (hts _ (List.mem_cons_of_mem _ wd_49)) (fun _ h9 => h9) rfl dX_tickOnce_49 ?_
      refine lv_aload_n hx hb dX_tickOnce_52 rfl (lv_at hl 2 rfl) ?_
      refine va_get (D := (dC, dI)) (ci := 2) (v := .int (kI σ 2 0)) (C := R_X) (T := T_X) (N := 8) hx hb hts uw_X hown hK hP 0 rfl rfl 6 (by decide) (hts _ (List.mem_cons_of_mem _ wd_110)) (fun _ h9 => h9) rfl dX_tickOnce_53 ?_
      refine lv_i2l hx hb dX_tickOnce_56 rfl ?_
      refine W.lcmp hx hb dX_tickOnce_57 ?_
      refine lv_if_ne (tgt := 67) hx hb dX_tickOnce_58 (by decide) (fun c_58 => ?_) (fun c_58 => ?_)
      · rw [if_neg c_58] at hf
        refine lv_iinc (v := nI (k + 1)) (lv' := [(4, .int (nI (k + 1))), (5, .ref (kx_ta ad k)), (0, .ref (ad 0)), (2, .ref (ad 1)), (3, .int 8)]) hx hb dX_tickOnce_67 hl (k := 1) rfl (nI_1 _) (by decide) rfl (fun ls hl => ?_)
        refine lv_goto (tgt := 35) hx hb dX_tickOnce_70 (by decide) ?_
        exact ih (k + 1)  _ _ _ ls (by omega) hw  hf hP hS (lv_sub hl [0, 2, 3, 4] rfl)
      · rw [if_pos c_58] at hf
        refine lv_aload_n hx hb dX_tickOnce_61 rfl (lv_at hl 2 rfl) ?_
        refine lv_aload hx hb dX_tickOnce_62 (lv_at hl 0 rfl) ?_
        refine kk_cv (w := kx_w ad cs) (As := [.ref (kx_ta ad k)]) (rest := []) ⟨hx, hb, hml, hown, hts⟩ (xc_endWait l dC dI ad cs hj σ hw k hk) (cwV 1 hts gv_X_205 rfl rfl rfl (by decide +kernel) ⟨Nat.le_of_ble_eq_true rfl, Nat.le_of_ble_eq_true rfl⟩) (va_recv hK hP (ci := 2) (q0 := 0) rfl rfl) hP hK hS (fun _ h9 => h9) rfl hl.1 rfl (Nat.le_of_ble_eq_true rfl) dX_tickOnce_64 ⟨Nat.zero_le _, Nat.zero_le _⟩ (fun s1 H locs hq hP hS => ?_)
        obtain ⟨h1, hw⟩ := hq
        rw [kk_v_eq h1] at hf
        refine lv_iinc (v := nI (k + 1)) (lv' := [(4, .int (nI (k + 1))), (5, .ref (kx_ta ad k)), (0, .ref (ad 0)), (2, .ref (ad 1)), (3, .int 8)]) hx hb dX_tickOnce_67 hl (k := 1) rfl (nI_1 _) (by decide) rfl (fun ls hl => ?_)
        refine lv_goto (tgt := 35) hx hb dX_tickOnce_70 (by decide) ?_
        exact ih (k + 1)  _ _ _ ls (by omega) hw  hf hP hS (lv_sub hl [0, 2, 3, 4] rfl)
  refine lv_aload_n hx hb dX_tickOnce_0 rfl (lv_at hl 0 rfl) ?_
  refine kk_co (w := kx_w ad cs) (As := []) (rest := []) ⟨hx, hb, hml, hown, hts⟩ (xc_runner l dC dI ad cs hj σ hw  ) (cwV 0 hts gv_X_87 rfl rfl rfl (by decide +kernel) ⟨Nat.le_of_ble_eq_true rfl, Nat.le_of_ble_eq_true rfl⟩) (va_recv hK hP (ci := 2) (q0 := 0) rfl rfl) hP hK hS (fun _ h9 => h9) rfl hl.1 rfl (Nat.le_of_ble_eq_true rfl) dX_tickOnce_1 ⟨Nat.zero_le _, Nat.zero_le _⟩ (fun s2 H locs hq hP hS => ?_) (fun t2 s2 H locs hq hP hS => ?_)
  · obtain ⟨h2, hw, -⟩ := hq
    rw [kk_b_eq h2, kk_o_none] at hf
    refine lv_astore_nN (lv' := [(1, .null), (0, .ref (ad 0))]) hx hb dX_tickOnce_4 rfl hl (by decide) rfl (fun ls hl => ?_)
    refine lv_aload_n hx hb dX_tickOnce_5 rfl (lv_at hl 1 rfl) ?_
    refine lv_dup hx hb dX_tickOnce_6 rfl ?_
    refine va_get (D := (dC, dI)) (ci := 2) (v := .int (kI s2 2 0)) (C := R_X) (T := T_X) (N := 8) hx hb hts uw_X hown hK hP 0 rfl rfl 6 (by decide) (hts _ (List.mem_cons_of_mem _ wd_110)) (fun _ h9 => h9) rfl dX_tickOnce_7 ?_
    refine lv_iconst (v := 1) hx hb dX_tickOnce_10 (by decide) ?_
    refine lv_iadd hx hb dX_tickOnce_11 ?_
    refine va_put (D := (dC, dI)) (ci := 2) (v := .int ((kI s2 2 0) + 1)) (ty := .int) (C := R_X) (T := T_X) (N := 8) hx hb hts uw_X ty_X ty_X_ok nm_X hown hK hP (kx_D hj) hS 0 rfl rfl 6 (by decide) (hts _ (List.mem_cons_of_mem _ wd_110)) (fun _ h9 => h9) rfl (by decide +kernel) rfl rfl (Nat.le_of_ble_eq_true rfl) dX_tickOnce_12 (fun H locs hP _ hS => ?_)
    replace hP := kx_u_time hP
    replace hw := kx_wf_I (f := 2) (i := 0) (v := (kI s2 2 0) + 1) hw (by decide)
    refine lv_aload_nN hx hb dX_tickOnce_15 rfl (lv_at hl 0 rfl) ?_
    refine lv_ifnullN (tgt := 24) hx hb dX_tickOnce_16 (by decide) ?_
    refine lv_aload_n hx hb dX_tickOnce_24 rfl (lv_at hl 1 rfl) ?_
    refine va_get (D := (dC, dI)) (ci := 2) (v := .ref (ad 1)) (C := R_X) (T := T_X) (N := 8) hx hb hts uw_X hown hK hP 0 rfl rfl 2 (by decide) (hts _ (List.mem_cons_of_mem _ wd_106)) (fun _ h9 => h9) rfl dX_tickOnce_25 ?_
    refine lv_astore_n (lv' := [(2, .ref (ad 1)), (1, .null), (0, .ref (ad 0))]) hx hb dX_tickOnce_28 rfl hl (by decide) rfl (fun ls hl => ?_)
    refine lv_aload_n hx hb dX_tickOnce_29 rfl (lv_at hl 0 rfl) ?_
    refine va_alen (v := 8) hx hb hK hP 1 0 rfl rfl rfl dX_tickOnce_30 ?_
    refine lv_istore_n (lv' := [(3, .int 8), (2, .ref (ad 1)), (1, .null), (0, .ref (ad 0))]) hx hb dX_tickOnce_31 rfl hl (by decide) rfl (fun ls hl => ?_)
    refine lv_iconst (v := 0) hx hb dX_tickOnce_32 (by decide) ?_
    refine lv_istore (lv' := [(4, .int 0), (3, .int 8), (2, .ref (ad 1)), (1, .null), (0, .ref (ad 0))]) hx hb dX_tickOnce_33 hl (by decide) rfl (fun ls hl => ?_)
    exact loop35 8 0  _ _ _ ls (by omega) hw  hf hP hS (lv_sub hl [0, 4, 2, 1] rfl)
  · obtain ⟨h2, hw, h9⟩ := hq
    have ht2 : t2 < 8 := h9 t2 rfl
    rw [kk_b_eq h2, kk_o_some] at hf
    refine lv_astore_n (lv' := [(1, .ref (kx_ta ad t2)), (0, .ref (ad 0))]) hx hb dX_tickOnce_4 rfl hl (by decide) rfl (fun ls hl => ?_)
    refine lv_aload_n hx hb dX_tickOnce_5 rfl (lv_at hl 1 rfl) ?_
    refine lv_dup hx hb dX_tickOnce_6 rfl ?_
    refine va_get (D := (dC, dI)) (ci := 2) (v := .int (kI s2 2 0)) (C := R_X) (T := T_X) (N := 8) hx hb hts uw_X hown hK hP 0 rfl rfl 6 (by decide) (hts _ (List.mem_cons_of_mem _ wd_110)) (fun _ h9 => h9) rfl dX_tickOnce_7 ?_
    refine lv_iconst (v := 1) hx hb dX_tickOnce_10 (by decide) ?_
    refine lv_iadd hx hb dX_tickOnce_11 ?_
    refine va_put (D := (dC, dI)) (ci := 2) (v := .int ((kI s2 2 0) + 1)) (ty := .int) (C := R_X) (T := T_X) (N := 8) hx hb hts uw_X ty_X ty_X_ok nm_X hown hK hP (kx_D hj) hS 0 rfl rfl 6 (by decide) (hts _ (List.mem_cons_of_mem _ wd_110)) (fun _ h9 => h9) rfl (by decide +kernel) rfl rfl (Nat.le_of_ble_eq_true rfl) dX_tickOnce_12 (fun H locs hP _ hS => ?_)
    replace hP := kx_u_time hP
    replace hw := kx_wf_I (f := 2) (i := 0) (v := (kI s2 2 0) + 1) hw (by decide)
    refine lv_aload_n hx hb dX_tickOnce_15 rfl (lv_at hl 0 rfl) ?_
    refine lv_ifnull hx hb dX_tickOnce_16 ?_
    refine lv_aload_n hx hb dX_tickOnce_19 rfl (lv_at hl 1 rfl) ?_
    refine lv_aload_n hx hb dX_tickOnce_20 rfl (lv_at hl 0 rfl) ?_
    refine kk_cv (w := kx_w ad cs) (As := [.ref (kx_ta ad t2)]) (rest := []) ⟨hx, hb, hml, hown, hts⟩ (xc_useTick l dC dI ad cs hj (sI s2 2 0 ((kI s2 2 0) + 1)) hw t2 ht2) (cwV 1 hts gv_X_202 rfl rfl rfl (by decide +kernel) ⟨Nat.le_of_ble_eq_true rfl, Nat.le_of_ble_eq_true rfl⟩) (va_recv hK hP (ci := 2) (q0 := 0) rfl rfl) hP hK hS (fun _ h9 => h9) rfl hl.1 rfl (Nat.le_of_ble_eq_true rfl) dX_tickOnce_21 ⟨Nat.zero_le _, Nat.zero_le _⟩ (fun s3 H locs hq hP hS => ?_)
    obtain ⟨h3, hw⟩ := hq
    rw [kk_v_eq h3] at hf
    refine lv_aload_n hx hb dX_tickOnce_24 rfl (lv_at hl 1 rfl) ?_
    refine va_get (D := (dC, dI)) (ci := 2) (v := .ref (ad 1)) (C := R_X) (T := T_X) (N := 8) hx hb hts uw_X hown hK hP 0 rfl rfl 2 (by decide) (hts _ (List.mem_cons_of_mem _ wd_106)) (fun _ h9 => h9) rfl dX_tickOnce_25 ?_
    refine lv_astore_n (lv' := [(2, .ref (ad 1)), (1, .ref (kx_ta ad t2)), (0, .ref (ad 0))]) hx hb dX_tickOnce_28 rfl hl (by decide) rfl (fun ls hl => ?_)
    refine lv_aload_n hx hb dX_tickOnce_29 rfl (lv_at hl 0 rfl) ?_
    refine va_alen (v := 8) hx hb hK hP 1 0 rfl rfl rfl dX_tickOnce_30 ?_
    refine lv_istore_n (lv' := [(3, .int 8), (2, .ref (ad 1)), (1, .ref (kx_ta ad t2)), (0, .ref (ad 0))]) hx hb dX_tickOnce_31 rfl hl (by decide) rfl (fun ls hl => ?_)
    refine lv_iconst (v := 0) hx hb dX_tickOnce_32 (by decide) ?_
    refine lv_istore (lv' := [(4, .int 0), (3, .int 8), (2, .ref (ad 1)), (1, .ref (kx_ta ad t2)), (0, .ref (ad 0))]) hx hb dX_tickOnce_33 hl (by decide) rfl (fun ls hl => ?_)
    exact loop35 8 0  _ _ _ ls (by omega) hw  hf hP hS (lv_sub hl [0, 4, 2, 1] rfl)
