set_option maxHeartbeats 4000000 in
set_option maxRecDepth 100000 in
theorem xc_leastFree (l : Launch) (dC : Nat → ClassId) (dI : Nat → Nat → Nat) (ad : Nat → Nat) (cs : Nat → ClassId) (hj : kx_inj ad) (σ : kx_S) (hw : kx_wf σ)  : Met l y_X_leastFree ws_X_leastFree ({ frames := 0, cells := 0, slots := 0, locals := 0 }) (kk_Pc (dC, dI) vwCl (kx_t cs) (kx_w ad cs σ) [.ref (ad 0)]) (va_Qe (kx_ta ad) (kx_po (xf_leastFree σ)) (kk_B (dC, dI) vwCl (kx_t cs) (kx_w ad cs)) (kx_A ad)) 0 0 (kx_A ad) := by
  refine Met.ofW (cc := b_X_leastFree) (maxL := 5) (ret := (some (.object "PriorityKernel$Task"))) (by decide) rfl ?_
  intro p e s m args below meth c s₁ B hml hv
  obtain ⟨rfl, hP, hK⟩ := hv
  have hx := B.exec
  have hb := B.bytes
  have hr := B.returns
  have hts := atoms_spec (ws := ws_X_leastFree) B.pre
  have hown : s.vm.findClass R_X = some m.cls := findClass_of_methodNamed B.named
  have hlocks := B.notSynchronized
  have hS : va_S (kx_A ad) s.heap s.heap [] := va_S.rf
  generalize hf : xf_leastFree σ = out
  have hl := lv_entry ([.ref (ad 0)]) (n := 5) (Nat.le_of_ble_eq_true rfl)
  rw [lg_entry_eq]
  generalize (lg_sl ([.ref (ad 0)]) ++ List.replicate (5 - (lg_sl ([.ref (ad 0)])).length) Slot.unset).toArray = ls at hl ⊢
  have hl : lv_has ls 5 [(0, .ref (ad 0))] := hl
  rw [xf_leastFree] at hf
  have loop10 : ∀ (n k : Nat) (σ : kx_S) (H : Heap) (locs : List Loc) (ls : Array Slot), n + k = 8 → kx_wf σ → xf_leastFree_L10 n k  σ = out → va_P (dC, dI) vwCl (kx_w ad cs σ) H → va_S (kx_A ad) s.heap H locs → lv_has ls 5 [(3, .int (nI k)), (1, .ref (ad 1)), (2, .int 8)] → W p l e (headSpec ws_X_leastFree ({ frames := 0, cells := 0, slots := 0, locals := 0 })).room s m ([.ref (ad 0)] : List Value).toArray below meth c H locs 0 0 (MQ below (va_Qe (kx_ta ad) (kx_po out) (kk_B (dC, dI) vwCl (kx_t cs) (kx_w ad cs)) (kx_A ad)) ([.ref (ad 0)] : List Value).toArray s 0 0 (kx_A ad)) (F0 m 10 ls []) := by
    clear hf hl hP hS hw
    intro n
    induction n with
    | zero =>
      intro k σ H locs ls hnk hw hf hP hS hl
      have hk : k = 8 := by omega
      rw [xf_leastFree_L10] at hf
      have hl : lv_has ls 5 [(3, .int (nI k)), (1, .ref (ad 1)), (2, .int 8)] := hl
      refine lv_iload_n hx hb dX_leastFree_10 rfl (lv_at hl 0 rfl) ?_
      refine lv_iload_n hx hb dX_leastFree_11 rfl (lv_at hl 2 rfl) ?_
      refine lv_icmp_ge (tgt := 37) hx hb dX_leastFree_12 (by decide) (fun _ => ?_) (fun c9 => absurd (by rw [hk]; decide) c9)
      refine lv_null hx hb dX_leastFree_37 ?_
      exact kk_nret hx hb hr hlocks hP hK hS ⟨hf.symm, hw, fun _ h9 => by cases h9⟩ dX_leastFree_38
    | succ n ih =>
      intro k σ H locs ls hnk hw hf hP hS hl
      have hk : k < 8 := by omega
      rw [xf_leastFree_L10] at hf
      have hl : lv_has ls 5 [(3, .int (nI k)), (1, .ref (ad 1)), (2, .int 8)] := hl
      refine lv_iload_n hx hb dX_leastFree_10 rfl (lv_at hl 0 rfl) ?_
      refine lv_iload_n hx hb dX_leastFree_11 rfl (lv_at hl 2 rfl) ?_
      refine lv_icmp_ge (tgt := 37) hx hb dX_leastFree_12 (by decide) (fun c9 => absurd c9 (kk_stay hk (by decide))) (fun _ => ?_)
      refine lv_aload_n hx hb dX_leastFree_15 rfl (lv_at hl 1 rfl) ?_
      refine lv_iload_n hx hb dX_leastFree_16 rfl (lv_at hl 0 rfl) ?_
      refine kx_ldTk hx hb hK hP hk dX_leastFree_17 ?_
      refine lv_astore (lv' := [(4, .ref (kx_ta ad k)), (3, .int (nI k)), (1, .ref (ad 1)), (2, .int 8)]) hx hb dX_leastFree_18 hl (by decide) rfl (fun ls hl => ?_)
      refine lv_aload hx hb dX_leastFree_20 (lv_at hl 0 rfl) ?_
      refine va_get (D := (dC, dI)) (ci := 1) (v := .int (kI σ 10 k)) (C := R_T) (T := T_T) (N := 14) hx hb hts uw_T hown hK hP (11 + k) (kx_wT hk) rfl 1 (by decide) (hts _ (List.mem_cons_of_mem _ wd_33)) (fun _ h9 => h9) rfl dX_leastFree_22 ?_
      refine lv_if_ne (tgt := 31) hx hb dX_leastFree_25 (by decide) (fun c_25 => ?_) (fun c_25 => ?_)
      · rw [if_neg c_25] at hf
        refine lv_iinc (v := nI (k + 1)) (lv' := [(3, .int (nI (k + 1))), (4, .ref (kx_ta ad k)), (1, .ref (ad 1)), (2, .int 8)]) hx hb dX_leastFree_31 hl (k := 1) rfl (nI_1 _) (by decide) rfl (fun ls hl => ?_)
        refine lv_goto (tgt := 10) hx hb dX_leastFree_34 (by decide) ?_
        exact ih (k + 1)  _ _ _ ls (by omega) hw  hf hP hS (lv_sub hl [0, 2, 3] rfl)
      · rw [if_pos c_25] at hf
        refine lv_aload hx hb dX_leastFree_28 (lv_at hl 0 rfl) ?_
        exact kk_aret (t := k) hx hb hr hlocks hP hK hS ⟨hf.symm, hw, fun _ h9 => by cases h9; exact hk⟩ dX_leastFree_30
  refine lv_aload_n hx hb dX_leastFree_0 rfl (lv_at hl 0 rfl) ?_
  refine va_get (D := (dC, dI)) (ci := 2) (v := .ref (ad 1)) (C := R_X) (T := T_X) (N := 8) hx hb hts uw_X hown hK hP 0 rfl rfl 2 (by decide) (hts _ (List.mem_cons_of_mem _ wd_106)) (fun _ h9 => h9) rfl dX_leastFree_1 ?_
  refine lv_astore_n (lv' := [(1, .ref (ad 1)), (0, .ref (ad 0))]) hx hb dX_leastFree_4 rfl hl (by decide) rfl (fun ls hl => ?_)
  refine lv_aload_n hx hb dX_leastFree_5 rfl (lv_at hl 0 rfl) ?_
  refine va_alen (v := 8) hx hb hK hP 1 0 rfl rfl rfl dX_leastFree_6 ?_
  refine lv_istore_n (lv' := [(2, .int 8), (1, .ref (ad 1)), (0, .ref (ad 0))]) hx hb dX_leastFree_7 rfl hl (by decide) rfl (fun ls hl => ?_)
  refine lv_iconst (v := 0) hx hb dX_leastFree_8 (by decide) ?_
  refine lv_istore_n (lv' := [(3, .int 0), (2, .int 8), (1, .ref (ad 1)), (0, .ref (ad 0))]) hx hb dX_leastFree_9 rfl hl (by decide) rfl (fun ls hl => ?_)
  exact loop10 8 0  _ _ _ ls (by omega) hw  hf hP hS (lv_sub hl [0, 2, 1] rfl)
set_option maxHeartbeats 4000000 in
set_option maxRecDepth 100000 in
theorem xc_readyThreads (l : Launch) (dC : Nat → ClassId) (dI : Nat → Nat → Nat) (ad : Nat → Nat) (cs : Nat → ClassId) (hj : kx_inj ad) (σ : kx_S) (hw : kx_wf σ)  : Met l y_X_readyThreads ws_X_readyThreads ({ frames := 0, cells := 0, slots := 0, locals := 0 }) (kk_Pc (dC, dI) vwCl (kx_t cs) (kx_w ad cs σ) [.ref (ad 0)]) (va_Qi (kx_pi (xf_readyThreads σ)) (kk_B (dC, dI) vwCl (kx_t cs) (kx_w ad cs)) (kx_A ad)) 0 0 (kx_A ad) := by
  refine Met.ofW (cc := b_X_readyThreads) (maxL := 6) (ret := (some .int)) (by decide) rfl ?_
  intro p e s m args below meth c s₁ B hml hv
  obtain ⟨rfl, hP, hK⟩ := hv
  have hx := B.exec
  have hb := B.bytes
  have hr := B.returns
  have hts := atoms_spec (ws := ws_X_readyThreads) B.pre
  have hown : s.vm.findClass R_X = some m.cls := findClass_of_methodNamed B.named
  have hlocks := B.notSynchronized
  have hS : va_S (kx_A ad) s.heap s.heap [] := va_S.rf
  generalize hf : xf_readyThreads σ = out
  have hl := lv_entry ([.ref (ad 0)]) (n := 6) (Nat.le_of_ble_eq_true rfl)
  rw [lg_entry_eq]
  generalize (lg_sl ([.ref (ad 0)]) ++ List.replicate (6 - (lg_sl ([.ref (ad 0)])).length) Slot.unset).toArray = ls at hl ⊢
  have hl : lv_has ls 6 [(0, .ref (ad 0))] := hl
  rw [xf_readyThreads] at hf
  have loop13 : ∀ (n k : Nat) (ready : Int32) (σ : kx_S) (H : Heap) (locs : List Loc) (ls : Array Slot), n + k = 8 → kx_wf σ → xf_readyThreads_L13 n k ready σ = out → va_P (dC, dI) vwCl (kx_w ad cs σ) H → va_S (kx_A ad) s.heap H locs → lv_has ls 6 [(4, .int (nI k)), (1, .int ready), (2, .ref (ad 1)), (3, .int 8)] → W p l e (headSpec ws_X_readyThreads ({ frames := 0, cells := 0, slots := 0, locals := 0 })).room s m ([.ref (ad 0)] : List Value).toArray below meth c H locs 0 0 (MQ below (va_Qi (kx_pi out) (kk_B (dC, dI) vwCl (kx_t cs) (kx_w ad cs)) (kx_A ad)) ([.ref (ad 0)] : List Value).toArray s 0 0 (kx_A ad)) (F0 m 13 ls []) := by
    clear hf hl hP hS hw
    intro n
    induction n with
    | zero =>
      intro k ready σ H locs ls hnk hw hf hP hS hl
      have hk : k = 8 := by omega
      rw [xf_readyThreads_L13] at hf
      have hl : lv_has ls 6 [(4, .int (nI k)), (1, .int ready), (2, .ref (ad 1)), (3, .int 8)] := hl
      refine lv_iload hx hb dX_readyThreads_13 (lv_at hl 0 rfl) ?_
      refine lv_iload_n hx hb dX_readyThreads_15 rfl (lv_at hl 3 rfl) ?_
      refine lv_icmp_ge (tgt := 43) hx hb dX_readyThreads_16 (by decide) (fun _ => ?_) (fun c9 => absurd (by rw [hk]; decide) c9)
      refine lv_iload_n hx hb dX_readyThreads_43 rfl (lv_at hl 1 rfl) ?_
      exact kk_iret hx hb hr hlocks hP hK hS ⟨hf.symm, hw⟩ dX_readyThreads_44
    | succ n ih =>
      intro k ready σ H locs ls hnk hw hf hP hS hl
      have hk : k < 8 := by omega
      rw [xf_readyThreads_L13] at hf
      have hl : lv_has ls 6 [(4, .int (nI k)), (1, .int ready), (2, .ref (ad 1)), (3, .int 8)] := hl
      refine lv_iload hx hb dX_readyThreads_13 (lv_at hl 0 rfl) ?_
      refine lv_iload_n hx hb dX_readyThreads_15 rfl (lv_at hl 3 rfl) ?_
      refine lv_icmp_ge (tgt := 43) hx hb dX_readyThreads_16 (by decide) (fun c9 => absurd c9 (kk_stay hk (by decide))) (fun _ => ?_)
      refine lv_aload_n hx hb dX_readyThreads_19 rfl (lv_at hl 2 rfl) ?_
      refine lv_iload hx hb dX_readyThreads_20 (lv_at hl 0 rfl) ?_
      refine kx_ldTk hx hb hK hP hk dX_readyThreads_22 ?_
      refine lv_astore (lv' := [(5, .ref (kx_ta ad k)), (4, .int (nI k)), (1, .int ready), (2, .ref (ad 1)), (3, .int 8)]) hx hb dX_readyThreads_23 hl (by decide) rfl (fun ls hl => ?_)
      refine lv_aload hx hb dX_readyThreads_25 (lv_at hl 0 rfl) ?_
      refine va_get (D := (dC, dI)) (ci := 1) (v := .int (kI σ 10 k)) (C := R_T) (T := T_T) (N := 14) hx hb hts uw_T hown hK hP (11 + k) (kx_wT hk) rfl 1 (by decide) (hts _ (List.mem_cons_of_mem _ wd_33)) (fun _ h9 => h9) rfl dX_readyThreads_27 ?_
      refine lv_iconst (v := 1) hx hb dX_readyThreads_30 (by decide) ?_
      refine lv_icmp_ne (tgt := 37) hx hb dX_readyThreads_31 (by decide) (fun c_31 => ?_) (fun c_31 => ?_)
      · rw [if_neg c_31] at hf
        refine lv_iinc (v := nI (k + 1)) (lv' := [(4, .int (nI (k + 1))), (5, .ref (kx_ta ad k)), (1, .int ready), (2, .ref (ad 1)), (3, .int 8)]) hx hb dX_readyThreads_37 hl (k := 1) rfl (nI_1 _) (by decide) rfl (fun ls hl => ?_)
        refine lv_goto (tgt := 13) hx hb dX_readyThreads_40 (by decide) ?_
        exact ih (k + 1) ready _ _ _ ls (by omega) hw  hf hP hS (lv_sub hl [0, 2, 3, 4] rfl)
      · rw [if_pos c_31] at hf
        refine lv_iinc (v := ready + 1) (lv' := [(1, .int (ready + 1)), (5, .ref (kx_ta ad k)), (4, .int (nI k)), (2, .ref (ad 1)), (3, .int 8)]) hx hb dX_readyThreads_34 hl (k := 2) rfl rfl (by decide) rfl (fun ls hl => ?_)
        refine lv_iinc (v := nI (k + 1)) (lv' := [(4, .int (nI (k + 1))), (1, .int (ready + 1)), (5, .ref (kx_ta ad k)), (2, .ref (ad 1)), (3, .int 8)]) hx hb dX_readyThreads_37 hl (k := 2) rfl (nI_1 _) (by decide) rfl (fun ls hl => ?_)
        refine lv_goto (tgt := 13) hx hb dX_readyThreads_40 (by decide) ?_
        exact ih (k + 1) (ready + 1) _ _ _ ls (by omega) hw  hf hP hS (lv_sub hl [0, 1, 3, 4] rfl)
  refine lv_iconst (v := 0) hx hb dX_readyThreads_0 (by decide) ?_
  refine lv_istore_n (lv' := [(1, .int 0), (0, .ref (ad 0))]) hx hb dX_readyThreads_1 rfl hl (by decide) rfl (fun ls hl => ?_)
  refine lv_aload_n hx hb dX_readyThreads_2 rfl (lv_at hl 1 rfl) ?_
  refine va_get (D := (dC, dI)) (ci := 2) (v := .ref (ad 1)) (C := R_X) (T := T_X) (N := 8) hx hb hts uw_X hown hK hP 0 rfl rfl 2 (by decide) (hts _ (List.mem_cons_of_mem _ wd_106)) (fun _ h9 => h9) rfl dX_readyThreads_3 ?_
  refine lv_astore_n (lv' := [(2, .ref (ad 1)), (1, .int 0), (0, .ref (ad 0))]) hx hb dX_readyThreads_6 rfl hl (by decide) rfl (fun ls hl => ?_)
  refine lv_aload_n hx hb dX_readyThreads_7 rfl (lv_at hl 0 rfl) ?_
  refine va_alen (v := 8) hx hb hK hP 1 0 rfl rfl rfl dX_readyThreads_8 ?_
  refine lv_istore_n (lv' := [(3, .int 8), (2, .ref (ad 1)), (1, .int 0), (0, .ref (ad 0))]) hx hb dX_readyThreads_9 rfl hl (by decide) rfl (fun ls hl => ?_)
  refine lv_iconst (v := 0) hx hb dX_readyThreads_10 (by decide) ?_
  refine lv_istore (lv' := [(4, .int 0), (3, .int 8), (2, .ref (ad 1)), (1, .int 0), (0, .ref (ad 0))]) hx hb dX_readyThreads_11 hl (by decide) rfl (fun ls hl => ?_)
  exact loop13 8 0 0 _ _ _ ls (by omega) hw  hf hP hS (lv_sub hl [0, 3, 2, 1] rfl)
set_option maxHeartbeats 4000000 in
set_option maxRecDepth 100000 in
theorem xc_ownsAny (l : Launch) (dC : Nat → ClassId) (dI : Nat → Nat → Nat) (ad : Nat → Nat) (cs : Nat → ClassId) (hj : kx_inj ad) (σ : kx_S) (hw : kx_wf σ) (t : Nat) (ht : t < 8) : Met l y_X_ownsAny ws_X_ownsAny ({ frames := 0, cells := 0, slots := 0, locals := 0 }) (kk_Pc (dC, dI) vwCl (kx_t cs) (kx_w ad cs σ) [.ref (ad 0), .ref (kx_ta ad t)]) (va_Qi (kx_pi (xf_ownsAny σ t)) (kk_B (dC, dI) vwCl (kx_t cs) (kx_w ad cs)) (kx_A ad)) 0 0 (kx_A ad) := by
  refine Met.ofW (cc := b_X_ownsAny) (maxL := 6) (ret := (some .boolean)) (by decide) rfl ?_
  intro p e s m args below meth c s₁ B hml hv
  obtain ⟨rfl, hP, hK⟩ := hv
  have hx := B.exec
  have hb := B.bytes
  have hr := B.returns
  have hts := atoms_spec (ws := ws_X_ownsAny) B.pre
  have hown : s.vm.findClass R_X = some m.cls := findClass_of_methodNamed B.named
  have hlocks := B.notSynchronized
  have hS : va_S (kx_A ad) s.heap s.heap [] := va_S.rf
  generalize hf : xf_ownsAny σ t = out
  have hl := lv_entry ([.ref (ad 0), .ref (kx_ta ad t)]) (n := 6) (Nat.le_of_ble_eq_true rfl)
  rw [lg_entry_eq]
  generalize (lg_sl ([.ref (ad 0), .ref (kx_ta ad t)]) ++ List.replicate (6 - (lg_sl ([.ref (ad 0), .ref (kx_ta ad t)])).length) Slot.unset).toArray = ls at hl ⊢
  have hl : lv_has ls 6 [(0, .ref (ad 0)), (1, .ref (kx_ta ad t))] := hl
  rw [xf_ownsAny] at hf
  have loop11 : ∀ (n k : Nat) (σ : kx_S) (H : Heap) (locs : List Loc) (ls : Array Slot), n + k = 4 → kx_wf σ → xf_ownsAny_L11 t n k  σ = out → va_P (dC, dI) vwCl (kx_w ad cs σ) H → va_S (kx_A ad) s.heap H locs → lv_has ls 6 [(4, .int (nI k)), (1, .ref (kx_ta ad t)), (2, .ref (ad 2)), (3, .int 4)] → W p l e (headSpec ws_X_ownsAny ({ frames := 0, cells := 0, slots := 0, locals := 0 })).room s m ([.ref (ad 0), .ref (kx_ta ad t)] : List Value).toArray below meth c H locs 0 0 (MQ below (va_Qi (kx_pi out) (kk_B (dC, dI) vwCl (kx_t cs) (kx_w ad cs)) (kx_A ad)) ([.ref (ad 0), .ref (kx_ta ad t)] : List Value).toArray s 0 0 (kx_A ad)) (F0 m 11 ls []) := by
    clear hf hl hP hS hw
    intro n
    induction n with
    | zero =>
      intro k σ H locs ls hnk hw hf hP hS hl
      have hk : k = 4 := by omega
      rw [xf_ownsAny_L11] at hf
      have hl : lv_has ls 6 [(4, .int (nI k)), (1, .ref (kx_ta ad t)), (2, .ref (ad 2)), (3, .int 4)] := hl
      refine lv_iload hx hb dX_ownsAny_11 (lv_at hl 0 rfl) ?_
      refine lv_iload_n hx hb dX_ownsAny_13 rfl (lv_at hl 3 rfl) ?_
      refine lv_icmp_ge (tgt := 40) hx hb dX_ownsAny_14 (by decide) (fun _ => ?_) (fun c9 => absurd (by rw [hk]; decide) c9)
      refine lv_iconst (v := 0) hx hb dX_ownsAny_40 (by decide) ?_
      exact kk_zret hx hb hr hlocks rfl hP hK hS ⟨hf.symm, hw⟩ dX_ownsAny_41
    | succ n ih =>
      intro k σ H locs ls hnk hw hf hP hS hl
      have hk : k < 4 := by omega
      rw [xf_ownsAny_L11] at hf
      have hl : lv_has ls 6 [(4, .int (nI k)), (1, .ref (kx_ta ad t)), (2, .ref (ad 2)), (3, .int 4)] := hl
      refine lv_iload hx hb dX_ownsAny_11 (lv_at hl 0 rfl) ?_
      refine lv_iload_n hx hb dX_ownsAny_13 rfl (lv_at hl 3 rfl) ?_
      refine lv_icmp_ge (tgt := 40) hx hb dX_ownsAny_14 (by decide) (fun c9 => absurd c9 (kk_stay hk (by decide))) (fun _ => ?_)
      refine lv_aload_n hx hb dX_ownsAny_17 rfl (lv_at hl 2 rfl) ?_
      refine lv_iload hx hb dX_ownsAny_18 (lv_at hl 0 rfl) ?_
      refine va_iald hx hb hK hP 2 1 rfl rfl (vp_in_nI (by omega) (by decide)) dX_ownsAny_20 ?_
      rw [nI_clamp (n := k) (by omega)]
      refine lv_istore (lv' := [(5, .int (kI σ 3 k)), (4, .int (nI k)), (1, .ref (kx_ta ad t)), (2, .ref (ad 2)), (3, .int 4)]) hx hb dX_ownsAny_21 hl (by decide) rfl (fun ls hl => ?_)
      refine lv_iload hx hb dX_ownsAny_23 (lv_at hl 0 rfl) ?_
      refine lv_aload_n hx hb dX_ownsAny_25 rfl (lv_at hl 2 rfl) ?_
      refine va_get (D := (dC, dI)) (ci := 1) (v := .int (nI t)) (C := R_T) (T := T_T) (N := 14) hx hb hts uw_T hown hK hP (11 + t) (kx_wT ht) rfl 0 (by decide) (hts _ (List.mem_cons_of_mem _ wd_31)) (fun _ h9 => h9) rfl dX_ownsAny_26 ?_
      refine lv_icmp_ne (tgt := 34) hx hb dX_ownsAny_29 (by decide) (fun c_29 => ?_) (fun c_29 => ?_)
      · rw [if_neg c_29] at hf
        refine lv_iinc (v := nI (k + 1)) (lv' := [(4, .int (nI (k + 1))), (5, .int (kI σ 3 k)), (1, .ref (kx_ta ad t)), (2, .ref (ad 2)), (3, .int 4)]) hx hb dX_ownsAny_34 hl (k := 1) rfl (nI_1 _) (by decide) rfl (fun ls hl => ?_)
        refine lv_goto (tgt := 11) hx hb dX_ownsAny_37 (by decide) ?_
        exact ih (k + 1)  _ _ _ ls (by omega) hw  hf hP hS (lv_sub hl [0, 2, 3, 4] rfl)
      · rw [if_pos c_29] at hf
        refine lv_iconst (v := 1) hx hb dX_ownsAny_32 (by decide) ?_
        exact kk_zret hx hb hr hlocks rfl hP hK hS ⟨hf.symm, hw⟩ dX_ownsAny_33
  refine lv_aload_n hx hb dX_ownsAny_0 rfl (lv_at hl 0 rfl) ?_
  refine va_get (D := (dC, dI)) (ci := 2) (v := .ref (ad 2)) (C := R_X) (T := T_X) (N := 8) hx hb hts uw_X hown hK hP 0 rfl rfl 3 (by decide) (hts _ (List.mem_cons_of_mem _ wd_107)) (fun _ h9 => h9) rfl dX_ownsAny_1 ?_
  refine lv_astore_n (lv' := [(2, .ref (ad 2)), (0, .ref (ad 0)), (1, .ref (kx_ta ad t))]) hx hb dX_ownsAny_4 rfl hl (by decide) rfl (fun ls hl => ?_)
  refine lv_aload_n hx hb dX_ownsAny_5 rfl (lv_at hl 0 rfl) ?_
  refine va_alen (v := 4) hx hb hK hP 2 1 rfl rfl rfl dX_ownsAny_6 ?_
  refine lv_istore_n (lv' := [(3, .int 4), (2, .ref (ad 2)), (0, .ref (ad 0)), (1, .ref (kx_ta ad t))]) hx hb dX_ownsAny_7 rfl hl (by decide) rfl (fun ls hl => ?_)
  refine lv_iconst (v := 0) hx hb dX_ownsAny_8 (by decide) ?_
  refine lv_istore (lv' := [(4, .int 0), (3, .int 4), (2, .ref (ad 2)), (0, .ref (ad 0)), (1, .ref (kx_ta ad t))]) hx hb dX_ownsAny_9 hl (by decide) rfl (fun ls hl => ?_)
  exact loop11 4 0  _ _ _ ls (by omega) hw  hf hP hS (lv_sub hl [0, 4, 2, 1] rfl)
set_option maxHeartbeats 4000000 in
set_option maxRecDepth 100000 in
theorem xc_spawn (l : Launch) (dC : Nat → ClassId) (dI : Nat → Nat → Nat) (ad : Nat → Nat) (cs : Nat → ClassId) (hj : kx_inj ad) (σ : kx_S) (hw : kx_wf σ) (base : Int32) (sliced : Int32) (hs : sliced = 0 ∨ sliced = 1) : Met l y_X_spawn ws_X_spawn ({ frames := 1, cells := 0, slots := 0, locals := 24 }) (kk_Pc (dC, dI) vwCl (kx_t cs) (kx_w ad cs σ) [.ref (ad 0), .int base, .int sliced]) (va_Qi (kx_pi (xf_spawn σ base sliced)) (kk_B (dC, dI) vwCl (kx_t cs) (kx_w ad cs)) (kx_A ad)) 0 0 (kx_A ad) := by
  refine Met.ofW (cc := b_X_spawn) (maxL := 4) (ret := (some .int)) (by decide) rfl ?_
  intro p e s m args below meth c s₁ B hml hv
  obtain ⟨rfl, hP, hK⟩ := hv
  have hx := B.exec
  have hb := B.bytes
  have hr := B.returns
  have hts := atoms_spec (ws := ws_X_spawn) B.pre
  have hown : s.vm.findClass R_X = some m.cls := findClass_of_methodNamed B.named
  have hlocks := B.notSynchronized
  have hS : va_S (kx_A ad) s.heap s.heap [] := va_S.rf
  generalize hf : xf_spawn σ base sliced = out
  have hl := lv_entry ([.ref (ad 0), .int base, .int sliced]) (n := 4) (Nat.le_of_ble_eq_true rfl)
  rw [lg_entry_eq]
  generalize (lg_sl ([.ref (ad 0), .int base, .int sliced]) ++ List.replicate (4 - (lg_sl ([.ref (ad 0), .int base, .int sliced])).length) Slot.unset).toArray = ls at hl ⊢
  have hl : lv_has ls 4 [(0, .ref (ad 0)), (1, .int base), (2, .int sliced)] := hl
  rw [xf_spawn] at hf
  refine lv_iload_n hx hb dX_spawn_0 rfl (lv_at hl 1 rfl) ?_
  refine kk_cs (r0 := xf_isPriority base) (w := kx_w ad cs) (As := [.int base]) (rest := []) ⟨hx, hb, hml, hown, hts⟩ (xc_isPriority l base) (cwS 1 hts gs_X_55 rfl rfl rfl (by decide +kernel) ⟨Nat.le_of_ble_eq_true rfl, Nat.le_of_ble_eq_true rfl⟩) hP hS rfl hl.1 rfl (Nat.le_of_ble_eq_true rfl) dX_spawn_1 ⟨Nat.zero_le _, Nat.zero_le _⟩ (fun H locs hP hS => ?_)
  refine lv_if_ne (tgt := 9) hx hb dX_spawn_4 (by decide) (fun c_4 => ?_) (fun c_4 => ?_)
  · rw [if_neg c_4] at hf
    refine lv_aload_n hx hb dX_spawn_9 rfl (lv_at hl 0 rfl) ?_
    refine kk_co (w := kx_w ad cs) (As := []) (rest := []) ⟨hx, hb, hml, hown, hts⟩ (xc_leastFree l dC dI ad cs hj σ hw  ) (cwV 0 hts gv_X_59 rfl rfl rfl (by decide +kernel) ⟨Nat.le_of_ble_eq_true rfl, Nat.le_of_ble_eq_true rfl⟩) (va_recv hK hP (ci := 2) (q0 := 0) rfl rfl) hP hK hS (fun _ h9 => h9) rfl hl.1 rfl (Nat.le_of_ble_eq_true rfl) dX_spawn_10 ⟨Nat.zero_le _, Nat.zero_le _⟩ (fun s1 H locs hq hP hS => ?_) (fun t1 s1 H locs hq hP hS => ?_)
    · obtain ⟨h1, hw, -⟩ := hq
      rw [kk_b_eq h1, kk_o_none] at hf
      refine lv_astore_nN (lv' := [(3, .null), (0, .ref (ad 0)), (1, .int base), (2, .int sliced)]) hx hb dX_spawn_13 rfl hl (by decide) rfl (fun ls hl => ?_)
      refine lv_aload_nN hx hb dX_spawn_14 rfl (lv_at hl 0 rfl) ?_
      refine lv_ifnonnullN hx hb dX_spawn_15 ?_
      refine lv_iconst (v := (-1)) hx hb dX_spawn_18 (by decide) ?_
      exact kk_iret hx hb hr hlocks hP hK hS ⟨hf.symm, hw⟩ dX_spawn_19
    · obtain ⟨h1, hw, h9⟩ := hq
      have ht1 : t1 < 8 := h9 t1 rfl
      rw [kk_b_eq h1, kk_o_some] at hf
      refine lv_astore_n (lv' := [(3, .ref (kx_ta ad t1)), (0, .ref (ad 0)), (1, .int base), (2, .int sliced)]) hx hb dX_spawn_13 rfl hl (by decide) rfl (fun ls hl => ?_)
      refine lv_aload_n hx hb dX_spawn_14 rfl (lv_at hl 0 rfl) ?_
      refine lv_ifnonnull (tgt := 20) hx hb dX_spawn_15 (by decide) ?_
      refine lv_aload_n hx hb dX_spawn_20 rfl (lv_at hl 0 rfl) ?_
      refine lv_iload_n hx hb dX_spawn_21 rfl (lv_at hl 2 rfl) ?_
      refine va_put (D := (dC, dI)) (ci := 1) (v := .int base) (ty := .int) (C := R_T) (T := T_T) (N := 14) hx hb hts uw_T ty_T ty_T_ok nm_T hown hK hP (kx_D hj) hS (11 + t1) (kx_wT ht1) rfl 2 (by decide) (hts _ (List.mem_cons_of_mem _ wd_35)) (fun _ h9 => h9) rfl (by decide +kernel) rfl rfl (Nat.le_of_ble_eq_true rfl) dX_spawn_22 (fun H locs hP _ hS => ?_)
      replace hP := kx_u_base ht1 hP
      replace hw := kx_wf_I (f := 11) (i := t1) (v := base) hw (by decide)
      refine lv_aload_n hx hb dX_spawn_25 rfl (lv_at hl 0 rfl) ?_
      refine lv_iload_n hx hb dX_spawn_26 rfl (lv_at hl 3 rfl) ?_
      refine va_put (D := (dC, dI)) (ci := 1) (v := .int sliced) (ty := .boolean) (C := R_T) (T := T_T) (N := 14) hx hb hts uw_T ty_T ty_T_ok nm_T hown hK hP (kx_D hj) hS (11 + t1) (kx_wT ht1) rfl 4 (by decide) (hts _ (List.mem_cons_of_mem _ wd_39)) (fun _ h9 => h9) rfl (by decide +kernel) (kk_nb hs) (kk_fb hs) (Nat.le_of_ble_eq_true rfl) dX_spawn_27 (fun H locs hP _ hS => ?_)
      replace hP := kx_u_sliced ht1 hP
      replace hw := kx_wf_I (f := 13) (i := t1) (v := sliced) hw (by decide)
      refine lv_aload_n hx hb dX_spawn_30 rfl (lv_at hl 1 rfl) ?_
      refine lv_aload_n hx hb dX_spawn_31 rfl (lv_at hl 0 rfl) ?_
      refine lv_iconst (v := 0) hx hb dX_spawn_32 (by decide) ?_
      refine kk_cv (w := kx_w ad cs) (As := [.ref (kx_ta ad t1), .int 0]) (rest := []) ⟨hx, hb, hml, hown, hts⟩ (xc_makeReady l dC dI ad cs hj (sI (sI s1 11 t1 base) 13 t1 sliced) hw t1 0 ht1) (cwV 2 hts gv_X_70 rfl rfl rfl (by decide +kernel) ⟨Nat.le_of_ble_eq_true rfl, Nat.le_of_ble_eq_true rfl⟩) (va_recv hK hP (ci := 2) (q0 := 0) rfl rfl) hP hK hS (fun _ h9 => h9) rfl hl.1 rfl (Nat.le_of_ble_eq_true rfl) dX_spawn_33 ⟨Nat.zero_le _, Nat.zero_le _⟩ (fun s2 H locs hq hP hS => ?_)
      obtain ⟨h2, hw⟩ := hq
      rw [kk_v_eq h2] at hf
      refine lv_aload_n hx hb dX_spawn_36 rfl (lv_at hl 0 rfl) ?_
      refine va_get (D := (dC, dI)) (ci := 1) (v := .int (nI t1)) (C := R_T) (T := T_T) (N := 14) hx hb hts uw_T hown hK hP (11 + t1) (kx_wT ht1) rfl 0 (by decide) (hts _ (List.mem_cons_of_mem _ wd_31)) (fun _ h9 => h9) rfl dX_spawn_37 ?_
      exact kk_iret hx hb hr hlocks hP hK hS ⟨hf.symm, hw⟩ dX_spawn_40
  · rw [if_pos c_4] at hf
    refine lv_iconst (v := (-1)) hx hb dX_spawn_7 (by decide) ?_
    exact kk_iret hx hb hr hlocks hP hK hS ⟨hf.symm, hw⟩ dX_spawn_8
set_option maxHeartbeats 4000000 in
set_option maxRecDepth 100000 in
theorem xc_priority (l : Launch) (dC : Nat → ClassId) (dI : Nat → Nat → Nat) (ad : Nat → Nat) (cs : Nat → ClassId) (hj : kx_inj ad) (σ : kx_S) (hw : kx_wf σ) (thread : Int32) (base : Int32) : Met l y_X_priority ws_X_priority ({ frames := 1, cells := 0, slots := 0, locals := 21 }) (kk_Pc (dC, dI) vwCl (kx_t cs) (kx_w ad cs σ) [.ref (ad 0), .int thread, .int base]) (va_Qi (kx_pi (xf_priority σ thread base)) (kk_B (dC, dI) vwCl (kx_t cs) (kx_w ad cs)) (kx_A ad)) 0 0 (kx_A ad) := by
  refine Met.ofW (cc := b_X_priority) (maxL := 4) (ret := (some .int)) (by decide) rfl ?_
  intro p e s m args below meth c s₁ B hml hv
  obtain ⟨rfl, hP, hK⟩ := hv
  have hx := B.exec
  have hb := B.bytes
  have hr := B.returns
  have hts := atoms_spec (ws := ws_X_priority) B.pre
  have hown : s.vm.findClass R_X = some m.cls := findClass_of_methodNamed B.named
  have hlocks := B.notSynchronized
  have hS : va_S (kx_A ad) s.heap s.heap [] := va_S.rf
  generalize hf : xf_priority σ thread base = out
  have hl := lv_entry ([.ref (ad 0), .int thread, .int base]) (n := 4) (Nat.le_of_ble_eq_true rfl)
  rw [lg_entry_eq]
  generalize (lg_sl ([.ref (ad 0), .int thread, .int base]) ++ List.replicate (4 - (lg_sl ([.ref (ad 0), .int thread, .int base])).length) Slot.unset).toArray = ls at hl ⊢
  have hl : lv_has ls 4 [(0, .ref (ad 0)), (1, .int thread), (2, .int base)] := hl
  rw [xf_priority] at hf
  refine lv_iload_n hx hb dX_priority_0 rfl (lv_at hl 1 rfl) ?_
  refine lv_bipush (v := 8) hx hb dX_priority_1 (by decide) ?_
  refine kk_cs (r0 := xf_isBelow thread 8) (w := kx_w ad cs) (As := [.int thread, .int 8]) (rest := []) ⟨hx, hb, hml, hown, hts⟩ (xc_isBelow l thread 8) (cwS 2 hts gs_X_77 rfl rfl rfl (by decide +kernel) ⟨Nat.le_of_ble_eq_true rfl, Nat.le_of_ble_eq_true rfl⟩) hP hS rfl hl.1 rfl (Nat.le_of_ble_eq_true rfl) dX_priority_3 ⟨Nat.zero_le _, Nat.zero_le _⟩ (fun H locs hP hS => ?_)
  refine lv_if_eq (tgt := 16) hx hb dX_priority_6 (by decide) (fun c_6 => ?_) (fun c_6 => ?_)
  · rw [if_pos c_6] at hf
    refine lv_iconst (v := (-1)) hx hb dX_priority_16 (by decide) ?_
    exact kk_iret hx hb hr hlocks hP hK hS ⟨hf.symm, hw⟩ dX_priority_17
  · rw [if_neg c_6] at hf
    refine lv_iload_n hx hb dX_priority_9 rfl (lv_at hl 2 rfl) ?_
    refine kk_cs (r0 := xf_isPriority base) (w := kx_w ad cs) (As := [.int base]) (rest := []) ⟨hx, hb, hml, hown, hts⟩ (xc_isPriority l base) (cwS 1 hts gs_X_55 rfl rfl rfl (by decide +kernel) ⟨Nat.le_of_ble_eq_true rfl, Nat.le_of_ble_eq_true rfl⟩) hP hS rfl hl.1 rfl (Nat.le_of_ble_eq_true rfl) dX_priority_10 ⟨Nat.zero_le _, Nat.zero_le _⟩ (fun H locs hP hS => ?_)
    refine lv_if_ne (tgt := 18) hx hb dX_priority_13 (by decide) (fun c_13 => ?_) (fun c_13 => ?_)
    · rw [if_neg c_13] at hf
      refine lv_aload_n hx hb dX_priority_18 rfl (lv_at hl 0 rfl) ?_
      refine va_get (D := (dC, dI)) (ci := 2) (v := .ref (ad 1)) (C := R_X) (T := T_X) (N := 8) hx hb hts uw_X hown hK hP 0 rfl rfl 2 (by decide) (hts _ (List.mem_cons_of_mem _ wd_106)) (fun _ h9 => h9) rfl dX_priority_19 ?_
      refine lv_iload_n hx hb dX_priority_22 rfl (lv_at hl 1 rfl) ?_
      have hi_23 : vp_in thread 8 := (kx_in (by decide) c_6)
      have ht_23 : thread.toNatClampNeg < 8 := kx_lt hi_23
      refine kx_ldT hx hb hK hP hi_23 dX_priority_23 ?_
      refine lv_astore_n (lv' := [(3, .ref (kx_ta ad thread.toNatClampNeg)), (0, .ref (ad 0)), (1, .int thread), (2, .int base)]) hx hb dX_priority_24 rfl hl (by decide) rfl (fun ls hl => ?_)
      refine lv_aload_n hx hb dX_priority_25 rfl (lv_at hl 0 rfl) ?_
      refine va_get (D := (dC, dI)) (ci := 1) (v := .int (kI σ 10 thread.toNatClampNeg)) (C := R_T) (T := T_T) (N := 14) hx hb hts uw_T hown hK hP (11 + thread.toNatClampNeg) (kx_wT ht_23) rfl 1 (by decide) (hts _ (List.mem_cons_of_mem _ wd_33)) (fun _ h9 => h9) rfl dX_priority_26 ?_
      refine lv_if_eq (tgt := 40) hx hb dX_priority_29 (by decide) (fun c_29 => ?_) (fun c_29 => ?_)
      · rw [if_pos c_29] at hf
        refine lv_iconst (v := (-1)) hx hb dX_priority_40 (by decide) ?_
        exact kk_iret hx hb hr hlocks hP hK hS ⟨hf.symm, hw⟩ dX_priority_41
      · rw [if_neg c_29] at hf
        refine lv_aload_n hx hb dX_priority_32 rfl (lv_at hl 0 rfl) ?_
        refine va_get (D := (dC, dI)) (ci := 1) (v := .int (kI σ 10 thread.toNatClampNeg)) (C := R_T) (T := T_T) (N := 14) hx hb hts uw_T hown hK hP (11 + thread.toNatClampNeg) (kx_wT ht_23) rfl 1 (by decide) (hts _ (List.mem_cons_of_mem _ wd_33)) (fun _ h9 => h9) rfl dX_priority_33 ?_
        refine lv_iconst (v := 3) hx hb dX_priority_36 (by decide) ?_
        refine lv_icmp_ne (tgt := 42) hx hb dX_priority_37 (by decide) (fun c_37 => ?_) (fun c_37 => ?_)
        · rw [if_neg c_37] at hf
          refine lv_aload_n hx hb dX_priority_42 rfl (lv_at hl 1 rfl) ?_
          refine va_get (D := (dC, dI)) (ci := 2) (v := .ref (ad 2)) (C := R_X) (T := T_X) (N := 8) hx hb hts uw_X hown hK hP 0 rfl rfl 3 (by decide) (hts _ (List.mem_cons_of_mem _ wd_107)) (fun _ h9 => h9) rfl dX_priority_43 ?_
          refine lv_iconst (v := 3) hx hb dX_priority_46 (by decide) ?_
          refine va_iald hx hb hK hP 2 1 rfl rfl (kk_inl (by decide)) dX_priority_47 ?_
          rw [kk_c3]
          refine lv_iload_n hx hb dX_priority_48 rfl (lv_at hl 2 rfl) ?_
          refine lv_icmp_ne (tgt := 62) hx hb dX_priority_49 (by decide) (fun c_49 => ?_) (fun c_49 => ?_)
          · rw [if_neg c_49] at hf
            refine lv_aload_n hx hb dX_priority_62 rfl (lv_at hl 0 rfl) ?_
            refine lv_iload_n hx hb dX_priority_63 rfl (lv_at hl 3 rfl) ?_
            refine va_put (D := (dC, dI)) (ci := 1) (v := .int base) (ty := .int) (C := R_T) (T := T_T) (N := 14) hx hb hts uw_T ty_T ty_T_ok nm_T hown hK hP (kx_D hj) hS (11 + thread.toNatClampNeg) (kx_wT ht_23) rfl 2 (by decide) (hts _ (List.mem_cons_of_mem _ wd_35)) (fun _ h9 => h9) rfl (by decide +kernel) rfl rfl (Nat.le_of_ble_eq_true rfl) dX_priority_64 (fun H locs hP _ hS => ?_)
            replace hP := kx_u_base ht_23 hP
            replace hw := kx_wf_I (f := 11) (i := thread.toNatClampNeg) (v := base) hw (by decide)
            refine lv_aload_n hx hb dX_priority_67 rfl (lv_at hl 0 rfl) ?_
            refine va_get (D := (dC, dI)) (ci := 1) (v := .int (kI (sI σ 11 thread.toNatClampNeg base) 10 thread.toNatClampNeg)) (C := R_T) (T := T_T) (N := 14) hx hb hts uw_T hown hK hP (11 + thread.toNatClampNeg) (kx_wT ht_23) rfl 1 (by decide) (hts _ (List.mem_cons_of_mem _ wd_33)) (fun _ h9 => h9) rfl dX_priority_68 ?_
            refine lv_iconst (v := 1) hx hb dX_priority_71 (by decide) ?_
            refine lv_icmp_ne (tgt := 90) hx hb dX_priority_72 (by decide) (fun c_72 => ?_) (fun c_72 => ?_)
            · rw [if_neg c_72] at hf
              refine lv_iconst (v := 0) hx hb dX_priority_90 (by decide) ?_
              exact kk_iret hx hb hr hlocks hP hK hS ⟨hf.symm, hw⟩ dX_priority_91
            · rw [if_pos c_72] at hf
              refine lv_aload_n hx hb dX_priority_75 rfl (lv_at hl 0 rfl) ?_
              refine lv_aload_n hx hb dX_priority_76 rfl (lv_at hl 1 rfl) ?_
              refine lv_dup hx hb dX_priority_77 rfl ?_
              refine va_get (D := (dC, dI)) (ci := 2) (v := .long (kJ (sI σ 11 thread.toNatClampNeg base) 2 0)) (C := R_X) (T := T_X) (N := 8) hx hb hts uw_X hown hK hP 0 rfl rfl 7 (by decide) (hts _ (List.mem_cons_of_mem _ wd_111)) (fun _ h9 => h9) rfl dX_priority_78 ?_
              refine lv_lconst (v := 1) hx hb dX_priority_81 (by decide) ?_
              refine lv_ladd hx hb dX_priority_82 ?_
              refine lv_dup2_x1_2 hx hb dX_priority_83 rfl rfl ?_
              refine va_put (D := (dC, dI)) (ci := 2) (v := .long ((kJ (sI σ 11 thread.toNatClampNeg base) 2 0) + 1)) (ty := .long) (C := R_X) (T := T_X) (N := 8) hx hb hts uw_X ty_X ty_X_ok nm_X hown hK hP (kx_D hj) hS 0 rfl rfl 7 (by decide) (hts _ (List.mem_cons_of_mem _ wd_111)) (fun _ h9 => h9) rfl (by decide +kernel) rfl rfl (Nat.le_of_ble_eq_true rfl) dX_priority_84 (fun H locs hP _ hS => ?_)
              replace hP := kx_u_lastMoment hP
              replace hw := kx_wf_J (f := 2) (i := 0) (v := (kJ (sI σ 11 thread.toNatClampNeg base) 2 0) + 1) hw
              refine va_put (D := (dC, dI)) (ci := 1) (v := .long ((kJ (sI σ 11 thread.toNatClampNeg base) 2 0) + 1)) (ty := .long) (C := R_T) (T := T_T) (N := 14) hx hb hts uw_T ty_T ty_T_ok nm_T hown hK hP (kx_D hj) hS (11 + thread.toNatClampNeg) (kx_wT ht_23) rfl 7 (by decide) (hts _ (List.mem_cons_of_mem _ wd_45)) (fun _ h9 => h9) rfl (by decide +kernel) rfl rfl (Nat.le_of_ble_eq_true rfl) dX_priority_87 (fun H locs hP _ hS => ?_)
              replace hP := kx_u_since ht_23 hP
              replace hw := kx_wf_J (f := 0) (i := thread.toNatClampNeg) (v := (kJ (sI σ 11 thread.toNatClampNeg base) 2 0) + 1) hw
              refine lv_iconst (v := 0) hx hb dX_priority_90 (by decide) ?_
              exact kk_iret hx hb hr hlocks hP hK hS ⟨hf.symm, hw⟩ dX_priority_91
          · rw [if_pos c_49] at hf
            refine lv_iload_n hx hb dX_priority_52 rfl (lv_at hl 3 rfl) ?_
            refine lv_aload_n hx hb dX_priority_53 rfl (lv_at hl 1 rfl) ?_
            refine va_get (D := (dC, dI)) (ci := 2) (v := .int (kI σ 1 0)) (C := R_X) (T := T_X) (N := 8) hx hb hts uw_X hown hK hP 0 rfl rfl 1 (by decide) (hts _ (List.mem_cons_of_mem _ wd_105)) (fun _ h9 => h9) rfl dX_priority_54 ?_
            refine lv_icmp_le (tgt := 62) hx hb dX_priority_57 (by decide) (fun c_57 => ?_) (fun c_57 => ?_)
            · rw [if_pos c_57] at hf
              refine lv_aload_n hx hb dX_priority_62 rfl (lv_at hl 0 rfl) ?_
              refine lv_iload_n hx hb dX_priority_63 rfl (lv_at hl 3 rfl) ?_
              refine va_put (D := (dC, dI)) (ci := 1) (v := .int base) (ty := .int) (C := R_T) (T := T_T) (N := 14) hx hb hts uw_T ty_T ty_T_ok nm_T hown hK hP (kx_D hj) hS (11 + thread.toNatClampNeg) (kx_wT ht_23) rfl 2 (by decide) (hts _ (List.mem_cons_of_mem _ wd_35)) (fun _ h9 => h9) rfl (by decide +kernel) rfl rfl (Nat.le_of_ble_eq_true rfl) dX_priority_64 (fun H locs hP _ hS => ?_)
              replace hP := kx_u_base ht_23 hP
              replace hw := kx_wf_I (f := 11) (i := thread.toNatClampNeg) (v := base) hw (by decide)
              refine lv_aload_n hx hb dX_priority_67 rfl (lv_at hl 0 rfl) ?_
              refine va_get (D := (dC, dI)) (ci := 1) (v := .int (kI (sI σ 11 thread.toNatClampNeg base) 10 thread.toNatClampNeg)) (C := R_T) (T := T_T) (N := 14) hx hb hts uw_T hown hK hP (11 + thread.toNatClampNeg) (kx_wT ht_23) rfl 1 (by decide) (hts _ (List.mem_cons_of_mem _ wd_33)) (fun _ h9 => h9) rfl dX_priority_68 ?_
              refine lv_iconst (v := 1) hx hb dX_priority_71 (by decide) ?_
              refine lv_icmp_ne (tgt := 90) hx hb dX_priority_72 (by decide) (fun c_72 => ?_) (fun c_72 => ?_)
              · rw [if_neg c_72] at hf
                refine lv_iconst (v := 0) hx hb dX_priority_90 (by decide) ?_
                exact kk_iret hx hb hr hlocks hP hK hS ⟨hf.symm, hw⟩ dX_priority_91
              · rw [if_pos c_72] at hf
                refine lv_aload_n hx hb dX_priority_75 rfl (lv_at hl 0 rfl) ?_
                refine lv_aload_n hx hb dX_priority_76 rfl (lv_at hl 1 rfl) ?_
                refine lv_dup hx hb dX_priority_77 rfl ?_
                refine va_get (D := (dC, dI)) (ci := 2) (v := .long (kJ (sI σ 11 thread.toNatClampNeg base) 2 0)) (C := R_X) (T := T_X) (N := 8) hx hb hts uw_X hown hK hP 0 rfl rfl 7 (by decide) (hts _ (List.mem_cons_of_mem _ wd_111)) (fun _ h9 => h9) rfl dX_priority_78 ?_
                refine lv_lconst (v := 1) hx hb dX_priority_81 (by decide) ?_
                refine lv_ladd hx hb dX_priority_82 ?_
                refine lv_dup2_x1_2 hx hb dX_priority_83 rfl rfl ?_
                refine va_put (D := (dC, dI)) (ci := 2) (v := .long ((kJ (sI σ 11 thread.toNatClampNeg base) 2 0) + 1)) (ty := .long) (C := R_X) (T := T_X) (N := 8) hx hb hts uw_X ty_X ty_X_ok nm_X hown hK hP (kx_D hj) hS 0 rfl rfl 7 (by decide) (hts _ (List.mem_cons_of_mem _ wd_111)) (fun _ h9 => h9) rfl (by decide +kernel) rfl rfl (Nat.le_of_ble_eq_true rfl) dX_priority_84 (fun H locs hP _ hS => ?_)
                replace hP := kx_u_lastMoment hP
                replace hw := kx_wf_J (f := 2) (i := 0) (v := (kJ (sI σ 11 thread.toNatClampNeg base) 2 0) + 1) hw
                refine va_put (D := (dC, dI)) (ci := 1) (v := .long ((kJ (sI σ 11 thread.toNatClampNeg base) 2 0) + 1)) (ty := .long) (C := R_T) (T := T_T) (N := 14) hx hb hts uw_T ty_T ty_T_ok nm_T hown hK hP (kx_D hj) hS (11 + thread.toNatClampNeg) (kx_wT ht_23) rfl 7 (by decide) (hts _ (List.mem_cons_of_mem _ wd_45)) (fun _ h9 => h9) rfl (by decide +kernel) rfl rfl (Nat.le_of_ble_eq_true rfl) dX_priority_87 (fun H locs hP _ hS => ?_)
                replace hP := kx_u_since ht_23 hP
                replace hw := kx_wf_J (f := 0) (i := thread.toNatClampNeg) (v := (kJ (sI σ 11 thread.toNatClampNeg base) 2 0) + 1) hw
                refine lv_iconst (v := 0) hx hb dX_priority_90 (by decide) ?_
                exact kk_iret hx hb hr hlocks hP hK hS ⟨hf.symm, hw⟩ dX_priority_91
            · rw [if_neg c_57] at hf
              refine lv_iconst (v := (-1)) hx hb dX_priority_60 (by decide) ?_
              exact kk_iret hx hb hr hlocks hP hK hS ⟨hf.symm, hw⟩ dX_priority_61
        · rw [if_pos c_37] at hf
          refine lv_iconst (v := (-1)) hx hb dX_priority_40 (by decide) ?_
          exact kk_iret hx hb hr hlocks hP hK hS ⟨hf.symm, hw⟩ dX_priority_41
    · rw [if_pos c_13] at hf
      refine lv_iconst (v := (-1)) hx hb dX_priority_16 (by decide) ?_
      exact kk_iret hx hb hr hlocks hP hK hS ⟨hf.symm, hw⟩ dX_priority_17
set_option maxHeartbeats 4000000 in
set_option maxRecDepth 100000 in
theorem xc_pass (l : Launch) (dC : Nat → ClassId) (dI : Nat → Nat → Nat) (ad : Nat → Nat) (cs : Nat → ClassId) (hj : kx_inj ad) (σ : kx_S) (hw : kx_wf σ)  : Met l y_X_pass ws_X_pass ({ frames := 5, cells := 0, slots := 0, locals := 119 }) (kk_Pc (dC, dI) vwCl (kx_t cs) (kx_w ad cs σ) [.ref (ad 0)]) (va_Qi (kx_pi (xf_pass σ)) (kk_B (dC, dI) vwCl (kx_t cs) (kx_w ad cs)) (kx_A ad)) 0 0 (kx_A ad) := by
  refine Met.ofW (cc := b_X_pass) (maxL := 2) (ret := (some .int)) (by decide) rfl ?_
  intro p e s m args below meth c s₁ B hml hv
  obtain ⟨rfl, hP, hK⟩ := hv
  have hx := B.exec
  have hb := B.bytes
  have hr := B.returns
  have hts := atoms_spec (ws := ws_X_pass) B.pre
  have hown : s.vm.findClass R_X = some m.cls := findClass_of_methodNamed B.named
  have hlocks := B.notSynchronized
  have hS : va_S (kx_A ad) s.heap s.heap [] := va_S.rf
  generalize hf : xf_pass σ = out
  have hl := lv_entry ([.ref (ad 0)]) (n := 2) (Nat.le_of_ble_eq_true rfl)
  rw [lg_entry_eq]
  generalize (lg_sl ([.ref (ad 0)]) ++ List.replicate (2 - (lg_sl ([.ref (ad 0)])).length) Slot.unset).toArray = ls at hl ⊢
  have hl : lv_has ls 2 [(0, .ref (ad 0))] := hl
  rw [xf_pass] at hf
  refine lv_aload_n hx hb dX_pass_0 rfl (lv_at hl 0 rfl) ?_
  refine kk_co (w := kx_w ad cs) (As := []) (rest := []) ⟨hx, hb, hml, hown, hts⟩ (xc_runner l dC dI ad cs hj σ hw  ) (cwV 0 hts gv_X_87 rfl rfl rfl (by decide +kernel) ⟨Nat.le_of_ble_eq_true rfl, Nat.le_of_ble_eq_true rfl⟩) (va_recv hK hP (ci := 2) (q0 := 0) rfl rfl) hP hK hS (fun _ h9 => h9) rfl hl.1 rfl (Nat.le_of_ble_eq_true rfl) dX_pass_1 ⟨Nat.zero_le _, Nat.zero_le _⟩ (fun s1 H locs hq hP hS => ?_) (fun t1 s1 H locs hq hP hS => ?_)
  · obtain ⟨h1, hw, -⟩ := hq
    rw [kk_b_eq h1, kk_o_none] at hf
    refine lv_astore_nN (lv' := [(1, .null), (0, .ref (ad 0))]) hx hb dX_pass_4 rfl hl (by decide) rfl (fun ls hl => ?_)
    refine lv_aload_nN hx hb dX_pass_5 rfl (lv_at hl 0 rfl) ?_
    refine lv_ifnonnullN hx hb dX_pass_6 ?_
    refine lv_iconst (v := (-1)) hx hb dX_pass_9 (by decide) ?_
    exact kk_iret hx hb hr hlocks hP hK hS ⟨hf.symm, hw⟩ dX_pass_10
  · obtain ⟨h1, hw, h9⟩ := hq
    have ht1 : t1 < 8 := h9 t1 rfl
    rw [kk_b_eq h1, kk_o_some] at hf
    refine lv_astore_n (lv' := [(1, .ref (kx_ta ad t1)), (0, .ref (ad 0))]) hx hb dX_pass_4 rfl hl (by decide) rfl (fun ls hl => ?_)
    refine lv_aload_n hx hb dX_pass_5 rfl (lv_at hl 0 rfl) ?_
    refine lv_ifnonnull (tgt := 11) hx hb dX_pass_6 (by decide) ?_
    refine lv_aload_n hx hb dX_pass_11 rfl (lv_at hl 1 rfl) ?_
    refine lv_aload_n hx hb dX_pass_12 rfl (lv_at hl 0 rfl) ?_
    refine kk_cv (w := kx_w ad cs) (As := [.ref (kx_ta ad t1)]) (rest := []) ⟨hx, hb, hml, hown, hts⟩ (xc_startTurn l dC dI ad cs hj s1 hw t1 ht1) (cwV 1 hts gv_X_90 rfl rfl rfl (by decide +kernel) ⟨Nat.le_of_ble_eq_true rfl, Nat.le_of_ble_eq_true rfl⟩) (va_recv hK hP (ci := 2) (q0 := 0) rfl rfl) hP hK hS (fun _ h9 => h9) rfl hl.1 rfl (Nat.le_of_ble_eq_true rfl) dX_pass_13 ⟨Nat.zero_le _, Nat.zero_le _⟩ (fun s2 H locs hq hP hS => ?_)
    obtain ⟨h2, hw⟩ := hq
    rw [kk_v_eq h2] at hf
    refine lv_iconst (v := 0) hx hb dX_pass_16 (by decide) ?_
    exact kk_iret hx hb hr hlocks hP hK hS ⟨hf.symm, hw⟩ dX_pass_17
set_option maxHeartbeats 4000000 in
set_option maxRecDepth 100000 in
theorem xc_lock (l : Launch) (dC : Nat → ClassId) (dI : Nat → Nat → Nat) (ad : Nat → Nat) (cs : Nat → ClassId) (hj : kx_inj ad) (σ : kx_S) (hw : kx_wf σ) (m1 : Int32) : Met l y_X_lock ws_X_lock ({ frames := 5, cells := 0, slots := 0, locals := 119 }) (kk_Pc (dC, dI) vwCl (kx_t cs) (kx_w ad cs σ) [.ref (ad 0), .int m1]) (va_Qi (kx_pi (xf_lock σ m1)) (kk_B (dC, dI) vwCl (kx_t cs) (kx_w ad cs)) (kx_A ad)) 0 0 (kx_A ad) := by
  refine Met.ofW (cc := b_X_lock) (maxL := 3) (ret := (some .int)) (by decide) rfl ?_
  intro p e s m args below meth c s₁ B hml hv
  obtain ⟨rfl, hP, hK⟩ := hv
  have hx := B.exec
  have hb := B.bytes
  have hr := B.returns
  have hts := atoms_spec (ws := ws_X_lock) B.pre
  have hown : s.vm.findClass R_X = some m.cls := findClass_of_methodNamed B.named
  have hlocks := B.notSynchronized
  have hS : va_S (kx_A ad) s.heap s.heap [] := va_S.rf
  generalize hf : xf_lock σ m1 = out
  have hl := lv_entry ([.ref (ad 0), .int m1]) (n := 3) (Nat.le_of_ble_eq_true rfl)
  rw [lg_entry_eq]
  generalize (lg_sl ([.ref (ad 0), .int m1]) ++ List.replicate (3 - (lg_sl ([.ref (ad 0), .int m1])).length) Slot.unset).toArray = ls at hl ⊢
  have hl : lv_has ls 3 [(0, .ref (ad 0)), (1, .int m1)] := hl
  rw [xf_lock] at hf
  refine lv_aload_n hx hb dX_lock_0 rfl (lv_at hl 0 rfl) ?_
  refine kk_co (w := kx_w ad cs) (As := []) (rest := []) ⟨hx, hb, hml, hown, hts⟩ (xc_runner l dC dI ad cs hj σ hw  ) (cwV 0 hts gv_X_87 rfl rfl rfl (by decide +kernel) ⟨Nat.le_of_ble_eq_true rfl, Nat.le_of_ble_eq_true rfl⟩) (va_recv hK hP (ci := 2) (q0 := 0) rfl rfl) hP hK hS (fun _ h9 => h9) rfl hl.1 rfl (Nat.le_of_ble_eq_true rfl) dX_lock_1 ⟨Nat.zero_le _, Nat.zero_le _⟩ (fun s1 H locs hq hP hS => ?_) (fun t1 s1 H locs hq hP hS => ?_)
  · obtain ⟨h1, hw, -⟩ := hq
    rw [kk_b_eq h1, kk_o_none] at hf
    refine lv_astore_nN (lv' := [(2, .null), (0, .ref (ad 0)), (1, .int m1)]) hx hb dX_lock_4 rfl hl (by decide) rfl (fun ls hl => ?_)
    refine lv_iload_n hx hb dX_lock_5 rfl (lv_at hl 2 rfl) ?_
    refine lv_iconst (v := 4) hx hb dX_lock_6 (by decide) ?_
    refine kk_cs (r0 := xf_isBelow m1 4) (w := kx_w ad cs) (As := [.int m1, .int 4]) (rest := []) ⟨hx, hb, hml, hown, hts⟩ (xc_isBelow l m1 4) (cwS 2 hts gs_X_77 rfl rfl rfl (by decide +kernel) ⟨Nat.le_of_ble_eq_true rfl, Nat.le_of_ble_eq_true rfl⟩) hP hS rfl hl.1 rfl (Nat.le_of_ble_eq_true rfl) dX_lock_7 ⟨Nat.zero_le _, Nat.zero_le _⟩ (fun H locs hP hS => ?_)
    refine lv_if_eq (tgt := 30) hx hb dX_lock_10 (by decide) (fun c_10 => ?_) (fun c_10 => ?_)
    · rw [if_pos c_10] at hf
      refine lv_iconst (v := (-1)) hx hb dX_lock_30 (by decide) ?_
      exact kk_iret hx hb hr hlocks hP hK hS ⟨hf.symm, hw⟩ dX_lock_31
    · rw [if_neg c_10] at hf
      refine lv_aload_nN hx hb dX_lock_13 rfl (lv_at hl 0 rfl) ?_
      refine lv_ifnullN (tgt := 30) hx hb dX_lock_14 (by decide) ?_
      refine lv_iconst (v := (-1)) hx hb dX_lock_30 (by decide) ?_
      exact kk_iret hx hb hr hlocks hP hK hS ⟨hf.symm, hw⟩ dX_lock_31
  · obtain ⟨h1, hw, h9⟩ := hq
    have ht1 : t1 < 8 := h9 t1 rfl
    rw [kk_b_eq h1, kk_o_some] at hf
    refine lv_astore_n (lv' := [(2, .ref (kx_ta ad t1)), (0, .ref (ad 0)), (1, .int m1)]) hx hb dX_lock_4 rfl hl (by decide) rfl (fun ls hl => ?_)
    refine lv_iload_n hx hb dX_lock_5 rfl (lv_at hl 2 rfl) ?_
    refine lv_iconst (v := 4) hx hb dX_lock_6 (by decide) ?_
    refine kk_cs (r0 := xf_isBelow m1 4) (w := kx_w ad cs) (As := [.int m1, .int 4]) (rest := []) ⟨hx, hb, hml, hown, hts⟩ (xc_isBelow l m1 4) (cwS 2 hts gs_X_77 rfl rfl rfl (by decide +kernel) ⟨Nat.le_of_ble_eq_true rfl, Nat.le_of_ble_eq_true rfl⟩) hP hS rfl hl.1 rfl (Nat.le_of_ble_eq_true rfl) dX_lock_7 ⟨Nat.zero_le _, Nat.zero_le _⟩ (fun H locs hP hS => ?_)
    refine lv_if_eq (tgt := 30) hx hb dX_lock_10 (by decide) (fun c_10 => ?_) (fun c_10 => ?_)
    · rw [if_pos c_10] at hf
      refine lv_iconst (v := (-1)) hx hb dX_lock_30 (by decide) ?_
      exact kk_iret hx hb hr hlocks hP hK hS ⟨hf.symm, hw⟩ dX_lock_31
    · rw [if_neg c_10] at hf
      refine lv_aload_n hx hb dX_lock_13 rfl (lv_at hl 0 rfl) ?_
      refine lv_ifnull hx hb dX_lock_14 ?_
      refine lv_aload_n hx hb dX_lock_17 rfl (lv_at hl 1 rfl) ?_
      refine va_get (D := (dC, dI)) (ci := 2) (v := .ref (ad 2)) (C := R_X) (T := T_X) (N := 8) hx hb hts uw_X hown hK hP 0 rfl rfl 3 (by decide) (hts _ (List.mem_cons_of_mem _ wd_107)) (fun _ h9 => h9) rfl dX_lock_18 ?_
      refine lv_iload_n hx hb dX_lock_21 rfl (lv_at hl 2 rfl) ?_
      refine va_iald hx hb hK hP 2 1 rfl rfl (kx_in (by decide) c_10) dX_lock_22 ?_
      refine lv_aload_n hx hb dX_lock_23 rfl (lv_at hl 0 rfl) ?_
      refine va_get (D := (dC, dI)) (ci := 1) (v := .int (nI t1)) (C := R_T) (T := T_T) (N := 14) hx hb hts uw_T hown hK hP (11 + t1) (kx_wT ht1) rfl 0 (by decide) (hts _ (List.mem_cons_of_mem _ wd_31)) (fun _ h9 => h9) rfl dX_lock_24 ?_
      refine lv_icmp_ne (tgt := 32) hx hb dX_lock_27 (by decide) (fun c_27 => ?_) (fun c_27 => ?_)
      · rw [if_neg c_27] at hf
        refine lv_iload_n hx hb dX_lock_32 rfl (lv_at hl 2 rfl) ?_
        refine lv_iconst (v := 3) hx hb dX_lock_33 (by decide) ?_
        refine lv_icmp_ne (tgt := 50) hx hb dX_lock_34 (by decide) (fun c_34 => ?_) (fun c_34 => ?_)
        · rw [if_neg c_34] at hf
          refine lv_aload_n hx hb dX_lock_50 rfl (lv_at hl 0 rfl) ?_
          refine lv_iconst (v := 0) hx hb dX_lock_51 (by decide) ?_
          refine va_put (D := (dC, dI)) (ci := 1) (v := .int 0) (ty := .int) (C := R_T) (T := T_T) (N := 14) hx hb hts uw_T ty_T ty_T_ok nm_T hown hK hP (kx_D hj) hS (11 + t1) (kx_wT ht1) rfl 11 (by decide) (hts _ (List.mem_cons_of_mem _ wd_53)) (fun _ h9 => h9) rfl (by decide +kernel) rfl rfl (Nat.le_of_ble_eq_true rfl) dX_lock_52 (fun H locs hP _ hS => ?_)
          replace hP := kx_u_resultWhenOwning ht1 hP
          replace hw := kx_wf_I (f := 18) (i := t1) (v := 0) hw (by decide)
          refine lv_aload_n hx hb dX_lock_55 rfl (lv_at hl 1 rfl) ?_
          refine lv_aload_n hx hb dX_lock_56 rfl (lv_at hl 0 rfl) ?_
          refine lv_iload_n hx hb dX_lock_57 rfl (lv_at hl 2 rfl) ?_
          refine kk_cv (w := kx_w ad cs) (As := [.ref (kx_ta ad t1), .int m1]) (rest := []) ⟨hx, hb, hml, hown, hts⟩ (xc_take l dC dI ad cs hj (sI s1 18 t1 0) hw t1 m1 ht1 (kx_in (by decide) c_10)) (cwV 2 hts gv_X_97 rfl rfl rfl (by decide +kernel) ⟨Nat.le_of_ble_eq_true rfl, Nat.le_of_ble_eq_true rfl⟩) (va_recv hK hP (ci := 2) (q0 := 0) rfl rfl) hP hK hS (fun _ h9 => h9) rfl hl.1 rfl (Nat.le_of_ble_eq_true rfl) dX_lock_58 ⟨Nat.zero_le _, Nat.zero_le _⟩ (fun s2 H locs hq hP hS => ?_)
          obtain ⟨h2, hw⟩ := hq
          rw [kk_v_eq h2] at hf
          refine lv_aload_n hx hb dX_lock_61 rfl (lv_at hl 0 rfl) ?_
          refine va_get (D := (dC, dI)) (ci := 1) (v := .int (kI s2 10 t1)) (C := R_T) (T := T_T) (N := 14) hx hb hts uw_T hown hK hP (11 + t1) (kx_wT ht1) rfl 1 (by decide) (hts _ (List.mem_cons_of_mem _ wd_33)) (fun _ h9 => h9) rfl dX_lock_62 ?_
          refine lv_iconst (v := 1) hx hb dX_lock_65 (by decide) ?_
          refine lv_icmp_ne (tgt := 73) hx hb dX_lock_66 (by decide) (fun c_66 => ?_) (fun c_66 => ?_)
          · rw [if_neg c_66] at hf
            refine lv_iconst (v := 1) hx hb dX_lock_73 (by decide) ?_
            exact kk_iret hx hb hr hlocks hP hK hS ⟨hf.symm, hw⟩ dX_lock_74
          · rw [if_pos c_66] at hf
            refine lv_iconst (v := 0) hx hb dX_lock_69 (by decide) ?_
            refine lv_goto (tgt := 74) hx hb dX_lock_70 (by decide) ?_
            exact kk_iret hx hb hr hlocks hP hK hS ⟨hf.symm, hw⟩ dX_lock_74
        · rw [if_pos c_34] at hf
          refine lv_aload_n hx hb dX_lock_37 rfl (lv_at hl 0 rfl) ?_
          refine va_get (D := (dC, dI)) (ci := 1) (v := .int (kI s1 11 t1)) (C := R_T) (T := T_T) (N := 14) hx hb hts uw_T hown hK hP (11 + t1) (kx_wT ht1) rfl 2 (by decide) (hts _ (List.mem_cons_of_mem _ wd_35)) (fun _ h9 => h9) rfl dX_lock_38 ?_
          refine lv_aload_n hx hb dX_lock_41 rfl (lv_at hl 1 rfl) ?_
          refine va_get (D := (dC, dI)) (ci := 2) (v := .int (kI s1 1 0)) (C := R_X) (T := T_X) (N := 8) hx hb hts uw_X hown hK hP 0 rfl rfl 1 (by decide) (hts _ (List.mem_cons_of_mem _ wd_105)) (fun _ h9 => h9) rfl dX_lock_42 ?_
          refine lv_icmp_le (tgt := 50) hx hb dX_lock_45 (by decide) (fun c_45 => ?_) (fun c_45 => ?_)
          · rw [if_pos c_45] at hf
            refine lv_aload_n hx hb dX_lock_50 rfl (lv_at hl 0 rfl) ?_
            refine lv_iconst (v := 0) hx hb dX_lock_51 (by decide) ?_
            refine va_put (D := (dC, dI)) (ci := 1) (v := .int 0) (ty := .int) (C := R_T) (T := T_T) (N := 14) hx hb hts uw_T ty_T ty_T_ok nm_T hown hK hP (kx_D hj) hS (11 + t1) (kx_wT ht1) rfl 11 (by decide) (hts _ (List.mem_cons_of_mem _ wd_53)) (fun _ h9 => h9) rfl (by decide +kernel) rfl rfl (Nat.le_of_ble_eq_true rfl) dX_lock_52 (fun H locs hP _ hS => ?_)
            replace hP := kx_u_resultWhenOwning ht1 hP
            replace hw := kx_wf_I (f := 18) (i := t1) (v := 0) hw (by decide)
            refine lv_aload_n hx hb dX_lock_55 rfl (lv_at hl 1 rfl) ?_
            refine lv_aload_n hx hb dX_lock_56 rfl (lv_at hl 0 rfl) ?_
            refine lv_iload_n hx hb dX_lock_57 rfl (lv_at hl 2 rfl) ?_
            refine kk_cv (w := kx_w ad cs) (As := [.ref (kx_ta ad t1), .int m1]) (rest := []) ⟨hx, hb, hml, hown, hts⟩ (xc_take l dC dI ad cs hj (sI s1 18 t1 0) hw t1 m1 ht1 (kx_in (by decide) c_10)) (cwV 2 hts gv_X_97 rfl rfl rfl (by decide +kernel) ⟨Nat.le_of_ble_eq_true rfl, Nat.le_of_ble_eq_true rfl⟩) (va_recv hK hP (ci := 2) (q0 := 0) rfl rfl) hP hK hS (fun _ h9 => h9) rfl hl.1 rfl (Nat.le_of_ble_eq_true rfl) dX_lock_58 ⟨Nat.zero_le _, Nat.zero_le _⟩ (fun s3 H locs hq hP hS => ?_)
            obtain ⟨h3, hw⟩ := hq
            rw [kk_v_eq h3] at hf
            refine lv_aload_n hx hb dX_lock_61 rfl (lv_at hl 0 rfl) ?_
            refine va_get (D := (dC, dI)) (ci := 1) (v := .int (kI s3 10 t1)) (C := R_T) (T := T_T) (N := 14) hx hb hts uw_T hown hK hP (11 + t1) (kx_wT ht1) rfl 1 (by decide) (hts _ (List.mem_cons_of_mem _ wd_33)) (fun _ h9 => h9) rfl dX_lock_62 ?_
            refine lv_iconst (v := 1) hx hb dX_lock_65 (by decide) ?_
            refine lv_icmp_ne (tgt := 73) hx hb dX_lock_66 (by decide) (fun c_66 => ?_) (fun c_66 => ?_)
            · rw [if_neg c_66] at hf
              refine lv_iconst (v := 1) hx hb dX_lock_73 (by decide) ?_
              exact kk_iret hx hb hr hlocks hP hK hS ⟨hf.symm, hw⟩ dX_lock_74
            · rw [if_pos c_66] at hf
              refine lv_iconst (v := 0) hx hb dX_lock_69 (by decide) ?_
              refine lv_goto (tgt := 74) hx hb dX_lock_70 (by decide) ?_
              exact kk_iret hx hb hr hlocks hP hK hS ⟨hf.symm, hw⟩ dX_lock_74
          · rw [if_neg c_45] at hf
            refine lv_iconst (v := (-1)) hx hb dX_lock_48 (by decide) ?_
            exact kk_iret hx hb hr hlocks hP hK hS ⟨hf.symm, hw⟩ dX_lock_49
      · rw [if_pos c_27] at hf
        refine lv_iconst (v := (-1)) hx hb dX_lock_30 (by decide) ?_
        exact kk_iret hx hb hr hlocks hP hK hS ⟨hf.symm, hw⟩ dX_lock_31
