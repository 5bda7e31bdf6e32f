set_option maxHeartbeats 4000000 in
set_option maxRecDepth 100000 in
theorem mc_firstWaiter (l : Launch) (dC : Nat → ClassId) (dI : Nat → Nat → Nat) (ad : Nat → Nat) (cs : Nat → ClassId) (hj : km_inj ad) (μ : km_S) (hw : km_wf μ) (what : Int32) : Met l y_M_firstWaiter ws_M_firstWaiter ({ frames := 1, cells := 0, slots := 0, locals := 23 }) (kk_Pc (dC, dI) vwCl (km_t cs) (km_w ad cs μ) [.ref (ad 0), .int what]) (va_Qi (km_pr (mf_firstWaiter μ what)) (kk_B (dC, dI) vwCl (km_t cs) (km_w ad cs)) (km_A ad)) 0 0 (km_A ad) := by
  refine Met.ofW (cc := b_M_firstWaiter) (maxL := 4) (ret := (some .int)) (by decide) rfl ?_
  intro p e s m args below meth c s₁ B hml hv
  obtain ⟨rfl, hP, hK⟩ := hv
  have hx := B.exec
  have hb := B.bytes
  have hr := B.returns
  have hts := atoms_spec (ws := ws_M_firstWaiter) B.pre
  have hown : s.vm.findClass R_M = some m.cls := findClass_of_methodNamed B.named
  have hlocks := B.notSynchronized
  have hS : va_S (km_A ad) s.heap s.heap [] := va_S.rf
  generalize hf : mf_firstWaiter μ what = out
  have hl := lv_entry ([.ref (ad 0), .int what]) (n := 4) (Nat.le_of_ble_eq_true rfl)
  rw [lg_entry_eq]
  generalize (lg_sl ([.ref (ad 0), .int what]) ++ List.replicate (4 - (lg_sl ([.ref (ad 0), .int what])).length) Slot.unset).toArray = ls at hl ⊢
  have hl : lv_has ls 4 [(0, .ref (ad 0)), (1, .int what)] := hl
  rw [mf_firstWaiter] at hf
  have loop8 : ∀ (n k : Nat) (best : Int32) (μ : km_S) (H : Heap) (locs : List Loc) (ls : Array Slot), n + k = 8 → km_wf μ → (best < 0 ∨ vp_in best 8) → mf_firstWaiter_L8 what n k best μ = out → va_P (dC, dI) vwCl (km_w ad cs μ) H → va_S (km_A ad) s.heap H locs → lv_has ls 4 [(3, .int (nI k)), (2, .int best), (0, .ref (ad 0)), (1, .int what)] → W p l e (headSpec ws_M_firstWaiter ({ frames := 1, cells := 0, slots := 0, locals := 23 })).room s m ([.ref (ad 0), .int what] : List Value).toArray below meth c H locs 0 0 (MQ below (va_Qi (km_pr out) (kk_B (dC, dI) vwCl (km_t cs) (km_w ad cs)) (km_A ad)) ([.ref (ad 0), .int what] : List Value).toArray s 0 0 (km_A ad)) (F0 m 8 ls []) := by
    clear hf hl hP hS hw
    intro n
    induction n with
    | zero =>
      intro k best μ H locs ls hnk hw hb1 hf hP hS hl
      have hk : k = 8 := by omega
      rw [mf_firstWaiter_L8] at hf
      have hl : lv_has ls 4 [(3, .int (nI k)), (2, .int best), (0, .ref (ad 0)), (1, .int what)] := hl
      refine lv_iload_n hx hb dM_firstWaiter_8 rfl (lv_at hl 0 rfl) ?_
      refine lv_bipush (v := 8) hx hb dM_firstWaiter_9 (by decide) ?_
      refine lv_icmp_ge (tgt := 94) hx hb dM_firstWaiter_11 (by decide) (fun _ => ?_) (fun c9 => absurd (by rw [hk]; decide) c9)
      refine lv_iload_n hx hb dM_firstWaiter_94 rfl (lv_at hl 1 rfl) ?_
      exact kk_iret hx hb hr hlocks hP hK hS ⟨hf.symm, hw, hb1⟩ dM_firstWaiter_95
    | succ n ih =>
      intro k best μ H locs ls hnk hw hb1 hf hP hS hl
      have hk : k < 8 := by omega
      rw [mf_firstWaiter_L8] at hf
      have hl : lv_has ls 4 [(3, .int (nI k)), (2, .int best), (0, .ref (ad 0)), (1, .int what)] := hl
      refine lv_iload_n hx hb dM_firstWaiter_8 rfl (lv_at hl 0 rfl) ?_
      refine lv_bipush (v := 8) hx hb dM_firstWaiter_9 (by decide) ?_
      refine lv_icmp_ge (tgt := 94) hx hb dM_firstWaiter_11 (by decide) (fun c9 => absurd c9 (kk_stay hk (by decide))) (fun _ => ?_)
      refine lv_aload_n hx hb dM_firstWaiter_14 rfl (lv_at hl 2 rfl) ?_
      refine va_get (D := (dC, dI)) (ci := 3) (v := .ref (ad 1)) (C := R_M) (T := T_M) (N := 23) hx hb hts uw_M hown hK hP 0 rfl rfl 4 (by decide) (hts _ (List.mem_cons_of_mem _ wd_335)) (fun _ h9 => h9) rfl dM_firstWaiter_15 ?_
      refine lv_iload_n hx hb dM_firstWaiter_18 rfl (lv_at hl 0 rfl) ?_
      refine va_iald hx hb hK hP 1 0 rfl rfl (vp_in_nI (by omega) (by decide)) dM_firstWaiter_19 ?_
      rw [nI_clamp (n := k) (by omega)]
      refine lv_iconst (v := 2) hx hb dM_firstWaiter_20 (by decide) ?_
      refine lv_icmp_ne (tgt := 88) hx hb dM_firstWaiter_21 (by decide) (fun c_21 => ?_) (fun c_21 => ?_)
      · rw [if_neg c_21] at hf
        refine lv_iinc (v := nI (k + 1)) (lv' := [(3, .int (nI (k + 1))), (2, .int best), (0, .ref (ad 0)), (1, .int what)]) hx hb dM_firstWaiter_88 hl (k := 0) rfl (nI_1 _) (by decide) rfl (fun ls hl => ?_)
        refine lv_goto (tgt := 8) hx hb dM_firstWaiter_91 (by decide) ?_
        exact ih (k + 1) best _ _ _ ls (by omega) hw hb1 hf hP hS (lv_sub hl [0, 1, 2, 3] rfl)
      · rw [if_pos c_21] at hf
        refine lv_aload_n hx hb dM_firstWaiter_24 rfl (lv_at hl 2 rfl) ?_
        refine va_get (D := (dC, dI)) (ci := 3) (v := .ref (ad 5)) (C := R_M) (T := T_M) (N := 23) hx hb hts uw_M hown hK hP 0 rfl rfl 8 (by decide) (hts _ (List.mem_cons_of_mem _ wd_339)) (fun _ h9 => h9) rfl dM_firstWaiter_25 ?_
        refine lv_iload_n hx hb dM_firstWaiter_28 rfl (lv_at hl 0 rfl) ?_
        refine va_iald hx hb hK hP 5 4 rfl rfl (vp_in_nI (by omega) (by decide)) dM_firstWaiter_29 ?_
        rw [nI_clamp (n := k) (by omega)]
        refine lv_iload_n hx hb dM_firstWaiter_30 rfl (lv_at hl 3 rfl) ?_
        refine lv_icmp_eq (tgt := 37) hx hb dM_firstWaiter_31 (by decide) (fun c_31 => ?_) (fun c_31 => ?_)
        · rw [if_pos c_31] at hf
          refine lv_iload_n hx hb dM_firstWaiter_37 rfl (lv_at hl 1 rfl) ?_
          refine lv_if_lt (tgt := 86) hx hb dM_firstWaiter_38 (by decide) (fun c_38 => ?_) (fun c_38 => ?_)
          · rw [if_pos c_38] at hf
            refine lv_iload_n hx hb dM_firstWaiter_86 rfl (lv_at hl 0 rfl) ?_
            refine lv_istore_n (lv' := [(2, .int (nI k)), (3, .int (nI k)), (0, .ref (ad 0)), (1, .int what)]) hx hb dM_firstWaiter_87 rfl hl (by decide) rfl (fun ls hl => ?_)
            refine lv_iinc (v := nI (k + 1)) (lv' := [(3, .int (nI (k + 1))), (2, .int (nI k)), (0, .ref (ad 0)), (1, .int what)]) hx hb dM_firstWaiter_88 hl (k := 1) rfl (nI_1 _) (by decide) rfl (fun ls hl => ?_)
            refine lv_goto (tgt := 8) hx hb dM_firstWaiter_91 (by decide) ?_
            exact ih (k + 1) (nI k) _ _ _ ls (by omega) hw (Or.inr (vp_in_nI hk (by decide))) hf hP hS (lv_sub hl [0, 1, 2, 3] rfl)
          · rw [if_neg c_38] at hf
            refine lv_aload_n hx hb dM_firstWaiter_41 rfl (lv_at hl 2 rfl) ?_
            refine va_get (D := (dC, dI)) (ci := 3) (v := .ref (ad 19)) (C := R_M) (T := T_M) (N := 23) hx hb hts uw_M hown hK hP 0 rfl rfl 22 (by decide) (hts _ (List.mem_cons_of_mem _ wd_353)) (fun _ h9 => h9) rfl dM_firstWaiter_42 ?_
            refine lv_iload_n hx hb dM_firstWaiter_45 rfl (lv_at hl 0 rfl) ?_
            refine va_iald hx hb hK hP 19 18 rfl rfl (vp_in_nI (by omega) (by decide)) dM_firstWaiter_46 ?_
            rw [nI_clamp (n := k) (by omega)]
            refine lv_aload_n hx hb dM_firstWaiter_47 rfl (lv_at hl 2 rfl) ?_
            refine va_get (D := (dC, dI)) (ci := 3) (v := .ref (ad 19)) (C := R_M) (T := T_M) (N := 23) hx hb hts uw_M hown hK hP 0 rfl rfl 22 (by decide) (hts _ (List.mem_cons_of_mem _ wd_353)) (fun _ h9 => h9) rfl dM_firstWaiter_48 ?_
            refine lv_iload_n hx hb dM_firstWaiter_51 rfl (lv_at hl 1 rfl) ?_
            refine va_iald hx hb hK hP 19 18 rfl rfl (hb1.resolve_left c_38) dM_firstWaiter_52 ?_
            refine lv_icmp_gt (tgt := 86) hx hb dM_firstWaiter_53 (by decide) (fun c_53 => ?_) (fun c_53 => ?_)
            · rw [if_pos c_53] at hf
              refine lv_iload_n hx hb dM_firstWaiter_86 rfl (lv_at hl 0 rfl) ?_
              refine lv_istore_n (lv' := [(2, .int (nI k)), (3, .int (nI k)), (0, .ref (ad 0)), (1, .int what)]) hx hb dM_firstWaiter_87 rfl hl (by decide) rfl (fun ls hl => ?_)
              refine lv_iinc (v := nI (k + 1)) (lv' := [(3, .int (nI (k + 1))), (2, .int (nI k)), (0, .ref (ad 0)), (1, .int what)]) hx hb dM_firstWaiter_88 hl (k := 1) rfl (nI_1 _) (by decide) rfl (fun ls hl => ?_)
              refine lv_goto (tgt := 8) hx hb dM_firstWaiter_91 (by decide) ?_
              exact ih (k + 1) (nI k) _ _ _ ls (by omega) hw (Or.inr (vp_in_nI hk (by decide))) hf hP hS (lv_sub hl [0, 1, 2, 3] rfl)
            · rw [if_neg c_53] at hf
              refine lv_aload_n hx hb dM_firstWaiter_56 rfl (lv_at hl 2 rfl) ?_
              refine va_get (D := (dC, dI)) (ci := 3) (v := .ref (ad 19)) (C := R_M) (T := T_M) (N := 23) hx hb hts uw_M hown hK hP 0 rfl rfl 22 (by decide) (hts _ (List.mem_cons_of_mem _ wd_353)) (fun _ h9 => h9) rfl dM_firstWaiter_57 ?_
              refine lv_iload_n hx hb dM_firstWaiter_60 rfl (lv_at hl 0 rfl) ?_
              refine va_iald hx hb hK hP 19 18 rfl rfl (vp_in_nI (by omega) (by decide)) dM_firstWaiter_61 ?_
              rw [nI_clamp (n := k) (by omega)]
              refine lv_aload_n hx hb dM_firstWaiter_62 rfl (lv_at hl 2 rfl) ?_
              refine va_get (D := (dC, dI)) (ci := 3) (v := .ref (ad 19)) (C := R_M) (T := T_M) (N := 23) hx hb hts uw_M hown hK hP 0 rfl rfl 22 (by decide) (hts _ (List.mem_cons_of_mem _ wd_353)) (fun _ h9 => h9) rfl dM_firstWaiter_63 ?_
              refine lv_iload_n hx hb dM_firstWaiter_66 rfl (lv_at hl 1 rfl) ?_
              refine va_iald hx hb hK hP 19 18 rfl rfl (hb1.resolve_left c_38) dM_firstWaiter_67 ?_
              refine lv_icmp_ne (tgt := 88) hx hb dM_firstWaiter_68 (by decide) (fun c_68 => ?_) (fun c_68 => ?_)
              · rw [if_neg c_68] at hf
                refine lv_iinc (v := nI (k + 1)) (lv' := [(3, .int (nI (k + 1))), (2, .int best), (0, .ref (ad 0)), (1, .int what)]) hx hb dM_firstWaiter_88 hl (k := 0) rfl (nI_1 _) (by decide) rfl (fun ls hl => ?_)
                refine lv_goto (tgt := 8) hx hb dM_firstWaiter_91 (by decide) ?_
                exact ih (k + 1) best _ _ _ ls (by omega) hw hb1 hf hP hS (lv_sub hl [0, 1, 2, 3] rfl)
              · rw [if_pos c_68] at hf
                refine lv_aload_n hx hb dM_firstWaiter_71 rfl (lv_at hl 2 rfl) ?_
                refine va_get (D := (dC, dI)) (ci := 3) (v := .ref (ad 6)) (C := R_M) (T := T_M) (N := 23) hx hb hts uw_M hown hK hP 0 rfl rfl 9 (by decide) (hts _ (List.mem_cons_of_mem _ wd_340)) (fun _ h9 => h9) rfl dM_firstWaiter_72 ?_
                refine lv_iload_n hx hb dM_firstWaiter_75 rfl (lv_at hl 0 rfl) ?_
                refine va_iald hx hb hK hP 6 5 rfl rfl (vp_in_nI (by omega) (by decide)) dM_firstWaiter_76 ?_
                rw [nI_clamp (n := k) (by omega)]
                refine lv_aload_n hx hb dM_firstWaiter_77 rfl (lv_at hl 2 rfl) ?_
                refine va_get (D := (dC, dI)) (ci := 3) (v := .ref (ad 6)) (C := R_M) (T := T_M) (N := 23) hx hb hts uw_M hown hK hP 0 rfl rfl 9 (by decide) (hts _ (List.mem_cons_of_mem _ wd_340)) (fun _ h9 => h9) rfl dM_firstWaiter_78 ?_
                refine lv_iload_n hx hb dM_firstWaiter_81 rfl (lv_at hl 1 rfl) ?_
                refine va_iald hx hb hK hP 6 5 rfl rfl (hb1.resolve_left c_38) dM_firstWaiter_82 ?_
                refine lv_icmp_ge (tgt := 88) hx hb dM_firstWaiter_83 (by decide) (fun c_83 => ?_) (fun c_83 => ?_)
                · rw [if_pos c_83] at hf
                  refine lv_iinc (v := nI (k + 1)) (lv' := [(3, .int (nI (k + 1))), (2, .int best), (0, .ref (ad 0)), (1, .int what)]) hx hb dM_firstWaiter_88 hl (k := 0) rfl (nI_1 _) (by decide) rfl (fun ls hl => ?_)
                  refine lv_goto (tgt := 8) hx hb dM_firstWaiter_91 (by decide) ?_
                  exact ih (k + 1) best _ _ _ ls (by omega) hw hb1 hf hP hS (lv_sub hl [0, 1, 2, 3] rfl)
                · rw [if_neg c_83] at hf
                  refine lv_iload_n hx hb dM_firstWaiter_86 rfl (lv_at hl 0 rfl) ?_
                  refine lv_istore_n (lv' := [(2, .int (nI k)), (3, .int (nI k)), (0, .ref (ad 0)), (1, .int what)]) hx hb dM_firstWaiter_87 rfl hl (by decide) rfl (fun ls hl => ?_)
                  refine lv_iinc (v := nI (k + 1)) (lv' := [(3, .int (nI (k + 1))), (2, .int (nI k)), (0, .ref (ad 0)), (1, .int what)]) hx hb dM_firstWaiter_88 hl (k := 1) rfl (nI_1 _) (by decide) rfl (fun ls hl => ?_)
                  refine lv_goto (tgt := 8) hx hb dM_firstWaiter_91 (by decide) ?_
                  exact ih (k + 1) (nI k) _ _ _ ls (by omega) hw (Or.inr (vp_in_nI hk (by decide))) hf hP hS (lv_sub hl [0, 1, 2, 3] rfl)
        · rw [if_neg c_31] at hf
          refine lv_goto (tgt := 88) hx hb dM_firstWaiter_34 (by decide) ?_
          refine lv_iinc (v := nI (k + 1)) (lv' := [(3, .int (nI (k + 1))), (2, .int best), (0, .ref (ad 0)), (1, .int what)]) hx hb dM_firstWaiter_88 hl (k := 0) rfl (nI_1 _) (by decide) rfl (fun ls hl => ?_)
          refine lv_goto (tgt := 8) hx hb dM_firstWaiter_91 (by decide) ?_
          exact ih (k + 1) best _ _ _ ls (by omega) hw hb1 hf hP hS (lv_sub hl [0, 1, 2, 3] rfl)
  refine lv_iconst (v := (-1)) hx hb dM_firstWaiter_0 (by decide) ?_
  refine lv_istore_n (lv' := [(2, .int (-1)), (0, .ref (ad 0)), (1, .int what)]) hx hb dM_firstWaiter_1 rfl hl (by decide) rfl (fun ls hl => ?_)
  refine lv_aload_n hx hb dM_firstWaiter_2 rfl (lv_at hl 1 rfl) ?_
  refine kk_cv (w := km_w ad cs) (As := []) (rest := []) ⟨hx, hb, hml, hown, hts⟩ (mc_weigh l dC dI ad cs hj μ hw  ) (cwV 0 hts gv_M_85 rfl rfl rfl (by decide +kernel) ⟨Nat.le_of_ble_eq_true rfl, Nat.le_of_ble_eq_true rfl⟩) (va_recv hK hP (ci := 3) (q0 := 0) rfl rfl) hP hK hS (fun _ h9 => h9) rfl hl.1 rfl (Nat.le_of_ble_eq_true rfl) dM_firstWaiter_3 ⟨Nat.zero_le _, Nat.zero_le _⟩ (fun s1 H locs hq hP hS => ?_)
  obtain ⟨h1, hw⟩ := hq
  rw [kk_v_eq h1] at hf
  refine lv_iconst (v := 0) hx hb dM_firstWaiter_6 (by decide) ?_
  refine lv_istore_n (lv' := [(3, .int 0), (2, .int (-1)), (0, .ref (ad 0)), (1, .int what)]) hx hb dM_firstWaiter_7 rfl hl (by decide) rfl (fun ls hl => ?_)
  exact loop8 8 0 (-1) _ _ _ ls (by omega) hw (Or.inl (by decide)) hf hP hS (lv_sub hl [0, 1, 2, 3] rfl)
set_option maxHeartbeats 4000000 in
set_option maxRecDepth 100000 in
theorem mc_give (l : Launch) (dC : Nat → ClassId) (dI : Nat → Nat → Nat) (ad : Nat → Nat) (cs : Nat → ClassId) (hj : km_inj ad) (μ : km_S) (hw : km_wf μ) (m1 : Int32) (hm1 : vp_in m1 4) : Met l y_M_give ws_M_give ({ frames := 2, cells := 0, slots := 0, locals := 46 }) (kk_Pc (dC, dI) vwCl (km_t cs) (km_w ad cs μ) [.ref (ad 0), .int m1]) (va_Qv (km_pv (mf_give μ m1)) (kk_B (dC, dI) vwCl (km_t cs) (km_w ad cs)) (km_A ad)) 0 0 (km_A ad) := by
  refine Met.ofW (cc := b_M_give) (maxL := 3) (ret := none) (by decide) rfl ?_
  intro p e s m args below meth c s₁ B hml hv
  obtain ⟨rfl, hP, hK⟩ := hv
  have hx := B.exec
  have hb := B.bytes
  have hr := B.returns
  have hts := atoms_spec (ws := ws_M_give) B.pre
  have hown : s.vm.findClass R_M = some m.cls := findClass_of_methodNamed B.named
  have hlocks := B.notSynchronized
  have hS : va_S (km_A ad) s.heap s.heap [] := va_S.rf
  generalize hf : mf_give μ m1 = out
  have hl := lv_entry ([.ref (ad 0), .int m1]) (n := 3) (Nat.le_of_ble_eq_true rfl)
  rw [lg_entry_eq]
  generalize (lg_sl ([.ref (ad 0), .int m1]) ++ List.replicate (3 - (lg_sl ([.ref (ad 0), .int m1])).length) Slot.unset).toArray = ls at hl ⊢
  have hl : lv_has ls 3 [(0, .ref (ad 0)), (1, .int m1)] := hl
  rw [mf_give] at hf
  refine lv_aload_n hx hb dM_give_0 rfl (lv_at hl 0 rfl) ?_
  refine va_get (D := (dC, dI)) (ci := 3) (v := .ref (ad 14)) (C := R_M) (T := T_M) (N := 23) hx hb hts uw_M hown hK hP 0 rfl rfl 17 (by decide) (hts _ (List.mem_cons_of_mem _ wd_348)) (fun _ h9 => h9) rfl dM_give_1 ?_
  refine lv_iload_n hx hb dM_give_4 rfl (lv_at hl 1 rfl) ?_
  refine lv_iconst (v := (-1)) hx hb dM_give_5 (by decide) ?_
  refine va_iast hx hb hK hP (km_D hj) hS 14 13 rfl rfl hm1 dM_give_6 (fun H locs hP _ hS => ?_)
  replace hP := km_u_owns hP
  replace hw : km_wf (sM μ 17 m1.toNatClampNeg (-1)) := km_wf_o hw (Or.inl rfl)
  refine lv_aload_n hx hb dM_give_7 rfl (lv_at hl 0 rfl) ?_
  refine lv_bipush (v := 10) hx hb dM_give_8 (by decide) ?_
  refine lv_iload_n hx hb dM_give_10 rfl (lv_at hl 1 rfl) ?_
  refine lv_iadd hx hb dM_give_11 ?_
  refine kk_ci (w := km_w ad cs) (As := [.int (10 + m1)]) (rest := []) ⟨hx, hb, hml, hown, hts⟩ (mc_firstWaiter l dC dI ad cs hj (sM μ 17 m1.toNatClampNeg (-1)) hw (10 + m1) ) (cwV 1 hts gv_M_88 rfl rfl rfl (by decide +kernel) ⟨Nat.le_of_ble_eq_true rfl, Nat.le_of_ble_eq_true rfl⟩) (va_recv hK hP (ci := 3) (q0 := 0) rfl rfl) hP hK hS (fun _ h9 => h9) rfl hl.1 rfl (Nat.le_of_ble_eq_true rfl) dM_give_12 ⟨Nat.zero_le _, Nat.zero_le _⟩ (fun r1 s1 H locs hq hP hS => ?_)
  obtain ⟨h1, hw, hx1⟩ := hq
  rw [kk_b_eq h1] at hf
  refine lv_istore_n (lv' := [(2, .int r1), (0, .ref (ad 0)), (1, .int m1)]) hx hb dM_give_15 rfl hl (by decide) rfl (fun ls hl => ?_)
  refine lv_iload_n hx hb dM_give_16 rfl (lv_at hl 0 rfl) ?_
  refine lv_if_ge (tgt := 21) hx hb dM_give_17 (by decide) (fun c_17 => ?_) (fun c_17 => ?_)
  · rw [if_pos c_17] at hf
    refine lv_aload_n hx hb dM_give_21 rfl (lv_at hl 1 rfl) ?_
    refine va_get (D := (dC, dI)) (ci := 3) (v := .ref (ad 14)) (C := R_M) (T := T_M) (N := 23) hx hb hts uw_M hown hK hP 0 rfl rfl 17 (by decide) (hts _ (List.mem_cons_of_mem _ wd_348)) (fun _ h9 => h9) rfl dM_give_22 ?_
    refine lv_iload_n hx hb dM_give_25 rfl (lv_at hl 2 rfl) ?_
    refine lv_iload_n hx hb dM_give_26 rfl (lv_at hl 0 rfl) ?_
    refine va_iast hx hb hK hP (km_D hj) hS 14 13 rfl rfl hm1 dM_give_27 (fun H locs hP _ hS => ?_)
    replace hP := km_u_owns hP
    replace hw : km_wf (sM s1 17 m1.toNatClampNeg r1) := km_wf_o hw (kk_own (hx1.resolve_left (kk_ge c_17)))
    refine lv_aload_n hx hb dM_give_28 rfl (lv_at hl 1 rfl) ?_
    refine va_get (D := (dC, dI)) (ci := 3) (v := .ref (ad 13)) (C := R_M) (T := T_M) (N := 23) hx hb hts uw_M hown hK hP 0 rfl rfl 16 (by decide) (hts _ (List.mem_cons_of_mem _ wd_347)) (fun _ h9 => h9) rfl dM_give_29 ?_
    refine lv_iload_n hx hb dM_give_32 rfl (lv_at hl 0 rfl) ?_
    refine va_zald hx hb hK hP 13 12 rfl rfl (hx1.resolve_left (kk_ge c_17)) dM_give_33 ?_
    refine lv_if_ne (tgt := 44) hx hb dM_give_34 (by decide) (fun c_34 => ?_) (fun c_34 => ?_)
    · rw [if_neg c_34] at hf
      refine lv_aload_n hx hb dM_give_44 rfl (lv_at hl 1 rfl) ?_
      refine lv_iload_n hx hb dM_give_45 rfl (lv_at hl 0 rfl) ?_
      refine kk_cv (w := km_w ad cs) (As := [.int r1]) (rest := []) ⟨hx, hb, hml, hown, hts⟩ (mc_ready l dC dI ad cs hj (sM s1 17 m1.toNatClampNeg r1) hw r1 (hx1.resolve_left (kk_ge c_17))) (cwV 1 hts gv_M_92 rfl rfl rfl (by decide +kernel) ⟨Nat.le_of_ble_eq_true rfl, Nat.le_of_ble_eq_true rfl⟩) (va_recv hK hP (ci := 3) (q0 := 0) rfl rfl) hP hK hS (fun _ h9 => h9) rfl hl.1 rfl (Nat.le_of_ble_eq_true rfl) dM_give_46 ⟨Nat.zero_le _, Nat.zero_le _⟩ (fun s2 H locs hq hP hS => ?_)
      obtain ⟨h2, hw⟩ := hq
      rw [kk_v_eq h2] at hf
      exact kk_vret hx hb hr hlocks hP hK hS ⟨hf.symm, hw⟩ dM_give_49
    · rw [if_pos c_34] at hf
      refine lv_aload_n hx hb dM_give_37 rfl (lv_at hl 1 rfl) ?_
      refine va_get (D := (dC, dI)) (ci := 3) (v := .ref (ad 8)) (C := R_M) (T := T_M) (N := 23) hx hb hts uw_M hown hK hP 0 rfl rfl 11 (by decide) (hts _ (List.mem_cons_of_mem _ wd_342)) (fun _ h9 => h9) rfl dM_give_38 ?_
      refine lv_iload_n hx hb dM_give_41 rfl (lv_at hl 0 rfl) ?_
      refine lv_iconst (v := 0) hx hb dM_give_42 (by decide) ?_
      refine va_iast hx hb hK hP (km_D hj) hS 8 7 rfl rfl (hx1.resolve_left (kk_ge c_17)) dM_give_43 (fun H locs hP _ hS => ?_)
      replace hP := km_u_result hP
      replace hw := km_wf_I (f := 11) (i := r1.toNatClampNeg) (v := 0) hw (by decide)
      refine lv_aload_n hx hb dM_give_44 rfl (lv_at hl 1 rfl) ?_
      refine lv_iload_n hx hb dM_give_45 rfl (lv_at hl 0 rfl) ?_
      refine kk_cv (w := km_w ad cs) (As := [.int r1]) (rest := []) ⟨hx, hb, hml, hown, hts⟩ (mc_ready l dC dI ad cs hj (sM (sM s1 17 m1.toNatClampNeg r1) 11 r1.toNatClampNeg 0) hw r1 (hx1.resolve_left (kk_ge c_17))) (cwV 1 hts gv_M_92 rfl rfl rfl (by decide +kernel) ⟨Nat.le_of_ble_eq_true rfl, Nat.le_of_ble_eq_true rfl⟩) (va_recv hK hP (ci := 3) (q0 := 0) rfl rfl) hP hK hS (fun _ h9 => h9) rfl hl.1 rfl (Nat.le_of_ble_eq_true rfl) dM_give_46 ⟨Nat.zero_le _, Nat.zero_le _⟩ (fun s3 H locs hq hP hS => ?_)
      obtain ⟨h3, hw⟩ := hq
      rw [kk_v_eq h3] at hf
      exact kk_vret hx hb hr hlocks hP hK hS ⟨hf.symm, hw⟩ dM_give_49
  · rw [if_neg c_17] at hf
    exact kk_vret hx hb hr hlocks hP hK hS ⟨hf.symm, hw⟩ dM_give_20
set_option maxHeartbeats 4000000 in
set_option maxRecDepth 100000 in
theorem mc_retake (l : Launch) (dC : Nat → ClassId) (dI : Nat → Nat → Nat) (ad : Nat → Nat) (cs : Nat → ClassId) (hj : km_inj ad) (μ : km_S) (hw : km_wf μ) (t : Int32) (r : Int32) (ht : vp_in t 8) : Met l y_M_retake ws_M_retake ({ frames := 2, cells := 0, slots := 0, locals := 43 }) (kk_Pc (dC, dI) vwCl (km_t cs) (km_w ad cs μ) [.ref (ad 0), .int t, .int r]) (va_Qv (km_pv (mf_retake μ t r)) (kk_B (dC, dI) vwCl (km_t cs) (km_w ad cs)) (km_A ad)) 0 0 (km_A ad) := by
  refine Met.ofW (cc := b_M_retake) (maxL := 4) (ret := none) (by decide) rfl ?_
  intro p e s m args below meth c s₁ B hml hv
  obtain ⟨rfl, hP, hK⟩ := hv
  have hx := B.exec
  have hb := B.bytes
  have hr := B.returns
  have hts := atoms_spec (ws := ws_M_retake) B.pre
  have hown : s.vm.findClass R_M = some m.cls := findClass_of_methodNamed B.named
  have hlocks := B.notSynchronized
  have hS : va_S (km_A ad) s.heap s.heap [] := va_S.rf
  generalize hf : mf_retake μ t r = out
  have hl := lv_entry ([.ref (ad 0), .int t, .int r]) (n := 4) (Nat.le_of_ble_eq_true rfl)
  rw [lg_entry_eq]
  generalize (lg_sl ([.ref (ad 0), .int t, .int r]) ++ List.replicate (4 - (lg_sl ([.ref (ad 0), .int t, .int r])).length) Slot.unset).toArray = ls at hl ⊢
  have hl : lv_has ls 4 [(0, .ref (ad 0)), (1, .int t), (2, .int r)] := hl
  rw [mf_retake] at hf
  refine lv_aload_n hx hb dM_retake_0 rfl (lv_at hl 0 rfl) ?_
  refine va_get (D := (dC, dI)) (ci := 3) (v := .ref (ad 9)) (C := R_M) (T := T_M) (N := 23) hx hb hts uw_M hown hK hP 0 rfl rfl 12 (by decide) (hts _ (List.mem_cons_of_mem _ wd_343)) (fun _ h9 => h9) rfl dM_retake_1 ?_
  refine lv_iload_n hx hb dM_retake_4 rfl (lv_at hl 1 rfl) ?_
  refine va_iald hx hb hK hP 9 8 rfl rfl ht dM_retake_5 ?_
  have hmi : vp_in (mI μ 12 t.toNatClampNeg) 4 := hw.2.1 _ (kx_lt ht)
  refine lv_istore_n (lv' := [(3, .int (mI μ 12 t.toNatClampNeg)), (0, .ref (ad 0)), (1, .int t), (2, .int r)]) hx hb dM_retake_6 rfl hl (by decide) rfl (fun ls hl => ?_)
  refine lv_aload_n hx hb dM_retake_7 rfl (lv_at hl 1 rfl) ?_
  refine va_get (D := (dC, dI)) (ci := 3) (v := .ref (ad 8)) (C := R_M) (T := T_M) (N := 23) hx hb hts uw_M hown hK hP 0 rfl rfl 11 (by decide) (hts _ (List.mem_cons_of_mem _ wd_342)) (fun _ h9 => h9) rfl dM_retake_8 ?_
  refine lv_iload_n hx hb dM_retake_11 rfl (lv_at hl 2 rfl) ?_
  refine lv_iload_n hx hb dM_retake_12 rfl (lv_at hl 3 rfl) ?_
  refine va_iast hx hb hK hP (km_D hj) hS 8 7 rfl rfl ht dM_retake_13 (fun H locs hP _ hS => ?_)
  replace hP := km_u_result hP
  replace hw := km_wf_I (f := 11) (i := t.toNatClampNeg) (v := r) hw (by decide)
  refine lv_aload_n hx hb dM_retake_14 rfl (lv_at hl 1 rfl) ?_
  refine va_get (D := (dC, dI)) (ci := 3) (v := .ref (ad 14)) (C := R_M) (T := T_M) (N := 23) hx hb hts uw_M hown hK hP 0 rfl rfl 17 (by decide) (hts _ (List.mem_cons_of_mem _ wd_348)) (fun _ h9 => h9) rfl dM_retake_15 ?_
  refine lv_iload_n hx hb dM_retake_18 rfl (lv_at hl 0 rfl) ?_
  refine va_iald hx hb hK hP 14 13 rfl rfl hmi dM_retake_19 ?_
  refine lv_if_ge (tgt := 36) hx hb dM_retake_20 (by decide) (fun c_20 => ?_) (fun c_20 => ?_)
  · rw [if_pos c_20] at hf
    refine lv_aload_n hx hb dM_retake_36 rfl (lv_at hl 1 rfl) ?_
    refine lv_iload_n hx hb dM_retake_37 rfl (lv_at hl 2 rfl) ?_
    refine lv_bipush (v := 10) hx hb dM_retake_38 (by decide) ?_
    refine lv_iload_n hx hb dM_retake_40 rfl (lv_at hl 0 rfl) ?_
    refine lv_iadd hx hb dM_retake_41 ?_
    refine lv_iconst (v := 0) hx hb dM_retake_42 (by decide) ?_
    refine kk_cv (w := km_w ad cs) (As := [.int t, .int (10 + (mI μ 12 t.toNatClampNeg)), .int 0]) (rest := []) ⟨hx, hb, hml, hown, hts⟩ (mc_block l dC dI ad cs hj (sM μ 11 t.toNatClampNeg r) hw t (10 + (mI μ 12 t.toNatClampNeg)) 0 ht) (cwV 3 hts gv_M_96 rfl rfl rfl (by decide +kernel) ⟨Nat.le_of_ble_eq_true rfl, Nat.le_of_ble_eq_true rfl⟩) (va_recv hK hP (ci := 3) (q0 := 0) rfl rfl) hP hK hS (fun _ h9 => h9) rfl hl.1 rfl (Nat.le_of_ble_eq_true rfl) dM_retake_43 ⟨Nat.zero_le _, Nat.zero_le _⟩ (fun s1 H locs hq hP hS => ?_)
    obtain ⟨h1, hw⟩ := hq
    rw [kk_v_eq h1] at hf
    refine lv_aload_n hx hb dM_retake_46 rfl (lv_at hl 1 rfl) ?_
    refine va_get (D := (dC, dI)) (ci := 3) (v := .ref (ad 13)) (C := R_M) (T := T_M) (N := 23) hx hb hts uw_M hown hK hP 0 rfl rfl 16 (by decide) (hts _ (List.mem_cons_of_mem _ wd_347)) (fun _ h9 => h9) rfl dM_retake_47 ?_
    refine lv_iload_n hx hb dM_retake_50 rfl (lv_at hl 2 rfl) ?_
    refine lv_iconst (v := 1) hx hb dM_retake_51 (by decide) ?_
    refine va_zast hx hb hK hP (km_D hj) hS 13 12 rfl rfl ht dM_retake_52 (fun H locs hP _ hS => ?_)
    replace hP := km_u_retakes hP
    replace hw := km_wf_I (f := 16) (i := t.toNatClampNeg) (v := vp_nar .boolean 1) hw (by decide)
    exact kk_vret hx hb hr hlocks hP hK hS ⟨hf.symm, hw⟩ dM_retake_53
  · rw [if_neg c_20] at hf
    refine lv_aload_n hx hb dM_retake_23 rfl (lv_at hl 1 rfl) ?_
    refine va_get (D := (dC, dI)) (ci := 3) (v := .ref (ad 14)) (C := R_M) (T := T_M) (N := 23) hx hb hts uw_M hown hK hP 0 rfl rfl 17 (by decide) (hts _ (List.mem_cons_of_mem _ wd_348)) (fun _ h9 => h9) rfl dM_retake_24 ?_
    refine lv_iload_n hx hb dM_retake_27 rfl (lv_at hl 0 rfl) ?_
    refine lv_iload_n hx hb dM_retake_28 rfl (lv_at hl 2 rfl) ?_
    refine va_iast hx hb hK hP (km_D hj) hS 14 13 rfl rfl hmi dM_retake_29 (fun H locs hP _ hS => ?_)
    replace hP := km_u_owns hP
    replace hw : km_wf (sM (sM μ 11 t.toNatClampNeg r) 17 (mI μ 12 t.toNatClampNeg).toNatClampNeg t) := km_wf_o hw (kk_own ht)
    refine lv_aload_n hx hb dM_retake_30 rfl (lv_at hl 1 rfl) ?_
    refine lv_iload_n hx hb dM_retake_31 rfl (lv_at hl 2 rfl) ?_
    refine kk_cv (w := km_w ad cs) (As := [.int t]) (rest := []) ⟨hx, hb, hml, hown, hts⟩ (mc_ready l dC dI ad cs hj (sM (sM μ 11 t.toNatClampNeg r) 17 (mI μ 12 t.toNatClampNeg).toNatClampNeg t) hw t ht) (cwV 1 hts gv_M_92 rfl rfl rfl (by decide +kernel) ⟨Nat.le_of_ble_eq_true rfl, Nat.le_of_ble_eq_true rfl⟩) (va_recv hK hP (ci := 3) (q0 := 0) rfl rfl) hP hK hS (fun _ h9 => h9) rfl hl.1 rfl (Nat.le_of_ble_eq_true rfl) dM_retake_32 ⟨Nat.zero_le _, Nat.zero_le _⟩ (fun s2 H locs hq hP hS => ?_)
    obtain ⟨h2, hw⟩ := hq
    rw [kk_v_eq h2] at hf
    exact kk_vret hx hb hr hlocks hP hK hS ⟨hf.symm, hw⟩ dM_retake_35
set_option maxHeartbeats 4000000 in
set_option maxRecDepth 100000 in
theorem mc_spawn (l : Launch) (dC : Nat → ClassId) (dI : Nat → Nat → Nat) (ad : Nat → Nat) (cs : Nat → ClassId) (hj : km_inj ad) (μ : km_S) (hw : km_wf μ) (base : Int32) (sliced : Int32) : Met l y_M_spawn ws_M_spawn ({ frames := 2, cells := 0, slots := 0, locals := 41 }) (kk_Pc (dC, dI) vwCl (km_t cs) (km_w ad cs μ) [.ref (ad 0), .int base, .int sliced]) (va_Qi (km_pi (mf_spawn μ base sliced)) (kk_B (dC, dI) vwCl (km_t cs) (km_w ad cs)) (km_A ad)) 0 0 (km_A ad) := by
  refine Met.ofW (cc := b_M_spawn) (maxL := 4) (ret := (some .int)) (by decide) rfl ?_
  intro p e s m args below meth c s₁ B hml hv
  obtain ⟨rfl, hP, hK⟩ := hv
  have hx := B.exec
  have hb := B.bytes
  have hr := B.returns
  have hts := atoms_spec (ws := ws_M_spawn) B.pre
  have hown : s.vm.findClass R_M = some m.cls := findClass_of_methodNamed B.named
  have hlocks := B.notSynchronized
  have hS : va_S (km_A ad) s.heap s.heap [] := va_S.rf
  generalize hf : mf_spawn μ base sliced = out
  have hl := lv_entry ([.ref (ad 0), .int base, .int sliced]) (n := 4) (Nat.le_of_ble_eq_true rfl)
  rw [lg_entry_eq]
  generalize (lg_sl ([.ref (ad 0), .int base, .int sliced]) ++ List.replicate (4 - (lg_sl ([.ref (ad 0), .int base, .int sliced])).length) Slot.unset).toArray = ls at hl ⊢
  have hl : lv_has ls 4 [(0, .ref (ad 0)), (1, .int base), (2, .int sliced)] := hl
  rw [mf_spawn] at hf
  have loop15 : ∀ (n k : Nat) (μ : km_S) (H : Heap) (locs : List Loc) (ls : Array Slot), n + k = 8 → km_wf μ → mf_spawn_L15 base sliced n k  μ = out → va_P (dC, dI) vwCl (km_w ad cs μ) H → va_S (km_A ad) s.heap H locs → lv_has ls 4 [(3, .int (nI k)), (0, .ref (ad 0)), (1, .int base), (2, .int sliced)] → W p l e (headSpec ws_M_spawn ({ frames := 2, cells := 0, slots := 0, locals := 41 })).room s m ([.ref (ad 0), .int base, .int sliced] : List Value).toArray below meth c H locs 0 0 (MQ below (va_Qi (km_pi out) (kk_B (dC, dI) vwCl (km_t cs) (km_w ad cs)) (km_A ad)) ([.ref (ad 0), .int base, .int sliced] : List Value).toArray s 0 0 (km_A ad)) (F0 m 15 ls []) := by
    clear hf hl hP hS hw
    intro n
    induction n with
    | zero =>
      intro k μ H locs ls hnk hw hf hP hS hl
      have hk : k = 8 := by omega
      rw [mf_spawn_L15] at hf
      have hl : lv_has ls 4 [(3, .int (nI k)), (0, .ref (ad 0)), (1, .int base), (2, .int sliced)] := hl
      refine lv_iload_n hx hb dM_spawn_15 rfl (lv_at hl 0 rfl) ?_
      refine lv_bipush (v := 8) hx hb dM_spawn_16 (by decide) ?_
      refine lv_icmp_ge (tgt := 36) hx hb dM_spawn_18 (by decide) (fun _ => ?_) (fun c9 => absurd (by rw [hk]; decide) c9)
      refine lv_iload_n hx hb dM_spawn_36 rfl (lv_at hl 0 rfl) ?_
      refine lv_bipush (v := 8) hx hb dM_spawn_37 (by decide) ?_
      refine lv_icmp_ne (tgt := 44) hx hb dM_spawn_39 (by decide) (fun c9 => absurd (by rw [hk]; decide) c9) (fun _ => ?_)
      refine lv_iconst (v := (-1)) hx hb dM_spawn_42 (by decide) ?_
      exact kk_iret hx hb hr hlocks hP hK hS ⟨hf.symm, hw⟩ dM_spawn_43
    | succ n ih =>
      intro k μ H locs ls hnk hw hf hP hS hl
      have hk : k < 8 := by omega
      rw [mf_spawn_L15] at hf
      have hl : lv_has ls 4 [(3, .int (nI k)), (0, .ref (ad 0)), (1, .int base), (2, .int sliced)] := hl
      refine lv_iload_n hx hb dM_spawn_15 rfl (lv_at hl 0 rfl) ?_
      refine lv_bipush (v := 8) hx hb dM_spawn_16 (by decide) ?_
      refine lv_icmp_ge (tgt := 36) hx hb dM_spawn_18 (by decide) (fun c9 => absurd c9 (kk_stay hk (by decide))) (fun _ => ?_)
      refine lv_aload_n hx hb dM_spawn_21 rfl (lv_at hl 1 rfl) ?_
      refine va_get (D := (dC, dI)) (ci := 3) (v := .ref (ad 1)) (C := R_M) (T := T_M) (N := 23) hx hb hts uw_M hown hK hP 0 rfl rfl 4 (by decide) (hts _ (List.mem_cons_of_mem _ wd_335)) (fun _ h9 => h9) rfl dM_spawn_22 ?_
      refine lv_iload_n hx hb dM_spawn_25 rfl (lv_at hl 0 rfl) ?_
      refine va_iald hx hb hK hP 1 0 rfl rfl (vp_in_nI (by omega) (by decide)) dM_spawn_26 ?_
      rw [nI_clamp (n := k) (by omega)]
      refine lv_if_eq (tgt := 36) hx hb dM_spawn_27 (by decide) (fun c_27 => ?_) (fun c_27 => ?_)
      · rw [if_pos c_27] at hf
        refine lv_iload_n hx hb dM_spawn_36 rfl (lv_at hl 0 rfl) ?_
        refine lv_bipush (v := 8) hx hb dM_spawn_37 (by decide) ?_
        refine lv_icmp_ne (tgt := 44) hx hb dM_spawn_39 (by decide) (fun _ => ?_) (fun c9 => absurd c9 (kk_ne8 hk))
        refine lv_aload_n hx hb dM_spawn_44 rfl (lv_at hl 1 rfl) ?_
        refine va_get (D := (dC, dI)) (ci := 3) (v := .ref (ad 2)) (C := R_M) (T := T_M) (N := 23) hx hb hts uw_M hown hK hP 0 rfl rfl 5 (by decide) (hts _ (List.mem_cons_of_mem _ wd_336)) (fun _ h9 => h9) rfl dM_spawn_45 ?_
        refine lv_iload_n hx hb dM_spawn_48 rfl (lv_at hl 0 rfl) ?_
        refine lv_iload_n hx hb dM_spawn_49 rfl (lv_at hl 2 rfl) ?_
        refine va_iast hx hb hK hP (km_D hj) hS 2 1 rfl rfl (vp_in_nI (by omega) (by decide)) dM_spawn_50 (fun H locs hP _ hS => ?_)
        rw [nI_clamp (n := k) (by omega)] at hP
        replace hP := km_u_base hP
        replace hw := km_wf_I (f := 5) (i := k) (v := base) hw (by decide)
        refine lv_aload_n hx hb dM_spawn_51 rfl (lv_at hl 1 rfl) ?_
        refine va_get (D := (dC, dI)) (ci := 3) (v := .ref (ad 12)) (C := R_M) (T := T_M) (N := 23) hx hb hts uw_M hown hK hP 0 rfl rfl 15 (by decide) (hts _ (List.mem_cons_of_mem _ wd_346)) (fun _ h9 => h9) rfl dM_spawn_52 ?_
        refine lv_iload_n hx hb dM_spawn_55 rfl (lv_at hl 0 rfl) ?_
        refine lv_iload_n hx hb dM_spawn_56 rfl (lv_at hl 3 rfl) ?_
        refine va_zast hx hb hK hP (km_D hj) hS 12 11 rfl rfl (vp_in_nI (by omega) (by decide)) dM_spawn_57 (fun H locs hP _ hS => ?_)
        rw [nI_clamp (n := k) (by omega)] at hP
        replace hP := km_u_sliced hP
        replace hw := km_wf_I (f := 15) (i := k) (v := vp_nar .boolean sliced) hw (by decide)
        refine lv_aload_n hx hb dM_spawn_58 rfl (lv_at hl 1 rfl) ?_
        refine va_get (D := (dC, dI)) (ci := 3) (v := .ref (ad 8)) (C := R_M) (T := T_M) (N := 23) hx hb hts uw_M hown hK hP 0 rfl rfl 11 (by decide) (hts _ (List.mem_cons_of_mem _ wd_342)) (fun _ h9 => h9) rfl dM_spawn_59 ?_
        refine lv_iload_n hx hb dM_spawn_62 rfl (lv_at hl 0 rfl) ?_
        refine lv_iconst (v := 0) hx hb dM_spawn_63 (by decide) ?_
        refine va_iast hx hb hK hP (km_D hj) hS 8 7 rfl rfl (vp_in_nI (by omega) (by decide)) dM_spawn_64 (fun H locs hP _ hS => ?_)
        rw [nI_clamp (n := k) (by omega)] at hP
        replace hP := km_u_result hP
        replace hw := km_wf_I (f := 11) (i := k) (v := 0) hw (by decide)
        refine lv_aload_n hx hb dM_spawn_65 rfl (lv_at hl 1 rfl) ?_
        refine lv_iload_n hx hb dM_spawn_66 rfl (lv_at hl 0 rfl) ?_
        refine kk_cv (w := km_w ad cs) (As := [.int (nI k)]) (rest := []) ⟨hx, hb, hml, hown, hts⟩ (mc_ready l dC dI ad cs hj (sM (sM (sM μ 5 k base) 15 k (vp_nar .boolean sliced)) 11 k 0) hw (nI k) (vp_in_nI (by omega) (by decide))) (cwV 1 hts gv_M_92 rfl rfl rfl (by decide +kernel) ⟨Nat.le_of_ble_eq_true rfl, Nat.le_of_ble_eq_true rfl⟩) (va_recv hK hP (ci := 3) (q0 := 0) rfl rfl) hP hK hS (fun _ h9 => h9) rfl hl.1 rfl (Nat.le_of_ble_eq_true rfl) dM_spawn_67 ⟨Nat.zero_le _, Nat.zero_le _⟩ (fun s1 H locs hq hP hS => ?_)
        obtain ⟨h1, hw⟩ := hq
        rw [kk_v_eq h1] at hf
        refine lv_iload_n hx hb dM_spawn_70 rfl (lv_at hl 0 rfl) ?_
        exact kk_iret hx hb hr hlocks hP hK hS ⟨hf.symm, hw⟩ dM_spawn_71
      · rw [if_neg c_27] at hf
        refine lv_iinc (v := nI (k + 1)) (lv' := [(3, .int (nI (k + 1))), (0, .ref (ad 0)), (1, .int base), (2, .int sliced)]) hx hb dM_spawn_30 hl (k := 0) rfl (nI_1 _) (by decide) rfl (fun ls hl => ?_)
        refine lv_goto (tgt := 15) hx hb dM_spawn_33 (by decide) ?_
        exact ih (k + 1)  _ _ _ ls (by omega) hw  hf hP hS (lv_sub hl [0, 1, 2, 3] rfl)
  refine lv_iload_n hx hb dM_spawn_0 rfl (lv_at hl 1 rfl) ?_
  refine lv_iconst (v := 1) hx hb dM_spawn_1 (by decide) ?_
  refine lv_icmp_lt (tgt := 11) hx hb dM_spawn_2 (by decide) (fun c_2 => ?_) (fun c_2 => ?_)
  · rw [if_pos c_2] at hf
    refine lv_iconst (v := (-1)) hx hb dM_spawn_11 (by decide) ?_
    exact kk_iret hx hb hr hlocks hP hK hS ⟨hf.symm, hw⟩ dM_spawn_12
  · rw [if_neg c_2] at hf
    refine lv_iload_n hx hb dM_spawn_5 rfl (lv_at hl 1 rfl) ?_
    refine lv_bipush (v := 31) hx hb dM_spawn_6 (by decide) ?_
    refine lv_icmp_le (tgt := 13) hx hb dM_spawn_8 (by decide) (fun c_8 => ?_) (fun c_8 => ?_)
    · rw [if_pos c_8] at hf
      refine lv_iconst (v := 0) hx hb dM_spawn_13 (by decide) ?_
      refine lv_istore_n (lv' := [(3, .int 0), (0, .ref (ad 0)), (1, .int base), (2, .int sliced)]) hx hb dM_spawn_14 rfl hl (by decide) rfl (fun ls hl => ?_)
      exact loop15 8 0  _ _ _ ls (by omega) hw  hf hP hS (lv_sub hl [0, 1, 2, 3] rfl)
    · rw [if_neg c_8] at hf
      refine lv_iconst (v := (-1)) hx hb dM_spawn_11 (by decide) ?_
      exact kk_iret hx hb hr hlocks hP hK hS ⟨hf.symm, hw⟩ dM_spawn_12
set_option maxHeartbeats 4000000 in
set_option maxRecDepth 100000 in
theorem mc_priority (l : Launch) (dC : Nat → ClassId) (dI : Nat → Nat → Nat) (ad : Nat → Nat) (cs : Nat → ClassId) (hj : km_inj ad) (μ : km_S) (hw : km_wf μ) (thread : Int32) (base : Int32) : Met l y_M_priority ws_M_priority ({ frames := 1, cells := 0, slots := 0, locals := 22 }) (kk_Pc (dC, dI) vwCl (km_t cs) (km_w ad cs μ) [.ref (ad 0), .int thread, .int base]) (va_Qi (km_pi (mf_priority μ thread base)) (kk_B (dC, dI) vwCl (km_t cs) (km_w ad cs)) (km_A ad)) 0 0 (km_A ad) := by
  refine Met.ofW (cc := b_M_priority) (maxL := 3) (ret := (some .int)) (by decide) rfl ?_
  intro p e s m args below meth c s₁ B hml hv
  obtain ⟨rfl, hP, hK⟩ := hv
  have hx := B.exec
  have hb := B.bytes
  have hr := B.returns
  have hts := atoms_spec (ws := ws_M_priority) B.pre
  have hown : s.vm.findClass R_M = some m.cls := findClass_of_methodNamed B.named
  have hlocks := B.notSynchronized
  have hS : va_S (km_A ad) s.heap s.heap [] := va_S.rf
  generalize hf : mf_priority μ thread base = out
  have hl := lv_entry ([.ref (ad 0), .int thread, .int base]) (n := 3) (Nat.le_of_ble_eq_true rfl)
  rw [lg_entry_eq]
  generalize (lg_sl ([.ref (ad 0), .int thread, .int base]) ++ List.replicate (3 - (lg_sl ([.ref (ad 0), .int thread, .int base])).length) Slot.unset).toArray = ls at hl ⊢
  have hl : lv_has ls 3 [(0, .ref (ad 0)), (1, .int thread), (2, .int base)] := hl
  rw [mf_priority] at hf
  refine lv_aload_n hx hb dM_priority_0 rfl (lv_at hl 0 rfl) ?_
  refine lv_iload_n hx hb dM_priority_1 rfl (lv_at hl 1 rfl) ?_
  refine lv_bipush (v := 8) hx hb dM_priority_2 (by decide) ?_
  refine kk_cp (r0 := mf_out thread 8) (w := km_w ad cs) (As := [.int thread, .int 8]) (rest := []) ⟨hx, hb, hml, hown, hts⟩ (mc_out l (ad 0) thread 8) (cwV 2 hts gv_M_100 rfl rfl rfl (by decide +kernel) ⟨Nat.le_of_ble_eq_true rfl, Nat.le_of_ble_eq_true rfl⟩) (va_recv hK hP (ci := 3) (q0 := 0) rfl rfl) hP hS rfl hl.1 rfl (Nat.le_of_ble_eq_true rfl) dM_priority_4 ⟨Nat.zero_le _, Nat.zero_le _⟩ (fun H locs hP hS => ?_)
  refine lv_if_ne (tgt := 40) hx hb dM_priority_7 (by decide) (fun c_7 => ?_) (fun c_7 => ?_)
  · rw [if_neg c_7] at hf
    refine lv_iconst (v := (-1)) hx hb dM_priority_40 (by decide) ?_
    exact kk_iret hx hb hr hlocks hP hK hS ⟨hf.symm, hw⟩ dM_priority_41
  · rw [if_pos c_7] at hf
    refine lv_iload_n hx hb dM_priority_10 rfl (lv_at hl 2 rfl) ?_
    refine lv_iconst (v := 1) hx hb dM_priority_11 (by decide) ?_
    refine lv_icmp_lt (tgt := 40) hx hb dM_priority_12 (by decide) (fun c_12 => ?_) (fun c_12 => ?_)
    · rw [if_pos c_12] at hf
      refine lv_iconst (v := (-1)) hx hb dM_priority_40 (by decide) ?_
      exact kk_iret hx hb hr hlocks hP hK hS ⟨hf.symm, hw⟩ dM_priority_41
    · rw [if_neg c_12] at hf
      refine lv_iload_n hx hb dM_priority_15 rfl (lv_at hl 2 rfl) ?_
      refine lv_bipush (v := 31) hx hb dM_priority_16 (by decide) ?_
      refine lv_icmp_gt (tgt := 40) hx hb dM_priority_18 (by decide) (fun c_18 => ?_) (fun c_18 => ?_)
      · rw [if_pos c_18] at hf
        refine lv_iconst (v := (-1)) hx hb dM_priority_40 (by decide) ?_
        exact kk_iret hx hb hr hlocks hP hK hS ⟨hf.symm, hw⟩ dM_priority_41
      · rw [if_neg c_18] at hf
        refine lv_aload_n hx hb dM_priority_21 rfl (lv_at hl 0 rfl) ?_
        refine va_get (D := (dC, dI)) (ci := 3) (v := .ref (ad 1)) (C := R_M) (T := T_M) (N := 23) hx hb hts uw_M hown hK hP 0 rfl rfl 4 (by decide) (hts _ (List.mem_cons_of_mem _ wd_335)) (fun _ h9 => h9) rfl dM_priority_22 ?_
        refine lv_iload_n hx hb dM_priority_25 rfl (lv_at hl 1 rfl) ?_
        refine va_iald hx hb hK hP 1 0 rfl rfl (km_in (by decide) c_7) dM_priority_26 ?_
        refine lv_if_eq (tgt := 40) hx hb dM_priority_27 (by decide) (fun c_27 => ?_) (fun c_27 => ?_)
        · rw [if_pos c_27] at hf
          refine lv_iconst (v := (-1)) hx hb dM_priority_40 (by decide) ?_
          exact kk_iret hx hb hr hlocks hP hK hS ⟨hf.symm, hw⟩ dM_priority_41
        · rw [if_neg c_27] at hf
          refine lv_aload_n hx hb dM_priority_30 rfl (lv_at hl 0 rfl) ?_
          refine va_get (D := (dC, dI)) (ci := 3) (v := .ref (ad 1)) (C := R_M) (T := T_M) (N := 23) hx hb hts uw_M hown hK hP 0 rfl rfl 4 (by decide) (hts _ (List.mem_cons_of_mem _ wd_335)) (fun _ h9 => h9) rfl dM_priority_31 ?_
          refine lv_iload_n hx hb dM_priority_34 rfl (lv_at hl 1 rfl) ?_
          refine va_iald hx hb hK hP 1 0 rfl rfl (km_in (by decide) c_7) dM_priority_35 ?_
          refine lv_iconst (v := 3) hx hb dM_priority_36 (by decide) ?_
          refine lv_icmp_ne (tgt := 42) hx hb dM_priority_37 (by decide) (fun c_37 => ?_) (fun c_37 => ?_)
          · rw [if_neg c_37] at hf
            refine lv_aload_n hx hb dM_priority_42 rfl (lv_at hl 0 rfl) ?_
            refine va_get (D := (dC, dI)) (ci := 3) (v := .ref (ad 14)) (C := R_M) (T := T_M) (N := 23) hx hb hts uw_M hown hK hP 0 rfl rfl 17 (by decide) (hts _ (List.mem_cons_of_mem _ wd_348)) (fun _ h9 => h9) rfl dM_priority_43 ?_
            refine lv_iconst (v := 3) hx hb dM_priority_46 (by decide) ?_
            refine va_iald hx hb hK hP 14 13 rfl rfl (kk_inl (by decide)) dM_priority_47 ?_
            rw [kk_c3]
            refine lv_iload_n hx hb dM_priority_48 rfl (lv_at hl 1 rfl) ?_
            refine lv_icmp_ne (tgt := 62) hx hb dM_priority_49 (by decide) (fun c_49 => ?_) (fun c_49 => ?_)
            · rw [if_neg c_49] at hf
              refine lv_aload_n hx hb dM_priority_62 rfl (lv_at hl 0 rfl) ?_
              refine va_get (D := (dC, dI)) (ci := 3) (v := .ref (ad 2)) (C := R_M) (T := T_M) (N := 23) hx hb hts uw_M hown hK hP 0 rfl rfl 5 (by decide) (hts _ (List.mem_cons_of_mem _ wd_336)) (fun _ h9 => h9) rfl dM_priority_63 ?_
              refine lv_iload_n hx hb dM_priority_66 rfl (lv_at hl 1 rfl) ?_
              refine lv_iload_n hx hb dM_priority_67 rfl (lv_at hl 2 rfl) ?_
              refine va_iast hx hb hK hP (km_D hj) hS 2 1 rfl rfl (km_in (by decide) c_7) dM_priority_68 (fun H locs hP _ hS => ?_)
              replace hP := km_u_base hP
              replace hw := km_wf_I (f := 5) (i := thread.toNatClampNeg) (v := base) hw (by decide)
              refine lv_aload_n hx hb dM_priority_69 rfl (lv_at hl 0 rfl) ?_
              refine va_get (D := (dC, dI)) (ci := 3) (v := .ref (ad 1)) (C := R_M) (T := T_M) (N := 23) hx hb hts uw_M hown hK hP 0 rfl rfl 4 (by decide) (hts _ (List.mem_cons_of_mem _ wd_335)) (fun _ h9 => h9) rfl dM_priority_70 ?_
              refine lv_iload_n hx hb dM_priority_73 rfl (lv_at hl 1 rfl) ?_
              refine va_iald hx hb hK hP 1 0 rfl rfl (km_in (by decide) c_7) dM_priority_74 ?_
              refine lv_iconst (v := 1) hx hb dM_priority_75 (by decide) ?_
              refine lv_icmp_ne (tgt := 89) hx hb dM_priority_76 (by decide) (fun c_76 => ?_) (fun c_76 => ?_)
              · rw [if_neg c_76] at hf
                refine lv_iconst (v := 0) hx hb dM_priority_89 (by decide) ?_
                exact kk_iret hx hb hr hlocks hP hK hS ⟨hf.symm, hw⟩ dM_priority_90
              · rw [if_pos c_76] at hf
                refine lv_aload_n hx hb dM_priority_79 rfl (lv_at hl 0 rfl) ?_
                refine va_get (D := (dC, dI)) (ci := 3) (v := .ref (ad 3)) (C := R_M) (T := T_M) (N := 23) hx hb hts uw_M hown hK hP 0 rfl rfl 6 (by decide) (hts _ (List.mem_cons_of_mem _ wd_337)) (fun _ h9 => h9) rfl dM_priority_80 ?_
                refine lv_iload_n hx hb dM_priority_83 rfl (lv_at hl 1 rfl) ?_
                refine lv_aload_n hx hb dM_priority_84 rfl (lv_at hl 0 rfl) ?_
                refine kk_ci (w := km_w ad cs) (As := []) (rest := [.int thread, .ref (ad 3)]) ⟨hx, hb, hml, hown, hts⟩ (mc_newStamp l dC dI ad cs hj (sM μ 5 thread.toNatClampNeg base) hw  ) (cwV 0 hts gv_M_81 rfl rfl rfl (by decide +kernel) ⟨Nat.le_of_ble_eq_true rfl, Nat.le_of_ble_eq_true rfl⟩) (va_recv hK hP (ci := 3) (q0 := 0) rfl rfl) hP hK hS (fun _ h9 => h9) rfl hl.1 rfl (Nat.le_of_ble_eq_true rfl) dM_priority_85 ⟨Nat.zero_le _, Nat.zero_le _⟩ (fun r1 s1 H locs hq hP hS => ?_)
                obtain ⟨h1, hw⟩ := hq
                rw [kk_b_eq h1] at hf
                refine va_iast hx hb hK hP (km_D hj) hS 3 2 rfl rfl (km_in (by decide) c_7) dM_priority_88 (fun H locs hP _ hS => ?_)
                replace hP := km_u_stamp hP
                replace hw := km_wf_I (f := 6) (i := thread.toNatClampNeg) (v := r1) hw (by decide)
                refine lv_iconst (v := 0) hx hb dM_priority_89 (by decide) ?_
                exact kk_iret hx hb hr hlocks hP hK hS ⟨hf.symm, hw⟩ dM_priority_90
            · rw [if_pos c_49] at hf
              refine lv_iload_n hx hb dM_priority_52 rfl (lv_at hl 2 rfl) ?_
              refine lv_aload_n hx hb dM_priority_53 rfl (lv_at hl 0 rfl) ?_
              refine va_get (D := (dC, dI)) (ci := 3) (v := .int (mI μ 1 0)) (C := R_M) (T := T_M) (N := 23) hx hb hts uw_M hown hK hP 0 rfl rfl 1 (by decide) (hts _ (List.mem_cons_of_mem _ wd_332)) (fun _ h9 => h9) rfl dM_priority_54 ?_
              refine lv_icmp_le (tgt := 62) hx hb dM_priority_57 (by decide) (fun c_57 => ?_) (fun c_57 => ?_)
              · rw [if_pos c_57] at hf
                refine lv_aload_n hx hb dM_priority_62 rfl (lv_at hl 0 rfl) ?_
                refine va_get (D := (dC, dI)) (ci := 3) (v := .ref (ad 2)) (C := R_M) (T := T_M) (N := 23) hx hb hts uw_M hown hK hP 0 rfl rfl 5 (by decide) (hts _ (List.mem_cons_of_mem _ wd_336)) (fun _ h9 => h9) rfl dM_priority_63 ?_
                refine lv_iload_n hx hb dM_priority_66 rfl (lv_at hl 1 rfl) ?_
                refine lv_iload_n hx hb dM_priority_67 rfl (lv_at hl 2 rfl) ?_
                refine va_iast hx hb hK hP (km_D hj) hS 2 1 rfl rfl (km_in (by decide) c_7) dM_priority_68 (fun H locs hP _ hS => ?_)
                replace hP := km_u_base hP
                replace hw := km_wf_I (f := 5) (i := thread.toNatClampNeg) (v := base) hw (by decide)
                refine lv_aload_n hx hb dM_priority_69 rfl (lv_at hl 0 rfl) ?_
                refine va_get (D := (dC, dI)) (ci := 3) (v := .ref (ad 1)) (C := R_M) (T := T_M) (N := 23) hx hb hts uw_M hown hK hP 0 rfl rfl 4 (by decide) (hts _ (List.mem_cons_of_mem _ wd_335)) (fun _ h9 => h9) rfl dM_priority_70 ?_
                refine lv_iload_n hx hb dM_priority_73 rfl (lv_at hl 1 rfl) ?_
                refine va_iald hx hb hK hP 1 0 rfl rfl (km_in (by decide) c_7) dM_priority_74 ?_
                refine lv_iconst (v := 1) hx hb dM_priority_75 (by decide) ?_
                refine lv_icmp_ne (tgt := 89) hx hb dM_priority_76 (by decide) (fun c_76 => ?_) (fun c_76 => ?_)
                · rw [if_neg c_76] at hf
                  refine lv_iconst (v := 0) hx hb dM_priority_89 (by decide) ?_
                  exact kk_iret hx hb hr hlocks hP hK hS ⟨hf.symm, hw⟩ dM_priority_90
                · rw [if_pos c_76] at hf
                  refine lv_aload_n hx hb dM_priority_79 rfl (lv_at hl 0 rfl) ?_
                  refine va_get (D := (dC, dI)) (ci := 3) (v := .ref (ad 3)) (C := R_M) (T := T_M) (N := 23) hx hb hts uw_M hown hK hP 0 rfl rfl 6 (by decide) (hts _ (List.mem_cons_of_mem _ wd_337)) (fun _ h9 => h9) rfl dM_priority_80 ?_
                  refine lv_iload_n hx hb dM_priority_83 rfl (lv_at hl 1 rfl) ?_
                  refine lv_aload_n hx hb dM_priority_84 rfl (lv_at hl 0 rfl) ?_
                  refine kk_ci (w := km_w ad cs) (As := []) (rest := [.int thread, .ref (ad 3)]) ⟨hx, hb, hml, hown, hts⟩ (mc_newStamp l dC dI ad cs hj (sM μ 5 thread.toNatClampNeg base) hw  ) (cwV 0 hts gv_M_81 rfl rfl rfl (by decide +kernel) ⟨Nat.le_of_ble_eq_true rfl, Nat.le_of_ble_eq_true rfl⟩) (va_recv hK hP (ci := 3) (q0 := 0) rfl rfl) hP hK hS (fun _ h9 => h9) rfl hl.1 rfl (Nat.le_of_ble_eq_true rfl) dM_priority_85 ⟨Nat.zero_le _, Nat.zero_le _⟩ (fun r2 s2 H locs hq hP hS => ?_)
                  obtain ⟨h2, hw⟩ := hq
                  rw [kk_b_eq h2] at hf
                  refine va_iast hx hb hK hP (km_D hj) hS 3 2 rfl rfl (km_in (by decide) c_7) dM_priority_88 (fun H locs hP _ hS => ?_)
                  replace hP := km_u_stamp hP
                  replace hw := km_wf_I (f := 6) (i := thread.toNatClampNeg) (v := r2) hw (by decide)
                  refine lv_iconst (v := 0) hx hb dM_priority_89 (by decide) ?_
                  exact kk_iret hx hb hr hlocks hP hK hS ⟨hf.symm, hw⟩ dM_priority_90
              · rw [if_neg c_57] at hf
                refine lv_iconst (v := (-1)) hx hb dM_priority_60 (by decide) ?_
                exact kk_iret hx hb hr hlocks hP hK hS ⟨hf.symm, hw⟩ dM_priority_61
          · rw [if_pos c_37] at hf
            refine lv_iconst (v := (-1)) hx hb dM_priority_40 (by decide) ?_
            exact kk_iret hx hb hr hlocks hP hK hS ⟨hf.symm, hw⟩ dM_priority_41
set_option maxHeartbeats 4000000 in
set_option maxRecDepth 100000 in
theorem mc_pass (l : Launch) (dC : Nat → ClassId) (dI : Nat → Nat → Nat) (ad : Nat → Nat) (cs : Nat → ClassId) (hj : km_inj ad) (μ : km_S) (hw : km_wf μ)  : Met l y_M_pass ws_M_pass ({ frames := 2, cells := 0, slots := 0, locals := 45 }) (kk_Pc (dC, dI) vwCl (km_t cs) (km_w ad cs μ) [.ref (ad 0)]) (va_Qi (km_pi (mf_pass μ)) (kk_B (dC, dI) vwCl (km_t cs) (km_w ad cs)) (km_A ad)) 0 0 (km_A ad) := by
  refine Met.ofW (cc := b_M_pass) (maxL := 2) (ret := (some .int)) (by decide) rfl ?_
  intro p e s m args below meth c s₁ B hml hv
  obtain ⟨rfl, hP, hK⟩ := hv
  have hx := B.exec
  have hb := B.bytes
  have hr := B.returns
  have hts := atoms_spec (ws := ws_M_pass) B.pre
  have hown : s.vm.findClass R_M = some m.cls := findClass_of_methodNamed B.named
  have hlocks := B.notSynchronized
  have hS : va_S (km_A ad) s.heap s.heap [] := va_S.rf
  generalize hf : mf_pass μ = out
  have hl := lv_entry ([.ref (ad 0)]) (n := 2) (Nat.le_of_ble_eq_true rfl)
  rw [lg_entry_eq]
  generalize (lg_sl ([.ref (ad 0)]) ++ List.replicate (2 - (lg_sl ([.ref (ad 0)])).length) Slot.unset).toArray = ls at hl ⊢
  have hl : lv_has ls 2 [(0, .ref (ad 0))] := hl
  rw [mf_pass] at hf
  refine lv_aload_n hx hb dM_pass_0 rfl (lv_at hl 0 rfl) ?_
  refine kk_ci (w := km_w ad cs) (As := []) (rest := []) ⟨hx, hb, hml, hown, hts⟩ (mc_running l dC dI ad cs hj μ hw  ) (cwV 0 hts gv_M_104 rfl rfl rfl (by decide +kernel) ⟨Nat.le_of_ble_eq_true rfl, Nat.le_of_ble_eq_true rfl⟩) (va_recv hK hP (ci := 3) (q0 := 0) rfl rfl) hP hK hS (fun _ h9 => h9) rfl hl.1 rfl (Nat.le_of_ble_eq_true rfl) dM_pass_1 ⟨Nat.zero_le _, Nat.zero_le _⟩ (fun r1 s1 H locs hq hP hS => ?_)
  obtain ⟨h1, hw, hx1⟩ := hq
  rw [kk_b_eq h1] at hf
  refine lv_istore_n (lv' := [(1, .int r1), (0, .ref (ad 0))]) hx hb dM_pass_4 rfl hl (by decide) rfl (fun ls hl => ?_)
  refine lv_iload_n hx hb dM_pass_5 rfl (lv_at hl 0 rfl) ?_
  refine lv_if_ge (tgt := 11) hx hb dM_pass_6 (by decide) (fun c_6 => ?_) (fun c_6 => ?_)
  · rw [if_pos c_6] at hf
    refine lv_aload_n hx hb dM_pass_11 rfl (lv_at hl 1 rfl) ?_
    refine lv_iload_n hx hb dM_pass_12 rfl (lv_at hl 0 rfl) ?_
    refine kk_cv (w := km_w ad cs) (As := [.int r1]) (rest := []) ⟨hx, hb, hml, hown, hts⟩ (mc_ready l dC dI ad cs hj s1 hw r1 (hx1.resolve_left (kk_ge c_6))) (cwV 1 hts gv_M_92 rfl rfl rfl (by decide +kernel) ⟨Nat.le_of_ble_eq_true rfl, Nat.le_of_ble_eq_true rfl⟩) (va_recv hK hP (ci := 3) (q0 := 0) rfl rfl) hP hK hS (fun _ h9 => h9) rfl hl.1 rfl (Nat.le_of_ble_eq_true rfl) dM_pass_13 ⟨Nat.zero_le _, Nat.zero_le _⟩ (fun s2 H locs hq hP hS => ?_)
    obtain ⟨h2, hw⟩ := hq
    rw [kk_v_eq h2] at hf
    refine lv_iconst (v := 0) hx hb dM_pass_16 (by decide) ?_
    exact kk_iret hx hb hr hlocks hP hK hS ⟨hf.symm, hw⟩ dM_pass_17
  · rw [if_neg c_6] at hf
    refine lv_iconst (v := (-1)) hx hb dM_pass_9 (by decide) ?_
    exact kk_iret hx hb hr hlocks hP hK hS ⟨hf.symm, hw⟩ dM_pass_10
set_option maxHeartbeats 4000000 in
set_option maxRecDepth 100000 in
theorem mc_lock (l : Launch) (dC : Nat → ClassId) (dI : Nat → Nat → Nat) (ad : Nat → Nat) (cs : Nat → ClassId) (hj : km_inj ad) (μ : km_S) (hw : km_wf μ) (m1 : Int32) : Met l y_M_lock ws_M_lock ({ frames := 2, cells := 0, slots := 0, locals := 45 }) (kk_Pc (dC, dI) vwCl (km_t cs) (km_w ad cs μ) [.ref (ad 0), .int m1]) (va_Qi (km_pi (mf_lock μ m1)) (kk_B (dC, dI) vwCl (km_t cs) (km_w ad cs)) (km_A ad)) 0 0 (km_A ad) := by
  refine Met.ofW (cc := b_M_lock) (maxL := 3) (ret := (some .int)) (by decide) rfl ?_
  intro p e s m args below meth c s₁ B hml hv
  obtain ⟨rfl, hP, hK⟩ := hv
  have hx := B.exec
  have hb := B.bytes
  have hr := B.returns
  have hts := atoms_spec (ws := ws_M_lock) B.pre
  have hown : s.vm.findClass R_M = some m.cls := findClass_of_methodNamed B.named
  have hlocks := B.notSynchronized
  have hS : va_S (km_A ad) s.heap s.heap [] := va_S.rf
  generalize hf : mf_lock μ m1 = out
  have hl := lv_entry ([.ref (ad 0), .int m1]) (n := 3) (Nat.le_of_ble_eq_true rfl)
  rw [lg_entry_eq]
  generalize (lg_sl ([.ref (ad 0), .int m1]) ++ List.replicate (3 - (lg_sl ([.ref (ad 0), .int m1])).length) Slot.unset).toArray = ls at hl ⊢
  have hl : lv_has ls 3 [(0, .ref (ad 0)), (1, .int m1)] := hl
  rw [mf_lock] at hf
  refine lv_aload_n hx hb dM_lock_0 rfl (lv_at hl 0 rfl) ?_
  refine kk_ci (w := km_w ad cs) (As := []) (rest := []) ⟨hx, hb, hml, hown, hts⟩ (mc_running l dC dI ad cs hj μ hw  ) (cwV 0 hts gv_M_104 rfl rfl rfl (by decide +kernel) ⟨Nat.le_of_ble_eq_true rfl, Nat.le_of_ble_eq_true rfl⟩) (va_recv hK hP (ci := 3) (q0 := 0) rfl rfl) hP hK hS (fun _ h9 => h9) rfl hl.1 rfl (Nat.le_of_ble_eq_true rfl) dM_lock_1 ⟨Nat.zero_le _, Nat.zero_le _⟩ (fun r1 s1 H locs hq hP hS => ?_)
  obtain ⟨h1, hw, hx1⟩ := hq
  rw [kk_b_eq h1] at hf
  refine lv_istore_n (lv' := [(2, .int r1), (0, .ref (ad 0)), (1, .int m1)]) hx hb dM_lock_4 rfl hl (by decide) rfl (fun ls hl => ?_)
  refine lv_aload_n hx hb dM_lock_5 rfl (lv_at hl 1 rfl) ?_
  refine lv_iload_n hx hb dM_lock_6 rfl (lv_at hl 2 rfl) ?_
  refine lv_iconst (v := 4) hx hb dM_lock_7 (by decide) ?_
  refine kk_cp (r0 := mf_out m1 4) (w := km_w ad cs) (As := [.int m1, .int 4]) (rest := []) ⟨hx, hb, hml, hown, hts⟩ (mc_out l (ad 0) m1 4) (cwV 2 hts gv_M_100 rfl rfl rfl (by decide +kernel) ⟨Nat.le_of_ble_eq_true rfl, Nat.le_of_ble_eq_true rfl⟩) (va_recv hK hP (ci := 3) (q0 := 0) rfl rfl) hP hS rfl hl.1 rfl (Nat.le_of_ble_eq_true rfl) dM_lock_8 ⟨Nat.zero_le _, Nat.zero_le _⟩ (fun H locs hP hS => ?_)
  refine lv_if_ne (tgt := 46) hx hb dM_lock_11 (by decide) (fun c_11 => ?_) (fun c_11 => ?_)
  · rw [if_neg c_11] at hf
    refine lv_iconst (v := (-1)) hx hb dM_lock_46 (by decide) ?_
    exact kk_iret hx hb hr hlocks hP hK hS ⟨hf.symm, hw⟩ dM_lock_47
  · rw [if_pos c_11] at hf
    refine lv_iload_n hx hb dM_lock_14 rfl (lv_at hl 0 rfl) ?_
    refine lv_if_lt (tgt := 46) hx hb dM_lock_15 (by decide) (fun c_15 => ?_) (fun c_15 => ?_)
    · rw [if_pos c_15] at hf
      refine lv_iconst (v := (-1)) hx hb dM_lock_46 (by decide) ?_
      exact kk_iret hx hb hr hlocks hP hK hS ⟨hf.symm, hw⟩ dM_lock_47
    · rw [if_neg c_15] at hf
      refine lv_aload_n hx hb dM_lock_18 rfl (lv_at hl 1 rfl) ?_
      refine va_get (D := (dC, dI)) (ci := 3) (v := .ref (ad 14)) (C := R_M) (T := T_M) (N := 23) hx hb hts uw_M hown hK hP 0 rfl rfl 17 (by decide) (hts _ (List.mem_cons_of_mem _ wd_348)) (fun _ h9 => h9) rfl dM_lock_19 ?_
      refine lv_iload_n hx hb dM_lock_22 rfl (lv_at hl 2 rfl) ?_
      refine va_iald hx hb hK hP 14 13 rfl rfl (km_in (by decide) c_11) dM_lock_23 ?_
      refine lv_iload_n hx hb dM_lock_24 rfl (lv_at hl 0 rfl) ?_
      refine lv_icmp_eq (tgt := 46) hx hb dM_lock_25 (by decide) (fun c_25 => ?_) (fun c_25 => ?_)
      · rw [if_pos c_25] at hf
        refine lv_iconst (v := (-1)) hx hb dM_lock_46 (by decide) ?_
        exact kk_iret hx hb hr hlocks hP hK hS ⟨hf.symm, hw⟩ dM_lock_47
      · rw [if_neg c_25] at hf
        refine lv_iload_n hx hb dM_lock_28 rfl (lv_at hl 2 rfl) ?_
        refine lv_iconst (v := 3) hx hb dM_lock_29 (by decide) ?_
        refine lv_icmp_ne (tgt := 48) hx hb dM_lock_30 (by decide) (fun c_30 => ?_) (fun c_30 => ?_)
        · rw [if_neg c_30] at hf
          refine lv_aload_n hx hb dM_lock_48 rfl (lv_at hl 1 rfl) ?_
          refine va_get (D := (dC, dI)) (ci := 3) (v := .ref (ad 14)) (C := R_M) (T := T_M) (N := 23) hx hb hts uw_M hown hK hP 0 rfl rfl 17 (by decide) (hts _ (List.mem_cons_of_mem _ wd_348)) (fun _ h9 => h9) rfl dM_lock_49 ?_
          refine lv_iload_n hx hb dM_lock_52 rfl (lv_at hl 2 rfl) ?_
          refine va_iald hx hb hK hP 14 13 rfl rfl (km_in (by decide) c_11) dM_lock_53 ?_
          refine lv_if_ge (tgt := 73) hx hb dM_lock_54 (by decide) (fun c_54 => ?_) (fun c_54 => ?_)
          · rw [if_pos c_54] at hf
            refine lv_aload_n hx hb dM_lock_73 rfl (lv_at hl 1 rfl) ?_
            refine lv_iload_n hx hb dM_lock_74 rfl (lv_at hl 0 rfl) ?_
            refine lv_bipush (v := 10) hx hb dM_lock_75 (by decide) ?_
            refine lv_iload_n hx hb dM_lock_77 rfl (lv_at hl 2 rfl) ?_
            refine lv_iadd hx hb dM_lock_78 ?_
            refine lv_iconst (v := 0) hx hb dM_lock_79 (by decide) ?_
            refine kk_cv (w := km_w ad cs) (As := [.int r1, .int (10 + m1), .int 0]) (rest := []) ⟨hx, hb, hml, hown, hts⟩ (mc_block l dC dI ad cs hj s1 hw r1 (10 + m1) 0 (hx1.resolve_left c_15)) (cwV 3 hts gv_M_96 rfl rfl rfl (by decide +kernel) ⟨Nat.le_of_ble_eq_true rfl, Nat.le_of_ble_eq_true rfl⟩) (va_recv hK hP (ci := 3) (q0 := 0) rfl rfl) hP hK hS (fun _ h9 => h9) rfl hl.1 rfl (Nat.le_of_ble_eq_true rfl) dM_lock_80 ⟨Nat.zero_le _, Nat.zero_le _⟩ (fun s2 H locs hq hP hS => ?_)
            obtain ⟨h2, hw⟩ := hq
            rw [kk_v_eq h2] at hf
            refine lv_iconst (v := 1) hx hb dM_lock_83 (by decide) ?_
            exact kk_iret hx hb hr hlocks hP hK hS ⟨hf.symm, hw⟩ dM_lock_84
          · rw [if_neg c_54] at hf
            refine lv_aload_n hx hb dM_lock_57 rfl (lv_at hl 1 rfl) ?_
            refine va_get (D := (dC, dI)) (ci := 3) (v := .ref (ad 14)) (C := R_M) (T := T_M) (N := 23) hx hb hts uw_M hown hK hP 0 rfl rfl 17 (by decide) (hts _ (List.mem_cons_of_mem _ wd_348)) (fun _ h9 => h9) rfl dM_lock_58 ?_
            refine lv_iload_n hx hb dM_lock_61 rfl (lv_at hl 2 rfl) ?_
            refine lv_iload_n hx hb dM_lock_62 rfl (lv_at hl 0 rfl) ?_
            refine va_iast hx hb hK hP (km_D hj) hS 14 13 rfl rfl (km_in (by decide) c_11) dM_lock_63 (fun H locs hP _ hS => ?_)
            replace hP := km_u_owns hP
            replace hw : km_wf (sM s1 17 m1.toNatClampNeg r1) := km_wf_o hw (kk_own (hx1.resolve_left c_15))
            refine lv_aload_n hx hb dM_lock_64 rfl (lv_at hl 1 rfl) ?_
            refine va_get (D := (dC, dI)) (ci := 3) (v := .ref (ad 8)) (C := R_M) (T := T_M) (N := 23) hx hb hts uw_M hown hK hP 0 rfl rfl 11 (by decide) (hts _ (List.mem_cons_of_mem _ wd_342)) (fun _ h9 => h9) rfl dM_lock_65 ?_
            refine lv_iload_n hx hb dM_lock_68 rfl (lv_at hl 0 rfl) ?_
            refine lv_iconst (v := 0) hx hb dM_lock_69 (by decide) ?_
            refine va_iast hx hb hK hP (km_D hj) hS 8 7 rfl rfl (hx1.resolve_left c_15) dM_lock_70 (fun H locs hP _ hS => ?_)
            replace hP := km_u_result hP
            replace hw := km_wf_I (f := 11) (i := r1.toNatClampNeg) (v := 0) hw (by decide)
            refine lv_iconst (v := 0) hx hb dM_lock_71 (by decide) ?_
            exact kk_iret hx hb hr hlocks hP hK hS ⟨hf.symm, hw⟩ dM_lock_72
        · rw [if_pos c_30] at hf
          refine lv_aload_n hx hb dM_lock_33 rfl (lv_at hl 1 rfl) ?_
          refine va_get (D := (dC, dI)) (ci := 3) (v := .ref (ad 2)) (C := R_M) (T := T_M) (N := 23) hx hb hts uw_M hown hK hP 0 rfl rfl 5 (by decide) (hts _ (List.mem_cons_of_mem _ wd_336)) (fun _ h9 => h9) rfl dM_lock_34 ?_
          refine lv_iload_n hx hb dM_lock_37 rfl (lv_at hl 0 rfl) ?_
          refine va_iald hx hb hK hP 2 1 rfl rfl (hx1.resolve_left c_15) dM_lock_38 ?_
          refine lv_aload_n hx hb dM_lock_39 rfl (lv_at hl 1 rfl) ?_
          refine va_get (D := (dC, dI)) (ci := 3) (v := .int (mI s1 1 0)) (C := R_M) (T := T_M) (N := 23) hx hb hts uw_M hown hK hP 0 rfl rfl 1 (by decide) (hts _ (List.mem_cons_of_mem _ wd_332)) (fun _ h9 => h9) rfl dM_lock_40 ?_
          refine lv_icmp_le (tgt := 48) hx hb dM_lock_43 (by decide) (fun c_43 => ?_) (fun c_43 => ?_)
          · rw [if_pos c_43] at hf
            refine lv_aload_n hx hb dM_lock_48 rfl (lv_at hl 1 rfl) ?_
            refine va_get (D := (dC, dI)) (ci := 3) (v := .ref (ad 14)) (C := R_M) (T := T_M) (N := 23) hx hb hts uw_M hown hK hP 0 rfl rfl 17 (by decide) (hts _ (List.mem_cons_of_mem _ wd_348)) (fun _ h9 => h9) rfl dM_lock_49 ?_
            refine lv_iload_n hx hb dM_lock_52 rfl (lv_at hl 2 rfl) ?_
            refine va_iald hx hb hK hP 14 13 rfl rfl (km_in (by decide) c_11) dM_lock_53 ?_
            refine lv_if_ge (tgt := 73) hx hb dM_lock_54 (by decide) (fun c_54 => ?_) (fun c_54 => ?_)
            · rw [if_pos c_54] at hf
              refine lv_aload_n hx hb dM_lock_73 rfl (lv_at hl 1 rfl) ?_
              refine lv_iload_n hx hb dM_lock_74 rfl (lv_at hl 0 rfl) ?_
              refine lv_bipush (v := 10) hx hb dM_lock_75 (by decide) ?_
              refine lv_iload_n hx hb dM_lock_77 rfl (lv_at hl 2 rfl) ?_
              refine lv_iadd hx hb dM_lock_78 ?_
              refine lv_iconst (v := 0) hx hb dM_lock_79 (by decide) ?_
              refine kk_cv (w := km_w ad cs) (As := [.int r1, .int (10 + m1), .int 0]) (rest := []) ⟨hx, hb, hml, hown, hts⟩ (mc_block l dC dI ad cs hj s1 hw r1 (10 + m1) 0 (hx1.resolve_left c_15)) (cwV 3 hts gv_M_96 rfl rfl rfl (by decide +kernel) ⟨Nat.le_of_ble_eq_true rfl, Nat.le_of_ble_eq_true rfl⟩) (va_recv hK hP (ci := 3) (q0 := 0) rfl rfl) hP hK hS (fun _ h9 => h9) rfl hl.1 rfl (Nat.le_of_ble_eq_true rfl) dM_lock_80 ⟨Nat.zero_le _, Nat.zero_le _⟩ (fun s3 H locs hq hP hS => ?_)
              obtain ⟨h3, hw⟩ := hq
              rw [kk_v_eq h3] at hf
              refine lv_iconst (v := 1) hx hb dM_lock_83 (by decide) ?_
              exact kk_iret hx hb hr hlocks hP hK hS ⟨hf.symm, hw⟩ dM_lock_84
            · rw [if_neg c_54] at hf
              refine lv_aload_n hx hb dM_lock_57 rfl (lv_at hl 1 rfl) ?_
              refine va_get (D := (dC, dI)) (ci := 3) (v := .ref (ad 14)) (C := R_M) (T := T_M) (N := 23) hx hb hts uw_M hown hK hP 0 rfl rfl 17 (by decide) (hts _ (List.mem_cons_of_mem _ wd_348)) (fun _ h9 => h9) rfl dM_lock_58 ?_
              refine lv_iload_n hx hb dM_lock_61 rfl (lv_at hl 2 rfl) ?_
              refine lv_iload_n hx hb dM_lock_62 rfl (lv_at hl 0 rfl) ?_
              refine va_iast hx hb hK hP (km_D hj) hS 14 13 rfl rfl (km_in (by decide) c_11) dM_lock_63 (fun H locs hP _ hS => ?_)
              replace hP := km_u_owns hP
              replace hw : km_wf (sM s1 17 m1.toNatClampNeg r1) := km_wf_o hw (kk_own (hx1.resolve_left c_15))
              refine lv_aload_n hx hb dM_lock_64 rfl (lv_at hl 1 rfl) ?_
              refine va_get (D := (dC, dI)) (ci := 3) (v := .ref (ad 8)) (C := R_M) (T := T_M) (N := 23) hx hb hts uw_M hown hK hP 0 rfl rfl 11 (by decide) (hts _ (List.mem_cons_of_mem _ wd_342)) (fun _ h9 => h9) rfl dM_lock_65 ?_
              refine lv_iload_n hx hb dM_lock_68 rfl (lv_at hl 0 rfl) ?_
              refine lv_iconst (v := 0) hx hb dM_lock_69 (by decide) ?_
              refine va_iast hx hb hK hP (km_D hj) hS 8 7 rfl rfl (hx1.resolve_left c_15) dM_lock_70 (fun H locs hP _ hS => ?_)
              replace hP := km_u_result hP
              replace hw := km_wf_I (f := 11) (i := r1.toNatClampNeg) (v := 0) hw (by decide)
              refine lv_iconst (v := 0) hx hb dM_lock_71 (by decide) ?_
              exact kk_iret hx hb hr hlocks hP hK hS ⟨hf.symm, hw⟩ dM_lock_72
          · rw [if_neg c_43] at hf
            refine lv_iconst (v := (-1)) hx hb dM_lock_46 (by decide) ?_
            exact kk_iret hx hb hr hlocks hP hK hS ⟨hf.symm, hw⟩ dM_lock_47
