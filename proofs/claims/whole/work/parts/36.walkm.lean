set_option maxHeartbeats 4000000 in
set_option maxRecDepth 100000 in
theorem mc_tell (l : Launch) (dC : Nat → ClassId) (dI : Nat → Nat → Nat) (ad : Nat → Nat) (cs : Nat → ClassId) (hj : km_inj ad) (μ : km_S) (hw : km_wf μ) (th : Int32) (what : Int32) : Met l y_M_tell ws_M_tell ({ frames := 1, cells := 0, slots := 0, locals := 23 }) (kk_Pc (dC, dI) vwCl (km_t cs) (km_w ad cs μ) [.ref (ad 0), .int th, .int what]) (va_Ql (km_pl (mf_tell μ th what)) (kk_B (dC, dI) vwCl (km_t cs) (km_w ad cs)) (km_A ad)) 0 0 (km_A ad) := by
  refine Met.ofW (cc := b_M_tell) (maxL := 3) (ret := (some .long)) (by decide) rfl ?_
  intro p e s m args below meth c s₁ B hml hv
  obtain ⟨rfl, hP, hK⟩ := hv
  have hx := B.exec
  have hb := B.bytes
  have hr := B.returns
  have hts := atoms_spec (ws := ws_M_tell) B.pre
  have hown : s.vm.findClass R_M = some m.cls := findClass_of_methodNamed B.named
  have hlocks := B.notSynchronized
  have hS : va_S (km_A ad) s.heap s.heap [] := va_S.rf
  generalize hf : mf_tell μ th what = out
  have hl := lv_entry ([.ref (ad 0), .int th, .int what]) (n := 3) (Nat.le_of_ble_eq_true rfl)
  rw [lg_entry_eq]
  generalize (lg_sl ([.ref (ad 0), .int th, .int what]) ++ List.replicate (3 - (lg_sl ([.ref (ad 0), .int th, .int what])).length) Slot.unset).toArray = ls at hl ⊢
  have hl : lv_has ls 3 [(0, .ref (ad 0)), (1, .int th), (2, .int what)] := hl
  rw [mf_tell] at hf
  refine lv_aload_n hx hb dM_tell_0 rfl (lv_at hl 0 rfl) ?_
  refine lv_iload_n hx hb dM_tell_1 rfl (lv_at hl 1 rfl) ?_
  refine lv_bipush (v := 8) hx hb dM_tell_2 (by decide) ?_
  refine kk_cp (r0 := mf_out th 8) (w := km_w ad cs) (As := [.int th, .int 8]) (rest := []) ⟨hx, hb, hml, hown, hts⟩ (mc_out l (ad 0) th 8) (cwV 2 hts gv_M_100 rfl rfl rfl (by decide +kernel) ⟨Nat.le_of_ble_eq_true rfl, Nat.le_of_ble_eq_true rfl⟩) (va_recv hK hP (ci := 3) (q0 := 0) rfl rfl) hP hS rfl hl.1 rfl (Nat.le_of_ble_eq_true rfl) dM_tell_4 ⟨Nat.zero_le _, Nat.zero_le _⟩ (fun H locs hP hS => ?_)
  refine lv_if_ne (tgt := 32) hx hb dM_tell_7 (by decide) (fun c_7 => ?_) (fun c_7 => ?_)
  · rw [if_neg c_7] at hf
    refine lv_ldc2 (v := 1000000000000) hx hb hown (hts _ (List.mem_cons_of_mem _ wd_511)) dM_tell_32 ?_
    exact kk_lret hx hb hr hlocks hP hK hS ⟨hf.symm, hw⟩ dM_tell_35
  · rw [if_pos c_7] at hf
    refine lv_iload_n hx hb dM_tell_10 rfl (lv_at hl 2 rfl) ?_
    refine lv_if_lt (tgt := 32) hx hb dM_tell_11 (by decide) (fun c_11 => ?_) (fun c_11 => ?_)
    · rw [if_pos c_11] at hf
      refine lv_ldc2 (v := 1000000000000) hx hb hown (hts _ (List.mem_cons_of_mem _ wd_511)) dM_tell_32 ?_
      exact kk_lret hx hb hr hlocks hP hK hS ⟨hf.symm, hw⟩ dM_tell_35
    · rw [if_neg c_11] at hf
      refine lv_iload_n hx hb dM_tell_14 rfl (lv_at hl 2 rfl) ?_
      refine lv_iconst (v := 5) hx hb dM_tell_15 (by decide) ?_
      refine lv_icmp_gt (tgt := 32) hx hb dM_tell_16 (by decide) (fun c_16 => ?_) (fun c_16 => ?_)
      · rw [if_pos c_16] at hf
        refine lv_ldc2 (v := 1000000000000) hx hb hown (hts _ (List.mem_cons_of_mem _ wd_511)) dM_tell_32 ?_
        exact kk_lret hx hb hr hlocks hP hK hS ⟨hf.symm, hw⟩ dM_tell_35
      · rw [if_neg c_16] at hf
        refine lv_aload_n hx hb dM_tell_19 rfl (lv_at hl 0 rfl) ?_
        refine va_get (D := (dC, dI)) (ci := 3) (v := .ref (ad 1)) (C := R_M) (T := T_M) (N := 23) hx hb hts uw_M hown hK hP 0 rfl rfl 4 (by decide) (hts _ (List.mem_cons_of_mem _ wd_335)) (fun _ h9 => h9) rfl dM_tell_20 ?_
        refine lv_iload_n hx hb dM_tell_23 rfl (lv_at hl 1 rfl) ?_
        refine va_iald hx hb hK hP 1 0 rfl rfl (km_in (by decide) c_7) dM_tell_24 ?_
        refine lv_if_ne (tgt := 36) hx hb dM_tell_25 (by decide) (fun c_25 => ?_) (fun c_25 => ?_)
        · rw [if_neg c_25] at hf
          refine lv_aload_n hx hb dM_tell_36 rfl (lv_at hl 0 rfl) ?_
          refine kk_cv (w := km_w ad cs) (As := []) (rest := []) ⟨hx, hb, hml, hown, hts⟩ (mc_weigh l dC dI ad cs hj μ hw  ) (cwV 0 hts gv_M_85 rfl rfl rfl (by decide +kernel) ⟨Nat.le_of_ble_eq_true rfl, Nat.le_of_ble_eq_true rfl⟩) (va_recv hK hP (ci := 3) (q0 := 0) rfl rfl) hP hK hS (fun _ h9 => h9) rfl hl.1 rfl (Nat.le_of_ble_eq_true rfl) dM_tell_37 ⟨Nat.zero_le _, Nat.zero_le _⟩ (fun s1 H locs hq hP hS => ?_)
          obtain ⟨h1, hw⟩ := hq
          rw [kk_v_eq h1] at hf
          refine lv_iload_n hx hb dM_tell_40 rfl (lv_at hl 2 rfl) ?_
          refine lv_if_ne (tgt := 52) hx hb dM_tell_41 (by decide) (fun c_41 => ?_) (fun c_41 => ?_)
          · rw [if_neg c_41] at hf
            refine lv_iload_n hx hb dM_tell_52 rfl (lv_at hl 2 rfl) ?_
            refine lv_iconst (v := 1) hx hb dM_tell_53 (by decide) ?_
            refine lv_icmp_ne (tgt := 65) hx hb dM_tell_54 (by decide) (fun c_54 => ?_) (fun c_54 => ?_)
            · rw [if_neg c_54] at hf
              refine lv_iload_n hx hb dM_tell_65 rfl (lv_at hl 2 rfl) ?_
              refine lv_iconst (v := 2) hx hb dM_tell_66 (by decide) ?_
              refine lv_icmp_ne (tgt := 78) hx hb dM_tell_67 (by decide) (fun c_67 => ?_) (fun c_67 => ?_)
              · rw [if_neg c_67] at hf
                refine lv_iload_n hx hb dM_tell_78 rfl (lv_at hl 2 rfl) ?_
                refine lv_iconst (v := 3) hx hb dM_tell_79 (by decide) ?_
                refine lv_icmp_ne (tgt := 91) hx hb dM_tell_80 (by decide) (fun c_80 => ?_) (fun c_80 => ?_)
                · rw [if_neg c_80] at hf
                  refine lv_iload_n hx hb dM_tell_91 rfl (lv_at hl 2 rfl) ?_
                  refine lv_iconst (v := 4) hx hb dM_tell_92 (by decide) ?_
                  refine lv_icmp_ne (tgt := 118) hx hb dM_tell_93 (by decide) (fun c_93 => ?_) (fun c_93 => ?_)
                  · rw [if_neg c_93] at hf
                    refine lv_aload_n hx hb dM_tell_118 rfl (lv_at hl 0 rfl) ?_
                    refine va_get (D := (dC, dI)) (ci := 3) (v := .ref (ad 1)) (C := R_M) (T := T_M) (N := 23) hx hb hts uw_M hown hK hP 0 rfl rfl 4 (by decide) (hts _ (List.mem_cons_of_mem _ wd_335)) (fun _ h9 => h9) rfl dM_tell_119 ?_
                    refine lv_iload_n hx hb dM_tell_122 rfl (lv_at hl 1 rfl) ?_
                    refine va_iald hx hb hK hP 1 0 rfl rfl (km_in (by decide) c_7) dM_tell_123 ?_
                    refine lv_iconst (v := 2) hx hb dM_tell_124 (by decide) ?_
                    refine lv_icmp_ne (tgt := 147) hx hb dM_tell_125 (by decide) (fun c_125 => ?_) (fun c_125 => ?_)
                    · rw [if_neg c_125] at hf
                      refine lv_ldc2 (v := 1000000000000) hx hb hown (hts _ (List.mem_cons_of_mem _ wd_511)) dM_tell_147 ?_
                      exact kk_lret hx hb hr hlocks hP hK hS ⟨hf.symm, hw⟩ dM_tell_150
                    · rw [if_pos c_125] at hf
                      refine lv_aload_n hx hb dM_tell_128 rfl (lv_at hl 0 rfl) ?_
                      refine va_get (D := (dC, dI)) (ci := 3) (v := .ref (ad 7)) (C := R_M) (T := T_M) (N := 23) hx hb hts uw_M hown hK hP 0 rfl rfl 10 (by decide) (hts _ (List.mem_cons_of_mem _ wd_341)) (fun _ h9 => h9) rfl dM_tell_129 ?_
                      refine lv_iload_n hx hb dM_tell_132 rfl (lv_at hl 1 rfl) ?_
                      refine va_iald hx hb hK hP 7 6 rfl rfl (km_in (by decide) c_7) dM_tell_133 ?_
                      refine lv_if_le (tgt := 147) hx hb dM_tell_134 (by decide) (fun c_134 => ?_) (fun c_134 => ?_)
                      · rw [if_pos c_134] at hf
                        refine lv_ldc2 (v := 1000000000000) hx hb hown (hts _ (List.mem_cons_of_mem _ wd_511)) dM_tell_147 ?_
                        exact kk_lret hx hb hr hlocks hP hK hS ⟨hf.symm, hw⟩ dM_tell_150
                      · rw [if_neg c_134] at hf
                        refine lv_aload_n hx hb dM_tell_137 rfl (lv_at hl 0 rfl) ?_
                        refine va_get (D := (dC, dI)) (ci := 3) (v := .ref (ad 7)) (C := R_M) (T := T_M) (N := 23) hx hb hts uw_M hown hK hP 0 rfl rfl 10 (by decide) (hts _ (List.mem_cons_of_mem _ wd_341)) (fun _ h9 => h9) rfl dM_tell_138 ?_
                        refine lv_iload_n hx hb dM_tell_141 rfl (lv_at hl 1 rfl) ?_
                        refine va_iald hx hb hK hP 7 6 rfl rfl (km_in (by decide) c_7) dM_tell_142 ?_
                        refine lv_i2l hx hb dM_tell_143 rfl ?_
                        refine lv_goto (tgt := 150) hx hb dM_tell_144 (by decide) ?_
                        exact kk_lret hx hb hr hlocks hP hK hS ⟨hf.symm, hw⟩ dM_tell_150
                  · rw [if_pos c_93] at hf
                    refine lv_aload_n hx hb dM_tell_96 rfl (lv_at hl 0 rfl) ?_
                    refine va_get (D := (dC, dI)) (ci := 3) (v := .ref (ad 1)) (C := R_M) (T := T_M) (N := 23) hx hb hts uw_M hown hK hP 0 rfl rfl 4 (by decide) (hts _ (List.mem_cons_of_mem _ wd_335)) (fun _ h9 => h9) rfl dM_tell_97 ?_
                    refine lv_iload_n hx hb dM_tell_100 rfl (lv_at hl 1 rfl) ?_
                    refine va_iald hx hb hK hP 1 0 rfl rfl (km_in (by decide) c_7) dM_tell_101 ?_
                    refine lv_iconst (v := 2) hx hb dM_tell_102 (by decide) ?_
                    refine lv_icmp_ne (tgt := 116) hx hb dM_tell_103 (by decide) (fun c_103 => ?_) (fun c_103 => ?_)
                    · rw [if_neg c_103] at hf
                      refine lv_lconst (v := 0) hx hb dM_tell_116 (by decide) ?_
                      exact kk_lret hx hb hr hlocks hP hK hS ⟨hf.symm, hw⟩ dM_tell_117
                    · rw [if_pos c_103] at hf
                      refine lv_aload_n hx hb dM_tell_106 rfl (lv_at hl 0 rfl) ?_
                      refine va_get (D := (dC, dI)) (ci := 3) (v := .ref (ad 5)) (C := R_M) (T := T_M) (N := 23) hx hb hts uw_M hown hK hP 0 rfl rfl 8 (by decide) (hts _ (List.mem_cons_of_mem _ wd_339)) (fun _ h9 => h9) rfl dM_tell_107 ?_
                      refine lv_iload_n hx hb dM_tell_110 rfl (lv_at hl 1 rfl) ?_
                      refine va_iald hx hb hK hP 5 4 rfl rfl (km_in (by decide) c_7) dM_tell_111 ?_
                      refine lv_i2l hx hb dM_tell_112 rfl ?_
                      refine lv_goto (tgt := 117) hx hb dM_tell_113 (by decide) ?_
                      exact kk_lret hx hb hr hlocks hP hK hS ⟨hf.symm, hw⟩ dM_tell_117
                · rw [if_pos c_80] at hf
                  refine lv_aload_n hx hb dM_tell_83 rfl (lv_at hl 0 rfl) ?_
                  refine va_get (D := (dC, dI)) (ci := 3) (v := .ref (ad 8)) (C := R_M) (T := T_M) (N := 23) hx hb hts uw_M hown hK hP 0 rfl rfl 11 (by decide) (hts _ (List.mem_cons_of_mem _ wd_342)) (fun _ h9 => h9) rfl dM_tell_84 ?_
                  refine lv_iload_n hx hb dM_tell_87 rfl (lv_at hl 1 rfl) ?_
                  refine va_iald hx hb hK hP 8 7 rfl rfl (km_in (by decide) c_7) dM_tell_88 ?_
                  refine lv_i2l hx hb dM_tell_89 rfl ?_
                  exact kk_lret hx hb hr hlocks hP hK hS ⟨hf.symm, hw⟩ dM_tell_90
              · rw [if_pos c_67] at hf
                refine lv_aload_n hx hb dM_tell_70 rfl (lv_at hl 0 rfl) ?_
                refine va_get (D := (dC, dI)) (ci := 3) (v := .ref (ad 19)) (C := R_M) (T := T_M) (N := 23) hx hb hts uw_M hown hK hP 0 rfl rfl 22 (by decide) (hts _ (List.mem_cons_of_mem _ wd_353)) (fun _ h9 => h9) rfl dM_tell_71 ?_
                refine lv_iload_n hx hb dM_tell_74 rfl (lv_at hl 1 rfl) ?_
                refine va_iald hx hb hK hP 19 18 rfl rfl (km_in (by decide) c_7) dM_tell_75 ?_
                refine lv_i2l hx hb dM_tell_76 rfl ?_
                exact kk_lret hx hb hr hlocks hP hK hS ⟨hf.symm, hw⟩ dM_tell_77
            · rw [if_pos c_54] at hf
              refine lv_aload_n hx hb dM_tell_57 rfl (lv_at hl 0 rfl) ?_
              refine va_get (D := (dC, dI)) (ci := 3) (v := .ref (ad 2)) (C := R_M) (T := T_M) (N := 23) hx hb hts uw_M hown hK hP 0 rfl rfl 5 (by decide) (hts _ (List.mem_cons_of_mem _ wd_336)) (fun _ h9 => h9) rfl dM_tell_58 ?_
              refine lv_iload_n hx hb dM_tell_61 rfl (lv_at hl 1 rfl) ?_
              refine va_iald hx hb hK hP 2 1 rfl rfl (km_in (by decide) c_7) dM_tell_62 ?_
              refine lv_i2l hx hb dM_tell_63 rfl ?_
              exact kk_lret hx hb hr hlocks hP hK hS ⟨hf.symm, hw⟩ dM_tell_64
          · rw [if_pos c_41] at hf
            refine lv_aload_n hx hb dM_tell_44 rfl (lv_at hl 0 rfl) ?_
            refine va_get (D := (dC, dI)) (ci := 3) (v := .ref (ad 1)) (C := R_M) (T := T_M) (N := 23) hx hb hts uw_M hown hK hP 0 rfl rfl 4 (by decide) (hts _ (List.mem_cons_of_mem _ wd_335)) (fun _ h9 => h9) rfl dM_tell_45 ?_
            refine lv_iload_n hx hb dM_tell_48 rfl (lv_at hl 1 rfl) ?_
            refine va_iald hx hb hK hP 1 0 rfl rfl (km_in (by decide) c_7) dM_tell_49 ?_
            refine lv_i2l hx hb dM_tell_50 rfl ?_
            exact kk_lret hx hb hr hlocks hP hK hS ⟨hf.symm, hw⟩ dM_tell_51
        · rw [if_pos c_25] at hf
          refine lv_iload_n hx hb dM_tell_28 rfl (lv_at hl 2 rfl) ?_
          refine lv_if_le (tgt := 36) hx hb dM_tell_29 (by decide) (fun c_29 => ?_) (fun c_29 => ?_)
          · rw [if_pos c_29] at hf
            refine lv_aload_n hx hb dM_tell_36 rfl (lv_at hl 0 rfl) ?_
            refine kk_cv (w := km_w ad cs) (As := []) (rest := []) ⟨hx, hb, hml, hown, hts⟩ (mc_weigh l dC dI ad cs hj μ hw  ) (cwV 0 hts gv_M_85 rfl rfl rfl (by decide +kernel) ⟨Nat.le_of_ble_eq_true rfl, Nat.le_of_ble_eq_true rfl⟩) (va_recv hK hP (ci := 3) (q0 := 0) rfl rfl) hP hK hS (fun _ h9 => h9) rfl hl.1 rfl (Nat.le_of_ble_eq_true rfl) dM_tell_37 ⟨Nat.zero_le _, Nat.zero_le _⟩ (fun s2 H locs hq hP hS => ?_)
            obtain ⟨h2, hw⟩ := hq
            rw [kk_v_eq h2] at hf
            refine lv_iload_n hx hb dM_tell_40 rfl (lv_at hl 2 rfl) ?_
            refine lv_if_ne (tgt := 52) hx hb dM_tell_41 (by decide) (fun c_41 => ?_) (fun c_41 => ?_)
            · rw [if_neg c_41] at hf
              refine lv_iload_n hx hb dM_tell_52 rfl (lv_at hl 2 rfl) ?_
              refine lv_iconst (v := 1) hx hb dM_tell_53 (by decide) ?_
              refine lv_icmp_ne (tgt := 65) hx hb dM_tell_54 (by decide) (fun c_54 => ?_) (fun c_54 => ?_)
              · rw [if_neg c_54] at hf
                refine lv_iload_n hx hb dM_tell_65 rfl (lv_at hl 2 rfl) ?_
                refine lv_iconst (v := 2) hx hb dM_tell_66 (by decide) ?_
                refine lv_icmp_ne (tgt := 78) hx hb dM_tell_67 (by decide) (fun c_67 => ?_) (fun c_67 => ?_)
                · rw [if_neg c_67] at hf
                  refine lv_iload_n hx hb dM_tell_78 rfl (lv_at hl 2 rfl) ?_
                  refine lv_iconst (v := 3) hx hb dM_tell_79 (by decide) ?_
                  refine lv_icmp_ne (tgt := 91) hx hb dM_tell_80 (by decide) (fun c_80 => ?_) (fun c_80 => ?_)
                  · rw [if_neg c_80] at hf
                    refine lv_iload_n hx hb dM_tell_91 rfl (lv_at hl 2 rfl) ?_
                    refine lv_iconst (v := 4) hx hb dM_tell_92 (by decide) ?_
                    refine lv_icmp_ne (tgt := 118) hx hb dM_tell_93 (by decide) (fun c_93 => ?_) (fun c_93 => ?_)
                    · rw [if_neg c_93] at hf
                      refine lv_aload_n hx hb dM_tell_118 rfl (lv_at hl 0 rfl) ?_
                      refine va_get (D := (dC, dI)) (ci := 3) (v := .ref (ad 1)) (C := R_M) (T := T_M) (N := 23) hx hb hts uw_M hown hK hP 0 rfl rfl 4 (by decide) (hts _ (List.mem_cons_of_mem _ wd_335)) (fun _ h9 => h9) rfl dM_tell_119 ?_
                      refine lv_iload_n hx hb dM_tell_122 rfl (lv_at hl 1 rfl) ?_
                      refine va_iald hx hb hK hP 1 0 rfl rfl (km_in (by decide) c_7) dM_tell_123 ?_
                      refine lv_iconst (v := 2) hx hb dM_tell_124 (by decide) ?_
                      refine lv_icmp_ne (tgt := 147) hx hb dM_tell_125 (by decide) (fun c_125 => ?_) (fun c_125 => ?_)
                      · rw [if_neg c_125] at hf
                        refine lv_ldc2 (v := 1000000000000) hx hb hown (hts _ (List.mem_cons_of_mem _ wd_511)) dM_tell_147 ?_
                        exact kk_lret hx hb hr hlocks hP hK hS ⟨hf.symm, hw⟩ dM_tell_150
                      · rw [if_pos c_125] at hf
                        refine lv_aload_n hx hb dM_tell_128 rfl (lv_at hl 0 rfl) ?_
                        refine va_get (D := (dC, dI)) (ci := 3) (v := .ref (ad 7)) (C := R_M) (T := T_M) (N := 23) hx hb hts uw_M hown hK hP 0 rfl rfl 10 (by decide) (hts _ (List.mem_cons_of_mem _ wd_341)) (fun _ h9 => h9) rfl dM_tell_129 ?_
                        refine lv_iload_n hx hb dM_tell_132 rfl (lv_at hl 1 rfl) ?_
                        refine va_iald hx hb hK hP 7 6 rfl rfl (km_in (by decide) c_7) dM_tell_133 ?_
                        refine lv_if_le (tgt := 147) hx hb dM_tell_134 (by decide) (fun c_134 => ?_) (fun c_134 => ?_)
                        · rw [if_pos c_134] at hf
                          refine lv_ldc2 (v := 1000000000000) hx hb hown (hts _ (List.mem_cons_of_mem _ wd_511)) dM_tell_147 ?_
                          exact kk_lret hx hb hr hlocks hP hK hS ⟨hf.symm, hw⟩ dM_tell_150
                        · rw [if_neg c_134] at hf
                          refine lv_aload_n hx hb dM_tell_137 rfl (lv_at hl 0 rfl) ?_
                          refine va_get (D := (dC, dI)) (ci := 3) (v := .ref (ad 7)) (C := R_M) (T := T_M) (N := 23) hx hb hts uw_M hown hK hP 0 rfl rfl 10 (by decide) (hts _ (List.mem_cons_of_mem _ wd_341)) (fun _ h9 => h9) rfl dM_tell_138 ?_
                          refine lv_iload_n hx hb dM_tell_141 rfl (lv_at hl 1 rfl) ?_
                          refine va_iald hx hb hK hP 7 6 rfl rfl (km_in (by decide) c_7) dM_tell_142 ?_
                          refine lv_i2l hx hb dM_tell_143 rfl ?_
                          refine lv_goto (tgt := 150) hx hb dM_tell_144 (by decide) ?_
                          exact kk_lret hx hb hr hlocks hP hK hS ⟨hf.symm, hw⟩ dM_tell_150
                    · rw [if_pos c_93] at hf
                      refine lv_aload_n hx hb dM_tell_96 rfl (lv_at hl 0 rfl) ?_
                      refine va_get (D := (dC, dI)) (ci := 3) (v := .ref (ad 1)) (C := R_M) (T := T_M) (N := 23) hx hb hts uw_M hown hK hP 0 rfl rfl 4 (by decide) (hts _ (List.mem_cons_of_mem _ wd_335)) (fun _ h9 => h9) rfl dM_tell_97 ?_
                      refine lv_iload_n hx hb dM_tell_100 rfl (lv_at hl 1 rfl) ?_
                      refine va_iald hx hb hK hP 1 0 rfl rfl (km_in (by decide) c_7) dM_tell_101 ?_
                      refine lv_iconst (v := 2) hx hb dM_tell_102 (by decide) ?_
                      refine lv_icmp_ne (tgt := 116) hx hb dM_tell_103 (by decide) (fun c_103 => ?_) (fun c_103 => ?_)
                      · rw [if_neg c_103] at hf
                        refine lv_lconst (v := 0) hx hb dM_tell_116 (by decide) ?_
                        exact kk_lret hx hb hr hlocks hP hK hS ⟨hf.symm, hw⟩ dM_tell_117
                      · rw [if_pos c_103] at hf
                        refine lv_aload_n hx hb dM_tell_106 rfl (lv_at hl 0 rfl) ?_
                        refine va_get (D := (dC, dI)) (ci := 3) (v := .ref (ad 5)) (C := R_M) (T := T_M) (N := 23) hx hb hts uw_M hown hK hP 0 rfl rfl 8 (by decide) (hts _ (List.mem_cons_of_mem _ wd_339)) (fun _ h9 => h9) rfl dM_tell_107 ?_
                        refine lv_iload_n hx hb dM_tell_110 rfl (lv_at hl 1 rfl) ?_
                        refine va_iald hx hb hK hP 5 4 rfl rfl (km_in (by decide) c_7) dM_tell_111 ?_
                        refine lv_i2l hx hb dM_tell_112 rfl ?_
                        refine lv_goto (tgt := 117) hx hb dM_tell_113 (by decide) ?_
                        exact kk_lret hx hb hr hlocks hP hK hS ⟨hf.symm, hw⟩ dM_tell_117
                  · rw [if_pos c_80] at hf
                    refine lv_aload_n hx hb dM_tell_83 rfl (lv_at hl 0 rfl) ?_
                    refine va_get (D := (dC, dI)) (ci := 3) (v := .ref (ad 8)) (C := R_M) (T := T_M) (N := 23) hx hb hts uw_M hown hK hP 0 rfl rfl 11 (by decide) (hts _ (List.mem_cons_of_mem _ wd_342)) (fun _ h9 => h9) rfl dM_tell_84 ?_
                    refine lv_iload_n hx hb dM_tell_87 rfl (lv_at hl 1 rfl) ?_
                    refine va_iald hx hb hK hP 8 7 rfl rfl (km_in (by decide) c_7) dM_tell_88 ?_
                    refine lv_i2l hx hb dM_tell_89 rfl ?_
                    exact kk_lret hx hb hr hlocks hP hK hS ⟨hf.symm, hw⟩ dM_tell_90
                · rw [if_pos c_67] at hf
                  refine lv_aload_n hx hb dM_tell_70 rfl (lv_at hl 0 rfl) ?_
                  refine va_get (D := (dC, dI)) (ci := 3) (v := .ref (ad 19)) (C := R_M) (T := T_M) (N := 23) hx hb hts uw_M hown hK hP 0 rfl rfl 22 (by decide) (hts _ (List.mem_cons_of_mem _ wd_353)) (fun _ h9 => h9) rfl dM_tell_71 ?_
                  refine lv_iload_n hx hb dM_tell_74 rfl (lv_at hl 1 rfl) ?_
                  refine va_iald hx hb hK hP 19 18 rfl rfl (km_in (by decide) c_7) dM_tell_75 ?_
                  refine lv_i2l hx hb dM_tell_76 rfl ?_
                  exact kk_lret hx hb hr hlocks hP hK hS ⟨hf.symm, hw⟩ dM_tell_77
              · rw [if_pos c_54] at hf
                refine lv_aload_n hx hb dM_tell_57 rfl (lv_at hl 0 rfl) ?_
                refine va_get (D := (dC, dI)) (ci := 3) (v := .ref (ad 2)) (C := R_M) (T := T_M) (N := 23) hx hb hts uw_M hown hK hP 0 rfl rfl 5 (by decide) (hts _ (List.mem_cons_of_mem _ wd_336)) (fun _ h9 => h9) rfl dM_tell_58 ?_
                refine lv_iload_n hx hb dM_tell_61 rfl (lv_at hl 1 rfl) ?_
                refine va_iald hx hb hK hP 2 1 rfl rfl (km_in (by decide) c_7) dM_tell_62 ?_
                refine lv_i2l hx hb dM_tell_63 rfl ?_
                exact kk_lret hx hb hr hlocks hP hK hS ⟨hf.symm, hw⟩ dM_tell_64
            · rw [if_pos c_41] at hf
              refine lv_aload_n hx hb dM_tell_44 rfl (lv_at hl 0 rfl) ?_
              refine va_get (D := (dC, dI)) (ci := 3) (v := .ref (ad 1)) (C := R_M) (T := T_M) (N := 23) hx hb hts uw_M hown hK hP 0 rfl rfl 4 (by decide) (hts _ (List.mem_cons_of_mem _ wd_335)) (fun _ h9 => h9) rfl dM_tell_45 ?_
              refine lv_iload_n hx hb dM_tell_48 rfl (lv_at hl 1 rfl) ?_
              refine va_iald hx hb hK hP 1 0 rfl rfl (km_in (by decide) c_7) dM_tell_49 ?_
              refine lv_i2l hx hb dM_tell_50 rfl ?_
              exact kk_lret hx hb hr hlocks hP hK hS ⟨hf.symm, hw⟩ dM_tell_51
          · rw [if_neg c_29] at hf
            refine lv_ldc2 (v := 1000000000000) hx hb hown (hts _ (List.mem_cons_of_mem _ wd_511)) dM_tell_32 ?_
            exact kk_lret hx hb hr hlocks hP hK hS ⟨hf.symm, hw⟩ dM_tell_35
set_option maxHeartbeats 4000000 in
set_option maxRecDepth 100000 in
theorem mc_owner (l : Launch) (dC : Nat → ClassId) (dI : Nat → Nat → Nat) (ad : Nat → Nat) (cs : Nat → ClassId) (hj : km_inj ad) (μ : km_S) (hw : km_wf μ) (m1 : Int32) : Met l y_M_owner ws_M_owner ({ frames := 1, cells := 0, slots := 0, locals := 22 }) (kk_Pc (dC, dI) vwCl (km_t cs) (km_w ad cs μ) [.ref (ad 0), .int m1]) (va_Qi (km_pi (mf_owner μ m1)) (kk_B (dC, dI) vwCl (km_t cs) (km_w ad cs)) (km_A ad)) 0 0 (km_A ad) := by
  refine Met.ofW (cc := b_M_owner) (maxL := 2) (ret := (some .int)) (by decide) rfl ?_
  intro p e s m args below meth c s₁ B hml hv
  obtain ⟨rfl, hP, hK⟩ := hv
  have hx := B.exec
  have hb := B.bytes
  have hr := B.returns
  have hts := atoms_spec (ws := ws_M_owner) B.pre
  have hown : s.vm.findClass R_M = some m.cls := findClass_of_methodNamed B.named
  have hlocks := B.notSynchronized
  have hS : va_S (km_A ad) s.heap s.heap [] := va_S.rf
  generalize hf : mf_owner μ m1 = out
  have hl := lv_entry ([.ref (ad 0), .int m1]) (n := 2) (Nat.le_of_ble_eq_true rfl)
  rw [lg_entry_eq]
  generalize (lg_sl ([.ref (ad 0), .int m1]) ++ List.replicate (2 - (lg_sl ([.ref (ad 0), .int m1])).length) Slot.unset).toArray = ls at hl ⊢
  have hl : lv_has ls 2 [(0, .ref (ad 0)), (1, .int m1)] := hl
  rw [mf_owner] at hf
  refine lv_aload_n hx hb dM_owner_0 rfl (lv_at hl 0 rfl) ?_
  refine lv_iload_n hx hb dM_owner_1 rfl (lv_at hl 1 rfl) ?_
  refine lv_iconst (v := 4) hx hb dM_owner_2 (by decide) ?_
  refine kk_cp (r0 := mf_out m1 4) (w := km_w ad cs) (As := [.int m1, .int 4]) (rest := []) ⟨hx, hb, hml, hown, hts⟩ (mc_out l (ad 0) m1 4) (cwV 2 hts gv_M_100 rfl rfl rfl (by decide +kernel) ⟨Nat.le_of_ble_eq_true rfl, Nat.le_of_ble_eq_true rfl⟩) (va_recv hK hP (ci := 3) (q0 := 0) rfl rfl) hP hS rfl hl.1 rfl (Nat.le_of_ble_eq_true rfl) dM_owner_3 ⟨Nat.zero_le _, Nat.zero_le _⟩ (fun H locs hP hS => ?_)
  refine lv_if_eq (tgt := 13) hx hb dM_owner_6 (by decide) (fun c_6 => ?_) (fun c_6 => ?_)
  · rw [if_pos c_6] at hf
    refine lv_aload_n hx hb dM_owner_13 rfl (lv_at hl 0 rfl) ?_
    refine va_get (D := (dC, dI)) (ci := 3) (v := .ref (ad 14)) (C := R_M) (T := T_M) (N := 23) hx hb hts uw_M hown hK hP 0 rfl rfl 17 (by decide) (hts _ (List.mem_cons_of_mem _ wd_348)) (fun _ h9 => h9) rfl dM_owner_14 ?_
    refine lv_iload_n hx hb dM_owner_17 rfl (lv_at hl 1 rfl) ?_
    refine va_iald hx hb hK hP 14 13 rfl rfl (km_in (by decide) c_6) dM_owner_18 ?_
    exact kk_iret hx hb hr hlocks hP hK hS ⟨hf.symm, hw⟩ dM_owner_19
  · rw [if_neg c_6] at hf
    refine lv_iconst (v := (-1)) hx hb dM_owner_9 (by decide) ?_
    refine lv_goto (tgt := 19) hx hb dM_owner_10 (by decide) ?_
    exact kk_iret hx hb hr hlocks hP hK hS ⟨hf.symm, hw⟩ dM_owner_19
set_option maxHeartbeats 4000000 in
set_option maxRecDepth 100000 in
theorem mc_count (l : Launch) (dC : Nat → ClassId) (dI : Nat → Nat → Nat) (ad : Nat → Nat) (cs : Nat → ClassId) (hj : km_inj ad) (μ : km_S) (hw : km_wf μ) (what : Int32) : Met l y_M_count ws_M_count ({ frames := 0, cells := 0, slots := 0, locals := 0 }) (kk_Pc (dC, dI) vwCl (km_t cs) (km_w ad cs μ) [.ref (ad 0), .int what]) (va_Qi (km_pi (mf_count μ what)) (kk_B (dC, dI) vwCl (km_t cs) (km_w ad cs)) (km_A ad)) 0 0 (km_A ad) := by
  refine Met.ofW (cc := b_M_count) (maxL := 4) (ret := (some .int)) (by decide) rfl ?_
  intro p e s m args below meth c s₁ B hml hv
  obtain ⟨rfl, hP, hK⟩ := hv
  have hx := B.exec
  have hb := B.bytes
  have hr := B.returns
  have hts := atoms_spec (ws := ws_M_count) B.pre
  have hown : s.vm.findClass R_M = some m.cls := findClass_of_methodNamed B.named
  have hlocks := B.notSynchronized
  have hS : va_S (km_A ad) s.heap s.heap [] := va_S.rf
  generalize hf : mf_count μ what = out
  have hl := lv_entry ([.ref (ad 0), .int what]) (n := 4) (Nat.le_of_ble_eq_true rfl)
  rw [lg_entry_eq]
  generalize (lg_sl ([.ref (ad 0), .int what]) ++ List.replicate (4 - (lg_sl ([.ref (ad 0), .int what])).length) Slot.unset).toArray = ls at hl ⊢
  have hl : lv_has ls 4 [(0, .ref (ad 0)), (1, .int what)] := hl
  rw [mf_count] at hf
  have loop4 : ∀ (n k : Nat) (n2 : Int32) (μ : km_S) (H : Heap) (locs : List Loc) (ls : Array Slot), n + k = 8 → km_wf μ → mf_count_L4 what n k n2 μ = out → va_P (dC, dI) vwCl (km_w ad cs μ) H → va_S (km_A ad) s.heap H locs → lv_has ls 4 [(3, .int (nI k)), (2, .int n2), (0, .ref (ad 0)), (1, .int what)] → W p l e (headSpec ws_M_count ({ frames := 0, cells := 0, slots := 0, locals := 0 })).room s m ([.ref (ad 0), .int what] : List Value).toArray below meth c H locs 0 0 (MQ below (va_Qi (km_pi out) (kk_B (dC, dI) vwCl (km_t cs) (km_w ad cs)) (km_A ad)) ([.ref (ad 0), .int what] : List Value).toArray s 0 0 (km_A ad)) (F0 m 4 ls []) := by
    clear hf hl hP hS hw
    intro n
    induction n with
    | zero =>
      intro k n2 μ H locs ls hnk hw hf hP hS hl
      have hk : k = 8 := by omega
      rw [mf_count_L4] at hf
      have hl : lv_has ls 4 [(3, .int (nI k)), (2, .int n2), (0, .ref (ad 0)), (1, .int what)] := hl
      refine lv_iload_n hx hb dM_count_4 rfl (lv_at hl 0 rfl) ?_
      refine lv_bipush (v := 8) hx hb dM_count_5 (by decide) ?_
      refine lv_icmp_ge (tgt := 29) hx hb dM_count_7 (by decide) (fun _ => ?_) (fun c9 => absurd (by rw [hk]; decide) c9)
      refine lv_iload_n hx hb dM_count_29 rfl (lv_at hl 3 rfl) ?_
      refine lv_if_eq (tgt := 38) hx hb dM_count_30 (by decide) (fun c_30 => ?_) (fun c_30 => ?_)
      · rw [if_pos c_30] at hf
        refine lv_aload_n hx hb dM_count_38 rfl (lv_at hl 2 rfl) ?_
        refine va_get (D := (dC, dI)) (ci := 3) (v := .ref (ad 15)) (C := R_M) (T := T_M) (N := 23) hx hb hts uw_M hown hK hP 0 rfl rfl 18 (by decide) (hts _ (List.mem_cons_of_mem _ wd_349)) (fun _ h9 => h9) rfl dM_count_39 ?_
        refine lv_iload_n hx hb dM_count_42 rfl (lv_at hl 3 rfl) ?_
        refine va_iald hx hb hK hP 15 14 rfl rfl (by rw [c_30]; exact kk_inl (by decide)) dM_count_43 ?_
        refine lv_goto (tgt := 90) hx hb dM_count_44 (by decide) ?_
        exact kk_iret hx hb hr hlocks hP hK hS ⟨hf.symm, hw⟩ dM_count_90
      · rw [if_neg c_30] at hf
        refine lv_iload_n hx hb dM_count_33 rfl (lv_at hl 3 rfl) ?_
        refine lv_iconst (v := 1) hx hb dM_count_34 (by decide) ?_
        refine lv_icmp_ne (tgt := 47) hx hb dM_count_35 (by decide) (fun c_35 => ?_) (fun c_35 => ?_)
        · rw [if_neg c_35] at hf
          refine lv_iload_n hx hb dM_count_47 rfl (lv_at hl 3 rfl) ?_
          refine lv_iconst (v := 2) hx hb dM_count_48 (by decide) ?_
          refine lv_icmp_eq (tgt := 57) hx hb dM_count_49 (by decide) (fun c_49 => ?_) (fun c_49 => ?_)
          · rw [if_pos c_49] at hf
            refine lv_aload_n hx hb dM_count_57 rfl (lv_at hl 2 rfl) ?_
            refine va_get (D := (dC, dI)) (ci := 3) (v := .ref (ad 16)) (C := R_M) (T := T_M) (N := 23) hx hb hts uw_M hown hK hP 0 rfl rfl 19 (by decide) (hts _ (List.mem_cons_of_mem _ wd_350)) (fun _ h9 => h9) rfl dM_count_58 ?_
            refine lv_iload_n hx hb dM_count_61 rfl (lv_at hl 3 rfl) ?_
            refine lv_iconst (v := 2) hx hb dM_count_62 (by decide) ?_
            refine lv_isub hx hb dM_count_63 ?_
            refine va_iald hx hb hK hP 16 15 rfl rfl (by rw [c_49]; exact kk_inl (by decide)) dM_count_64 ?_
            refine lv_goto (tgt := 90) hx hb dM_count_65 (by decide) ?_
            exact kk_iret hx hb hr hlocks hP hK hS ⟨hf.symm, hw⟩ dM_count_90
          · rw [if_neg c_49] at hf
            refine lv_iload_n hx hb dM_count_52 rfl (lv_at hl 3 rfl) ?_
            refine lv_iconst (v := 3) hx hb dM_count_53 (by decide) ?_
            refine lv_icmp_ne (tgt := 68) hx hb dM_count_54 (by decide) (fun c_54 => ?_) (fun c_54 => ?_)
            · rw [if_neg c_54] at hf
              refine lv_iload_n hx hb dM_count_68 rfl (lv_at hl 3 rfl) ?_
              refine lv_iconst (v := 4) hx hb dM_count_69 (by decide) ?_
              refine lv_icmp_ne (tgt := 80) hx hb dM_count_70 (by decide) (fun c_70 => ?_) (fun c_70 => ?_)
              · rw [if_neg c_70] at hf
                refine lv_iload_n hx hb dM_count_80 rfl (lv_at hl 3 rfl) ?_
                refine lv_iconst (v := 5) hx hb dM_count_81 (by decide) ?_
                refine lv_icmp_ne (tgt := 89) hx hb dM_count_82 (by decide) (fun c_82 => ?_) (fun c_82 => ?_)
                · rw [if_neg c_82] at hf
                  refine lv_iconst (v := (-1)) hx hb dM_count_89 (by decide) ?_
                  exact kk_iret hx hb hr hlocks hP hK hS ⟨hf.symm, hw⟩ dM_count_90
                · rw [if_pos c_82] at hf
                  refine lv_iload_n hx hb dM_count_85 rfl (lv_at hl 1 rfl) ?_
                  refine lv_goto (tgt := 90) hx hb dM_count_86 (by decide) ?_
                  exact kk_iret hx hb hr hlocks hP hK hS ⟨hf.symm, hw⟩ dM_count_90
              · rw [if_pos c_70] at hf
                refine lv_aload_n hx hb dM_count_73 rfl (lv_at hl 2 rfl) ?_
                refine va_get (D := (dC, dI)) (ci := 3) (v := .int (mI μ 2 0)) (C := R_M) (T := T_M) (N := 23) hx hb hts uw_M hown hK hP 0 rfl rfl 2 (by decide) (hts _ (List.mem_cons_of_mem _ wd_333)) (fun _ h9 => h9) rfl dM_count_74 ?_
                refine lv_goto (tgt := 90) hx hb dM_count_77 (by decide) ?_
                exact kk_iret hx hb hr hlocks hP hK hS ⟨hf.symm, hw⟩ dM_count_90
            · rw [if_pos c_54] at hf
              refine lv_aload_n hx hb dM_count_57 rfl (lv_at hl 2 rfl) ?_
              refine va_get (D := (dC, dI)) (ci := 3) (v := .ref (ad 16)) (C := R_M) (T := T_M) (N := 23) hx hb hts uw_M hown hK hP 0 rfl rfl 19 (by decide) (hts _ (List.mem_cons_of_mem _ wd_350)) (fun _ h9 => h9) rfl dM_count_58 ?_
              refine lv_iload_n hx hb dM_count_61 rfl (lv_at hl 3 rfl) ?_
              refine lv_iconst (v := 2) hx hb dM_count_62 (by decide) ?_
              refine lv_isub hx hb dM_count_63 ?_
              refine va_iald hx hb hK hP 16 15 rfl rfl (by rw [c_54]; exact kk_inl (by decide)) dM_count_64 ?_
              refine lv_goto (tgt := 90) hx hb dM_count_65 (by decide) ?_
              exact kk_iret hx hb hr hlocks hP hK hS ⟨hf.symm, hw⟩ dM_count_90
        · rw [if_pos c_35] at hf
          refine lv_aload_n hx hb dM_count_38 rfl (lv_at hl 2 rfl) ?_
          refine va_get (D := (dC, dI)) (ci := 3) (v := .ref (ad 15)) (C := R_M) (T := T_M) (N := 23) hx hb hts uw_M hown hK hP 0 rfl rfl 18 (by decide) (hts _ (List.mem_cons_of_mem _ wd_349)) (fun _ h9 => h9) rfl dM_count_39 ?_
          refine lv_iload_n hx hb dM_count_42 rfl (lv_at hl 3 rfl) ?_
          refine va_iald hx hb hK hP 15 14 rfl rfl (by rw [c_35]; exact kk_inl (by decide)) dM_count_43 ?_
          refine lv_goto (tgt := 90) hx hb dM_count_44 (by decide) ?_
          exact kk_iret hx hb hr hlocks hP hK hS ⟨hf.symm, hw⟩ dM_count_90
    | succ n ih =>
      intro k n2 μ H locs ls hnk hw hf hP hS hl
      have hk : k < 8 := by omega
      rw [mf_count_L4] at hf
      have hl : lv_has ls 4 [(3, .int (nI k)), (2, .int n2), (0, .ref (ad 0)), (1, .int what)] := hl
      refine lv_iload_n hx hb dM_count_4 rfl (lv_at hl 0 rfl) ?_
      refine lv_bipush (v := 8) hx hb dM_count_5 (by decide) ?_
      refine lv_icmp_ge (tgt := 29) hx hb dM_count_7 (by decide) (fun c9 => absurd c9 (kk_stay hk (by decide))) (fun _ => ?_)
      refine lv_aload_n hx hb dM_count_10 rfl (lv_at hl 2 rfl) ?_
      refine va_get (D := (dC, dI)) (ci := 3) (v := .ref (ad 1)) (C := R_M) (T := T_M) (N := 23) hx hb hts uw_M hown hK hP 0 rfl rfl 4 (by decide) (hts _ (List.mem_cons_of_mem _ wd_335)) (fun _ h9 => h9) rfl dM_count_11 ?_
      refine lv_iload_n hx hb dM_count_14 rfl (lv_at hl 0 rfl) ?_
      refine va_iald hx hb hK hP 1 0 rfl rfl (vp_in_nI (by omega) (by decide)) dM_count_15 ?_
      rw [nI_clamp (n := k) (by omega)]
      refine lv_iconst (v := 1) hx hb dM_count_16 (by decide) ?_
      refine lv_icmp_ne (tgt := 23) hx hb dM_count_17 (by decide) (fun c_17 => ?_) (fun c_17 => ?_)
      · rw [if_neg c_17] at hf
        refine lv_iinc (v := nI (k + 1)) (lv' := [(3, .int (nI (k + 1))), (2, .int n2), (0, .ref (ad 0)), (1, .int what)]) hx hb dM_count_23 hl (k := 0) rfl (nI_1 _) (by decide) rfl (fun ls hl => ?_)
        refine lv_goto (tgt := 4) hx hb dM_count_26 (by decide) ?_
        exact ih (k + 1) n2 _ _ _ ls (by omega) hw  hf hP hS (lv_sub hl [0, 1, 2, 3] rfl)
      · rw [if_pos c_17] at hf
        refine lv_iinc (v := n2 + 1) (lv' := [(2, .int (n2 + 1)), (3, .int (nI k)), (0, .ref (ad 0)), (1, .int what)]) hx hb dM_count_20 hl (k := 1) rfl rfl (by decide) rfl (fun ls hl => ?_)
        refine lv_iinc (v := nI (k + 1)) (lv' := [(3, .int (nI (k + 1))), (2, .int (n2 + 1)), (0, .ref (ad 0)), (1, .int what)]) hx hb dM_count_23 hl (k := 1) rfl (nI_1 _) (by decide) rfl (fun ls hl => ?_)
        refine lv_goto (tgt := 4) hx hb dM_count_26 (by decide) ?_
        exact ih (k + 1) (n2 + 1) _ _ _ ls (by omega) hw  hf hP hS (lv_sub hl [0, 1, 2, 3] rfl)
  refine lv_iconst (v := 0) hx hb dM_count_0 (by decide) ?_
  refine lv_istore_n (lv' := [(2, .int 0), (0, .ref (ad 0)), (1, .int what)]) hx hb dM_count_1 rfl hl (by decide) rfl (fun ls hl => ?_)
  refine lv_iconst (v := 0) hx hb dM_count_2 (by decide) ?_
  refine lv_istore_n (lv' := [(3, .int 0), (2, .int 0), (0, .ref (ad 0)), (1, .int what)]) hx hb dM_count_3 rfl hl (by decide) rfl (fun ls hl => ?_)
  exact loop4 8 0 0 _ _ _ ls (by omega) hw  hf hP hS (lv_sub hl [0, 1, 2, 3] rfl)
