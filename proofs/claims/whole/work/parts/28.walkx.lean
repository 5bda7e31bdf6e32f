set_option maxHeartbeats 4000000 in
set_option maxRecDepth 100000 in
theorem xc_owner (l : Launch) (dC : Nat → ClassId) (dI : Nat → Nat → Nat) (ad : Nat → Nat) (cs : Nat → ClassId) (hj : kx_inj ad) (σ : kx_S) (hw : kx_wf σ) (m1 : Int32) : Met l y_X_owner ws_X_owner ({ frames := 1, cells := 0, slots := 0, locals := 21 }) (kk_Pc (dC, dI) vwCl (kx_t cs) (kx_w ad cs σ) [.ref (ad 0), .int m1]) (va_Qi (kx_pi (xf_owner σ m1)) (kk_B (dC, dI) vwCl (kx_t cs) (kx_w ad cs)) (kx_A ad)) 0 0 (kx_A ad) := by
  refine Met.ofW (cc := b_X_owner) (maxL := 2) (ret := (some .int)) (by decide) rfl ?_
  intro p e s m args below meth c s₁ B hml hv
  obtain ⟨rfl, hP, hK⟩ := hv
  have hx := B.exec
  have hb := B.bytes
  have hr := B.returns
  have hts := atoms_spec (ws := ws_X_owner) B.pre
  have hown : s.vm.findClass R_X = some m.cls := findClass_of_methodNamed B.named
  have hlocks := B.notSynchronized
  have hS : va_S (kx_A ad) s.heap s.heap [] := va_S.rf
  generalize hf : xf_owner σ m1 = out
  have hl := lv_entry ([.ref (ad 0), .int m1]) (n := 2) (Nat.le_of_ble_eq_true rfl)
  rw [lg_entry_eq]
  generalize (lg_sl ([.ref (ad 0), .int m1]) ++ List.replicate (2 - (lg_sl ([.ref (ad 0), .int m1])).length) Slot.unset).toArray = ls at hl ⊢
  have hl : lv_has ls 2 [(0, .ref (ad 0)), (1, .int m1)] := hl
  rw [xf_owner] at hf
  refine lv_iload_n hx hb dX_owner_0 rfl (lv_at hl 1 rfl) ?_
  refine lv_iconst (v := 4) hx hb dX_owner_1 (by decide) ?_
  refine kk_cs (r0 := xf_isBelow m1 4) (w := kx_w ad cs) (As := [.int m1, .int 4]) (rest := []) ⟨hx, hb, hml, hown, hts⟩ (xc_isBelow l m1 4) (cwS 2 hts gs_X_77 rfl rfl rfl (by decide +kernel) ⟨Nat.le_of_ble_eq_true rfl, Nat.le_of_ble_eq_true rfl⟩) hP hS rfl hl.1 rfl (Nat.le_of_ble_eq_true rfl) dX_owner_2 ⟨Nat.zero_le _, Nat.zero_le _⟩ (fun H locs hP hS => ?_)
  refine lv_if_eq (tgt := 17) hx hb dX_owner_5 (by decide) (fun c_5 => ?_) (fun c_5 => ?_)
  · rw [if_pos c_5] at hf
    refine lv_iconst (v := (-1)) hx hb dX_owner_17 (by decide) ?_
    exact kk_iret hx hb hr hlocks hP hK hS ⟨hf.symm, hw⟩ dX_owner_18
  · rw [if_neg c_5] at hf
    refine lv_aload_n hx hb dX_owner_8 rfl (lv_at hl 0 rfl) ?_
    refine va_get (D := (dC, dI)) (ci := 2) (v := .ref (ad 2)) (C := R_X) (T := T_X) (N := 8) hx hb hts uw_X hown hK hP 0 rfl rfl 3 (by decide) (hts _ (List.mem_cons_of_mem _ wd_107)) (fun _ h9 => h9) rfl dX_owner_9 ?_
    refine lv_iload_n hx hb dX_owner_12 rfl (lv_at hl 1 rfl) ?_
    refine va_iald hx hb hK hP 2 1 rfl rfl (kx_in (by decide) c_5) dX_owner_13 ?_
    refine lv_goto (tgt := 18) hx hb dX_owner_14 (by decide) ?_
    exact kk_iret hx hb hr hlocks hP hK hS ⟨hf.symm, hw⟩ dX_owner_18
set_option maxHeartbeats 4000000 in
set_option maxRecDepth 100000 in
theorem xc_count (l : Launch) (dC : Nat → ClassId) (dI : Nat → Nat → Nat) (ad : Nat → Nat) (cs : Nat → ClassId) (hj : kx_inj ad) (σ : kx_S) (hw : kx_wf σ) (what : Int32) : Met l y_X_count ws_X_count ({ frames := 1, cells := 0, slots := 0, locals := 25 }) (kk_Pc (dC, dI) vwCl (kx_t cs) (kx_w ad cs σ) [.ref (ad 0), .int what]) (va_Qi (kx_pi (xf_count σ what)) (kk_B (dC, dI) vwCl (kx_t cs) (kx_w ad cs)) (kx_A ad)) 0 0 (kx_A ad) := by
  refine Met.ofW (cc := b_X_count) (maxL := 2) (ret := (some .int)) (by decide) rfl ?_
  intro p e s m args below meth c s₁ B hml hv
  obtain ⟨rfl, hP, hK⟩ := hv
  have hx := B.exec
  have hb := B.bytes
  have hr := B.returns
  have hts := atoms_spec (ws := ws_X_count) B.pre
  have hown : s.vm.findClass R_X = some m.cls := findClass_of_methodNamed B.named
  have hlocks := B.notSynchronized
  have hS : va_S (kx_A ad) s.heap s.heap [] := va_S.rf
  generalize hf : xf_count σ what = out
  have hl := lv_entry ([.ref (ad 0), .int what]) (n := 2) (Nat.le_of_ble_eq_true rfl)
  rw [lg_entry_eq]
  generalize (lg_sl ([.ref (ad 0), .int what]) ++ List.replicate (2 - (lg_sl ([.ref (ad 0), .int what])).length) Slot.unset).toArray = ls at hl ⊢
  have hl : lv_has ls 2 [(0, .ref (ad 0)), (1, .int what)] := hl
  rw [xf_count] at hf
  refine lv_iload_n hx hb dX_count_0 rfl (lv_at hl 1 rfl) ?_
  rcases Classical.em (what = 0) with c_1_0 | c_1_0
  · rw [if_pos c_1_0] at hf
    refine lv_tableIn (tgt := 40) hx hb dX_count_1 (by rw [c_1_0]; decide) (by rw [c_1_0]; decide) (by rw [c_1_0]; rfl) (by decide) ?_
    refine lv_aload_n hx hb dX_count_40 rfl (lv_at hl 0 rfl) ?_
    refine va_get (D := (dC, dI)) (ci := 2) (v := .ref (ad 3)) (C := R_X) (T := T_X) (N := 8) hx hb hts uw_X hown hK hP 0 rfl rfl 4 (by decide) (hts _ (List.mem_cons_of_mem _ wd_108)) (fun _ h9 => h9) rfl dX_count_41 ?_
    refine lv_iload_n hx hb dX_count_44 rfl (lv_at hl 1 rfl) ?_
    refine va_iald hx hb hK hP 3 2 rfl rfl (by rw [c_1_0]; exact kk_inl (by decide)) dX_count_45 ?_
    exact kk_iret hx hb hr hlocks hP hK hS ⟨hf.symm, hw⟩ dX_count_46
  · rw [if_neg c_1_0] at hf
    rcases Classical.em (what = 1) with c_1_1 | c_1_1
    · rw [if_pos c_1_1] at hf
      refine lv_tableIn (tgt := 40) hx hb dX_count_1 (by rw [c_1_1]; decide) (by rw [c_1_1]; decide) (by rw [c_1_1]; rfl) (by decide) ?_
      refine lv_aload_n hx hb dX_count_40 rfl (lv_at hl 0 rfl) ?_
      refine va_get (D := (dC, dI)) (ci := 2) (v := .ref (ad 3)) (C := R_X) (T := T_X) (N := 8) hx hb hts uw_X hown hK hP 0 rfl rfl 4 (by decide) (hts _ (List.mem_cons_of_mem _ wd_108)) (fun _ h9 => h9) rfl dX_count_41 ?_
      refine lv_iload_n hx hb dX_count_44 rfl (lv_at hl 1 rfl) ?_
      refine va_iald hx hb hK hP 3 2 rfl rfl (by rw [c_1_1]; exact kk_inl (by decide)) dX_count_45 ?_
      exact kk_iret hx hb hr hlocks hP hK hS ⟨hf.symm, hw⟩ dX_count_46
    · rw [if_neg c_1_1] at hf
      rcases Classical.em (what = 2) with c_1_2 | c_1_2
      · rw [if_pos c_1_2] at hf
        refine lv_tableIn (tgt := 47) hx hb dX_count_1 (by rw [c_1_2]; decide) (by rw [c_1_2]; decide) (by rw [c_1_2]; rfl) (by decide) ?_
        refine lv_aload_n hx hb dX_count_47 rfl (lv_at hl 0 rfl) ?_
        refine va_get (D := (dC, dI)) (ci := 2) (v := .ref (ad 4)) (C := R_X) (T := T_X) (N := 8) hx hb hts uw_X hown hK hP 0 rfl rfl 5 (by decide) (hts _ (List.mem_cons_of_mem _ wd_109)) (fun _ h9 => h9) rfl dX_count_48 ?_
        refine lv_iload_n hx hb dX_count_51 rfl (lv_at hl 1 rfl) ?_
        refine lv_iconst (v := 2) hx hb dX_count_52 (by decide) ?_
        refine lv_isub hx hb dX_count_53 ?_
        have hi_54 : vp_in (what - 2) 2 := (by rw [c_1_2]; exact kk_inl (by decide))
        have hq_54 : (what - 2).toNatClampNeg < 2 := kx_lt hi_54
        refine kx_ldQ hx hb hK hP hi_54 dX_count_54 ?_
        refine kx_gsize hx hb hts uw_Q hown hK hP hq_54 (hts _ (List.mem_cons_of_mem _ wd_96)) dX_count_55 ?_
        exact kk_iret hx hb hr hlocks hP hK hS ⟨hf.symm, hw⟩ dX_count_58
      · rw [if_neg c_1_2] at hf
        rcases Classical.em (what = 3) with c_1_3 | c_1_3
        · rw [if_pos c_1_3] at hf
          refine lv_tableIn (tgt := 47) hx hb dX_count_1 (by rw [c_1_3]; decide) (by rw [c_1_3]; decide) (by rw [c_1_3]; rfl) (by decide) ?_
          refine lv_aload_n hx hb dX_count_47 rfl (lv_at hl 0 rfl) ?_
          refine va_get (D := (dC, dI)) (ci := 2) (v := .ref (ad 4)) (C := R_X) (T := T_X) (N := 8) hx hb hts uw_X hown hK hP 0 rfl rfl 5 (by decide) (hts _ (List.mem_cons_of_mem _ wd_109)) (fun _ h9 => h9) rfl dX_count_48 ?_
          refine lv_iload_n hx hb dX_count_51 rfl (lv_at hl 1 rfl) ?_
          refine lv_iconst (v := 2) hx hb dX_count_52 (by decide) ?_
          refine lv_isub hx hb dX_count_53 ?_
          have hi_54 : vp_in (what - 2) 2 := (by rw [c_1_3]; exact kk_inl (by decide))
          have hq_54 : (what - 2).toNatClampNeg < 2 := kx_lt hi_54
          refine kx_ldQ hx hb hK hP hi_54 dX_count_54 ?_
          refine kx_gsize hx hb hts uw_Q hown hK hP hq_54 (hts _ (List.mem_cons_of_mem _ wd_96)) dX_count_55 ?_
          exact kk_iret hx hb hr hlocks hP hK hS ⟨hf.symm, hw⟩ dX_count_58
        · rw [if_neg c_1_3] at hf
          rcases Classical.em (what = 4) with c_1_4 | c_1_4
          · rw [if_pos c_1_4] at hf
            refine lv_tableIn (tgt := 59) hx hb dX_count_1 (by rw [c_1_4]; decide) (by rw [c_1_4]; decide) (by rw [c_1_4]; rfl) (by decide) ?_
            refine lv_aload_n hx hb dX_count_59 rfl (lv_at hl 0 rfl) ?_
            refine va_get (D := (dC, dI)) (ci := 2) (v := .int (kI σ 2 0)) (C := R_X) (T := T_X) (N := 8) hx hb hts uw_X hown hK hP 0 rfl rfl 6 (by decide) (hts _ (List.mem_cons_of_mem _ wd_110)) (fun _ h9 => h9) rfl dX_count_60 ?_
            exact kk_iret hx hb hr hlocks hP hK hS ⟨hf.symm, hw⟩ dX_count_63
          · rw [if_neg c_1_4] at hf
            rcases Classical.em (what = 5) with c_1_5 | c_1_5
            · rw [if_pos c_1_5] at hf
              refine lv_tableIn (tgt := 64) hx hb dX_count_1 (by rw [c_1_5]; decide) (by rw [c_1_5]; decide) (by rw [c_1_5]; rfl) (by decide) ?_
              refine lv_aload_n hx hb dX_count_64 rfl (lv_at hl 0 rfl) ?_
              refine kk_ci (w := kx_w ad cs) (As := []) (rest := []) ⟨hx, hb, hml, hown, hts⟩ (xc_readyThreads l dC dI ad cs hj σ hw  ) (cwV 0 hts gv_X_175 rfl rfl rfl (by decide +kernel) ⟨Nat.le_of_ble_eq_true rfl, Nat.le_of_ble_eq_true rfl⟩) (va_recv hK hP (ci := 2) (q0 := 0) rfl rfl) hP hK hS (fun _ h9 => h9) rfl hl.1 rfl (Nat.le_of_ble_eq_true rfl) dX_count_65 ⟨Nat.zero_le _, Nat.zero_le _⟩ (fun r1 s1 H locs hq hP hS => ?_)
              obtain ⟨h1, hw⟩ := hq
              rw [kk_b_eq h1] at hf
              exact kk_iret hx hb hr hlocks hP hK hS ⟨hf.symm, hw⟩ dX_count_68
            · rw [if_neg c_1_5] at hf
              refine lv_tableOut (tgt := 69) hx hb dX_count_1 (kk_tab (lo := 0) 6 (fun j hj => match j, hj with | 0, _ => kk_neI 0 (by decide) c_1_0 | 1, _ => kk_neI 1 (by decide) c_1_1 | 2, _ => kk_neI 2 (by decide) c_1_2 | 3, _ => kk_neI 3 (by decide) c_1_3 | 4, _ => kk_neI 4 (by decide) c_1_4 | 5, _ => kk_neI 5 (by decide) c_1_5 | k9 + 6, h9 => absurd h9 (by omega)) 5 (by decide)) (by decide) ?_
              refine lv_iconst (v := (-1)) hx hb dX_count_69 (by decide) ?_
              exact kk_iret hx hb hr hlocks hP hK hS ⟨hf.symm, hw⟩ dX_count_70
